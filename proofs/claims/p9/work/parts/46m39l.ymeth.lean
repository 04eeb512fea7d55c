/-! CONTRACTS of methods (printed by wip/gen/emit.py). -/
/- MixStageModel.tellLay (I)V -/
noncomputable def s_228 : vM := ([(3, 12, 285, 0), (0, 0, 1007, 0)], (9, 0, 0, 0), 1, 0, [(12, 11), (12, 13), (12, 14), (12, 15), (12, 16), (228, 0), (236, 0), (244, 0), (252, 0), (260, 0), (268, 0)])
def preb_228 (a0 a1 : Int) (h : gH) : Prop := PA h ∧ hV h 285 32 = hV h 285 18 ∧ hV h 285 18 ≤ 7 ∧ 7 * hV h 285 32 + hV h 294 ((hV h 285 32).toNat) ≤ hV h 285 33 ∧ hV h 285 33 ≤ 7 * hV h 285 32 + 6 ∧ (hV h 285 13 = 0 → hV h 285 15 = 0 → PW h) ∧ 16 * hV h 285 33 + hV h 296 ((hV h 285 33).toNat) ≤ a1 ∧ PQ h
def pre_228 : List Int → gH → Prop := fun xs h => match xs with
  | [a0, a1] => preb_228 a0 a1 h
  | _ => False
def postb_228 (a0 a1 : Int) (h0 h : gH) : Prop := PA h ∧ (hV h 285 13 = 0 → hV h 285 15 = 0 → PW h) ∧ hV h0 285 11 ≤ hV h 285 11 ∧ hV h0 285 11 + 1 ≤ hV h 285 11 + hV h 285 13 ∧ hV h0 285 13 ≤ hV h 285 13 ∧ hV h0 285 15 ≤ 6 * hV h 285 15 ∧ hV h0 285 15 ≤ 6 ∧ 0 ≤ hV h 300 ((a1).toNat) ∧ hV h 300 ((a1).toNat) ≤ 19 + 9999 * (hV h 285 13 + hV h 285 15) ∧ hV h 300 ((a1).toNat) ≤ 9999 ∧ hV h 301 ((a1).toNat) ≤ 7 + 9999 * (hV h 285 13 + hV h 285 15) ∧ hV h 301 ((a1).toNat) ≤ 9999 ∧ 1 - 9999 * (hV h 285 13 + hV h 285 15) ≤ hV h 305 ((6 * a1 + 4).toNat) ∧ 0 ≤ hV h 305 ((6 * a1 + 4).toNat) ∧ 0 ≤ hV h 305 ((6 * a1 + 5).toNat) ∧ hV h 305 ((6 * a1 + 5).toNat) ≤ 2 + 9999 * (hV h 285 13 + hV h 285 15)
def post_228 : List Int → gH → gH → Prop := fun xs h0 h => match xs with
  | [a0, a1] => postb_228 a0 a1 h0 h
  | _ => True
noncomputable def e_228 : vE := (228, s_228, pre_228, post_228)
noncomputable def L_228 : List vE := [e_216, e_219, e_220, e_223, e_229]
def cs_228 : List vC := [(113, [(0, (3, 12, 285, 0)), (1, (0, 0, 1007, 0))]), (144, [(0, (3, 12, 285, 0)), (1, (0, 0, 1007, 0))]), (176, [(0, (3, 12, 285, 0)), (1, (0, 0, 1007, 0))]), (231, [(0, (3, 12, 285, 0)), (1, (0, 0, 1007, 0))])]
def Ab_228_113 (a0 a1 x0 x1 : Int) (h0 h : gH) : Prop := x1 = a1 ∧ PA h ∧ (hV h 285 13 = 0 → hV h 285 15 = 0 → PW h) ∧ hV h0 285 11 ≤ hV h 285 11 ∧ hV h0 285 11 + 1 ≤ hV h 285 11 + hV h 285 13 ∧ hV h0 285 13 ≤ hV h 285 13 ∧ hV h0 285 15 ≤ 6 * hV h 285 15 ∧ hV h0 285 15 ≤ 6 ∧ 0 ≤ hV h 300 ((a1).toNat) ∧ hV h 300 ((a1).toNat) ≤ 19 + 9999 * (hV h 285 13 + hV h 285 15) ∧ hV h 300 ((a1).toNat) ≤ 9999 ∧ hV h 301 ((a1).toNat) ≤ 7 + 9999 * (hV h 285 13 + hV h 285 15) ∧ hV h 301 ((a1).toNat) ≤ 9999 ∧ 1 - 9999 * (hV h 285 13 + hV h 285 15) ≤ hV h 305 ((6 * a1 + 4).toNat) ∧ 0 ≤ hV h 305 ((6 * a1 + 4).toNat)
def mub_228_113 (a0 a1 x0 x1 : Int) (h0 h : gH) : Nat := 4
def Ab_228_144 (a0 a1 x0 x1 : Int) (h0 h : gH) : Prop := x1 = a1 ∧ PA h ∧ (hV h 285 13 = 0 → hV h 285 15 = 0 → PW h) ∧ hV h0 285 11 ≤ hV h 285 11 ∧ hV h0 285 11 + 1 ≤ hV h 285 11 + hV h 285 13 ∧ hV h0 285 13 ≤ hV h 285 13 ∧ hV h0 285 15 ≤ 6 * hV h 285 15 ∧ hV h0 285 15 ≤ 6 ∧ 0 ≤ hV h 300 ((a1).toNat) ∧ hV h 300 ((a1).toNat) ≤ 19 + 9999 * (hV h 285 13 + hV h 285 15) ∧ hV h 300 ((a1).toNat) ≤ 9999 ∧ hV h 301 ((a1).toNat) ≤ 7 + 9999 * (hV h 285 13 + hV h 285 15) ∧ hV h 301 ((a1).toNat) ≤ 9999 ∧ 1 - 9999 * (hV h 285 13 + hV h 285 15) ≤ hV h 305 ((6 * a1 + 4).toNat) ∧ 0 ≤ hV h 305 ((6 * a1 + 4).toNat)
def mub_228_144 (a0 a1 x0 x1 : Int) (h0 h : gH) : Nat := 3
def Ab_228_176 (a0 a1 x0 x1 : Int) (h0 h : gH) : Prop := x1 = a1 ∧ PA h ∧ (hV h 285 13 = 0 → hV h 285 15 = 0 → PW h) ∧ hV h0 285 11 ≤ hV h 285 11 ∧ hV h0 285 11 + 1 ≤ hV h 285 11 + hV h 285 13 ∧ hV h0 285 13 ≤ hV h 285 13 ∧ hV h0 285 15 ≤ 6 * hV h 285 15 ∧ hV h0 285 15 ≤ 6 ∧ 0 ≤ hV h 300 ((a1).toNat) ∧ hV h 300 ((a1).toNat) ≤ 19 + 9999 * (hV h 285 13 + hV h 285 15) ∧ hV h 300 ((a1).toNat) ≤ 9999 ∧ hV h 301 ((a1).toNat) ≤ 7 + 9999 * (hV h 285 13 + hV h 285 15) ∧ hV h 301 ((a1).toNat) ≤ 9999 ∧ 1 - 9999 * (hV h 285 13 + hV h 285 15) ≤ hV h 305 ((6 * a1 + 4).toNat) ∧ 0 ≤ hV h 305 ((6 * a1 + 4).toNat)
def mub_228_176 (a0 a1 x0 x1 : Int) (h0 h : gH) : Nat := 2
def Ab_228_231 (a0 a1 x0 x1 : Int) (h0 h : gH) : Prop := x1 = a1 ∧ PA h ∧ (hV h 285 13 = 0 → hV h 285 15 = 0 → PW h) ∧ hV h0 285 11 ≤ hV h 285 11 ∧ hV h0 285 11 + 1 ≤ hV h 285 11 + hV h 285 13 ∧ hV h0 285 13 ≤ hV h 285 13 ∧ hV h0 285 15 ≤ 6 * hV h 285 15 ∧ hV h0 285 15 ≤ 6 ∧ 0 ≤ hV h 300 ((a1).toNat) ∧ hV h 300 ((a1).toNat) ≤ 19 + 9999 * (hV h 285 13 + hV h 285 15) ∧ hV h 300 ((a1).toNat) ≤ 9999 ∧ hV h 301 ((a1).toNat) ≤ 7 + 9999 * (hV h 285 13 + hV h 285 15) ∧ hV h 301 ((a1).toNat) ≤ 9999 ∧ 1 - 9999 * (hV h 285 13 + hV h 285 15) ≤ hV h 305 ((6 * a1 + 4).toNat) ∧ 0 ≤ hV h 305 ((6 * a1 + 4).toNat)
def mub_228_231 (a0 a1 x0 x1 : Int) (h0 h : gH) : Nat := 1
def A_228 : Int → List Int → gH → gH → Prop := fun c xs h0 h => match c.toNat with
  | 113 => (match xs with
    | [a0, a1, x0, x1] => Ab_228_113 a0 a1 x0 x1 h0 h
    | _ => False)
  | 144 => (match xs with
    | [a0, a1, x0, x1] => Ab_228_144 a0 a1 x0 x1 h0 h
    | _ => False)
  | 176 => (match xs with
    | [a0, a1, x0, x1] => Ab_228_176 a0 a1 x0 x1 h0 h
    | _ => False)
  | 231 => (match xs with
    | [a0, a1, x0, x1] => Ab_228_231 a0 a1 x0 x1 h0 h
    | _ => False)
  | _ => True
def mu_228 : Int → List Int → gH → gH → Nat := fun c xs h0 h => match c.toNat with
  | 113 => 4
  | 144 => 3
  | 176 => 2
  | 231 => 1
  | _ => 0
set_option maxHeartbeats 20000000 in
theorem q_228_0 {n0 n1 n2 n3 n4 n5 n6 n7 : Int} {H0 H1 H2 H3 : gH} (f0 : n0 ≤ 1007) (f1 : 0 ≤ n0) (f2 : n1 = 285) (f3 : hWt T0 H0 ∧ preb_228 n1 n0 H0) (f4 : n2 = 300) (f5 : n2 = hV H0 (n1).toNat 26) (f6 : n3 = 0) (f7 : n4 = 19) (f8 : n5 ≤ 9999) (f9 : 0 ≤ n5) (f10 : (hLe T0 H0 H1 ∧ hFr s_223.2.2.2.2 H0 H1 ∧ ((0 : Int) = 0 → H1.length = H0.length) ∧ hWt T0 H1) ∧ postb_223 n5 n1 n3 n4 H0 H1) (f11 : hUpd H2 H1 n2 n0 n5) (f12 : n6 = 25) (f13 : (hLe T0 H2 H3 ∧ hFr s_220.2.2.2.2 H2 H3 ∧ ((0 : Int) = 0 → H3.length = H2.length) ∧ hWt T0 H3) ∧ postb_220 n1 n6 H2 H3) (f14 : n7 = 0) : preb_229 n1 n0 n7 H3 := by
  unfold preb_228 at f3
  unfold postb_223 at f10
  unfold postb_220 at f13
  unfold preb_229
  have e2 : hV H2 285 11 = hV H1 285 11 := (uPlace f11 285 11 (iS (show n2 = ((300 : Nat) : Int) from f4) rfl))
  have e4 : hV H2 285 13 = hV H1 285 13 := (uPlace f11 285 13 (iS (show n2 = ((300 : Nat) : Int) from f4) rfl))
  have e7 : hV H3 285 15 = hV H1 285 15 := ((f13.1.2.1.1 285 15 kF_220_285_15)).trans (uPlace f11 285 15 (iS (show n2 = ((300 : Nat) : Int) from f4) rfl))
  have e11 : hV H3 285 18 = hV H0 285 18 := ((f13.1.2.1.1 285 18 kF_220_285_18)).trans (((uPlace f11 285 18 (iS (show n2 = ((300 : Nat) : Int) from f4) rfl))).trans (f10.1.2.1.1 285 18 kF_223_285_18))
  have e15 : hV H3 285 32 = hV H0 285 32 := ((f13.1.2.1.1 285 32 kF_220_285_32)).trans (((uPlace f11 285 32 (iS (show n2 = ((300 : Nat) : Int) from f4) rfl))).trans (f10.1.2.1.1 285 32 kF_223_285_32))
  have e19 : hV H3 285 33 = hV H0 285 33 := ((f13.1.2.1.1 285 33 kF_220_285_33)).trans (((uPlace f11 285 33 (iS (show n2 = ((300 : Nat) : Int) from f4) rfl))).trans (f10.1.2.1.1 285 33 kF_223_285_33))
  have e23 : hV H3 285 64 = hV H0 285 64 := ((f13.1.2.1.1 285 64 kF_220_285_64)).trans (((uPlace f11 285 64 (iS (show n2 = ((300 : Nat) : Int) from f4) rfl))).trans (f10.1.2.1.1 285 64 kF_223_285_64))
  have e32 : hV H3 294 = hV H0 294 := (fRow f13.1.2.1 294 kR_220_294).trans ((uRowNe f11 294 (iS (show n2 = ((300 : Nat) : Int) from f4) rfl)).trans (fRow f10.1.2.1 294 kR_223_294))
  have e37 : hV H3 296 = hV H0 296 := (fRow f13.1.2.1 296 kR_220_296).trans ((uRowNe f11 296 (iS (show n2 = ((300 : Nat) : Int) from f4) rfl)).trans (fRow f10.1.2.1 296 kR_223_296))
  have e42 : hV H3 297 = hV H0 297 := (fRow f13.1.2.1 297 kR_220_297).trans ((uRowNe f11 297 (iS (show n2 = ((300 : Nat) : Int) from f4) rfl)).trans (fRow f10.1.2.1 297 kR_223_297))
  have e47 : hV H3 298 = hV H0 298 := (fRow f13.1.2.1 298 kR_220_298).trans ((uRowNe f11 298 (iS (show n2 = ((300 : Nat) : Int) from f4) rfl)).trans (fRow f10.1.2.1 298 kR_223_298))
  have e52 : hV H3 300 = (uF (hV H0 300) n0 n5) := (fRow f13.1.2.1 300 kR_220_300).trans ((uRow f11 300 f4.symm).trans (congrArg (fun z => uF z n0 n5) (fRow f10.1.2.1 300 kR_223_300)))
  have e57 : hV H3 301 = hV H0 301 := (fRow f13.1.2.1 301 kR_220_301).trans ((uRowNe f11 301 (iS (show n2 = ((300 : Nat) : Int) from f4) rfl)).trans (fRow f10.1.2.1 301 kR_223_301))
  have e62 : hV H3 302 = hV H0 302 := (fRow f13.1.2.1 302 kR_220_302).trans ((uRowNe f11 302 (iS (show n2 = ((300 : Nat) : Int) from f4) rfl)).trans (fRow f10.1.2.1 302 kR_223_302))
  have e67 : hV H3 303 = hV H0 303 := (fRow f13.1.2.1 303 kR_220_303).trans ((uRowNe f11 303 (iS (show n2 = ((300 : Nat) : Int) from f4) rfl)).trans (fRow f10.1.2.1 303 kR_223_303))
  have e72 : hV H3 305 = hV H0 305 := (fRow f13.1.2.1 305 kR_220_305).trans ((uRowNe f11 305 (iS (show n2 = ((300 : Nat) : Int) from f4) rfl)).trans (fRow f10.1.2.1 305 kR_223_305))
  have e77 : hV H3 328 = hV H0 328 := (fRow f13.1.2.1 328 kR_220_328).trans ((uRowNe f11 328 (iS (show n2 = ((300 : Nat) : Int) from f4) rfl)).trans (fRow f10.1.2.1 328 kR_223_328))
  have e82 : hV H3 332 = hV H0 332 := (fRow f13.1.2.1 332 kR_220_332).trans ((uRowNe f11 332 (iS (show n2 = ((300 : Nat) : Int) from f4) rfl)).trans (fRow f10.1.2.1 332 kR_223_332))
  have e87 : hV H3 335 = hV H0 335 := (fRow f13.1.2.1 335 kR_220_335).trans ((uRowNe f11 335 (iS (show n2 = ((300 : Nat) : Int) from f4) rfl)).trans (fRow f10.1.2.1 335 kR_223_335))
  have e88 : PQ H1 = PQ H0 := PQ_fr f10.1.2.1 (by decide +kernel)
  have e89 : PQ H2 = PQ H1 := PQ_upR f11 (show n2 = ((300 : Nat) : Int) from f4) (by decide)
  have e90 : PQ H2 = PQ H0 := e89.trans e88
  have e91 : PQ H3 = PQ H2 := PQ_fr f13.1.2.1 (by decide +kernel)
  have e92 : PQ H3 = PQ H0 := e91.trans e90
  have e93 : (0 : Int) ≤ hV H0 285 11 ∧ hV H0 285 11 ≤ 500 := f3.1 285 11 _ _ kW_285_11
  have e94 : (0 : Int) ≤ hV H0 285 13 ∧ hV H0 285 13 ≤ 2 := f3.1 285 13 _ _ kW_285_13
  have e95 : (0 : Int) ≤ hV H0 285 15 ∧ hV H0 285 15 ≤ 6 := f3.1 285 15 _ _ kW_285_15
  have e96 : (0 : Int) ≤ hV H0 285 18 ∧ hV H0 285 18 ≤ 8 := f3.1 285 18 _ _ kW_285_18
  have e97 : (0 : Int) ≤ hV H0 285 32 ∧ hV H0 285 32 ≤ 7 := f3.1 285 32 _ _ kW_285_32
  have e98 : (0 : Int) ≤ hV H0 285 33 ∧ hV H0 285 33 ≤ 62 := f3.1 285 33 _ _ kW_285_33
  have e99 : (0 : Int) ≤ hV H0 285 64 ∧ hV H0 285 64 ≤ 20 := f3.1 285 64 _ _ kW_285_64
  have e100 : (0 : Int) ≤ hV H1 285 11 ∧ hV H1 285 11 ≤ 500 := f10.1.2.2.2 285 11 _ _ kW_285_11
  have e101 : (0 : Int) ≤ hV H1 285 13 ∧ hV H1 285 13 ≤ 2 := f10.1.2.2.2 285 13 _ _ kW_285_13
  have e102 : (0 : Int) ≤ hV H1 285 15 ∧ hV H1 285 15 ≤ 6 := f10.1.2.2.2 285 15 _ _ kW_285_15
  have e103 : (0 : Int) ≤ hV H3 285 11 ∧ hV H3 285 11 ≤ 500 := f13.1.2.2.2 285 11 _ _ kW_285_11
  have e104 : (0 : Int) ≤ hV H3 285 13 ∧ hV H3 285 13 ≤ 2 := f13.1.2.2.2 285 13 _ _ kW_285_13
  try simp only [PA, PW]
  try simp only [e7, e11, e15, e19, e23, e32, e37, e42, e47, e52, e57, e62, e67, e72, e77, e82, e87, e92]
  have p0 := f3.2.1
  have p1 := f3.2.2.1
  have p2 := f3.2.2.2.1
  have p3 := f3.2.2.2.2.1
  have p4 := f3.2.2.2.2.2.1
  have p5 := f3.2.2.2.2.2.2.1
  have p6 := f3.2.2.2.2.2.2.2.1
  have p7 := f3.2.2.2.2.2.2.2.2
  have r0_0 := f10.2.1
  have r0_1 := f10.2.2.1
  have r0_2 := f10.2.2.2.1
  have r0_3 := f10.2.2.2.2.1
  have r0_4 := f10.2.2.2.2.2.1
  have r0_5 := f10.2.2.2.2.2.2.1
  have r0_6 := f10.2.2.2.2.2.2.2.1
  have r1_0 := f13.2.1
  have r1_1 := f13.2.2.1
  have r1_2 := f13.2.2.2.1
  have r1_3 := f13.2.2.2.2.1
  try simp only [PA] at p0
  try simp only [PW] at p5
  try simp only [e2] at r1_0
  try simp only [e2] at r1_1
  try simp only [e4] at r1_2
  try simp only [e2] at r1_3
  have wb0 := (p7 (hV H0 285 32).toNat).1
  have wp0 := (p7 (hV H0 285 33).toNat).2
  clear f5 e2 e4 e7 e11 e15 e19 e23 e32 e37 e42 e47 e52 e57 e62 e67 e72 e77 e82 e87 e88 e89 e90 e91 e92
  clear f3 f10 f13

  refine ⟨?_, ?_, ?_, ?_, ?_, ?_, ?_, ?_⟩
  · refine PA_cw ?_ (by omega)
    exact p0
  · (try clear p0 p5 p7)
    first | exact True.intro | omega
  · (try clear p0 p5 p7)
    first | exact True.intro | omega
  · (try clear p0 p5 p7)
    first | exact True.intro | omega
  · (try clear p0 p5 p7)
    first | exact True.intro | omega
  · intro z1 z2
    refine PW_cw ?_ (by omega) (by omega) (by omega) (by omega)
    exact p5 (by omega) (by omega)
  · (try clear p0 p5 p7)
    first | exact True.intro | omega
  · exact p7

def g_228_s_0 : vG := ([(0, [7], [], 0), (1220, [0, 6], [2, 3], 0), (0, [6], [], 25), (80, [2, 1, 5], [2, 1], 0), (1223, [5, 0, 3, 4], [0, 1], 0), (90, [5], [], 0), (91, [5], [], 9999), (0, [4], [], 19), (0, [3], [], 0), (20, [2, 0], [0], 26), (0, [2], [], 300), (6000, [0, 1], [0], 0), (0, [0], [], 285), (90, [1], [], 0), (91, [1], [], 1007)], (2229, [0, 1, 7], [3], 0))
theorem c_228_s_0 : vOkm T0 (eP e_228 L_228 A_228 mu_228 none) 2 g_228_s_0 := vOk_inI fun ρ η f0 f1 f2 f3 f4 f5 f6 f7 f8 f9 f10 f11 f12 f13 f14 => q_228_0 (n0 := ρ 1) (n1 := ρ 0) (n2 := ρ 2) (n3 := ρ 3) (n4 := ρ 4) (n5 := ρ 5) (n6 := ρ 6) (n7 := ρ 7) (H0 := η 0) (H1 := η 1) (H2 := η 2) (H3 := η 3) f14 f13 f12 f11 f10 f9 f8 f7 f6 f5 f4 f3 f2 f1 f0
set_option maxHeartbeats 20000000 in
theorem q_228_1 {n0 n1 n2 n3 n4 n5 n6 n7 n8 n9 : Int} {H0 H1 H2 H3 H4 : gH} (f0 : n0 ≤ 1007) (f1 : 0 ≤ n0) (f2 : n1 = 285) (f3 : hWt T0 H0 ∧ preb_228 n1 n0 H0) (f4 : n2 = 300) (f5 : n2 = hV H0 (n1).toNat 26) (f6 : n3 = 0) (f7 : n4 = 19) (f8 : n5 ≤ 9999) (f9 : 0 ≤ n5) (f10 : (hLe T0 H0 H1 ∧ hFr s_223.2.2.2.2 H0 H1 ∧ ((0 : Int) = 0 → H1.length = H0.length) ∧ hWt T0 H1) ∧ postb_223 n5 n1 n3 n4 H0 H1) (f11 : hUpd H2 H1 n2 n0 n5) (f12 : n6 = 25) (f13 : (hLe T0 H2 H3 ∧ hFr s_220.2.2.2.2 H2 H3 ∧ ((0 : Int) = 0 → H3.length = H2.length) ∧ hWt T0 H3) ∧ postb_220 n1 n6 H2 H3) (f14 : n7 = 0) (f15 : (hLe T0 H3 H4 ∧ hFr s_229.2.2.2.2 H3 H4 ∧ ((0 : Int) = 0 → H4.length = H3.length) ∧ hWt T0 H4) ∧ postb_229 n1 n0 n7 H3 H4) (f16 : n8 = 6) (f17 : n9 = w32 (n8 * n0)) : 0 ≤ n9 ∧ n9 < 6048 := by
  unfold preb_228 at f3
  unfold postb_223 at f10
  unfold postb_220 at f13
  unfold postb_229 at f15
  have e2 : hV H2 285 11 = hV H1 285 11 := (uPlace f11 285 11 (iS (show n2 = ((300 : Nat) : Int) from f4) rfl))
  have e4 : hV H2 285 13 = hV H1 285 13 := (uPlace f11 285 13 (iS (show n2 = ((300 : Nat) : Int) from f4) rfl))
  have e7 : hV H3 285 15 = hV H1 285 15 := ((f13.1.2.1.1 285 15 kF_220_285_15)).trans (uPlace f11 285 15 (iS (show n2 = ((300 : Nat) : Int) from f4) rfl))
  have e11 : hV H3 288 = hV H0 288 := (fRow f13.1.2.1 288 kR_220_288).trans ((uRowNe f11 288 (iS (show n2 = ((300 : Nat) : Int) from f4) rfl)).trans (fRow f10.1.2.1 288 kR_223_288))
  have e16 : hV H3 301 = hV H0 301 := (fRow f13.1.2.1 301 kR_220_301).trans ((uRowNe f11 301 (iS (show n2 = ((300 : Nat) : Int) from f4) rfl)).trans (fRow f10.1.2.1 301 kR_223_301))
  have e21 : hV H3 302 = hV H0 302 := (fRow f13.1.2.1 302 kR_220_302).trans ((uRowNe f11 302 (iS (show n2 = ((300 : Nat) : Int) from f4) rfl)).trans (fRow f10.1.2.1 302 kR_223_302))
  have e26 : hV H3 303 = hV H0 303 := (fRow f13.1.2.1 303 kR_220_303).trans ((uRowNe f11 303 (iS (show n2 = ((300 : Nat) : Int) from f4) rfl)).trans (fRow f10.1.2.1 303 kR_223_303))
  have e31 : hV H4 285 18 = hV H0 285 18 := ((f15.1.2.1.1 285 18 kF_229_285_18)).trans (((f13.1.2.1.1 285 18 kF_220_285_18)).trans (((uPlace f11 285 18 (iS (show n2 = ((300 : Nat) : Int) from f4) rfl))).trans (f10.1.2.1.1 285 18 kF_223_285_18)))
  have e36 : hV H4 285 32 = hV H0 285 32 := ((f15.1.2.1.1 285 32 kF_229_285_32)).trans (((f13.1.2.1.1 285 32 kF_220_285_32)).trans (((uPlace f11 285 32 (iS (show n2 = ((300 : Nat) : Int) from f4) rfl))).trans (f10.1.2.1.1 285 32 kF_223_285_32)))
  have e41 : hV H4 285 33 = hV H0 285 33 := ((f15.1.2.1.1 285 33 kF_229_285_33)).trans (((f13.1.2.1.1 285 33 kF_220_285_33)).trans (((uPlace f11 285 33 (iS (show n2 = ((300 : Nat) : Int) from f4) rfl))).trans (f10.1.2.1.1 285 33 kF_223_285_33)))
  have e46 : hV H4 285 64 = hV H0 285 64 := ((f15.1.2.1.1 285 64 kF_229_285_64)).trans (((f13.1.2.1.1 285 64 kF_220_285_64)).trans (((uPlace f11 285 64 (iS (show n2 = ((300 : Nat) : Int) from f4) rfl))).trans (f10.1.2.1.1 285 64 kF_223_285_64)))
  have e53 : hV H4 294 = hV H0 294 := (fRow f15.1.2.1 294 kR_229_294).trans ((fRow f13.1.2.1 294 kR_220_294).trans ((uRowNe f11 294 (iS (show n2 = ((300 : Nat) : Int) from f4) rfl)).trans (fRow f10.1.2.1 294 kR_223_294)))
  have e60 : hV H4 296 = hV H0 296 := (fRow f15.1.2.1 296 kR_229_296).trans ((fRow f13.1.2.1 296 kR_220_296).trans ((uRowNe f11 296 (iS (show n2 = ((300 : Nat) : Int) from f4) rfl)).trans (fRow f10.1.2.1 296 kR_223_296)))
  have e67 : hV H4 297 = hV H0 297 := (fRow f15.1.2.1 297 kR_229_297).trans ((fRow f13.1.2.1 297 kR_220_297).trans ((uRowNe f11 297 (iS (show n2 = ((300 : Nat) : Int) from f4) rfl)).trans (fRow f10.1.2.1 297 kR_223_297)))
  have e74 : hV H4 298 = hV H0 298 := (fRow f15.1.2.1 298 kR_229_298).trans ((fRow f13.1.2.1 298 kR_220_298).trans ((uRowNe f11 298 (iS (show n2 = ((300 : Nat) : Int) from f4) rfl)).trans (fRow f10.1.2.1 298 kR_223_298)))
  have e81 : hV H4 300 = (uF (hV H0 300) n0 n5) := (fRow f15.1.2.1 300 kR_229_300).trans ((fRow f13.1.2.1 300 kR_220_300).trans ((uRow f11 300 f4.symm).trans (congrArg (fun z => uF z n0 n5) (fRow f10.1.2.1 300 kR_223_300))))
  have e88 : hV H4 305 = hV H0 305 := (fRow f15.1.2.1 305 kR_229_305).trans ((fRow f13.1.2.1 305 kR_220_305).trans ((uRowNe f11 305 (iS (show n2 = ((300 : Nat) : Int) from f4) rfl)).trans (fRow f10.1.2.1 305 kR_223_305)))
  have e95 : hV H4 328 = hV H0 328 := (fRow f15.1.2.1 328 kR_229_328).trans ((fRow f13.1.2.1 328 kR_220_328).trans ((uRowNe f11 328 (iS (show n2 = ((300 : Nat) : Int) from f4) rfl)).trans (fRow f10.1.2.1 328 kR_223_328)))
  have e102 : hV H4 332 = hV H0 332 := (fRow f15.1.2.1 332 kR_229_332).trans ((fRow f13.1.2.1 332 kR_220_332).trans ((uRowNe f11 332 (iS (show n2 = ((300 : Nat) : Int) from f4) rfl)).trans (fRow f10.1.2.1 332 kR_223_332)))
  have e109 : hV H4 335 = hV H0 335 := (fRow f15.1.2.1 335 kR_229_335).trans ((fRow f13.1.2.1 335 kR_220_335).trans ((uRowNe f11 335 (iS (show n2 = ((300 : Nat) : Int) from f4) rfl)).trans (fRow f10.1.2.1 335 kR_223_335)))
  have e110 : (0 : Int) ≤ hV H0 285 11 ∧ hV H0 285 11 ≤ 500 := f3.1 285 11 _ _ kW_285_11
  have e111 : (0 : Int) ≤ hV H0 285 13 ∧ hV H0 285 13 ≤ 2 := f3.1 285 13 _ _ kW_285_13
  have e112 : (0 : Int) ≤ hV H0 285 15 ∧ hV H0 285 15 ≤ 6 := f3.1 285 15 _ _ kW_285_15
  have e113 : (0 : Int) ≤ hV H0 285 18 ∧ hV H0 285 18 ≤ 8 := f3.1 285 18 _ _ kW_285_18
  have e114 : (0 : Int) ≤ hV H0 285 32 ∧ hV H0 285 32 ≤ 7 := f3.1 285 32 _ _ kW_285_32
  have e115 : (0 : Int) ≤ hV H0 285 33 ∧ hV H0 285 33 ≤ 62 := f3.1 285 33 _ _ kW_285_33
  have e116 : (0 : Int) ≤ hV H0 285 64 ∧ hV H0 285 64 ≤ 20 := f3.1 285 64 _ _ kW_285_64
  have e117 : (0 : Int) ≤ hV H1 285 11 ∧ hV H1 285 11 ≤ 500 := f10.1.2.2.2 285 11 _ _ kW_285_11
  have e118 : (0 : Int) ≤ hV H1 285 13 ∧ hV H1 285 13 ≤ 2 := f10.1.2.2.2 285 13 _ _ kW_285_13
  have e119 : (0 : Int) ≤ hV H1 285 15 ∧ hV H1 285 15 ≤ 6 := f10.1.2.2.2 285 15 _ _ kW_285_15
  have e120 : (0 : Int) ≤ hV H3 285 11 ∧ hV H3 285 11 ≤ 500 := f13.1.2.2.2 285 11 _ _ kW_285_11
  have e121 : (0 : Int) ≤ hV H3 285 13 ∧ hV H3 285 13 ≤ 2 := f13.1.2.2.2 285 13 _ _ kW_285_13
  have e123 : (0 : Int) ≤ hV H4 285 11 ∧ hV H4 285 11 ≤ 500 := f15.1.2.2.2 285 11 _ _ kW_285_11
  have e124 : (0 : Int) ≤ hV H4 285 13 ∧ hV H4 285 13 ≤ 2 := f15.1.2.2.2 285 13 _ _ kW_285_13
  have e125 : (0 : Int) ≤ hV H4 285 15 ∧ hV H4 285 15 ≤ 6 := f15.1.2.2.2 285 15 _ _ kW_285_15
  try simp only [PA, PW]
  have p0 := f3.2.1
  have p1 := f3.2.2.1
  have p2 := f3.2.2.2.1
  have p3 := f3.2.2.2.2.1
  have p4 := f3.2.2.2.2.2.1
  have p5 := f3.2.2.2.2.2.2.1
  have p6 := f3.2.2.2.2.2.2.2.1
  have p7 := f3.2.2.2.2.2.2.2.2
  have r0_0 := f10.2.1
  have r0_1 := f10.2.2.1
  have r0_2 := f10.2.2.2.1
  have r0_3 := f10.2.2.2.2.1
  have r0_4 := f10.2.2.2.2.2.1
  have r0_5 := f10.2.2.2.2.2.2.1
  have r0_6 := f10.2.2.2.2.2.2.2.1
  have r1_0 := f13.2.1
  have r1_1 := f13.2.2.1
  have r1_2 := f13.2.2.2.1
  have r1_3 := f13.2.2.2.2.1
  have r2_0 := f15.2.1
  have r2_1 := f15.2.2.1
  have r2_2 := f15.2.2.2.1
  have r2_3 := f15.2.2.2.2.1
  have r2_4 := f15.2.2.2.2.2.1
  have r2_5 := f15.2.2.2.2.2.2.1
  have r2_6 := f15.2.2.2.2.2.2.2.1
  have r2_7 := f15.2.2.2.2.2.2.2.2.1 f14
  try simp only [PA] at p0
  try simp only [PW] at p5
  try simp only [PA] at r2_0
  try simp only [PW] at r2_1
  try simp only [e2] at r1_0
  try simp only [e2] at r1_1
  try simp only [e4] at r1_2
  try simp only [e2] at r1_3
  try simp only [e31, e46, e53, e60, e74, e81, e88, e95, e102, e109] at r2_0
  try simp only [e36, e41, e53, e60, e67, e74, e81, e88] at r2_1
  try simp only [e7] at r2_5
  try simp only [e7] at r2_6
  try simp only [e7, e11, e16, e21, e26, e31, e36, e41, e46, e53, e60, e67, e74, e81, e88, e95, e102, e109] at r2_7
  have wb0 := (p7 (hV H0 285 32).toNat).1
  have wp0 := (p7 (hV H0 285 33).toNat).2
  clear f5 e2 e4 e7 e11 e16 e21 e26 e31 e36 e41 e46 e53 e60 e67 e74 e81 e88 e95 e102 e109
  clear f3 f10 f13 f15
  rw [f16] at f17
  first
  | (have ix0 : n9 = 6 * n0 := Eq.trans f17 (w32_iv (Iml 6 rfl (Iat f1 f0)) (by decide)); subst ix0; clear f17)
  | (have ix0 : n9 = 6 * n0 := Eq.trans f17 (w32_id (by omega) (by omega)); subst ix0; clear f17)
  | (unfold w32 at f17; have ix0 : n9 = 6 * n0 := (by omega); subst ix0)
  | skip
  try unfold w32 at f17

  (try clear p0 p5 p7 r2_0 r2_1)
  omega
def g_228_s_1 : vG := ([(3, [10, 9, 1], [], 0), (0, [9], [], 6), (1229, [0, 1, 7], [3, 4], 0), (0, [7], [], 0), (1220, [0, 6], [2, 3], 0), (0, [6], [], 25), (80, [2, 1, 5], [2, 1], 0), (1223, [5, 0, 3, 4], [0, 1], 0), (90, [5], [], 0), (91, [5], [], 9999), (0, [4], [], 19), (0, [3], [], 0), (20, [2, 0], [0], 26), (0, [2], [], 300), (6000, [0, 1], [0], 0), (0, [0], [], 285), (90, [1], [], 0), (91, [1], [], 1007)], (70, [10], [], 6048))
theorem c_228_s_1 : vOkm T0 (eP e_228 L_228 A_228 mu_228 none) 2 g_228_s_1 := vOk_inI fun ρ η f0 f1 f2 f3 f4 f5 f6 f7 f8 f9 f10 f11 f12 f13 f14 f15 f16 f17 => q_228_1 (n0 := ρ 1) (n1 := ρ 0) (n2 := ρ 2) (n3 := ρ 3) (n4 := ρ 4) (n5 := ρ 5) (n6 := ρ 6) (n7 := ρ 7) (n8 := ρ 9) (n9 := ρ 10) (H0 := η 0) (H1 := η 1) (H2 := η 2) (H3 := η 3) (H4 := η 4) f17 f16 f15 f14 f13 f12 f11 f10 f9 f8 f7 f6 f5 f4 f3 f2 f1 f0
set_option maxHeartbeats 20000000 in
theorem q_228_2 {n0 n1 n2 n3 n4 n5 n6 n7 n8 n9 n10 n11 n12 n13 : Int} {H0 H1 H2 H3 H4 : gH} (f0 : n0 ≤ 1007) (f1 : 0 ≤ n0) (f2 : n1 = 285) (f3 : hWt T0 H0 ∧ preb_228 n1 n0 H0) (f4 : n2 = 300) (f5 : n2 = hV H0 (n1).toNat 26) (f6 : n3 = 0) (f7 : n4 = 19) (f8 : n5 ≤ 9999) (f9 : 0 ≤ n5) (f10 : (hLe T0 H0 H1 ∧ hFr s_223.2.2.2.2 H0 H1 ∧ ((0 : Int) = 0 → H1.length = H0.length) ∧ hWt T0 H1) ∧ postb_223 n5 n1 n3 n4 H0 H1) (f11 : hUpd H2 H1 n2 n0 n5) (f12 : n6 = 25) (f13 : (hLe T0 H2 H3 ∧ hFr s_220.2.2.2.2 H2 H3 ∧ ((0 : Int) = 0 → H3.length = H2.length) ∧ hWt T0 H3) ∧ postb_220 n1 n6 H2 H3) (f14 : n7 = 0) (f15 : (hLe T0 H3 H4 ∧ hFr s_229.2.2.2.2 H3 H4 ∧ ((0 : Int) = 0 → H4.length = H3.length) ∧ hWt T0 H4) ∧ postb_229 n1 n0 n7 H3 H4) (f16 : n8 = 6) (f17 : n9 = w32 (n8 * n0)) (f18 : n10 = 6) (f19 : n11 = w32 (n10 * n0)) (f20 : n12 = 1) (f21 : n13 = w32 (n11 + n12)) : 0 ≤ n13 ∧ n13 < 6048 := by
  unfold preb_228 at f3
  unfold postb_223 at f10
  unfold postb_220 at f13
  unfold postb_229 at f15
  have e2 : hV H2 285 11 = hV H1 285 11 := (uPlace f11 285 11 (iS (show n2 = ((300 : Nat) : Int) from f4) rfl))
  have e4 : hV H2 285 13 = hV H1 285 13 := (uPlace f11 285 13 (iS (show n2 = ((300 : Nat) : Int) from f4) rfl))
  have e7 : hV H3 285 15 = hV H1 285 15 := ((f13.1.2.1.1 285 15 kF_220_285_15)).trans (uPlace f11 285 15 (iS (show n2 = ((300 : Nat) : Int) from f4) rfl))
  have e11 : hV H3 288 = hV H0 288 := (fRow f13.1.2.1 288 kR_220_288).trans ((uRowNe f11 288 (iS (show n2 = ((300 : Nat) : Int) from f4) rfl)).trans (fRow f10.1.2.1 288 kR_223_288))
  have e16 : hV H3 301 = hV H0 301 := (fRow f13.1.2.1 301 kR_220_301).trans ((uRowNe f11 301 (iS (show n2 = ((300 : Nat) : Int) from f4) rfl)).trans (fRow f10.1.2.1 301 kR_223_301))
  have e21 : hV H3 302 = hV H0 302 := (fRow f13.1.2.1 302 kR_220_302).trans ((uRowNe f11 302 (iS (show n2 = ((300 : Nat) : Int) from f4) rfl)).trans (fRow f10.1.2.1 302 kR_223_302))
  have e26 : hV H3 303 = hV H0 303 := (fRow f13.1.2.1 303 kR_220_303).trans ((uRowNe f11 303 (iS (show n2 = ((300 : Nat) : Int) from f4) rfl)).trans (fRow f10.1.2.1 303 kR_223_303))
  have e31 : hV H4 285 18 = hV H0 285 18 := ((f15.1.2.1.1 285 18 kF_229_285_18)).trans (((f13.1.2.1.1 285 18 kF_220_285_18)).trans (((uPlace f11 285 18 (iS (show n2 = ((300 : Nat) : Int) from f4) rfl))).trans (f10.1.2.1.1 285 18 kF_223_285_18)))
  have e36 : hV H4 285 32 = hV H0 285 32 := ((f15.1.2.1.1 285 32 kF_229_285_32)).trans (((f13.1.2.1.1 285 32 kF_220_285_32)).trans (((uPlace f11 285 32 (iS (show n2 = ((300 : Nat) : Int) from f4) rfl))).trans (f10.1.2.1.1 285 32 kF_223_285_32)))
  have e41 : hV H4 285 33 = hV H0 285 33 := ((f15.1.2.1.1 285 33 kF_229_285_33)).trans (((f13.1.2.1.1 285 33 kF_220_285_33)).trans (((uPlace f11 285 33 (iS (show n2 = ((300 : Nat) : Int) from f4) rfl))).trans (f10.1.2.1.1 285 33 kF_223_285_33)))
  have e46 : hV H4 285 64 = hV H0 285 64 := ((f15.1.2.1.1 285 64 kF_229_285_64)).trans (((f13.1.2.1.1 285 64 kF_220_285_64)).trans (((uPlace f11 285 64 (iS (show n2 = ((300 : Nat) : Int) from f4) rfl))).trans (f10.1.2.1.1 285 64 kF_223_285_64)))
  have e53 : hV H4 294 = hV H0 294 := (fRow f15.1.2.1 294 kR_229_294).trans ((fRow f13.1.2.1 294 kR_220_294).trans ((uRowNe f11 294 (iS (show n2 = ((300 : Nat) : Int) from f4) rfl)).trans (fRow f10.1.2.1 294 kR_223_294)))
  have e60 : hV H4 296 = hV H0 296 := (fRow f15.1.2.1 296 kR_229_296).trans ((fRow f13.1.2.1 296 kR_220_296).trans ((uRowNe f11 296 (iS (show n2 = ((300 : Nat) : Int) from f4) rfl)).trans (fRow f10.1.2.1 296 kR_223_296)))
  have e67 : hV H4 297 = hV H0 297 := (fRow f15.1.2.1 297 kR_229_297).trans ((fRow f13.1.2.1 297 kR_220_297).trans ((uRowNe f11 297 (iS (show n2 = ((300 : Nat) : Int) from f4) rfl)).trans (fRow f10.1.2.1 297 kR_223_297)))
  have e74 : hV H4 298 = hV H0 298 := (fRow f15.1.2.1 298 kR_229_298).trans ((fRow f13.1.2.1 298 kR_220_298).trans ((uRowNe f11 298 (iS (show n2 = ((300 : Nat) : Int) from f4) rfl)).trans (fRow f10.1.2.1 298 kR_223_298)))
  have e81 : hV H4 300 = (uF (hV H0 300) n0 n5) := (fRow f15.1.2.1 300 kR_229_300).trans ((fRow f13.1.2.1 300 kR_220_300).trans ((uRow f11 300 f4.symm).trans (congrArg (fun z => uF z n0 n5) (fRow f10.1.2.1 300 kR_223_300))))
  have e88 : hV H4 305 = hV H0 305 := (fRow f15.1.2.1 305 kR_229_305).trans ((fRow f13.1.2.1 305 kR_220_305).trans ((uRowNe f11 305 (iS (show n2 = ((300 : Nat) : Int) from f4) rfl)).trans (fRow f10.1.2.1 305 kR_223_305)))
  have e95 : hV H4 328 = hV H0 328 := (fRow f15.1.2.1 328 kR_229_328).trans ((fRow f13.1.2.1 328 kR_220_328).trans ((uRowNe f11 328 (iS (show n2 = ((300 : Nat) : Int) from f4) rfl)).trans (fRow f10.1.2.1 328 kR_223_328)))
  have e102 : hV H4 332 = hV H0 332 := (fRow f15.1.2.1 332 kR_229_332).trans ((fRow f13.1.2.1 332 kR_220_332).trans ((uRowNe f11 332 (iS (show n2 = ((300 : Nat) : Int) from f4) rfl)).trans (fRow f10.1.2.1 332 kR_223_332)))
  have e109 : hV H4 335 = hV H0 335 := (fRow f15.1.2.1 335 kR_229_335).trans ((fRow f13.1.2.1 335 kR_220_335).trans ((uRowNe f11 335 (iS (show n2 = ((300 : Nat) : Int) from f4) rfl)).trans (fRow f10.1.2.1 335 kR_223_335)))
  have e110 : (0 : Int) ≤ hV H0 285 11 ∧ hV H0 285 11 ≤ 500 := f3.1 285 11 _ _ kW_285_11
  have e111 : (0 : Int) ≤ hV H0 285 13 ∧ hV H0 285 13 ≤ 2 := f3.1 285 13 _ _ kW_285_13
  have e112 : (0 : Int) ≤ hV H0 285 15 ∧ hV H0 285 15 ≤ 6 := f3.1 285 15 _ _ kW_285_15
  have e113 : (0 : Int) ≤ hV H0 285 18 ∧ hV H0 285 18 ≤ 8 := f3.1 285 18 _ _ kW_285_18
  have e114 : (0 : Int) ≤ hV H0 285 32 ∧ hV H0 285 32 ≤ 7 := f3.1 285 32 _ _ kW_285_32
  have e115 : (0 : Int) ≤ hV H0 285 33 ∧ hV H0 285 33 ≤ 62 := f3.1 285 33 _ _ kW_285_33
  have e116 : (0 : Int) ≤ hV H0 285 64 ∧ hV H0 285 64 ≤ 20 := f3.1 285 64 _ _ kW_285_64
  have e117 : (0 : Int) ≤ hV H1 285 11 ∧ hV H1 285 11 ≤ 500 := f10.1.2.2.2 285 11 _ _ kW_285_11
  have e118 : (0 : Int) ≤ hV H1 285 13 ∧ hV H1 285 13 ≤ 2 := f10.1.2.2.2 285 13 _ _ kW_285_13
  have e119 : (0 : Int) ≤ hV H1 285 15 ∧ hV H1 285 15 ≤ 6 := f10.1.2.2.2 285 15 _ _ kW_285_15
  have e120 : (0 : Int) ≤ hV H3 285 11 ∧ hV H3 285 11 ≤ 500 := f13.1.2.2.2 285 11 _ _ kW_285_11
  have e121 : (0 : Int) ≤ hV H3 285 13 ∧ hV H3 285 13 ≤ 2 := f13.1.2.2.2 285 13 _ _ kW_285_13
  have e123 : (0 : Int) ≤ hV H4 285 11 ∧ hV H4 285 11 ≤ 500 := f15.1.2.2.2 285 11 _ _ kW_285_11
  have e124 : (0 : Int) ≤ hV H4 285 13 ∧ hV H4 285 13 ≤ 2 := f15.1.2.2.2 285 13 _ _ kW_285_13
  have e125 : (0 : Int) ≤ hV H4 285 15 ∧ hV H4 285 15 ≤ 6 := f15.1.2.2.2 285 15 _ _ kW_285_15
  try simp only [PA, PW]
  have p0 := f3.2.1
  have p1 := f3.2.2.1
  have p2 := f3.2.2.2.1
  have p3 := f3.2.2.2.2.1
  have p4 := f3.2.2.2.2.2.1
  have p5 := f3.2.2.2.2.2.2.1
  have p6 := f3.2.2.2.2.2.2.2.1
  have p7 := f3.2.2.2.2.2.2.2.2
  have r0_0 := f10.2.1
  have r0_1 := f10.2.2.1
  have r0_2 := f10.2.2.2.1
  have r0_3 := f10.2.2.2.2.1
  have r0_4 := f10.2.2.2.2.2.1
  have r0_5 := f10.2.2.2.2.2.2.1
  have r0_6 := f10.2.2.2.2.2.2.2.1
  have r1_0 := f13.2.1
  have r1_1 := f13.2.2.1
  have r1_2 := f13.2.2.2.1
  have r1_3 := f13.2.2.2.2.1
  have r2_0 := f15.2.1
  have r2_1 := f15.2.2.1
  have r2_2 := f15.2.2.2.1
  have r2_3 := f15.2.2.2.2.1
  have r2_4 := f15.2.2.2.2.2.1
  have r2_5 := f15.2.2.2.2.2.2.1
  have r2_6 := f15.2.2.2.2.2.2.2.1
  have r2_7 := f15.2.2.2.2.2.2.2.2.1 f14
  try simp only [PA] at p0
  try simp only [PW] at p5
  try simp only [PA] at r2_0
  try simp only [PW] at r2_1
  try simp only [e2] at r1_0
  try simp only [e2] at r1_1
  try simp only [e4] at r1_2
  try simp only [e2] at r1_3
  try simp only [e31, e46, e53, e60, e74, e81, e88, e95, e102, e109] at r2_0
  try simp only [e36, e41, e53, e60, e67, e74, e81, e88] at r2_1
  try simp only [e7] at r2_5
  try simp only [e7] at r2_6
  try simp only [e7, e11, e16, e21, e26, e31, e36, e41, e46, e53, e60, e67, e74, e81, e88, e95, e102, e109] at r2_7
  have wb0 := (p7 (hV H0 285 32).toNat).1
  have wp0 := (p7 (hV H0 285 33).toNat).2
  clear f5 e2 e4 e7 e11 e16 e21 e26 e31 e36 e41 e46 e53 e60 e67 e74 e81 e88 e95 e102 e109
  clear f3 f10 f13 f15
  rw [f16] at f17
  rw [f18] at f19
  first
  | (have ix0 : n11 = 6 * n0 := Eq.trans f19 (w32_iv (Iml 6 rfl (Iat f1 f0)) (by decide)); subst ix0; clear f19)
  | (have ix0 : n11 = 6 * n0 := Eq.trans f19 (w32_id (by omega) (by omega)); subst ix0; clear f19)
  | (unfold w32 at f19; have ix0 : n11 = 6 * n0 := (by omega); subst ix0)
  | skip
  first
  | (have ix1 : n13 = (6 * n0) + 1 := Eq.trans f21 (w32_iv (Iad (Iml 6 rfl (Iat f1 f0)) (IC 1)) (by decide)); subst ix1; clear f21)
  | (have ix1 : n13 = (6 * n0) + 1 := Eq.trans f21 (w32_id (by omega) (by omega)); subst ix1; clear f21)
  | (unfold w32 at f21; have ix1 : n13 = (6 * n0) + 1 := (by omega); subst ix1)
  | skip
  try unfold w32 at f17
  try unfold w32 at f19
  try unfold w32 at f21

  (try clear p0 p5 p7 r2_0 r2_1)
  omega
def g_228_s_2 : vG := ([(1, [16, 14, 15], [], 0), (0, [15], [], 1), (3, [14, 13, 1], [], 0), (0, [13], [], 6), (3, [10, 9, 1], [], 0), (0, [9], [], 6), (1229, [0, 1, 7], [3, 4], 0), (0, [7], [], 0), (1220, [0, 6], [2, 3], 0), (0, [6], [], 25), (80, [2, 1, 5], [2, 1], 0), (1223, [5, 0, 3, 4], [0, 1], 0), (90, [5], [], 0), (91, [5], [], 9999), (0, [4], [], 19), (0, [3], [], 0), (20, [2, 0], [0], 26), (0, [2], [], 300), (6000, [0, 1], [0], 0), (0, [0], [], 285), (90, [1], [], 0), (91, [1], [], 1007)], (70, [16], [], 6048))
theorem c_228_s_2 : vOkm T0 (eP e_228 L_228 A_228 mu_228 none) 2 g_228_s_2 := vOk_inI fun ρ η f0 f1 f2 f3 f4 f5 f6 f7 f8 f9 f10 f11 f12 f13 f14 f15 f16 f17 f18 f19 f20 f21 => q_228_2 (n0 := ρ 1) (n1 := ρ 0) (n2 := ρ 2) (n3 := ρ 3) (n4 := ρ 4) (n5 := ρ 5) (n6 := ρ 6) (n7 := ρ 7) (n8 := ρ 9) (n9 := ρ 10) (n10 := ρ 13) (n11 := ρ 14) (n12 := ρ 15) (n13 := ρ 16) (H0 := η 0) (H1 := η 1) (H2 := η 2) (H3 := η 3) (H4 := η 4) f21 f20 f19 f18 f17 f16 f15 f14 f13 f12 f11 f10 f9 f8 f7 f6 f5 f4 f3 f2 f1 f0
set_option maxHeartbeats 20000000 in
theorem q_228_3 {n0 n1 n2 n3 n4 n5 n6 n7 n8 n9 n10 n11 n12 n13 n14 n15 n16 n17 : Int} {H0 H1 H2 H3 H4 : gH} (f0 : n0 ≤ 1007) (f1 : 0 ≤ n0) (f2 : n1 = 285) (f3 : hWt T0 H0 ∧ preb_228 n1 n0 H0) (f4 : n2 = 300) (f5 : n2 = hV H0 (n1).toNat 26) (f6 : n3 = 0) (f7 : n4 = 19) (f8 : n5 ≤ 9999) (f9 : 0 ≤ n5) (f10 : (hLe T0 H0 H1 ∧ hFr s_223.2.2.2.2 H0 H1 ∧ ((0 : Int) = 0 → H1.length = H0.length) ∧ hWt T0 H1) ∧ postb_223 n5 n1 n3 n4 H0 H1) (f11 : hUpd H2 H1 n2 n0 n5) (f12 : n6 = 25) (f13 : (hLe T0 H2 H3 ∧ hFr s_220.2.2.2.2 H2 H3 ∧ ((0 : Int) = 0 → H3.length = H2.length) ∧ hWt T0 H3) ∧ postb_220 n1 n6 H2 H3) (f14 : n7 = 0) (f15 : (hLe T0 H3 H4 ∧ hFr s_229.2.2.2.2 H3 H4 ∧ ((0 : Int) = 0 → H4.length = H3.length) ∧ hWt T0 H4) ∧ postb_229 n1 n0 n7 H3 H4) (f16 : n8 = 6) (f17 : n9 = w32 (n8 * n0)) (f18 : n10 = 6) (f19 : n11 = w32 (n10 * n0)) (f20 : n12 = 1) (f21 : n13 = w32 (n11 + n12)) (f22 : n14 = 6) (f23 : n15 = w32 (n14 * n0)) (f24 : n16 = 2) (f25 : n17 = w32 (n15 + n16)) : 0 ≤ n17 ∧ n17 < 6048 := by
  unfold preb_228 at f3
  unfold postb_223 at f10
  unfold postb_220 at f13
  unfold postb_229 at f15
  have e2 : hV H2 285 11 = hV H1 285 11 := (uPlace f11 285 11 (iS (show n2 = ((300 : Nat) : Int) from f4) rfl))
  have e4 : hV H2 285 13 = hV H1 285 13 := (uPlace f11 285 13 (iS (show n2 = ((300 : Nat) : Int) from f4) rfl))
  have e7 : hV H3 285 15 = hV H1 285 15 := ((f13.1.2.1.1 285 15 kF_220_285_15)).trans (uPlace f11 285 15 (iS (show n2 = ((300 : Nat) : Int) from f4) rfl))
  have e11 : hV H3 288 = hV H0 288 := (fRow f13.1.2.1 288 kR_220_288).trans ((uRowNe f11 288 (iS (show n2 = ((300 : Nat) : Int) from f4) rfl)).trans (fRow f10.1.2.1 288 kR_223_288))
  have e16 : hV H3 301 = hV H0 301 := (fRow f13.1.2.1 301 kR_220_301).trans ((uRowNe f11 301 (iS (show n2 = ((300 : Nat) : Int) from f4) rfl)).trans (fRow f10.1.2.1 301 kR_223_301))
  have e21 : hV H3 302 = hV H0 302 := (fRow f13.1.2.1 302 kR_220_302).trans ((uRowNe f11 302 (iS (show n2 = ((300 : Nat) : Int) from f4) rfl)).trans (fRow f10.1.2.1 302 kR_223_302))
  have e26 : hV H3 303 = hV H0 303 := (fRow f13.1.2.1 303 kR_220_303).trans ((uRowNe f11 303 (iS (show n2 = ((300 : Nat) : Int) from f4) rfl)).trans (fRow f10.1.2.1 303 kR_223_303))
  have e31 : hV H4 285 18 = hV H0 285 18 := ((f15.1.2.1.1 285 18 kF_229_285_18)).trans (((f13.1.2.1.1 285 18 kF_220_285_18)).trans (((uPlace f11 285 18 (iS (show n2 = ((300 : Nat) : Int) from f4) rfl))).trans (f10.1.2.1.1 285 18 kF_223_285_18)))
  have e36 : hV H4 285 32 = hV H0 285 32 := ((f15.1.2.1.1 285 32 kF_229_285_32)).trans (((f13.1.2.1.1 285 32 kF_220_285_32)).trans (((uPlace f11 285 32 (iS (show n2 = ((300 : Nat) : Int) from f4) rfl))).trans (f10.1.2.1.1 285 32 kF_223_285_32)))
  have e41 : hV H4 285 33 = hV H0 285 33 := ((f15.1.2.1.1 285 33 kF_229_285_33)).trans (((f13.1.2.1.1 285 33 kF_220_285_33)).trans (((uPlace f11 285 33 (iS (show n2 = ((300 : Nat) : Int) from f4) rfl))).trans (f10.1.2.1.1 285 33 kF_223_285_33)))
  have e46 : hV H4 285 64 = hV H0 285 64 := ((f15.1.2.1.1 285 64 kF_229_285_64)).trans (((f13.1.2.1.1 285 64 kF_220_285_64)).trans (((uPlace f11 285 64 (iS (show n2 = ((300 : Nat) : Int) from f4) rfl))).trans (f10.1.2.1.1 285 64 kF_223_285_64)))
  have e53 : hV H4 294 = hV H0 294 := (fRow f15.1.2.1 294 kR_229_294).trans ((fRow f13.1.2.1 294 kR_220_294).trans ((uRowNe f11 294 (iS (show n2 = ((300 : Nat) : Int) from f4) rfl)).trans (fRow f10.1.2.1 294 kR_223_294)))
  have e60 : hV H4 296 = hV H0 296 := (fRow f15.1.2.1 296 kR_229_296).trans ((fRow f13.1.2.1 296 kR_220_296).trans ((uRowNe f11 296 (iS (show n2 = ((300 : Nat) : Int) from f4) rfl)).trans (fRow f10.1.2.1 296 kR_223_296)))
  have e67 : hV H4 297 = hV H0 297 := (fRow f15.1.2.1 297 kR_229_297).trans ((fRow f13.1.2.1 297 kR_220_297).trans ((uRowNe f11 297 (iS (show n2 = ((300 : Nat) : Int) from f4) rfl)).trans (fRow f10.1.2.1 297 kR_223_297)))
  have e74 : hV H4 298 = hV H0 298 := (fRow f15.1.2.1 298 kR_229_298).trans ((fRow f13.1.2.1 298 kR_220_298).trans ((uRowNe f11 298 (iS (show n2 = ((300 : Nat) : Int) from f4) rfl)).trans (fRow f10.1.2.1 298 kR_223_298)))
  have e81 : hV H4 300 = (uF (hV H0 300) n0 n5) := (fRow f15.1.2.1 300 kR_229_300).trans ((fRow f13.1.2.1 300 kR_220_300).trans ((uRow f11 300 f4.symm).trans (congrArg (fun z => uF z n0 n5) (fRow f10.1.2.1 300 kR_223_300))))
  have e88 : hV H4 305 = hV H0 305 := (fRow f15.1.2.1 305 kR_229_305).trans ((fRow f13.1.2.1 305 kR_220_305).trans ((uRowNe f11 305 (iS (show n2 = ((300 : Nat) : Int) from f4) rfl)).trans (fRow f10.1.2.1 305 kR_223_305)))
  have e95 : hV H4 328 = hV H0 328 := (fRow f15.1.2.1 328 kR_229_328).trans ((fRow f13.1.2.1 328 kR_220_328).trans ((uRowNe f11 328 (iS (show n2 = ((300 : Nat) : Int) from f4) rfl)).trans (fRow f10.1.2.1 328 kR_223_328)))
  have e102 : hV H4 332 = hV H0 332 := (fRow f15.1.2.1 332 kR_229_332).trans ((fRow f13.1.2.1 332 kR_220_332).trans ((uRowNe f11 332 (iS (show n2 = ((300 : Nat) : Int) from f4) rfl)).trans (fRow f10.1.2.1 332 kR_223_332)))
  have e109 : hV H4 335 = hV H0 335 := (fRow f15.1.2.1 335 kR_229_335).trans ((fRow f13.1.2.1 335 kR_220_335).trans ((uRowNe f11 335 (iS (show n2 = ((300 : Nat) : Int) from f4) rfl)).trans (fRow f10.1.2.1 335 kR_223_335)))
  have e110 : (0 : Int) ≤ hV H0 285 11 ∧ hV H0 285 11 ≤ 500 := f3.1 285 11 _ _ kW_285_11
  have e111 : (0 : Int) ≤ hV H0 285 13 ∧ hV H0 285 13 ≤ 2 := f3.1 285 13 _ _ kW_285_13
  have e112 : (0 : Int) ≤ hV H0 285 15 ∧ hV H0 285 15 ≤ 6 := f3.1 285 15 _ _ kW_285_15
  have e113 : (0 : Int) ≤ hV H0 285 18 ∧ hV H0 285 18 ≤ 8 := f3.1 285 18 _ _ kW_285_18
  have e114 : (0 : Int) ≤ hV H0 285 32 ∧ hV H0 285 32 ≤ 7 := f3.1 285 32 _ _ kW_285_32
  have e115 : (0 : Int) ≤ hV H0 285 33 ∧ hV H0 285 33 ≤ 62 := f3.1 285 33 _ _ kW_285_33
  have e116 : (0 : Int) ≤ hV H0 285 64 ∧ hV H0 285 64 ≤ 20 := f3.1 285 64 _ _ kW_285_64
  have e117 : (0 : Int) ≤ hV H1 285 11 ∧ hV H1 285 11 ≤ 500 := f10.1.2.2.2 285 11 _ _ kW_285_11
  have e118 : (0 : Int) ≤ hV H1 285 13 ∧ hV H1 285 13 ≤ 2 := f10.1.2.2.2 285 13 _ _ kW_285_13
  have e119 : (0 : Int) ≤ hV H1 285 15 ∧ hV H1 285 15 ≤ 6 := f10.1.2.2.2 285 15 _ _ kW_285_15
  have e120 : (0 : Int) ≤ hV H3 285 11 ∧ hV H3 285 11 ≤ 500 := f13.1.2.2.2 285 11 _ _ kW_285_11
  have e121 : (0 : Int) ≤ hV H3 285 13 ∧ hV H3 285 13 ≤ 2 := f13.1.2.2.2 285 13 _ _ kW_285_13
  have e123 : (0 : Int) ≤ hV H4 285 11 ∧ hV H4 285 11 ≤ 500 := f15.1.2.2.2 285 11 _ _ kW_285_11
  have e124 : (0 : Int) ≤ hV H4 285 13 ∧ hV H4 285 13 ≤ 2 := f15.1.2.2.2 285 13 _ _ kW_285_13
  have e125 : (0 : Int) ≤ hV H4 285 15 ∧ hV H4 285 15 ≤ 6 := f15.1.2.2.2 285 15 _ _ kW_285_15
  try simp only [PA, PW]
  have p0 := f3.2.1
  have p1 := f3.2.2.1
  have p2 := f3.2.2.2.1
  have p3 := f3.2.2.2.2.1
  have p4 := f3.2.2.2.2.2.1
  have p5 := f3.2.2.2.2.2.2.1
  have p6 := f3.2.2.2.2.2.2.2.1
  have p7 := f3.2.2.2.2.2.2.2.2
  have r0_0 := f10.2.1
  have r0_1 := f10.2.2.1
  have r0_2 := f10.2.2.2.1
  have r0_3 := f10.2.2.2.2.1
  have r0_4 := f10.2.2.2.2.2.1
  have r0_5 := f10.2.2.2.2.2.2.1
  have r0_6 := f10.2.2.2.2.2.2.2.1
  have r1_0 := f13.2.1
  have r1_1 := f13.2.2.1
  have r1_2 := f13.2.2.2.1
  have r1_3 := f13.2.2.2.2.1
  have r2_0 := f15.2.1
  have r2_1 := f15.2.2.1
  have r2_2 := f15.2.2.2.1
  have r2_3 := f15.2.2.2.2.1
  have r2_4 := f15.2.2.2.2.2.1
  have r2_5 := f15.2.2.2.2.2.2.1
  have r2_6 := f15.2.2.2.2.2.2.2.1
  have r2_7 := f15.2.2.2.2.2.2.2.2.1 f14
  try simp only [PA] at p0
  try simp only [PW] at p5
  try simp only [PA] at r2_0
  try simp only [PW] at r2_1
  try simp only [e2] at r1_0
  try simp only [e2] at r1_1
  try simp only [e4] at r1_2
  try simp only [e2] at r1_3
  try simp only [e31, e46, e53, e60, e74, e81, e88, e95, e102, e109] at r2_0
  try simp only [e36, e41, e53, e60, e67, e74, e81, e88] at r2_1
  try simp only [e7] at r2_5
  try simp only [e7] at r2_6
  try simp only [e7, e11, e16, e21, e26, e31, e36, e41, e46, e53, e60, e67, e74, e81, e88, e95, e102, e109] at r2_7
  have wb0 := (p7 (hV H0 285 32).toNat).1
  have wp0 := (p7 (hV H0 285 33).toNat).2
  clear f5 e2 e4 e7 e11 e16 e21 e26 e31 e36 e41 e46 e53 e60 e67 e74 e81 e88 e95 e102 e109
  clear f3 f10 f13 f15
  rw [f16] at f17
  rw [f18] at f19
  rw [f22] at f23
  first
  | (have ix0 : n15 = 6 * n0 := Eq.trans f23 (w32_iv (Iml 6 rfl (Iat f1 f0)) (by decide)); subst ix0; clear f23)
  | (have ix0 : n15 = 6 * n0 := Eq.trans f23 (w32_id (by omega) (by omega)); subst ix0; clear f23)
  | (unfold w32 at f23; have ix0 : n15 = 6 * n0 := (by omega); subst ix0)
  | skip
  first
  | (have ix1 : n17 = (6 * n0) + 2 := Eq.trans f25 (w32_iv (Iad (Iml 6 rfl (Iat f1 f0)) (IC 2)) (by decide)); subst ix1; clear f25)
  | (have ix1 : n17 = (6 * n0) + 2 := Eq.trans f25 (w32_id (by omega) (by omega)); subst ix1; clear f25)
  | (unfold w32 at f25; have ix1 : n17 = (6 * n0) + 2 := (by omega); subst ix1)
  | skip
  try unfold w32 at f17
  try unfold w32 at f19
  try unfold w32 at f21
  try unfold w32 at f23
  try unfold w32 at f25

  (try clear p0 p5 p7 r2_0 r2_1)
  omega
def g_228_s_3 : vG := ([(1, [22, 20, 21], [], 0), (0, [21], [], 2), (3, [20, 19, 1], [], 0), (0, [19], [], 6), (1, [16, 14, 15], [], 0), (0, [15], [], 1), (3, [14, 13, 1], [], 0), (0, [13], [], 6), (3, [10, 9, 1], [], 0), (0, [9], [], 6), (1229, [0, 1, 7], [3, 4], 0), (0, [7], [], 0), (1220, [0, 6], [2, 3], 0), (0, [6], [], 25), (80, [2, 1, 5], [2, 1], 0), (1223, [5, 0, 3, 4], [0, 1], 0), (90, [5], [], 0), (91, [5], [], 9999), (0, [4], [], 19), (0, [3], [], 0), (20, [2, 0], [0], 26), (0, [2], [], 300), (6000, [0, 1], [0], 0), (0, [0], [], 285), (90, [1], [], 0), (91, [1], [], 1007)], (70, [22], [], 6048))
theorem c_228_s_3 : vOkm T0 (eP e_228 L_228 A_228 mu_228 none) 2 g_228_s_3 := vOk_inI fun ρ η f0 f1 f2 f3 f4 f5 f6 f7 f8 f9 f10 f11 f12 f13 f14 f15 f16 f17 f18 f19 f20 f21 f22 f23 f24 f25 => q_228_3 (n0 := ρ 1) (n1 := ρ 0) (n2 := ρ 2) (n3 := ρ 3) (n4 := ρ 4) (n5 := ρ 5) (n6 := ρ 6) (n7 := ρ 7) (n8 := ρ 9) (n9 := ρ 10) (n10 := ρ 13) (n11 := ρ 14) (n12 := ρ 15) (n13 := ρ 16) (n14 := ρ 19) (n15 := ρ 20) (n16 := ρ 21) (n17 := ρ 22) (H0 := η 0) (H1 := η 1) (H2 := η 2) (H3 := η 3) (H4 := η 4) f25 f24 f23 f22 f21 f20 f19 f18 f17 f16 f15 f14 f13 f12 f11 f10 f9 f8 f7 f6 f5 f4 f3 f2 f1 f0
set_option maxHeartbeats 20000000 in
theorem q_228_4 {n0 n1 n2 n3 n4 n5 n6 n7 n8 n9 n10 n11 n12 n13 n14 n15 n16 n17 n18 n19 n20 n21 : Int} {H0 H1 H2 H3 H4 : gH} (f0 : n0 ≤ 1007) (f1 : 0 ≤ n0) (f2 : n1 = 285) (f3 : hWt T0 H0 ∧ preb_228 n1 n0 H0) (f4 : n2 = 300) (f5 : n2 = hV H0 (n1).toNat 26) (f6 : n3 = 0) (f7 : n4 = 19) (f8 : n5 ≤ 9999) (f9 : 0 ≤ n5) (f10 : (hLe T0 H0 H1 ∧ hFr s_223.2.2.2.2 H0 H1 ∧ ((0 : Int) = 0 → H1.length = H0.length) ∧ hWt T0 H1) ∧ postb_223 n5 n1 n3 n4 H0 H1) (f11 : hUpd H2 H1 n2 n0 n5) (f12 : n6 = 25) (f13 : (hLe T0 H2 H3 ∧ hFr s_220.2.2.2.2 H2 H3 ∧ ((0 : Int) = 0 → H3.length = H2.length) ∧ hWt T0 H3) ∧ postb_220 n1 n6 H2 H3) (f14 : n7 = 0) (f15 : (hLe T0 H3 H4 ∧ hFr s_229.2.2.2.2 H3 H4 ∧ ((0 : Int) = 0 → H4.length = H3.length) ∧ hWt T0 H4) ∧ postb_229 n1 n0 n7 H3 H4) (f16 : n8 = 6) (f17 : n9 = w32 (n8 * n0)) (f18 : n10 = 6) (f19 : n11 = w32 (n10 * n0)) (f20 : n12 = 1) (f21 : n13 = w32 (n11 + n12)) (f22 : n14 = 6) (f23 : n15 = w32 (n14 * n0)) (f24 : n16 = 2) (f25 : n17 = w32 (n15 + n16)) (f26 : n18 = 6) (f27 : n19 = w32 (n18 * n0)) (f28 : n20 = 3) (f29 : n21 = w32 (n19 + n20)) : 0 ≤ n21 ∧ n21 < 6048 := by
  unfold preb_228 at f3
  unfold postb_223 at f10
  unfold postb_220 at f13
  unfold postb_229 at f15
  have e2 : hV H2 285 11 = hV H1 285 11 := (uPlace f11 285 11 (iS (show n2 = ((300 : Nat) : Int) from f4) rfl))
  have e4 : hV H2 285 13 = hV H1 285 13 := (uPlace f11 285 13 (iS (show n2 = ((300 : Nat) : Int) from f4) rfl))
  have e7 : hV H3 285 15 = hV H1 285 15 := ((f13.1.2.1.1 285 15 kF_220_285_15)).trans (uPlace f11 285 15 (iS (show n2 = ((300 : Nat) : Int) from f4) rfl))
  have e11 : hV H3 288 = hV H0 288 := (fRow f13.1.2.1 288 kR_220_288).trans ((uRowNe f11 288 (iS (show n2 = ((300 : Nat) : Int) from f4) rfl)).trans (fRow f10.1.2.1 288 kR_223_288))
  have e16 : hV H3 301 = hV H0 301 := (fRow f13.1.2.1 301 kR_220_301).trans ((uRowNe f11 301 (iS (show n2 = ((300 : Nat) : Int) from f4) rfl)).trans (fRow f10.1.2.1 301 kR_223_301))
  have e21 : hV H3 302 = hV H0 302 := (fRow f13.1.2.1 302 kR_220_302).trans ((uRowNe f11 302 (iS (show n2 = ((300 : Nat) : Int) from f4) rfl)).trans (fRow f10.1.2.1 302 kR_223_302))
  have e26 : hV H3 303 = hV H0 303 := (fRow f13.1.2.1 303 kR_220_303).trans ((uRowNe f11 303 (iS (show n2 = ((300 : Nat) : Int) from f4) rfl)).trans (fRow f10.1.2.1 303 kR_223_303))
  have e31 : hV H4 285 18 = hV H0 285 18 := ((f15.1.2.1.1 285 18 kF_229_285_18)).trans (((f13.1.2.1.1 285 18 kF_220_285_18)).trans (((uPlace f11 285 18 (iS (show n2 = ((300 : Nat) : Int) from f4) rfl))).trans (f10.1.2.1.1 285 18 kF_223_285_18)))
  have e36 : hV H4 285 32 = hV H0 285 32 := ((f15.1.2.1.1 285 32 kF_229_285_32)).trans (((f13.1.2.1.1 285 32 kF_220_285_32)).trans (((uPlace f11 285 32 (iS (show n2 = ((300 : Nat) : Int) from f4) rfl))).trans (f10.1.2.1.1 285 32 kF_223_285_32)))
  have e41 : hV H4 285 33 = hV H0 285 33 := ((f15.1.2.1.1 285 33 kF_229_285_33)).trans (((f13.1.2.1.1 285 33 kF_220_285_33)).trans (((uPlace f11 285 33 (iS (show n2 = ((300 : Nat) : Int) from f4) rfl))).trans (f10.1.2.1.1 285 33 kF_223_285_33)))
  have e46 : hV H4 285 64 = hV H0 285 64 := ((f15.1.2.1.1 285 64 kF_229_285_64)).trans (((f13.1.2.1.1 285 64 kF_220_285_64)).trans (((uPlace f11 285 64 (iS (show n2 = ((300 : Nat) : Int) from f4) rfl))).trans (f10.1.2.1.1 285 64 kF_223_285_64)))
  have e53 : hV H4 294 = hV H0 294 := (fRow f15.1.2.1 294 kR_229_294).trans ((fRow f13.1.2.1 294 kR_220_294).trans ((uRowNe f11 294 (iS (show n2 = ((300 : Nat) : Int) from f4) rfl)).trans (fRow f10.1.2.1 294 kR_223_294)))
  have e60 : hV H4 296 = hV H0 296 := (fRow f15.1.2.1 296 kR_229_296).trans ((fRow f13.1.2.1 296 kR_220_296).trans ((uRowNe f11 296 (iS (show n2 = ((300 : Nat) : Int) from f4) rfl)).trans (fRow f10.1.2.1 296 kR_223_296)))
  have e67 : hV H4 297 = hV H0 297 := (fRow f15.1.2.1 297 kR_229_297).trans ((fRow f13.1.2.1 297 kR_220_297).trans ((uRowNe f11 297 (iS (show n2 = ((300 : Nat) : Int) from f4) rfl)).trans (fRow f10.1.2.1 297 kR_223_297)))
  have e74 : hV H4 298 = hV H0 298 := (fRow f15.1.2.1 298 kR_229_298).trans ((fRow f13.1.2.1 298 kR_220_298).trans ((uRowNe f11 298 (iS (show n2 = ((300 : Nat) : Int) from f4) rfl)).trans (fRow f10.1.2.1 298 kR_223_298)))
  have e81 : hV H4 300 = (uF (hV H0 300) n0 n5) := (fRow f15.1.2.1 300 kR_229_300).trans ((fRow f13.1.2.1 300 kR_220_300).trans ((uRow f11 300 f4.symm).trans (congrArg (fun z => uF z n0 n5) (fRow f10.1.2.1 300 kR_223_300))))
  have e88 : hV H4 305 = hV H0 305 := (fRow f15.1.2.1 305 kR_229_305).trans ((fRow f13.1.2.1 305 kR_220_305).trans ((uRowNe f11 305 (iS (show n2 = ((300 : Nat) : Int) from f4) rfl)).trans (fRow f10.1.2.1 305 kR_223_305)))
  have e95 : hV H4 328 = hV H0 328 := (fRow f15.1.2.1 328 kR_229_328).trans ((fRow f13.1.2.1 328 kR_220_328).trans ((uRowNe f11 328 (iS (show n2 = ((300 : Nat) : Int) from f4) rfl)).trans (fRow f10.1.2.1 328 kR_223_328)))
  have e102 : hV H4 332 = hV H0 332 := (fRow f15.1.2.1 332 kR_229_332).trans ((fRow f13.1.2.1 332 kR_220_332).trans ((uRowNe f11 332 (iS (show n2 = ((300 : Nat) : Int) from f4) rfl)).trans (fRow f10.1.2.1 332 kR_223_332)))
  have e109 : hV H4 335 = hV H0 335 := (fRow f15.1.2.1 335 kR_229_335).trans ((fRow f13.1.2.1 335 kR_220_335).trans ((uRowNe f11 335 (iS (show n2 = ((300 : Nat) : Int) from f4) rfl)).trans (fRow f10.1.2.1 335 kR_223_335)))
  have e110 : (0 : Int) ≤ hV H0 285 11 ∧ hV H0 285 11 ≤ 500 := f3.1 285 11 _ _ kW_285_11
  have e111 : (0 : Int) ≤ hV H0 285 13 ∧ hV H0 285 13 ≤ 2 := f3.1 285 13 _ _ kW_285_13
  have e112 : (0 : Int) ≤ hV H0 285 15 ∧ hV H0 285 15 ≤ 6 := f3.1 285 15 _ _ kW_285_15
  have e113 : (0 : Int) ≤ hV H0 285 18 ∧ hV H0 285 18 ≤ 8 := f3.1 285 18 _ _ kW_285_18
  have e114 : (0 : Int) ≤ hV H0 285 32 ∧ hV H0 285 32 ≤ 7 := f3.1 285 32 _ _ kW_285_32
  have e115 : (0 : Int) ≤ hV H0 285 33 ∧ hV H0 285 33 ≤ 62 := f3.1 285 33 _ _ kW_285_33
  have e116 : (0 : Int) ≤ hV H0 285 64 ∧ hV H0 285 64 ≤ 20 := f3.1 285 64 _ _ kW_285_64
  have e117 : (0 : Int) ≤ hV H1 285 11 ∧ hV H1 285 11 ≤ 500 := f10.1.2.2.2 285 11 _ _ kW_285_11
  have e118 : (0 : Int) ≤ hV H1 285 13 ∧ hV H1 285 13 ≤ 2 := f10.1.2.2.2 285 13 _ _ kW_285_13
  have e119 : (0 : Int) ≤ hV H1 285 15 ∧ hV H1 285 15 ≤ 6 := f10.1.2.2.2 285 15 _ _ kW_285_15
  have e120 : (0 : Int) ≤ hV H3 285 11 ∧ hV H3 285 11 ≤ 500 := f13.1.2.2.2 285 11 _ _ kW_285_11
  have e121 : (0 : Int) ≤ hV H3 285 13 ∧ hV H3 285 13 ≤ 2 := f13.1.2.2.2 285 13 _ _ kW_285_13
  have e123 : (0 : Int) ≤ hV H4 285 11 ∧ hV H4 285 11 ≤ 500 := f15.1.2.2.2 285 11 _ _ kW_285_11
  have e124 : (0 : Int) ≤ hV H4 285 13 ∧ hV H4 285 13 ≤ 2 := f15.1.2.2.2 285 13 _ _ kW_285_13
  have e125 : (0 : Int) ≤ hV H4 285 15 ∧ hV H4 285 15 ≤ 6 := f15.1.2.2.2 285 15 _ _ kW_285_15
  try simp only [PA, PW]
  have p0 := f3.2.1
  have p1 := f3.2.2.1
  have p2 := f3.2.2.2.1
  have p3 := f3.2.2.2.2.1
  have p4 := f3.2.2.2.2.2.1
  have p5 := f3.2.2.2.2.2.2.1
  have p6 := f3.2.2.2.2.2.2.2.1
  have p7 := f3.2.2.2.2.2.2.2.2
  have r0_0 := f10.2.1
  have r0_1 := f10.2.2.1
  have r0_2 := f10.2.2.2.1
  have r0_3 := f10.2.2.2.2.1
  have r0_4 := f10.2.2.2.2.2.1
  have r0_5 := f10.2.2.2.2.2.2.1
  have r0_6 := f10.2.2.2.2.2.2.2.1
  have r1_0 := f13.2.1
  have r1_1 := f13.2.2.1
  have r1_2 := f13.2.2.2.1
  have r1_3 := f13.2.2.2.2.1
  have r2_0 := f15.2.1
  have r2_1 := f15.2.2.1
  have r2_2 := f15.2.2.2.1
  have r2_3 := f15.2.2.2.2.1
  have r2_4 := f15.2.2.2.2.2.1
  have r2_5 := f15.2.2.2.2.2.2.1
  have r2_6 := f15.2.2.2.2.2.2.2.1
  have r2_7 := f15.2.2.2.2.2.2.2.2.1 f14
  try simp only [PA] at p0
  try simp only [PW] at p5
  try simp only [PA] at r2_0
  try simp only [PW] at r2_1
  try simp only [e2] at r1_0
  try simp only [e2] at r1_1
  try simp only [e4] at r1_2
  try simp only [e2] at r1_3
  try simp only [e31, e46, e53, e60, e74, e81, e88, e95, e102, e109] at r2_0
  try simp only [e36, e41, e53, e60, e67, e74, e81, e88] at r2_1
  try simp only [e7] at r2_5
  try simp only [e7] at r2_6
  try simp only [e7, e11, e16, e21, e26, e31, e36, e41, e46, e53, e60, e67, e74, e81, e88, e95, e102, e109] at r2_7
  have wb0 := (p7 (hV H0 285 32).toNat).1
  have wp0 := (p7 (hV H0 285 33).toNat).2
  clear f5 e2 e4 e7 e11 e16 e21 e26 e31 e36 e41 e46 e53 e60 e67 e74 e81 e88 e95 e102 e109
  clear f3 f10 f13 f15
  rw [f16] at f17
  rw [f18] at f19
  rw [f22] at f23
  rw [f26] at f27
  first
  | (have ix0 : n19 = 6 * n0 := Eq.trans f27 (w32_iv (Iml 6 rfl (Iat f1 f0)) (by decide)); subst ix0; clear f27)
  | (have ix0 : n19 = 6 * n0 := Eq.trans f27 (w32_id (by omega) (by omega)); subst ix0; clear f27)
  | (unfold w32 at f27; have ix0 : n19 = 6 * n0 := (by omega); subst ix0)
  | skip
  first
  | (have ix1 : n21 = (6 * n0) + 3 := Eq.trans f29 (w32_iv (Iad (Iml 6 rfl (Iat f1 f0)) (IC 3)) (by decide)); subst ix1; clear f29)
  | (have ix1 : n21 = (6 * n0) + 3 := Eq.trans f29 (w32_id (by omega) (by omega)); subst ix1; clear f29)
  | (unfold w32 at f29; have ix1 : n21 = (6 * n0) + 3 := (by omega); subst ix1)
  | skip
  try unfold w32 at f17
  try unfold w32 at f19
  try unfold w32 at f21
  try unfold w32 at f23
  try unfold w32 at f25
  try unfold w32 at f27
  try unfold w32 at f29

  (try clear p0 p5 p7 r2_0 r2_1)
  omega
def g_228_s_4 : vG := ([(1, [28, 26, 27], [], 0), (0, [27], [], 3), (3, [26, 25, 1], [], 0), (0, [25], [], 6), (1, [22, 20, 21], [], 0), (0, [21], [], 2), (3, [20, 19, 1], [], 0), (0, [19], [], 6), (1, [16, 14, 15], [], 0), (0, [15], [], 1), (3, [14, 13, 1], [], 0), (0, [13], [], 6), (3, [10, 9, 1], [], 0), (0, [9], [], 6), (1229, [0, 1, 7], [3, 4], 0), (0, [7], [], 0), (1220, [0, 6], [2, 3], 0), (0, [6], [], 25), (80, [2, 1, 5], [2, 1], 0), (1223, [5, 0, 3, 4], [0, 1], 0), (90, [5], [], 0), (91, [5], [], 9999), (0, [4], [], 19), (0, [3], [], 0), (20, [2, 0], [0], 26), (0, [2], [], 300), (6000, [0, 1], [0], 0), (0, [0], [], 285), (90, [1], [], 0), (91, [1], [], 1007)], (70, [28], [], 6048))
theorem c_228_s_4 : vOkm T0 (eP e_228 L_228 A_228 mu_228 none) 2 g_228_s_4 := vOk_inI fun ρ η f0 f1 f2 f3 f4 f5 f6 f7 f8 f9 f10 f11 f12 f13 f14 f15 f16 f17 f18 f19 f20 f21 f22 f23 f24 f25 f26 f27 f28 f29 => q_228_4 (n0 := ρ 1) (n1 := ρ 0) (n2 := ρ 2) (n3 := ρ 3) (n4 := ρ 4) (n5 := ρ 5) (n6 := ρ 6) (n7 := ρ 7) (n8 := ρ 9) (n9 := ρ 10) (n10 := ρ 13) (n11 := ρ 14) (n12 := ρ 15) (n13 := ρ 16) (n14 := ρ 19) (n15 := ρ 20) (n16 := ρ 21) (n17 := ρ 22) (n18 := ρ 25) (n19 := ρ 26) (n20 := ρ 27) (n21 := ρ 28) (H0 := η 0) (H1 := η 1) (H2 := η 2) (H3 := η 3) (H4 := η 4) f29 f28 f27 f26 f25 f24 f23 f22 f21 f20 f19 f18 f17 f16 f15 f14 f13 f12 f11 f10 f9 f8 f7 f6 f5 f4 f3 f2 f1 f0
set_option maxHeartbeats 20000000 in
theorem q_228_5 {n0 n1 n2 n3 n4 n5 n6 n7 n8 n9 n10 n11 n12 n13 n14 n15 n16 n17 n18 n19 n20 n21 n22 n23 n24 n25 : Int} {H0 H1 H2 H3 H4 : gH} (f0 : n0 ≤ 1007) (f1 : 0 ≤ n0) (f2 : n1 = 285) (f3 : hWt T0 H0 ∧ preb_228 n1 n0 H0) (f4 : n2 = 300) (f5 : n2 = hV H0 (n1).toNat 26) (f6 : n3 = 0) (f7 : n4 = 19) (f8 : n5 ≤ 9999) (f9 : 0 ≤ n5) (f10 : (hLe T0 H0 H1 ∧ hFr s_223.2.2.2.2 H0 H1 ∧ ((0 : Int) = 0 → H1.length = H0.length) ∧ hWt T0 H1) ∧ postb_223 n5 n1 n3 n4 H0 H1) (f11 : hUpd H2 H1 n2 n0 n5) (f12 : n6 = 25) (f13 : (hLe T0 H2 H3 ∧ hFr s_220.2.2.2.2 H2 H3 ∧ ((0 : Int) = 0 → H3.length = H2.length) ∧ hWt T0 H3) ∧ postb_220 n1 n6 H2 H3) (f14 : n7 = 0) (f15 : (hLe T0 H3 H4 ∧ hFr s_229.2.2.2.2 H3 H4 ∧ ((0 : Int) = 0 → H4.length = H3.length) ∧ hWt T0 H4) ∧ postb_229 n1 n0 n7 H3 H4) (f16 : n8 = 6) (f17 : n9 = w32 (n8 * n0)) (f18 : n10 = 6) (f19 : n11 = w32 (n10 * n0)) (f20 : n12 = 1) (f21 : n13 = w32 (n11 + n12)) (f22 : n14 = 6) (f23 : n15 = w32 (n14 * n0)) (f24 : n16 = 2) (f25 : n17 = w32 (n15 + n16)) (f26 : n18 = 6) (f27 : n19 = w32 (n18 * n0)) (f28 : n20 = 3) (f29 : n21 = w32 (n19 + n20)) (f30 : n22 = 6) (f31 : n23 = w32 (n22 * n0)) (f32 : n24 = 4) (f33 : n25 = w32 (n23 + n24)) : 0 ≤ n25 ∧ n25 < 6048 := by
  unfold preb_228 at f3
  unfold postb_223 at f10
  unfold postb_220 at f13
  unfold postb_229 at f15
  have e2 : hV H2 285 11 = hV H1 285 11 := (uPlace f11 285 11 (iS (show n2 = ((300 : Nat) : Int) from f4) rfl))
  have e4 : hV H2 285 13 = hV H1 285 13 := (uPlace f11 285 13 (iS (show n2 = ((300 : Nat) : Int) from f4) rfl))
  have e7 : hV H3 285 15 = hV H1 285 15 := ((f13.1.2.1.1 285 15 kF_220_285_15)).trans (uPlace f11 285 15 (iS (show n2 = ((300 : Nat) : Int) from f4) rfl))
  have e11 : hV H3 288 = hV H0 288 := (fRow f13.1.2.1 288 kR_220_288).trans ((uRowNe f11 288 (iS (show n2 = ((300 : Nat) : Int) from f4) rfl)).trans (fRow f10.1.2.1 288 kR_223_288))
  have e16 : hV H3 301 = hV H0 301 := (fRow f13.1.2.1 301 kR_220_301).trans ((uRowNe f11 301 (iS (show n2 = ((300 : Nat) : Int) from f4) rfl)).trans (fRow f10.1.2.1 301 kR_223_301))
  have e21 : hV H3 302 = hV H0 302 := (fRow f13.1.2.1 302 kR_220_302).trans ((uRowNe f11 302 (iS (show n2 = ((300 : Nat) : Int) from f4) rfl)).trans (fRow f10.1.2.1 302 kR_223_302))
  have e26 : hV H3 303 = hV H0 303 := (fRow f13.1.2.1 303 kR_220_303).trans ((uRowNe f11 303 (iS (show n2 = ((300 : Nat) : Int) from f4) rfl)).trans (fRow f10.1.2.1 303 kR_223_303))
  have e31 : hV H4 285 18 = hV H0 285 18 := ((f15.1.2.1.1 285 18 kF_229_285_18)).trans (((f13.1.2.1.1 285 18 kF_220_285_18)).trans (((uPlace f11 285 18 (iS (show n2 = ((300 : Nat) : Int) from f4) rfl))).trans (f10.1.2.1.1 285 18 kF_223_285_18)))
  have e36 : hV H4 285 32 = hV H0 285 32 := ((f15.1.2.1.1 285 32 kF_229_285_32)).trans (((f13.1.2.1.1 285 32 kF_220_285_32)).trans (((uPlace f11 285 32 (iS (show n2 = ((300 : Nat) : Int) from f4) rfl))).trans (f10.1.2.1.1 285 32 kF_223_285_32)))
  have e41 : hV H4 285 33 = hV H0 285 33 := ((f15.1.2.1.1 285 33 kF_229_285_33)).trans (((f13.1.2.1.1 285 33 kF_220_285_33)).trans (((uPlace f11 285 33 (iS (show n2 = ((300 : Nat) : Int) from f4) rfl))).trans (f10.1.2.1.1 285 33 kF_223_285_33)))
  have e46 : hV H4 285 64 = hV H0 285 64 := ((f15.1.2.1.1 285 64 kF_229_285_64)).trans (((f13.1.2.1.1 285 64 kF_220_285_64)).trans (((uPlace f11 285 64 (iS (show n2 = ((300 : Nat) : Int) from f4) rfl))).trans (f10.1.2.1.1 285 64 kF_223_285_64)))
  have e53 : hV H4 294 = hV H0 294 := (fRow f15.1.2.1 294 kR_229_294).trans ((fRow f13.1.2.1 294 kR_220_294).trans ((uRowNe f11 294 (iS (show n2 = ((300 : Nat) : Int) from f4) rfl)).trans (fRow f10.1.2.1 294 kR_223_294)))
  have e60 : hV H4 296 = hV H0 296 := (fRow f15.1.2.1 296 kR_229_296).trans ((fRow f13.1.2.1 296 kR_220_296).trans ((uRowNe f11 296 (iS (show n2 = ((300 : Nat) : Int) from f4) rfl)).trans (fRow f10.1.2.1 296 kR_223_296)))
  have e67 : hV H4 297 = hV H0 297 := (fRow f15.1.2.1 297 kR_229_297).trans ((fRow f13.1.2.1 297 kR_220_297).trans ((uRowNe f11 297 (iS (show n2 = ((300 : Nat) : Int) from f4) rfl)).trans (fRow f10.1.2.1 297 kR_223_297)))
  have e74 : hV H4 298 = hV H0 298 := (fRow f15.1.2.1 298 kR_229_298).trans ((fRow f13.1.2.1 298 kR_220_298).trans ((uRowNe f11 298 (iS (show n2 = ((300 : Nat) : Int) from f4) rfl)).trans (fRow f10.1.2.1 298 kR_223_298)))
  have e81 : hV H4 300 = (uF (hV H0 300) n0 n5) := (fRow f15.1.2.1 300 kR_229_300).trans ((fRow f13.1.2.1 300 kR_220_300).trans ((uRow f11 300 f4.symm).trans (congrArg (fun z => uF z n0 n5) (fRow f10.1.2.1 300 kR_223_300))))
  have e88 : hV H4 305 = hV H0 305 := (fRow f15.1.2.1 305 kR_229_305).trans ((fRow f13.1.2.1 305 kR_220_305).trans ((uRowNe f11 305 (iS (show n2 = ((300 : Nat) : Int) from f4) rfl)).trans (fRow f10.1.2.1 305 kR_223_305)))
  have e95 : hV H4 328 = hV H0 328 := (fRow f15.1.2.1 328 kR_229_328).trans ((fRow f13.1.2.1 328 kR_220_328).trans ((uRowNe f11 328 (iS (show n2 = ((300 : Nat) : Int) from f4) rfl)).trans (fRow f10.1.2.1 328 kR_223_328)))
  have e102 : hV H4 332 = hV H0 332 := (fRow f15.1.2.1 332 kR_229_332).trans ((fRow f13.1.2.1 332 kR_220_332).trans ((uRowNe f11 332 (iS (show n2 = ((300 : Nat) : Int) from f4) rfl)).trans (fRow f10.1.2.1 332 kR_223_332)))
  have e109 : hV H4 335 = hV H0 335 := (fRow f15.1.2.1 335 kR_229_335).trans ((fRow f13.1.2.1 335 kR_220_335).trans ((uRowNe f11 335 (iS (show n2 = ((300 : Nat) : Int) from f4) rfl)).trans (fRow f10.1.2.1 335 kR_223_335)))
  have e110 : (0 : Int) ≤ hV H0 285 11 ∧ hV H0 285 11 ≤ 500 := f3.1 285 11 _ _ kW_285_11
  have e111 : (0 : Int) ≤ hV H0 285 13 ∧ hV H0 285 13 ≤ 2 := f3.1 285 13 _ _ kW_285_13
  have e112 : (0 : Int) ≤ hV H0 285 15 ∧ hV H0 285 15 ≤ 6 := f3.1 285 15 _ _ kW_285_15
  have e113 : (0 : Int) ≤ hV H0 285 18 ∧ hV H0 285 18 ≤ 8 := f3.1 285 18 _ _ kW_285_18
  have e114 : (0 : Int) ≤ hV H0 285 32 ∧ hV H0 285 32 ≤ 7 := f3.1 285 32 _ _ kW_285_32
  have e115 : (0 : Int) ≤ hV H0 285 33 ∧ hV H0 285 33 ≤ 62 := f3.1 285 33 _ _ kW_285_33
  have e116 : (0 : Int) ≤ hV H0 285 64 ∧ hV H0 285 64 ≤ 20 := f3.1 285 64 _ _ kW_285_64
  have e117 : (0 : Int) ≤ hV H1 285 11 ∧ hV H1 285 11 ≤ 500 := f10.1.2.2.2 285 11 _ _ kW_285_11
  have e118 : (0 : Int) ≤ hV H1 285 13 ∧ hV H1 285 13 ≤ 2 := f10.1.2.2.2 285 13 _ _ kW_285_13
  have e119 : (0 : Int) ≤ hV H1 285 15 ∧ hV H1 285 15 ≤ 6 := f10.1.2.2.2 285 15 _ _ kW_285_15
  have e120 : (0 : Int) ≤ hV H3 285 11 ∧ hV H3 285 11 ≤ 500 := f13.1.2.2.2 285 11 _ _ kW_285_11
  have e121 : (0 : Int) ≤ hV H3 285 13 ∧ hV H3 285 13 ≤ 2 := f13.1.2.2.2 285 13 _ _ kW_285_13
  have e123 : (0 : Int) ≤ hV H4 285 11 ∧ hV H4 285 11 ≤ 500 := f15.1.2.2.2 285 11 _ _ kW_285_11
  have e124 : (0 : Int) ≤ hV H4 285 13 ∧ hV H4 285 13 ≤ 2 := f15.1.2.2.2 285 13 _ _ kW_285_13
  have e125 : (0 : Int) ≤ hV H4 285 15 ∧ hV H4 285 15 ≤ 6 := f15.1.2.2.2 285 15 _ _ kW_285_15
  try simp only [PA, PW]
  have p0 := f3.2.1
  have p1 := f3.2.2.1
  have p2 := f3.2.2.2.1
  have p3 := f3.2.2.2.2.1
  have p4 := f3.2.2.2.2.2.1
  have p5 := f3.2.2.2.2.2.2.1
  have p6 := f3.2.2.2.2.2.2.2.1
  have p7 := f3.2.2.2.2.2.2.2.2
  have r0_0 := f10.2.1
  have r0_1 := f10.2.2.1
  have r0_2 := f10.2.2.2.1
  have r0_3 := f10.2.2.2.2.1
  have r0_4 := f10.2.2.2.2.2.1
  have r0_5 := f10.2.2.2.2.2.2.1
  have r0_6 := f10.2.2.2.2.2.2.2.1
  have r1_0 := f13.2.1
  have r1_1 := f13.2.2.1
  have r1_2 := f13.2.2.2.1
  have r1_3 := f13.2.2.2.2.1
  have r2_0 := f15.2.1
  have r2_1 := f15.2.2.1
  have r2_2 := f15.2.2.2.1
  have r2_3 := f15.2.2.2.2.1
  have r2_4 := f15.2.2.2.2.2.1
  have r2_5 := f15.2.2.2.2.2.2.1
  have r2_6 := f15.2.2.2.2.2.2.2.1
  have r2_7 := f15.2.2.2.2.2.2.2.2.1 f14
  try simp only [PA] at p0
  try simp only [PW] at p5
  try simp only [PA] at r2_0
  try simp only [PW] at r2_1
  try simp only [e2] at r1_0
  try simp only [e2] at r1_1
  try simp only [e4] at r1_2
  try simp only [e2] at r1_3
  try simp only [e31, e46, e53, e60, e74, e81, e88, e95, e102, e109] at r2_0
  try simp only [e36, e41, e53, e60, e67, e74, e81, e88] at r2_1
  try simp only [e7] at r2_5
  try simp only [e7] at r2_6
  try simp only [e7, e11, e16, e21, e26, e31, e36, e41, e46, e53, e60, e67, e74, e81, e88, e95, e102, e109] at r2_7
  have wb0 := (p7 (hV H0 285 32).toNat).1
  have wp0 := (p7 (hV H0 285 33).toNat).2
  clear f5 e2 e4 e7 e11 e16 e21 e26 e31 e36 e41 e46 e53 e60 e67 e74 e81 e88 e95 e102 e109
  clear f3 f10 f13 f15
  rw [f16] at f17
  rw [f18] at f19
  rw [f22] at f23
  rw [f26] at f27
  rw [f30] at f31
  first
  | (have ix0 : n23 = 6 * n0 := Eq.trans f31 (w32_iv (Iml 6 rfl (Iat f1 f0)) (by decide)); subst ix0; clear f31)
  | (have ix0 : n23 = 6 * n0 := Eq.trans f31 (w32_id (by omega) (by omega)); subst ix0; clear f31)
  | (unfold w32 at f31; have ix0 : n23 = 6 * n0 := (by omega); subst ix0)
  | skip
  first
  | (have ix1 : n25 = (6 * n0) + 4 := Eq.trans f33 (w32_iv (Iad (Iml 6 rfl (Iat f1 f0)) (IC 4)) (by decide)); subst ix1; clear f33)
  | (have ix1 : n25 = (6 * n0) + 4 := Eq.trans f33 (w32_id (by omega) (by omega)); subst ix1; clear f33)
  | (unfold w32 at f33; have ix1 : n25 = (6 * n0) + 4 := (by omega); subst ix1)
  | skip
  try unfold w32 at f17
  try unfold w32 at f19
  try unfold w32 at f21
  try unfold w32 at f23
  try unfold w32 at f25
  try unfold w32 at f27
  try unfold w32 at f29
  try unfold w32 at f31
  try unfold w32 at f33

  (try clear p0 p5 p7 r2_0 r2_1)
  omega
def g_228_s_5 : vG := ([(1, [34, 32, 33], [], 0), (0, [33], [], 4), (3, [32, 31, 1], [], 0), (0, [31], [], 6), (1, [28, 26, 27], [], 0), (0, [27], [], 3), (3, [26, 25, 1], [], 0), (0, [25], [], 6), (1, [22, 20, 21], [], 0), (0, [21], [], 2), (3, [20, 19, 1], [], 0), (0, [19], [], 6), (1, [16, 14, 15], [], 0), (0, [15], [], 1), (3, [14, 13, 1], [], 0), (0, [13], [], 6), (3, [10, 9, 1], [], 0), (0, [9], [], 6), (1229, [0, 1, 7], [3, 4], 0), (0, [7], [], 0), (1220, [0, 6], [2, 3], 0), (0, [6], [], 25), (80, [2, 1, 5], [2, 1], 0), (1223, [5, 0, 3, 4], [0, 1], 0), (90, [5], [], 0), (91, [5], [], 9999), (0, [4], [], 19), (0, [3], [], 0), (20, [2, 0], [0], 26), (0, [2], [], 300), (6000, [0, 1], [0], 0), (0, [0], [], 285), (90, [1], [], 0), (91, [1], [], 1007)], (70, [34], [], 6048))
theorem c_228_s_5 : vOkm T0 (eP e_228 L_228 A_228 mu_228 none) 2 g_228_s_5 := vOk_inI fun ρ η f0 f1 f2 f3 f4 f5 f6 f7 f8 f9 f10 f11 f12 f13 f14 f15 f16 f17 f18 f19 f20 f21 f22 f23 f24 f25 f26 f27 f28 f29 f30 f31 f32 f33 => q_228_5 (n0 := ρ 1) (n1 := ρ 0) (n2 := ρ 2) (n3 := ρ 3) (n4 := ρ 4) (n5 := ρ 5) (n6 := ρ 6) (n7 := ρ 7) (n8 := ρ 9) (n9 := ρ 10) (n10 := ρ 13) (n11 := ρ 14) (n12 := ρ 15) (n13 := ρ 16) (n14 := ρ 19) (n15 := ρ 20) (n16 := ρ 21) (n17 := ρ 22) (n18 := ρ 25) (n19 := ρ 26) (n20 := ρ 27) (n21 := ρ 28) (n22 := ρ 31) (n23 := ρ 32) (n24 := ρ 33) (n25 := ρ 34) (H0 := η 0) (H1 := η 1) (H2 := η 2) (H3 := η 3) (H4 := η 4) f33 f32 f31 f30 f29 f28 f27 f26 f25 f24 f23 f22 f21 f20 f19 f18 f17 f16 f15 f14 f13 f12 f11 f10 f9 f8 f7 f6 f5 f4 f3 f2 f1 f0
set_option maxHeartbeats 20000000 in
theorem q_228_6 {n0 n1 n2 n3 n4 n5 n6 n7 n8 n9 n10 n11 n12 n13 n14 n15 n16 n17 n18 n19 n20 n21 n22 n23 n24 n25 n26 n27 n28 n29 n30 n31 n32 n33 n34 n35 n36 n37 : Int} {H0 H1 H2 H3 H4 H5 H6 H7 H8 H9 H10 : gH} (f0 : n0 ≤ 1007) (f1 : 0 ≤ n0) (f2 : n1 = 285) (f3 : hWt T0 H0 ∧ preb_228 n1 n0 H0) (f4 : n2 = 300) (f5 : n2 = hV H0 (n1).toNat 26) (f6 : n3 = 0) (f7 : n4 = 19) (f8 : n5 ≤ 9999) (f9 : 0 ≤ n5) (f10 : (hLe T0 H0 H1 ∧ hFr s_223.2.2.2.2 H0 H1 ∧ ((0 : Int) = 0 → H1.length = H0.length) ∧ hWt T0 H1) ∧ postb_223 n5 n1 n3 n4 H0 H1) (f11 : hUpd H2 H1 n2 n0 n5) (f12 : n6 = 25) (f13 : (hLe T0 H2 H3 ∧ hFr s_220.2.2.2.2 H2 H3 ∧ ((0 : Int) = 0 → H3.length = H2.length) ∧ hWt T0 H3) ∧ postb_220 n1 n6 H2 H3) (f14 : n7 = 0) (f15 : (hLe T0 H3 H4 ∧ hFr s_229.2.2.2.2 H3 H4 ∧ ((0 : Int) = 0 → H4.length = H3.length) ∧ hWt T0 H4) ∧ postb_229 n1 n0 n7 H3 H4) (f16 : n8 = 305) (f17 : n8 = hV H4 (n1).toNat 31) (f18 : n9 = 6) (f19 : n10 = w32 (n9 * n0)) (f20 : n11 = 0) (f21 : hUpd H5 H4 n8 n10 n11) (f22 : n12 = 305) (f23 : n12 = hV H5 (n1).toNat 31) (f24 : n13 = 6) (f25 : n14 = w32 (n13 * n0)) (f26 : n15 = 1) (f27 : n16 = w32 (n14 + n15)) (f28 : n17 = (-1)) (f29 : hUpd H6 H5 n12 n16 n17) (f30 : n18 = 305) (f31 : n18 = hV H6 (n1).toNat 31) (f32 : n19 = 6) (f33 : n20 = w32 (n19 * n0)) (f34 : n21 = 2) (f35 : n22 = w32 (n20 + n21)) (f36 : n23 = 100) (f37 : hUpd H7 H6 n18 n22 n23) (f38 : n24 = 305) (f39 : n24 = hV H7 (n1).toNat 31) (f40 : n25 = 6) (f41 : n26 = w32 (n25 * n0)) (f42 : n27 = 3) (f43 : n28 = w32 (n26 + n27)) (f44 : n29 = 1) (f45 : hUpd H8 H7 n24 n28 n29) (f46 : n30 = 305) (f47 : n30 = hV H8 (n1).toNat 31) (f48 : n31 = 6) (f49 : n32 = w32 (n31 * n0)) (f50 : n33 = 4) (f51 : n34 = w32 (n32 + n33)) (f52 : n35 = 1) (f53 : hUpd H9 H8 n30 n34 n35) (f54 : n36 = 26) (f55 : n37 ≤ 1) (f56 : 0 ≤ n37) (f57 : (hLe T0 H9 H10 ∧ hFr s_216.2.2.2.2 H9 H10 ∧ ((0 : Int) = 0 → H10.length = H9.length) ∧ hWt T0 H10) ∧ postb_216 n37 n1 n36 H9 H10) (f58 : n37 = 0) : Ab_228_113 n1 n0 n1 n0 H0 H10 ∧ ∀ q, none = some q → mub_228_113 n1 n0 n1 n0 H0 H10 < q := by
  unfold preb_228 at f3
  unfold postb_223 at f10
  unfold postb_220 at f13
  unfold postb_229 at f15
  unfold postb_216 at f57
  unfold Ab_228_113
  have e7 : hV H10 285 11 = hV H4 285 11 := ((f57.1.2.1.1 285 11 kF_216_285_11)).trans (((uPlace f53 285 11 (iS (show n30 = ((305 : Nat) : Int) from f46) rfl))).trans (((uPlace f45 285 11 (iS (show n24 = ((305 : Nat) : Int) from f38) rfl))).trans (((uPlace f37 285 11 (iS (show n18 = ((305 : Nat) : Int) from f30) rfl))).trans (((uPlace f29 285 11 (iS (show n12 = ((305 : Nat) : Int) from f22) rfl))).trans (uPlace f21 285 11 (iS (show n8 = ((305 : Nat) : Int) from f16) rfl))))))
  have e14 : hV H10 285 13 = hV H4 285 13 := ((f57.1.2.1.1 285 13 kF_216_285_13)).trans (((uPlace f53 285 13 (iS (show n30 = ((305 : Nat) : Int) from f46) rfl))).trans (((uPlace f45 285 13 (iS (show n24 = ((305 : Nat) : Int) from f38) rfl))).trans (((uPlace f37 285 13 (iS (show n18 = ((305 : Nat) : Int) from f30) rfl))).trans (((uPlace f29 285 13 (iS (show n12 = ((305 : Nat) : Int) from f22) rfl))).trans (uPlace f21 285 13 (iS (show n8 = ((305 : Nat) : Int) from f16) rfl))))))
  have e21 : hV H10 285 15 = hV H4 285 15 := ((f57.1.2.1.1 285 15 kF_216_285_15)).trans (((uPlace f53 285 15 (iS (show n30 = ((305 : Nat) : Int) from f46) rfl))).trans (((uPlace f45 285 15 (iS (show n24 = ((305 : Nat) : Int) from f38) rfl))).trans (((uPlace f37 285 15 (iS (show n18 = ((305 : Nat) : Int) from f30) rfl))).trans (((uPlace f29 285 15 (iS (show n12 = ((305 : Nat) : Int) from f22) rfl))).trans (uPlace f21 285 15 (iS (show n8 = ((305 : Nat) : Int) from f16) rfl))))))
  have e32 : hV H10 285 18 = hV H0 285 18 := ((f57.1.2.1.1 285 18 kF_216_285_18)).trans (((uPlace f53 285 18 (iS (show n30 = ((305 : Nat) : Int) from f46) rfl))).trans (((uPlace f45 285 18 (iS (show n24 = ((305 : Nat) : Int) from f38) rfl))).trans (((uPlace f37 285 18 (iS (show n18 = ((305 : Nat) : Int) from f30) rfl))).trans (((uPlace f29 285 18 (iS (show n12 = ((305 : Nat) : Int) from f22) rfl))).trans (((uPlace f21 285 18 (iS (show n8 = ((305 : Nat) : Int) from f16) rfl))).trans (((f15.1.2.1.1 285 18 kF_229_285_18)).trans (((f13.1.2.1.1 285 18 kF_220_285_18)).trans (((uPlace f11 285 18 (iS (show n2 = ((300 : Nat) : Int) from f4) rfl))).trans (f10.1.2.1.1 285 18 kF_223_285_18)))))))))
  have e43 : hV H10 285 32 = hV H0 285 32 := ((f57.1.2.1.1 285 32 kF_216_285_32)).trans (((uPlace f53 285 32 (iS (show n30 = ((305 : Nat) : Int) from f46) rfl))).trans (((uPlace f45 285 32 (iS (show n24 = ((305 : Nat) : Int) from f38) rfl))).trans (((uPlace f37 285 32 (iS (show n18 = ((305 : Nat) : Int) from f30) rfl))).trans (((uPlace f29 285 32 (iS (show n12 = ((305 : Nat) : Int) from f22) rfl))).trans (((uPlace f21 285 32 (iS (show n8 = ((305 : Nat) : Int) from f16) rfl))).trans (((f15.1.2.1.1 285 32 kF_229_285_32)).trans (((f13.1.2.1.1 285 32 kF_220_285_32)).trans (((uPlace f11 285 32 (iS (show n2 = ((300 : Nat) : Int) from f4) rfl))).trans (f10.1.2.1.1 285 32 kF_223_285_32)))))))))
  have e54 : hV H10 285 33 = hV H0 285 33 := ((f57.1.2.1.1 285 33 kF_216_285_33)).trans (((uPlace f53 285 33 (iS (show n30 = ((305 : Nat) : Int) from f46) rfl))).trans (((uPlace f45 285 33 (iS (show n24 = ((305 : Nat) : Int) from f38) rfl))).trans (((uPlace f37 285 33 (iS (show n18 = ((305 : Nat) : Int) from f30) rfl))).trans (((uPlace f29 285 33 (iS (show n12 = ((305 : Nat) : Int) from f22) rfl))).trans (((uPlace f21 285 33 (iS (show n8 = ((305 : Nat) : Int) from f16) rfl))).trans (((f15.1.2.1.1 285 33 kF_229_285_33)).trans (((f13.1.2.1.1 285 33 kF_220_285_33)).trans (((uPlace f11 285 33 (iS (show n2 = ((300 : Nat) : Int) from f4) rfl))).trans (f10.1.2.1.1 285 33 kF_223_285_33)))))))))
  have e65 : hV H10 285 64 = hV H0 285 64 := ((f57.1.2.1.1 285 64 kF_216_285_64)).trans (((uPlace f53 285 64 (iS (show n30 = ((305 : Nat) : Int) from f46) rfl))).trans (((uPlace f45 285 64 (iS (show n24 = ((305 : Nat) : Int) from f38) rfl))).trans (((uPlace f37 285 64 (iS (show n18 = ((305 : Nat) : Int) from f30) rfl))).trans (((uPlace f29 285 64 (iS (show n12 = ((305 : Nat) : Int) from f22) rfl))).trans (((uPlace f21 285 64 (iS (show n8 = ((305 : Nat) : Int) from f16) rfl))).trans (((f15.1.2.1.1 285 64 kF_229_285_64)).trans (((f13.1.2.1.1 285 64 kF_220_285_64)).trans (((uPlace f11 285 64 (iS (show n2 = ((300 : Nat) : Int) from f4) rfl))).trans (f10.1.2.1.1 285 64 kF_223_285_64)))))))))
  have e76 : hV H3 288 = hV H0 288 := (fRow f13.1.2.1 288 kR_220_288).trans ((uRowNe f11 288 (iS (show n2 = ((300 : Nat) : Int) from f4) rfl)).trans (fRow f10.1.2.1 288 kR_223_288))
  have e96 : hV H4 294 = hV H0 294 := (fRow f15.1.2.1 294 kR_229_294).trans ((fRow f13.1.2.1 294 kR_220_294).trans ((uRowNe f11 294 (iS (show n2 = ((300 : Nat) : Int) from f4) rfl)).trans (fRow f10.1.2.1 294 kR_223_294)))
  have e102 : hV H10 294 = hV H0 294 := (fRow f57.1.2.1 294 kR_216_294).trans ((uRowNe f53 294 (iS (show n30 = ((305 : Nat) : Int) from f46) rfl)).trans ((uRowNe f45 294 (iS (show n24 = ((305 : Nat) : Int) from f38) rfl)).trans ((uRowNe f37 294 (iS (show n18 = ((305 : Nat) : Int) from f30) rfl)).trans ((uRowNe f29 294 (iS (show n12 = ((305 : Nat) : Int) from f22) rfl)).trans ((uRowNe f21 294 (iS (show n8 = ((305 : Nat) : Int) from f16) rfl)).trans e96)))))
  have e115 : hV H4 296 = hV H0 296 := (fRow f15.1.2.1 296 kR_229_296).trans ((fRow f13.1.2.1 296 kR_220_296).trans ((uRowNe f11 296 (iS (show n2 = ((300 : Nat) : Int) from f4) rfl)).trans (fRow f10.1.2.1 296 kR_223_296)))
  have e121 : hV H10 296 = hV H0 296 := (fRow f57.1.2.1 296 kR_216_296).trans ((uRowNe f53 296 (iS (show n30 = ((305 : Nat) : Int) from f46) rfl)).trans ((uRowNe f45 296 (iS (show n24 = ((305 : Nat) : Int) from f38) rfl)).trans ((uRowNe f37 296 (iS (show n18 = ((305 : Nat) : Int) from f30) rfl)).trans ((uRowNe f29 296 (iS (show n12 = ((305 : Nat) : Int) from f22) rfl)).trans ((uRowNe f21 296 (iS (show n8 = ((305 : Nat) : Int) from f16) rfl)).trans e115)))))
  have e134 : hV H4 297 = hV H0 297 := (fRow f15.1.2.1 297 kR_229_297).trans ((fRow f13.1.2.1 297 kR_220_297).trans ((uRowNe f11 297 (iS (show n2 = ((300 : Nat) : Int) from f4) rfl)).trans (fRow f10.1.2.1 297 kR_223_297)))
  have e140 : hV H10 297 = hV H0 297 := (fRow f57.1.2.1 297 kR_216_297).trans ((uRowNe f53 297 (iS (show n30 = ((305 : Nat) : Int) from f46) rfl)).trans ((uRowNe f45 297 (iS (show n24 = ((305 : Nat) : Int) from f38) rfl)).trans ((uRowNe f37 297 (iS (show n18 = ((305 : Nat) : Int) from f30) rfl)).trans ((uRowNe f29 297 (iS (show n12 = ((305 : Nat) : Int) from f22) rfl)).trans ((uRowNe f21 297 (iS (show n8 = ((305 : Nat) : Int) from f16) rfl)).trans e134)))))
  have e153 : hV H4 298 = hV H0 298 := (fRow f15.1.2.1 298 kR_229_298).trans ((fRow f13.1.2.1 298 kR_220_298).trans ((uRowNe f11 298 (iS (show n2 = ((300 : Nat) : Int) from f4) rfl)).trans (fRow f10.1.2.1 298 kR_223_298)))
  have e159 : hV H10 298 = hV H0 298 := (fRow f57.1.2.1 298 kR_216_298).trans ((uRowNe f53 298 (iS (show n30 = ((305 : Nat) : Int) from f46) rfl)).trans ((uRowNe f45 298 (iS (show n24 = ((305 : Nat) : Int) from f38) rfl)).trans ((uRowNe f37 298 (iS (show n18 = ((305 : Nat) : Int) from f30) rfl)).trans ((uRowNe f29 298 (iS (show n12 = ((305 : Nat) : Int) from f22) rfl)).trans ((uRowNe f21 298 (iS (show n8 = ((305 : Nat) : Int) from f16) rfl)).trans e153)))))
  have e172 : hV H4 300 = (uF (hV H0 300) n0 n5) := (fRow f15.1.2.1 300 kR_229_300).trans ((fRow f13.1.2.1 300 kR_220_300).trans ((uRow f11 300 f4.symm).trans (congrArg (fun z => uF z n0 n5) (fRow f10.1.2.1 300 kR_223_300))))
  have e178 : hV H10 300 = (uF (hV H0 300) n0 n5) := (fRow f57.1.2.1 300 kR_216_300).trans ((uRowNe f53 300 (iS (show n30 = ((305 : Nat) : Int) from f46) rfl)).trans ((uRowNe f45 300 (iS (show n24 = ((305 : Nat) : Int) from f38) rfl)).trans ((uRowNe f37 300 (iS (show n18 = ((305 : Nat) : Int) from f30) rfl)).trans ((uRowNe f29 300 (iS (show n12 = ((305 : Nat) : Int) from f22) rfl)).trans ((uRowNe f21 300 (iS (show n8 = ((305 : Nat) : Int) from f16) rfl)).trans e172)))))
  have e189 : hV H10 301 = hV H4 301 := (fRow f57.1.2.1 301 kR_216_301).trans ((uRowNe f53 301 (iS (show n30 = ((305 : Nat) : Int) from f46) rfl)).trans ((uRowNe f45 301 (iS (show n24 = ((305 : Nat) : Int) from f38) rfl)).trans ((uRowNe f37 301 (iS (show n18 = ((305 : Nat) : Int) from f30) rfl)).trans ((uRowNe f29 301 (iS (show n12 = ((305 : Nat) : Int) from f22) rfl)).trans (uRowNe f21 301 (iS (show n8 = ((305 : Nat) : Int) from f16) rfl))))))
  have e200 : hV H10 302 = hV H4 302 := (fRow f57.1.2.1 302 kR_216_302).trans ((uRowNe f53 302 (iS (show n30 = ((305 : Nat) : Int) from f46) rfl)).trans ((uRowNe f45 302 (iS (show n24 = ((305 : Nat) : Int) from f38) rfl)).trans ((uRowNe f37 302 (iS (show n18 = ((305 : Nat) : Int) from f30) rfl)).trans ((uRowNe f29 302 (iS (show n12 = ((305 : Nat) : Int) from f22) rfl)).trans (uRowNe f21 302 (iS (show n8 = ((305 : Nat) : Int) from f16) rfl))))))
  have e211 : hV H10 303 = hV H4 303 := (fRow f57.1.2.1 303 kR_216_303).trans ((uRowNe f53 303 (iS (show n30 = ((305 : Nat) : Int) from f46) rfl)).trans ((uRowNe f45 303 (iS (show n24 = ((305 : Nat) : Int) from f38) rfl)).trans ((uRowNe f37 303 (iS (show n18 = ((305 : Nat) : Int) from f30) rfl)).trans ((uRowNe f29 303 (iS (show n12 = ((305 : Nat) : Int) from f22) rfl)).trans (uRowNe f21 303 (iS (show n8 = ((305 : Nat) : Int) from f16) rfl))))))
  have e224 : hV H4 305 = hV H0 305 := (fRow f15.1.2.1 305 kR_229_305).trans ((fRow f13.1.2.1 305 kR_220_305).trans ((uRowNe f11 305 (iS (show n2 = ((300 : Nat) : Int) from f4) rfl)).trans (fRow f10.1.2.1 305 kR_223_305)))
  have e230 : hV H10 305 = (uF (uF (uF (uF (uF (hV H0 305) n10 n11) n16 n17) n22 n23) n28 n29) n34 n35) := (fRow f57.1.2.1 305 kR_216_305).trans ((uRow f53 305 f46.symm).trans (congrArg (fun z => uF z n34 n35) ((uRow f45 305 f38.symm).trans (congrArg (fun z => uF z n28 n29) ((uRow f37 305 f30.symm).trans (congrArg (fun z => uF z n22 n23) ((uRow f29 305 f22.symm).trans (congrArg (fun z => uF z n16 n17) ((uRow f21 305 f16.symm).trans (congrArg (fun z => uF z n10 n11) e224))))))))))
  have e243 : hV H4 328 = hV H0 328 := (fRow f15.1.2.1 328 kR_229_328).trans ((fRow f13.1.2.1 328 kR_220_328).trans ((uRowNe f11 328 (iS (show n2 = ((300 : Nat) : Int) from f4) rfl)).trans (fRow f10.1.2.1 328 kR_223_328)))
  have e249 : hV H10 328 = hV H0 328 := (fRow f57.1.2.1 328 kR_216_328).trans ((uRowNe f53 328 (iS (show n30 = ((305 : Nat) : Int) from f46) rfl)).trans ((uRowNe f45 328 (iS (show n24 = ((305 : Nat) : Int) from f38) rfl)).trans ((uRowNe f37 328 (iS (show n18 = ((305 : Nat) : Int) from f30) rfl)).trans ((uRowNe f29 328 (iS (show n12 = ((305 : Nat) : Int) from f22) rfl)).trans ((uRowNe f21 328 (iS (show n8 = ((305 : Nat) : Int) from f16) rfl)).trans e243)))))
  have e262 : hV H4 332 = hV H0 332 := (fRow f15.1.2.1 332 kR_229_332).trans ((fRow f13.1.2.1 332 kR_220_332).trans ((uRowNe f11 332 (iS (show n2 = ((300 : Nat) : Int) from f4) rfl)).trans (fRow f10.1.2.1 332 kR_223_332)))
  have e268 : hV H10 332 = hV H0 332 := (fRow f57.1.2.1 332 kR_216_332).trans ((uRowNe f53 332 (iS (show n30 = ((305 : Nat) : Int) from f46) rfl)).trans ((uRowNe f45 332 (iS (show n24 = ((305 : Nat) : Int) from f38) rfl)).trans ((uRowNe f37 332 (iS (show n18 = ((305 : Nat) : Int) from f30) rfl)).trans ((uRowNe f29 332 (iS (show n12 = ((305 : Nat) : Int) from f22) rfl)).trans ((uRowNe f21 332 (iS (show n8 = ((305 : Nat) : Int) from f16) rfl)).trans e262)))))
  have e281 : hV H4 335 = hV H0 335 := (fRow f15.1.2.1 335 kR_229_335).trans ((fRow f13.1.2.1 335 kR_220_335).trans ((uRowNe f11 335 (iS (show n2 = ((300 : Nat) : Int) from f4) rfl)).trans (fRow f10.1.2.1 335 kR_223_335)))
  have e287 : hV H10 335 = hV H0 335 := (fRow f57.1.2.1 335 kR_216_335).trans ((uRowNe f53 335 (iS (show n30 = ((305 : Nat) : Int) from f46) rfl)).trans ((uRowNe f45 335 (iS (show n24 = ((305 : Nat) : Int) from f38) rfl)).trans ((uRowNe f37 335 (iS (show n18 = ((305 : Nat) : Int) from f30) rfl)).trans ((uRowNe f29 335 (iS (show n12 = ((305 : Nat) : Int) from f22) rfl)).trans ((uRowNe f21 335 (iS (show n8 = ((305 : Nat) : Int) from f16) rfl)).trans e281)))))
  have e289 : hV H2 285 11 = hV H1 285 11 := (uPlace f11 285 11 (iS (show n2 = ((300 : Nat) : Int) from f4) rfl))
  have e291 : hV H2 285 13 = hV H1 285 13 := (uPlace f11 285 13 (iS (show n2 = ((300 : Nat) : Int) from f4) rfl))
  have e294 : hV H3 285 15 = hV H1 285 15 := ((f13.1.2.1.1 285 15 kF_220_285_15)).trans (uPlace f11 285 15 (iS (show n2 = ((300 : Nat) : Int) from f4) rfl))
  have e299 : hV H3 301 = hV H0 301 := (fRow f13.1.2.1 301 kR_220_301).trans ((uRowNe f11 301 (iS (show n2 = ((300 : Nat) : Int) from f4) rfl)).trans (fRow f10.1.2.1 301 kR_223_301))
  have e304 : hV H3 302 = hV H0 302 := (fRow f13.1.2.1 302 kR_220_302).trans ((uRowNe f11 302 (iS (show n2 = ((300 : Nat) : Int) from f4) rfl)).trans (fRow f10.1.2.1 302 kR_223_302))
  have e309 : hV H3 303 = hV H0 303 := (fRow f13.1.2.1 303 kR_220_303).trans ((uRowNe f11 303 (iS (show n2 = ((300 : Nat) : Int) from f4) rfl)).trans (fRow f10.1.2.1 303 kR_223_303))
  have e310 : hV H4 285 18 = hV H0 285 18 := ((f15.1.2.1.1 285 18 kF_229_285_18)).trans (((f13.1.2.1.1 285 18 kF_220_285_18)).trans (((uPlace f11 285 18 (iS (show n2 = ((300 : Nat) : Int) from f4) rfl))).trans (f10.1.2.1.1 285 18 kF_223_285_18)))
  have e311 : hV H4 285 32 = hV H0 285 32 := ((f15.1.2.1.1 285 32 kF_229_285_32)).trans (((f13.1.2.1.1 285 32 kF_220_285_32)).trans (((uPlace f11 285 32 (iS (show n2 = ((300 : Nat) : Int) from f4) rfl))).trans (f10.1.2.1.1 285 32 kF_223_285_32)))
  have e312 : hV H4 285 33 = hV H0 285 33 := ((f15.1.2.1.1 285 33 kF_229_285_33)).trans (((f13.1.2.1.1 285 33 kF_220_285_33)).trans (((uPlace f11 285 33 (iS (show n2 = ((300 : Nat) : Int) from f4) rfl))).trans (f10.1.2.1.1 285 33 kF_223_285_33)))
  have e313 : hV H4 285 64 = hV H0 285 64 := ((f15.1.2.1.1 285 64 kF_229_285_64)).trans (((f13.1.2.1.1 285 64 kF_220_285_64)).trans (((uPlace f11 285 64 (iS (show n2 = ((300 : Nat) : Int) from f4) rfl))).trans (f10.1.2.1.1 285 64 kF_223_285_64)))
  have e314 : (0 : Int) ≤ hV H0 285 11 ∧ hV H0 285 11 ≤ 500 := f3.1 285 11 _ _ kW_285_11
  have e315 : (0 : Int) ≤ hV H0 285 13 ∧ hV H0 285 13 ≤ 2 := f3.1 285 13 _ _ kW_285_13
  have e316 : (0 : Int) ≤ hV H0 285 15 ∧ hV H0 285 15 ≤ 6 := f3.1 285 15 _ _ kW_285_15
  have e317 : (0 : Int) ≤ hV H0 285 18 ∧ hV H0 285 18 ≤ 8 := f3.1 285 18 _ _ kW_285_18
  have e318 : (0 : Int) ≤ hV H0 285 32 ∧ hV H0 285 32 ≤ 7 := f3.1 285 32 _ _ kW_285_32
  have e319 : (0 : Int) ≤ hV H0 285 33 ∧ hV H0 285 33 ≤ 62 := f3.1 285 33 _ _ kW_285_33
  have e320 : (0 : Int) ≤ hV H0 285 64 ∧ hV H0 285 64 ≤ 20 := f3.1 285 64 _ _ kW_285_64
  have e321 : (0 : Int) ≤ hV H1 285 11 ∧ hV H1 285 11 ≤ 500 := f10.1.2.2.2 285 11 _ _ kW_285_11
  have e322 : (0 : Int) ≤ hV H1 285 13 ∧ hV H1 285 13 ≤ 2 := f10.1.2.2.2 285 13 _ _ kW_285_13
  have e323 : (0 : Int) ≤ hV H1 285 15 ∧ hV H1 285 15 ≤ 6 := f10.1.2.2.2 285 15 _ _ kW_285_15
  have e324 : (0 : Int) ≤ hV H4 285 11 ∧ hV H4 285 11 ≤ 500 := bTo e7 (f57.1.2.2.2 285 11 _ _ kW_285_11)
  have e326 : (0 : Int) ≤ hV H4 285 13 ∧ hV H4 285 13 ≤ 2 := bTo e14 (f57.1.2.2.2 285 13 _ _ kW_285_13)
  have e328 : (0 : Int) ≤ hV H4 285 15 ∧ hV H4 285 15 ≤ 6 := bTo e21 (f57.1.2.2.2 285 15 _ _ kW_285_15)
  have e334 : (0 : Int) ≤ hV H3 285 11 ∧ hV H3 285 11 ≤ 500 := f13.1.2.2.2 285 11 _ _ kW_285_11
  have e335 : (0 : Int) ≤ hV H3 285 13 ∧ hV H3 285 13 ≤ 2 := f13.1.2.2.2 285 13 _ _ kW_285_13
  try simp only [PA, PW]
  try simp only [e7, e14, e21, e32, e43, e54, e65, e102, e121, e140, e159, e178, e189, e200, e211, e230, e249, e268, e287]
  have p0 := f3.2.1
  have p1 := f3.2.2.1
  have p2 := f3.2.2.2.1
  have p3 := f3.2.2.2.2.1
  have p4 := f3.2.2.2.2.2.1
  have p5 := f3.2.2.2.2.2.2.1
  have p6 := f3.2.2.2.2.2.2.2.1
  have p7 := f3.2.2.2.2.2.2.2.2
  have r0_0 := f10.2.1
  have r0_1 := f10.2.2.1
  have r0_2 := f10.2.2.2.1
  have r0_3 := f10.2.2.2.2.1
  have r0_4 := f10.2.2.2.2.2.1
  have r0_5 := f10.2.2.2.2.2.2.1
  have r0_6 := f10.2.2.2.2.2.2.2.1
  have r1_0 := f13.2.1
  have r1_1 := f13.2.2.1
  have r1_2 := f13.2.2.2.1
  have r1_3 := f13.2.2.2.2.1
  have r2_0 := f15.2.1
  have r2_1 := f15.2.2.1
  have r2_2 := f15.2.2.2.1
  have r2_3 := f15.2.2.2.2.1
  have r2_4 := f15.2.2.2.2.2.1
  have r2_5 := f15.2.2.2.2.2.2.1
  have r2_6 := f15.2.2.2.2.2.2.2.1
  have r2_7 := f15.2.2.2.2.2.2.2.2.1 f14
  have r3_0 := f57.2.1
  try simp only [PA] at p0
  try simp only [PW] at p5
  try simp only [PA] at r2_0
  try simp only [PW] at r2_1
  try simp only [e289] at r1_0
  try simp only [e289] at r1_1
  try simp only [e291] at r1_2
  try simp only [e289] at r1_3
  try simp only [e310, e313, e96, e115, e153, e172, e224, e243, e262, e281] at r2_0
  try simp only [e311, e312, e96, e115, e134, e153, e172, e224] at r2_1
  try simp only [e294] at r2_5
  try simp only [e294] at r2_6
  try simp only [e294, e76, e299, e304, e309, e310, e311, e312, e313, e96, e115, e134, e153, e172, e224, e243, e262, e281] at r2_7
  try simp only [e14] at r3_0
  have wb0 := (p7 (hV H0 285 32).toNat).1
  have wp0 := (p7 (hV H0 285 33).toNat).2
  clear f5 f17 f23 f31 f39 f47 e7 e14 e21 e32 e43 e54 e65 e76 e96 e102 e115 e121 e134 e140 e153 e159 e172 e178 e189 e200 e211 e224 e230 e243 e249 e262 e268 e281 e287 e289 e291 e294 e299 e304 e309 e310 e311 e312 e313
  clear f3 f10 f13 f15 f57
  rw [f18] at f19
  rw [f24] at f25
  rw [f32] at f33
  rw [f40] at f41
  rw [f48] at f49
  first
  | (have ix0 : n10 = 6 * n0 := Eq.trans f19 (w32_iv (Iml 6 rfl (Iat f1 f0)) (by decide)); subst ix0; clear f19)
  | (have ix0 : n10 = 6 * n0 := Eq.trans f19 (w32_id (by omega) (by omega)); subst ix0; clear f19)
  | (unfold w32 at f19; have ix0 : n10 = 6 * n0 := (by omega); subst ix0)
  | skip
  first
  | (have ix1 : n14 = 6 * n0 := Eq.trans f25 (w32_iv (Iml 6 rfl (Iat f1 f0)) (by decide)); subst ix1; clear f25)
  | (have ix1 : n14 = 6 * n0 := Eq.trans f25 (w32_id (by omega) (by omega)); subst ix1; clear f25)
  | (unfold w32 at f25; have ix1 : n14 = 6 * n0 := (by omega); subst ix1)
  | skip
  first
  | (have ix2 : n16 = (6 * n0) + 1 := Eq.trans f27 (w32_iv (Iad (Iml 6 rfl (Iat f1 f0)) (IC 1)) (by decide)); subst ix2; clear f27)
  | (have ix2 : n16 = (6 * n0) + 1 := Eq.trans f27 (w32_id (by omega) (by omega)); subst ix2; clear f27)
  | (unfold w32 at f27; have ix2 : n16 = (6 * n0) + 1 := (by omega); subst ix2)
  | skip
  first
  | (have ix3 : n20 = 6 * n0 := Eq.trans f33 (w32_iv (Iml 6 rfl (Iat f1 f0)) (by decide)); subst ix3; clear f33)
  | (have ix3 : n20 = 6 * n0 := Eq.trans f33 (w32_id (by omega) (by omega)); subst ix3; clear f33)
  | (unfold w32 at f33; have ix3 : n20 = 6 * n0 := (by omega); subst ix3)
  | skip
  first
  | (have ix4 : n22 = (6 * n0) + 2 := Eq.trans f35 (w32_iv (Iad (Iml 6 rfl (Iat f1 f0)) (IC 2)) (by decide)); subst ix4; clear f35)
  | (have ix4 : n22 = (6 * n0) + 2 := Eq.trans f35 (w32_id (by omega) (by omega)); subst ix4; clear f35)
  | (unfold w32 at f35; have ix4 : n22 = (6 * n0) + 2 := (by omega); subst ix4)
  | skip
  first
  | (have ix5 : n26 = 6 * n0 := Eq.trans f41 (w32_iv (Iml 6 rfl (Iat f1 f0)) (by decide)); subst ix5; clear f41)
  | (have ix5 : n26 = 6 * n0 := Eq.trans f41 (w32_id (by omega) (by omega)); subst ix5; clear f41)
  | (unfold w32 at f41; have ix5 : n26 = 6 * n0 := (by omega); subst ix5)
  | skip
  first
  | (have ix6 : n28 = (6 * n0) + 3 := Eq.trans f43 (w32_iv (Iad (Iml 6 rfl (Iat f1 f0)) (IC 3)) (by decide)); subst ix6; clear f43)
  | (have ix6 : n28 = (6 * n0) + 3 := Eq.trans f43 (w32_id (by omega) (by omega)); subst ix6; clear f43)
  | (unfold w32 at f43; have ix6 : n28 = (6 * n0) + 3 := (by omega); subst ix6)
  | skip
  first
  | (have ix7 : n32 = 6 * n0 := Eq.trans f49 (w32_iv (Iml 6 rfl (Iat f1 f0)) (by decide)); subst ix7; clear f49)
  | (have ix7 : n32 = 6 * n0 := Eq.trans f49 (w32_id (by omega) (by omega)); subst ix7; clear f49)
  | (unfold w32 at f49; have ix7 : n32 = 6 * n0 := (by omega); subst ix7)
  | skip
  first
  | (have ix8 : n34 = (6 * n0) + 4 := Eq.trans f51 (w32_iv (Iad (Iml 6 rfl (Iat f1 f0)) (IC 4)) (by decide)); subst ix8; clear f51)
  | (have ix8 : n34 = (6 * n0) + 4 := Eq.trans f51 (w32_id (by omega) (by omega)); subst ix8; clear f51)
  | (unfold w32 at f51; have ix8 : n34 = (6 * n0) + 4 := (by omega); subst ix8)
  | skip
  try unfold w32 at f19
  try unfold w32 at f25
  try unfold w32 at f27
  try unfold w32 at f33
  try unfold w32 at f35
  try unfold w32 at f41
  try unfold w32 at f43
  try unfold w32 at f49
  try unfold w32 at f51

  refine ⟨⟨?_, ?_, ?_, ?_, ?_, ?_, ?_, ?_, ?_, ?_, ?_, ?_, ?_, ?_, ?_⟩, fun q hq => ?_⟩
  · first | exact True.intro | rfl | omega
  · refine PA_cn ?_ (by omega)
    refine PA_cn ?_ (by omega)
    refine PA_cn ?_ (by omega)
    refine PA_cn ?_ (by omega)
    refine PA_cn ?_ (by omega)
    exact r2_0
  · intro z1 z2
    refine PW_cn ?_ (by omega) (by omega) (by omega) (by omega)
    refine PW_cn ?_ (by omega) (by omega) (by omega) (by omega)
    refine PW_cn ?_ (by omega) (by omega) (by omega) (by omega)
    refine PW_cn ?_ (by omega) (by omega) (by omega) (by omega)
    refine PW_cn ?_ (by omega) (by omega) (by omega) (by omega)
    exact r2_1 (by omega) (by omega)
  · (try clear p0 p5 p7 r2_0 r2_1)
    first | exact True.intro | omega
  · (try clear p0 p5 p7 r2_0 r2_1)
    first | exact True.intro | omega
  · (try clear p0 p5 p7 r2_0 r2_1)
    first | exact True.intro | omega
  · (try clear p0 p5 p7 r2_0 r2_1)
    first | exact True.intro | omega
  · (try clear p0 p5 p7 r2_0 r2_1)
    first | exact True.intro | omega
  · (try clear p0 p5 p7 r2_0 r2_1)
    first | (simp only [uF_at]; omega) | omega
  · (try clear p0 p5 p7 r2_0 r2_1)
    first | (simp only [uF_at]; omega) | omega
  · (try clear p0 p5 p7 r2_0 r2_1)
    first | (simp only [uF_at]; omega) | omega
  · (try clear p0 p5 p7 r2_0 r2_1)
    first | exact True.intro | omega
  · (try clear p0 p5 p7 r2_0 r2_1)
    first | exact True.intro | omega
  · (try clear p0 p5 p7 r2_0 r2_1)
    first | (simp only [uF_at]; omega) | omega
  · (try clear p0 p5 p7 r2_0 r2_1)
    first | (simp only [uF_at]; omega) | omega
  · exact nomatch hq
def g_228_s_6 : vG := ([(30, [37], [], 0), (1216, [37, 0, 36], [9, 10], 0), (90, [37], [], 0), (91, [37], [], 1), (0, [36], [], 26), (80, [30, 34, 35], [9, 8], 0), (0, [35], [], 1), (1, [34, 32, 33], [], 0), (0, [33], [], 4), (3, [32, 31, 1], [], 0), (0, [31], [], 6), (20, [30, 0], [8], 31), (0, [30], [], 305), (80, [24, 28, 29], [8, 7], 0), (0, [29], [], 1), (1, [28, 26, 27], [], 0), (0, [27], [], 3), (3, [26, 25, 1], [], 0), (0, [25], [], 6), (20, [24, 0], [7], 31), (0, [24], [], 305), (80, [18, 22, 23], [7, 6], 0), (0, [23], [], 100), (1, [22, 20, 21], [], 0), (0, [21], [], 2), (3, [20, 19, 1], [], 0), (0, [19], [], 6), (20, [18, 0], [6], 31), (0, [18], [], 305), (80, [12, 16, 17], [6, 5], 0), (0, [17], [], -1), (1, [16, 14, 15], [], 0), (0, [15], [], 1), (3, [14, 13, 1], [], 0), (0, [13], [], 6), (20, [12, 0], [5], 31), (0, [12], [], 305), (80, [8, 10, 11], [5, 4], 0), (0, [11], [], 0), (3, [10, 9, 1], [], 0), (0, [9], [], 6), (20, [8, 0], [4], 31), (0, [8], [], 305), (1229, [0, 1, 7], [3, 4], 0), (0, [7], [], 0), (1220, [0, 6], [2, 3], 0), (0, [6], [], 25), (80, [2, 1, 5], [2, 1], 0), (1223, [5, 0, 3, 4], [0, 1], 0), (90, [5], [], 0), (91, [5], [], 9999), (0, [4], [], 19), (0, [3], [], 0), (20, [2, 0], [0], 26), (0, [2], [], 300), (6000, [0, 1], [0], 0), (0, [0], [], 285), (90, [1], [], 0), (91, [1], [], 1007)], (4000, [0, 1], [10], 113))
theorem c_228_s_6 : vOkm T0 (eP e_228 L_228 A_228 mu_228 none) 2 g_228_s_6 := vOk_inI fun ρ η f0 f1 f2 f3 f4 f5 f6 f7 f8 f9 f10 f11 f12 f13 f14 f15 f16 f17 f18 f19 f20 f21 f22 f23 f24 f25 f26 f27 f28 f29 f30 f31 f32 f33 f34 f35 f36 f37 f38 f39 f40 f41 f42 f43 f44 f45 f46 f47 f48 f49 f50 f51 f52 f53 f54 f55 f56 f57 f58 => q_228_6 (n0 := ρ 1) (n1 := ρ 0) (n2 := ρ 2) (n3 := ρ 3) (n4 := ρ 4) (n5 := ρ 5) (n6 := ρ 6) (n7 := ρ 7) (n8 := ρ 8) (n9 := ρ 9) (n10 := ρ 10) (n11 := ρ 11) (n12 := ρ 12) (n13 := ρ 13) (n14 := ρ 14) (n15 := ρ 15) (n16 := ρ 16) (n17 := ρ 17) (n18 := ρ 18) (n19 := ρ 19) (n20 := ρ 20) (n21 := ρ 21) (n22 := ρ 22) (n23 := ρ 23) (n24 := ρ 24) (n25 := ρ 25) (n26 := ρ 26) (n27 := ρ 27) (n28 := ρ 28) (n29 := ρ 29) (n30 := ρ 30) (n31 := ρ 31) (n32 := ρ 32) (n33 := ρ 33) (n34 := ρ 34) (n35 := ρ 35) (n36 := ρ 36) (n37 := ρ 37) (H0 := η 0) (H1 := η 1) (H2 := η 2) (H3 := η 3) (H4 := η 4) (H5 := η 5) (H6 := η 6) (H7 := η 7) (H8 := η 8) (H9 := η 9) (H10 := η 10) f58 f57 f56 f55 f54 f53 f52 f51 f50 f49 f48 f47 f46 f45 f44 f43 f42 f41 f40 f39 f38 f37 f36 f35 f34 f33 f32 f31 f30 f29 f28 f27 f26 f25 f24 f23 f22 f21 f20 f19 f18 f17 f16 f15 f14 f13 f12 f11 f10 f9 f8 f7 f6 f5 f4 f3 f2 f1 f0
set_option maxHeartbeats 20000000 in
theorem q_228_7 {n0 n1 n2 n3 n4 n5 n6 n7 n8 n9 n10 n11 n12 n13 n14 n15 n16 n17 n18 n19 n20 n21 n22 n23 n24 n25 n26 n27 : Int} {H0 H1 H2 H3 H4 : gH} (f0 : n0 ≤ 1007) (f1 : 0 ≤ n0) (f2 : n1 = 285) (f3 : hWt T0 H0 ∧ preb_228 n1 n0 H0) (f4 : n2 = 300) (f5 : n2 = hV H0 (n1).toNat 26) (f6 : n3 = 0) (f7 : n4 = 19) (f8 : n5 ≤ 9999) (f9 : 0 ≤ n5) (f10 : (hLe T0 H0 H1 ∧ hFr s_223.2.2.2.2 H0 H1 ∧ ((0 : Int) = 0 → H1.length = H0.length) ∧ hWt T0 H1) ∧ postb_223 n5 n1 n3 n4 H0 H1) (f11 : hUpd H2 H1 n2 n0 n5) (f12 : n6 = 25) (f13 : (hLe T0 H2 H3 ∧ hFr s_220.2.2.2.2 H2 H3 ∧ ((0 : Int) = 0 → H3.length = H2.length) ∧ hWt T0 H3) ∧ postb_220 n1 n6 H2 H3) (f14 : n7 = 0) (f15 : (hLe T0 H3 H4 ∧ hFr s_229.2.2.2.2 H3 H4 ∧ ((0 : Int) = 0 → H4.length = H3.length) ∧ hWt T0 H4) ∧ postb_229 n1 n0 n7 H3 H4) (f16 : n8 = 6) (f17 : n9 = w32 (n8 * n0)) (f18 : n10 = 6) (f19 : n11 = w32 (n10 * n0)) (f20 : n12 = 1) (f21 : n13 = w32 (n11 + n12)) (f22 : n14 = 6) (f23 : n15 = w32 (n14 * n0)) (f24 : n16 = 2) (f25 : n17 = w32 (n15 + n16)) (f26 : n18 = 6) (f27 : n19 = w32 (n18 * n0)) (f28 : n20 = 3) (f29 : n21 = w32 (n19 + n20)) (f30 : n22 = 6) (f31 : n23 = w32 (n22 * n0)) (f32 : n24 = 4) (f33 : n25 = w32 (n23 + n24)) (f34 : n26 = 6) (f35 : n27 = w32 (n26 * n0)) : 0 ≤ n27 ∧ n27 < 6048 := by
  unfold preb_228 at f3
  unfold postb_223 at f10
  unfold postb_220 at f13
  unfold postb_229 at f15
  have e2 : hV H2 285 11 = hV H1 285 11 := (uPlace f11 285 11 (iS (show n2 = ((300 : Nat) : Int) from f4) rfl))
  have e4 : hV H2 285 13 = hV H1 285 13 := (uPlace f11 285 13 (iS (show n2 = ((300 : Nat) : Int) from f4) rfl))
  have e7 : hV H3 285 15 = hV H1 285 15 := ((f13.1.2.1.1 285 15 kF_220_285_15)).trans (uPlace f11 285 15 (iS (show n2 = ((300 : Nat) : Int) from f4) rfl))
  have e11 : hV H3 288 = hV H0 288 := (fRow f13.1.2.1 288 kR_220_288).trans ((uRowNe f11 288 (iS (show n2 = ((300 : Nat) : Int) from f4) rfl)).trans (fRow f10.1.2.1 288 kR_223_288))
  have e16 : hV H3 301 = hV H0 301 := (fRow f13.1.2.1 301 kR_220_301).trans ((uRowNe f11 301 (iS (show n2 = ((300 : Nat) : Int) from f4) rfl)).trans (fRow f10.1.2.1 301 kR_223_301))
  have e21 : hV H3 302 = hV H0 302 := (fRow f13.1.2.1 302 kR_220_302).trans ((uRowNe f11 302 (iS (show n2 = ((300 : Nat) : Int) from f4) rfl)).trans (fRow f10.1.2.1 302 kR_223_302))
  have e26 : hV H3 303 = hV H0 303 := (fRow f13.1.2.1 303 kR_220_303).trans ((uRowNe f11 303 (iS (show n2 = ((300 : Nat) : Int) from f4) rfl)).trans (fRow f10.1.2.1 303 kR_223_303))
  have e31 : hV H4 285 18 = hV H0 285 18 := ((f15.1.2.1.1 285 18 kF_229_285_18)).trans (((f13.1.2.1.1 285 18 kF_220_285_18)).trans (((uPlace f11 285 18 (iS (show n2 = ((300 : Nat) : Int) from f4) rfl))).trans (f10.1.2.1.1 285 18 kF_223_285_18)))
  have e36 : hV H4 285 32 = hV H0 285 32 := ((f15.1.2.1.1 285 32 kF_229_285_32)).trans (((f13.1.2.1.1 285 32 kF_220_285_32)).trans (((uPlace f11 285 32 (iS (show n2 = ((300 : Nat) : Int) from f4) rfl))).trans (f10.1.2.1.1 285 32 kF_223_285_32)))
  have e41 : hV H4 285 33 = hV H0 285 33 := ((f15.1.2.1.1 285 33 kF_229_285_33)).trans (((f13.1.2.1.1 285 33 kF_220_285_33)).trans (((uPlace f11 285 33 (iS (show n2 = ((300 : Nat) : Int) from f4) rfl))).trans (f10.1.2.1.1 285 33 kF_223_285_33)))
  have e46 : hV H4 285 64 = hV H0 285 64 := ((f15.1.2.1.1 285 64 kF_229_285_64)).trans (((f13.1.2.1.1 285 64 kF_220_285_64)).trans (((uPlace f11 285 64 (iS (show n2 = ((300 : Nat) : Int) from f4) rfl))).trans (f10.1.2.1.1 285 64 kF_223_285_64)))
  have e53 : hV H4 294 = hV H0 294 := (fRow f15.1.2.1 294 kR_229_294).trans ((fRow f13.1.2.1 294 kR_220_294).trans ((uRowNe f11 294 (iS (show n2 = ((300 : Nat) : Int) from f4) rfl)).trans (fRow f10.1.2.1 294 kR_223_294)))
  have e60 : hV H4 296 = hV H0 296 := (fRow f15.1.2.1 296 kR_229_296).trans ((fRow f13.1.2.1 296 kR_220_296).trans ((uRowNe f11 296 (iS (show n2 = ((300 : Nat) : Int) from f4) rfl)).trans (fRow f10.1.2.1 296 kR_223_296)))
  have e67 : hV H4 297 = hV H0 297 := (fRow f15.1.2.1 297 kR_229_297).trans ((fRow f13.1.2.1 297 kR_220_297).trans ((uRowNe f11 297 (iS (show n2 = ((300 : Nat) : Int) from f4) rfl)).trans (fRow f10.1.2.1 297 kR_223_297)))
  have e74 : hV H4 298 = hV H0 298 := (fRow f15.1.2.1 298 kR_229_298).trans ((fRow f13.1.2.1 298 kR_220_298).trans ((uRowNe f11 298 (iS (show n2 = ((300 : Nat) : Int) from f4) rfl)).trans (fRow f10.1.2.1 298 kR_223_298)))
  have e81 : hV H4 300 = (uF (hV H0 300) n0 n5) := (fRow f15.1.2.1 300 kR_229_300).trans ((fRow f13.1.2.1 300 kR_220_300).trans ((uRow f11 300 f4.symm).trans (congrArg (fun z => uF z n0 n5) (fRow f10.1.2.1 300 kR_223_300))))
  have e88 : hV H4 305 = hV H0 305 := (fRow f15.1.2.1 305 kR_229_305).trans ((fRow f13.1.2.1 305 kR_220_305).trans ((uRowNe f11 305 (iS (show n2 = ((300 : Nat) : Int) from f4) rfl)).trans (fRow f10.1.2.1 305 kR_223_305)))
  have e95 : hV H4 328 = hV H0 328 := (fRow f15.1.2.1 328 kR_229_328).trans ((fRow f13.1.2.1 328 kR_220_328).trans ((uRowNe f11 328 (iS (show n2 = ((300 : Nat) : Int) from f4) rfl)).trans (fRow f10.1.2.1 328 kR_223_328)))
  have e102 : hV H4 332 = hV H0 332 := (fRow f15.1.2.1 332 kR_229_332).trans ((fRow f13.1.2.1 332 kR_220_332).trans ((uRowNe f11 332 (iS (show n2 = ((300 : Nat) : Int) from f4) rfl)).trans (fRow f10.1.2.1 332 kR_223_332)))
  have e109 : hV H4 335 = hV H0 335 := (fRow f15.1.2.1 335 kR_229_335).trans ((fRow f13.1.2.1 335 kR_220_335).trans ((uRowNe f11 335 (iS (show n2 = ((300 : Nat) : Int) from f4) rfl)).trans (fRow f10.1.2.1 335 kR_223_335)))
  have e110 : (0 : Int) ≤ hV H0 285 11 ∧ hV H0 285 11 ≤ 500 := f3.1 285 11 _ _ kW_285_11
  have e111 : (0 : Int) ≤ hV H0 285 13 ∧ hV H0 285 13 ≤ 2 := f3.1 285 13 _ _ kW_285_13
  have e112 : (0 : Int) ≤ hV H0 285 15 ∧ hV H0 285 15 ≤ 6 := f3.1 285 15 _ _ kW_285_15
  have e113 : (0 : Int) ≤ hV H0 285 18 ∧ hV H0 285 18 ≤ 8 := f3.1 285 18 _ _ kW_285_18
  have e114 : (0 : Int) ≤ hV H0 285 32 ∧ hV H0 285 32 ≤ 7 := f3.1 285 32 _ _ kW_285_32
  have e115 : (0 : Int) ≤ hV H0 285 33 ∧ hV H0 285 33 ≤ 62 := f3.1 285 33 _ _ kW_285_33
  have e116 : (0 : Int) ≤ hV H0 285 64 ∧ hV H0 285 64 ≤ 20 := f3.1 285 64 _ _ kW_285_64
  have e117 : (0 : Int) ≤ hV H1 285 11 ∧ hV H1 285 11 ≤ 500 := f10.1.2.2.2 285 11 _ _ kW_285_11
  have e118 : (0 : Int) ≤ hV H1 285 13 ∧ hV H1 285 13 ≤ 2 := f10.1.2.2.2 285 13 _ _ kW_285_13
  have e119 : (0 : Int) ≤ hV H1 285 15 ∧ hV H1 285 15 ≤ 6 := f10.1.2.2.2 285 15 _ _ kW_285_15
  have e120 : (0 : Int) ≤ hV H3 285 11 ∧ hV H3 285 11 ≤ 500 := f13.1.2.2.2 285 11 _ _ kW_285_11
  have e121 : (0 : Int) ≤ hV H3 285 13 ∧ hV H3 285 13 ≤ 2 := f13.1.2.2.2 285 13 _ _ kW_285_13
  have e123 : (0 : Int) ≤ hV H4 285 11 ∧ hV H4 285 11 ≤ 500 := f15.1.2.2.2 285 11 _ _ kW_285_11
  have e124 : (0 : Int) ≤ hV H4 285 13 ∧ hV H4 285 13 ≤ 2 := f15.1.2.2.2 285 13 _ _ kW_285_13
  have e125 : (0 : Int) ≤ hV H4 285 15 ∧ hV H4 285 15 ≤ 6 := f15.1.2.2.2 285 15 _ _ kW_285_15
  try simp only [PA, PW]
  have p0 := f3.2.1
  have p1 := f3.2.2.1
  have p2 := f3.2.2.2.1
  have p3 := f3.2.2.2.2.1
  have p4 := f3.2.2.2.2.2.1
  have p5 := f3.2.2.2.2.2.2.1
  have p6 := f3.2.2.2.2.2.2.2.1
  have p7 := f3.2.2.2.2.2.2.2.2
  have r0_0 := f10.2.1
  have r0_1 := f10.2.2.1
  have r0_2 := f10.2.2.2.1
  have r0_3 := f10.2.2.2.2.1
  have r0_4 := f10.2.2.2.2.2.1
  have r0_5 := f10.2.2.2.2.2.2.1
  have r0_6 := f10.2.2.2.2.2.2.2.1
  have r1_0 := f13.2.1
  have r1_1 := f13.2.2.1
  have r1_2 := f13.2.2.2.1
  have r1_3 := f13.2.2.2.2.1
  have r2_0 := f15.2.1
  have r2_1 := f15.2.2.1
  have r2_2 := f15.2.2.2.1
  have r2_3 := f15.2.2.2.2.1
  have r2_4 := f15.2.2.2.2.2.1
  have r2_5 := f15.2.2.2.2.2.2.1
  have r2_6 := f15.2.2.2.2.2.2.2.1
  have r2_7 := f15.2.2.2.2.2.2.2.2.1 f14
  try simp only [PA] at p0
  try simp only [PW] at p5
  try simp only [PA] at r2_0
  try simp only [PW] at r2_1
  try simp only [e2] at r1_0
  try simp only [e2] at r1_1
  try simp only [e4] at r1_2
  try simp only [e2] at r1_3
  try simp only [e31, e46, e53, e60, e74, e81, e88, e95, e102, e109] at r2_0
  try simp only [e36, e41, e53, e60, e67, e74, e81, e88] at r2_1
  try simp only [e7] at r2_5
  try simp only [e7] at r2_6
  try simp only [e7, e11, e16, e21, e26, e31, e36, e41, e46, e53, e60, e67, e74, e81, e88, e95, e102, e109] at r2_7
  have wb0 := (p7 (hV H0 285 32).toNat).1
  have wp0 := (p7 (hV H0 285 33).toNat).2
  clear f5 e2 e4 e7 e11 e16 e21 e26 e31 e36 e41 e46 e53 e60 e67 e74 e81 e88 e95 e102 e109
  clear f3 f10 f13 f15
  rw [f16] at f17
  rw [f18] at f19
  rw [f22] at f23
  rw [f26] at f27
  rw [f30] at f31
  rw [f34] at f35
  first
  | (have ix0 : n27 = 6 * n0 := Eq.trans f35 (w32_iv (Iml 6 rfl (Iat f1 f0)) (by decide)); subst ix0; clear f35)
  | (have ix0 : n27 = 6 * n0 := Eq.trans f35 (w32_id (by omega) (by omega)); subst ix0; clear f35)
  | (unfold w32 at f35; have ix0 : n27 = 6 * n0 := (by omega); subst ix0)
  | skip
  try unfold w32 at f17
  try unfold w32 at f19
  try unfold w32 at f21
  try unfold w32 at f23
  try unfold w32 at f25
  try unfold w32 at f27
  try unfold w32 at f29
  try unfold w32 at f31
  try unfold w32 at f33
  try unfold w32 at f35

  (try clear p0 p5 p7 r2_0 r2_1)
  omega
def g_228_s_7 : vG := ([(3, [40, 39, 1], [], 0), (0, [39], [], 6), (1, [34, 32, 33], [], 0), (0, [33], [], 4), (3, [32, 31, 1], [], 0), (0, [31], [], 6), (1, [28, 26, 27], [], 0), (0, [27], [], 3), (3, [26, 25, 1], [], 0), (0, [25], [], 6), (1, [22, 20, 21], [], 0), (0, [21], [], 2), (3, [20, 19, 1], [], 0), (0, [19], [], 6), (1, [16, 14, 15], [], 0), (0, [15], [], 1), (3, [14, 13, 1], [], 0), (0, [13], [], 6), (3, [10, 9, 1], [], 0), (0, [9], [], 6), (1229, [0, 1, 7], [3, 4], 0), (0, [7], [], 0), (1220, [0, 6], [2, 3], 0), (0, [6], [], 25), (80, [2, 1, 5], [2, 1], 0), (1223, [5, 0, 3, 4], [0, 1], 0), (90, [5], [], 0), (91, [5], [], 9999), (0, [4], [], 19), (0, [3], [], 0), (20, [2, 0], [0], 26), (0, [2], [], 300), (6000, [0, 1], [0], 0), (0, [0], [], 285), (90, [1], [], 0), (91, [1], [], 1007)], (70, [40], [], 6048))
theorem c_228_s_7 : vOkm T0 (eP e_228 L_228 A_228 mu_228 none) 2 g_228_s_7 := vOk_inI fun ρ η f0 f1 f2 f3 f4 f5 f6 f7 f8 f9 f10 f11 f12 f13 f14 f15 f16 f17 f18 f19 f20 f21 f22 f23 f24 f25 f26 f27 f28 f29 f30 f31 f32 f33 f34 f35 => q_228_7 (n0 := ρ 1) (n1 := ρ 0) (n2 := ρ 2) (n3 := ρ 3) (n4 := ρ 4) (n5 := ρ 5) (n6 := ρ 6) (n7 := ρ 7) (n8 := ρ 9) (n9 := ρ 10) (n10 := ρ 13) (n11 := ρ 14) (n12 := ρ 15) (n13 := ρ 16) (n14 := ρ 19) (n15 := ρ 20) (n16 := ρ 21) (n17 := ρ 22) (n18 := ρ 25) (n19 := ρ 26) (n20 := ρ 27) (n21 := ρ 28) (n22 := ρ 31) (n23 := ρ 32) (n24 := ρ 33) (n25 := ρ 34) (n26 := ρ 39) (n27 := ρ 40) (H0 := η 0) (H1 := η 1) (H2 := η 2) (H3 := η 3) (H4 := η 4) f35 f34 f33 f32 f31 f30 f29 f28 f27 f26 f25 f24 f23 f22 f21 f20 f19 f18 f17 f16 f15 f14 f13 f12 f11 f10 f9 f8 f7 f6 f5 f4 f3 f2 f1 f0
set_option maxHeartbeats 20000000 in
theorem kR_229_288 : vFreeR s_229.2.2.2.2 288 = true := by decide +kernel
theorem q_228_8 {n0 n1 n2 n3 n4 n5 n6 n7 n8 n9 n10 n11 n12 n13 n14 n15 n16 n17 n18 n19 n20 n21 n22 n23 n24 n25 n26 n27 n28 n29 n30 n31 n32 n33 n34 n35 n36 n37 n38 n39 n40 n41 n42 n43 : Int} {H0 H1 H2 H3 H4 H5 H6 H7 H8 H9 H10 H11 H12 H13 : gH} (f0 : n0 ≤ 1007) (f1 : 0 ≤ n0) (f2 : n1 = 285) (f3 : hWt T0 H0 ∧ preb_228 n1 n0 H0) (f4 : n2 = 300) (f5 : n2 = hV H0 (n1).toNat 26) (f6 : n3 = 0) (f7 : n4 = 19) (f8 : n5 ≤ 9999) (f9 : 0 ≤ n5) (f10 : (hLe T0 H0 H1 ∧ hFr s_223.2.2.2.2 H0 H1 ∧ ((0 : Int) = 0 → H1.length = H0.length) ∧ hWt T0 H1) ∧ postb_223 n5 n1 n3 n4 H0 H1) (f11 : hUpd H2 H1 n2 n0 n5) (f12 : n6 = 25) (f13 : (hLe T0 H2 H3 ∧ hFr s_220.2.2.2.2 H2 H3 ∧ ((0 : Int) = 0 → H3.length = H2.length) ∧ hWt T0 H3) ∧ postb_220 n1 n6 H2 H3) (f14 : n7 = 0) (f15 : (hLe T0 H3 H4 ∧ hFr s_229.2.2.2.2 H3 H4 ∧ ((0 : Int) = 0 → H4.length = H3.length) ∧ hWt T0 H4) ∧ postb_229 n1 n0 n7 H3 H4) (f16 : n8 = 305) (f17 : n8 = hV H4 (n1).toNat 31) (f18 : n9 = 6) (f19 : n10 = w32 (n9 * n0)) (f20 : n11 = 0) (f21 : hUpd H5 H4 n8 n10 n11) (f22 : n12 = 305) (f23 : n12 = hV H5 (n1).toNat 31) (f24 : n13 = 6) (f25 : n14 = w32 (n13 * n0)) (f26 : n15 = 1) (f27 : n16 = w32 (n14 + n15)) (f28 : n17 = (-1)) (f29 : hUpd H6 H5 n12 n16 n17) (f30 : n18 = 305) (f31 : n18 = hV H6 (n1).toNat 31) (f32 : n19 = 6) (f33 : n20 = w32 (n19 * n0)) (f34 : n21 = 2) (f35 : n22 = w32 (n20 + n21)) (f36 : n23 = 100) (f37 : hUpd H7 H6 n18 n22 n23) (f38 : n24 = 305) (f39 : n24 = hV H7 (n1).toNat 31) (f40 : n25 = 6) (f41 : n26 = w32 (n25 * n0)) (f42 : n27 = 3) (f43 : n28 = w32 (n26 + n27)) (f44 : n29 = 1) (f45 : hUpd H8 H7 n24 n28 n29) (f46 : n30 = 305) (f47 : n30 = hV H8 (n1).toNat 31) (f48 : n31 = 6) (f49 : n32 = w32 (n31 * n0)) (f50 : n33 = 4) (f51 : n34 = w32 (n32 + n33)) (f52 : n35 = 1) (f53 : hUpd H9 H8 n30 n34 n35) (f54 : n36 = 26) (f55 : n37 ≤ 1) (f56 : 0 ≤ n37) (f57 : (hLe T0 H9 H10 ∧ hFr s_216.2.2.2.2 H9 H10 ∧ ((0 : Int) = 0 → H10.length = H9.length) ∧ hWt T0 H10) ∧ postb_216 n37 n1 n36 H9 H10) (f58 : n37 ≠ 0) (f59 : (hLe T0 H10 H11 ∧ hFr s_219.2.2.2.2 H10 H11 ∧ ((0 : Int) = 0 → H11.length = H10.length) ∧ hWt T0 H11) ∧ postb_219 n1 H10 H11) (f60 : n38 = 305) (f61 : n38 = hV H11 (n1).toNat 31) (f62 : n39 = 6) (f63 : n40 = w32 (n39 * n0)) (f64 : n41 = 0) (f65 : n42 = 60) (f66 : n43 ≤ 9999) (f67 : 0 ≤ n43) (f68 : (hLe T0 H11 H12 ∧ hFr s_223.2.2.2.2 H11 H12 ∧ ((0 : Int) = 0 → H12.length = H11.length) ∧ hWt T0 H12) ∧ postb_223 n43 n1 n41 n42 H11 H12) (f69 : hUpd H13 H12 n38 n40 n43) : Ab_228_113 n1 n0 n1 n0 H0 H13 ∧ ∀ q, none = some q → mub_228_113 n1 n0 n1 n0 H0 H13 < q := by
  unfold preb_228 at f3
  unfold postb_223 at f10
  unfold postb_220 at f13
  unfold postb_229 at f15
  unfold postb_216 at f57
  unfold postb_219 at f59
  unfold postb_223 at f68
  unfold Ab_228_113
  have e7 : hV H10 285 11 = hV H4 285 11 := ((f57.1.2.1.1 285 11 kF_216_285_11)).trans (((uPlace f53 285 11 (iS (show n30 = ((305 : Nat) : Int) from f46) rfl))).trans (((uPlace f45 285 11 (iS (show n24 = ((305 : Nat) : Int) from f38) rfl))).trans (((uPlace f37 285 11 (iS (show n18 = ((305 : Nat) : Int) from f30) rfl))).trans (((uPlace f29 285 11 (iS (show n12 = ((305 : Nat) : Int) from f22) rfl))).trans (uPlace f21 285 11 (iS (show n8 = ((305 : Nat) : Int) from f16) rfl))))))
  have e14 : hV H10 285 13 = hV H4 285 13 := ((f57.1.2.1.1 285 13 kF_216_285_13)).trans (((uPlace f53 285 13 (iS (show n30 = ((305 : Nat) : Int) from f46) rfl))).trans (((uPlace f45 285 13 (iS (show n24 = ((305 : Nat) : Int) from f38) rfl))).trans (((uPlace f37 285 13 (iS (show n18 = ((305 : Nat) : Int) from f30) rfl))).trans (((uPlace f29 285 13 (iS (show n12 = ((305 : Nat) : Int) from f22) rfl))).trans (uPlace f21 285 13 (iS (show n8 = ((305 : Nat) : Int) from f16) rfl))))))
  have e25 : hV H3 288 = hV H0 288 := (fRow f13.1.2.1 288 kR_220_288).trans ((uRowNe f11 288 (iS (show n2 = ((300 : Nat) : Int) from f4) rfl)).trans (fRow f10.1.2.1 288 kR_223_288))
  have e32 : hV H10 288 = hV H0 288 := (fRow f57.1.2.1 288 kR_216_288).trans ((uRowNe f53 288 (iS (show n30 = ((305 : Nat) : Int) from f46) rfl)).trans ((uRowNe f45 288 (iS (show n24 = ((305 : Nat) : Int) from f38) rfl)).trans ((uRowNe f37 288 (iS (show n18 = ((305 : Nat) : Int) from f30) rfl)).trans ((uRowNe f29 288 (iS (show n12 = ((305 : Nat) : Int) from f22) rfl)).trans ((uRowNe f21 288 (iS (show n8 = ((305 : Nat) : Int) from f16) rfl)).trans ((fRow f15.1.2.1 288 kR_229_288).trans e25))))))
  have e40 : hV H11 285 15 = hV H4 285 15 := ((f59.1.2.1.1 285 15 kF_219_285_15)).trans (((f57.1.2.1.1 285 15 kF_216_285_15)).trans (((uPlace f53 285 15 (iS (show n30 = ((305 : Nat) : Int) from f46) rfl))).trans (((uPlace f45 285 15 (iS (show n24 = ((305 : Nat) : Int) from f38) rfl))).trans (((uPlace f37 285 15 (iS (show n18 = ((305 : Nat) : Int) from f30) rfl))).trans (((uPlace f29 285 15 (iS (show n12 = ((305 : Nat) : Int) from f22) rfl))).trans (uPlace f21 285 15 (iS (show n8 = ((305 : Nat) : Int) from f16) rfl)))))))
  have e46 : hV H13 285 11 = hV H12 285 11 := (uPlace f69 285 11 (iS (show n38 = ((305 : Nat) : Int) from f60) rfl))
  have e48 : hV H13 285 13 = hV H12 285 13 := (uPlace f69 285 13 (iS (show n38 = ((305 : Nat) : Int) from f60) rfl))
  have e50 : hV H13 285 15 = hV H12 285 15 := (uPlace f69 285 15 (iS (show n38 = ((305 : Nat) : Int) from f60) rfl))
  have e64 : hV H13 285 18 = hV H0 285 18 := ((uPlace f69 285 18 (iS (show n38 = ((305 : Nat) : Int) from f60) rfl))).trans (((f68.1.2.1.1 285 18 kF_223_285_18)).trans (((f59.1.2.1.1 285 18 kF_219_285_18)).trans (((f57.1.2.1.1 285 18 kF_216_285_18)).trans (((uPlace f53 285 18 (iS (show n30 = ((305 : Nat) : Int) from f46) rfl))).trans (((uPlace f45 285 18 (iS (show n24 = ((305 : Nat) : Int) from f38) rfl))).trans (((uPlace f37 285 18 (iS (show n18 = ((305 : Nat) : Int) from f30) rfl))).trans (((uPlace f29 285 18 (iS (show n12 = ((305 : Nat) : Int) from f22) rfl))).trans (((uPlace f21 285 18 (iS (show n8 = ((305 : Nat) : Int) from f16) rfl))).trans (((f15.1.2.1.1 285 18 kF_229_285_18)).trans (((f13.1.2.1.1 285 18 kF_220_285_18)).trans (((uPlace f11 285 18 (iS (show n2 = ((300 : Nat) : Int) from f4) rfl))).trans (f10.1.2.1.1 285 18 kF_223_285_18))))))))))))
  have e78 : hV H13 285 32 = hV H0 285 32 := ((uPlace f69 285 32 (iS (show n38 = ((305 : Nat) : Int) from f60) rfl))).trans (((f68.1.2.1.1 285 32 kF_223_285_32)).trans (((f59.1.2.1.1 285 32 kF_219_285_32)).trans (((f57.1.2.1.1 285 32 kF_216_285_32)).trans (((uPlace f53 285 32 (iS (show n30 = ((305 : Nat) : Int) from f46) rfl))).trans (((uPlace f45 285 32 (iS (show n24 = ((305 : Nat) : Int) from f38) rfl))).trans (((uPlace f37 285 32 (iS (show n18 = ((305 : Nat) : Int) from f30) rfl))).trans (((uPlace f29 285 32 (iS (show n12 = ((305 : Nat) : Int) from f22) rfl))).trans (((uPlace f21 285 32 (iS (show n8 = ((305 : Nat) : Int) from f16) rfl))).trans (((f15.1.2.1.1 285 32 kF_229_285_32)).trans (((f13.1.2.1.1 285 32 kF_220_285_32)).trans (((uPlace f11 285 32 (iS (show n2 = ((300 : Nat) : Int) from f4) rfl))).trans (f10.1.2.1.1 285 32 kF_223_285_32))))))))))))
  have e92 : hV H13 285 33 = hV H0 285 33 := ((uPlace f69 285 33 (iS (show n38 = ((305 : Nat) : Int) from f60) rfl))).trans (((f68.1.2.1.1 285 33 kF_223_285_33)).trans (((f59.1.2.1.1 285 33 kF_219_285_33)).trans (((f57.1.2.1.1 285 33 kF_216_285_33)).trans (((uPlace f53 285 33 (iS (show n30 = ((305 : Nat) : Int) from f46) rfl))).trans (((uPlace f45 285 33 (iS (show n24 = ((305 : Nat) : Int) from f38) rfl))).trans (((uPlace f37 285 33 (iS (show n18 = ((305 : Nat) : Int) from f30) rfl))).trans (((uPlace f29 285 33 (iS (show n12 = ((305 : Nat) : Int) from f22) rfl))).trans (((uPlace f21 285 33 (iS (show n8 = ((305 : Nat) : Int) from f16) rfl))).trans (((f15.1.2.1.1 285 33 kF_229_285_33)).trans (((f13.1.2.1.1 285 33 kF_220_285_33)).trans (((uPlace f11 285 33 (iS (show n2 = ((300 : Nat) : Int) from f4) rfl))).trans (f10.1.2.1.1 285 33 kF_223_285_33))))))))))))
  have e106 : hV H13 285 64 = hV H0 285 64 := ((uPlace f69 285 64 (iS (show n38 = ((305 : Nat) : Int) from f60) rfl))).trans (((f68.1.2.1.1 285 64 kF_223_285_64)).trans (((f59.1.2.1.1 285 64 kF_219_285_64)).trans (((f57.1.2.1.1 285 64 kF_216_285_64)).trans (((uPlace f53 285 64 (iS (show n30 = ((305 : Nat) : Int) from f46) rfl))).trans (((uPlace f45 285 64 (iS (show n24 = ((305 : Nat) : Int) from f38) rfl))).trans (((uPlace f37 285 64 (iS (show n18 = ((305 : Nat) : Int) from f30) rfl))).trans (((uPlace f29 285 64 (iS (show n12 = ((305 : Nat) : Int) from f22) rfl))).trans (((uPlace f21 285 64 (iS (show n8 = ((305 : Nat) : Int) from f16) rfl))).trans (((f15.1.2.1.1 285 64 kF_229_285_64)).trans (((f13.1.2.1.1 285 64 kF_220_285_64)).trans (((uPlace f11 285 64 (iS (show n2 = ((300 : Nat) : Int) from f4) rfl))).trans (f10.1.2.1.1 285 64 kF_223_285_64))))))))))))
  have e122 : hV H4 294 = hV H0 294 := (fRow f15.1.2.1 294 kR_229_294).trans ((fRow f13.1.2.1 294 kR_220_294).trans ((uRowNe f11 294 (iS (show n2 = ((300 : Nat) : Int) from f4) rfl)).trans (fRow f10.1.2.1 294 kR_223_294)))
  have e131 : hV H13 294 = hV H0 294 := (uRowNe f69 294 (iS (show n38 = ((305 : Nat) : Int) from f60) rfl)).trans ((fRow f68.1.2.1 294 kR_223_294).trans ((fRow f59.1.2.1 294 kR_219_294).trans ((fRow f57.1.2.1 294 kR_216_294).trans ((uRowNe f53 294 (iS (show n30 = ((305 : Nat) : Int) from f46) rfl)).trans ((uRowNe f45 294 (iS (show n24 = ((305 : Nat) : Int) from f38) rfl)).trans ((uRowNe f37 294 (iS (show n18 = ((305 : Nat) : Int) from f30) rfl)).trans ((uRowNe f29 294 (iS (show n12 = ((305 : Nat) : Int) from f22) rfl)).trans ((uRowNe f21 294 (iS (show n8 = ((305 : Nat) : Int) from f16) rfl)).trans e122))))))))
  have e147 : hV H4 296 = hV H0 296 := (fRow f15.1.2.1 296 kR_229_296).trans ((fRow f13.1.2.1 296 kR_220_296).trans ((uRowNe f11 296 (iS (show n2 = ((300 : Nat) : Int) from f4) rfl)).trans (fRow f10.1.2.1 296 kR_223_296)))
  have e156 : hV H13 296 = hV H0 296 := (uRowNe f69 296 (iS (show n38 = ((305 : Nat) : Int) from f60) rfl)).trans ((fRow f68.1.2.1 296 kR_223_296).trans ((fRow f59.1.2.1 296 kR_219_296).trans ((fRow f57.1.2.1 296 kR_216_296).trans ((uRowNe f53 296 (iS (show n30 = ((305 : Nat) : Int) from f46) rfl)).trans ((uRowNe f45 296 (iS (show n24 = ((305 : Nat) : Int) from f38) rfl)).trans ((uRowNe f37 296 (iS (show n18 = ((305 : Nat) : Int) from f30) rfl)).trans ((uRowNe f29 296 (iS (show n12 = ((305 : Nat) : Int) from f22) rfl)).trans ((uRowNe f21 296 (iS (show n8 = ((305 : Nat) : Int) from f16) rfl)).trans e147))))))))
  have e172 : hV H4 297 = hV H0 297 := (fRow f15.1.2.1 297 kR_229_297).trans ((fRow f13.1.2.1 297 kR_220_297).trans ((uRowNe f11 297 (iS (show n2 = ((300 : Nat) : Int) from f4) rfl)).trans (fRow f10.1.2.1 297 kR_223_297)))
  have e181 : hV H13 297 = hV H0 297 := (uRowNe f69 297 (iS (show n38 = ((305 : Nat) : Int) from f60) rfl)).trans ((fRow f68.1.2.1 297 kR_223_297).trans ((fRow f59.1.2.1 297 kR_219_297).trans ((fRow f57.1.2.1 297 kR_216_297).trans ((uRowNe f53 297 (iS (show n30 = ((305 : Nat) : Int) from f46) rfl)).trans ((uRowNe f45 297 (iS (show n24 = ((305 : Nat) : Int) from f38) rfl)).trans ((uRowNe f37 297 (iS (show n18 = ((305 : Nat) : Int) from f30) rfl)).trans ((uRowNe f29 297 (iS (show n12 = ((305 : Nat) : Int) from f22) rfl)).trans ((uRowNe f21 297 (iS (show n8 = ((305 : Nat) : Int) from f16) rfl)).trans e172))))))))
  have e197 : hV H4 298 = hV H0 298 := (fRow f15.1.2.1 298 kR_229_298).trans ((fRow f13.1.2.1 298 kR_220_298).trans ((uRowNe f11 298 (iS (show n2 = ((300 : Nat) : Int) from f4) rfl)).trans (fRow f10.1.2.1 298 kR_223_298)))
  have e206 : hV H13 298 = hV H0 298 := (uRowNe f69 298 (iS (show n38 = ((305 : Nat) : Int) from f60) rfl)).trans ((fRow f68.1.2.1 298 kR_223_298).trans ((fRow f59.1.2.1 298 kR_219_298).trans ((fRow f57.1.2.1 298 kR_216_298).trans ((uRowNe f53 298 (iS (show n30 = ((305 : Nat) : Int) from f46) rfl)).trans ((uRowNe f45 298 (iS (show n24 = ((305 : Nat) : Int) from f38) rfl)).trans ((uRowNe f37 298 (iS (show n18 = ((305 : Nat) : Int) from f30) rfl)).trans ((uRowNe f29 298 (iS (show n12 = ((305 : Nat) : Int) from f22) rfl)).trans ((uRowNe f21 298 (iS (show n8 = ((305 : Nat) : Int) from f16) rfl)).trans e197))))))))
  have e222 : hV H4 300 = (uF (hV H0 300) n0 n5) := (fRow f15.1.2.1 300 kR_229_300).trans ((fRow f13.1.2.1 300 kR_220_300).trans ((uRow f11 300 f4.symm).trans (congrArg (fun z => uF z n0 n5) (fRow f10.1.2.1 300 kR_223_300))))
  have e231 : hV H13 300 = (uF (hV H0 300) n0 n5) := (uRowNe f69 300 (iS (show n38 = ((305 : Nat) : Int) from f60) rfl)).trans ((fRow f68.1.2.1 300 kR_223_300).trans ((fRow f59.1.2.1 300 kR_219_300).trans ((fRow f57.1.2.1 300 kR_216_300).trans ((uRowNe f53 300 (iS (show n30 = ((305 : Nat) : Int) from f46) rfl)).trans ((uRowNe f45 300 (iS (show n24 = ((305 : Nat) : Int) from f38) rfl)).trans ((uRowNe f37 300 (iS (show n18 = ((305 : Nat) : Int) from f30) rfl)).trans ((uRowNe f29 300 (iS (show n12 = ((305 : Nat) : Int) from f22) rfl)).trans ((uRowNe f21 300 (iS (show n8 = ((305 : Nat) : Int) from f16) rfl)).trans e222))))))))
  have e248 : hV H13 301 = hV H4 301 := (uRowNe f69 301 (iS (show n38 = ((305 : Nat) : Int) from f60) rfl)).trans ((fRow f68.1.2.1 301 kR_223_301).trans ((fRow f59.1.2.1 301 kR_219_301).trans ((fRow f57.1.2.1 301 kR_216_301).trans ((uRowNe f53 301 (iS (show n30 = ((305 : Nat) : Int) from f46) rfl)).trans ((uRowNe f45 301 (iS (show n24 = ((305 : Nat) : Int) from f38) rfl)).trans ((uRowNe f37 301 (iS (show n18 = ((305 : Nat) : Int) from f30) rfl)).trans ((uRowNe f29 301 (iS (show n12 = ((305 : Nat) : Int) from f22) rfl)).trans (uRowNe f21 301 (iS (show n8 = ((305 : Nat) : Int) from f16) rfl)))))))))
  have e265 : hV H13 302 = hV H4 302 := (uRowNe f69 302 (iS (show n38 = ((305 : Nat) : Int) from f60) rfl)).trans ((fRow f68.1.2.1 302 kR_223_302).trans ((fRow f59.1.2.1 302 kR_219_302).trans ((fRow f57.1.2.1 302 kR_216_302).trans ((uRowNe f53 302 (iS (show n30 = ((305 : Nat) : Int) from f46) rfl)).trans ((uRowNe f45 302 (iS (show n24 = ((305 : Nat) : Int) from f38) rfl)).trans ((uRowNe f37 302 (iS (show n18 = ((305 : Nat) : Int) from f30) rfl)).trans ((uRowNe f29 302 (iS (show n12 = ((305 : Nat) : Int) from f22) rfl)).trans (uRowNe f21 302 (iS (show n8 = ((305 : Nat) : Int) from f16) rfl)))))))))
  have e282 : hV H13 303 = hV H4 303 := (uRowNe f69 303 (iS (show n38 = ((305 : Nat) : Int) from f60) rfl)).trans ((fRow f68.1.2.1 303 kR_223_303).trans ((fRow f59.1.2.1 303 kR_219_303).trans ((fRow f57.1.2.1 303 kR_216_303).trans ((uRowNe f53 303 (iS (show n30 = ((305 : Nat) : Int) from f46) rfl)).trans ((uRowNe f45 303 (iS (show n24 = ((305 : Nat) : Int) from f38) rfl)).trans ((uRowNe f37 303 (iS (show n18 = ((305 : Nat) : Int) from f30) rfl)).trans ((uRowNe f29 303 (iS (show n12 = ((305 : Nat) : Int) from f22) rfl)).trans (uRowNe f21 303 (iS (show n8 = ((305 : Nat) : Int) from f16) rfl)))))))))
  have e298 : hV H4 305 = hV H0 305 := (fRow f15.1.2.1 305 kR_229_305).trans ((fRow f13.1.2.1 305 kR_220_305).trans ((uRowNe f11 305 (iS (show n2 = ((300 : Nat) : Int) from f4) rfl)).trans (fRow f10.1.2.1 305 kR_223_305)))
  have e307 : hV H13 305 = (uF (uF (uF (uF (uF (uF (hV H0 305) n10 n11) n16 n17) n22 n23) n28 n29) n34 n35) n40 n43) := (uRow f69 305 f60.symm).trans (congrArg (fun z => uF z n40 n43) ((fRow f68.1.2.1 305 kR_223_305).trans ((fRow f59.1.2.1 305 kR_219_305).trans ((fRow f57.1.2.1 305 kR_216_305).trans ((uRow f53 305 f46.symm).trans (congrArg (fun z => uF z n34 n35) ((uRow f45 305 f38.symm).trans (congrArg (fun z => uF z n28 n29) ((uRow f37 305 f30.symm).trans (congrArg (fun z => uF z n22 n23) ((uRow f29 305 f22.symm).trans (congrArg (fun z => uF z n16 n17) ((uRow f21 305 f16.symm).trans (congrArg (fun z => uF z n10 n11) e298))))))))))))))
  have e323 : hV H4 328 = hV H0 328 := (fRow f15.1.2.1 328 kR_229_328).trans ((fRow f13.1.2.1 328 kR_220_328).trans ((uRowNe f11 328 (iS (show n2 = ((300 : Nat) : Int) from f4) rfl)).trans (fRow f10.1.2.1 328 kR_223_328)))
  have e332 : hV H13 328 = hV H0 328 := (uRowNe f69 328 (iS (show n38 = ((305 : Nat) : Int) from f60) rfl)).trans ((fRow f68.1.2.1 328 kR_223_328).trans ((fRow f59.1.2.1 328 kR_219_328).trans ((fRow f57.1.2.1 328 kR_216_328).trans ((uRowNe f53 328 (iS (show n30 = ((305 : Nat) : Int) from f46) rfl)).trans ((uRowNe f45 328 (iS (show n24 = ((305 : Nat) : Int) from f38) rfl)).trans ((uRowNe f37 328 (iS (show n18 = ((305 : Nat) : Int) from f30) rfl)).trans ((uRowNe f29 328 (iS (show n12 = ((305 : Nat) : Int) from f22) rfl)).trans ((uRowNe f21 328 (iS (show n8 = ((305 : Nat) : Int) from f16) rfl)).trans e323))))))))
  have e348 : hV H4 332 = hV H0 332 := (fRow f15.1.2.1 332 kR_229_332).trans ((fRow f13.1.2.1 332 kR_220_332).trans ((uRowNe f11 332 (iS (show n2 = ((300 : Nat) : Int) from f4) rfl)).trans (fRow f10.1.2.1 332 kR_223_332)))
  have e357 : hV H13 332 = hV H0 332 := (uRowNe f69 332 (iS (show n38 = ((305 : Nat) : Int) from f60) rfl)).trans ((fRow f68.1.2.1 332 kR_223_332).trans ((fRow f59.1.2.1 332 kR_219_332).trans ((fRow f57.1.2.1 332 kR_216_332).trans ((uRowNe f53 332 (iS (show n30 = ((305 : Nat) : Int) from f46) rfl)).trans ((uRowNe f45 332 (iS (show n24 = ((305 : Nat) : Int) from f38) rfl)).trans ((uRowNe f37 332 (iS (show n18 = ((305 : Nat) : Int) from f30) rfl)).trans ((uRowNe f29 332 (iS (show n12 = ((305 : Nat) : Int) from f22) rfl)).trans ((uRowNe f21 332 (iS (show n8 = ((305 : Nat) : Int) from f16) rfl)).trans e348))))))))
  have e373 : hV H4 335 = hV H0 335 := (fRow f15.1.2.1 335 kR_229_335).trans ((fRow f13.1.2.1 335 kR_220_335).trans ((uRowNe f11 335 (iS (show n2 = ((300 : Nat) : Int) from f4) rfl)).trans (fRow f10.1.2.1 335 kR_223_335)))
  have e382 : hV H13 335 = hV H0 335 := (uRowNe f69 335 (iS (show n38 = ((305 : Nat) : Int) from f60) rfl)).trans ((fRow f68.1.2.1 335 kR_223_335).trans ((fRow f59.1.2.1 335 kR_219_335).trans ((fRow f57.1.2.1 335 kR_216_335).trans ((uRowNe f53 335 (iS (show n30 = ((305 : Nat) : Int) from f46) rfl)).trans ((uRowNe f45 335 (iS (show n24 = ((305 : Nat) : Int) from f38) rfl)).trans ((uRowNe f37 335 (iS (show n18 = ((305 : Nat) : Int) from f30) rfl)).trans ((uRowNe f29 335 (iS (show n12 = ((305 : Nat) : Int) from f22) rfl)).trans ((uRowNe f21 335 (iS (show n8 = ((305 : Nat) : Int) from f16) rfl)).trans e373))))))))
  have e384 : hV H2 285 11 = hV H1 285 11 := (uPlace f11 285 11 (iS (show n2 = ((300 : Nat) : Int) from f4) rfl))
  have e386 : hV H2 285 13 = hV H1 285 13 := (uPlace f11 285 13 (iS (show n2 = ((300 : Nat) : Int) from f4) rfl))
  have e389 : hV H3 285 15 = hV H1 285 15 := ((f13.1.2.1.1 285 15 kF_220_285_15)).trans (uPlace f11 285 15 (iS (show n2 = ((300 : Nat) : Int) from f4) rfl))
  have e394 : hV H3 301 = hV H0 301 := (fRow f13.1.2.1 301 kR_220_301).trans ((uRowNe f11 301 (iS (show n2 = ((300 : Nat) : Int) from f4) rfl)).trans (fRow f10.1.2.1 301 kR_223_301))
  have e399 : hV H3 302 = hV H0 302 := (fRow f13.1.2.1 302 kR_220_302).trans ((uRowNe f11 302 (iS (show n2 = ((300 : Nat) : Int) from f4) rfl)).trans (fRow f10.1.2.1 302 kR_223_302))
  have e404 : hV H3 303 = hV H0 303 := (fRow f13.1.2.1 303 kR_220_303).trans ((uRowNe f11 303 (iS (show n2 = ((300 : Nat) : Int) from f4) rfl)).trans (fRow f10.1.2.1 303 kR_223_303))
  have e405 : hV H4 285 18 = hV H0 285 18 := ((f15.1.2.1.1 285 18 kF_229_285_18)).trans (((f13.1.2.1.1 285 18 kF_220_285_18)).trans (((uPlace f11 285 18 (iS (show n2 = ((300 : Nat) : Int) from f4) rfl))).trans (f10.1.2.1.1 285 18 kF_223_285_18)))
  have e406 : hV H4 285 32 = hV H0 285 32 := ((f15.1.2.1.1 285 32 kF_229_285_32)).trans (((f13.1.2.1.1 285 32 kF_220_285_32)).trans (((uPlace f11 285 32 (iS (show n2 = ((300 : Nat) : Int) from f4) rfl))).trans (f10.1.2.1.1 285 32 kF_223_285_32)))
  have e407 : hV H4 285 33 = hV H0 285 33 := ((f15.1.2.1.1 285 33 kF_229_285_33)).trans (((f13.1.2.1.1 285 33 kF_220_285_33)).trans (((uPlace f11 285 33 (iS (show n2 = ((300 : Nat) : Int) from f4) rfl))).trans (f10.1.2.1.1 285 33 kF_223_285_33)))
  have e408 : hV H4 285 64 = hV H0 285 64 := ((f15.1.2.1.1 285 64 kF_229_285_64)).trans (((f13.1.2.1.1 285 64 kF_220_285_64)).trans (((uPlace f11 285 64 (iS (show n2 = ((300 : Nat) : Int) from f4) rfl))).trans (f10.1.2.1.1 285 64 kF_223_285_64)))
  have e409 : (0 : Int) ≤ hV H0 285 11 ∧ hV H0 285 11 ≤ 500 := f3.1 285 11 _ _ kW_285_11
  have e410 : (0 : Int) ≤ hV H0 285 13 ∧ hV H0 285 13 ≤ 2 := f3.1 285 13 _ _ kW_285_13
  have e411 : (0 : Int) ≤ hV H0 285 15 ∧ hV H0 285 15 ≤ 6 := f3.1 285 15 _ _ kW_285_15
  have e412 : (0 : Int) ≤ hV H0 285 18 ∧ hV H0 285 18 ≤ 8 := f3.1 285 18 _ _ kW_285_18
  have e413 : (0 : Int) ≤ hV H0 285 32 ∧ hV H0 285 32 ≤ 7 := f3.1 285 32 _ _ kW_285_32
  have e414 : (0 : Int) ≤ hV H0 285 33 ∧ hV H0 285 33 ≤ 62 := f3.1 285 33 _ _ kW_285_33
  have e415 : (0 : Int) ≤ hV H0 285 64 ∧ hV H0 285 64 ≤ 20 := f3.1 285 64 _ _ kW_285_64
  have e416 : (0 : Int) ≤ hV H1 285 11 ∧ hV H1 285 11 ≤ 500 := f10.1.2.2.2 285 11 _ _ kW_285_11
  have e417 : (0 : Int) ≤ hV H1 285 13 ∧ hV H1 285 13 ≤ 2 := f10.1.2.2.2 285 13 _ _ kW_285_13
  have e418 : (0 : Int) ≤ hV H1 285 15 ∧ hV H1 285 15 ≤ 6 := f10.1.2.2.2 285 15 _ _ kW_285_15
  have e419 : (0 : Int) ≤ hV H4 285 11 ∧ hV H4 285 11 ≤ 500 := bTo e7 (f57.1.2.2.2 285 11 _ _ kW_285_11)
  have e421 : (0 : Int) ≤ hV H4 285 13 ∧ hV H4 285 13 ≤ 2 := bTo e14 (f57.1.2.2.2 285 13 _ _ kW_285_13)
  have e423 : (0 : Int) ≤ hV H11 285 11 ∧ hV H11 285 11 ≤ 500 := f59.1.2.2.2 285 11 _ _ kW_285_11
  have e424 : (0 : Int) ≤ hV H11 285 13 ∧ hV H11 285 13 ≤ 2 := f59.1.2.2.2 285 13 _ _ kW_285_13
  have e425 : (0 : Int) ≤ hV H4 285 15 ∧ hV H4 285 15 ≤ 6 := bTo e40 (f59.1.2.2.2 285 15 _ _ kW_285_15)
  have e427 : (0 : Int) ≤ hV H12 285 11 ∧ hV H12 285 11 ≤ 500 := f68.1.2.2.2 285 11 _ _ kW_285_11
  have e428 : (0 : Int) ≤ hV H12 285 13 ∧ hV H12 285 13 ≤ 2 := f68.1.2.2.2 285 13 _ _ kW_285_13
  have e429 : (0 : Int) ≤ hV H12 285 15 ∧ hV H12 285 15 ≤ 6 := f68.1.2.2.2 285 15 _ _ kW_285_15
  have e430 : (0 : Int) ≤ hV H3 285 11 ∧ hV H3 285 11 ≤ 500 := f13.1.2.2.2 285 11 _ _ kW_285_11
  have e431 : (0 : Int) ≤ hV H3 285 13 ∧ hV H3 285 13 ≤ 2 := f13.1.2.2.2 285 13 _ _ kW_285_13
  try simp only [PA, PW]
  try simp only [e46, e48, e50, e64, e78, e92, e106, e131, e156, e181, e206, e231, e248, e265, e282, e307, e332, e357, e382]
  have p0 := f3.2.1
  have p1 := f3.2.2.1
  have p2 := f3.2.2.2.1
  have p3 := f3.2.2.2.2.1
  have p4 := f3.2.2.2.2.2.1
  have p5 := f3.2.2.2.2.2.2.1
  have p6 := f3.2.2.2.2.2.2.2.1
  have p7 := f3.2.2.2.2.2.2.2.2
  have r0_0 := f10.2.1
  have r0_1 := f10.2.2.1
  have r0_2 := f10.2.2.2.1
  have r0_3 := f10.2.2.2.2.1
  have r0_4 := f10.2.2.2.2.2.1
  have r0_5 := f10.2.2.2.2.2.2.1
  have r0_6 := f10.2.2.2.2.2.2.2.1
  have r1_0 := f13.2.1
  have r1_1 := f13.2.2.1
  have r1_2 := f13.2.2.2.1
  have r1_3 := f13.2.2.2.2.1
  have r2_0 := f15.2.1
  have r2_1 := f15.2.2.1
  have r2_2 := f15.2.2.2.1
  have r2_3 := f15.2.2.2.2.1
  have r2_4 := f15.2.2.2.2.2.1
  have r2_5 := f15.2.2.2.2.2.2.1
  have r2_6 := f15.2.2.2.2.2.2.2.1
  have r2_7 := f15.2.2.2.2.2.2.2.2.1 f14
  have r3_0 := f57.2.1
  have r3_1 := f57.2.2.resolve_right (fun z => f58 z.1)
  have r4_0 := f59.2.1
  have r4_1 := f59.2.2.1
  have r4_2 := f59.2.2.2.1
  have r4_3 := f59.2.2.2.2
  have r5_0 := f68.2.1
  have r5_1 := f68.2.2.1
  have r5_2 := f68.2.2.2.1
  have r5_3 := f68.2.2.2.2.1
  have r5_4 := f68.2.2.2.2.2.1
  have r5_5 := f68.2.2.2.2.2.2.1
  have r5_6 := f68.2.2.2.2.2.2.2.1
  try simp only [PA] at p0
  try simp only [PW] at p5
  try simp only [PA] at r2_0
  try simp only [PW] at r2_1
  try simp only [e384] at r1_0
  try simp only [e384] at r1_1
  try simp only [e386] at r1_2
  try simp only [e384] at r1_3
  try simp only [e405, e408, e122, e147, e197, e222, e298, e323, e348, e373] at r2_0
  try simp only [e406, e407, e122, e147, e172, e197, e222, e298] at r2_1
  try simp only [e389] at r2_5
  try simp only [e389] at r2_6
  try simp only [e389, e25, e394, e399, e404, e405, e406, e407, e408, e122, e147, e172, e197, e222, e298, e323, e348, e373] at r2_7
  try simp only [e14] at r3_0
  try simp only [e7, e14, e32] at r3_1
  try simp only [e7] at r4_0
  try simp only [e7] at r4_1
  try simp only [e14] at r4_2
  try simp only [e7] at r4_3
  try simp only [e40] at r5_4
  have wb0 := (p7 (hV H0 285 32).toNat).1
  have wp0 := (p7 (hV H0 285 33).toNat).2
  clear f5 f17 f23 f31 f39 f47 f61 e7 e14 e25 e32 e40 e46 e48 e50 e64 e78 e92 e106 e122 e131 e147 e156 e172 e181 e197 e206 e222 e231 e248 e265 e282 e298 e307 e323 e332 e348 e357 e373 e382 e384 e386 e389 e394 e399 e404 e405 e406 e407 e408
  clear f3 f10 f13 f15 f57 f59 f68
  rw [f18] at f19
  rw [f24] at f25
  rw [f32] at f33
  rw [f40] at f41
  rw [f48] at f49
  rw [f62] at f63
  first
  | (have ix0 : n10 = 6 * n0 := Eq.trans f19 (w32_iv (Iml 6 rfl (Iat f1 f0)) (by decide)); subst ix0; clear f19)
  | (have ix0 : n10 = 6 * n0 := Eq.trans f19 (w32_id (by omega) (by omega)); subst ix0; clear f19)
  | (unfold w32 at f19; have ix0 : n10 = 6 * n0 := (by omega); subst ix0)
  | skip
  first
  | (have ix1 : n14 = 6 * n0 := Eq.trans f25 (w32_iv (Iml 6 rfl (Iat f1 f0)) (by decide)); subst ix1; clear f25)
  | (have ix1 : n14 = 6 * n0 := Eq.trans f25 (w32_id (by omega) (by omega)); subst ix1; clear f25)
  | (unfold w32 at f25; have ix1 : n14 = 6 * n0 := (by omega); subst ix1)
  | skip
  first
  | (have ix2 : n16 = (6 * n0) + 1 := Eq.trans f27 (w32_iv (Iad (Iml 6 rfl (Iat f1 f0)) (IC 1)) (by decide)); subst ix2; clear f27)
  | (have ix2 : n16 = (6 * n0) + 1 := Eq.trans f27 (w32_id (by omega) (by omega)); subst ix2; clear f27)
  | (unfold w32 at f27; have ix2 : n16 = (6 * n0) + 1 := (by omega); subst ix2)
  | skip
  first
  | (have ix3 : n20 = 6 * n0 := Eq.trans f33 (w32_iv (Iml 6 rfl (Iat f1 f0)) (by decide)); subst ix3; clear f33)
  | (have ix3 : n20 = 6 * n0 := Eq.trans f33 (w32_id (by omega) (by omega)); subst ix3; clear f33)
  | (unfold w32 at f33; have ix3 : n20 = 6 * n0 := (by omega); subst ix3)
  | skip
  first
  | (have ix4 : n22 = (6 * n0) + 2 := Eq.trans f35 (w32_iv (Iad (Iml 6 rfl (Iat f1 f0)) (IC 2)) (by decide)); subst ix4; clear f35)
  | (have ix4 : n22 = (6 * n0) + 2 := Eq.trans f35 (w32_id (by omega) (by omega)); subst ix4; clear f35)
  | (unfold w32 at f35; have ix4 : n22 = (6 * n0) + 2 := (by omega); subst ix4)
  | skip
  first
  | (have ix5 : n26 = 6 * n0 := Eq.trans f41 (w32_iv (Iml 6 rfl (Iat f1 f0)) (by decide)); subst ix5; clear f41)
  | (have ix5 : n26 = 6 * n0 := Eq.trans f41 (w32_id (by omega) (by omega)); subst ix5; clear f41)
  | (unfold w32 at f41; have ix5 : n26 = 6 * n0 := (by omega); subst ix5)
  | skip
  first
  | (have ix6 : n28 = (6 * n0) + 3 := Eq.trans f43 (w32_iv (Iad (Iml 6 rfl (Iat f1 f0)) (IC 3)) (by decide)); subst ix6; clear f43)
  | (have ix6 : n28 = (6 * n0) + 3 := Eq.trans f43 (w32_id (by omega) (by omega)); subst ix6; clear f43)
  | (unfold w32 at f43; have ix6 : n28 = (6 * n0) + 3 := (by omega); subst ix6)
  | skip
  first
  | (have ix7 : n32 = 6 * n0 := Eq.trans f49 (w32_iv (Iml 6 rfl (Iat f1 f0)) (by decide)); subst ix7; clear f49)
  | (have ix7 : n32 = 6 * n0 := Eq.trans f49 (w32_id (by omega) (by omega)); subst ix7; clear f49)
  | (unfold w32 at f49; have ix7 : n32 = 6 * n0 := (by omega); subst ix7)
  | skip
  first
  | (have ix8 : n34 = (6 * n0) + 4 := Eq.trans f51 (w32_iv (Iad (Iml 6 rfl (Iat f1 f0)) (IC 4)) (by decide)); subst ix8; clear f51)
  | (have ix8 : n34 = (6 * n0) + 4 := Eq.trans f51 (w32_id (by omega) (by omega)); subst ix8; clear f51)
  | (unfold w32 at f51; have ix8 : n34 = (6 * n0) + 4 := (by omega); subst ix8)
  | skip
  first
  | (have ix9 : n40 = 6 * n0 := Eq.trans f63 (w32_iv (Iml 6 rfl (Iat f1 f0)) (by decide)); subst ix9; clear f63)
  | (have ix9 : n40 = 6 * n0 := Eq.trans f63 (w32_id (by omega) (by omega)); subst ix9; clear f63)
  | (unfold w32 at f63; have ix9 : n40 = 6 * n0 := (by omega); subst ix9)
  | skip
  try unfold w32 at f19
  try unfold w32 at f25
  try unfold w32 at f27
  try unfold w32 at f33
  try unfold w32 at f35
  try unfold w32 at f41
  try unfold w32 at f43
  try unfold w32 at f49
  try unfold w32 at f51
  try unfold w32 at f63

  refine ⟨⟨?_, ?_, ?_, ?_, ?_, ?_, ?_, ?_, ?_, ?_, ?_, ?_, ?_, ?_, ?_⟩, fun q hq => ?_⟩
  · first | exact True.intro | rfl | omega
  · refine PA_cn ?_ (by omega)
    refine PA_cn ?_ (by omega)
    refine PA_cn ?_ (by omega)
    refine PA_cn ?_ (by omega)
    refine PA_cn ?_ (by omega)
    refine PA_cn ?_ (by omega)
    exact r2_0
  · intro z1 z2
    refine PW_cn ?_ (by omega) (by omega) (by omega) (by omega)
    refine PW_cn ?_ (by omega) (by omega) (by omega) (by omega)
    refine PW_cn ?_ (by omega) (by omega) (by omega) (by omega)
    refine PW_cn ?_ (by omega) (by omega) (by omega) (by omega)
    refine PW_cn ?_ (by omega) (by omega) (by omega) (by omega)
    refine PW_cn ?_ (by omega) (by omega) (by omega) (by omega)
    exact r2_1 (by omega) (by omega)
  · (try clear p0 p5 p7 r2_0 r2_1)
    first | exact True.intro | omega
  · (try clear p0 p5 p7 r2_0 r2_1)
    first | exact True.intro | omega
  · (try clear p0 p5 p7 r2_0 r2_1)
    first | exact True.intro | omega
  · (try clear p0 p5 p7 r2_0 r2_1)
    first | exact True.intro | omega
  · (try clear p0 p5 p7 r2_0 r2_1)
    first | exact True.intro | omega
  · (try clear p0 p5 p7 r2_0 r2_1)
    first | (simp only [uF_at]; omega) | omega
  · (try clear p0 p5 p7 r2_0 r2_1)
    first | (simp only [uF_at]; omega) | omega
  · (try clear p0 p5 p7 r2_0 r2_1)
    first | (simp only [uF_at]; omega) | omega
  · (try clear p0 p5 p7 r2_0 r2_1)
    first | exact True.intro | omega
  · (try clear p0 p5 p7 r2_0 r2_1)
    first | exact True.intro | omega
  · (try clear p0 p5 p7 r2_0 r2_1)
    first | (simp only [uF_at]; omega) | omega
  · (try clear p0 p5 p7 r2_0 r2_1)
    first | (simp only [uF_at]; omega) | omega
  · exact nomatch hq
def g_228_s_8 : vG := ([(80, [38, 40, 43], [13, 12], 0), (1223, [43, 0, 41, 42], [11, 12], 0), (90, [43], [], 0), (91, [43], [], 9999), (0, [42], [], 60), (0, [41], [], 0), (3, [40, 39, 1], [], 0), (0, [39], [], 6), (20, [38, 0], [11], 31), (0, [38], [], 305), (1219, [0], [10, 11], 0), (31, [37], [], 0), (1216, [37, 0, 36], [9, 10], 0), (90, [37], [], 0), (91, [37], [], 1), (0, [36], [], 26), (80, [30, 34, 35], [9, 8], 0), (0, [35], [], 1), (1, [34, 32, 33], [], 0), (0, [33], [], 4), (3, [32, 31, 1], [], 0), (0, [31], [], 6), (20, [30, 0], [8], 31), (0, [30], [], 305), (80, [24, 28, 29], [8, 7], 0), (0, [29], [], 1), (1, [28, 26, 27], [], 0), (0, [27], [], 3), (3, [26, 25, 1], [], 0), (0, [25], [], 6), (20, [24, 0], [7], 31), (0, [24], [], 305), (80, [18, 22, 23], [7, 6], 0), (0, [23], [], 100), (1, [22, 20, 21], [], 0), (0, [21], [], 2), (3, [20, 19, 1], [], 0), (0, [19], [], 6), (20, [18, 0], [6], 31), (0, [18], [], 305), (80, [12, 16, 17], [6, 5], 0), (0, [17], [], -1), (1, [16, 14, 15], [], 0), (0, [15], [], 1), (3, [14, 13, 1], [], 0), (0, [13], [], 6), (20, [12, 0], [5], 31), (0, [12], [], 305), (80, [8, 10, 11], [5, 4], 0), (0, [11], [], 0), (3, [10, 9, 1], [], 0), (0, [9], [], 6), (20, [8, 0], [4], 31), (0, [8], [], 305), (1229, [0, 1, 7], [3, 4], 0), (0, [7], [], 0), (1220, [0, 6], [2, 3], 0), (0, [6], [], 25), (80, [2, 1, 5], [2, 1], 0), (1223, [5, 0, 3, 4], [0, 1], 0), (90, [5], [], 0), (91, [5], [], 9999), (0, [4], [], 19), (0, [3], [], 0), (20, [2, 0], [0], 26), (0, [2], [], 300), (6000, [0, 1], [0], 0), (0, [0], [], 285), (90, [1], [], 0), (91, [1], [], 1007)], (4000, [0, 1], [13], 113))
theorem c_228_s_8 : vOkm T0 (eP e_228 L_228 A_228 mu_228 none) 2 g_228_s_8 := vOk_inI fun ρ η f0 f1 f2 f3 f4 f5 f6 f7 f8 f9 f10 f11 f12 f13 f14 f15 f16 f17 f18 f19 f20 f21 f22 f23 f24 f25 f26 f27 f28 f29 f30 f31 f32 f33 f34 f35 f36 f37 f38 f39 f40 f41 f42 f43 f44 f45 f46 f47 f48 f49 f50 f51 f52 f53 f54 f55 f56 f57 f58 f59 f60 f61 f62 f63 f64 f65 f66 f67 f68 f69 => q_228_8 (n0 := ρ 1) (n1 := ρ 0) (n2 := ρ 2) (n3 := ρ 3) (n4 := ρ 4) (n5 := ρ 5) (n6 := ρ 6) (n7 := ρ 7) (n8 := ρ 8) (n9 := ρ 9) (n10 := ρ 10) (n11 := ρ 11) (n12 := ρ 12) (n13 := ρ 13) (n14 := ρ 14) (n15 := ρ 15) (n16 := ρ 16) (n17 := ρ 17) (n18 := ρ 18) (n19 := ρ 19) (n20 := ρ 20) (n21 := ρ 21) (n22 := ρ 22) (n23 := ρ 23) (n24 := ρ 24) (n25 := ρ 25) (n26 := ρ 26) (n27 := ρ 27) (n28 := ρ 28) (n29 := ρ 29) (n30 := ρ 30) (n31 := ρ 31) (n32 := ρ 32) (n33 := ρ 33) (n34 := ρ 34) (n35 := ρ 35) (n36 := ρ 36) (n37 := ρ 37) (n38 := ρ 38) (n39 := ρ 39) (n40 := ρ 40) (n41 := ρ 41) (n42 := ρ 42) (n43 := ρ 43) (H0 := η 0) (H1 := η 1) (H2 := η 2) (H3 := η 3) (H4 := η 4) (H5 := η 5) (H6 := η 6) (H7 := η 7) (H8 := η 8) (H9 := η 9) (H10 := η 10) (H11 := η 11) (H12 := η 12) (H13 := η 13) f69 f68 f67 f66 f65 f64 f63 f62 f61 f60 f59 f58 f57 f56 f55 f54 f53 f52 f51 f50 f49 f48 f47 f46 f45 f44 f43 f42 f41 f40 f39 f38 f37 f36 f35 f34 f33 f32 f31 f30 f29 f28 f27 f26 f25 f24 f23 f22 f21 f20 f19 f18 f17 f16 f15 f14 f13 f12 f11 f10 f9 f8 f7 f6 f5 f4 f3 f2 f1 f0
def p_228_s : List vG := [g_228_s_0,
  g_228_s_1,
  g_228_s_2,
  g_228_s_3,
  g_228_s_4,
  g_228_s_5,
  g_228_s_6,
  g_228_s_7,
  g_228_s_8]
theorem r_228_s : vCovO false (eR0 e_228 L_228 cs_228 2000) p_228_s = true := by decide +kernel
set_option maxHeartbeats 20000000 in
theorem kF_228_285_18 : vFree s_228.2.2.2.2 285 18 = true := by decide +kernel
theorem kF_228_285_32 : vFree s_228.2.2.2.2 285 32 = true := by decide +kernel
theorem kF_228_285_33 : vFree s_228.2.2.2.2 285 33 = true := by decide +kernel
theorem q_228_9 {q0 : Nat} {n0 n1 n2 n3 n4 n5 : Int} {H0 H1 H2 : gH} (f0 : n0 ≤ 1007) (f1 : 0 ≤ n0) (f2 : n1 = 285) (f3 : n2 ≤ 1007) (f4 : 0 ≤ n2) (f5 : n3 = 285) (f6 : (hLe T0 H0 H1 ∧ hFr s_228.2.2.2.2 H0 H1 ∧ hWt T0 H1) ∧ (Ab_228_113 n3 n2 n1 n0 H0 H1 ∧ preb_228 n3 n2 H0) ∧ some q0 = some (mub_228_113 n3 n2 n1 n0 H0 H1)) (f7 : n4 = 27) (f8 : n5 ≤ 1) (f9 : 0 ≤ n5) (f10 : (hLe T0 H1 H2 ∧ hFr s_216.2.2.2.2 H1 H2 ∧ ((0 : Int) = 0 → H2.length = H1.length) ∧ hWt T0 H2) ∧ postb_216 n5 n1 n4 H1 H2) (f11 : n5 = 0) : Ab_228_144 n3 n2 n1 n0 H0 H2 ∧ ∀ q, some q0 = some q → mub_228_144 n3 n2 n1 n0 H0 H2 < q := by
  have g4 := f6.2.1.1
  unfold Ab_228_113 at g4
  have g3 := f6.2.1.2
  unfold preb_228 at g3
  have g5 := Option.some.inj f6.2.2
  unfold mub_228_113 at g5
  unfold postb_216 at f10
  unfold Ab_228_144
  unfold mub_228_144
  have e1 : hV H1 285 18 = hV H0 285 18 := (f6.1.2.1.1 285 18 kF_228_285_18)
  have e3 : hV H1 285 32 = hV H0 285 32 := (f6.1.2.1.1 285 32 kF_228_285_32)
  have e5 : hV H1 285 33 = hV H0 285 33 := (f6.1.2.1.1 285 33 kF_228_285_33)
  have e7 : hV H2 285 11 = hV H1 285 11 := (f10.1.2.1.1 285 11 kF_216_285_11)
  have e9 : hV H2 285 13 = hV H1 285 13 := (f10.1.2.1.1 285 13 kF_216_285_13)
  have e11 : hV H2 285 15 = hV H1 285 15 := (f10.1.2.1.1 285 15 kF_216_285_15)
  have e15 : hV H2 300 = hV H1 300 := fRow f10.1.2.1 300 kR_216_300
  have e16 : hV H2 301 = hV H1 301 := fRow f10.1.2.1 301 kR_216_301
  have e17 : hV H2 305 = hV H1 305 := fRow f10.1.2.1 305 kR_216_305
  have e18 : PA H2 = PA H1 := PA_fr f10.1.2.1 (by decide +kernel)
  have e19 : PW H2 = PW H1 := PW_fr f10.1.2.1 (by decide +kernel)
  have e20 : (0 : Int) ≤ hV H1 285 11 ∧ hV H1 285 11 ≤ 500 := f6.1.2.2 285 11 _ _ kW_285_11
  have e21 : (0 : Int) ≤ hV H1 285 13 ∧ hV H1 285 13 ≤ 2 := f6.1.2.2 285 13 _ _ kW_285_13
  have e22 : (0 : Int) ≤ hV H1 285 15 ∧ hV H1 285 15 ≤ 6 := f6.1.2.2 285 15 _ _ kW_285_15
  have e23 : (0 : Int) ≤ hV H0 285 18 ∧ hV H0 285 18 ≤ 8 := bTo e1 (f6.1.2.2 285 18 _ _ kW_285_18)
  have e24 : (0 : Int) ≤ hV H0 285 32 ∧ hV H0 285 32 ≤ 7 := bTo e3 (f6.1.2.2 285 32 _ _ kW_285_32)
  have e25 : (0 : Int) ≤ hV H0 285 33 ∧ hV H0 285 33 ≤ 62 := bTo e5 (f6.1.2.2 285 33 _ _ kW_285_33)
  try simp only [e7, e9, e11, e15, e16, e17, e18, e19]
  have k0 := g4.1
  have y0 := g4.2.1
  have y1 := g4.2.2.1
  have y2 := g4.2.2.2.1
  have y3 := g4.2.2.2.2.1
  have y4 := g4.2.2.2.2.2.1
  have y5 := g4.2.2.2.2.2.2.1
  have y6 := g4.2.2.2.2.2.2.2.1
  have y7 := g4.2.2.2.2.2.2.2.2.1
  have y8 := g4.2.2.2.2.2.2.2.2.2.1
  have y9 := g4.2.2.2.2.2.2.2.2.2.2.1
  have y10 := g4.2.2.2.2.2.2.2.2.2.2.2.1
  have y11 := g4.2.2.2.2.2.2.2.2.2.2.2.2.1
  have y12 := g4.2.2.2.2.2.2.2.2.2.2.2.2.2.1
  have y13 := g4.2.2.2.2.2.2.2.2.2.2.2.2.2.2
  have p0 := g3.1
  have p1 := g3.2.1
  have p2 := g3.2.2.1
  have p3 := g3.2.2.2.1
  have p4 := g3.2.2.2.2.1
  have p5 := g3.2.2.2.2.2.1
  have p6 := g3.2.2.2.2.2.2.1
  have p7 := g3.2.2.2.2.2.2.2
  have r0_0 := f10.2.1
  try simp only [e9] at r0_0
  clear g3
  clear g4
  have wb0 := (p7 (hV H0 285 32).toNat).1
  have wp0 := (p7 (hV H0 285 33).toNat).2
  try simp only [e1, e3, e5] at wb0
  try simp only [e1, e3, e5] at wp0
  clear e1 e3 e5 e7 e9 e11 e15 e16 e17 e18 e19
  clear f6 f10

  refine ⟨⟨?_, ?_, ?_, ?_⟩, fun q hq => ?_⟩
  · first | exact True.intro | rfl | omega
  · exact y0
  · intro z1 z2
    exact y1 (by omega) (by omega)
  · (try clear y0 y1 p0 p5 p7)
    first
    | omega
    | (refine ⟨?_, ?_, ?_, ?_, ?_, ?_, ?_, ?_, ?_, ?_, ?_, ?_⟩ <;> first | exact True.intro | omega)
  · (try clear y0 y1 p0 p5 p7)
    have g6 := Option.some.inj hq
    subst g6
    omega
def g_228_113_0 : vG := ([(30, [5], [], 0), (1216, [5, 2, 4], [1, 2], 0), (90, [5], [], 0), (91, [5], [], 1), (0, [4], [], 27), (5000, [0, 1, 2, 3], [0, 1], 113), (0, [0], [], 285), (90, [1], [], 0), (91, [1], [], 1007), (0, [2], [], 285), (90, [3], [], 0), (91, [3], [], 1007)], (4000, [2, 3], [2], 144))
theorem c_228_113_0 {q0 : Nat} : vOkm T0 (eP e_228 L_228 A_228 mu_228 (some q0)) 2 g_228_113_0 := vOk_inI fun ρ η f0 f1 f2 f3 f4 f5 f6 f7 f8 f9 f10 f11 => q_228_9 (q0 := q0) (n0 := ρ 3) (n1 := ρ 2) (n2 := ρ 1) (n3 := ρ 0) (n4 := ρ 4) (n5 := ρ 5) (H0 := η 0) (H1 := η 1) (H2 := η 2) f11 f10 f9 f8 f7 f6 f5 f4 f3 f2 f1 f0
set_option maxHeartbeats 20000000 in
theorem q_228_10 {q0 : Nat} {n0 n1 n2 n3 n4 n5 n6 n7 : Int} {H0 H1 : gH} (f0 : n0 ≤ 1007) (f1 : 0 ≤ n0) (f2 : n1 = 285) (f3 : n2 ≤ 1007) (f4 : 0 ≤ n2) (f5 : n3 = 285) (f6 : (hLe T0 H0 H1 ∧ hFr s_228.2.2.2.2 H0 H1 ∧ hWt T0 H1) ∧ (Ab_228_113 n3 n2 n1 n0 H0 H1 ∧ preb_228 n3 n2 H0) ∧ some q0 = some (mub_228_113 n3 n2 n1 n0 H0 H1)) (f7 : n4 = 6) (f8 : n5 = w32 (n4 * n0)) (f9 : n6 = 1) (f10 : n7 = w32 (n5 + n6)) : 0 ≤ n7 ∧ n7 < 6048 := by
  have g4 := f6.2.1.1
  unfold Ab_228_113 at g4
  have g3 := f6.2.1.2
  unfold preb_228 at g3
  have e1 : hV H1 285 18 = hV H0 285 18 := (f6.1.2.1.1 285 18 kF_228_285_18)
  have e3 : hV H1 285 32 = hV H0 285 32 := (f6.1.2.1.1 285 32 kF_228_285_32)
  have e5 : hV H1 285 33 = hV H0 285 33 := (f6.1.2.1.1 285 33 kF_228_285_33)
  have e6 : (0 : Int) ≤ hV H1 285 11 ∧ hV H1 285 11 ≤ 500 := f6.1.2.2 285 11 _ _ kW_285_11
  have e7 : (0 : Int) ≤ hV H1 285 13 ∧ hV H1 285 13 ≤ 2 := f6.1.2.2 285 13 _ _ kW_285_13
  have e8 : (0 : Int) ≤ hV H1 285 15 ∧ hV H1 285 15 ≤ 6 := f6.1.2.2 285 15 _ _ kW_285_15
  have e9 : (0 : Int) ≤ hV H0 285 18 ∧ hV H0 285 18 ≤ 8 := bTo e1 (f6.1.2.2 285 18 _ _ kW_285_18)
  have e10 : (0 : Int) ≤ hV H0 285 32 ∧ hV H0 285 32 ≤ 7 := bTo e3 (f6.1.2.2 285 32 _ _ kW_285_32)
  have e11 : (0 : Int) ≤ hV H0 285 33 ∧ hV H0 285 33 ≤ 62 := bTo e5 (f6.1.2.2 285 33 _ _ kW_285_33)
  have k0 := g4.1
  have y0 := g4.2.1
  have y1 := g4.2.2.1
  have y2 := g4.2.2.2.1
  have y3 := g4.2.2.2.2.1
  have y4 := g4.2.2.2.2.2.1
  have y5 := g4.2.2.2.2.2.2.1
  have y6 := g4.2.2.2.2.2.2.2.1
  have y7 := g4.2.2.2.2.2.2.2.2.1
  have y8 := g4.2.2.2.2.2.2.2.2.2.1
  have y9 := g4.2.2.2.2.2.2.2.2.2.2.1
  have y10 := g4.2.2.2.2.2.2.2.2.2.2.2.1
  have y11 := g4.2.2.2.2.2.2.2.2.2.2.2.2.1
  have y12 := g4.2.2.2.2.2.2.2.2.2.2.2.2.2.1
  have y13 := g4.2.2.2.2.2.2.2.2.2.2.2.2.2.2
  have p0 := g3.1
  have p1 := g3.2.1
  have p2 := g3.2.2.1
  have p3 := g3.2.2.2.1
  have p4 := g3.2.2.2.2.1
  have p5 := g3.2.2.2.2.2.1
  have p6 := g3.2.2.2.2.2.2.1
  have p7 := g3.2.2.2.2.2.2.2
  clear g3
  clear g4
  have wb0 := (p7 (hV H0 285 32).toNat).1
  have wp0 := (p7 (hV H0 285 33).toNat).2
  try simp only [e1, e3, e5] at wb0
  try simp only [e1, e3, e5] at wp0
  clear e1 e3 e5
  clear f6
  rw [f7] at f8
  first
  | (have ix0 : n5 = 6 * n0 := Eq.trans f8 (w32_iv (Iml 6 rfl (Iat f1 f0)) (by decide)); subst ix0; clear f8)
  | (have ix0 : n5 = 6 * n0 := Eq.trans f8 (w32_id (by omega) (by omega)); subst ix0; clear f8)
  | (unfold w32 at f8; have ix0 : n5 = 6 * n0 := (by omega); subst ix0)
  | skip
  first
  | (have ix1 : n7 = (6 * n0) + 1 := Eq.trans f10 (w32_iv (Iad (Iml 6 rfl (Iat f1 f0)) (IC 1)) (by decide)); subst ix1; clear f10)
  | (have ix1 : n7 = (6 * n0) + 1 := Eq.trans f10 (w32_id (by omega) (by omega)); subst ix1; clear f10)
  | (unfold w32 at f10; have ix1 : n7 = (6 * n0) + 1 := (by omega); subst ix1)
  | skip
  try unfold w32 at f8
  try unfold w32 at f10

  (try clear y0 y1 p0 p5 p7)
  omega
def g_228_113_1 : vG := ([(1, [10, 8, 9], [], 0), (0, [9], [], 1), (3, [8, 7, 3], [], 0), (0, [7], [], 6), (5000, [0, 1, 2, 3], [0, 1], 113), (0, [0], [], 285), (90, [1], [], 0), (91, [1], [], 1007), (0, [2], [], 285), (90, [3], [], 0), (91, [3], [], 1007)], (70, [10], [], 6048))
theorem c_228_113_1 {q0 : Nat} : vOkm T0 (eP e_228 L_228 A_228 mu_228 (some q0)) 2 g_228_113_1 := vOk_inI fun ρ η f0 f1 f2 f3 f4 f5 f6 f7 f8 f9 f10 => q_228_10 (q0 := q0) (n0 := ρ 3) (n1 := ρ 2) (n2 := ρ 1) (n3 := ρ 0) (n4 := ρ 7) (n5 := ρ 8) (n6 := ρ 9) (n7 := ρ 10) (H0 := η 0) (H1 := η 1) f10 f9 f8 f7 f6 f5 f4 f3 f2 f1 f0
set_option maxHeartbeats 20000000 in
theorem kR_228_294 : vFreeR s_228.2.2.2.2 294 = true := by decide +kernel
theorem kR_228_296 : vFreeR s_228.2.2.2.2 296 = true := by decide +kernel
theorem kR_228_297 : vFreeR s_228.2.2.2.2 297 = true := by decide +kernel
theorem kR_228_298 : vFreeR s_228.2.2.2.2 298 = true := by decide +kernel
theorem kR_228_328 : vFreeR s_228.2.2.2.2 328 = true := by decide +kernel
theorem kR_228_332 : vFreeR s_228.2.2.2.2 332 = true := by decide +kernel
theorem kR_228_335 : vFreeR s_228.2.2.2.2 335 = true := by decide +kernel
theorem kR_228_288 : vFreeR s_228.2.2.2.2 288 = true := by decide +kernel
theorem kF_228_285_64 : vFree s_228.2.2.2.2 285 64 = true := by decide +kernel
theorem q_228_11 {q0 : Nat} {n0 n1 n2 n3 n4 n5 n6 n7 n8 n9 n10 n11 n12 n13 : Int} {H0 H1 H2 H3 H4 H5 : gH} (f0 : n0 ≤ 1007) (f1 : 0 ≤ n0) (f2 : n1 = 285) (f3 : n2 ≤ 1007) (f4 : 0 ≤ n2) (f5 : n3 = 285) (f6 : (hLe T0 H0 H1 ∧ hFr s_228.2.2.2.2 H0 H1 ∧ hWt T0 H1) ∧ (Ab_228_113 n3 n2 n1 n0 H0 H1 ∧ preb_228 n3 n2 H0) ∧ some q0 = some (mub_228_113 n3 n2 n1 n0 H0 H1)) (f7 : n4 = 27) (f8 : n5 ≤ 1) (f9 : 0 ≤ n5) (f10 : (hLe T0 H1 H2 ∧ hFr s_216.2.2.2.2 H1 H2 ∧ ((0 : Int) = 0 → H2.length = H1.length) ∧ hWt T0 H2) ∧ postb_216 n5 n1 n4 H1 H2) (f11 : n5 ≠ 0) (f12 : (hLe T0 H2 H3 ∧ hFr s_219.2.2.2.2 H2 H3 ∧ ((0 : Int) = 0 → H3.length = H2.length) ∧ hWt T0 H3) ∧ postb_219 n1 H2 H3) (f13 : n6 = 305) (f14 : n6 = hV H3 (n1).toNat 31) (f15 : n7 = 6) (f16 : n8 = w32 (n7 * n0)) (f17 : n9 = 1) (f18 : n10 = w32 (n8 + n9)) (f19 : n11 = 0) (f20 : n12 = 60) (f21 : n13 ≤ 9999) (f22 : 0 ≤ n13) (f23 : (hLe T0 H3 H4 ∧ hFr s_223.2.2.2.2 H3 H4 ∧ ((0 : Int) = 0 → H4.length = H3.length) ∧ hWt T0 H4) ∧ postb_223 n13 n1 n11 n12 H3 H4) (f24 : hUpd H5 H4 n6 n10 n13) : Ab_228_144 n3 n2 n1 n0 H0 H5 ∧ ∀ q, some q0 = some q → mub_228_144 n3 n2 n1 n0 H0 H5 < q := by
  have g4 := f6.2.1.1
  unfold Ab_228_113 at g4
  have g3 := f6.2.1.2
  unfold preb_228 at g3
  have g5 := Option.some.inj f6.2.2
  unfold mub_228_113 at g5
  unfold postb_216 at f10
  unfold postb_219 at f12
  unfold postb_223 at f23
  unfold Ab_228_144
  unfold mub_228_144
  have e1 : hV H1 285 18 = hV H0 285 18 := (f6.1.2.1.1 285 18 kF_228_285_18)
  have e3 : hV H1 285 32 = hV H0 285 32 := (f6.1.2.1.1 285 32 kF_228_285_32)
  have e5 : hV H1 285 33 = hV H0 285 33 := (f6.1.2.1.1 285 33 kF_228_285_33)
  have e7 : hV H1 285 64 = hV H0 285 64 := (f6.1.2.1.1 285 64 kF_228_285_64)
  have e8 : hV H1 294 = hV H0 294 := fRow f6.1.2.1 294 kR_228_294
  have e9 : hV H1 296 = hV H0 296 := fRow f6.1.2.1 296 kR_228_296
  have e10 : hV H1 297 = hV H0 297 := fRow f6.1.2.1 297 kR_228_297
  have e11 : hV H1 298 = hV H0 298 := fRow f6.1.2.1 298 kR_228_298
  have e12 : hV H1 328 = hV H0 328 := fRow f6.1.2.1 328 kR_228_328
  have e13 : hV H1 332 = hV H0 332 := fRow f6.1.2.1 332 kR_228_332
  have e14 : hV H1 335 = hV H0 335 := fRow f6.1.2.1 335 kR_228_335
  have e16 : hV H2 285 11 = hV H1 285 11 := (f10.1.2.1.1 285 11 kF_216_285_11)
  have e18 : hV H2 285 13 = hV H1 285 13 := (f10.1.2.1.1 285 13 kF_216_285_13)
  have e21 : hV H2 288 = hV H0 288 := (fRow f10.1.2.1 288 kR_216_288).trans (fRow f6.1.2.1 288 kR_228_288)
  have e24 : hV H3 285 15 = hV H1 285 15 := ((f12.1.2.1.1 285 15 kF_219_285_15)).trans (f10.1.2.1.1 285 15 kF_216_285_15)
  have e30 : hV H5 285 11 = hV H4 285 11 := (uPlace f24 285 11 (iS (show n6 = ((305 : Nat) : Int) from f13) rfl))
  have e32 : hV H5 285 13 = hV H4 285 13 := (uPlace f24 285 13 (iS (show n6 = ((305 : Nat) : Int) from f13) rfl))
  have e34 : hV H5 285 15 = hV H4 285 15 := (uPlace f24 285 15 (iS (show n6 = ((305 : Nat) : Int) from f13) rfl))
  have e39 : hV H5 285 18 = hV H0 285 18 := ((uPlace f24 285 18 (iS (show n6 = ((305 : Nat) : Int) from f13) rfl))).trans (((f23.1.2.1.1 285 18 kF_223_285_18)).trans (((f12.1.2.1.1 285 18 kF_219_285_18)).trans (((f10.1.2.1.1 285 18 kF_216_285_18)).trans (f6.1.2.1.1 285 18 kF_228_285_18))))
  have e44 : hV H5 285 32 = hV H0 285 32 := ((uPlace f24 285 32 (iS (show n6 = ((305 : Nat) : Int) from f13) rfl))).trans (((f23.1.2.1.1 285 32 kF_223_285_32)).trans (((f12.1.2.1.1 285 32 kF_219_285_32)).trans (((f10.1.2.1.1 285 32 kF_216_285_32)).trans (f6.1.2.1.1 285 32 kF_228_285_32))))
  have e49 : hV H5 285 33 = hV H0 285 33 := ((uPlace f24 285 33 (iS (show n6 = ((305 : Nat) : Int) from f13) rfl))).trans (((f23.1.2.1.1 285 33 kF_223_285_33)).trans (((f12.1.2.1.1 285 33 kF_219_285_33)).trans (((f10.1.2.1.1 285 33 kF_216_285_33)).trans (f6.1.2.1.1 285 33 kF_228_285_33))))
  have e54 : hV H5 285 64 = hV H0 285 64 := ((uPlace f24 285 64 (iS (show n6 = ((305 : Nat) : Int) from f13) rfl))).trans (((f23.1.2.1.1 285 64 kF_223_285_64)).trans (((f12.1.2.1.1 285 64 kF_219_285_64)).trans (((f10.1.2.1.1 285 64 kF_216_285_64)).trans (f6.1.2.1.1 285 64 kF_228_285_64))))
  have e62 : hV H5 294 = hV H0 294 := (uRowNe f24 294 (iS (show n6 = ((305 : Nat) : Int) from f13) rfl)).trans ((fRow f23.1.2.1 294 kR_223_294).trans ((fRow f12.1.2.1 294 kR_219_294).trans ((fRow f10.1.2.1 294 kR_216_294).trans e8)))
  have e70 : hV H5 296 = hV H0 296 := (uRowNe f24 296 (iS (show n6 = ((305 : Nat) : Int) from f13) rfl)).trans ((fRow f23.1.2.1 296 kR_223_296).trans ((fRow f12.1.2.1 296 kR_219_296).trans ((fRow f10.1.2.1 296 kR_216_296).trans e9)))
  have e78 : hV H5 297 = hV H0 297 := (uRowNe f24 297 (iS (show n6 = ((305 : Nat) : Int) from f13) rfl)).trans ((fRow f23.1.2.1 297 kR_223_297).trans ((fRow f12.1.2.1 297 kR_219_297).trans ((fRow f10.1.2.1 297 kR_216_297).trans e10)))
  have e86 : hV H5 298 = hV H0 298 := (uRowNe f24 298 (iS (show n6 = ((305 : Nat) : Int) from f13) rfl)).trans ((fRow f23.1.2.1 298 kR_223_298).trans ((fRow f12.1.2.1 298 kR_219_298).trans ((fRow f10.1.2.1 298 kR_216_298).trans e11)))
  have e93 : hV H5 300 = hV H1 300 := (uRowNe f24 300 (iS (show n6 = ((305 : Nat) : Int) from f13) rfl)).trans ((fRow f23.1.2.1 300 kR_223_300).trans ((fRow f12.1.2.1 300 kR_219_300).trans (fRow f10.1.2.1 300 kR_216_300)))
  have e100 : hV H5 301 = hV H1 301 := (uRowNe f24 301 (iS (show n6 = ((305 : Nat) : Int) from f13) rfl)).trans ((fRow f23.1.2.1 301 kR_223_301).trans ((fRow f12.1.2.1 301 kR_219_301).trans (fRow f10.1.2.1 301 kR_216_301)))
  have e107 : hV H5 302 = hV H1 302 := (uRowNe f24 302 (iS (show n6 = ((305 : Nat) : Int) from f13) rfl)).trans ((fRow f23.1.2.1 302 kR_223_302).trans ((fRow f12.1.2.1 302 kR_219_302).trans (fRow f10.1.2.1 302 kR_216_302)))
  have e114 : hV H5 303 = hV H1 303 := (uRowNe f24 303 (iS (show n6 = ((305 : Nat) : Int) from f13) rfl)).trans ((fRow f23.1.2.1 303 kR_223_303).trans ((fRow f12.1.2.1 303 kR_219_303).trans (fRow f10.1.2.1 303 kR_216_303)))
  have e121 : hV H5 305 = (uF (hV H1 305) n10 n13) := (uRow f24 305 f13.symm).trans (congrArg (fun z => uF z n10 n13) ((fRow f23.1.2.1 305 kR_223_305).trans ((fRow f12.1.2.1 305 kR_219_305).trans (fRow f10.1.2.1 305 kR_216_305))))
  have e129 : hV H5 328 = hV H0 328 := (uRowNe f24 328 (iS (show n6 = ((305 : Nat) : Int) from f13) rfl)).trans ((fRow f23.1.2.1 328 kR_223_328).trans ((fRow f12.1.2.1 328 kR_219_328).trans ((fRow f10.1.2.1 328 kR_216_328).trans e12)))
  have e137 : hV H5 332 = hV H0 332 := (uRowNe f24 332 (iS (show n6 = ((305 : Nat) : Int) from f13) rfl)).trans ((fRow f23.1.2.1 332 kR_223_332).trans ((fRow f12.1.2.1 332 kR_219_332).trans ((fRow f10.1.2.1 332 kR_216_332).trans e13)))
  have e145 : hV H5 335 = hV H0 335 := (uRowNe f24 335 (iS (show n6 = ((305 : Nat) : Int) from f13) rfl)).trans ((fRow f23.1.2.1 335 kR_223_335).trans ((fRow f12.1.2.1 335 kR_219_335).trans ((fRow f10.1.2.1 335 kR_216_335).trans e14)))
  have e146 : (0 : Int) ≤ hV H1 285 11 ∧ hV H1 285 11 ≤ 500 := f6.1.2.2 285 11 _ _ kW_285_11
  have e147 : (0 : Int) ≤ hV H1 285 13 ∧ hV H1 285 13 ≤ 2 := f6.1.2.2 285 13 _ _ kW_285_13
  have e148 : (0 : Int) ≤ hV H1 285 15 ∧ hV H1 285 15 ≤ 6 := f6.1.2.2 285 15 _ _ kW_285_15
  have e149 : (0 : Int) ≤ hV H0 285 18 ∧ hV H0 285 18 ≤ 8 := bTo e1 (f6.1.2.2 285 18 _ _ kW_285_18)
  have e150 : (0 : Int) ≤ hV H0 285 32 ∧ hV H0 285 32 ≤ 7 := bTo e3 (f6.1.2.2 285 32 _ _ kW_285_32)
  have e151 : (0 : Int) ≤ hV H0 285 33 ∧ hV H0 285 33 ≤ 62 := bTo e5 (f6.1.2.2 285 33 _ _ kW_285_33)
  have e152 : (0 : Int) ≤ hV H0 285 64 ∧ hV H0 285 64 ≤ 20 := bTo e7 (f6.1.2.2 285 64 _ _ kW_285_64)
  have e155 : (0 : Int) ≤ hV H3 285 11 ∧ hV H3 285 11 ≤ 500 := f12.1.2.2.2 285 11 _ _ kW_285_11
  have e156 : (0 : Int) ≤ hV H3 285 13 ∧ hV H3 285 13 ≤ 2 := f12.1.2.2.2 285 13 _ _ kW_285_13
  have e158 : (0 : Int) ≤ hV H4 285 11 ∧ hV H4 285 11 ≤ 500 := f23.1.2.2.2 285 11 _ _ kW_285_11
  have e159 : (0 : Int) ≤ hV H4 285 13 ∧ hV H4 285 13 ≤ 2 := f23.1.2.2.2 285 13 _ _ kW_285_13
  have e160 : (0 : Int) ≤ hV H4 285 15 ∧ hV H4 285 15 ≤ 6 := f23.1.2.2.2 285 15 _ _ kW_285_15
  try simp only [PA, PW]
  try simp only [e30, e32, e34, e39, e44, e49, e54, e62, e70, e78, e86, e93, e100, e107, e114, e121, e129, e137, e145]
  have k0 := g4.1
  have y0 := g4.2.1
  have y1 := g4.2.2.1
  have y2 := g4.2.2.2.1
  have y3 := g4.2.2.2.2.1
  have y4 := g4.2.2.2.2.2.1
  have y5 := g4.2.2.2.2.2.2.1
  have y6 := g4.2.2.2.2.2.2.2.1
  have y7 := g4.2.2.2.2.2.2.2.2.1
  have y8 := g4.2.2.2.2.2.2.2.2.2.1
  have y9 := g4.2.2.2.2.2.2.2.2.2.2.1
  have y10 := g4.2.2.2.2.2.2.2.2.2.2.2.1
  have y11 := g4.2.2.2.2.2.2.2.2.2.2.2.2.1
  have y12 := g4.2.2.2.2.2.2.2.2.2.2.2.2.2.1
  have y13 := g4.2.2.2.2.2.2.2.2.2.2.2.2.2.2
  have p0 := g3.1
  have p1 := g3.2.1
  have p2 := g3.2.2.1
  have p3 := g3.2.2.2.1
  have p4 := g3.2.2.2.2.1
  have p5 := g3.2.2.2.2.2.1
  have p6 := g3.2.2.2.2.2.2.1
  have p7 := g3.2.2.2.2.2.2.2
  have r0_0 := f10.2.1
  have r0_1 := f10.2.2.resolve_right (fun z => f11 z.1)
  have r1_0 := f12.2.1
  have r1_1 := f12.2.2.1
  have r1_2 := f12.2.2.2.1
  have r1_3 := f12.2.2.2.2
  have r2_0 := f23.2.1
  have r2_1 := f23.2.2.1
  have r2_2 := f23.2.2.2.1
  have r2_3 := f23.2.2.2.2.1
  have r2_4 := f23.2.2.2.2.2.1
  have r2_5 := f23.2.2.2.2.2.2.1
  have r2_6 := f23.2.2.2.2.2.2.2.1
  try simp only [PA] at y0
  try simp only [PW] at y1
  try simp only [PA] at p0
  try simp only [PW] at p5
  try simp only [e1, e7, e8, e9, e11, e12, e13, e14] at y0
  try simp only [e3, e5, e8, e9, e10, e11] at y1
  try simp only [e18] at r0_0
  try simp only [e1, e3, e5, e7, e8, e9, e10, e11, e12, e13, e14, e16, e18, e21] at r0_1
  try simp only [e16] at r1_0
  try simp only [e16] at r1_1
  try simp only [e18] at r1_2
  try simp only [e16] at r1_3
  try simp only [e24] at r2_4
  clear g3
  clear g4
  have wb0 := (p7 (hV H0 285 32).toNat).1
  have wp0 := (p7 (hV H0 285 33).toNat).2
  try simp only [e1, e3, e5, e7, e8, e9, e10, e11, e12, e13, e14] at wb0
  try simp only [e1, e3, e5, e7, e8, e9, e10, e11, e12, e13, e14] at wp0
  clear f14 e1 e3 e5 e7 e8 e9 e10 e11 e12 e13 e14 e16 e18 e21 e24 e30 e32 e34 e39 e44 e49 e54 e62 e70 e78 e86 e93 e100 e107 e114 e121 e129 e137 e145
  clear f6 f10 f12 f23
  rw [f15] at f16
  first
  | (have ix0 : n8 = 6 * n0 := Eq.trans f16 (w32_iv (Iml 6 rfl (Iat f1 f0)) (by decide)); subst ix0; clear f16)
  | (have ix0 : n8 = 6 * n0 := Eq.trans f16 (w32_id (by omega) (by omega)); subst ix0; clear f16)
  | (unfold w32 at f16; have ix0 : n8 = 6 * n0 := (by omega); subst ix0)
  | skip
  first
  | (have ix1 : n10 = (6 * n0) + 1 := Eq.trans f18 (w32_iv (Iad (Iml 6 rfl (Iat f1 f0)) (IC 1)) (by decide)); subst ix1; clear f18)
  | (have ix1 : n10 = (6 * n0) + 1 := Eq.trans f18 (w32_id (by omega) (by omega)); subst ix1; clear f18)
  | (unfold w32 at f18; have ix1 : n10 = (6 * n0) + 1 := (by omega); subst ix1)
  | skip
  try unfold w32 at f16
  try unfold w32 at f18

  refine ⟨⟨?_, ?_, ?_, ?_, ?_, ?_, ?_, ?_, ?_, ?_, ?_, ?_, ?_, ?_, ?_⟩, fun q hq => ?_⟩
  · first | exact True.intro | rfl | omega
  · refine PA_cn ?_ (by omega)
    exact y0
  · intro z1 z2
    refine PW_cn ?_ (by omega) (by omega) (by omega) (by omega)
    exact y1 (by omega) (by omega)
  · (try clear y0 y1 p0 p5 p7)
    first | exact True.intro | omega
  · (try clear y0 y1 p0 p5 p7)
    first | exact True.intro | omega
  · (try clear y0 y1 p0 p5 p7)
    first | exact True.intro | omega
  · (try clear y0 y1 p0 p5 p7)
    first | exact True.intro | omega
  · (try clear y0 y1 p0 p5 p7)
    first | exact True.intro | omega
  · (try clear y0 y1 p0 p5 p7)
    first | exact True.intro | omega
  · (try clear y0 y1 p0 p5 p7)
    first | exact True.intro | omega
  · (try clear y0 y1 p0 p5 p7)
    first | exact True.intro | omega
  · (try clear y0 y1 p0 p5 p7)
    first | exact True.intro | omega
  · (try clear y0 y1 p0 p5 p7)
    first | exact True.intro | omega
  · (try clear y0 y1 p0 p5 p7)
    first | (simp only [uF_at]; omega) | omega
  · (try clear y0 y1 p0 p5 p7)
    first | (simp only [uF_at]; omega) | omega
  · (try clear y0 y1 p0 p5 p7)
    have g6 := Option.some.inj hq
    subst g6
    omega
def g_228_113_2 : vG := ([(80, [6, 10, 13], [5, 4], 0), (1223, [13, 2, 11, 12], [3, 4], 0), (90, [13], [], 0), (91, [13], [], 9999), (0, [12], [], 60), (0, [11], [], 0), (1, [10, 8, 9], [], 0), (0, [9], [], 1), (3, [8, 7, 3], [], 0), (0, [7], [], 6), (20, [6, 2], [3], 31), (0, [6], [], 305), (1219, [2], [2, 3], 0), (31, [5], [], 0), (1216, [5, 2, 4], [1, 2], 0), (90, [5], [], 0), (91, [5], [], 1), (0, [4], [], 27), (5000, [0, 1, 2, 3], [0, 1], 113), (0, [0], [], 285), (90, [1], [], 0), (91, [1], [], 1007), (0, [2], [], 285), (90, [3], [], 0), (91, [3], [], 1007)], (4000, [2, 3], [5], 144))
theorem c_228_113_2 {q0 : Nat} : vOkm T0 (eP e_228 L_228 A_228 mu_228 (some q0)) 2 g_228_113_2 := vOk_inI fun ρ η f0 f1 f2 f3 f4 f5 f6 f7 f8 f9 f10 f11 f12 f13 f14 f15 f16 f17 f18 f19 f20 f21 f22 f23 f24 => q_228_11 (q0 := q0) (n0 := ρ 3) (n1 := ρ 2) (n2 := ρ 1) (n3 := ρ 0) (n4 := ρ 4) (n5 := ρ 5) (n6 := ρ 6) (n7 := ρ 7) (n8 := ρ 8) (n9 := ρ 9) (n10 := ρ 10) (n11 := ρ 11) (n12 := ρ 12) (n13 := ρ 13) (H0 := η 0) (H1 := η 1) (H2 := η 2) (H3 := η 3) (H4 := η 4) (H5 := η 5) f24 f23 f22 f21 f20 f19 f18 f17 f16 f15 f14 f13 f12 f11 f10 f9 f8 f7 f6 f5 f4 f3 f2 f1 f0
def p_228_113 : List vG := [g_228_113_0,
  g_228_113_1,
  g_228_113_2]
theorem r_228_113 : vCovO false (eRc e_228 L_228 cs_228 2000 (113, [(0, (3, 12, 285, 0)), (1, (0, 0, 1007, 0))])) p_228_113 = true := by decide +kernel
set_option maxHeartbeats 20000000 in
theorem q_228_12 {q0 : Nat} {n0 n1 n2 n3 n4 n5 : Int} {H0 H1 H2 : gH} (f0 : n0 ≤ 1007) (f1 : 0 ≤ n0) (f2 : n1 = 285) (f3 : n2 ≤ 1007) (f4 : 0 ≤ n2) (f5 : n3 = 285) (f6 : (hLe T0 H0 H1 ∧ hFr s_228.2.2.2.2 H0 H1 ∧ hWt T0 H1) ∧ (Ab_228_144 n3 n2 n1 n0 H0 H1 ∧ preb_228 n3 n2 H0) ∧ some q0 = some (mub_228_144 n3 n2 n1 n0 H0 H1)) (f7 : n4 = 28) (f8 : n5 ≤ 1) (f9 : 0 ≤ n5) (f10 : (hLe T0 H1 H2 ∧ hFr s_216.2.2.2.2 H1 H2 ∧ ((0 : Int) = 0 → H2.length = H1.length) ∧ hWt T0 H2) ∧ postb_216 n5 n1 n4 H1 H2) (f11 : n5 = 0) : Ab_228_176 n3 n2 n1 n0 H0 H2 ∧ ∀ q, some q0 = some q → mub_228_176 n3 n2 n1 n0 H0 H2 < q := by
  have g4 := f6.2.1.1
  unfold Ab_228_144 at g4
  have g3 := f6.2.1.2
  unfold preb_228 at g3
  have g5 := Option.some.inj f6.2.2
  unfold mub_228_144 at g5
  unfold postb_216 at f10
  unfold Ab_228_176
  unfold mub_228_176
  have e1 : hV H1 285 18 = hV H0 285 18 := (f6.1.2.1.1 285 18 kF_228_285_18)
  have e3 : hV H1 285 32 = hV H0 285 32 := (f6.1.2.1.1 285 32 kF_228_285_32)
  have e5 : hV H1 285 33 = hV H0 285 33 := (f6.1.2.1.1 285 33 kF_228_285_33)
  have e7 : hV H2 285 11 = hV H1 285 11 := (f10.1.2.1.1 285 11 kF_216_285_11)
  have e9 : hV H2 285 13 = hV H1 285 13 := (f10.1.2.1.1 285 13 kF_216_285_13)
  have e11 : hV H2 285 15 = hV H1 285 15 := (f10.1.2.1.1 285 15 kF_216_285_15)
  have e15 : hV H2 300 = hV H1 300 := fRow f10.1.2.1 300 kR_216_300
  have e16 : hV H2 301 = hV H1 301 := fRow f10.1.2.1 301 kR_216_301
  have e17 : hV H2 305 = hV H1 305 := fRow f10.1.2.1 305 kR_216_305
  have e18 : PA H2 = PA H1 := PA_fr f10.1.2.1 (by decide +kernel)
  have e19 : PW H2 = PW H1 := PW_fr f10.1.2.1 (by decide +kernel)
  have e20 : (0 : Int) ≤ hV H1 285 11 ∧ hV H1 285 11 ≤ 500 := f6.1.2.2 285 11 _ _ kW_285_11
  have e21 : (0 : Int) ≤ hV H1 285 13 ∧ hV H1 285 13 ≤ 2 := f6.1.2.2 285 13 _ _ kW_285_13
  have e22 : (0 : Int) ≤ hV H1 285 15 ∧ hV H1 285 15 ≤ 6 := f6.1.2.2 285 15 _ _ kW_285_15
  have e23 : (0 : Int) ≤ hV H0 285 18 ∧ hV H0 285 18 ≤ 8 := bTo e1 (f6.1.2.2 285 18 _ _ kW_285_18)
  have e24 : (0 : Int) ≤ hV H0 285 32 ∧ hV H0 285 32 ≤ 7 := bTo e3 (f6.1.2.2 285 32 _ _ kW_285_32)
  have e25 : (0 : Int) ≤ hV H0 285 33 ∧ hV H0 285 33 ≤ 62 := bTo e5 (f6.1.2.2 285 33 _ _ kW_285_33)
  try simp only [e7, e9, e11, e15, e16, e17, e18, e19]
  have k0 := g4.1
  have y0 := g4.2.1
  have y1 := g4.2.2.1
  have y2 := g4.2.2.2.1
  have y3 := g4.2.2.2.2.1
  have y4 := g4.2.2.2.2.2.1
  have y5 := g4.2.2.2.2.2.2.1
  have y6 := g4.2.2.2.2.2.2.2.1
  have y7 := g4.2.2.2.2.2.2.2.2.1
  have y8 := g4.2.2.2.2.2.2.2.2.2.1
  have y9 := g4.2.2.2.2.2.2.2.2.2.2.1
  have y10 := g4.2.2.2.2.2.2.2.2.2.2.2.1
  have y11 := g4.2.2.2.2.2.2.2.2.2.2.2.2.1
  have y12 := g4.2.2.2.2.2.2.2.2.2.2.2.2.2.1
  have y13 := g4.2.2.2.2.2.2.2.2.2.2.2.2.2.2
  have p0 := g3.1
  have p1 := g3.2.1
  have p2 := g3.2.2.1
  have p3 := g3.2.2.2.1
  have p4 := g3.2.2.2.2.1
  have p5 := g3.2.2.2.2.2.1
  have p6 := g3.2.2.2.2.2.2.1
  have p7 := g3.2.2.2.2.2.2.2
  have r0_0 := f10.2.1
  try simp only [e9] at r0_0
  clear g3
  clear g4
  have wb0 := (p7 (hV H0 285 32).toNat).1
  have wp0 := (p7 (hV H0 285 33).toNat).2
  try simp only [e1, e3, e5] at wb0
  try simp only [e1, e3, e5] at wp0
  clear e1 e3 e5 e7 e9 e11 e15 e16 e17 e18 e19
  clear f6 f10

  refine ⟨⟨?_, ?_, ?_, ?_⟩, fun q hq => ?_⟩
  · first | exact True.intro | rfl | omega
  · exact y0
  · intro z1 z2
    exact y1 (by omega) (by omega)
  · (try clear y0 y1 p0 p5 p7)
    first
    | omega
    | (refine ⟨?_, ?_, ?_, ?_, ?_, ?_, ?_, ?_, ?_, ?_, ?_, ?_⟩ <;> first | exact True.intro | omega)
  · (try clear y0 y1 p0 p5 p7)
    have g6 := Option.some.inj hq
    subst g6
    omega
def g_228_144_0 : vG := ([(30, [5], [], 0), (1216, [5, 2, 4], [1, 2], 0), (90, [5], [], 0), (91, [5], [], 1), (0, [4], [], 28), (5000, [0, 1, 2, 3], [0, 1], 144), (0, [0], [], 285), (90, [1], [], 0), (91, [1], [], 1007), (0, [2], [], 285), (90, [3], [], 0), (91, [3], [], 1007)], (4000, [2, 3], [2], 176))
theorem c_228_144_0 {q0 : Nat} : vOkm T0 (eP e_228 L_228 A_228 mu_228 (some q0)) 2 g_228_144_0 := vOk_inI fun ρ η f0 f1 f2 f3 f4 f5 f6 f7 f8 f9 f10 f11 => q_228_12 (q0 := q0) (n0 := ρ 3) (n1 := ρ 2) (n2 := ρ 1) (n3 := ρ 0) (n4 := ρ 4) (n5 := ρ 5) (H0 := η 0) (H1 := η 1) (H2 := η 2) f11 f10 f9 f8 f7 f6 f5 f4 f3 f2 f1 f0
set_option maxHeartbeats 20000000 in
theorem q_228_13 {q0 : Nat} {n0 n1 n2 n3 n4 n5 n6 n7 : Int} {H0 H1 : gH} (f0 : n0 ≤ 1007) (f1 : 0 ≤ n0) (f2 : n1 = 285) (f3 : n2 ≤ 1007) (f4 : 0 ≤ n2) (f5 : n3 = 285) (f6 : (hLe T0 H0 H1 ∧ hFr s_228.2.2.2.2 H0 H1 ∧ hWt T0 H1) ∧ (Ab_228_144 n3 n2 n1 n0 H0 H1 ∧ preb_228 n3 n2 H0) ∧ some q0 = some (mub_228_144 n3 n2 n1 n0 H0 H1)) (f7 : n4 = 6) (f8 : n5 = w32 (n4 * n0)) (f9 : n6 = 2) (f10 : n7 = w32 (n5 + n6)) : 0 ≤ n7 ∧ n7 < 6048 := by
  have g4 := f6.2.1.1
  unfold Ab_228_144 at g4
  have g3 := f6.2.1.2
  unfold preb_228 at g3
  have e1 : hV H1 285 18 = hV H0 285 18 := (f6.1.2.1.1 285 18 kF_228_285_18)
  have e3 : hV H1 285 32 = hV H0 285 32 := (f6.1.2.1.1 285 32 kF_228_285_32)
  have e5 : hV H1 285 33 = hV H0 285 33 := (f6.1.2.1.1 285 33 kF_228_285_33)
  have e6 : (0 : Int) ≤ hV H1 285 11 ∧ hV H1 285 11 ≤ 500 := f6.1.2.2 285 11 _ _ kW_285_11
  have e7 : (0 : Int) ≤ hV H1 285 13 ∧ hV H1 285 13 ≤ 2 := f6.1.2.2 285 13 _ _ kW_285_13
  have e8 : (0 : Int) ≤ hV H1 285 15 ∧ hV H1 285 15 ≤ 6 := f6.1.2.2 285 15 _ _ kW_285_15
  have e9 : (0 : Int) ≤ hV H0 285 18 ∧ hV H0 285 18 ≤ 8 := bTo e1 (f6.1.2.2 285 18 _ _ kW_285_18)
  have e10 : (0 : Int) ≤ hV H0 285 32 ∧ hV H0 285 32 ≤ 7 := bTo e3 (f6.1.2.2 285 32 _ _ kW_285_32)
  have e11 : (0 : Int) ≤ hV H0 285 33 ∧ hV H0 285 33 ≤ 62 := bTo e5 (f6.1.2.2 285 33 _ _ kW_285_33)
  have k0 := g4.1
  have y0 := g4.2.1
  have y1 := g4.2.2.1
  have y2 := g4.2.2.2.1
  have y3 := g4.2.2.2.2.1
  have y4 := g4.2.2.2.2.2.1
  have y5 := g4.2.2.2.2.2.2.1
  have y6 := g4.2.2.2.2.2.2.2.1
  have y7 := g4.2.2.2.2.2.2.2.2.1
  have y8 := g4.2.2.2.2.2.2.2.2.2.1
  have y9 := g4.2.2.2.2.2.2.2.2.2.2.1
  have y10 := g4.2.2.2.2.2.2.2.2.2.2.2.1
  have y11 := g4.2.2.2.2.2.2.2.2.2.2.2.2.1
  have y12 := g4.2.2.2.2.2.2.2.2.2.2.2.2.2.1
  have y13 := g4.2.2.2.2.2.2.2.2.2.2.2.2.2.2
  have p0 := g3.1
  have p1 := g3.2.1
  have p2 := g3.2.2.1
  have p3 := g3.2.2.2.1
  have p4 := g3.2.2.2.2.1
  have p5 := g3.2.2.2.2.2.1
  have p6 := g3.2.2.2.2.2.2.1
  have p7 := g3.2.2.2.2.2.2.2
  clear g3
  clear g4
  have wb0 := (p7 (hV H0 285 32).toNat).1
  have wp0 := (p7 (hV H0 285 33).toNat).2
  try simp only [e1, e3, e5] at wb0
  try simp only [e1, e3, e5] at wp0
  clear e1 e3 e5
  clear f6
  rw [f7] at f8
  first
  | (have ix0 : n5 = 6 * n0 := Eq.trans f8 (w32_iv (Iml 6 rfl (Iat f1 f0)) (by decide)); subst ix0; clear f8)
  | (have ix0 : n5 = 6 * n0 := Eq.trans f8 (w32_id (by omega) (by omega)); subst ix0; clear f8)
  | (unfold w32 at f8; have ix0 : n5 = 6 * n0 := (by omega); subst ix0)
  | skip
  first
  | (have ix1 : n7 = (6 * n0) + 2 := Eq.trans f10 (w32_iv (Iad (Iml 6 rfl (Iat f1 f0)) (IC 2)) (by decide)); subst ix1; clear f10)
  | (have ix1 : n7 = (6 * n0) + 2 := Eq.trans f10 (w32_id (by omega) (by omega)); subst ix1; clear f10)
  | (unfold w32 at f10; have ix1 : n7 = (6 * n0) + 2 := (by omega); subst ix1)
  | skip
  try unfold w32 at f8
  try unfold w32 at f10

  (try clear y0 y1 p0 p5 p7)
  omega
def g_228_144_1 : vG := ([(1, [10, 8, 9], [], 0), (0, [9], [], 2), (3, [8, 7, 3], [], 0), (0, [7], [], 6), (5000, [0, 1, 2, 3], [0, 1], 144), (0, [0], [], 285), (90, [1], [], 0), (91, [1], [], 1007), (0, [2], [], 285), (90, [3], [], 0), (91, [3], [], 1007)], (70, [10], [], 6048))
theorem c_228_144_1 {q0 : Nat} : vOkm T0 (eP e_228 L_228 A_228 mu_228 (some q0)) 2 g_228_144_1 := vOk_inI fun ρ η f0 f1 f2 f3 f4 f5 f6 f7 f8 f9 f10 => q_228_13 (q0 := q0) (n0 := ρ 3) (n1 := ρ 2) (n2 := ρ 1) (n3 := ρ 0) (n4 := ρ 7) (n5 := ρ 8) (n6 := ρ 9) (n7 := ρ 10) (H0 := η 0) (H1 := η 1) f10 f9 f8 f7 f6 f5 f4 f3 f2 f1 f0
set_option maxHeartbeats 20000000 in
theorem q_228_14 {q0 : Nat} {n0 n1 n2 n3 n4 n5 n6 n7 n8 n9 n10 n11 n12 n13 : Int} {H0 H1 H2 H3 H4 H5 : gH} (f0 : n0 ≤ 1007) (f1 : 0 ≤ n0) (f2 : n1 = 285) (f3 : n2 ≤ 1007) (f4 : 0 ≤ n2) (f5 : n3 = 285) (f6 : (hLe T0 H0 H1 ∧ hFr s_228.2.2.2.2 H0 H1 ∧ hWt T0 H1) ∧ (Ab_228_144 n3 n2 n1 n0 H0 H1 ∧ preb_228 n3 n2 H0) ∧ some q0 = some (mub_228_144 n3 n2 n1 n0 H0 H1)) (f7 : n4 = 28) (f8 : n5 ≤ 1) (f9 : 0 ≤ n5) (f10 : (hLe T0 H1 H2 ∧ hFr s_216.2.2.2.2 H1 H2 ∧ ((0 : Int) = 0 → H2.length = H1.length) ∧ hWt T0 H2) ∧ postb_216 n5 n1 n4 H1 H2) (f11 : n5 ≠ 0) (f12 : (hLe T0 H2 H3 ∧ hFr s_219.2.2.2.2 H2 H3 ∧ ((0 : Int) = 0 → H3.length = H2.length) ∧ hWt T0 H3) ∧ postb_219 n1 H2 H3) (f13 : n6 = 305) (f14 : n6 = hV H3 (n1).toNat 31) (f15 : n7 = 6) (f16 : n8 = w32 (n7 * n0)) (f17 : n9 = 2) (f18 : n10 = w32 (n8 + n9)) (f19 : n11 = 0) (f20 : n12 = 400) (f21 : n13 ≤ 9999) (f22 : 0 ≤ n13) (f23 : (hLe T0 H3 H4 ∧ hFr s_223.2.2.2.2 H3 H4 ∧ ((0 : Int) = 0 → H4.length = H3.length) ∧ hWt T0 H4) ∧ postb_223 n13 n1 n11 n12 H3 H4) (f24 : hUpd H5 H4 n6 n10 n13) : Ab_228_176 n3 n2 n1 n0 H0 H5 ∧ ∀ q, some q0 = some q → mub_228_176 n3 n2 n1 n0 H0 H5 < q := by
  have g4 := f6.2.1.1
  unfold Ab_228_144 at g4
  have g3 := f6.2.1.2
  unfold preb_228 at g3
  have g5 := Option.some.inj f6.2.2
  unfold mub_228_144 at g5
  unfold postb_216 at f10
  unfold postb_219 at f12
  unfold postb_223 at f23
  unfold Ab_228_176
  unfold mub_228_176
  have e1 : hV H1 285 18 = hV H0 285 18 := (f6.1.2.1.1 285 18 kF_228_285_18)
  have e3 : hV H1 285 32 = hV H0 285 32 := (f6.1.2.1.1 285 32 kF_228_285_32)
  have e5 : hV H1 285 33 = hV H0 285 33 := (f6.1.2.1.1 285 33 kF_228_285_33)
  have e7 : hV H1 285 64 = hV H0 285 64 := (f6.1.2.1.1 285 64 kF_228_285_64)
  have e8 : hV H1 294 = hV H0 294 := fRow f6.1.2.1 294 kR_228_294
  have e9 : hV H1 296 = hV H0 296 := fRow f6.1.2.1 296 kR_228_296
  have e10 : hV H1 297 = hV H0 297 := fRow f6.1.2.1 297 kR_228_297
  have e11 : hV H1 298 = hV H0 298 := fRow f6.1.2.1 298 kR_228_298
  have e12 : hV H1 328 = hV H0 328 := fRow f6.1.2.1 328 kR_228_328
  have e13 : hV H1 332 = hV H0 332 := fRow f6.1.2.1 332 kR_228_332
  have e14 : hV H1 335 = hV H0 335 := fRow f6.1.2.1 335 kR_228_335
  have e16 : hV H2 285 11 = hV H1 285 11 := (f10.1.2.1.1 285 11 kF_216_285_11)
  have e18 : hV H2 285 13 = hV H1 285 13 := (f10.1.2.1.1 285 13 kF_216_285_13)
  have e21 : hV H2 288 = hV H0 288 := (fRow f10.1.2.1 288 kR_216_288).trans (fRow f6.1.2.1 288 kR_228_288)
  have e24 : hV H3 285 15 = hV H1 285 15 := ((f12.1.2.1.1 285 15 kF_219_285_15)).trans (f10.1.2.1.1 285 15 kF_216_285_15)
  have e30 : hV H5 285 11 = hV H4 285 11 := (uPlace f24 285 11 (iS (show n6 = ((305 : Nat) : Int) from f13) rfl))
  have e32 : hV H5 285 13 = hV H4 285 13 := (uPlace f24 285 13 (iS (show n6 = ((305 : Nat) : Int) from f13) rfl))
  have e34 : hV H5 285 15 = hV H4 285 15 := (uPlace f24 285 15 (iS (show n6 = ((305 : Nat) : Int) from f13) rfl))
  have e39 : hV H5 285 18 = hV H0 285 18 := ((uPlace f24 285 18 (iS (show n6 = ((305 : Nat) : Int) from f13) rfl))).trans (((f23.1.2.1.1 285 18 kF_223_285_18)).trans (((f12.1.2.1.1 285 18 kF_219_285_18)).trans (((f10.1.2.1.1 285 18 kF_216_285_18)).trans (f6.1.2.1.1 285 18 kF_228_285_18))))
  have e44 : hV H5 285 32 = hV H0 285 32 := ((uPlace f24 285 32 (iS (show n6 = ((305 : Nat) : Int) from f13) rfl))).trans (((f23.1.2.1.1 285 32 kF_223_285_32)).trans (((f12.1.2.1.1 285 32 kF_219_285_32)).trans (((f10.1.2.1.1 285 32 kF_216_285_32)).trans (f6.1.2.1.1 285 32 kF_228_285_32))))
  have e49 : hV H5 285 33 = hV H0 285 33 := ((uPlace f24 285 33 (iS (show n6 = ((305 : Nat) : Int) from f13) rfl))).trans (((f23.1.2.1.1 285 33 kF_223_285_33)).trans (((f12.1.2.1.1 285 33 kF_219_285_33)).trans (((f10.1.2.1.1 285 33 kF_216_285_33)).trans (f6.1.2.1.1 285 33 kF_228_285_33))))
  have e54 : hV H5 285 64 = hV H0 285 64 := ((uPlace f24 285 64 (iS (show n6 = ((305 : Nat) : Int) from f13) rfl))).trans (((f23.1.2.1.1 285 64 kF_223_285_64)).trans (((f12.1.2.1.1 285 64 kF_219_285_64)).trans (((f10.1.2.1.1 285 64 kF_216_285_64)).trans (f6.1.2.1.1 285 64 kF_228_285_64))))
  have e62 : hV H5 294 = hV H0 294 := (uRowNe f24 294 (iS (show n6 = ((305 : Nat) : Int) from f13) rfl)).trans ((fRow f23.1.2.1 294 kR_223_294).trans ((fRow f12.1.2.1 294 kR_219_294).trans ((fRow f10.1.2.1 294 kR_216_294).trans e8)))
  have e70 : hV H5 296 = hV H0 296 := (uRowNe f24 296 (iS (show n6 = ((305 : Nat) : Int) from f13) rfl)).trans ((fRow f23.1.2.1 296 kR_223_296).trans ((fRow f12.1.2.1 296 kR_219_296).trans ((fRow f10.1.2.1 296 kR_216_296).trans e9)))
  have e78 : hV H5 297 = hV H0 297 := (uRowNe f24 297 (iS (show n6 = ((305 : Nat) : Int) from f13) rfl)).trans ((fRow f23.1.2.1 297 kR_223_297).trans ((fRow f12.1.2.1 297 kR_219_297).trans ((fRow f10.1.2.1 297 kR_216_297).trans e10)))
  have e86 : hV H5 298 = hV H0 298 := (uRowNe f24 298 (iS (show n6 = ((305 : Nat) : Int) from f13) rfl)).trans ((fRow f23.1.2.1 298 kR_223_298).trans ((fRow f12.1.2.1 298 kR_219_298).trans ((fRow f10.1.2.1 298 kR_216_298).trans e11)))
  have e93 : hV H5 300 = hV H1 300 := (uRowNe f24 300 (iS (show n6 = ((305 : Nat) : Int) from f13) rfl)).trans ((fRow f23.1.2.1 300 kR_223_300).trans ((fRow f12.1.2.1 300 kR_219_300).trans (fRow f10.1.2.1 300 kR_216_300)))
  have e100 : hV H5 301 = hV H1 301 := (uRowNe f24 301 (iS (show n6 = ((305 : Nat) : Int) from f13) rfl)).trans ((fRow f23.1.2.1 301 kR_223_301).trans ((fRow f12.1.2.1 301 kR_219_301).trans (fRow f10.1.2.1 301 kR_216_301)))
  have e107 : hV H5 302 = hV H1 302 := (uRowNe f24 302 (iS (show n6 = ((305 : Nat) : Int) from f13) rfl)).trans ((fRow f23.1.2.1 302 kR_223_302).trans ((fRow f12.1.2.1 302 kR_219_302).trans (fRow f10.1.2.1 302 kR_216_302)))
  have e114 : hV H5 303 = hV H1 303 := (uRowNe f24 303 (iS (show n6 = ((305 : Nat) : Int) from f13) rfl)).trans ((fRow f23.1.2.1 303 kR_223_303).trans ((fRow f12.1.2.1 303 kR_219_303).trans (fRow f10.1.2.1 303 kR_216_303)))
  have e121 : hV H5 305 = (uF (hV H1 305) n10 n13) := (uRow f24 305 f13.symm).trans (congrArg (fun z => uF z n10 n13) ((fRow f23.1.2.1 305 kR_223_305).trans ((fRow f12.1.2.1 305 kR_219_305).trans (fRow f10.1.2.1 305 kR_216_305))))
  have e129 : hV H5 328 = hV H0 328 := (uRowNe f24 328 (iS (show n6 = ((305 : Nat) : Int) from f13) rfl)).trans ((fRow f23.1.2.1 328 kR_223_328).trans ((fRow f12.1.2.1 328 kR_219_328).trans ((fRow f10.1.2.1 328 kR_216_328).trans e12)))
  have e137 : hV H5 332 = hV H0 332 := (uRowNe f24 332 (iS (show n6 = ((305 : Nat) : Int) from f13) rfl)).trans ((fRow f23.1.2.1 332 kR_223_332).trans ((fRow f12.1.2.1 332 kR_219_332).trans ((fRow f10.1.2.1 332 kR_216_332).trans e13)))
  have e145 : hV H5 335 = hV H0 335 := (uRowNe f24 335 (iS (show n6 = ((305 : Nat) : Int) from f13) rfl)).trans ((fRow f23.1.2.1 335 kR_223_335).trans ((fRow f12.1.2.1 335 kR_219_335).trans ((fRow f10.1.2.1 335 kR_216_335).trans e14)))
  have e146 : (0 : Int) ≤ hV H1 285 11 ∧ hV H1 285 11 ≤ 500 := f6.1.2.2 285 11 _ _ kW_285_11
  have e147 : (0 : Int) ≤ hV H1 285 13 ∧ hV H1 285 13 ≤ 2 := f6.1.2.2 285 13 _ _ kW_285_13
  have e148 : (0 : Int) ≤ hV H1 285 15 ∧ hV H1 285 15 ≤ 6 := f6.1.2.2 285 15 _ _ kW_285_15
  have e149 : (0 : Int) ≤ hV H0 285 18 ∧ hV H0 285 18 ≤ 8 := bTo e1 (f6.1.2.2 285 18 _ _ kW_285_18)
  have e150 : (0 : Int) ≤ hV H0 285 32 ∧ hV H0 285 32 ≤ 7 := bTo e3 (f6.1.2.2 285 32 _ _ kW_285_32)
  have e151 : (0 : Int) ≤ hV H0 285 33 ∧ hV H0 285 33 ≤ 62 := bTo e5 (f6.1.2.2 285 33 _ _ kW_285_33)
  have e152 : (0 : Int) ≤ hV H0 285 64 ∧ hV H0 285 64 ≤ 20 := bTo e7 (f6.1.2.2 285 64 _ _ kW_285_64)
  have e155 : (0 : Int) ≤ hV H3 285 11 ∧ hV H3 285 11 ≤ 500 := f12.1.2.2.2 285 11 _ _ kW_285_11
  have e156 : (0 : Int) ≤ hV H3 285 13 ∧ hV H3 285 13 ≤ 2 := f12.1.2.2.2 285 13 _ _ kW_285_13
  have e158 : (0 : Int) ≤ hV H4 285 11 ∧ hV H4 285 11 ≤ 500 := f23.1.2.2.2 285 11 _ _ kW_285_11
  have e159 : (0 : Int) ≤ hV H4 285 13 ∧ hV H4 285 13 ≤ 2 := f23.1.2.2.2 285 13 _ _ kW_285_13
  have e160 : (0 : Int) ≤ hV H4 285 15 ∧ hV H4 285 15 ≤ 6 := f23.1.2.2.2 285 15 _ _ kW_285_15
  try simp only [PA, PW]
  try simp only [e30, e32, e34, e39, e44, e49, e54, e62, e70, e78, e86, e93, e100, e107, e114, e121, e129, e137, e145]
  have k0 := g4.1
  have y0 := g4.2.1
  have y1 := g4.2.2.1
  have y2 := g4.2.2.2.1
  have y3 := g4.2.2.2.2.1
  have y4 := g4.2.2.2.2.2.1
  have y5 := g4.2.2.2.2.2.2.1
  have y6 := g4.2.2.2.2.2.2.2.1
  have y7 := g4.2.2.2.2.2.2.2.2.1
  have y8 := g4.2.2.2.2.2.2.2.2.2.1
  have y9 := g4.2.2.2.2.2.2.2.2.2.2.1
  have y10 := g4.2.2.2.2.2.2.2.2.2.2.2.1
  have y11 := g4.2.2.2.2.2.2.2.2.2.2.2.2.1
  have y12 := g4.2.2.2.2.2.2.2.2.2.2.2.2.2.1
  have y13 := g4.2.2.2.2.2.2.2.2.2.2.2.2.2.2
  have p0 := g3.1
  have p1 := g3.2.1
  have p2 := g3.2.2.1
  have p3 := g3.2.2.2.1
  have p4 := g3.2.2.2.2.1
  have p5 := g3.2.2.2.2.2.1
  have p6 := g3.2.2.2.2.2.2.1
  have p7 := g3.2.2.2.2.2.2.2
  have r0_0 := f10.2.1
  have r0_1 := f10.2.2.resolve_right (fun z => f11 z.1)
  have r1_0 := f12.2.1
  have r1_1 := f12.2.2.1
  have r1_2 := f12.2.2.2.1
  have r1_3 := f12.2.2.2.2
  have r2_0 := f23.2.1
  have r2_1 := f23.2.2.1
  have r2_2 := f23.2.2.2.1
  have r2_3 := f23.2.2.2.2.1
  have r2_4 := f23.2.2.2.2.2.1
  have r2_5 := f23.2.2.2.2.2.2.1
  have r2_6 := f23.2.2.2.2.2.2.2.1
  try simp only [PA] at y0
  try simp only [PW] at y1
  try simp only [PA] at p0
  try simp only [PW] at p5
  try simp only [e1, e7, e8, e9, e11, e12, e13, e14] at y0
  try simp only [e3, e5, e8, e9, e10, e11] at y1
  try simp only [e18] at r0_0
  try simp only [e1, e3, e5, e7, e8, e9, e10, e11, e12, e13, e14, e16, e18, e21] at r0_1
  try simp only [e16] at r1_0
  try simp only [e16] at r1_1
  try simp only [e18] at r1_2
  try simp only [e16] at r1_3
  try simp only [e24] at r2_4
  clear g3
  clear g4
  have wb0 := (p7 (hV H0 285 32).toNat).1
  have wp0 := (p7 (hV H0 285 33).toNat).2
  try simp only [e1, e3, e5, e7, e8, e9, e10, e11, e12, e13, e14] at wb0
  try simp only [e1, e3, e5, e7, e8, e9, e10, e11, e12, e13, e14] at wp0
  clear f14 e1 e3 e5 e7 e8 e9 e10 e11 e12 e13 e14 e16 e18 e21 e24 e30 e32 e34 e39 e44 e49 e54 e62 e70 e78 e86 e93 e100 e107 e114 e121 e129 e137 e145
  clear f6 f10 f12 f23
  rw [f15] at f16
  first
  | (have ix0 : n8 = 6 * n0 := Eq.trans f16 (w32_iv (Iml 6 rfl (Iat f1 f0)) (by decide)); subst ix0; clear f16)
  | (have ix0 : n8 = 6 * n0 := Eq.trans f16 (w32_id (by omega) (by omega)); subst ix0; clear f16)
  | (unfold w32 at f16; have ix0 : n8 = 6 * n0 := (by omega); subst ix0)
  | skip
  first
  | (have ix1 : n10 = (6 * n0) + 2 := Eq.trans f18 (w32_iv (Iad (Iml 6 rfl (Iat f1 f0)) (IC 2)) (by decide)); subst ix1; clear f18)
  | (have ix1 : n10 = (6 * n0) + 2 := Eq.trans f18 (w32_id (by omega) (by omega)); subst ix1; clear f18)
  | (unfold w32 at f18; have ix1 : n10 = (6 * n0) + 2 := (by omega); subst ix1)
  | skip
  try unfold w32 at f16
  try unfold w32 at f18

  refine ⟨⟨?_, ?_, ?_, ?_, ?_, ?_, ?_, ?_, ?_, ?_, ?_, ?_, ?_, ?_, ?_⟩, fun q hq => ?_⟩
  · first | exact True.intro | rfl | omega
  · refine PA_cn ?_ (by omega)
    exact y0
  · intro z1 z2
    refine PW_cn ?_ (by omega) (by omega) (by omega) (by omega)
    exact y1 (by omega) (by omega)
  · (try clear y0 y1 p0 p5 p7)
    first | exact True.intro | omega
  · (try clear y0 y1 p0 p5 p7)
    first | exact True.intro | omega
  · (try clear y0 y1 p0 p5 p7)
    first | exact True.intro | omega
  · (try clear y0 y1 p0 p5 p7)
    first | exact True.intro | omega
  · (try clear y0 y1 p0 p5 p7)
    first | exact True.intro | omega
  · (try clear y0 y1 p0 p5 p7)
    first | exact True.intro | omega
  · (try clear y0 y1 p0 p5 p7)
    first | exact True.intro | omega
  · (try clear y0 y1 p0 p5 p7)
    first | exact True.intro | omega
  · (try clear y0 y1 p0 p5 p7)
    first | exact True.intro | omega
  · (try clear y0 y1 p0 p5 p7)
    first | exact True.intro | omega
  · (try clear y0 y1 p0 p5 p7)
    first | (simp only [uF_at]; omega) | omega
  · (try clear y0 y1 p0 p5 p7)
    first | (simp only [uF_at]; omega) | omega
  · (try clear y0 y1 p0 p5 p7)
    have g6 := Option.some.inj hq
    subst g6
    omega
def g_228_144_2 : vG := ([(80, [6, 10, 13], [5, 4], 0), (1223, [13, 2, 11, 12], [3, 4], 0), (90, [13], [], 0), (91, [13], [], 9999), (0, [12], [], 400), (0, [11], [], 0), (1, [10, 8, 9], [], 0), (0, [9], [], 2), (3, [8, 7, 3], [], 0), (0, [7], [], 6), (20, [6, 2], [3], 31), (0, [6], [], 305), (1219, [2], [2, 3], 0), (31, [5], [], 0), (1216, [5, 2, 4], [1, 2], 0), (90, [5], [], 0), (91, [5], [], 1), (0, [4], [], 28), (5000, [0, 1, 2, 3], [0, 1], 144), (0, [0], [], 285), (90, [1], [], 0), (91, [1], [], 1007), (0, [2], [], 285), (90, [3], [], 0), (91, [3], [], 1007)], (4000, [2, 3], [5], 176))
theorem c_228_144_2 {q0 : Nat} : vOkm T0 (eP e_228 L_228 A_228 mu_228 (some q0)) 2 g_228_144_2 := vOk_inI fun ρ η f0 f1 f2 f3 f4 f5 f6 f7 f8 f9 f10 f11 f12 f13 f14 f15 f16 f17 f18 f19 f20 f21 f22 f23 f24 => q_228_14 (q0 := q0) (n0 := ρ 3) (n1 := ρ 2) (n2 := ρ 1) (n3 := ρ 0) (n4 := ρ 4) (n5 := ρ 5) (n6 := ρ 6) (n7 := ρ 7) (n8 := ρ 8) (n9 := ρ 9) (n10 := ρ 10) (n11 := ρ 11) (n12 := ρ 12) (n13 := ρ 13) (H0 := η 0) (H1 := η 1) (H2 := η 2) (H3 := η 3) (H4 := η 4) (H5 := η 5) f24 f23 f22 f21 f20 f19 f18 f17 f16 f15 f14 f13 f12 f11 f10 f9 f8 f7 f6 f5 f4 f3 f2 f1 f0
def p_228_144 : List vG := [g_228_144_0,
  g_228_144_1,
  g_228_144_2]
theorem r_228_144 : vCovO false (eRc e_228 L_228 cs_228 2000 (144, [(0, (3, 12, 285, 0)), (1, (0, 0, 1007, 0))])) p_228_144 = true := by decide +kernel
set_option maxHeartbeats 20000000 in
theorem q_228_15 {q0 : Nat} {n0 n1 n2 n3 n4 n5 : Int} {H0 H1 H2 : gH} (f0 : n0 ≤ 1007) (f1 : 0 ≤ n0) (f2 : n1 = 285) (f3 : n2 ≤ 1007) (f4 : 0 ≤ n2) (f5 : n3 = 285) (f6 : (hLe T0 H0 H1 ∧ hFr s_228.2.2.2.2 H0 H1 ∧ hWt T0 H1) ∧ (Ab_228_176 n3 n2 n1 n0 H0 H1 ∧ preb_228 n3 n2 H0) ∧ some q0 = some (mub_228_176 n3 n2 n1 n0 H0 H1)) (f7 : n4 = 29) (f8 : n5 ≤ 1) (f9 : 0 ≤ n5) (f10 : (hLe T0 H1 H2 ∧ hFr s_216.2.2.2.2 H1 H2 ∧ ((0 : Int) = 0 → H2.length = H1.length) ∧ hWt T0 H2) ∧ postb_216 n5 n1 n4 H1 H2) (f11 : n5 = 0) : Ab_228_231 n3 n2 n1 n0 H0 H2 ∧ ∀ q, some q0 = some q → mub_228_231 n3 n2 n1 n0 H0 H2 < q := by
  have g4 := f6.2.1.1
  unfold Ab_228_176 at g4
  have g3 := f6.2.1.2
  unfold preb_228 at g3
  have g5 := Option.some.inj f6.2.2
  unfold mub_228_176 at g5
  unfold postb_216 at f10
  unfold Ab_228_231
  unfold mub_228_231
  have e1 : hV H1 285 18 = hV H0 285 18 := (f6.1.2.1.1 285 18 kF_228_285_18)
  have e3 : hV H1 285 32 = hV H0 285 32 := (f6.1.2.1.1 285 32 kF_228_285_32)
  have e5 : hV H1 285 33 = hV H0 285 33 := (f6.1.2.1.1 285 33 kF_228_285_33)
  have e7 : hV H2 285 11 = hV H1 285 11 := (f10.1.2.1.1 285 11 kF_216_285_11)
  have e9 : hV H2 285 13 = hV H1 285 13 := (f10.1.2.1.1 285 13 kF_216_285_13)
  have e11 : hV H2 285 15 = hV H1 285 15 := (f10.1.2.1.1 285 15 kF_216_285_15)
  have e15 : hV H2 300 = hV H1 300 := fRow f10.1.2.1 300 kR_216_300
  have e16 : hV H2 301 = hV H1 301 := fRow f10.1.2.1 301 kR_216_301
  have e17 : hV H2 305 = hV H1 305 := fRow f10.1.2.1 305 kR_216_305
  have e18 : PA H2 = PA H1 := PA_fr f10.1.2.1 (by decide +kernel)
  have e19 : PW H2 = PW H1 := PW_fr f10.1.2.1 (by decide +kernel)
  have e20 : (0 : Int) ≤ hV H1 285 11 ∧ hV H1 285 11 ≤ 500 := f6.1.2.2 285 11 _ _ kW_285_11
  have e21 : (0 : Int) ≤ hV H1 285 13 ∧ hV H1 285 13 ≤ 2 := f6.1.2.2 285 13 _ _ kW_285_13
  have e22 : (0 : Int) ≤ hV H1 285 15 ∧ hV H1 285 15 ≤ 6 := f6.1.2.2 285 15 _ _ kW_285_15
  have e23 : (0 : Int) ≤ hV H0 285 18 ∧ hV H0 285 18 ≤ 8 := bTo e1 (f6.1.2.2 285 18 _ _ kW_285_18)
  have e24 : (0 : Int) ≤ hV H0 285 32 ∧ hV H0 285 32 ≤ 7 := bTo e3 (f6.1.2.2 285 32 _ _ kW_285_32)
  have e25 : (0 : Int) ≤ hV H0 285 33 ∧ hV H0 285 33 ≤ 62 := bTo e5 (f6.1.2.2 285 33 _ _ kW_285_33)
  try simp only [e7, e9, e11, e15, e16, e17, e18, e19]
  have k0 := g4.1
  have y0 := g4.2.1
  have y1 := g4.2.2.1
  have y2 := g4.2.2.2.1
  have y3 := g4.2.2.2.2.1
  have y4 := g4.2.2.2.2.2.1
  have y5 := g4.2.2.2.2.2.2.1
  have y6 := g4.2.2.2.2.2.2.2.1
  have y7 := g4.2.2.2.2.2.2.2.2.1
  have y8 := g4.2.2.2.2.2.2.2.2.2.1
  have y9 := g4.2.2.2.2.2.2.2.2.2.2.1
  have y10 := g4.2.2.2.2.2.2.2.2.2.2.2.1
  have y11 := g4.2.2.2.2.2.2.2.2.2.2.2.2.1
  have y12 := g4.2.2.2.2.2.2.2.2.2.2.2.2.2.1
  have y13 := g4.2.2.2.2.2.2.2.2.2.2.2.2.2.2
  have p0 := g3.1
  have p1 := g3.2.1
  have p2 := g3.2.2.1
  have p3 := g3.2.2.2.1
  have p4 := g3.2.2.2.2.1
  have p5 := g3.2.2.2.2.2.1
  have p6 := g3.2.2.2.2.2.2.1
  have p7 := g3.2.2.2.2.2.2.2
  have r0_0 := f10.2.1
  try simp only [e9] at r0_0
  clear g3
  clear g4
  have wb0 := (p7 (hV H0 285 32).toNat).1
  have wp0 := (p7 (hV H0 285 33).toNat).2
  try simp only [e1, e3, e5] at wb0
  try simp only [e1, e3, e5] at wp0
  clear e1 e3 e5 e7 e9 e11 e15 e16 e17 e18 e19
  clear f6 f10

  refine ⟨⟨?_, ?_, ?_, ?_⟩, fun q hq => ?_⟩
  · first | exact True.intro | rfl | omega
  · exact y0
  · intro z1 z2
    exact y1 (by omega) (by omega)
  · (try clear y0 y1 p0 p5 p7)
    first
    | omega
    | (refine ⟨?_, ?_, ?_, ?_, ?_, ?_, ?_, ?_, ?_, ?_, ?_, ?_⟩ <;> first | exact True.intro | omega)
  · (try clear y0 y1 p0 p5 p7)
    have g6 := Option.some.inj hq
    subst g6
    omega
def g_228_176_0 : vG := ([(30, [5], [], 0), (1216, [5, 2, 4], [1, 2], 0), (90, [5], [], 0), (91, [5], [], 1), (0, [4], [], 29), (5000, [0, 1, 2, 3], [0, 1], 176), (0, [0], [], 285), (90, [1], [], 0), (91, [1], [], 1007), (0, [2], [], 285), (90, [3], [], 0), (91, [3], [], 1007)], (4000, [2, 3], [2], 231))
theorem c_228_176_0 {q0 : Nat} : vOkm T0 (eP e_228 L_228 A_228 mu_228 (some q0)) 2 g_228_176_0 := vOk_inI fun ρ η f0 f1 f2 f3 f4 f5 f6 f7 f8 f9 f10 f11 => q_228_15 (q0 := q0) (n0 := ρ 3) (n1 := ρ 2) (n2 := ρ 1) (n3 := ρ 0) (n4 := ρ 4) (n5 := ρ 5) (H0 := η 0) (H1 := η 1) (H2 := η 2) f11 f10 f9 f8 f7 f6 f5 f4 f3 f2 f1 f0
set_option maxHeartbeats 20000000 in
theorem q_228_16 {q0 : Nat} {n0 n1 n2 n3 n4 n5 n6 n7 : Int} {H0 H1 : gH} (f0 : n0 ≤ 1007) (f1 : 0 ≤ n0) (f2 : n1 = 285) (f3 : n2 ≤ 1007) (f4 : 0 ≤ n2) (f5 : n3 = 285) (f6 : (hLe T0 H0 H1 ∧ hFr s_228.2.2.2.2 H0 H1 ∧ hWt T0 H1) ∧ (Ab_228_176 n3 n2 n1 n0 H0 H1 ∧ preb_228 n3 n2 H0) ∧ some q0 = some (mub_228_176 n3 n2 n1 n0 H0 H1)) (f7 : n4 = 6) (f8 : n5 = w32 (n4 * n0)) (f9 : n6 = 3) (f10 : n7 = w32 (n5 + n6)) : 0 ≤ n7 ∧ n7 < 6048 := by
  have g4 := f6.2.1.1
  unfold Ab_228_176 at g4
  have g3 := f6.2.1.2
  unfold preb_228 at g3
  have e1 : hV H1 285 18 = hV H0 285 18 := (f6.1.2.1.1 285 18 kF_228_285_18)
  have e3 : hV H1 285 32 = hV H0 285 32 := (f6.1.2.1.1 285 32 kF_228_285_32)
  have e5 : hV H1 285 33 = hV H0 285 33 := (f6.1.2.1.1 285 33 kF_228_285_33)
  have e6 : (0 : Int) ≤ hV H1 285 11 ∧ hV H1 285 11 ≤ 500 := f6.1.2.2 285 11 _ _ kW_285_11
  have e7 : (0 : Int) ≤ hV H1 285 13 ∧ hV H1 285 13 ≤ 2 := f6.1.2.2 285 13 _ _ kW_285_13
  have e8 : (0 : Int) ≤ hV H1 285 15 ∧ hV H1 285 15 ≤ 6 := f6.1.2.2 285 15 _ _ kW_285_15
  have e9 : (0 : Int) ≤ hV H0 285 18 ∧ hV H0 285 18 ≤ 8 := bTo e1 (f6.1.2.2 285 18 _ _ kW_285_18)
  have e10 : (0 : Int) ≤ hV H0 285 32 ∧ hV H0 285 32 ≤ 7 := bTo e3 (f6.1.2.2 285 32 _ _ kW_285_32)
  have e11 : (0 : Int) ≤ hV H0 285 33 ∧ hV H0 285 33 ≤ 62 := bTo e5 (f6.1.2.2 285 33 _ _ kW_285_33)
  have k0 := g4.1
  have y0 := g4.2.1
  have y1 := g4.2.2.1
  have y2 := g4.2.2.2.1
  have y3 := g4.2.2.2.2.1
  have y4 := g4.2.2.2.2.2.1
  have y5 := g4.2.2.2.2.2.2.1
  have y6 := g4.2.2.2.2.2.2.2.1
  have y7 := g4.2.2.2.2.2.2.2.2.1
  have y8 := g4.2.2.2.2.2.2.2.2.2.1
  have y9 := g4.2.2.2.2.2.2.2.2.2.2.1
  have y10 := g4.2.2.2.2.2.2.2.2.2.2.2.1
  have y11 := g4.2.2.2.2.2.2.2.2.2.2.2.2.1
  have y12 := g4.2.2.2.2.2.2.2.2.2.2.2.2.2.1
  have y13 := g4.2.2.2.2.2.2.2.2.2.2.2.2.2.2
  have p0 := g3.1
  have p1 := g3.2.1
  have p2 := g3.2.2.1
  have p3 := g3.2.2.2.1
  have p4 := g3.2.2.2.2.1
  have p5 := g3.2.2.2.2.2.1
  have p6 := g3.2.2.2.2.2.2.1
  have p7 := g3.2.2.2.2.2.2.2
  clear g3
  clear g4
  have wb0 := (p7 (hV H0 285 32).toNat).1
  have wp0 := (p7 (hV H0 285 33).toNat).2
  try simp only [e1, e3, e5] at wb0
  try simp only [e1, e3, e5] at wp0
  clear e1 e3 e5
  clear f6
  rw [f7] at f8
  first
  | (have ix0 : n5 = 6 * n0 := Eq.trans f8 (w32_iv (Iml 6 rfl (Iat f1 f0)) (by decide)); subst ix0; clear f8)
  | (have ix0 : n5 = 6 * n0 := Eq.trans f8 (w32_id (by omega) (by omega)); subst ix0; clear f8)
  | (unfold w32 at f8; have ix0 : n5 = 6 * n0 := (by omega); subst ix0)
  | skip
  first
  | (have ix1 : n7 = (6 * n0) + 3 := Eq.trans f10 (w32_iv (Iad (Iml 6 rfl (Iat f1 f0)) (IC 3)) (by decide)); subst ix1; clear f10)
  | (have ix1 : n7 = (6 * n0) + 3 := Eq.trans f10 (w32_id (by omega) (by omega)); subst ix1; clear f10)
  | (unfold w32 at f10; have ix1 : n7 = (6 * n0) + 3 := (by omega); subst ix1)
  | skip
  try unfold w32 at f8
  try unfold w32 at f10

  (try clear y0 y1 p0 p5 p7)
  omega
def g_228_176_1 : vG := ([(1, [10, 8, 9], [], 0), (0, [9], [], 3), (3, [8, 7, 3], [], 0), (0, [7], [], 6), (5000, [0, 1, 2, 3], [0, 1], 176), (0, [0], [], 285), (90, [1], [], 0), (91, [1], [], 1007), (0, [2], [], 285), (90, [3], [], 0), (91, [3], [], 1007)], (70, [10], [], 6048))
theorem c_228_176_1 {q0 : Nat} : vOkm T0 (eP e_228 L_228 A_228 mu_228 (some q0)) 2 g_228_176_1 := vOk_inI fun ρ η f0 f1 f2 f3 f4 f5 f6 f7 f8 f9 f10 => q_228_16 (q0 := q0) (n0 := ρ 3) (n1 := ρ 2) (n2 := ρ 1) (n3 := ρ 0) (n4 := ρ 7) (n5 := ρ 8) (n6 := ρ 9) (n7 := ρ 10) (H0 := η 0) (H1 := η 1) f10 f9 f8 f7 f6 f5 f4 f3 f2 f1 f0
set_option maxHeartbeats 20000000 in
theorem q_228_17 {q0 : Nat} {n0 n1 n2 n3 n4 n5 n6 n7 n8 n9 n10 n11 : Int} {H0 H1 : gH} (f0 : n0 ≤ 1007) (f1 : 0 ≤ n0) (f2 : n1 = 285) (f3 : n2 ≤ 1007) (f4 : 0 ≤ n2) (f5 : n3 = 285) (f6 : (hLe T0 H0 H1 ∧ hFr s_228.2.2.2.2 H0 H1 ∧ hWt T0 H1) ∧ (Ab_228_176 n3 n2 n1 n0 H0 H1 ∧ preb_228 n3 n2 H0) ∧ some q0 = some (mub_228_176 n3 n2 n1 n0 H0 H1)) (f7 : n4 = 6) (f8 : n5 = w32 (n4 * n0)) (f9 : n6 = 3) (f10 : n7 = w32 (n5 + n6)) (f11 : n8 = 6) (f12 : n9 = w32 (n8 * n0)) (f13 : n10 = 4) (f14 : n11 = w32 (n9 + n10)) : 0 ≤ n11 ∧ n11 < 6048 := by
  have g4 := f6.2.1.1
  unfold Ab_228_176 at g4
  have g3 := f6.2.1.2
  unfold preb_228 at g3
  have e1 : hV H1 285 18 = hV H0 285 18 := (f6.1.2.1.1 285 18 kF_228_285_18)
  have e3 : hV H1 285 32 = hV H0 285 32 := (f6.1.2.1.1 285 32 kF_228_285_32)
  have e5 : hV H1 285 33 = hV H0 285 33 := (f6.1.2.1.1 285 33 kF_228_285_33)
  have e6 : (0 : Int) ≤ hV H1 285 11 ∧ hV H1 285 11 ≤ 500 := f6.1.2.2 285 11 _ _ kW_285_11
  have e7 : (0 : Int) ≤ hV H1 285 13 ∧ hV H1 285 13 ≤ 2 := f6.1.2.2 285 13 _ _ kW_285_13
  have e8 : (0 : Int) ≤ hV H1 285 15 ∧ hV H1 285 15 ≤ 6 := f6.1.2.2 285 15 _ _ kW_285_15
  have e9 : (0 : Int) ≤ hV H0 285 18 ∧ hV H0 285 18 ≤ 8 := bTo e1 (f6.1.2.2 285 18 _ _ kW_285_18)
  have e10 : (0 : Int) ≤ hV H0 285 32 ∧ hV H0 285 32 ≤ 7 := bTo e3 (f6.1.2.2 285 32 _ _ kW_285_32)
  have e11 : (0 : Int) ≤ hV H0 285 33 ∧ hV H0 285 33 ≤ 62 := bTo e5 (f6.1.2.2 285 33 _ _ kW_285_33)
  have k0 := g4.1
  have y0 := g4.2.1
  have y1 := g4.2.2.1
  have y2 := g4.2.2.2.1
  have y3 := g4.2.2.2.2.1
  have y4 := g4.2.2.2.2.2.1
  have y5 := g4.2.2.2.2.2.2.1
  have y6 := g4.2.2.2.2.2.2.2.1
  have y7 := g4.2.2.2.2.2.2.2.2.1
  have y8 := g4.2.2.2.2.2.2.2.2.2.1
  have y9 := g4.2.2.2.2.2.2.2.2.2.2.1
  have y10 := g4.2.2.2.2.2.2.2.2.2.2.2.1
  have y11 := g4.2.2.2.2.2.2.2.2.2.2.2.2.1
  have y12 := g4.2.2.2.2.2.2.2.2.2.2.2.2.2.1
  have y13 := g4.2.2.2.2.2.2.2.2.2.2.2.2.2.2
  have p0 := g3.1
  have p1 := g3.2.1
  have p2 := g3.2.2.1
  have p3 := g3.2.2.2.1
  have p4 := g3.2.2.2.2.1
  have p5 := g3.2.2.2.2.2.1
  have p6 := g3.2.2.2.2.2.2.1
  have p7 := g3.2.2.2.2.2.2.2
  clear g3
  clear g4
  have wb0 := (p7 (hV H0 285 32).toNat).1
  have wp0 := (p7 (hV H0 285 33).toNat).2
  try simp only [e1, e3, e5] at wb0
  try simp only [e1, e3, e5] at wp0
  clear e1 e3 e5
  clear f6
  rw [f7] at f8
  rw [f11] at f12
  first
  | (have ix0 : n9 = 6 * n0 := Eq.trans f12 (w32_iv (Iml 6 rfl (Iat f1 f0)) (by decide)); subst ix0; clear f12)
  | (have ix0 : n9 = 6 * n0 := Eq.trans f12 (w32_id (by omega) (by omega)); subst ix0; clear f12)
  | (unfold w32 at f12; have ix0 : n9 = 6 * n0 := (by omega); subst ix0)
  | skip
  first
  | (have ix1 : n11 = (6 * n0) + 4 := Eq.trans f14 (w32_iv (Iad (Iml 6 rfl (Iat f1 f0)) (IC 4)) (by decide)); subst ix1; clear f14)
  | (have ix1 : n11 = (6 * n0) + 4 := Eq.trans f14 (w32_id (by omega) (by omega)); subst ix1; clear f14)
  | (unfold w32 at f14; have ix1 : n11 = (6 * n0) + 4 := (by omega); subst ix1)
  | skip
  try unfold w32 at f8
  try unfold w32 at f10
  try unfold w32 at f12
  try unfold w32 at f14

  (try clear y0 y1 p0 p5 p7)
  omega
def g_228_176_2 : vG := ([(1, [19, 17, 18], [], 0), (0, [18], [], 4), (3, [17, 16, 3], [], 0), (0, [16], [], 6), (1, [10, 8, 9], [], 0), (0, [9], [], 3), (3, [8, 7, 3], [], 0), (0, [7], [], 6), (5000, [0, 1, 2, 3], [0, 1], 176), (0, [0], [], 285), (90, [1], [], 0), (91, [1], [], 1007), (0, [2], [], 285), (90, [3], [], 0), (91, [3], [], 1007)], (70, [19], [], 6048))
theorem c_228_176_2 {q0 : Nat} : vOkm T0 (eP e_228 L_228 A_228 mu_228 (some q0)) 2 g_228_176_2 := vOk_inI fun ρ η f0 f1 f2 f3 f4 f5 f6 f7 f8 f9 f10 f11 f12 f13 f14 => q_228_17 (q0 := q0) (n0 := ρ 3) (n1 := ρ 2) (n2 := ρ 1) (n3 := ρ 0) (n4 := ρ 7) (n5 := ρ 8) (n6 := ρ 9) (n7 := ρ 10) (n8 := ρ 16) (n9 := ρ 17) (n10 := ρ 18) (n11 := ρ 19) (H0 := η 0) (H1 := η 1) f14 f13 f12 f11 f10 f9 f8 f7 f6 f5 f4 f3 f2 f1 f0
set_option maxHeartbeats 20000000 in
theorem q_228_18 {q0 : Nat} {n0 n1 n2 n3 n4 n5 n6 n7 n8 n9 n10 n11 n12 n13 n14 n15 n16 n17 n18 n19 n20 n21 n22 : Int} {H0 H1 H2 H3 H4 H5 H6 H7 H8 : gH} (f0 : n0 ≤ 1007) (f1 : 0 ≤ n0) (f2 : n1 = 285) (f3 : n2 ≤ 1007) (f4 : 0 ≤ n2) (f5 : n3 = 285) (f6 : (hLe T0 H0 H1 ∧ hFr s_228.2.2.2.2 H0 H1 ∧ hWt T0 H1) ∧ (Ab_228_176 n3 n2 n1 n0 H0 H1 ∧ preb_228 n3 n2 H0) ∧ some q0 = some (mub_228_176 n3 n2 n1 n0 H0 H1)) (f7 : n4 = 29) (f8 : n5 ≤ 1) (f9 : 0 ≤ n5) (f10 : (hLe T0 H1 H2 ∧ hFr s_216.2.2.2.2 H1 H2 ∧ ((0 : Int) = 0 → H2.length = H1.length) ∧ hWt T0 H2) ∧ postb_216 n5 n1 n4 H1 H2) (f11 : n5 ≠ 0) (f12 : (hLe T0 H2 H3 ∧ hFr s_219.2.2.2.2 H2 H3 ∧ ((0 : Int) = 0 → H3.length = H2.length) ∧ hWt T0 H3) ∧ postb_219 n1 H2 H3) (f13 : n6 = 305) (f14 : n6 = hV H3 (n1).toNat 31) (f15 : n7 = 6) (f16 : n8 = w32 (n7 * n0)) (f17 : n9 = 3) (f18 : n10 = w32 (n8 + n9)) (f19 : n11 = 1) (f20 : n12 = 9) (f21 : n13 ≤ 9999) (f22 : 0 ≤ n13) (f23 : (hLe T0 H3 H4 ∧ hFr s_223.2.2.2.2 H3 H4 ∧ ((0 : Int) = 0 → H4.length = H3.length) ∧ hWt T0 H4) ∧ postb_223 n13 n1 n11 n12 H3 H4) (f24 : hUpd H5 H4 n6 n10 n13) (f25 : n14 = 15) (f26 : (hLe T0 H5 H6 ∧ hFr s_220.2.2.2.2 H5 H6 ∧ ((0 : Int) = 0 → H6.length = H5.length) ∧ hWt T0 H6) ∧ postb_220 n1 n14 H5 H6) (f27 : n15 = 305) (f28 : n15 = hV H6 (n1).toNat 31) (f29 : n16 = 6) (f30 : n17 = w32 (n16 * n0)) (f31 : n18 = 4) (f32 : n19 = w32 (n17 + n18)) (f33 : n20 = 1) (f34 : n21 = 9) (f35 : n22 ≤ 9999) (f36 : 0 ≤ n22) (f37 : (hLe T0 H6 H7 ∧ hFr s_223.2.2.2.2 H6 H7 ∧ ((0 : Int) = 0 → H7.length = H6.length) ∧ hWt T0 H7) ∧ postb_223 n22 n1 n20 n21 H6 H7) (f38 : hUpd H8 H7 n15 n19 n22) : Ab_228_231 n3 n2 n1 n0 H0 H8 ∧ ∀ q, some q0 = some q → mub_228_231 n3 n2 n1 n0 H0 H8 < q := by
  have g4 := f6.2.1.1
  unfold Ab_228_176 at g4
  have g3 := f6.2.1.2
  unfold preb_228 at g3
  have g5 := Option.some.inj f6.2.2
  unfold mub_228_176 at g5
  unfold postb_216 at f10
  unfold postb_219 at f12
  unfold postb_223 at f23
  unfold postb_220 at f26
  unfold postb_223 at f37
  unfold Ab_228_231
  unfold mub_228_231
  have e1 : hV H1 285 18 = hV H0 285 18 := (f6.1.2.1.1 285 18 kF_228_285_18)
  have e3 : hV H1 285 32 = hV H0 285 32 := (f6.1.2.1.1 285 32 kF_228_285_32)
  have e5 : hV H1 285 33 = hV H0 285 33 := (f6.1.2.1.1 285 33 kF_228_285_33)
  have e7 : hV H1 285 64 = hV H0 285 64 := (f6.1.2.1.1 285 64 kF_228_285_64)
  have e8 : hV H1 294 = hV H0 294 := fRow f6.1.2.1 294 kR_228_294
  have e9 : hV H1 296 = hV H0 296 := fRow f6.1.2.1 296 kR_228_296
  have e10 : hV H1 297 = hV H0 297 := fRow f6.1.2.1 297 kR_228_297
  have e11 : hV H1 298 = hV H0 298 := fRow f6.1.2.1 298 kR_228_298
  have e12 : hV H1 328 = hV H0 328 := fRow f6.1.2.1 328 kR_228_328
  have e13 : hV H1 332 = hV H0 332 := fRow f6.1.2.1 332 kR_228_332
  have e14 : hV H1 335 = hV H0 335 := fRow f6.1.2.1 335 kR_228_335
  have e16 : hV H2 285 11 = hV H1 285 11 := (f10.1.2.1.1 285 11 kF_216_285_11)
  have e18 : hV H2 285 13 = hV H1 285 13 := (f10.1.2.1.1 285 13 kF_216_285_13)
  have e21 : hV H2 288 = hV H0 288 := (fRow f10.1.2.1 288 kR_216_288).trans (fRow f6.1.2.1 288 kR_228_288)
  have e24 : hV H3 285 15 = hV H1 285 15 := ((f12.1.2.1.1 285 15 kF_219_285_15)).trans (f10.1.2.1.1 285 15 kF_216_285_15)
  have e30 : hV H5 285 11 = hV H4 285 11 := (uPlace f24 285 11 (iS (show n6 = ((305 : Nat) : Int) from f13) rfl))
  have e32 : hV H5 285 13 = hV H4 285 13 := (uPlace f24 285 13 (iS (show n6 = ((305 : Nat) : Int) from f13) rfl))
  have e35 : hV H6 285 15 = hV H4 285 15 := ((f26.1.2.1.1 285 15 kF_220_285_15)).trans (uPlace f24 285 15 (iS (show n6 = ((305 : Nat) : Int) from f13) rfl))
  have e43 : hV H8 285 11 = hV H7 285 11 := (uPlace f38 285 11 (iS (show n15 = ((305 : Nat) : Int) from f27) rfl))
  have e45 : hV H8 285 13 = hV H7 285 13 := (uPlace f38 285 13 (iS (show n15 = ((305 : Nat) : Int) from f27) rfl))
  have e47 : hV H8 285 15 = hV H7 285 15 := (uPlace f38 285 15 (iS (show n15 = ((305 : Nat) : Int) from f27) rfl))
  have e55 : hV H8 285 18 = hV H0 285 18 := ((uPlace f38 285 18 (iS (show n15 = ((305 : Nat) : Int) from f27) rfl))).trans (((f37.1.2.1.1 285 18 kF_223_285_18)).trans (((f26.1.2.1.1 285 18 kF_220_285_18)).trans (((uPlace f24 285 18 (iS (show n6 = ((305 : Nat) : Int) from f13) rfl))).trans (((f23.1.2.1.1 285 18 kF_223_285_18)).trans (((f12.1.2.1.1 285 18 kF_219_285_18)).trans (((f10.1.2.1.1 285 18 kF_216_285_18)).trans (f6.1.2.1.1 285 18 kF_228_285_18)))))))
  have e63 : hV H8 285 32 = hV H0 285 32 := ((uPlace f38 285 32 (iS (show n15 = ((305 : Nat) : Int) from f27) rfl))).trans (((f37.1.2.1.1 285 32 kF_223_285_32)).trans (((f26.1.2.1.1 285 32 kF_220_285_32)).trans (((uPlace f24 285 32 (iS (show n6 = ((305 : Nat) : Int) from f13) rfl))).trans (((f23.1.2.1.1 285 32 kF_223_285_32)).trans (((f12.1.2.1.1 285 32 kF_219_285_32)).trans (((f10.1.2.1.1 285 32 kF_216_285_32)).trans (f6.1.2.1.1 285 32 kF_228_285_32)))))))
  have e71 : hV H8 285 33 = hV H0 285 33 := ((uPlace f38 285 33 (iS (show n15 = ((305 : Nat) : Int) from f27) rfl))).trans (((f37.1.2.1.1 285 33 kF_223_285_33)).trans (((f26.1.2.1.1 285 33 kF_220_285_33)).trans (((uPlace f24 285 33 (iS (show n6 = ((305 : Nat) : Int) from f13) rfl))).trans (((f23.1.2.1.1 285 33 kF_223_285_33)).trans (((f12.1.2.1.1 285 33 kF_219_285_33)).trans (((f10.1.2.1.1 285 33 kF_216_285_33)).trans (f6.1.2.1.1 285 33 kF_228_285_33)))))))
  have e79 : hV H8 285 64 = hV H0 285 64 := ((uPlace f38 285 64 (iS (show n15 = ((305 : Nat) : Int) from f27) rfl))).trans (((f37.1.2.1.1 285 64 kF_223_285_64)).trans (((f26.1.2.1.1 285 64 kF_220_285_64)).trans (((uPlace f24 285 64 (iS (show n6 = ((305 : Nat) : Int) from f13) rfl))).trans (((f23.1.2.1.1 285 64 kF_223_285_64)).trans (((f12.1.2.1.1 285 64 kF_219_285_64)).trans (((f10.1.2.1.1 285 64 kF_216_285_64)).trans (f6.1.2.1.1 285 64 kF_228_285_64)))))))
  have e93 : hV H8 294 = hV H0 294 := (uRowNe f38 294 (iS (show n15 = ((305 : Nat) : Int) from f27) rfl)).trans ((fRow f37.1.2.1 294 kR_223_294).trans ((fRow f26.1.2.1 294 kR_220_294).trans ((uRowNe f24 294 (iS (show n6 = ((305 : Nat) : Int) from f13) rfl)).trans ((fRow f23.1.2.1 294 kR_223_294).trans ((fRow f12.1.2.1 294 kR_219_294).trans ((fRow f10.1.2.1 294 kR_216_294).trans e8))))))
  have e107 : hV H8 296 = hV H0 296 := (uRowNe f38 296 (iS (show n15 = ((305 : Nat) : Int) from f27) rfl)).trans ((fRow f37.1.2.1 296 kR_223_296).trans ((fRow f26.1.2.1 296 kR_220_296).trans ((uRowNe f24 296 (iS (show n6 = ((305 : Nat) : Int) from f13) rfl)).trans ((fRow f23.1.2.1 296 kR_223_296).trans ((fRow f12.1.2.1 296 kR_219_296).trans ((fRow f10.1.2.1 296 kR_216_296).trans e9))))))
  have e121 : hV H8 297 = hV H0 297 := (uRowNe f38 297 (iS (show n15 = ((305 : Nat) : Int) from f27) rfl)).trans ((fRow f37.1.2.1 297 kR_223_297).trans ((fRow f26.1.2.1 297 kR_220_297).trans ((uRowNe f24 297 (iS (show n6 = ((305 : Nat) : Int) from f13) rfl)).trans ((fRow f23.1.2.1 297 kR_223_297).trans ((fRow f12.1.2.1 297 kR_219_297).trans ((fRow f10.1.2.1 297 kR_216_297).trans e10))))))
  have e135 : hV H8 298 = hV H0 298 := (uRowNe f38 298 (iS (show n15 = ((305 : Nat) : Int) from f27) rfl)).trans ((fRow f37.1.2.1 298 kR_223_298).trans ((fRow f26.1.2.1 298 kR_220_298).trans ((uRowNe f24 298 (iS (show n6 = ((305 : Nat) : Int) from f13) rfl)).trans ((fRow f23.1.2.1 298 kR_223_298).trans ((fRow f12.1.2.1 298 kR_219_298).trans ((fRow f10.1.2.1 298 kR_216_298).trans e11))))))
  have e148 : hV H8 300 = hV H1 300 := (uRowNe f38 300 (iS (show n15 = ((305 : Nat) : Int) from f27) rfl)).trans ((fRow f37.1.2.1 300 kR_223_300).trans ((fRow f26.1.2.1 300 kR_220_300).trans ((uRowNe f24 300 (iS (show n6 = ((305 : Nat) : Int) from f13) rfl)).trans ((fRow f23.1.2.1 300 kR_223_300).trans ((fRow f12.1.2.1 300 kR_219_300).trans (fRow f10.1.2.1 300 kR_216_300))))))
  have e161 : hV H8 301 = hV H1 301 := (uRowNe f38 301 (iS (show n15 = ((305 : Nat) : Int) from f27) rfl)).trans ((fRow f37.1.2.1 301 kR_223_301).trans ((fRow f26.1.2.1 301 kR_220_301).trans ((uRowNe f24 301 (iS (show n6 = ((305 : Nat) : Int) from f13) rfl)).trans ((fRow f23.1.2.1 301 kR_223_301).trans ((fRow f12.1.2.1 301 kR_219_301).trans (fRow f10.1.2.1 301 kR_216_301))))))
  have e174 : hV H8 302 = hV H1 302 := (uRowNe f38 302 (iS (show n15 = ((305 : Nat) : Int) from f27) rfl)).trans ((fRow f37.1.2.1 302 kR_223_302).trans ((fRow f26.1.2.1 302 kR_220_302).trans ((uRowNe f24 302 (iS (show n6 = ((305 : Nat) : Int) from f13) rfl)).trans ((fRow f23.1.2.1 302 kR_223_302).trans ((fRow f12.1.2.1 302 kR_219_302).trans (fRow f10.1.2.1 302 kR_216_302))))))
  have e187 : hV H8 303 = hV H1 303 := (uRowNe f38 303 (iS (show n15 = ((305 : Nat) : Int) from f27) rfl)).trans ((fRow f37.1.2.1 303 kR_223_303).trans ((fRow f26.1.2.1 303 kR_220_303).trans ((uRowNe f24 303 (iS (show n6 = ((305 : Nat) : Int) from f13) rfl)).trans ((fRow f23.1.2.1 303 kR_223_303).trans ((fRow f12.1.2.1 303 kR_219_303).trans (fRow f10.1.2.1 303 kR_216_303))))))
  have e200 : hV H8 305 = (uF (uF (hV H1 305) n10 n13) n19 n22) := (uRow f38 305 f27.symm).trans (congrArg (fun z => uF z n19 n22) ((fRow f37.1.2.1 305 kR_223_305).trans ((fRow f26.1.2.1 305 kR_220_305).trans ((uRow f24 305 f13.symm).trans (congrArg (fun z => uF z n10 n13) ((fRow f23.1.2.1 305 kR_223_305).trans ((fRow f12.1.2.1 305 kR_219_305).trans (fRow f10.1.2.1 305 kR_216_305))))))))
  have e214 : hV H8 328 = hV H0 328 := (uRowNe f38 328 (iS (show n15 = ((305 : Nat) : Int) from f27) rfl)).trans ((fRow f37.1.2.1 328 kR_223_328).trans ((fRow f26.1.2.1 328 kR_220_328).trans ((uRowNe f24 328 (iS (show n6 = ((305 : Nat) : Int) from f13) rfl)).trans ((fRow f23.1.2.1 328 kR_223_328).trans ((fRow f12.1.2.1 328 kR_219_328).trans ((fRow f10.1.2.1 328 kR_216_328).trans e12))))))
  have e228 : hV H8 332 = hV H0 332 := (uRowNe f38 332 (iS (show n15 = ((305 : Nat) : Int) from f27) rfl)).trans ((fRow f37.1.2.1 332 kR_223_332).trans ((fRow f26.1.2.1 332 kR_220_332).trans ((uRowNe f24 332 (iS (show n6 = ((305 : Nat) : Int) from f13) rfl)).trans ((fRow f23.1.2.1 332 kR_223_332).trans ((fRow f12.1.2.1 332 kR_219_332).trans ((fRow f10.1.2.1 332 kR_216_332).trans e13))))))
  have e242 : hV H8 335 = hV H0 335 := (uRowNe f38 335 (iS (show n15 = ((305 : Nat) : Int) from f27) rfl)).trans ((fRow f37.1.2.1 335 kR_223_335).trans ((fRow f26.1.2.1 335 kR_220_335).trans ((uRowNe f24 335 (iS (show n6 = ((305 : Nat) : Int) from f13) rfl)).trans ((fRow f23.1.2.1 335 kR_223_335).trans ((fRow f12.1.2.1 335 kR_219_335).trans ((fRow f10.1.2.1 335 kR_216_335).trans e14))))))
  have e243 : (0 : Int) ≤ hV H1 285 11 ∧ hV H1 285 11 ≤ 500 := f6.1.2.2 285 11 _ _ kW_285_11
  have e244 : (0 : Int) ≤ hV H1 285 13 ∧ hV H1 285 13 ≤ 2 := f6.1.2.2 285 13 _ _ kW_285_13
  have e245 : (0 : Int) ≤ hV H1 285 15 ∧ hV H1 285 15 ≤ 6 := f6.1.2.2 285 15 _ _ kW_285_15
  have e246 : (0 : Int) ≤ hV H0 285 18 ∧ hV H0 285 18 ≤ 8 := bTo e1 (f6.1.2.2 285 18 _ _ kW_285_18)
  have e247 : (0 : Int) ≤ hV H0 285 32 ∧ hV H0 285 32 ≤ 7 := bTo e3 (f6.1.2.2 285 32 _ _ kW_285_32)
  have e248 : (0 : Int) ≤ hV H0 285 33 ∧ hV H0 285 33 ≤ 62 := bTo e5 (f6.1.2.2 285 33 _ _ kW_285_33)
  have e249 : (0 : Int) ≤ hV H0 285 64 ∧ hV H0 285 64 ≤ 20 := bTo e7 (f6.1.2.2 285 64 _ _ kW_285_64)
  have e252 : (0 : Int) ≤ hV H3 285 11 ∧ hV H3 285 11 ≤ 500 := f12.1.2.2.2 285 11 _ _ kW_285_11
  have e253 : (0 : Int) ≤ hV H3 285 13 ∧ hV H3 285 13 ≤ 2 := f12.1.2.2.2 285 13 _ _ kW_285_13
  have e255 : (0 : Int) ≤ hV H4 285 11 ∧ hV H4 285 11 ≤ 500 := f23.1.2.2.2 285 11 _ _ kW_285_11
  have e256 : (0 : Int) ≤ hV H4 285 13 ∧ hV H4 285 13 ≤ 2 := f23.1.2.2.2 285 13 _ _ kW_285_13
  have e257 : (0 : Int) ≤ hV H4 285 15 ∧ hV H4 285 15 ≤ 6 := f23.1.2.2.2 285 15 _ _ kW_285_15
  have e258 : (0 : Int) ≤ hV H6 285 11 ∧ hV H6 285 11 ≤ 500 := f26.1.2.2.2 285 11 _ _ kW_285_11
  have e259 : (0 : Int) ≤ hV H6 285 13 ∧ hV H6 285 13 ≤ 2 := f26.1.2.2.2 285 13 _ _ kW_285_13
  have e261 : (0 : Int) ≤ hV H7 285 11 ∧ hV H7 285 11 ≤ 500 := f37.1.2.2.2 285 11 _ _ kW_285_11
  have e262 : (0 : Int) ≤ hV H7 285 13 ∧ hV H7 285 13 ≤ 2 := f37.1.2.2.2 285 13 _ _ kW_285_13
  have e263 : (0 : Int) ≤ hV H7 285 15 ∧ hV H7 285 15 ≤ 6 := f37.1.2.2.2 285 15 _ _ kW_285_15
  try simp only [PA, PW]
  try simp only [e43, e45, e47, e55, e63, e71, e79, e93, e107, e121, e135, e148, e161, e174, e187, e200, e214, e228, e242]
  have k0 := g4.1
  have y0 := g4.2.1
  have y1 := g4.2.2.1
  have y2 := g4.2.2.2.1
  have y3 := g4.2.2.2.2.1
  have y4 := g4.2.2.2.2.2.1
  have y5 := g4.2.2.2.2.2.2.1
  have y6 := g4.2.2.2.2.2.2.2.1
  have y7 := g4.2.2.2.2.2.2.2.2.1
  have y8 := g4.2.2.2.2.2.2.2.2.2.1
  have y9 := g4.2.2.2.2.2.2.2.2.2.2.1
  have y10 := g4.2.2.2.2.2.2.2.2.2.2.2.1
  have y11 := g4.2.2.2.2.2.2.2.2.2.2.2.2.1
  have y12 := g4.2.2.2.2.2.2.2.2.2.2.2.2.2.1
  have y13 := g4.2.2.2.2.2.2.2.2.2.2.2.2.2.2
  have p0 := g3.1
  have p1 := g3.2.1
  have p2 := g3.2.2.1
  have p3 := g3.2.2.2.1
  have p4 := g3.2.2.2.2.1
  have p5 := g3.2.2.2.2.2.1
  have p6 := g3.2.2.2.2.2.2.1
  have p7 := g3.2.2.2.2.2.2.2
  have r0_0 := f10.2.1
  have r0_1 := f10.2.2.resolve_right (fun z => f11 z.1)
  have r1_0 := f12.2.1
  have r1_1 := f12.2.2.1
  have r1_2 := f12.2.2.2.1
  have r1_3 := f12.2.2.2.2
  have r2_0 := f23.2.1
  have r2_1 := f23.2.2.1
  have r2_2 := f23.2.2.2.1
  have r2_3 := f23.2.2.2.2.1
  have r2_4 := f23.2.2.2.2.2.1
  have r2_5 := f23.2.2.2.2.2.2.1
  have r2_6 := f23.2.2.2.2.2.2.2.1
  have r3_0 := f26.2.1
  have r3_1 := f26.2.2.1
  have r3_2 := f26.2.2.2.1
  have r3_3 := f26.2.2.2.2.1
  have r4_0 := f37.2.1
  have r4_1 := f37.2.2.1
  have r4_2 := f37.2.2.2.1
  have r4_3 := f37.2.2.2.2.1
  have r4_4 := f37.2.2.2.2.2.1
  have r4_5 := f37.2.2.2.2.2.2.1
  have r4_6 := f37.2.2.2.2.2.2.2.1
  try simp only [PA] at y0
  try simp only [PW] at y1
  try simp only [PA] at p0
  try simp only [PW] at p5
  try simp only [e1, e7, e8, e9, e11, e12, e13, e14] at y0
  try simp only [e3, e5, e8, e9, e10, e11] at y1
  try simp only [e18] at r0_0
  try simp only [e1, e3, e5, e7, e8, e9, e10, e11, e12, e13, e14, e16, e18, e21] at r0_1
  try simp only [e16] at r1_0
  try simp only [e16] at r1_1
  try simp only [e18] at r1_2
  try simp only [e16] at r1_3
  try simp only [e24] at r2_4
  try simp only [e30] at r3_0
  try simp only [e30] at r3_1
  try simp only [e32] at r3_2
  try simp only [e30] at r3_3
  try simp only [e35] at r4_4
  clear g3
  clear g4
  have wb0 := (p7 (hV H0 285 32).toNat).1
  have wp0 := (p7 (hV H0 285 33).toNat).2
  try simp only [e1, e3, e5, e7, e8, e9, e10, e11, e12, e13, e14] at wb0
  try simp only [e1, e3, e5, e7, e8, e9, e10, e11, e12, e13, e14] at wp0
  clear f14 f28 e1 e3 e5 e7 e8 e9 e10 e11 e12 e13 e14 e16 e18 e21 e24 e30 e32 e35 e43 e45 e47 e55 e63 e71 e79 e93 e107 e121 e135 e148 e161 e174 e187 e200 e214 e228 e242
  clear f6 f10 f12 f23 f26 f37
  rw [f15] at f16
  rw [f29] at f30
  first
  | (have ix0 : n8 = 6 * n0 := Eq.trans f16 (w32_iv (Iml 6 rfl (Iat f1 f0)) (by decide)); subst ix0; clear f16)
  | (have ix0 : n8 = 6 * n0 := Eq.trans f16 (w32_id (by omega) (by omega)); subst ix0; clear f16)
  | (unfold w32 at f16; have ix0 : n8 = 6 * n0 := (by omega); subst ix0)
  | skip
  first
  | (have ix1 : n10 = (6 * n0) + 3 := Eq.trans f18 (w32_iv (Iad (Iml 6 rfl (Iat f1 f0)) (IC 3)) (by decide)); subst ix1; clear f18)
  | (have ix1 : n10 = (6 * n0) + 3 := Eq.trans f18 (w32_id (by omega) (by omega)); subst ix1; clear f18)
  | (unfold w32 at f18; have ix1 : n10 = (6 * n0) + 3 := (by omega); subst ix1)
  | skip
  first
  | (have ix2 : n17 = 6 * n0 := Eq.trans f30 (w32_iv (Iml 6 rfl (Iat f1 f0)) (by decide)); subst ix2; clear f30)
  | (have ix2 : n17 = 6 * n0 := Eq.trans f30 (w32_id (by omega) (by omega)); subst ix2; clear f30)
  | (unfold w32 at f30; have ix2 : n17 = 6 * n0 := (by omega); subst ix2)
  | skip
  first
  | (have ix3 : n19 = (6 * n0) + 4 := Eq.trans f32 (w32_iv (Iad (Iml 6 rfl (Iat f1 f0)) (IC 4)) (by decide)); subst ix3; clear f32)
  | (have ix3 : n19 = (6 * n0) + 4 := Eq.trans f32 (w32_id (by omega) (by omega)); subst ix3; clear f32)
  | (unfold w32 at f32; have ix3 : n19 = (6 * n0) + 4 := (by omega); subst ix3)
  | skip
  try unfold w32 at f16
  try unfold w32 at f18
  try unfold w32 at f30
  try unfold w32 at f32

  refine ⟨⟨?_, ?_, ?_, ?_, ?_, ?_, ?_, ?_, ?_, ?_, ?_, ?_, ?_, ?_, ?_⟩, fun q hq => ?_⟩
  · first | exact True.intro | rfl | omega
  · refine PA_cn ?_ (by omega)
    refine PA_cn ?_ (by omega)
    exact y0
  · intro z1 z2
    refine PW_cn ?_ (by omega) (by omega) (by omega) (by omega)
    refine PW_cn ?_ (by omega) (by omega) (by omega) (by omega)
    exact y1 (by omega) (by omega)
  · (try clear y0 y1 p0 p5 p7)
    first | exact True.intro | omega
  · (try clear y0 y1 p0 p5 p7)
    first | exact True.intro | omega
  · (try clear y0 y1 p0 p5 p7)
    first | exact True.intro | omega
  · (try clear y0 y1 p0 p5 p7)
    first | exact True.intro | omega
  · (try clear y0 y1 p0 p5 p7)
    first | exact True.intro | omega
  · (try clear y0 y1 p0 p5 p7)
    first | exact True.intro | omega
  · (try clear y0 y1 p0 p5 p7)
    first | exact True.intro | omega
  · (try clear y0 y1 p0 p5 p7)
    first | exact True.intro | omega
  · (try clear y0 y1 p0 p5 p7)
    first | exact True.intro | omega
  · (try clear y0 y1 p0 p5 p7)
    first | exact True.intro | omega
  · (try clear y0 y1 p0 p5 p7)
    first | (simp only [uF_at]; omega) | omega
  · (try clear y0 y1 p0 p5 p7)
    first | (simp only [uF_at]; omega) | omega
  · (try clear y0 y1 p0 p5 p7)
    have g6 := Option.some.inj hq
    subst g6
    omega
def g_228_176_3 : vG := ([(80, [15, 19, 22], [8, 7], 0), (1223, [22, 2, 20, 21], [6, 7], 0), (90, [22], [], 0), (91, [22], [], 9999), (0, [21], [], 9), (0, [20], [], 1), (1, [19, 17, 18], [], 0), (0, [18], [], 4), (3, [17, 16, 3], [], 0), (0, [16], [], 6), (20, [15, 2], [6], 31), (0, [15], [], 305), (1220, [2, 14], [5, 6], 0), (0, [14], [], 15), (80, [6, 10, 13], [5, 4], 0), (1223, [13, 2, 11, 12], [3, 4], 0), (90, [13], [], 0), (91, [13], [], 9999), (0, [12], [], 9), (0, [11], [], 1), (1, [10, 8, 9], [], 0), (0, [9], [], 3), (3, [8, 7, 3], [], 0), (0, [7], [], 6), (20, [6, 2], [3], 31), (0, [6], [], 305), (1219, [2], [2, 3], 0), (31, [5], [], 0), (1216, [5, 2, 4], [1, 2], 0), (90, [5], [], 0), (91, [5], [], 1), (0, [4], [], 29), (5000, [0, 1, 2, 3], [0, 1], 176), (0, [0], [], 285), (90, [1], [], 0), (91, [1], [], 1007), (0, [2], [], 285), (90, [3], [], 0), (91, [3], [], 1007)], (4000, [2, 3], [8], 231))
theorem c_228_176_3 {q0 : Nat} : vOkm T0 (eP e_228 L_228 A_228 mu_228 (some q0)) 2 g_228_176_3 := vOk_inI fun ρ η f0 f1 f2 f3 f4 f5 f6 f7 f8 f9 f10 f11 f12 f13 f14 f15 f16 f17 f18 f19 f20 f21 f22 f23 f24 f25 f26 f27 f28 f29 f30 f31 f32 f33 f34 f35 f36 f37 f38 => q_228_18 (q0 := q0) (n0 := ρ 3) (n1 := ρ 2) (n2 := ρ 1) (n3 := ρ 0) (n4 := ρ 4) (n5 := ρ 5) (n6 := ρ 6) (n7 := ρ 7) (n8 := ρ 8) (n9 := ρ 9) (n10 := ρ 10) (n11 := ρ 11) (n12 := ρ 12) (n13 := ρ 13) (n14 := ρ 14) (n15 := ρ 15) (n16 := ρ 16) (n17 := ρ 17) (n18 := ρ 18) (n19 := ρ 19) (n20 := ρ 20) (n21 := ρ 21) (n22 := ρ 22) (H0 := η 0) (H1 := η 1) (H2 := η 2) (H3 := η 3) (H4 := η 4) (H5 := η 5) (H6 := η 6) (H7 := η 7) (H8 := η 8) f38 f37 f36 f35 f34 f33 f32 f31 f30 f29 f28 f27 f26 f25 f24 f23 f22 f21 f20 f19 f18 f17 f16 f15 f14 f13 f12 f11 f10 f9 f8 f7 f6 f5 f4 f3 f2 f1 f0
def p_228_176 : List vG := [g_228_176_0,
  g_228_176_1,
  g_228_176_2,
  g_228_176_3]
theorem r_228_176 : vCovO false (eRc e_228 L_228 cs_228 2000 (176, [(0, (3, 12, 285, 0)), (1, (0, 0, 1007, 0))])) p_228_176 = true := by decide +kernel
set_option maxHeartbeats 20000000 in
theorem q_228_19 {q0 : Nat} {n0 n1 n2 n3 n4 n5 n6 n7 : Int} {H0 H1 : gH} (f0 : n0 ≤ 1007) (f1 : 0 ≤ n0) (f2 : n1 = 285) (f3 : n2 ≤ 1007) (f4 : 0 ≤ n2) (f5 : n3 = 285) (f6 : (hLe T0 H0 H1 ∧ hFr s_228.2.2.2.2 H0 H1 ∧ hWt T0 H1) ∧ (Ab_228_231 n3 n2 n1 n0 H0 H1 ∧ preb_228 n3 n2 H0) ∧ some q0 = some (mub_228_231 n3 n2 n1 n0 H0 H1)) (f7 : n4 = 6) (f8 : n5 = w32 (n4 * n0)) (f9 : n6 = 5) (f10 : n7 = w32 (n5 + n6)) : 0 ≤ n7 ∧ n7 < 6048 := by
  have g4 := f6.2.1.1
  unfold Ab_228_231 at g4
  have g3 := f6.2.1.2
  unfold preb_228 at g3
  have e1 : hV H1 285 18 = hV H0 285 18 := (f6.1.2.1.1 285 18 kF_228_285_18)
  have e3 : hV H1 285 32 = hV H0 285 32 := (f6.1.2.1.1 285 32 kF_228_285_32)
  have e5 : hV H1 285 33 = hV H0 285 33 := (f6.1.2.1.1 285 33 kF_228_285_33)
  have e6 : (0 : Int) ≤ hV H1 285 11 ∧ hV H1 285 11 ≤ 500 := f6.1.2.2 285 11 _ _ kW_285_11
  have e7 : (0 : Int) ≤ hV H1 285 13 ∧ hV H1 285 13 ≤ 2 := f6.1.2.2 285 13 _ _ kW_285_13
  have e8 : (0 : Int) ≤ hV H1 285 15 ∧ hV H1 285 15 ≤ 6 := f6.1.2.2 285 15 _ _ kW_285_15
  have e9 : (0 : Int) ≤ hV H0 285 18 ∧ hV H0 285 18 ≤ 8 := bTo e1 (f6.1.2.2 285 18 _ _ kW_285_18)
  have e10 : (0 : Int) ≤ hV H0 285 32 ∧ hV H0 285 32 ≤ 7 := bTo e3 (f6.1.2.2 285 32 _ _ kW_285_32)
  have e11 : (0 : Int) ≤ hV H0 285 33 ∧ hV H0 285 33 ≤ 62 := bTo e5 (f6.1.2.2 285 33 _ _ kW_285_33)
  have k0 := g4.1
  have y0 := g4.2.1
  have y1 := g4.2.2.1
  have y2 := g4.2.2.2.1
  have y3 := g4.2.2.2.2.1
  have y4 := g4.2.2.2.2.2.1
  have y5 := g4.2.2.2.2.2.2.1
  have y6 := g4.2.2.2.2.2.2.2.1
  have y7 := g4.2.2.2.2.2.2.2.2.1
  have y8 := g4.2.2.2.2.2.2.2.2.2.1
  have y9 := g4.2.2.2.2.2.2.2.2.2.2.1
  have y10 := g4.2.2.2.2.2.2.2.2.2.2.2.1
  have y11 := g4.2.2.2.2.2.2.2.2.2.2.2.2.1
  have y12 := g4.2.2.2.2.2.2.2.2.2.2.2.2.2.1
  have y13 := g4.2.2.2.2.2.2.2.2.2.2.2.2.2.2
  have p0 := g3.1
  have p1 := g3.2.1
  have p2 := g3.2.2.1
  have p3 := g3.2.2.2.1
  have p4 := g3.2.2.2.2.1
  have p5 := g3.2.2.2.2.2.1
  have p6 := g3.2.2.2.2.2.2.1
  have p7 := g3.2.2.2.2.2.2.2
  clear g3
  clear g4
  have wb0 := (p7 (hV H0 285 32).toNat).1
  have wp0 := (p7 (hV H0 285 33).toNat).2
  try simp only [e1, e3, e5] at wb0
  try simp only [e1, e3, e5] at wp0
  clear e1 e3 e5
  clear f6
  rw [f7] at f8
  first
  | (have ix0 : n5 = 6 * n0 := Eq.trans f8 (w32_iv (Iml 6 rfl (Iat f1 f0)) (by decide)); subst ix0; clear f8)
  | (have ix0 : n5 = 6 * n0 := Eq.trans f8 (w32_id (by omega) (by omega)); subst ix0; clear f8)
  | (unfold w32 at f8; have ix0 : n5 = 6 * n0 := (by omega); subst ix0)
  | skip
  first
  | (have ix1 : n7 = (6 * n0) + 5 := Eq.trans f10 (w32_iv (Iad (Iml 6 rfl (Iat f1 f0)) (IC 5)) (by decide)); subst ix1; clear f10)
  | (have ix1 : n7 = (6 * n0) + 5 := Eq.trans f10 (w32_id (by omega) (by omega)); subst ix1; clear f10)
  | (unfold w32 at f10; have ix1 : n7 = (6 * n0) + 5 := (by omega); subst ix1)
  | skip
  try unfold w32 at f8
  try unfold w32 at f10

  (try clear y0 y1 p0 p5 p7)
  omega
def g_228_231_0 : vG := ([(1, [9, 7, 8], [], 0), (0, [8], [], 5), (3, [7, 6, 3], [], 0), (0, [6], [], 6), (5000, [0, 1, 2, 3], [0, 1], 231), (0, [0], [], 285), (90, [1], [], 0), (91, [1], [], 1007), (0, [2], [], 285), (90, [3], [], 0), (91, [3], [], 1007)], (70, [9], [], 6048))
theorem c_228_231_0 {q0 : Nat} : vOkm T0 (eP e_228 L_228 A_228 mu_228 (some q0)) 2 g_228_231_0 := vOk_inI fun ρ η f0 f1 f2 f3 f4 f5 f6 f7 f8 f9 f10 => q_228_19 (q0 := q0) (n0 := ρ 3) (n1 := ρ 2) (n2 := ρ 1) (n3 := ρ 0) (n4 := ρ 6) (n5 := ρ 7) (n6 := ρ 8) (n7 := ρ 9) (H0 := η 0) (H1 := η 1) f10 f9 f8 f7 f6 f5 f4 f3 f2 f1 f0
set_option maxHeartbeats 20000000 in
theorem q_228_20 {q0 : Nat} {n0 n1 n2 n3 n4 n5 n6 n7 n8 n9 n10 n11 n12 : Int} {H0 H1 H2 H3 H4 : gH} (f0 : n0 ≤ 1007) (f1 : 0 ≤ n0) (f2 : n1 = 285) (f3 : n2 ≤ 1007) (f4 : 0 ≤ n2) (f5 : n3 = 285) (f6 : (hLe T0 H0 H1 ∧ hFr s_228.2.2.2.2 H0 H1 ∧ hWt T0 H1) ∧ (Ab_228_231 n3 n2 n1 n0 H0 H1 ∧ preb_228 n3 n2 H0) ∧ some q0 = some (mub_228_231 n3 n2 n1 n0 H0 H1)) (f7 : n4 = 30) (f8 : (hLe T0 H1 H2 ∧ hFr s_220.2.2.2.2 H1 H2 ∧ ((0 : Int) = 0 → H2.length = H1.length) ∧ hWt T0 H2) ∧ postb_220 n1 n4 H1 H2) (f9 : n5 = 305) (f10 : n5 = hV H2 (n1).toNat 31) (f11 : n6 = 6) (f12 : n7 = w32 (n6 * n0)) (f13 : n8 = 5) (f14 : n9 = w32 (n7 + n8)) (f15 : n10 = 0) (f16 : n11 = 2) (f17 : n12 ≤ 9999) (f18 : 0 ≤ n12) (f19 : (hLe T0 H2 H3 ∧ hFr s_223.2.2.2.2 H2 H3 ∧ ((0 : Int) = 0 → H3.length = H2.length) ∧ hWt T0 H3) ∧ postb_223 n12 n1 n10 n11 H2 H3) (f20 : hUpd H4 H3 n5 n9 n12) : postb_228 n3 n2 H0 H4 := by
  have g4 := f6.2.1.1
  unfold Ab_228_231 at g4
  have g3 := f6.2.1.2
  unfold preb_228 at g3
  unfold postb_220 at f8
  unfold postb_223 at f19
  unfold postb_228
  have e1 : hV H1 285 18 = hV H0 285 18 := (f6.1.2.1.1 285 18 kF_228_285_18)
  have e3 : hV H1 285 32 = hV H0 285 32 := (f6.1.2.1.1 285 32 kF_228_285_32)
  have e5 : hV H1 285 33 = hV H0 285 33 := (f6.1.2.1.1 285 33 kF_228_285_33)
  have e7 : hV H1 285 64 = hV H0 285 64 := (f6.1.2.1.1 285 64 kF_228_285_64)
  have e8 : hV H1 294 = hV H0 294 := fRow f6.1.2.1 294 kR_228_294
  have e9 : hV H1 296 = hV H0 296 := fRow f6.1.2.1 296 kR_228_296
  have e10 : hV H1 297 = hV H0 297 := fRow f6.1.2.1 297 kR_228_297
  have e11 : hV H1 298 = hV H0 298 := fRow f6.1.2.1 298 kR_228_298
  have e12 : hV H1 328 = hV H0 328 := fRow f6.1.2.1 328 kR_228_328
  have e13 : hV H1 332 = hV H0 332 := fRow f6.1.2.1 332 kR_228_332
  have e14 : hV H1 335 = hV H0 335 := fRow f6.1.2.1 335 kR_228_335
  have e16 : hV H2 285 15 = hV H1 285 15 := (f8.1.2.1.1 285 15 kF_220_285_15)
  have e23 : hV H4 285 11 = hV H3 285 11 := (uPlace f20 285 11 (iS (show n5 = ((305 : Nat) : Int) from f9) rfl))
  have e25 : hV H4 285 13 = hV H3 285 13 := (uPlace f20 285 13 (iS (show n5 = ((305 : Nat) : Int) from f9) rfl))
  have e27 : hV H4 285 15 = hV H3 285 15 := (uPlace f20 285 15 (iS (show n5 = ((305 : Nat) : Int) from f9) rfl))
  have e31 : hV H4 285 18 = hV H0 285 18 := ((uPlace f20 285 18 (iS (show n5 = ((305 : Nat) : Int) from f9) rfl))).trans (((f19.1.2.1.1 285 18 kF_223_285_18)).trans (((f8.1.2.1.1 285 18 kF_220_285_18)).trans (f6.1.2.1.1 285 18 kF_228_285_18)))
  have e35 : hV H4 285 32 = hV H0 285 32 := ((uPlace f20 285 32 (iS (show n5 = ((305 : Nat) : Int) from f9) rfl))).trans (((f19.1.2.1.1 285 32 kF_223_285_32)).trans (((f8.1.2.1.1 285 32 kF_220_285_32)).trans (f6.1.2.1.1 285 32 kF_228_285_32)))
  have e39 : hV H4 285 33 = hV H0 285 33 := ((uPlace f20 285 33 (iS (show n5 = ((305 : Nat) : Int) from f9) rfl))).trans (((f19.1.2.1.1 285 33 kF_223_285_33)).trans (((f8.1.2.1.1 285 33 kF_220_285_33)).trans (f6.1.2.1.1 285 33 kF_228_285_33)))
  have e43 : hV H4 285 64 = hV H0 285 64 := ((uPlace f20 285 64 (iS (show n5 = ((305 : Nat) : Int) from f9) rfl))).trans (((f19.1.2.1.1 285 64 kF_223_285_64)).trans (((f8.1.2.1.1 285 64 kF_220_285_64)).trans (f6.1.2.1.1 285 64 kF_228_285_64)))
  have e49 : hV H4 294 = hV H0 294 := (uRowNe f20 294 (iS (show n5 = ((305 : Nat) : Int) from f9) rfl)).trans ((fRow f19.1.2.1 294 kR_223_294).trans ((fRow f8.1.2.1 294 kR_220_294).trans e8))
  have e55 : hV H4 296 = hV H0 296 := (uRowNe f20 296 (iS (show n5 = ((305 : Nat) : Int) from f9) rfl)).trans ((fRow f19.1.2.1 296 kR_223_296).trans ((fRow f8.1.2.1 296 kR_220_296).trans e9))
  have e61 : hV H4 297 = hV H0 297 := (uRowNe f20 297 (iS (show n5 = ((305 : Nat) : Int) from f9) rfl)).trans ((fRow f19.1.2.1 297 kR_223_297).trans ((fRow f8.1.2.1 297 kR_220_297).trans e10))
  have e67 : hV H4 298 = hV H0 298 := (uRowNe f20 298 (iS (show n5 = ((305 : Nat) : Int) from f9) rfl)).trans ((fRow f19.1.2.1 298 kR_223_298).trans ((fRow f8.1.2.1 298 kR_220_298).trans e11))
  have e72 : hV H4 300 = hV H1 300 := (uRowNe f20 300 (iS (show n5 = ((305 : Nat) : Int) from f9) rfl)).trans ((fRow f19.1.2.1 300 kR_223_300).trans (fRow f8.1.2.1 300 kR_220_300))
  have e77 : hV H4 301 = hV H1 301 := (uRowNe f20 301 (iS (show n5 = ((305 : Nat) : Int) from f9) rfl)).trans ((fRow f19.1.2.1 301 kR_223_301).trans (fRow f8.1.2.1 301 kR_220_301))
  have e82 : hV H4 302 = hV H1 302 := (uRowNe f20 302 (iS (show n5 = ((305 : Nat) : Int) from f9) rfl)).trans ((fRow f19.1.2.1 302 kR_223_302).trans (fRow f8.1.2.1 302 kR_220_302))
  have e87 : hV H4 303 = hV H1 303 := (uRowNe f20 303 (iS (show n5 = ((305 : Nat) : Int) from f9) rfl)).trans ((fRow f19.1.2.1 303 kR_223_303).trans (fRow f8.1.2.1 303 kR_220_303))
  have e92 : hV H4 305 = (uF (hV H1 305) n9 n12) := (uRow f20 305 f9.symm).trans (congrArg (fun z => uF z n9 n12) ((fRow f19.1.2.1 305 kR_223_305).trans (fRow f8.1.2.1 305 kR_220_305)))
  have e98 : hV H4 328 = hV H0 328 := (uRowNe f20 328 (iS (show n5 = ((305 : Nat) : Int) from f9) rfl)).trans ((fRow f19.1.2.1 328 kR_223_328).trans ((fRow f8.1.2.1 328 kR_220_328).trans e12))
  have e104 : hV H4 332 = hV H0 332 := (uRowNe f20 332 (iS (show n5 = ((305 : Nat) : Int) from f9) rfl)).trans ((fRow f19.1.2.1 332 kR_223_332).trans ((fRow f8.1.2.1 332 kR_220_332).trans e13))
  have e110 : hV H4 335 = hV H0 335 := (uRowNe f20 335 (iS (show n5 = ((305 : Nat) : Int) from f9) rfl)).trans ((fRow f19.1.2.1 335 kR_223_335).trans ((fRow f8.1.2.1 335 kR_220_335).trans e14))
  have e111 : (0 : Int) ≤ hV H1 285 11 ∧ hV H1 285 11 ≤ 500 := f6.1.2.2 285 11 _ _ kW_285_11
  have e112 : (0 : Int) ≤ hV H1 285 13 ∧ hV H1 285 13 ≤ 2 := f6.1.2.2 285 13 _ _ kW_285_13
  have e113 : (0 : Int) ≤ hV H1 285 15 ∧ hV H1 285 15 ≤ 6 := f6.1.2.2 285 15 _ _ kW_285_15
  have e114 : (0 : Int) ≤ hV H0 285 18 ∧ hV H0 285 18 ≤ 8 := bTo e1 (f6.1.2.2 285 18 _ _ kW_285_18)
  have e115 : (0 : Int) ≤ hV H0 285 32 ∧ hV H0 285 32 ≤ 7 := bTo e3 (f6.1.2.2 285 32 _ _ kW_285_32)
  have e116 : (0 : Int) ≤ hV H0 285 33 ∧ hV H0 285 33 ≤ 62 := bTo e5 (f6.1.2.2 285 33 _ _ kW_285_33)
  have e117 : (0 : Int) ≤ hV H0 285 64 ∧ hV H0 285 64 ≤ 20 := bTo e7 (f6.1.2.2 285 64 _ _ kW_285_64)
  have e118 : (0 : Int) ≤ hV H2 285 11 ∧ hV H2 285 11 ≤ 500 := f8.1.2.2.2 285 11 _ _ kW_285_11
  have e119 : (0 : Int) ≤ hV H2 285 13 ∧ hV H2 285 13 ≤ 2 := f8.1.2.2.2 285 13 _ _ kW_285_13
  have e121 : (0 : Int) ≤ hV H3 285 11 ∧ hV H3 285 11 ≤ 500 := f19.1.2.2.2 285 11 _ _ kW_285_11
  have e122 : (0 : Int) ≤ hV H3 285 13 ∧ hV H3 285 13 ≤ 2 := f19.1.2.2.2 285 13 _ _ kW_285_13
  have e123 : (0 : Int) ≤ hV H3 285 15 ∧ hV H3 285 15 ≤ 6 := f19.1.2.2.2 285 15 _ _ kW_285_15
  try simp only [PA, PW]
  try simp only [e23, e25, e27, e31, e35, e39, e43, e49, e55, e61, e67, e72, e77, e82, e87, e92, e98, e104, e110]
  have k0 := g4.1
  have y0 := g4.2.1
  have y1 := g4.2.2.1
  have y2 := g4.2.2.2.1
  have y3 := g4.2.2.2.2.1
  have y4 := g4.2.2.2.2.2.1
  have y5 := g4.2.2.2.2.2.2.1
  have y6 := g4.2.2.2.2.2.2.2.1
  have y7 := g4.2.2.2.2.2.2.2.2.1
  have y8 := g4.2.2.2.2.2.2.2.2.2.1
  have y9 := g4.2.2.2.2.2.2.2.2.2.2.1
  have y10 := g4.2.2.2.2.2.2.2.2.2.2.2.1
  have y11 := g4.2.2.2.2.2.2.2.2.2.2.2.2.1
  have y12 := g4.2.2.2.2.2.2.2.2.2.2.2.2.2.1
  have y13 := g4.2.2.2.2.2.2.2.2.2.2.2.2.2.2
  have p0 := g3.1
  have p1 := g3.2.1
  have p2 := g3.2.2.1
  have p3 := g3.2.2.2.1
  have p4 := g3.2.2.2.2.1
  have p5 := g3.2.2.2.2.2.1
  have p6 := g3.2.2.2.2.2.2.1
  have p7 := g3.2.2.2.2.2.2.2
  have r0_0 := f8.2.1
  have r0_1 := f8.2.2.1
  have r0_2 := f8.2.2.2.1
  have r0_3 := f8.2.2.2.2.1
  have r1_0 := f19.2.1
  have r1_1 := f19.2.2.1
  have r1_2 := f19.2.2.2.1
  have r1_3 := f19.2.2.2.2.1
  have r1_4 := f19.2.2.2.2.2.1
  have r1_5 := f19.2.2.2.2.2.2.1
  have r1_6 := f19.2.2.2.2.2.2.2.1
  try simp only [PA] at y0
  try simp only [PW] at y1
  try simp only [PA] at p0
  try simp only [PW] at p5
  try simp only [e1, e7, e8, e9, e11, e12, e13, e14] at y0
  try simp only [e3, e5, e8, e9, e10, e11] at y1
  try simp only [e16] at r1_4
  clear g3
  clear g4
  have wb0 := (p7 (hV H0 285 32).toNat).1
  have wp0 := (p7 (hV H0 285 33).toNat).2
  try simp only [e1, e3, e5, e7, e8, e9, e10, e11, e12, e13, e14] at wb0
  try simp only [e1, e3, e5, e7, e8, e9, e10, e11, e12, e13, e14] at wp0
  clear f10 e1 e3 e5 e7 e8 e9 e10 e11 e12 e13 e14 e16 e23 e25 e27 e31 e35 e39 e43 e49 e55 e61 e67 e72 e77 e82 e87 e92 e98 e104 e110
  clear f6 f8 f19
  rw [f11] at f12
  first
  | (have ix0 : n7 = 6 * n0 := Eq.trans f12 (w32_iv (Iml 6 rfl (Iat f1 f0)) (by decide)); subst ix0; clear f12)
  | (have ix0 : n7 = 6 * n0 := Eq.trans f12 (w32_id (by omega) (by omega)); subst ix0; clear f12)
  | (unfold w32 at f12; have ix0 : n7 = 6 * n0 := (by omega); subst ix0)
  | skip
  first
  | (have ix1 : n9 = (6 * n0) + 5 := Eq.trans f14 (w32_iv (Iad (Iml 6 rfl (Iat f1 f0)) (IC 5)) (by decide)); subst ix1; clear f14)
  | (have ix1 : n9 = (6 * n0) + 5 := Eq.trans f14 (w32_id (by omega) (by omega)); subst ix1; clear f14)
  | (unfold w32 at f14; have ix1 : n9 = (6 * n0) + 5 := (by omega); subst ix1)
  | skip
  try unfold w32 at f12
  try unfold w32 at f14

  refine ⟨?_, ?_, ?_, ?_, ?_, ?_, ?_, ?_, ?_, ?_, ?_, ?_, ?_, ?_, ?_, ?_⟩
  · refine PA_cn ?_ (by omega)
    exact y0
  · intro z1 z2
    refine PW_cn ?_ (by omega) (by omega) (by omega) (by omega)
    exact y1 (by omega) (by omega)
  · (try clear y0 y1 p0 p5 p7)
    first | exact True.intro | omega
  · (try clear y0 y1 p0 p5 p7)
    first | exact True.intro | omega
  · (try clear y0 y1 p0 p5 p7)
    first | exact True.intro | omega
  · (try clear y0 y1 p0 p5 p7)
    first | exact True.intro | omega
  · (try clear y0 y1 p0 p5 p7)
    first | exact True.intro | omega
  · (try clear y0 y1 p0 p5 p7)
    first | exact True.intro | omega
  · (try clear y0 y1 p0 p5 p7)
    first | exact True.intro | omega
  · (try clear y0 y1 p0 p5 p7)
    first | exact True.intro | omega
  · (try clear y0 y1 p0 p5 p7)
    first | exact True.intro | omega
  · (try clear y0 y1 p0 p5 p7)
    first | exact True.intro | omega
  · (try clear y0 y1 p0 p5 p7)
    first | (simp only [uF_at]; omega) | omega
  · (try clear y0 y1 p0 p5 p7)
    first | (simp only [uF_at]; omega) | omega
  · (try clear y0 y1 p0 p5 p7)
    first | (simp only [uF_at]; omega) | omega
  · (try clear y0 y1 p0 p5 p7)
    first | (simp only [uF_at]; omega) | omega

def g_228_231_1 : vG := ([(80, [5, 9, 12], [4, 3], 0), (1223, [12, 2, 10, 11], [2, 3], 0), (90, [12], [], 0), (91, [12], [], 9999), (0, [11], [], 2), (0, [10], [], 0), (1, [9, 7, 8], [], 0), (0, [8], [], 5), (3, [7, 6, 3], [], 0), (0, [6], [], 6), (20, [5, 2], [2], 31), (0, [5], [], 305), (1220, [2, 4], [1, 2], 0), (0, [4], [], 30), (5000, [0, 1, 2, 3], [0, 1], 231), (0, [0], [], 285), (90, [1], [], 0), (91, [1], [], 1007), (0, [2], [], 285), (90, [3], [], 0), (91, [3], [], 1007)], (3000, [], [4], 254))
theorem c_228_231_1 {q0 : Nat} : vOkm T0 (eP e_228 L_228 A_228 mu_228 (some q0)) 2 g_228_231_1 := vOk_inI fun ρ η f0 f1 f2 f3 f4 f5 f6 f7 f8 f9 f10 f11 f12 f13 f14 f15 f16 f17 f18 f19 f20 => q_228_20 (q0 := q0) (n0 := ρ 3) (n1 := ρ 2) (n2 := ρ 1) (n3 := ρ 0) (n4 := ρ 4) (n5 := ρ 5) (n6 := ρ 6) (n7 := ρ 7) (n8 := ρ 8) (n9 := ρ 9) (n10 := ρ 10) (n11 := ρ 11) (n12 := ρ 12) (H0 := η 0) (H1 := η 1) (H2 := η 2) (H3 := η 3) (H4 := η 4) f20 f19 f18 f17 f16 f15 f14 f13 f12 f11 f10 f9 f8 f7 f6 f5 f4 f3 f2 f1 f0
def p_228_231 : List vG := [g_228_231_0,
  g_228_231_1]
theorem r_228_231 : vCovO false (eRc e_228 L_228 cs_228 2000 (231, [(0, (3, 12, 285, 0)), (1, (0, 0, 1007, 0))])) p_228_231 = true := by decide +kernel
theorem m_228 (d : Nat) : eC e_228 (d + 6) := eC_ok (e := e_228) (L := L_228) (cs := cs_228) (n := 2000) (d := d + 5) (A := A_228) (μ := mu_228) (tp := false) (p0 := p_228_s) rfl ⟨m_216 (d + 4), ⟨m_219 (d + 3), ⟨m_220 (d + 2), ⟨m_223 (d + 1), ⟨m_229 d, trivial⟩⟩⟩⟩⟩ rfl (.inl rfl) (by decide +kernel) (fun z => nomatch z) r_228_s (allC c_228_s_0 (allC c_228_s_1 (allC c_228_s_2 (allC c_228_s_3 (allC c_228_s_4 (allC c_228_s_5 (allC c_228_s_6 (allC c_228_s_7 (allC c_228_s_8 allN))))))))) (allC (.inl ⟨p_228_113, r_228_113, fun q0 => (allC c_228_113_0 (allC c_228_113_1 (allC c_228_113_2 allN)))⟩) (allC (.inl ⟨p_228_144, r_228_144, fun q0 => (allC c_228_144_0 (allC c_228_144_1 (allC c_228_144_2 allN)))⟩) (allC (.inl ⟨p_228_176, r_228_176, fun q0 => (allC c_228_176_0 (allC c_228_176_1 (allC c_228_176_2 (allC c_228_176_3 allN))))⟩) (allC (.inl ⟨p_228_231, r_228_231, fun q0 => (allC c_228_231_0 (allC c_228_231_1 allN))⟩) allN))))
