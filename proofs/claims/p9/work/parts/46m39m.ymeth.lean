/-! CONTRACTS of methods (printed by wip/gen/emit.py). -/
/- MixStageModel.tellCue ()V -/
noncomputable def s_227 : vM := ([(3, 12, 285, 0)], (9, 0, 0, 0), 1, 0, [(12, 11), (12, 13), (12, 14), (12, 15), (12, 16), (196, 0), (204, 0), (212, 0), (220, 0), (228, 0), (236, 0), (244, 0), (252, 0), (260, 0), (268, 0)])
def preb_227 (a0 : Int) (h : gH) : Prop := PA h ∧ hV h 285 32 = hV h 285 18 ∧ hV h 285 18 ≤ 7 ∧ 7 * hV h 285 32 + hV h 294 ((hV h 285 32).toNat) ≤ hV h 285 33 ∧ hV h 285 33 ≤ 7 * hV h 285 32 + 6 ∧ (hV h 285 13 = 0 → hV h 285 15 = 0 → PW h) ∧ PQ h
def pre_227 : List Int → gH → Prop := fun xs h => match xs with
  | [a0] => preb_227 a0 h
  | _ => False
def postb_227 (a0 : Int) (h0 h : gH) : Prop := PA h ∧ (hV h 285 13 = 0 → hV h 285 15 = 0 → PW h) ∧ PQ h ∧ hV h0 285 11 ≤ hV h 285 11 ∧ hV h0 285 11 + 1 ≤ hV h 285 11 + hV h 285 13 ∧ hV h0 285 13 ≤ hV h 285 13 ∧ hV h0 285 15 ≤ 6 * hV h 285 15 ∧ hV h0 285 15 ≤ 6
def post_227 : List Int → gH → gH → Prop := fun xs h0 h => match xs with
  | [a0] => postb_227 a0 h0 h
  | _ => True
noncomputable def e_227 : vE := (227, s_227, pre_227, post_227)
noncomputable def L_227 : List vE := [e_216, e_217, e_218, e_219, e_220, e_223, e_228, e_229, e_230]
def cs_227 : List vC := [(80, [(0, (3, 12, 285, 0)), (1, (0, -1, 5, 0))]), (120, [(0, (3, 12, 285, 0)), (1, (0, 0, 5, 0))]), (180, [(0, (3, 12, 285, 0)), (1, (0, 0, 5, 0)), (2, (0, 0, 1007, 0)), (3, (0, 1, 1, 0))]), (471, [(0, (3, 12, 285, 0)), (1, (0, 0, 5, 0)), (2, (0, 0, 1007, 0)), (3, (0, 1, 1, 0)), (4, (0, 0, 500, 0)), (5, (0, -1, 5, 0))]), (567, [(0, (3, 12, 285, 0)), (1, (0, -2147483648, 2147483647, 0)), (2, (0, 0, 1007, 0)), (3, (0, 0, 1000, 0))])]
def Ab_227_80 (a0 x0 x1 : Int) (h0 h : gH) : Prop := PA h ∧ (hV h 285 13 = 0 → hV h 285 15 = 0 → PW h) ∧ PQ h ∧ hV h 285 11 = hV h0 285 11 ∧ hV h 285 13 = hV h0 285 13 ∧ hV h 285 15 = hV h0 285 15
def mub_227_80 (a0 x0 x1 : Int) (h0 h : gH) : Nat := 5000
def Ab_227_120 (a0 x0 x1 : Int) (h0 h : gH) : Prop := PA h ∧ (hV h 285 13 = 0 → hV h 285 15 = 0 → PW h) ∧ PQ h ∧ hV h 285 11 = hV h0 285 11 ∧ hV h 285 13 = hV h0 285 13 ∧ hV h 285 15 = hV h0 285 15 ∧ hV h 285 13 = 0 ∧ hV h 296 ((hV h 285 33).toNat) ≤ 15
def mub_227_120 (a0 x0 x1 : Int) (h0 h : gH) : Nat := 4000
def Ab_227_180 (a0 x0 x1 x2 x3 : Int) (h0 h : gH) : Prop := PA h ∧ (hV h 285 13 = 0 → hV h 285 15 = 0 → PW h) ∧ PQ h ∧ hV h0 285 11 ≤ hV h 285 11 ∧ hV h0 285 11 + 1 ≤ hV h 285 11 + hV h 285 13 ∧ hV h0 285 13 ≤ hV h 285 13 ∧ hV h0 285 15 ≤ 6 * hV h 285 15 ∧ hV h0 285 15 ≤ 6 ∧ x2 = 16 * hV h 285 33 + hV h 296 ((hV h 285 33).toNat) ∧ hV h 296 ((hV h 285 33).toNat) ≤ 15 ∧ hV h 298 ((x2).toNat) = x1 ∧ hV h 301 ((x2).toNat) = -1 ∧ hV h 303 ((x2).toNat) = -1 ∧ x3 = 1
def mub_227_180 (a0 x0 x1 x2 x3 : Int) (h0 h : gH) : Nat := 3000
def Ab_227_471 (a0 x0 x1 x2 x3 x4 x5 : Int) (h0 h : gH) : Prop := PA h ∧ (hV h 285 13 = 0 → hV h 285 15 = 0 → PW h) ∧ PQ h ∧ hV h0 285 11 ≤ hV h 285 11 ∧ hV h0 285 11 + 1 ≤ hV h 285 11 + hV h 285 13 ∧ hV h0 285 13 ≤ hV h 285 13 ∧ hV h0 285 15 ≤ 6 * hV h 285 15 ∧ hV h0 285 15 ≤ 6 ∧ hV h 285 13 = 0 ∧ x5 < hV h 294 ((hV h 285 32).toNat) ∧ x2 = 16 * hV h 285 33 + hV h 296 ((hV h 285 33).toNat) ∧ hV h 296 ((hV h 285 33).toNat) ≤ 15 ∧ x3 = 1 ∧ hV h 298 ((x2).toNat) = 5 ∧ hV h 301 ((x2).toNat) ≤ 7 + 9999 * (hV h 285 13 + hV h 285 15) ∧ -60 - 9999 * (hV h 285 13 + hV h 285 15) ≤ hV h 302 ((x2).toNat) ∧ hV h 302 ((x2).toNat) ≤ 60 + 9999 * (hV h 285 13 + hV h 285 15) ∧ -1 ≤ hV h 300 ((x2).toNat) ∧ hV h 300 ((x2).toNat) < hV h 294 ((hV h 285 32).toNat)
def mub_227_471 (a0 x0 x1 x2 x3 x4 x5 : Int) (h0 h : gH) : Nat := 2000 + (x5 + 1).toNat
def Ab_227_567 (a0 x0 x1 x2 x3 : Int) (h0 h : gH) : Prop := PA h ∧ (hV h 285 13 = 0 → hV h 285 15 = 0 → PW h) ∧ PQ h ∧ (hV h 285 13 = 0 → hV h 285 15 = 0 → WNp (hV h 294) (hV h 297) (hV h 298) (hV h 300) (hV h 301) (hV h 302) (hV h 303) (hV h 305) (hV h 285 32) (x2).toNat x3) ∧ hV h0 285 11 ≤ hV h 285 11 ∧ hV h0 285 11 + 1 ≤ hV h 285 11 + hV h 285 13 ∧ hV h0 285 13 ≤ hV h 285 13 ∧ hV h0 285 15 ≤ 6 * hV h 285 15 ∧ hV h0 285 15 ≤ 6 ∧ x2 = 16 * hV h 285 33 + hV h 296 ((hV h 285 33).toNat) ∧ hV h 296 ((hV h 285 33).toNat) ≤ 15
def mub_227_567 (a0 x0 x1 x2 x3 : Int) (h0 h : gH) : Nat := 0
def A_227 : Int → List Int → gH → gH → Prop := fun c xs h0 h => match c.toNat with
  | 80 => PA h ∧ (hV h 285 13 = 0 → hV h 285 15 = 0 → PW h) ∧ PQ h ∧ hV h 285 11 = hV h0 285 11 ∧ hV h 285 13 = hV h0 285 13 ∧ hV h 285 15 = hV h0 285 15
  | 120 => PA h ∧ (hV h 285 13 = 0 → hV h 285 15 = 0 → PW h) ∧ PQ h ∧ hV h 285 11 = hV h0 285 11 ∧ hV h 285 13 = hV h0 285 13 ∧ hV h 285 15 = hV h0 285 15 ∧ hV h 285 13 = 0 ∧ hV h 296 ((hV h 285 33).toNat) ≤ 15
  | 180 => (match xs with
    | [a0, x0, x1, x2, x3] => Ab_227_180 a0 x0 x1 x2 x3 h0 h
    | _ => False)
  | 471 => (match xs with
    | [a0, x0, x1, x2, x3, x4, x5] => Ab_227_471 a0 x0 x1 x2 x3 x4 x5 h0 h
    | _ => False)
  | 567 => (match xs with
    | [a0, x0, x1, x2, x3] => Ab_227_567 a0 x0 x1 x2 x3 h0 h
    | _ => False)
  | _ => True
def mu_227 : Int → List Int → gH → gH → Nat := fun c xs h0 h => match c.toNat with
  | 80 => 5000
  | 120 => 4000
  | 180 => 3000
  | 471 => (match xs with
    | [a0, x0, x1, x2, x3, x4, x5] => mub_227_471 a0 x0 x1 x2 x3 x4 x5 h0 h
    | _ => 0)
  | 567 => 0
  | _ => 0
set_option maxHeartbeats 20000000 in
theorem q_227_0 {n0 n1 n2 n3 n4 n5 n6 n7 n8 n9 n10 n11 n12 n13 : Int} {H0 H1 H2 H3 H4 H5 H6 : gH} (f0 : n0 = 285) (f1 : hWt T0 H0 ∧ preb_227 n0 H0) (f2 : n1 = 24) (f3 : n2 ≤ 1) (f4 : 0 ≤ n2) (f5 : (hLe T0 H0 H1 ∧ hFr s_216.2.2.2.2 H0 H1 ∧ ((0 : Int) = 0 → H1.length = H0.length) ∧ hWt T0 H1) ∧ postb_216 n2 n0 n1 H0 H1) (f6 : n2 = 0) (f7 : n3 = 31) (f8 : n4 ≤ 1) (f9 : 0 ≤ n4) (f10 : (hLe T0 H1 H2 ∧ hFr s_216.2.2.2.2 H1 H2 ∧ ((0 : Int) = 0 → H2.length = H1.length) ∧ hWt T0 H2) ∧ postb_216 n4 n0 n3 H1 H2) (f11 : n4 = 0) (f12 : n5 = 33) (f13 : n6 ≤ 1) (f14 : 0 ≤ n6) (f15 : (hLe T0 H2 H3 ∧ hFr s_216.2.2.2.2 H2 H3 ∧ ((0 : Int) = 0 → H3.length = H2.length) ∧ hWt T0 H3) ∧ postb_216 n6 n0 n5 H2 H3) (f16 : n6 = 0) (f17 : n7 = 37) (f18 : n8 ≤ 1) (f19 : 0 ≤ n8) (f20 : (hLe T0 H3 H4 ∧ hFr s_216.2.2.2.2 H3 H4 ∧ ((0 : Int) = 0 → H4.length = H3.length) ∧ hWt T0 H4) ∧ postb_216 n8 n0 n7 H3 H4) (f21 : n8 = 0) (f22 : n9 = 39) (f23 : n10 ≤ 1) (f24 : 0 ≤ n10) (f25 : (hLe T0 H4 H5 ∧ hFr s_216.2.2.2.2 H4 H5 ∧ ((0 : Int) = 0 → H5.length = H4.length) ∧ hWt T0 H5) ∧ postb_216 n10 n0 n9 H4 H5) (f26 : n10 = 0) (f27 : n11 = 40) (f28 : n12 ≤ 1) (f29 : 0 ≤ n12) (f30 : (hLe T0 H5 H6 ∧ hFr s_216.2.2.2.2 H5 H6 ∧ ((0 : Int) = 0 → H6.length = H5.length) ∧ hWt T0 H6) ∧ postb_216 n12 n0 n11 H5 H6) (f31 : n12 = 0) (f32 : n13 = (-1)) : Ab_227_80 n0 n0 n13 H0 H6 ∧ ∀ q, none = some q → mub_227_80 n0 n0 n13 H0 H6 < q := by
  unfold preb_227 at f1
  unfold postb_216 at f5
  unfold postb_216 at f10
  unfold postb_216 at f15
  unfold postb_216 at f20
  unfold postb_216 at f25
  unfold postb_216 at f30
  unfold Ab_227_80
  have e3 : hV H1 285 13 = hV H0 285 13 := (f5.1.2.1.1 285 13 kF_216_285_13)
  have e8 : hV H2 285 13 = hV H0 285 13 := ((f10.1.2.1.1 285 13 kF_216_285_13)).trans (f5.1.2.1.1 285 13 kF_216_285_13)
  have e14 : hV H3 285 13 = hV H0 285 13 := ((f15.1.2.1.1 285 13 kF_216_285_13)).trans (((f10.1.2.1.1 285 13 kF_216_285_13)).trans (f5.1.2.1.1 285 13 kF_216_285_13))
  have e20 : hV H4 285 13 = hV H0 285 13 := ((f20.1.2.1.1 285 13 kF_216_285_13)).trans (((f15.1.2.1.1 285 13 kF_216_285_13)).trans (((f10.1.2.1.1 285 13 kF_216_285_13)).trans (f5.1.2.1.1 285 13 kF_216_285_13)))
  have e26 : hV H5 285 13 = hV H0 285 13 := ((f25.1.2.1.1 285 13 kF_216_285_13)).trans (((f20.1.2.1.1 285 13 kF_216_285_13)).trans (((f15.1.2.1.1 285 13 kF_216_285_13)).trans (((f10.1.2.1.1 285 13 kF_216_285_13)).trans (f5.1.2.1.1 285 13 kF_216_285_13))))
  have e30 : hV H6 285 11 = hV H0 285 11 := ((f30.1.2.1.1 285 11 kF_216_285_11)).trans (((f25.1.2.1.1 285 11 kF_216_285_11)).trans (((f20.1.2.1.1 285 11 kF_216_285_11)).trans (((f15.1.2.1.1 285 11 kF_216_285_11)).trans (((f10.1.2.1.1 285 11 kF_216_285_11)).trans (f5.1.2.1.1 285 11 kF_216_285_11)))))
  have e32 : hV H6 285 13 = hV H0 285 13 := ((f30.1.2.1.1 285 13 kF_216_285_13)).trans (((f25.1.2.1.1 285 13 kF_216_285_13)).trans (((f20.1.2.1.1 285 13 kF_216_285_13)).trans (((f15.1.2.1.1 285 13 kF_216_285_13)).trans (((f10.1.2.1.1 285 13 kF_216_285_13)).trans (f5.1.2.1.1 285 13 kF_216_285_13)))))
  have e39 : hV H6 285 15 = hV H0 285 15 := ((f30.1.2.1.1 285 15 kF_216_285_15)).trans (((f25.1.2.1.1 285 15 kF_216_285_15)).trans (((f20.1.2.1.1 285 15 kF_216_285_15)).trans (((f15.1.2.1.1 285 15 kF_216_285_15)).trans (((f10.1.2.1.1 285 15 kF_216_285_15)).trans (f5.1.2.1.1 285 15 kF_216_285_15)))))
  have e42 : PA H1 = PA H0 := PA_fr f5.1.2.1 (by decide +kernel)
  have e43 : PA H2 = PA H1 := PA_fr f10.1.2.1 (by decide +kernel)
  have e44 : PA H2 = PA H0 := e43.trans e42
  have e45 : PA H3 = PA H2 := PA_fr f15.1.2.1 (by decide +kernel)
  have e46 : PA H3 = PA H0 := e45.trans e44
  have e47 : PA H4 = PA H3 := PA_fr f20.1.2.1 (by decide +kernel)
  have e48 : PA H4 = PA H0 := e47.trans e46
  have e49 : PA H5 = PA H4 := PA_fr f25.1.2.1 (by decide +kernel)
  have e50 : PA H5 = PA H0 := e49.trans e48
  have e51 : PA H6 = PA H5 := PA_fr f30.1.2.1 (by decide +kernel)
  have e52 : PA H6 = PA H0 := e51.trans e50
  have e53 : PQ H1 = PQ H0 := PQ_fr f5.1.2.1 (by decide +kernel)
  have e54 : PQ H2 = PQ H1 := PQ_fr f10.1.2.1 (by decide +kernel)
  have e55 : PQ H2 = PQ H0 := e54.trans e53
  have e56 : PQ H3 = PQ H2 := PQ_fr f15.1.2.1 (by decide +kernel)
  have e57 : PQ H3 = PQ H0 := e56.trans e55
  have e58 : PQ H4 = PQ H3 := PQ_fr f20.1.2.1 (by decide +kernel)
  have e59 : PQ H4 = PQ H0 := e58.trans e57
  have e60 : PQ H5 = PQ H4 := PQ_fr f25.1.2.1 (by decide +kernel)
  have e61 : PQ H5 = PQ H0 := e60.trans e59
  have e62 : PQ H6 = PQ H5 := PQ_fr f30.1.2.1 (by decide +kernel)
  have e63 : PQ H6 = PQ H0 := e62.trans e61
  have e64 : PW H1 = PW H0 := PW_fr f5.1.2.1 (by decide +kernel)
  have e65 : PW H2 = PW H1 := PW_fr f10.1.2.1 (by decide +kernel)
  have e66 : PW H2 = PW H0 := e65.trans e64
  have e67 : PW H3 = PW H2 := PW_fr f15.1.2.1 (by decide +kernel)
  have e68 : PW H3 = PW H0 := e67.trans e66
  have e69 : PW H4 = PW H3 := PW_fr f20.1.2.1 (by decide +kernel)
  have e70 : PW H4 = PW H0 := e69.trans e68
  have e71 : PW H5 = PW H4 := PW_fr f25.1.2.1 (by decide +kernel)
  have e72 : PW H5 = PW H0 := e71.trans e70
  have e73 : PW H6 = PW H5 := PW_fr f30.1.2.1 (by decide +kernel)
  have e74 : PW H6 = PW H0 := e73.trans e72
  have e75 : (0 : Int) ≤ hV H0 285 11 ∧ hV H0 285 11 ≤ 500 := f1.1 285 11 _ _ kW_285_11
  have e76 : (0 : Int) ≤ hV H0 285 13 ∧ hV H0 285 13 ≤ 2 := f1.1 285 13 _ _ kW_285_13
  have e77 : (0 : Int) ≤ hV H0 285 15 ∧ hV H0 285 15 ≤ 6 := f1.1 285 15 _ _ kW_285_15
  have e78 : (0 : Int) ≤ hV H0 285 18 ∧ hV H0 285 18 ≤ 8 := f1.1 285 18 _ _ kW_285_18
  have e79 : (0 : Int) ≤ hV H0 285 32 ∧ hV H0 285 32 ≤ 7 := f1.1 285 32 _ _ kW_285_32
  have e80 : (0 : Int) ≤ hV H0 285 33 ∧ hV H0 285 33 ≤ 62 := f1.1 285 33 _ _ kW_285_33
  try simp only [e30, e32, e39, e52, e63, e74]
  have p0 := f1.2.1
  have p1 := f1.2.2.1
  have p2 := f1.2.2.2.1
  have p3 := f1.2.2.2.2.1
  have p4 := f1.2.2.2.2.2.1
  have p5 := f1.2.2.2.2.2.2.1
  have p6 := f1.2.2.2.2.2.2.2
  have r0_0 := f5.2.1
  have r1_0 := f10.2.1
  have r2_0 := f15.2.1
  have r3_0 := f20.2.1
  have r4_0 := f25.2.1
  have r5_0 := f30.2.1
  try simp only [e3] at r0_0
  try simp only [e8] at r1_0
  try simp only [e14] at r2_0
  try simp only [e20] at r3_0
  try simp only [e26] at r4_0
  try simp only [e32] at r5_0
  have wb0 := (p6 (hV H0 285 32).toNat).1
  have wp0 := (p6 (hV H0 285 33).toNat).2
  clear e3 e8 e14 e20 e26 e30 e32 e39 e42 e43 e44 e45 e46 e47 e48 e49 e50 e51 e52 e53 e54 e55 e56 e57 e58 e59 e60 e61 e62 e63 e64 e65 e66 e67 e68 e69 e70 e71 e72 e73 e74
  clear f1 f5 f10 f15 f20 f25 f30

  refine ⟨⟨?_, ?_, ?_, ?_⟩, fun q hq => ?_⟩
  · exact p0
  · intro z1 z2
    exact p5 (by omega) (by omega)
  · exact p6
  · (try clear p0 p5 p6)
    first
    | omega
    | (refine ⟨?_, ?_, ?_⟩ <;> first | exact True.intro | omega)
  · exact nomatch hq
def g_227_s_0 : vG := ([(0, [13], [], -1), (30, [12], [], 0), (1216, [12, 0, 11], [5, 6], 0), (90, [12], [], 0), (91, [12], [], 1), (0, [11], [], 40), (30, [10], [], 0), (1216, [10, 0, 9], [4, 5], 0), (90, [10], [], 0), (91, [10], [], 1), (0, [9], [], 39), (30, [8], [], 0), (1216, [8, 0, 7], [3, 4], 0), (90, [8], [], 0), (91, [8], [], 1), (0, [7], [], 37), (30, [6], [], 0), (1216, [6, 0, 5], [2, 3], 0), (90, [6], [], 0), (91, [6], [], 1), (0, [5], [], 33), (30, [4], [], 0), (1216, [4, 0, 3], [1, 2], 0), (90, [4], [], 0), (91, [4], [], 1), (0, [3], [], 31), (30, [2], [], 0), (1216, [2, 0, 1], [0, 1], 0), (90, [2], [], 0), (91, [2], [], 1), (0, [1], [], 24), (6000, [0], [0], 0), (0, [0], [], 285)], (4000, [0, 13], [6], 80))
theorem c_227_s_0 : vOkm T0 (eP e_227 L_227 A_227 mu_227 none) 1 g_227_s_0 := vOk_inI fun ρ η f0 f1 f2 f3 f4 f5 f6 f7 f8 f9 f10 f11 f12 f13 f14 f15 f16 f17 f18 f19 f20 f21 f22 f23 f24 f25 f26 f27 f28 f29 f30 f31 f32 => q_227_0 (n0 := ρ 0) (n1 := ρ 1) (n2 := ρ 2) (n3 := ρ 3) (n4 := ρ 4) (n5 := ρ 5) (n6 := ρ 6) (n7 := ρ 7) (n8 := ρ 8) (n9 := ρ 9) (n10 := ρ 10) (n11 := ρ 11) (n12 := ρ 12) (n13 := ρ 13) (H0 := η 0) (H1 := η 1) (H2 := η 2) (H3 := η 3) (H4 := η 4) (H5 := η 5) (H6 := η 6) f32 f31 f30 f29 f28 f27 f26 f25 f24 f23 f22 f21 f20 f19 f18 f17 f16 f15 f14 f13 f12 f11 f10 f9 f8 f7 f6 f5 f4 f3 f2 f1 f0
set_option maxHeartbeats 20000000 in
theorem q_227_1 {n0 n1 n2 n3 n4 n5 n6 n7 n8 n9 n10 n11 n12 n13 : Int} {H0 H1 H2 H3 H4 H5 H6 : gH} (f0 : n0 = 285) (f1 : hWt T0 H0 ∧ preb_227 n0 H0) (f2 : n1 = 24) (f3 : n2 ≤ 1) (f4 : 0 ≤ n2) (f5 : (hLe T0 H0 H1 ∧ hFr s_216.2.2.2.2 H0 H1 ∧ ((0 : Int) = 0 → H1.length = H0.length) ∧ hWt T0 H1) ∧ postb_216 n2 n0 n1 H0 H1) (f6 : n2 = 0) (f7 : n3 = 31) (f8 : n4 ≤ 1) (f9 : 0 ≤ n4) (f10 : (hLe T0 H1 H2 ∧ hFr s_216.2.2.2.2 H1 H2 ∧ ((0 : Int) = 0 → H2.length = H1.length) ∧ hWt T0 H2) ∧ postb_216 n4 n0 n3 H1 H2) (f11 : n4 = 0) (f12 : n5 = 33) (f13 : n6 ≤ 1) (f14 : 0 ≤ n6) (f15 : (hLe T0 H2 H3 ∧ hFr s_216.2.2.2.2 H2 H3 ∧ ((0 : Int) = 0 → H3.length = H2.length) ∧ hWt T0 H3) ∧ postb_216 n6 n0 n5 H2 H3) (f16 : n6 = 0) (f17 : n7 = 37) (f18 : n8 ≤ 1) (f19 : 0 ≤ n8) (f20 : (hLe T0 H3 H4 ∧ hFr s_216.2.2.2.2 H3 H4 ∧ ((0 : Int) = 0 → H4.length = H3.length) ∧ hWt T0 H4) ∧ postb_216 n8 n0 n7 H3 H4) (f21 : n8 = 0) (f22 : n9 = 39) (f23 : n10 ≤ 1) (f24 : 0 ≤ n10) (f25 : (hLe T0 H4 H5 ∧ hFr s_216.2.2.2.2 H4 H5 ∧ ((0 : Int) = 0 → H5.length = H4.length) ∧ hWt T0 H5) ∧ postb_216 n10 n0 n9 H4 H5) (f26 : n10 = 0) (f27 : n11 = 40) (f28 : n12 ≤ 1) (f29 : 0 ≤ n12) (f30 : (hLe T0 H5 H6 ∧ hFr s_216.2.2.2.2 H5 H6 ∧ ((0 : Int) = 0 → H6.length = H5.length) ∧ hWt T0 H6) ∧ postb_216 n12 n0 n11 H5 H6) (f31 : n12 ≠ 0) (f32 : n13 = 5) : Ab_227_80 n0 n0 n13 H0 H6 ∧ ∀ q, none = some q → mub_227_80 n0 n0 n13 H0 H6 < q := by
  unfold preb_227 at f1
  unfold postb_216 at f5
  unfold postb_216 at f10
  unfold postb_216 at f15
  unfold postb_216 at f20
  unfold postb_216 at f25
  unfold postb_216 at f30
  unfold Ab_227_80
  have e3 : hV H1 285 13 = hV H0 285 13 := (f5.1.2.1.1 285 13 kF_216_285_13)
  have e8 : hV H2 285 13 = hV H0 285 13 := ((f10.1.2.1.1 285 13 kF_216_285_13)).trans (f5.1.2.1.1 285 13 kF_216_285_13)
  have e14 : hV H3 285 13 = hV H0 285 13 := ((f15.1.2.1.1 285 13 kF_216_285_13)).trans (((f10.1.2.1.1 285 13 kF_216_285_13)).trans (f5.1.2.1.1 285 13 kF_216_285_13))
  have e20 : hV H4 285 13 = hV H0 285 13 := ((f20.1.2.1.1 285 13 kF_216_285_13)).trans (((f15.1.2.1.1 285 13 kF_216_285_13)).trans (((f10.1.2.1.1 285 13 kF_216_285_13)).trans (f5.1.2.1.1 285 13 kF_216_285_13)))
  have e24 : hV H5 285 11 = hV H0 285 11 := ((f25.1.2.1.1 285 11 kF_216_285_11)).trans (((f20.1.2.1.1 285 11 kF_216_285_11)).trans (((f15.1.2.1.1 285 11 kF_216_285_11)).trans (((f10.1.2.1.1 285 11 kF_216_285_11)).trans (f5.1.2.1.1 285 11 kF_216_285_11))))
  have e26 : hV H5 285 13 = hV H0 285 13 := ((f25.1.2.1.1 285 13 kF_216_285_13)).trans (((f20.1.2.1.1 285 13 kF_216_285_13)).trans (((f15.1.2.1.1 285 13 kF_216_285_13)).trans (((f10.1.2.1.1 285 13 kF_216_285_13)).trans (f5.1.2.1.1 285 13 kF_216_285_13))))
  have e28 : hV H5 288 = hV H0 288 := (fRow f25.1.2.1 288 kR_216_288).trans ((fRow f20.1.2.1 288 kR_216_288).trans ((fRow f15.1.2.1 288 kR_216_288).trans ((fRow f10.1.2.1 288 kR_216_288).trans (fRow f5.1.2.1 288 kR_216_288))))
  have e30 : hV H6 285 11 = hV H0 285 11 := ((f30.1.2.1.1 285 11 kF_216_285_11)).trans (((f25.1.2.1.1 285 11 kF_216_285_11)).trans (((f20.1.2.1.1 285 11 kF_216_285_11)).trans (((f15.1.2.1.1 285 11 kF_216_285_11)).trans (((f10.1.2.1.1 285 11 kF_216_285_11)).trans (f5.1.2.1.1 285 11 kF_216_285_11)))))
  have e32 : hV H6 285 13 = hV H0 285 13 := ((f30.1.2.1.1 285 13 kF_216_285_13)).trans (((f25.1.2.1.1 285 13 kF_216_285_13)).trans (((f20.1.2.1.1 285 13 kF_216_285_13)).trans (((f15.1.2.1.1 285 13 kF_216_285_13)).trans (((f10.1.2.1.1 285 13 kF_216_285_13)).trans (f5.1.2.1.1 285 13 kF_216_285_13)))))
  have e39 : hV H6 285 15 = hV H0 285 15 := ((f30.1.2.1.1 285 15 kF_216_285_15)).trans (((f25.1.2.1.1 285 15 kF_216_285_15)).trans (((f20.1.2.1.1 285 15 kF_216_285_15)).trans (((f15.1.2.1.1 285 15 kF_216_285_15)).trans (((f10.1.2.1.1 285 15 kF_216_285_15)).trans (f5.1.2.1.1 285 15 kF_216_285_15)))))
  have e41 : hV H6 288 = hV H0 288 := (fRow f30.1.2.1 288 kR_216_288).trans e28
  have e42 : PA H1 = PA H0 := PA_fr f5.1.2.1 (by decide +kernel)
  have e43 : PA H2 = PA H1 := PA_fr f10.1.2.1 (by decide +kernel)
  have e44 : PA H2 = PA H0 := e43.trans e42
  have e45 : PA H3 = PA H2 := PA_fr f15.1.2.1 (by decide +kernel)
  have e46 : PA H3 = PA H0 := e45.trans e44
  have e47 : PA H4 = PA H3 := PA_fr f20.1.2.1 (by decide +kernel)
  have e48 : PA H4 = PA H0 := e47.trans e46
  have e49 : PA H5 = PA H4 := PA_fr f25.1.2.1 (by decide +kernel)
  have e50 : PA H5 = PA H0 := e49.trans e48
  have e51 : PA H6 = PA H5 := PA_fr f30.1.2.1 (by decide +kernel)
  have e52 : PA H6 = PA H0 := e51.trans e50
  have e53 : PQ H1 = PQ H0 := PQ_fr f5.1.2.1 (by decide +kernel)
  have e54 : PQ H2 = PQ H1 := PQ_fr f10.1.2.1 (by decide +kernel)
  have e55 : PQ H2 = PQ H0 := e54.trans e53
  have e56 : PQ H3 = PQ H2 := PQ_fr f15.1.2.1 (by decide +kernel)
  have e57 : PQ H3 = PQ H0 := e56.trans e55
  have e58 : PQ H4 = PQ H3 := PQ_fr f20.1.2.1 (by decide +kernel)
  have e59 : PQ H4 = PQ H0 := e58.trans e57
  have e60 : PQ H5 = PQ H4 := PQ_fr f25.1.2.1 (by decide +kernel)
  have e61 : PQ H5 = PQ H0 := e60.trans e59
  have e62 : PQ H6 = PQ H5 := PQ_fr f30.1.2.1 (by decide +kernel)
  have e63 : PQ H6 = PQ H0 := e62.trans e61
  have e64 : PW H1 = PW H0 := PW_fr f5.1.2.1 (by decide +kernel)
  have e65 : PW H2 = PW H1 := PW_fr f10.1.2.1 (by decide +kernel)
  have e66 : PW H2 = PW H0 := e65.trans e64
  have e67 : PW H3 = PW H2 := PW_fr f15.1.2.1 (by decide +kernel)
  have e68 : PW H3 = PW H0 := e67.trans e66
  have e69 : PW H4 = PW H3 := PW_fr f20.1.2.1 (by decide +kernel)
  have e70 : PW H4 = PW H0 := e69.trans e68
  have e71 : PW H5 = PW H4 := PW_fr f25.1.2.1 (by decide +kernel)
  have e72 : PW H5 = PW H0 := e71.trans e70
  have e73 : PW H6 = PW H5 := PW_fr f30.1.2.1 (by decide +kernel)
  have e74 : PW H6 = PW H0 := e73.trans e72
  have e75 : (0 : Int) ≤ hV H0 285 11 ∧ hV H0 285 11 ≤ 500 := f1.1 285 11 _ _ kW_285_11
  have e76 : (0 : Int) ≤ hV H0 285 13 ∧ hV H0 285 13 ≤ 2 := f1.1 285 13 _ _ kW_285_13
  have e77 : (0 : Int) ≤ hV H0 285 15 ∧ hV H0 285 15 ≤ 6 := f1.1 285 15 _ _ kW_285_15
  have e78 : (0 : Int) ≤ hV H0 285 18 ∧ hV H0 285 18 ≤ 8 := f1.1 285 18 _ _ kW_285_18
  have e79 : (0 : Int) ≤ hV H0 285 32 ∧ hV H0 285 32 ≤ 7 := f1.1 285 32 _ _ kW_285_32
  have e80 : (0 : Int) ≤ hV H0 285 33 ∧ hV H0 285 33 ≤ 62 := f1.1 285 33 _ _ kW_285_33
  try simp only [e30, e32, e39, e52, e63, e74]
  have p0 := f1.2.1
  have p1 := f1.2.2.1
  have p2 := f1.2.2.2.1
  have p3 := f1.2.2.2.2.1
  have p4 := f1.2.2.2.2.2.1
  have p5 := f1.2.2.2.2.2.2.1
  have p6 := f1.2.2.2.2.2.2.2
  have r0_0 := f5.2.1
  have r1_0 := f10.2.1
  have r2_0 := f15.2.1
  have r3_0 := f20.2.1
  have r4_0 := f25.2.1
  have r5_0 := f30.2.1
  have r5_1 := f30.2.2.resolve_right (fun z => f31 z.1)
  try simp only [e3] at r0_0
  try simp only [e8] at r1_0
  try simp only [e14] at r2_0
  try simp only [e20] at r3_0
  try simp only [e26] at r4_0
  try simp only [e32] at r5_0
  try simp only [e24, e26, e28, e30, e32, e39, e41, e52, e63, e74] at r5_1
  have wb0 := (p6 (hV H0 285 32).toNat).1
  have wp0 := (p6 (hV H0 285 33).toNat).2
  clear e3 e8 e14 e20 e24 e26 e28 e30 e32 e39 e41 e42 e43 e44 e45 e46 e47 e48 e49 e50 e51 e52 e53 e54 e55 e56 e57 e58 e59 e60 e61 e62 e63 e64 e65 e66 e67 e68 e69 e70 e71 e72 e73 e74
  clear f1 f5 f10 f15 f20 f25 f30

  refine ⟨⟨?_, ?_, ?_, ?_⟩, fun q hq => ?_⟩
  · exact p0
  · intro z1 z2
    exact p5 (by omega) (by omega)
  · exact p6
  · (try clear p0 p5 p6)
    first
    | omega
    | (refine ⟨?_, ?_, ?_⟩ <;> first | exact True.intro | omega)
  · exact nomatch hq
def g_227_s_1 : vG := ([(0, [13], [], 5), (31, [12], [], 0), (1216, [12, 0, 11], [5, 6], 0), (90, [12], [], 0), (91, [12], [], 1), (0, [11], [], 40), (30, [10], [], 0), (1216, [10, 0, 9], [4, 5], 0), (90, [10], [], 0), (91, [10], [], 1), (0, [9], [], 39), (30, [8], [], 0), (1216, [8, 0, 7], [3, 4], 0), (90, [8], [], 0), (91, [8], [], 1), (0, [7], [], 37), (30, [6], [], 0), (1216, [6, 0, 5], [2, 3], 0), (90, [6], [], 0), (91, [6], [], 1), (0, [5], [], 33), (30, [4], [], 0), (1216, [4, 0, 3], [1, 2], 0), (90, [4], [], 0), (91, [4], [], 1), (0, [3], [], 31), (30, [2], [], 0), (1216, [2, 0, 1], [0, 1], 0), (90, [2], [], 0), (91, [2], [], 1), (0, [1], [], 24), (6000, [0], [0], 0), (0, [0], [], 285)], (4000, [0, 13], [6], 80))
theorem c_227_s_1 : vOkm T0 (eP e_227 L_227 A_227 mu_227 none) 1 g_227_s_1 := vOk_inI fun ρ η f0 f1 f2 f3 f4 f5 f6 f7 f8 f9 f10 f11 f12 f13 f14 f15 f16 f17 f18 f19 f20 f21 f22 f23 f24 f25 f26 f27 f28 f29 f30 f31 f32 => q_227_1 (n0 := ρ 0) (n1 := ρ 1) (n2 := ρ 2) (n3 := ρ 3) (n4 := ρ 4) (n5 := ρ 5) (n6 := ρ 6) (n7 := ρ 7) (n8 := ρ 8) (n9 := ρ 9) (n10 := ρ 10) (n11 := ρ 11) (n12 := ρ 12) (n13 := ρ 13) (H0 := η 0) (H1 := η 1) (H2 := η 2) (H3 := η 3) (H4 := η 4) (H5 := η 5) (H6 := η 6) f32 f31 f30 f29 f28 f27 f26 f25 f24 f23 f22 f21 f20 f19 f18 f17 f16 f15 f14 f13 f12 f11 f10 f9 f8 f7 f6 f5 f4 f3 f2 f1 f0
set_option maxHeartbeats 20000000 in
theorem q_227_2 {n0 n1 n2 n3 n4 n5 n6 n7 n8 n9 n10 n11 : Int} {H0 H1 H2 H3 H4 H5 : gH} (f0 : n0 = 285) (f1 : hWt T0 H0 ∧ preb_227 n0 H0) (f2 : n1 = 24) (f3 : n2 ≤ 1) (f4 : 0 ≤ n2) (f5 : (hLe T0 H0 H1 ∧ hFr s_216.2.2.2.2 H0 H1 ∧ ((0 : Int) = 0 → H1.length = H0.length) ∧ hWt T0 H1) ∧ postb_216 n2 n0 n1 H0 H1) (f6 : n2 = 0) (f7 : n3 = 31) (f8 : n4 ≤ 1) (f9 : 0 ≤ n4) (f10 : (hLe T0 H1 H2 ∧ hFr s_216.2.2.2.2 H1 H2 ∧ ((0 : Int) = 0 → H2.length = H1.length) ∧ hWt T0 H2) ∧ postb_216 n4 n0 n3 H1 H2) (f11 : n4 = 0) (f12 : n5 = 33) (f13 : n6 ≤ 1) (f14 : 0 ≤ n6) (f15 : (hLe T0 H2 H3 ∧ hFr s_216.2.2.2.2 H2 H3 ∧ ((0 : Int) = 0 → H3.length = H2.length) ∧ hWt T0 H3) ∧ postb_216 n6 n0 n5 H2 H3) (f16 : n6 = 0) (f17 : n7 = 37) (f18 : n8 ≤ 1) (f19 : 0 ≤ n8) (f20 : (hLe T0 H3 H4 ∧ hFr s_216.2.2.2.2 H3 H4 ∧ ((0 : Int) = 0 → H4.length = H3.length) ∧ hWt T0 H4) ∧ postb_216 n8 n0 n7 H3 H4) (f21 : n8 = 0) (f22 : n9 = 39) (f23 : n10 ≤ 1) (f24 : 0 ≤ n10) (f25 : (hLe T0 H4 H5 ∧ hFr s_216.2.2.2.2 H4 H5 ∧ ((0 : Int) = 0 → H5.length = H4.length) ∧ hWt T0 H5) ∧ postb_216 n10 n0 n9 H4 H5) (f26 : n10 ≠ 0) (f27 : n11 = 4) : Ab_227_80 n0 n0 n11 H0 H5 ∧ ∀ q, none = some q → mub_227_80 n0 n0 n11 H0 H5 < q := by
  unfold preb_227 at f1
  unfold postb_216 at f5
  unfold postb_216 at f10
  unfold postb_216 at f15
  unfold postb_216 at f20
  unfold postb_216 at f25
  unfold Ab_227_80
  have e3 : hV H1 285 13 = hV H0 285 13 := (f5.1.2.1.1 285 13 kF_216_285_13)
  have e8 : hV H2 285 13 = hV H0 285 13 := ((f10.1.2.1.1 285 13 kF_216_285_13)).trans (f5.1.2.1.1 285 13 kF_216_285_13)
  have e14 : hV H3 285 13 = hV H0 285 13 := ((f15.1.2.1.1 285 13 kF_216_285_13)).trans (((f10.1.2.1.1 285 13 kF_216_285_13)).trans (f5.1.2.1.1 285 13 kF_216_285_13))
  have e18 : hV H4 285 11 = hV H0 285 11 := ((f20.1.2.1.1 285 11 kF_216_285_11)).trans (((f15.1.2.1.1 285 11 kF_216_285_11)).trans (((f10.1.2.1.1 285 11 kF_216_285_11)).trans (f5.1.2.1.1 285 11 kF_216_285_11)))
  have e20 : hV H4 285 13 = hV H0 285 13 := ((f20.1.2.1.1 285 13 kF_216_285_13)).trans (((f15.1.2.1.1 285 13 kF_216_285_13)).trans (((f10.1.2.1.1 285 13 kF_216_285_13)).trans (f5.1.2.1.1 285 13 kF_216_285_13)))
  have e22 : hV H4 288 = hV H0 288 := (fRow f20.1.2.1 288 kR_216_288).trans ((fRow f15.1.2.1 288 kR_216_288).trans ((fRow f10.1.2.1 288 kR_216_288).trans (fRow f5.1.2.1 288 kR_216_288)))
  have e24 : hV H5 285 11 = hV H0 285 11 := ((f25.1.2.1.1 285 11 kF_216_285_11)).trans (((f20.1.2.1.1 285 11 kF_216_285_11)).trans (((f15.1.2.1.1 285 11 kF_216_285_11)).trans (((f10.1.2.1.1 285 11 kF_216_285_11)).trans (f5.1.2.1.1 285 11 kF_216_285_11))))
  have e26 : hV H5 285 13 = hV H0 285 13 := ((f25.1.2.1.1 285 13 kF_216_285_13)).trans (((f20.1.2.1.1 285 13 kF_216_285_13)).trans (((f15.1.2.1.1 285 13 kF_216_285_13)).trans (((f10.1.2.1.1 285 13 kF_216_285_13)).trans (f5.1.2.1.1 285 13 kF_216_285_13))))
  have e32 : hV H5 285 15 = hV H0 285 15 := ((f25.1.2.1.1 285 15 kF_216_285_15)).trans (((f20.1.2.1.1 285 15 kF_216_285_15)).trans (((f15.1.2.1.1 285 15 kF_216_285_15)).trans (((f10.1.2.1.1 285 15 kF_216_285_15)).trans (f5.1.2.1.1 285 15 kF_216_285_15))))
  have e34 : hV H5 288 = hV H0 288 := (fRow f25.1.2.1 288 kR_216_288).trans e22
  have e35 : PA H1 = PA H0 := PA_fr f5.1.2.1 (by decide +kernel)
  have e36 : PA H2 = PA H1 := PA_fr f10.1.2.1 (by decide +kernel)
  have e37 : PA H2 = PA H0 := e36.trans e35
  have e38 : PA H3 = PA H2 := PA_fr f15.1.2.1 (by decide +kernel)
  have e39 : PA H3 = PA H0 := e38.trans e37
  have e40 : PA H4 = PA H3 := PA_fr f20.1.2.1 (by decide +kernel)
  have e41 : PA H4 = PA H0 := e40.trans e39
  have e42 : PA H5 = PA H4 := PA_fr f25.1.2.1 (by decide +kernel)
  have e43 : PA H5 = PA H0 := e42.trans e41
  have e44 : PQ H1 = PQ H0 := PQ_fr f5.1.2.1 (by decide +kernel)
  have e45 : PQ H2 = PQ H1 := PQ_fr f10.1.2.1 (by decide +kernel)
  have e46 : PQ H2 = PQ H0 := e45.trans e44
  have e47 : PQ H3 = PQ H2 := PQ_fr f15.1.2.1 (by decide +kernel)
  have e48 : PQ H3 = PQ H0 := e47.trans e46
  have e49 : PQ H4 = PQ H3 := PQ_fr f20.1.2.1 (by decide +kernel)
  have e50 : PQ H4 = PQ H0 := e49.trans e48
  have e51 : PQ H5 = PQ H4 := PQ_fr f25.1.2.1 (by decide +kernel)
  have e52 : PQ H5 = PQ H0 := e51.trans e50
  have e53 : PW H1 = PW H0 := PW_fr f5.1.2.1 (by decide +kernel)
  have e54 : PW H2 = PW H1 := PW_fr f10.1.2.1 (by decide +kernel)
  have e55 : PW H2 = PW H0 := e54.trans e53
  have e56 : PW H3 = PW H2 := PW_fr f15.1.2.1 (by decide +kernel)
  have e57 : PW H3 = PW H0 := e56.trans e55
  have e58 : PW H4 = PW H3 := PW_fr f20.1.2.1 (by decide +kernel)
  have e59 : PW H4 = PW H0 := e58.trans e57
  have e60 : PW H5 = PW H4 := PW_fr f25.1.2.1 (by decide +kernel)
  have e61 : PW H5 = PW H0 := e60.trans e59
  have e62 : (0 : Int) ≤ hV H0 285 11 ∧ hV H0 285 11 ≤ 500 := f1.1 285 11 _ _ kW_285_11
  have e63 : (0 : Int) ≤ hV H0 285 13 ∧ hV H0 285 13 ≤ 2 := f1.1 285 13 _ _ kW_285_13
  have e64 : (0 : Int) ≤ hV H0 285 15 ∧ hV H0 285 15 ≤ 6 := f1.1 285 15 _ _ kW_285_15
  have e65 : (0 : Int) ≤ hV H0 285 18 ∧ hV H0 285 18 ≤ 8 := f1.1 285 18 _ _ kW_285_18
  have e66 : (0 : Int) ≤ hV H0 285 32 ∧ hV H0 285 32 ≤ 7 := f1.1 285 32 _ _ kW_285_32
  have e67 : (0 : Int) ≤ hV H0 285 33 ∧ hV H0 285 33 ≤ 62 := f1.1 285 33 _ _ kW_285_33
  try simp only [e24, e26, e32, e43, e52, e61]
  have p0 := f1.2.1
  have p1 := f1.2.2.1
  have p2 := f1.2.2.2.1
  have p3 := f1.2.2.2.2.1
  have p4 := f1.2.2.2.2.2.1
  have p5 := f1.2.2.2.2.2.2.1
  have p6 := f1.2.2.2.2.2.2.2
  have r0_0 := f5.2.1
  have r1_0 := f10.2.1
  have r2_0 := f15.2.1
  have r3_0 := f20.2.1
  have r4_0 := f25.2.1
  have r4_1 := f25.2.2.resolve_right (fun z => f26 z.1)
  try simp only [e3] at r0_0
  try simp only [e8] at r1_0
  try simp only [e14] at r2_0
  try simp only [e20] at r3_0
  try simp only [e26] at r4_0
  try simp only [e18, e20, e22, e24, e26, e32, e34, e43, e52, e61] at r4_1
  have wb0 := (p6 (hV H0 285 32).toNat).1
  have wp0 := (p6 (hV H0 285 33).toNat).2
  clear e3 e8 e14 e18 e20 e22 e24 e26 e32 e34 e35 e36 e37 e38 e39 e40 e41 e42 e43 e44 e45 e46 e47 e48 e49 e50 e51 e52 e53 e54 e55 e56 e57 e58 e59 e60 e61
  clear f1 f5 f10 f15 f20 f25

  refine ⟨⟨?_, ?_, ?_, ?_⟩, fun q hq => ?_⟩
  · exact p0
  · intro z1 z2
    exact p5 (by omega) (by omega)
  · exact p6
  · (try clear p0 p5 p6)
    first
    | omega
    | (refine ⟨?_, ?_, ?_⟩ <;> first | exact True.intro | omega)
  · exact nomatch hq
def g_227_s_2 : vG := ([(0, [11], [], 4), (31, [10], [], 0), (1216, [10, 0, 9], [4, 5], 0), (90, [10], [], 0), (91, [10], [], 1), (0, [9], [], 39), (30, [8], [], 0), (1216, [8, 0, 7], [3, 4], 0), (90, [8], [], 0), (91, [8], [], 1), (0, [7], [], 37), (30, [6], [], 0), (1216, [6, 0, 5], [2, 3], 0), (90, [6], [], 0), (91, [6], [], 1), (0, [5], [], 33), (30, [4], [], 0), (1216, [4, 0, 3], [1, 2], 0), (90, [4], [], 0), (91, [4], [], 1), (0, [3], [], 31), (30, [2], [], 0), (1216, [2, 0, 1], [0, 1], 0), (90, [2], [], 0), (91, [2], [], 1), (0, [1], [], 24), (6000, [0], [0], 0), (0, [0], [], 285)], (4000, [0, 11], [5], 80))
theorem c_227_s_2 : vOkm T0 (eP e_227 L_227 A_227 mu_227 none) 1 g_227_s_2 := vOk_inI fun ρ η f0 f1 f2 f3 f4 f5 f6 f7 f8 f9 f10 f11 f12 f13 f14 f15 f16 f17 f18 f19 f20 f21 f22 f23 f24 f25 f26 f27 => q_227_2 (n0 := ρ 0) (n1 := ρ 1) (n2 := ρ 2) (n3 := ρ 3) (n4 := ρ 4) (n5 := ρ 5) (n6 := ρ 6) (n7 := ρ 7) (n8 := ρ 8) (n9 := ρ 9) (n10 := ρ 10) (n11 := ρ 11) (H0 := η 0) (H1 := η 1) (H2 := η 2) (H3 := η 3) (H4 := η 4) (H5 := η 5) f27 f26 f25 f24 f23 f22 f21 f20 f19 f18 f17 f16 f15 f14 f13 f12 f11 f10 f9 f8 f7 f6 f5 f4 f3 f2 f1 f0
set_option maxHeartbeats 20000000 in
theorem q_227_3 {n0 n1 n2 n3 n4 n5 n6 n7 n8 n9 : Int} {H0 H1 H2 H3 H4 : gH} (f0 : n0 = 285) (f1 : hWt T0 H0 ∧ preb_227 n0 H0) (f2 : n1 = 24) (f3 : n2 ≤ 1) (f4 : 0 ≤ n2) (f5 : (hLe T0 H0 H1 ∧ hFr s_216.2.2.2.2 H0 H1 ∧ ((0 : Int) = 0 → H1.length = H0.length) ∧ hWt T0 H1) ∧ postb_216 n2 n0 n1 H0 H1) (f6 : n2 = 0) (f7 : n3 = 31) (f8 : n4 ≤ 1) (f9 : 0 ≤ n4) (f10 : (hLe T0 H1 H2 ∧ hFr s_216.2.2.2.2 H1 H2 ∧ ((0 : Int) = 0 → H2.length = H1.length) ∧ hWt T0 H2) ∧ postb_216 n4 n0 n3 H1 H2) (f11 : n4 = 0) (f12 : n5 = 33) (f13 : n6 ≤ 1) (f14 : 0 ≤ n6) (f15 : (hLe T0 H2 H3 ∧ hFr s_216.2.2.2.2 H2 H3 ∧ ((0 : Int) = 0 → H3.length = H2.length) ∧ hWt T0 H3) ∧ postb_216 n6 n0 n5 H2 H3) (f16 : n6 = 0) (f17 : n7 = 37) (f18 : n8 ≤ 1) (f19 : 0 ≤ n8) (f20 : (hLe T0 H3 H4 ∧ hFr s_216.2.2.2.2 H3 H4 ∧ ((0 : Int) = 0 → H4.length = H3.length) ∧ hWt T0 H4) ∧ postb_216 n8 n0 n7 H3 H4) (f21 : n8 ≠ 0) (f22 : n9 = 3) : Ab_227_80 n0 n0 n9 H0 H4 ∧ ∀ q, none = some q → mub_227_80 n0 n0 n9 H0 H4 < q := by
  unfold preb_227 at f1
  unfold postb_216 at f5
  unfold postb_216 at f10
  unfold postb_216 at f15
  unfold postb_216 at f20
  unfold Ab_227_80
  have e3 : hV H1 285 13 = hV H0 285 13 := (f5.1.2.1.1 285 13 kF_216_285_13)
  have e8 : hV H2 285 13 = hV H0 285 13 := ((f10.1.2.1.1 285 13 kF_216_285_13)).trans (f5.1.2.1.1 285 13 kF_216_285_13)
  have e12 : hV H3 285 11 = hV H0 285 11 := ((f15.1.2.1.1 285 11 kF_216_285_11)).trans (((f10.1.2.1.1 285 11 kF_216_285_11)).trans (f5.1.2.1.1 285 11 kF_216_285_11))
  have e14 : hV H3 285 13 = hV H0 285 13 := ((f15.1.2.1.1 285 13 kF_216_285_13)).trans (((f10.1.2.1.1 285 13 kF_216_285_13)).trans (f5.1.2.1.1 285 13 kF_216_285_13))
  have e16 : hV H3 288 = hV H0 288 := (fRow f15.1.2.1 288 kR_216_288).trans ((fRow f10.1.2.1 288 kR_216_288).trans (fRow f5.1.2.1 288 kR_216_288))
  have e18 : hV H4 285 11 = hV H0 285 11 := ((f20.1.2.1.1 285 11 kF_216_285_11)).trans (((f15.1.2.1.1 285 11 kF_216_285_11)).trans (((f10.1.2.1.1 285 11 kF_216_285_11)).trans (f5.1.2.1.1 285 11 kF_216_285_11)))
  have e20 : hV H4 285 13 = hV H0 285 13 := ((f20.1.2.1.1 285 13 kF_216_285_13)).trans (((f15.1.2.1.1 285 13 kF_216_285_13)).trans (((f10.1.2.1.1 285 13 kF_216_285_13)).trans (f5.1.2.1.1 285 13 kF_216_285_13)))
  have e25 : hV H4 285 15 = hV H0 285 15 := ((f20.1.2.1.1 285 15 kF_216_285_15)).trans (((f15.1.2.1.1 285 15 kF_216_285_15)).trans (((f10.1.2.1.1 285 15 kF_216_285_15)).trans (f5.1.2.1.1 285 15 kF_216_285_15)))
  have e27 : hV H4 288 = hV H0 288 := (fRow f20.1.2.1 288 kR_216_288).trans e16
  have e28 : PA H1 = PA H0 := PA_fr f5.1.2.1 (by decide +kernel)
  have e29 : PA H2 = PA H1 := PA_fr f10.1.2.1 (by decide +kernel)
  have e30 : PA H2 = PA H0 := e29.trans e28
  have e31 : PA H3 = PA H2 := PA_fr f15.1.2.1 (by decide +kernel)
  have e32 : PA H3 = PA H0 := e31.trans e30
  have e33 : PA H4 = PA H3 := PA_fr f20.1.2.1 (by decide +kernel)
  have e34 : PA H4 = PA H0 := e33.trans e32
  have e35 : PQ H1 = PQ H0 := PQ_fr f5.1.2.1 (by decide +kernel)
  have e36 : PQ H2 = PQ H1 := PQ_fr f10.1.2.1 (by decide +kernel)
  have e37 : PQ H2 = PQ H0 := e36.trans e35
  have e38 : PQ H3 = PQ H2 := PQ_fr f15.1.2.1 (by decide +kernel)
  have e39 : PQ H3 = PQ H0 := e38.trans e37
  have e40 : PQ H4 = PQ H3 := PQ_fr f20.1.2.1 (by decide +kernel)
  have e41 : PQ H4 = PQ H0 := e40.trans e39
  have e42 : PW H1 = PW H0 := PW_fr f5.1.2.1 (by decide +kernel)
  have e43 : PW H2 = PW H1 := PW_fr f10.1.2.1 (by decide +kernel)
  have e44 : PW H2 = PW H0 := e43.trans e42
  have e45 : PW H3 = PW H2 := PW_fr f15.1.2.1 (by decide +kernel)
  have e46 : PW H3 = PW H0 := e45.trans e44
  have e47 : PW H4 = PW H3 := PW_fr f20.1.2.1 (by decide +kernel)
  have e48 : PW H4 = PW H0 := e47.trans e46
  have e49 : (0 : Int) ≤ hV H0 285 11 ∧ hV H0 285 11 ≤ 500 := f1.1 285 11 _ _ kW_285_11
  have e50 : (0 : Int) ≤ hV H0 285 13 ∧ hV H0 285 13 ≤ 2 := f1.1 285 13 _ _ kW_285_13
  have e51 : (0 : Int) ≤ hV H0 285 15 ∧ hV H0 285 15 ≤ 6 := f1.1 285 15 _ _ kW_285_15
  have e52 : (0 : Int) ≤ hV H0 285 18 ∧ hV H0 285 18 ≤ 8 := f1.1 285 18 _ _ kW_285_18
  have e53 : (0 : Int) ≤ hV H0 285 32 ∧ hV H0 285 32 ≤ 7 := f1.1 285 32 _ _ kW_285_32
  have e54 : (0 : Int) ≤ hV H0 285 33 ∧ hV H0 285 33 ≤ 62 := f1.1 285 33 _ _ kW_285_33
  try simp only [e18, e20, e25, e34, e41, e48]
  have p0 := f1.2.1
  have p1 := f1.2.2.1
  have p2 := f1.2.2.2.1
  have p3 := f1.2.2.2.2.1
  have p4 := f1.2.2.2.2.2.1
  have p5 := f1.2.2.2.2.2.2.1
  have p6 := f1.2.2.2.2.2.2.2
  have r0_0 := f5.2.1
  have r1_0 := f10.2.1
  have r2_0 := f15.2.1
  have r3_0 := f20.2.1
  have r3_1 := f20.2.2.resolve_right (fun z => f21 z.1)
  try simp only [e3] at r0_0
  try simp only [e8] at r1_0
  try simp only [e14] at r2_0
  try simp only [e20] at r3_0
  try simp only [e12, e14, e16, e18, e20, e25, e27, e34, e41, e48] at r3_1
  have wb0 := (p6 (hV H0 285 32).toNat).1
  have wp0 := (p6 (hV H0 285 33).toNat).2
  clear e3 e8 e12 e14 e16 e18 e20 e25 e27 e28 e29 e30 e31 e32 e33 e34 e35 e36 e37 e38 e39 e40 e41 e42 e43 e44 e45 e46 e47 e48
  clear f1 f5 f10 f15 f20

  refine ⟨⟨?_, ?_, ?_, ?_⟩, fun q hq => ?_⟩
  · exact p0
  · intro z1 z2
    exact p5 (by omega) (by omega)
  · exact p6
  · (try clear p0 p5 p6)
    first
    | omega
    | (refine ⟨?_, ?_, ?_⟩ <;> first | exact True.intro | omega)
  · exact nomatch hq
def g_227_s_3 : vG := ([(0, [9], [], 3), (31, [8], [], 0), (1216, [8, 0, 7], [3, 4], 0), (90, [8], [], 0), (91, [8], [], 1), (0, [7], [], 37), (30, [6], [], 0), (1216, [6, 0, 5], [2, 3], 0), (90, [6], [], 0), (91, [6], [], 1), (0, [5], [], 33), (30, [4], [], 0), (1216, [4, 0, 3], [1, 2], 0), (90, [4], [], 0), (91, [4], [], 1), (0, [3], [], 31), (30, [2], [], 0), (1216, [2, 0, 1], [0, 1], 0), (90, [2], [], 0), (91, [2], [], 1), (0, [1], [], 24), (6000, [0], [0], 0), (0, [0], [], 285)], (4000, [0, 9], [4], 80))
theorem c_227_s_3 : vOkm T0 (eP e_227 L_227 A_227 mu_227 none) 1 g_227_s_3 := vOk_inI fun ρ η f0 f1 f2 f3 f4 f5 f6 f7 f8 f9 f10 f11 f12 f13 f14 f15 f16 f17 f18 f19 f20 f21 f22 => q_227_3 (n0 := ρ 0) (n1 := ρ 1) (n2 := ρ 2) (n3 := ρ 3) (n4 := ρ 4) (n5 := ρ 5) (n6 := ρ 6) (n7 := ρ 7) (n8 := ρ 8) (n9 := ρ 9) (H0 := η 0) (H1 := η 1) (H2 := η 2) (H3 := η 3) (H4 := η 4) f22 f21 f20 f19 f18 f17 f16 f15 f14 f13 f12 f11 f10 f9 f8 f7 f6 f5 f4 f3 f2 f1 f0
set_option maxHeartbeats 20000000 in
theorem q_227_4 {n0 n1 n2 n3 n4 n5 n6 n7 : Int} {H0 H1 H2 H3 : gH} (f0 : n0 = 285) (f1 : hWt T0 H0 ∧ preb_227 n0 H0) (f2 : n1 = 24) (f3 : n2 ≤ 1) (f4 : 0 ≤ n2) (f5 : (hLe T0 H0 H1 ∧ hFr s_216.2.2.2.2 H0 H1 ∧ ((0 : Int) = 0 → H1.length = H0.length) ∧ hWt T0 H1) ∧ postb_216 n2 n0 n1 H0 H1) (f6 : n2 = 0) (f7 : n3 = 31) (f8 : n4 ≤ 1) (f9 : 0 ≤ n4) (f10 : (hLe T0 H1 H2 ∧ hFr s_216.2.2.2.2 H1 H2 ∧ ((0 : Int) = 0 → H2.length = H1.length) ∧ hWt T0 H2) ∧ postb_216 n4 n0 n3 H1 H2) (f11 : n4 = 0) (f12 : n5 = 33) (f13 : n6 ≤ 1) (f14 : 0 ≤ n6) (f15 : (hLe T0 H2 H3 ∧ hFr s_216.2.2.2.2 H2 H3 ∧ ((0 : Int) = 0 → H3.length = H2.length) ∧ hWt T0 H3) ∧ postb_216 n6 n0 n5 H2 H3) (f16 : n6 ≠ 0) (f17 : n7 = 2) : Ab_227_80 n0 n0 n7 H0 H3 ∧ ∀ q, none = some q → mub_227_80 n0 n0 n7 H0 H3 < q := by
  unfold preb_227 at f1
  unfold postb_216 at f5
  unfold postb_216 at f10
  unfold postb_216 at f15
  unfold Ab_227_80
  have e3 : hV H1 285 13 = hV H0 285 13 := (f5.1.2.1.1 285 13 kF_216_285_13)
  have e6 : hV H2 285 11 = hV H0 285 11 := ((f10.1.2.1.1 285 11 kF_216_285_11)).trans (f5.1.2.1.1 285 11 kF_216_285_11)
  have e8 : hV H2 285 13 = hV H0 285 13 := ((f10.1.2.1.1 285 13 kF_216_285_13)).trans (f5.1.2.1.1 285 13 kF_216_285_13)
  have e10 : hV H2 288 = hV H0 288 := (fRow f10.1.2.1 288 kR_216_288).trans (fRow f5.1.2.1 288 kR_216_288)
  have e12 : hV H3 285 11 = hV H0 285 11 := ((f15.1.2.1.1 285 11 kF_216_285_11)).trans (((f10.1.2.1.1 285 11 kF_216_285_11)).trans (f5.1.2.1.1 285 11 kF_216_285_11))
  have e14 : hV H3 285 13 = hV H0 285 13 := ((f15.1.2.1.1 285 13 kF_216_285_13)).trans (((f10.1.2.1.1 285 13 kF_216_285_13)).trans (f5.1.2.1.1 285 13 kF_216_285_13))
  have e18 : hV H3 285 15 = hV H0 285 15 := ((f15.1.2.1.1 285 15 kF_216_285_15)).trans (((f10.1.2.1.1 285 15 kF_216_285_15)).trans (f5.1.2.1.1 285 15 kF_216_285_15))
  have e20 : hV H3 288 = hV H0 288 := (fRow f15.1.2.1 288 kR_216_288).trans e10
  have e21 : PA H1 = PA H0 := PA_fr f5.1.2.1 (by decide +kernel)
  have e22 : PA H2 = PA H1 := PA_fr f10.1.2.1 (by decide +kernel)
  have e23 : PA H2 = PA H0 := e22.trans e21
  have e24 : PA H3 = PA H2 := PA_fr f15.1.2.1 (by decide +kernel)
  have e25 : PA H3 = PA H0 := e24.trans e23
  have e26 : PQ H1 = PQ H0 := PQ_fr f5.1.2.1 (by decide +kernel)
  have e27 : PQ H2 = PQ H1 := PQ_fr f10.1.2.1 (by decide +kernel)
  have e28 : PQ H2 = PQ H0 := e27.trans e26
  have e29 : PQ H3 = PQ H2 := PQ_fr f15.1.2.1 (by decide +kernel)
  have e30 : PQ H3 = PQ H0 := e29.trans e28
  have e31 : PW H1 = PW H0 := PW_fr f5.1.2.1 (by decide +kernel)
  have e32 : PW H2 = PW H1 := PW_fr f10.1.2.1 (by decide +kernel)
  have e33 : PW H2 = PW H0 := e32.trans e31
  have e34 : PW H3 = PW H2 := PW_fr f15.1.2.1 (by decide +kernel)
  have e35 : PW H3 = PW H0 := e34.trans e33
  have e36 : (0 : Int) ≤ hV H0 285 11 ∧ hV H0 285 11 ≤ 500 := f1.1 285 11 _ _ kW_285_11
  have e37 : (0 : Int) ≤ hV H0 285 13 ∧ hV H0 285 13 ≤ 2 := f1.1 285 13 _ _ kW_285_13
  have e38 : (0 : Int) ≤ hV H0 285 15 ∧ hV H0 285 15 ≤ 6 := f1.1 285 15 _ _ kW_285_15
  have e39 : (0 : Int) ≤ hV H0 285 18 ∧ hV H0 285 18 ≤ 8 := f1.1 285 18 _ _ kW_285_18
  have e40 : (0 : Int) ≤ hV H0 285 32 ∧ hV H0 285 32 ≤ 7 := f1.1 285 32 _ _ kW_285_32
  have e41 : (0 : Int) ≤ hV H0 285 33 ∧ hV H0 285 33 ≤ 62 := f1.1 285 33 _ _ kW_285_33
  try simp only [e12, e14, e18, e25, e30, e35]
  have p0 := f1.2.1
  have p1 := f1.2.2.1
  have p2 := f1.2.2.2.1
  have p3 := f1.2.2.2.2.1
  have p4 := f1.2.2.2.2.2.1
  have p5 := f1.2.2.2.2.2.2.1
  have p6 := f1.2.2.2.2.2.2.2
  have r0_0 := f5.2.1
  have r1_0 := f10.2.1
  have r2_0 := f15.2.1
  have r2_1 := f15.2.2.resolve_right (fun z => f16 z.1)
  try simp only [e3] at r0_0
  try simp only [e8] at r1_0
  try simp only [e14] at r2_0
  try simp only [e6, e8, e10, e12, e14, e18, e20, e25, e30, e35] at r2_1
  have wb0 := (p6 (hV H0 285 32).toNat).1
  have wp0 := (p6 (hV H0 285 33).toNat).2
  clear e3 e6 e8 e10 e12 e14 e18 e20 e21 e22 e23 e24 e25 e26 e27 e28 e29 e30 e31 e32 e33 e34 e35
  clear f1 f5 f10 f15

  refine ⟨⟨?_, ?_, ?_, ?_⟩, fun q hq => ?_⟩
  · exact p0
  · intro z1 z2
    exact p5 (by omega) (by omega)
  · exact p6
  · (try clear p0 p5 p6)
    first
    | omega
    | (refine ⟨?_, ?_, ?_⟩ <;> first | exact True.intro | omega)
  · exact nomatch hq
def g_227_s_4 : vG := ([(0, [7], [], 2), (31, [6], [], 0), (1216, [6, 0, 5], [2, 3], 0), (90, [6], [], 0), (91, [6], [], 1), (0, [5], [], 33), (30, [4], [], 0), (1216, [4, 0, 3], [1, 2], 0), (90, [4], [], 0), (91, [4], [], 1), (0, [3], [], 31), (30, [2], [], 0), (1216, [2, 0, 1], [0, 1], 0), (90, [2], [], 0), (91, [2], [], 1), (0, [1], [], 24), (6000, [0], [0], 0), (0, [0], [], 285)], (4000, [0, 7], [3], 80))
theorem c_227_s_4 : vOkm T0 (eP e_227 L_227 A_227 mu_227 none) 1 g_227_s_4 := vOk_inI fun ρ η f0 f1 f2 f3 f4 f5 f6 f7 f8 f9 f10 f11 f12 f13 f14 f15 f16 f17 => q_227_4 (n0 := ρ 0) (n1 := ρ 1) (n2 := ρ 2) (n3 := ρ 3) (n4 := ρ 4) (n5 := ρ 5) (n6 := ρ 6) (n7 := ρ 7) (H0 := η 0) (H1 := η 1) (H2 := η 2) (H3 := η 3) f17 f16 f15 f14 f13 f12 f11 f10 f9 f8 f7 f6 f5 f4 f3 f2 f1 f0
set_option maxHeartbeats 20000000 in
theorem q_227_5 {n0 n1 n2 n3 n4 n5 : Int} {H0 H1 H2 : gH} (f0 : n0 = 285) (f1 : hWt T0 H0 ∧ preb_227 n0 H0) (f2 : n1 = 24) (f3 : n2 ≤ 1) (f4 : 0 ≤ n2) (f5 : (hLe T0 H0 H1 ∧ hFr s_216.2.2.2.2 H0 H1 ∧ ((0 : Int) = 0 → H1.length = H0.length) ∧ hWt T0 H1) ∧ postb_216 n2 n0 n1 H0 H1) (f6 : n2 = 0) (f7 : n3 = 31) (f8 : n4 ≤ 1) (f9 : 0 ≤ n4) (f10 : (hLe T0 H1 H2 ∧ hFr s_216.2.2.2.2 H1 H2 ∧ ((0 : Int) = 0 → H2.length = H1.length) ∧ hWt T0 H2) ∧ postb_216 n4 n0 n3 H1 H2) (f11 : n4 ≠ 0) (f12 : n5 = 1) : Ab_227_80 n0 n0 n5 H0 H2 ∧ ∀ q, none = some q → mub_227_80 n0 n0 n5 H0 H2 < q := by
  unfold preb_227 at f1
  unfold postb_216 at f5
  unfold postb_216 at f10
  unfold Ab_227_80
  have e1 : hV H1 285 11 = hV H0 285 11 := (f5.1.2.1.1 285 11 kF_216_285_11)
  have e3 : hV H1 285 13 = hV H0 285 13 := (f5.1.2.1.1 285 13 kF_216_285_13)
  have e4 : hV H1 288 = hV H0 288 := fRow f5.1.2.1 288 kR_216_288
  have e6 : hV H2 285 11 = hV H0 285 11 := ((f10.1.2.1.1 285 11 kF_216_285_11)).trans (f5.1.2.1.1 285 11 kF_216_285_11)
  have e8 : hV H2 285 13 = hV H0 285 13 := ((f10.1.2.1.1 285 13 kF_216_285_13)).trans (f5.1.2.1.1 285 13 kF_216_285_13)
  have e11 : hV H2 285 15 = hV H0 285 15 := ((f10.1.2.1.1 285 15 kF_216_285_15)).trans (f5.1.2.1.1 285 15 kF_216_285_15)
  have e13 : hV H2 288 = hV H0 288 := (fRow f10.1.2.1 288 kR_216_288).trans e4
  have e14 : PA H1 = PA H0 := PA_fr f5.1.2.1 (by decide +kernel)
  have e15 : PA H2 = PA H1 := PA_fr f10.1.2.1 (by decide +kernel)
  have e16 : PA H2 = PA H0 := e15.trans e14
  have e17 : PQ H1 = PQ H0 := PQ_fr f5.1.2.1 (by decide +kernel)
  have e18 : PQ H2 = PQ H1 := PQ_fr f10.1.2.1 (by decide +kernel)
  have e19 : PQ H2 = PQ H0 := e18.trans e17
  have e20 : PW H1 = PW H0 := PW_fr f5.1.2.1 (by decide +kernel)
  have e21 : PW H2 = PW H1 := PW_fr f10.1.2.1 (by decide +kernel)
  have e22 : PW H2 = PW H0 := e21.trans e20
  have e23 : (0 : Int) ≤ hV H0 285 11 ∧ hV H0 285 11 ≤ 500 := f1.1 285 11 _ _ kW_285_11
  have e24 : (0 : Int) ≤ hV H0 285 13 ∧ hV H0 285 13 ≤ 2 := f1.1 285 13 _ _ kW_285_13
  have e25 : (0 : Int) ≤ hV H0 285 15 ∧ hV H0 285 15 ≤ 6 := f1.1 285 15 _ _ kW_285_15
  have e26 : (0 : Int) ≤ hV H0 285 18 ∧ hV H0 285 18 ≤ 8 := f1.1 285 18 _ _ kW_285_18
  have e27 : (0 : Int) ≤ hV H0 285 32 ∧ hV H0 285 32 ≤ 7 := f1.1 285 32 _ _ kW_285_32
  have e28 : (0 : Int) ≤ hV H0 285 33 ∧ hV H0 285 33 ≤ 62 := f1.1 285 33 _ _ kW_285_33
  try simp only [e6, e8, e11, e16, e19, e22]
  have p0 := f1.2.1
  have p1 := f1.2.2.1
  have p2 := f1.2.2.2.1
  have p3 := f1.2.2.2.2.1
  have p4 := f1.2.2.2.2.2.1
  have p5 := f1.2.2.2.2.2.2.1
  have p6 := f1.2.2.2.2.2.2.2
  have r0_0 := f5.2.1
  have r1_0 := f10.2.1
  have r1_1 := f10.2.2.resolve_right (fun z => f11 z.1)
  try simp only [e3] at r0_0
  try simp only [e8] at r1_0
  try simp only [e1, e3, e4, e6, e8, e11, e13, e16, e19, e22] at r1_1
  have wb0 := (p6 (hV H0 285 32).toNat).1
  have wp0 := (p6 (hV H0 285 33).toNat).2
  clear e1 e3 e4 e6 e8 e11 e13 e14 e15 e16 e17 e18 e19 e20 e21 e22
  clear f1 f5 f10

  refine ⟨⟨?_, ?_, ?_, ?_⟩, fun q hq => ?_⟩
  · exact p0
  · intro z1 z2
    exact p5 (by omega) (by omega)
  · exact p6
  · (try clear p0 p5 p6)
    first
    | omega
    | (refine ⟨?_, ?_, ?_⟩ <;> first | exact True.intro | omega)
  · exact nomatch hq
def g_227_s_5 : vG := ([(0, [5], [], 1), (31, [4], [], 0), (1216, [4, 0, 3], [1, 2], 0), (90, [4], [], 0), (91, [4], [], 1), (0, [3], [], 31), (30, [2], [], 0), (1216, [2, 0, 1], [0, 1], 0), (90, [2], [], 0), (91, [2], [], 1), (0, [1], [], 24), (6000, [0], [0], 0), (0, [0], [], 285)], (4000, [0, 5], [2], 80))
theorem c_227_s_5 : vOkm T0 (eP e_227 L_227 A_227 mu_227 none) 1 g_227_s_5 := vOk_inI fun ρ η f0 f1 f2 f3 f4 f5 f6 f7 f8 f9 f10 f11 f12 => q_227_5 (n0 := ρ 0) (n1 := ρ 1) (n2 := ρ 2) (n3 := ρ 3) (n4 := ρ 4) (n5 := ρ 5) (H0 := η 0) (H1 := η 1) (H2 := η 2) f12 f11 f10 f9 f8 f7 f6 f5 f4 f3 f2 f1 f0
set_option maxHeartbeats 20000000 in
theorem q_227_6 {n0 n1 n2 n3 : Int} {H0 H1 : gH} (f0 : n0 = 285) (f1 : hWt T0 H0 ∧ preb_227 n0 H0) (f2 : n1 = 24) (f3 : n2 ≤ 1) (f4 : 0 ≤ n2) (f5 : (hLe T0 H0 H1 ∧ hFr s_216.2.2.2.2 H0 H1 ∧ ((0 : Int) = 0 → H1.length = H0.length) ∧ hWt T0 H1) ∧ postb_216 n2 n0 n1 H0 H1) (f6 : n2 ≠ 0) (f7 : n3 = 0) : Ab_227_80 n0 n0 n3 H0 H1 ∧ ∀ q, none = some q → mub_227_80 n0 n0 n3 H0 H1 < q := by
  unfold preb_227 at f1
  unfold postb_216 at f5
  unfold Ab_227_80
  have e1 : hV H1 285 11 = hV H0 285 11 := (f5.1.2.1.1 285 11 kF_216_285_11)
  have e3 : hV H1 285 13 = hV H0 285 13 := (f5.1.2.1.1 285 13 kF_216_285_13)
  have e5 : hV H1 285 15 = hV H0 285 15 := (f5.1.2.1.1 285 15 kF_216_285_15)
  have e6 : hV H1 288 = hV H0 288 := fRow f5.1.2.1 288 kR_216_288
  have e7 : PA H1 = PA H0 := PA_fr f5.1.2.1 (by decide +kernel)
  have e8 : PQ H1 = PQ H0 := PQ_fr f5.1.2.1 (by decide +kernel)
  have e9 : PW H1 = PW H0 := PW_fr f5.1.2.1 (by decide +kernel)
  have e10 : (0 : Int) ≤ hV H0 285 11 ∧ hV H0 285 11 ≤ 500 := f1.1 285 11 _ _ kW_285_11
  have e11 : (0 : Int) ≤ hV H0 285 13 ∧ hV H0 285 13 ≤ 2 := f1.1 285 13 _ _ kW_285_13
  have e12 : (0 : Int) ≤ hV H0 285 15 ∧ hV H0 285 15 ≤ 6 := f1.1 285 15 _ _ kW_285_15
  have e13 : (0 : Int) ≤ hV H0 285 18 ∧ hV H0 285 18 ≤ 8 := f1.1 285 18 _ _ kW_285_18
  have e14 : (0 : Int) ≤ hV H0 285 32 ∧ hV H0 285 32 ≤ 7 := f1.1 285 32 _ _ kW_285_32
  have e15 : (0 : Int) ≤ hV H0 285 33 ∧ hV H0 285 33 ≤ 62 := f1.1 285 33 _ _ kW_285_33
  try simp only [e1, e3, e5, e7, e8, e9]
  have p0 := f1.2.1
  have p1 := f1.2.2.1
  have p2 := f1.2.2.2.1
  have p3 := f1.2.2.2.2.1
  have p4 := f1.2.2.2.2.2.1
  have p5 := f1.2.2.2.2.2.2.1
  have p6 := f1.2.2.2.2.2.2.2
  have r0_0 := f5.2.1
  have r0_1 := f5.2.2.resolve_right (fun z => f6 z.1)
  try simp only [e3] at r0_0
  try simp only [e1, e3, e5, e6, e7, e8, e9] at r0_1
  have wb0 := (p6 (hV H0 285 32).toNat).1
  have wp0 := (p6 (hV H0 285 33).toNat).2
  clear e1 e3 e5 e6 e7 e8 e9
  clear f1 f5

  refine ⟨⟨?_, ?_, ?_, ?_⟩, fun q hq => ?_⟩
  · exact p0
  · intro z1 z2
    exact p5 (by omega) (by omega)
  · exact p6
  · (try clear p0 p5 p6)
    first
    | omega
    | (refine ⟨?_, ?_, ?_⟩ <;> first | exact True.intro | omega)
  · exact nomatch hq
def g_227_s_6 : vG := ([(0, [3], [], 0), (31, [2], [], 0), (1216, [2, 0, 1], [0, 1], 0), (90, [2], [], 0), (91, [2], [], 1), (0, [1], [], 24), (6000, [0], [0], 0), (0, [0], [], 285)], (4000, [0, 3], [1], 80))
theorem c_227_s_6 : vOkm T0 (eP e_227 L_227 A_227 mu_227 none) 1 g_227_s_6 := vOk_inI fun ρ η f0 f1 f2 f3 f4 f5 f6 f7 => q_227_6 (n0 := ρ 0) (n1 := ρ 1) (n2 := ρ 2) (n3 := ρ 3) (H0 := η 0) (H1 := η 1) f7 f6 f5 f4 f3 f2 f1 f0
def p_227_s : List vG := [g_227_s_0,
  g_227_s_1,
  g_227_s_2,
  g_227_s_3,
  g_227_s_4,
  g_227_s_5,
  g_227_s_6]
theorem r_227_s : vCovO false (eR0 e_227 L_227 cs_227 2000) p_227_s = true := by decide +kernel
set_option maxHeartbeats 20000000 in
theorem kF_227_285_33 : vFree s_227.2.2.2.2 285 33 = true := by decide +kernel
theorem kF_227_285_18 : vFree s_227.2.2.2.2 285 18 = true := by decide +kernel
theorem kF_227_285_32 : vFree s_227.2.2.2.2 285 32 = true := by decide +kernel
theorem q_227_7 {q0 : Nat} {n0 n1 n2 n3 n4 n5 n6 n7 n8 : Int} {H0 H1 : gH} (f0 : n0 ≤ 5) (f1 : (-1) ≤ n0) (f2 : n1 = 285) (f3 : n2 = 285) (f4 : (hLe T0 H0 H1 ∧ hFr s_227.2.2.2.2 H0 H1 ∧ hWt T0 H1) ∧ (Ab_227_80 n2 n1 n0 H0 H1 ∧ preb_227 n2 H0) ∧ some q0 = some (mub_227_80 n2 n1 n0 H0 H1)) (f5 : n3 = (-1)) (f6 : n0 ≠ n3) (f7 : n4 = 296) (f8 : n4 = hV H1 (n1).toNat 22) (f9 : n5 ≤ 62) (f10 : 0 ≤ n5) (f11 : n5 = hV H1 (n1).toNat 33) (f12 : n6 ≤ 16) (f13 : 0 ≤ n6) (f14 : n6 = hV H1 (n4).toNat (n5).toNat) (f15 : n7 = 16) (f16 : n6 ≠ n7) (f17 : n8 ≤ 2) (f18 : 0 ≤ n8) (f19 : n8 = hV H1 (n1).toNat 13) (f20 : n8 ≤ 0) : 0 ≤ n0 := by
  have g4 := f4.2.1.1
  unfold Ab_227_80 at g4
  have g3 := f4.2.1.2
  unfold preb_227 at g3
  have e1 : n5 = hV H0 285 33 := (by rw [f2] at f11; exact f11 : n5 = hV H1 285 33).trans ((f4.1.2.1.1 285 33 kF_227_285_33))
  have e2 : n6 = hV H1 296 (n5).toNat := (by rw [f7] at f14; exact f14 : n6 = hV H1 296 (n5).toNat)
  have e3 : n8 = hV H1 285 13 := (by rw [f2] at f19; exact f19 : n8 = hV H1 285 13)
  have e5 : hV H1 285 18 = hV H0 285 18 := (f4.1.2.1.1 285 18 kF_227_285_18)
  have e7 : hV H1 285 32 = hV H0 285 32 := (f4.1.2.1.1 285 32 kF_227_285_32)
  have e8 : hV H1 285 33 = hV H0 285 33 := (f4.1.2.1.1 285 33 kF_227_285_33)
  have e9 : (0 : Int) ≤ hV H1 285 11 ∧ hV H1 285 11 ≤ 500 := f4.1.2.2 285 11 _ _ kW_285_11
  have e10 : (0 : Int) ≤ hV H1 285 13 ∧ hV H1 285 13 ≤ 2 := f4.1.2.2 285 13 _ _ kW_285_13
  have e11 : (0 : Int) ≤ hV H1 285 15 ∧ hV H1 285 15 ≤ 6 := f4.1.2.2 285 15 _ _ kW_285_15
  have e12 : (0 : Int) ≤ hV H0 285 18 ∧ hV H0 285 18 ≤ 8 := bTo e5 (f4.1.2.2 285 18 _ _ kW_285_18)
  have e13 : (0 : Int) ≤ hV H0 285 32 ∧ hV H0 285 32 ≤ 7 := bTo e7 (f4.1.2.2 285 32 _ _ kW_285_32)
  have e14 : (0 : Int) ≤ hV H0 285 33 ∧ hV H0 285 33 ≤ 62 := bTo e8 (f4.1.2.2 285 33 _ _ kW_285_33)
  have y0 := g4.1
  have y1 := g4.2.1
  have y2 := g4.2.2.1
  have y3 := g4.2.2.2.1
  have y4 := g4.2.2.2.2.1
  have y5 := g4.2.2.2.2.2
  have p0 := g3.1
  have p1 := g3.2.1
  have p2 := g3.2.2.1
  have p3 := g3.2.2.2.1
  have p4 := g3.2.2.2.2.1
  have p5 := g3.2.2.2.2.2.1
  have p6 := g3.2.2.2.2.2.2
  clear g3
  clear g4
  have wb0 := (y2 (hV H0 285 32).toNat).1
  have wp0 := (y2 (hV H0 285 33).toNat).2
  try simp only [e5, e7, e8] at wb0
  try simp only [e5, e7, e8] at wp0
  clear f8 f11 f14 f19 e5 e7 e8
  clear f4
  subst e1
  subst e2
  subst e3

  (try clear y0 y1 y2 p0 p5 p6)
  omega
def g_227_80_0 : vG := ([(35, [8], [], 0), (20, [8, 1], [1], 13), (90, [8], [], 0), (91, [8], [], 2), (41, [6, 7], [], 0), (0, [7], [], 16), (22, [6, 4, 5], [1], 0), (90, [6], [], 0), (91, [6], [], 16), (20, [5, 1], [1], 33), (90, [5], [], 0), (91, [5], [], 62), (20, [4, 1], [1], 22), (0, [4], [], 296), (41, [2, 3], [], 0), (0, [3], [], -1), (5000, [0, 1, 2], [0, 1], 80), (0, [0], [], 285), (0, [1], [], 285), (90, [2], [], -1), (91, [2], [], 5)], (90, [2], [], 0))
theorem c_227_80_0 {q0 : Nat} : vOkm T0 (eP e_227 L_227 A_227 mu_227 (some q0)) 1 g_227_80_0 := vOk_inI fun ρ η f0 f1 f2 f3 f4 f5 f6 f7 f8 f9 f10 f11 f12 f13 f14 f15 f16 f17 f18 f19 f20 => q_227_7 (q0 := q0) (n0 := ρ 2) (n1 := ρ 1) (n2 := ρ 0) (n3 := ρ 3) (n4 := ρ 4) (n5 := ρ 5) (n6 := ρ 6) (n7 := ρ 7) (n8 := ρ 8) (H0 := η 0) (H1 := η 1) f20 f19 f18 f17 f16 f15 f14 f13 f12 f11 f10 f9 f8 f7 f6 f5 f4 f3 f2 f1 f0
set_option maxHeartbeats 20000000 in
theorem q_227_8 {q0 : Nat} {n0 n1 n2 n3 n4 n5 n6 n7 n8 : Int} {H0 H1 : gH} (f0 : n0 ≤ 5) (f1 : (-1) ≤ n0) (f2 : n1 = 285) (f3 : n2 = 285) (f4 : (hLe T0 H0 H1 ∧ hFr s_227.2.2.2.2 H0 H1 ∧ hWt T0 H1) ∧ (Ab_227_80 n2 n1 n0 H0 H1 ∧ preb_227 n2 H0) ∧ some q0 = some (mub_227_80 n2 n1 n0 H0 H1)) (f5 : n3 = (-1)) (f6 : n0 ≠ n3) (f7 : n4 = 296) (f8 : n4 = hV H1 (n1).toNat 22) (f9 : n5 ≤ 62) (f10 : 0 ≤ n5) (f11 : n5 = hV H1 (n1).toNat 33) (f12 : n6 ≤ 16) (f13 : 0 ≤ n6) (f14 : n6 = hV H1 (n4).toNat (n5).toNat) (f15 : n7 = 16) (f16 : n6 ≠ n7) (f17 : n8 ≤ 2) (f18 : 0 ≤ n8) (f19 : n8 = hV H1 (n1).toNat 13) (f20 : n8 ≤ 0) : Ab_227_120 n2 n1 n0 H0 H1 ∧ ∀ q, some q0 = some q → mub_227_120 n2 n1 n0 H0 H1 < q := by
  have g4 := f4.2.1.1
  unfold Ab_227_80 at g4
  have g3 := f4.2.1.2
  unfold preb_227 at g3
  have g5 := Option.some.inj f4.2.2
  unfold mub_227_80 at g5
  unfold Ab_227_120
  unfold mub_227_120
  have e1 : n5 = hV H0 285 33 := (by rw [f2] at f11; exact f11 : n5 = hV H1 285 33).trans ((f4.1.2.1.1 285 33 kF_227_285_33))
  have e2 : n6 = hV H1 296 (n5).toNat := (by rw [f7] at f14; exact f14 : n6 = hV H1 296 (n5).toNat)
  have e3 : n8 = hV H1 285 13 := (by rw [f2] at f19; exact f19 : n8 = hV H1 285 13)
  have e5 : hV H1 285 18 = hV H0 285 18 := (f4.1.2.1.1 285 18 kF_227_285_18)
  have e7 : hV H1 285 32 = hV H0 285 32 := (f4.1.2.1.1 285 32 kF_227_285_32)
  have e8 : hV H1 285 33 = hV H0 285 33 := (f4.1.2.1.1 285 33 kF_227_285_33)
  have e9 : (0 : Int) ≤ hV H1 285 11 ∧ hV H1 285 11 ≤ 500 := f4.1.2.2 285 11 _ _ kW_285_11
  have e10 : (0 : Int) ≤ hV H1 285 13 ∧ hV H1 285 13 ≤ 2 := f4.1.2.2 285 13 _ _ kW_285_13
  have e11 : (0 : Int) ≤ hV H1 285 15 ∧ hV H1 285 15 ≤ 6 := f4.1.2.2 285 15 _ _ kW_285_15
  have e12 : (0 : Int) ≤ hV H0 285 18 ∧ hV H0 285 18 ≤ 8 := bTo e5 (f4.1.2.2 285 18 _ _ kW_285_18)
  have e13 : (0 : Int) ≤ hV H0 285 32 ∧ hV H0 285 32 ≤ 7 := bTo e7 (f4.1.2.2 285 32 _ _ kW_285_32)
  have e14 : (0 : Int) ≤ hV H0 285 33 ∧ hV H0 285 33 ≤ 62 := bTo e8 (f4.1.2.2 285 33 _ _ kW_285_33)
  try simp only [e8]
  have y0 := g4.1
  have y1 := g4.2.1
  have y2 := g4.2.2.1
  have y3 := g4.2.2.2.1
  have y4 := g4.2.2.2.2.1
  have y5 := g4.2.2.2.2.2
  have p0 := g3.1
  have p1 := g3.2.1
  have p2 := g3.2.2.1
  have p3 := g3.2.2.2.1
  have p4 := g3.2.2.2.2.1
  have p5 := g3.2.2.2.2.2.1
  have p6 := g3.2.2.2.2.2.2
  clear g3
  clear g4
  have wb0 := (y2 (hV H0 285 32).toNat).1
  have wp0 := (y2 (hV H0 285 33).toNat).2
  try simp only [e5, e7, e8] at wb0
  try simp only [e5, e7, e8] at wp0
  clear f8 f11 f14 f19 e5 e7 e8
  clear f4
  subst e1
  subst e2
  subst e3

  refine ⟨⟨?_, ?_, ?_, ?_⟩, fun q hq => ?_⟩
  · exact y0
  · intro z1 z2
    exact y1 (by omega) (by omega)
  · exact y2
  · (try clear y0 y1 y2 p0 p5 p6)
    first
    | omega
    | (refine ⟨?_, ?_, ?_, ?_, ?_⟩ <;> first | exact True.intro | omega)
  · (try clear y0 y1 y2 p0 p5 p6)
    have g6 := Option.some.inj hq
    subst g6
    omega
def g_227_80_1 : vG := ([(35, [8], [], 0), (20, [8, 1], [1], 13), (90, [8], [], 0), (91, [8], [], 2), (41, [6, 7], [], 0), (0, [7], [], 16), (22, [6, 4, 5], [1], 0), (90, [6], [], 0), (91, [6], [], 16), (20, [5, 1], [1], 33), (90, [5], [], 0), (91, [5], [], 62), (20, [4, 1], [1], 22), (0, [4], [], 296), (41, [2, 3], [], 0), (0, [3], [], -1), (5000, [0, 1, 2], [0, 1], 80), (0, [0], [], 285), (0, [1], [], 285), (90, [2], [], -1), (91, [2], [], 5)], (4000, [1, 2], [1], 120))
theorem c_227_80_1 {q0 : Nat} : vOkm T0 (eP e_227 L_227 A_227 mu_227 (some q0)) 1 g_227_80_1 := vOk_inI fun ρ η f0 f1 f2 f3 f4 f5 f6 f7 f8 f9 f10 f11 f12 f13 f14 f15 f16 f17 f18 f19 f20 => q_227_8 (q0 := q0) (n0 := ρ 2) (n1 := ρ 1) (n2 := ρ 0) (n3 := ρ 3) (n4 := ρ 4) (n5 := ρ 5) (n6 := ρ 6) (n7 := ρ 7) (n8 := ρ 8) (H0 := η 0) (H1 := η 1) f20 f19 f18 f17 f16 f15 f14 f13 f12 f11 f10 f9 f8 f7 f6 f5 f4 f3 f2 f1 f0
set_option maxHeartbeats 20000000 in
theorem q_227_9 {q0 : Nat} {n0 n1 n2 n3 n4 n5 n6 n7 n8 : Int} {H0 H1 : gH} (f0 : n0 ≤ 5) (f1 : (-1) ≤ n0) (f2 : n1 = 285) (f3 : n2 = 285) (f4 : (hLe T0 H0 H1 ∧ hFr s_227.2.2.2.2 H0 H1 ∧ hWt T0 H1) ∧ (Ab_227_80 n2 n1 n0 H0 H1 ∧ preb_227 n2 H0) ∧ some q0 = some (mub_227_80 n2 n1 n0 H0 H1)) (f5 : n3 = (-1)) (f6 : n0 ≠ n3) (f7 : n4 = 296) (f8 : n4 = hV H1 (n1).toNat 22) (f9 : n5 ≤ 62) (f10 : 0 ≤ n5) (f11 : n5 = hV H1 (n1).toNat 33) (f12 : n6 ≤ 16) (f13 : 0 ≤ n6) (f14 : n6 = hV H1 (n4).toNat (n5).toNat) (f15 : n7 = 16) (f16 : n6 ≠ n7) (f17 : n8 ≤ 2) (f18 : 0 ≤ n8) (f19 : n8 = hV H1 (n1).toNat 13) (f20 : 0 < n8) : postb_227 n2 H0 H1 := by
  have g4 := f4.2.1.1
  unfold Ab_227_80 at g4
  have g3 := f4.2.1.2
  unfold preb_227 at g3
  unfold postb_227
  have e1 : n5 = hV H0 285 33 := (by rw [f2] at f11; exact f11 : n5 = hV H1 285 33).trans ((f4.1.2.1.1 285 33 kF_227_285_33))
  have e2 : n6 = hV H1 296 (n5).toNat := (by rw [f7] at f14; exact f14 : n6 = hV H1 296 (n5).toNat)
  have e3 : n8 = hV H1 285 13 := (by rw [f2] at f19; exact f19 : n8 = hV H1 285 13)
  have e5 : hV H1 285 18 = hV H0 285 18 := (f4.1.2.1.1 285 18 kF_227_285_18)
  have e7 : hV H1 285 32 = hV H0 285 32 := (f4.1.2.1.1 285 32 kF_227_285_32)
  have e8 : hV H1 285 33 = hV H0 285 33 := (f4.1.2.1.1 285 33 kF_227_285_33)
  have e9 : (0 : Int) ≤ hV H1 285 11 ∧ hV H1 285 11 ≤ 500 := f4.1.2.2 285 11 _ _ kW_285_11
  have e10 : (0 : Int) ≤ hV H1 285 13 ∧ hV H1 285 13 ≤ 2 := f4.1.2.2 285 13 _ _ kW_285_13
  have e11 : (0 : Int) ≤ hV H1 285 15 ∧ hV H1 285 15 ≤ 6 := f4.1.2.2 285 15 _ _ kW_285_15
  have e12 : (0 : Int) ≤ hV H0 285 18 ∧ hV H0 285 18 ≤ 8 := bTo e5 (f4.1.2.2 285 18 _ _ kW_285_18)
  have e13 : (0 : Int) ≤ hV H0 285 32 ∧ hV H0 285 32 ≤ 7 := bTo e7 (f4.1.2.2 285 32 _ _ kW_285_32)
  have e14 : (0 : Int) ≤ hV H0 285 33 ∧ hV H0 285 33 ≤ 62 := bTo e8 (f4.1.2.2 285 33 _ _ kW_285_33)
  have y0 := g4.1
  have y1 := g4.2.1
  have y2 := g4.2.2.1
  have y3 := g4.2.2.2.1
  have y4 := g4.2.2.2.2.1
  have y5 := g4.2.2.2.2.2
  have p0 := g3.1
  have p1 := g3.2.1
  have p2 := g3.2.2.1
  have p3 := g3.2.2.2.1
  have p4 := g3.2.2.2.2.1
  have p5 := g3.2.2.2.2.2.1
  have p6 := g3.2.2.2.2.2.2
  clear g3
  clear g4
  have wb0 := (y2 (hV H0 285 32).toNat).1
  have wp0 := (y2 (hV H0 285 33).toNat).2
  try simp only [e5, e7, e8] at wb0
  try simp only [e5, e7, e8] at wp0
  clear f8 f11 f14 f19 e5 e7 e8
  clear f4
  subst e1
  subst e2
  subst e3

  refine ⟨?_, ?_, ?_, ?_⟩
  · exact y0
  · intro z1 z2
    exact y1 (by omega) (by omega)
  · exact y2
  · (try clear y0 y1 y2 p0 p5 p6)
    first
    | omega
    | (refine ⟨?_, ?_, ?_, ?_, ?_⟩ <;> first | exact True.intro | omega)
def g_227_80_2 : vG := ([(34, [8], [], 0), (20, [8, 1], [1], 13), (90, [8], [], 0), (91, [8], [], 2), (41, [6, 7], [], 0), (0, [7], [], 16), (22, [6, 4, 5], [1], 0), (90, [6], [], 0), (91, [6], [], 16), (20, [5, 1], [1], 33), (90, [5], [], 0), (91, [5], [], 62), (20, [4, 1], [1], 22), (0, [4], [], 296), (41, [2, 3], [], 0), (0, [3], [], -1), (5000, [0, 1, 2], [0, 1], 80), (0, [0], [], 285), (0, [1], [], 285), (90, [2], [], -1), (91, [2], [], 5)], (3000, [], [1], 119))
theorem c_227_80_2 {q0 : Nat} : vOkm T0 (eP e_227 L_227 A_227 mu_227 (some q0)) 1 g_227_80_2 := vOk_inI fun ρ η f0 f1 f2 f3 f4 f5 f6 f7 f8 f9 f10 f11 f12 f13 f14 f15 f16 f17 f18 f19 f20 => q_227_9 (q0 := q0) (n0 := ρ 2) (n1 := ρ 1) (n2 := ρ 0) (n3 := ρ 3) (n4 := ρ 4) (n5 := ρ 5) (n6 := ρ 6) (n7 := ρ 7) (n8 := ρ 8) (H0 := η 0) (H1 := η 1) f20 f19 f18 f17 f16 f15 f14 f13 f12 f11 f10 f9 f8 f7 f6 f5 f4 f3 f2 f1 f0
set_option maxHeartbeats 20000000 in
theorem q_227_10 {q0 : Nat} {n0 n1 n2 n3 n4 n5 n6 n7 n8 n9 : Int} {H0 H1 H2 : gH} (f0 : n0 ≤ 5) (f1 : (-1) ≤ n0) (f2 : n1 = 285) (f3 : n2 = 285) (f4 : (hLe T0 H0 H1 ∧ hFr s_227.2.2.2.2 H0 H1 ∧ hWt T0 H1) ∧ (Ab_227_80 n2 n1 n0 H0 H1 ∧ preb_227 n2 H0) ∧ some q0 = some (mub_227_80 n2 n1 n0 H0 H1)) (f5 : n3 = (-1)) (f6 : n0 ≠ n3) (f7 : n4 = 296) (f8 : n4 = hV H1 (n1).toNat 22) (f9 : n5 ≤ 62) (f10 : 0 ≤ n5) (f11 : n5 = hV H1 (n1).toNat 33) (f12 : n6 ≤ 16) (f13 : 0 ≤ n6) (f14 : n6 = hV H1 (n4).toNat (n5).toNat) (f15 : n7 = 16) (f16 : n6 = n7) (f17 : n8 = 2) (f18 : (hLe T0 H1 H2 ∧ hFr s_217.2.2.2.2 H1 H2 ∧ ((0 : Int) = 0 → H2.length = H1.length) ∧ hWt T0 H2) ∧ postb_217 n1 n8 H1 H2) (f19 : n9 ≤ 2) (f20 : 0 ≤ n9) (f21 : n9 = hV H2 (n1).toNat 13) (f22 : n9 ≤ 0) : 0 ≤ n0 := by
  have g4 := f4.2.1.1
  unfold Ab_227_80 at g4
  have g3 := f4.2.1.2
  unfold preb_227 at g3
  unfold postb_217 at f18
  have e1 : n5 = hV H0 285 33 := (by rw [f2] at f11; exact f11 : n5 = hV H1 285 33).trans ((f4.1.2.1.1 285 33 kF_227_285_33))
  have e2 : n6 = hV H1 296 (n5).toNat := (by rw [f7] at f14; exact f14 : n6 = hV H1 296 (n5).toNat)
  have e3 : n9 = hV H2 285 13 := (by rw [f2] at f21; exact f21 : n9 = hV H2 285 13)
  have e5 : hV H1 285 18 = hV H0 285 18 := (f4.1.2.1.1 285 18 kF_227_285_18)
  have e7 : hV H1 285 32 = hV H0 285 32 := (f4.1.2.1.1 285 32 kF_227_285_32)
  have e8 : hV H1 285 33 = hV H0 285 33 := (f4.1.2.1.1 285 33 kF_227_285_33)
  have e9 : (0 : Int) ≤ hV H1 285 11 ∧ hV H1 285 11 ≤ 500 := f4.1.2.2 285 11 _ _ kW_285_11
  have e10 : (0 : Int) ≤ hV H1 285 13 ∧ hV H1 285 13 ≤ 2 := f4.1.2.2 285 13 _ _ kW_285_13
  have e11 : (0 : Int) ≤ hV H1 285 15 ∧ hV H1 285 15 ≤ 6 := f4.1.2.2 285 15 _ _ kW_285_15
  have e12 : (0 : Int) ≤ hV H0 285 18 ∧ hV H0 285 18 ≤ 8 := bTo e5 (f4.1.2.2 285 18 _ _ kW_285_18)
  have e13 : (0 : Int) ≤ hV H0 285 32 ∧ hV H0 285 32 ≤ 7 := bTo e7 (f4.1.2.2 285 32 _ _ kW_285_32)
  have e14 : (0 : Int) ≤ hV H0 285 33 ∧ hV H0 285 33 ≤ 62 := bTo e8 (f4.1.2.2 285 33 _ _ kW_285_33)
  have e15 : (0 : Int) ≤ hV H2 285 13 ∧ hV H2 285 13 ≤ 2 := f18.1.2.2.2 285 13 _ _ kW_285_13
  have y0 := g4.1
  have y1 := g4.2.1
  have y2 := g4.2.2.1
  have y3 := g4.2.2.2.1
  have y4 := g4.2.2.2.2.1
  have y5 := g4.2.2.2.2.2
  have p0 := g3.1
  have p1 := g3.2.1
  have p2 := g3.2.2.1
  have p3 := g3.2.2.2.1
  have p4 := g3.2.2.2.2.1
  have p5 := g3.2.2.2.2.2.1
  have p6 := g3.2.2.2.2.2.2
  have r0_0 := f18.2.1
  have r0_1 := f18.2.2
  clear g3
  clear g4
  have wb0 := (y2 (hV H0 285 32).toNat).1
  have wp0 := (y2 (hV H0 285 33).toNat).2
  try simp only [e5, e7, e8] at wb0
  try simp only [e5, e7, e8] at wp0
  clear f8 f11 f14 f21 e5 e7 e8
  clear f4 f18
  subst e1
  subst e2
  subst e3

  (try clear y0 y1 y2 p0 p5 p6)
  omega
def g_227_80_3 : vG := ([(35, [9], [], 0), (20, [9, 1], [2], 13), (90, [9], [], 0), (91, [9], [], 2), (1217, [1, 8], [1, 2], 0), (0, [8], [], 2), (40, [6, 7], [], 0), (0, [7], [], 16), (22, [6, 4, 5], [1], 0), (90, [6], [], 0), (91, [6], [], 16), (20, [5, 1], [1], 33), (90, [5], [], 0), (91, [5], [], 62), (20, [4, 1], [1], 22), (0, [4], [], 296), (41, [2, 3], [], 0), (0, [3], [], -1), (5000, [0, 1, 2], [0, 1], 80), (0, [0], [], 285), (0, [1], [], 285), (90, [2], [], -1), (91, [2], [], 5)], (90, [2], [], 0))
theorem c_227_80_3 {q0 : Nat} : vOkm T0 (eP e_227 L_227 A_227 mu_227 (some q0)) 1 g_227_80_3 := vOk_inI fun ρ η f0 f1 f2 f3 f4 f5 f6 f7 f8 f9 f10 f11 f12 f13 f14 f15 f16 f17 f18 f19 f20 f21 f22 => q_227_10 (q0 := q0) (n0 := ρ 2) (n1 := ρ 1) (n2 := ρ 0) (n3 := ρ 3) (n4 := ρ 4) (n5 := ρ 5) (n6 := ρ 6) (n7 := ρ 7) (n8 := ρ 8) (n9 := ρ 9) (H0 := η 0) (H1 := η 1) (H2 := η 2) f22 f21 f20 f19 f18 f17 f16 f15 f14 f13 f12 f11 f10 f9 f8 f7 f6 f5 f4 f3 f2 f1 f0
set_option maxHeartbeats 20000000 in
theorem q_227_11 {q0 : Nat} {n0 n1 n2 n3 n4 n5 n6 n7 n8 n9 : Int} {H0 H1 H2 : gH} (f0 : n0 ≤ 5) (f1 : (-1) ≤ n0) (f2 : n1 = 285) (f3 : n2 = 285) (f4 : (hLe T0 H0 H1 ∧ hFr s_227.2.2.2.2 H0 H1 ∧ hWt T0 H1) ∧ (Ab_227_80 n2 n1 n0 H0 H1 ∧ preb_227 n2 H0) ∧ some q0 = some (mub_227_80 n2 n1 n0 H0 H1)) (f5 : n3 = (-1)) (f6 : n0 ≠ n3) (f7 : n4 = 296) (f8 : n4 = hV H1 (n1).toNat 22) (f9 : n5 ≤ 62) (f10 : 0 ≤ n5) (f11 : n5 = hV H1 (n1).toNat 33) (f12 : n6 ≤ 16) (f13 : 0 ≤ n6) (f14 : n6 = hV H1 (n4).toNat (n5).toNat) (f15 : n7 = 16) (f16 : n6 = n7) (f17 : n8 = 2) (f18 : (hLe T0 H1 H2 ∧ hFr s_217.2.2.2.2 H1 H2 ∧ ((0 : Int) = 0 → H2.length = H1.length) ∧ hWt T0 H2) ∧ postb_217 n1 n8 H1 H2) (f19 : n9 ≤ 2) (f20 : 0 ≤ n9) (f21 : n9 = hV H2 (n1).toNat 13) (f22 : n9 ≤ 0) : Ab_227_120 n2 n1 n0 H0 H2 ∧ ∀ q, some q0 = some q → mub_227_120 n2 n1 n0 H0 H2 < q := by
  have g4 := f4.2.1.1
  unfold Ab_227_80 at g4
  have g3 := f4.2.1.2
  unfold preb_227 at g3
  have g5 := Option.some.inj f4.2.2
  unfold mub_227_80 at g5
  unfold postb_217 at f18
  unfold Ab_227_120
  unfold mub_227_120
  have e1 : n5 = hV H0 285 33 := (by rw [f2] at f11; exact f11 : n5 = hV H1 285 33).trans ((f4.1.2.1.1 285 33 kF_227_285_33))
  have e2 : n6 = hV H1 296 (n5).toNat := (by rw [f7] at f14; exact f14 : n6 = hV H1 296 (n5).toNat)
  have e3 : n9 = hV H2 285 13 := (by rw [f2] at f21; exact f21 : n9 = hV H2 285 13)
  have e5 : hV H1 285 18 = hV H0 285 18 := (f4.1.2.1.1 285 18 kF_227_285_18)
  have e7 : hV H1 285 32 = hV H0 285 32 := (f4.1.2.1.1 285 32 kF_227_285_32)
  have e8 : hV H1 285 33 = hV H0 285 33 := (f4.1.2.1.1 285 33 kF_227_285_33)
  have e10 : hV H2 285 11 = hV H1 285 11 := (f18.1.2.1.1 285 11 kF_217_285_11)
  have e12 : hV H2 285 15 = hV H1 285 15 := (f18.1.2.1.1 285 15 kF_217_285_15)
  have e14 : hV H2 285 33 = hV H0 285 33 := ((f18.1.2.1.1 285 33 kF_217_285_33)).trans (f4.1.2.1.1 285 33 kF_227_285_33)
  have e15 : hV H2 296 = hV H1 296 := fRow f18.1.2.1 296 kR_217_296
  have e16 : PA H2 = PA H1 := PA_fr f18.1.2.1 (by decide +kernel)
  have e17 : PQ H2 = PQ H1 := PQ_fr f18.1.2.1 (by decide +kernel)
  have e18 : PW H2 = PW H1 := PW_fr f18.1.2.1 (by decide +kernel)
  have e19 : (0 : Int) ≤ hV H1 285 11 ∧ hV H1 285 11 ≤ 500 := f4.1.2.2 285 11 _ _ kW_285_11
  have e20 : (0 : Int) ≤ hV H1 285 13 ∧ hV H1 285 13 ≤ 2 := f4.1.2.2 285 13 _ _ kW_285_13
  have e21 : (0 : Int) ≤ hV H1 285 15 ∧ hV H1 285 15 ≤ 6 := f4.1.2.2 285 15 _ _ kW_285_15
  have e22 : (0 : Int) ≤ hV H0 285 18 ∧ hV H0 285 18 ≤ 8 := bTo e5 (f4.1.2.2 285 18 _ _ kW_285_18)
  have e23 : (0 : Int) ≤ hV H0 285 32 ∧ hV H0 285 32 ≤ 7 := bTo e7 (f4.1.2.2 285 32 _ _ kW_285_32)
  have e24 : (0 : Int) ≤ hV H0 285 33 ∧ hV H0 285 33 ≤ 62 := bTo e8 (f4.1.2.2 285 33 _ _ kW_285_33)
  have e26 : (0 : Int) ≤ hV H2 285 13 ∧ hV H2 285 13 ≤ 2 := f18.1.2.2.2 285 13 _ _ kW_285_13
  try simp only [e10, e12, e14, e15, e16, e17, e18]
  have y0 := g4.1
  have y1 := g4.2.1
  have y2 := g4.2.2.1
  have y3 := g4.2.2.2.1
  have y4 := g4.2.2.2.2.1
  have y5 := g4.2.2.2.2.2
  have p0 := g3.1
  have p1 := g3.2.1
  have p2 := g3.2.2.1
  have p3 := g3.2.2.2.1
  have p4 := g3.2.2.2.2.1
  have p5 := g3.2.2.2.2.2.1
  have p6 := g3.2.2.2.2.2.2
  have r0_0 := f18.2.1
  have r0_1 := f18.2.2
  clear g3
  clear g4
  have wb0 := (y2 (hV H0 285 32).toNat).1
  have wp0 := (y2 (hV H0 285 33).toNat).2
  try simp only [e5, e7, e8] at wb0
  try simp only [e5, e7, e8] at wp0
  clear f8 f11 f14 f21 e5 e7 e8 e10 e12 e14 e15 e16 e17 e18
  clear f4 f18
  subst e1
  subst e2
  subst e3

  refine ⟨⟨?_, ?_, ?_, ?_⟩, fun q hq => ?_⟩
  · exact y0
  · intro z1 z2
    exact y1 (by omega) (by omega)
  · exact y2
  · (try clear y0 y1 y2 p0 p5 p6)
    first
    | omega
    | (refine ⟨?_, ?_, ?_, ?_, ?_⟩ <;> first | exact True.intro | omega)
  · (try clear y0 y1 y2 p0 p5 p6)
    have g6 := Option.some.inj hq
    subst g6
    omega
def g_227_80_4 : vG := ([(35, [9], [], 0), (20, [9, 1], [2], 13), (90, [9], [], 0), (91, [9], [], 2), (1217, [1, 8], [1, 2], 0), (0, [8], [], 2), (40, [6, 7], [], 0), (0, [7], [], 16), (22, [6, 4, 5], [1], 0), (90, [6], [], 0), (91, [6], [], 16), (20, [5, 1], [1], 33), (90, [5], [], 0), (91, [5], [], 62), (20, [4, 1], [1], 22), (0, [4], [], 296), (41, [2, 3], [], 0), (0, [3], [], -1), (5000, [0, 1, 2], [0, 1], 80), (0, [0], [], 285), (0, [1], [], 285), (90, [2], [], -1), (91, [2], [], 5)], (4000, [1, 2], [2], 120))
theorem c_227_80_4 {q0 : Nat} : vOkm T0 (eP e_227 L_227 A_227 mu_227 (some q0)) 1 g_227_80_4 := vOk_inI fun ρ η f0 f1 f2 f3 f4 f5 f6 f7 f8 f9 f10 f11 f12 f13 f14 f15 f16 f17 f18 f19 f20 f21 f22 => q_227_11 (q0 := q0) (n0 := ρ 2) (n1 := ρ 1) (n2 := ρ 0) (n3 := ρ 3) (n4 := ρ 4) (n5 := ρ 5) (n6 := ρ 6) (n7 := ρ 7) (n8 := ρ 8) (n9 := ρ 9) (H0 := η 0) (H1 := η 1) (H2 := η 2) f22 f21 f20 f19 f18 f17 f16 f15 f14 f13 f12 f11 f10 f9 f8 f7 f6 f5 f4 f3 f2 f1 f0
set_option maxHeartbeats 20000000 in
theorem q_227_12 {q0 : Nat} {n0 n1 n2 n3 n4 n5 n6 n7 n8 n9 : Int} {H0 H1 H2 : gH} (f0 : n0 ≤ 5) (f1 : (-1) ≤ n0) (f2 : n1 = 285) (f3 : n2 = 285) (f4 : (hLe T0 H0 H1 ∧ hFr s_227.2.2.2.2 H0 H1 ∧ hWt T0 H1) ∧ (Ab_227_80 n2 n1 n0 H0 H1 ∧ preb_227 n2 H0) ∧ some q0 = some (mub_227_80 n2 n1 n0 H0 H1)) (f5 : n3 = (-1)) (f6 : n0 ≠ n3) (f7 : n4 = 296) (f8 : n4 = hV H1 (n1).toNat 22) (f9 : n5 ≤ 62) (f10 : 0 ≤ n5) (f11 : n5 = hV H1 (n1).toNat 33) (f12 : n6 ≤ 16) (f13 : 0 ≤ n6) (f14 : n6 = hV H1 (n4).toNat (n5).toNat) (f15 : n7 = 16) (f16 : n6 = n7) (f17 : n8 = 2) (f18 : (hLe T0 H1 H2 ∧ hFr s_217.2.2.2.2 H1 H2 ∧ ((0 : Int) = 0 → H2.length = H1.length) ∧ hWt T0 H2) ∧ postb_217 n1 n8 H1 H2) (f19 : n9 ≤ 2) (f20 : 0 ≤ n9) (f21 : n9 = hV H2 (n1).toNat 13) (f22 : 0 < n9) : postb_227 n2 H0 H2 := by
  have g4 := f4.2.1.1
  unfold Ab_227_80 at g4
  have g3 := f4.2.1.2
  unfold preb_227 at g3
  unfold postb_217 at f18
  unfold postb_227
  have e1 : n5 = hV H0 285 33 := (by rw [f2] at f11; exact f11 : n5 = hV H1 285 33).trans ((f4.1.2.1.1 285 33 kF_227_285_33))
  have e2 : n6 = hV H1 296 (n5).toNat := (by rw [f7] at f14; exact f14 : n6 = hV H1 296 (n5).toNat)
  have e3 : n9 = hV H2 285 13 := (by rw [f2] at f21; exact f21 : n9 = hV H2 285 13)
  have e5 : hV H1 285 18 = hV H0 285 18 := (f4.1.2.1.1 285 18 kF_227_285_18)
  have e7 : hV H1 285 32 = hV H0 285 32 := (f4.1.2.1.1 285 32 kF_227_285_32)
  have e8 : hV H1 285 33 = hV H0 285 33 := (f4.1.2.1.1 285 33 kF_227_285_33)
  have e10 : hV H2 285 11 = hV H1 285 11 := (f18.1.2.1.1 285 11 kF_217_285_11)
  have e12 : hV H2 285 15 = hV H1 285 15 := (f18.1.2.1.1 285 15 kF_217_285_15)
  have e13 : PA H2 = PA H1 := PA_fr f18.1.2.1 (by decide +kernel)
  have e14 : PQ H2 = PQ H1 := PQ_fr f18.1.2.1 (by decide +kernel)
  have e15 : PW H2 = PW H1 := PW_fr f18.1.2.1 (by decide +kernel)
  have e16 : (0 : Int) ≤ hV H1 285 11 ∧ hV H1 285 11 ≤ 500 := f4.1.2.2 285 11 _ _ kW_285_11
  have e17 : (0 : Int) ≤ hV H1 285 13 ∧ hV H1 285 13 ≤ 2 := f4.1.2.2 285 13 _ _ kW_285_13
  have e18 : (0 : Int) ≤ hV H1 285 15 ∧ hV H1 285 15 ≤ 6 := f4.1.2.2 285 15 _ _ kW_285_15
  have e19 : (0 : Int) ≤ hV H0 285 18 ∧ hV H0 285 18 ≤ 8 := bTo e5 (f4.1.2.2 285 18 _ _ kW_285_18)
  have e20 : (0 : Int) ≤ hV H0 285 32 ∧ hV H0 285 32 ≤ 7 := bTo e7 (f4.1.2.2 285 32 _ _ kW_285_32)
  have e21 : (0 : Int) ≤ hV H0 285 33 ∧ hV H0 285 33 ≤ 62 := bTo e8 (f4.1.2.2 285 33 _ _ kW_285_33)
  have e23 : (0 : Int) ≤ hV H2 285 13 ∧ hV H2 285 13 ≤ 2 := f18.1.2.2.2 285 13 _ _ kW_285_13
  try simp only [e10, e12, e13, e14, e15]
  have y0 := g4.1
  have y1 := g4.2.1
  have y2 := g4.2.2.1
  have y3 := g4.2.2.2.1
  have y4 := g4.2.2.2.2.1
  have y5 := g4.2.2.2.2.2
  have p0 := g3.1
  have p1 := g3.2.1
  have p2 := g3.2.2.1
  have p3 := g3.2.2.2.1
  have p4 := g3.2.2.2.2.1
  have p5 := g3.2.2.2.2.2.1
  have p6 := g3.2.2.2.2.2.2
  have r0_0 := f18.2.1
  have r0_1 := f18.2.2
  clear g3
  clear g4
  have wb0 := (y2 (hV H0 285 32).toNat).1
  have wp0 := (y2 (hV H0 285 33).toNat).2
  try simp only [e5, e7, e8] at wb0
  try simp only [e5, e7, e8] at wp0
  clear f8 f11 f14 f21 e5 e7 e8 e10 e12 e13 e14 e15
  clear f4 f18
  subst e1
  subst e2
  subst e3

  refine ⟨?_, ?_, ?_, ?_⟩
  · exact y0
  · intro z1 z2
    exact y1 (by omega) (by omega)
  · exact y2
  · (try clear y0 y1 y2 p0 p5 p6)
    first
    | omega
    | (refine ⟨?_, ?_, ?_, ?_, ?_⟩ <;> first | exact True.intro | omega)
def g_227_80_5 : vG := ([(34, [9], [], 0), (20, [9, 1], [2], 13), (90, [9], [], 0), (91, [9], [], 2), (1217, [1, 8], [1, 2], 0), (0, [8], [], 2), (40, [6, 7], [], 0), (0, [7], [], 16), (22, [6, 4, 5], [1], 0), (90, [6], [], 0), (91, [6], [], 16), (20, [5, 1], [1], 33), (90, [5], [], 0), (91, [5], [], 62), (20, [4, 1], [1], 22), (0, [4], [], 296), (41, [2, 3], [], 0), (0, [3], [], -1), (5000, [0, 1, 2], [0, 1], 80), (0, [0], [], 285), (0, [1], [], 285), (90, [2], [], -1), (91, [2], [], 5)], (3000, [], [2], 119))
theorem c_227_80_5 {q0 : Nat} : vOkm T0 (eP e_227 L_227 A_227 mu_227 (some q0)) 1 g_227_80_5 := vOk_inI fun ρ η f0 f1 f2 f3 f4 f5 f6 f7 f8 f9 f10 f11 f12 f13 f14 f15 f16 f17 f18 f19 f20 f21 f22 => q_227_12 (q0 := q0) (n0 := ρ 2) (n1 := ρ 1) (n2 := ρ 0) (n3 := ρ 3) (n4 := ρ 4) (n5 := ρ 5) (n6 := ρ 6) (n7 := ρ 7) (n8 := ρ 8) (n9 := ρ 9) (H0 := η 0) (H1 := η 1) (H2 := η 2) f22 f21 f20 f19 f18 f17 f16 f15 f14 f13 f12 f11 f10 f9 f8 f7 f6 f5 f4 f3 f2 f1 f0
set_option maxHeartbeats 20000000 in
theorem q_227_13 {q0 : Nat} {n0 n1 n2 n3 n4 n5 : Int} {H0 H1 H2 : gH} (f0 : n0 ≤ 5) (f1 : (-1) ≤ n0) (f2 : n1 = 285) (f3 : n2 = 285) (f4 : (hLe T0 H0 H1 ∧ hFr s_227.2.2.2.2 H0 H1 ∧ hWt T0 H1) ∧ (Ab_227_80 n2 n1 n0 H0 H1 ∧ preb_227 n2 H0) ∧ some q0 = some (mub_227_80 n2 n1 n0 H0 H1)) (f5 : n3 = (-1)) (f6 : n0 = n3) (f7 : n4 = 1) (f8 : (hLe T0 H1 H2 ∧ hFr s_217.2.2.2.2 H1 H2 ∧ ((0 : Int) = 0 → H2.length = H1.length) ∧ hWt T0 H2) ∧ postb_217 n1 n4 H1 H2) (f9 : n5 ≤ 2) (f10 : 0 ≤ n5) (f11 : n5 = hV H2 (n1).toNat 13) (f12 : n5 ≤ 0) : 0 ≤ n0 := by
  have g4 := f4.2.1.1
  unfold Ab_227_80 at g4
  have g3 := f4.2.1.2
  unfold preb_227 at g3
  unfold postb_217 at f8
  have e0 : n5 = hV H2 285 13 := (by rw [f2] at f11; exact f11 : n5 = hV H2 285 13)
  have e2 : hV H1 285 18 = hV H0 285 18 := (f4.1.2.1.1 285 18 kF_227_285_18)
  have e4 : hV H1 285 32 = hV H0 285 32 := (f4.1.2.1.1 285 32 kF_227_285_32)
  have e6 : hV H1 285 33 = hV H0 285 33 := (f4.1.2.1.1 285 33 kF_227_285_33)
  have e7 : (0 : Int) ≤ hV H1 285 11 ∧ hV H1 285 11 ≤ 500 := f4.1.2.2 285 11 _ _ kW_285_11
  have e8 : (0 : Int) ≤ hV H1 285 13 ∧ hV H1 285 13 ≤ 2 := f4.1.2.2 285 13 _ _ kW_285_13
  have e9 : (0 : Int) ≤ hV H1 285 15 ∧ hV H1 285 15 ≤ 6 := f4.1.2.2 285 15 _ _ kW_285_15
  have e10 : (0 : Int) ≤ hV H0 285 18 ∧ hV H0 285 18 ≤ 8 := bTo e2 (f4.1.2.2 285 18 _ _ kW_285_18)
  have e11 : (0 : Int) ≤ hV H0 285 32 ∧ hV H0 285 32 ≤ 7 := bTo e4 (f4.1.2.2 285 32 _ _ kW_285_32)
  have e12 : (0 : Int) ≤ hV H0 285 33 ∧ hV H0 285 33 ≤ 62 := bTo e6 (f4.1.2.2 285 33 _ _ kW_285_33)
  have e13 : (0 : Int) ≤ hV H2 285 13 ∧ hV H2 285 13 ≤ 2 := f8.1.2.2.2 285 13 _ _ kW_285_13
  have y0 := g4.1
  have y1 := g4.2.1
  have y2 := g4.2.2.1
  have y3 := g4.2.2.2.1
  have y4 := g4.2.2.2.2.1
  have y5 := g4.2.2.2.2.2
  have p0 := g3.1
  have p1 := g3.2.1
  have p2 := g3.2.2.1
  have p3 := g3.2.2.2.1
  have p4 := g3.2.2.2.2.1
  have p5 := g3.2.2.2.2.2.1
  have p6 := g3.2.2.2.2.2.2
  have r0_0 := f8.2.1
  have r0_1 := f8.2.2
  clear g3
  clear g4
  have wb0 := (y2 (hV H0 285 32).toNat).1
  have wp0 := (y2 (hV H0 285 33).toNat).2
  try simp only [e2, e4, e6] at wb0
  try simp only [e2, e4, e6] at wp0
  clear f11 e2 e4 e6
  clear f4 f8
  subst e0

  (try clear y0 y1 y2 p0 p5 p6)
  omega
def g_227_80_6 : vG := ([(35, [5], [], 0), (20, [5, 1], [2], 13), (90, [5], [], 0), (91, [5], [], 2), (1217, [1, 4], [1, 2], 0), (0, [4], [], 1), (40, [2, 3], [], 0), (0, [3], [], -1), (5000, [0, 1, 2], [0, 1], 80), (0, [0], [], 285), (0, [1], [], 285), (90, [2], [], -1), (91, [2], [], 5)], (90, [2], [], 0))
theorem c_227_80_6 {q0 : Nat} : vOkm T0 (eP e_227 L_227 A_227 mu_227 (some q0)) 1 g_227_80_6 := vOk_inI fun ρ η f0 f1 f2 f3 f4 f5 f6 f7 f8 f9 f10 f11 f12 => q_227_13 (q0 := q0) (n0 := ρ 2) (n1 := ρ 1) (n2 := ρ 0) (n3 := ρ 3) (n4 := ρ 4) (n5 := ρ 5) (H0 := η 0) (H1 := η 1) (H2 := η 2) f12 f11 f10 f9 f8 f7 f6 f5 f4 f3 f2 f1 f0
set_option maxHeartbeats 20000000 in
theorem q_227_14 {q0 : Nat} {n0 n1 n2 n3 n4 n5 : Int} {H0 H1 H2 : gH} (f0 : n0 ≤ 5) (f1 : (-1) ≤ n0) (f2 : n1 = 285) (f3 : n2 = 285) (f4 : (hLe T0 H0 H1 ∧ hFr s_227.2.2.2.2 H0 H1 ∧ hWt T0 H1) ∧ (Ab_227_80 n2 n1 n0 H0 H1 ∧ preb_227 n2 H0) ∧ some q0 = some (mub_227_80 n2 n1 n0 H0 H1)) (f5 : n3 = (-1)) (f6 : n0 = n3) (f7 : n4 = 1) (f8 : (hLe T0 H1 H2 ∧ hFr s_217.2.2.2.2 H1 H2 ∧ ((0 : Int) = 0 → H2.length = H1.length) ∧ hWt T0 H2) ∧ postb_217 n1 n4 H1 H2) (f9 : n5 ≤ 2) (f10 : 0 ≤ n5) (f11 : n5 = hV H2 (n1).toNat 13) (f12 : n5 ≤ 0) : Ab_227_120 n2 n1 n0 H0 H2 ∧ ∀ q, some q0 = some q → mub_227_120 n2 n1 n0 H0 H2 < q := by
  have g4 := f4.2.1.1
  unfold Ab_227_80 at g4
  have g3 := f4.2.1.2
  unfold preb_227 at g3
  have g5 := Option.some.inj f4.2.2
  unfold mub_227_80 at g5
  unfold postb_217 at f8
  unfold Ab_227_120
  unfold mub_227_120
  have e0 : n5 = hV H2 285 13 := (by rw [f2] at f11; exact f11 : n5 = hV H2 285 13)
  have e2 : hV H1 285 18 = hV H0 285 18 := (f4.1.2.1.1 285 18 kF_227_285_18)
  have e4 : hV H1 285 32 = hV H0 285 32 := (f4.1.2.1.1 285 32 kF_227_285_32)
  have e6 : hV H1 285 33 = hV H0 285 33 := (f4.1.2.1.1 285 33 kF_227_285_33)
  have e8 : hV H2 285 11 = hV H1 285 11 := (f8.1.2.1.1 285 11 kF_217_285_11)
  have e10 : hV H2 285 15 = hV H1 285 15 := (f8.1.2.1.1 285 15 kF_217_285_15)
  have e12 : hV H2 285 33 = hV H0 285 33 := ((f8.1.2.1.1 285 33 kF_217_285_33)).trans (f4.1.2.1.1 285 33 kF_227_285_33)
  have e13 : hV H2 296 = hV H1 296 := fRow f8.1.2.1 296 kR_217_296
  have e14 : PA H2 = PA H1 := PA_fr f8.1.2.1 (by decide +kernel)
  have e15 : PQ H2 = PQ H1 := PQ_fr f8.1.2.1 (by decide +kernel)
  have e16 : PW H2 = PW H1 := PW_fr f8.1.2.1 (by decide +kernel)
  have e17 : (0 : Int) ≤ hV H1 285 11 ∧ hV H1 285 11 ≤ 500 := f4.1.2.2 285 11 _ _ kW_285_11
  have e18 : (0 : Int) ≤ hV H1 285 13 ∧ hV H1 285 13 ≤ 2 := f4.1.2.2 285 13 _ _ kW_285_13
  have e19 : (0 : Int) ≤ hV H1 285 15 ∧ hV H1 285 15 ≤ 6 := f4.1.2.2 285 15 _ _ kW_285_15
  have e20 : (0 : Int) ≤ hV H0 285 18 ∧ hV H0 285 18 ≤ 8 := bTo e2 (f4.1.2.2 285 18 _ _ kW_285_18)
  have e21 : (0 : Int) ≤ hV H0 285 32 ∧ hV H0 285 32 ≤ 7 := bTo e4 (f4.1.2.2 285 32 _ _ kW_285_32)
  have e22 : (0 : Int) ≤ hV H0 285 33 ∧ hV H0 285 33 ≤ 62 := bTo e6 (f4.1.2.2 285 33 _ _ kW_285_33)
  have e24 : (0 : Int) ≤ hV H2 285 13 ∧ hV H2 285 13 ≤ 2 := f8.1.2.2.2 285 13 _ _ kW_285_13
  try simp only [e8, e10, e12, e13, e14, e15, e16]
  have y0 := g4.1
  have y1 := g4.2.1
  have y2 := g4.2.2.1
  have y3 := g4.2.2.2.1
  have y4 := g4.2.2.2.2.1
  have y5 := g4.2.2.2.2.2
  have p0 := g3.1
  have p1 := g3.2.1
  have p2 := g3.2.2.1
  have p3 := g3.2.2.2.1
  have p4 := g3.2.2.2.2.1
  have p5 := g3.2.2.2.2.2.1
  have p6 := g3.2.2.2.2.2.2
  have r0_0 := f8.2.1
  have r0_1 := f8.2.2
  clear g3
  clear g4
  have wb0 := (y2 (hV H0 285 32).toNat).1
  have wp0 := (y2 (hV H0 285 33).toNat).2
  try simp only [e2, e4, e6] at wb0
  try simp only [e2, e4, e6] at wp0
  clear f11 e2 e4 e6 e8 e10 e12 e13 e14 e15 e16
  clear f4 f8
  subst e0

  refine ⟨⟨?_, ?_, ?_, ?_⟩, fun q hq => ?_⟩
  · exact y0
  · intro z1 z2
    exact y1 (by omega) (by omega)
  · exact y2
  · (try clear y0 y1 y2 p0 p5 p6)
    first
    | omega
    | (refine ⟨?_, ?_, ?_, ?_, ?_⟩ <;> first | exact True.intro | omega)
  · (try clear y0 y1 y2 p0 p5 p6)
    have g6 := Option.some.inj hq
    subst g6
    omega
def g_227_80_7 : vG := ([(35, [5], [], 0), (20, [5, 1], [2], 13), (90, [5], [], 0), (91, [5], [], 2), (1217, [1, 4], [1, 2], 0), (0, [4], [], 1), (40, [2, 3], [], 0), (0, [3], [], -1), (5000, [0, 1, 2], [0, 1], 80), (0, [0], [], 285), (0, [1], [], 285), (90, [2], [], -1), (91, [2], [], 5)], (4000, [1, 2], [2], 120))
theorem c_227_80_7 {q0 : Nat} : vOkm T0 (eP e_227 L_227 A_227 mu_227 (some q0)) 1 g_227_80_7 := vOk_inI fun ρ η f0 f1 f2 f3 f4 f5 f6 f7 f8 f9 f10 f11 f12 => q_227_14 (q0 := q0) (n0 := ρ 2) (n1 := ρ 1) (n2 := ρ 0) (n3 := ρ 3) (n4 := ρ 4) (n5 := ρ 5) (H0 := η 0) (H1 := η 1) (H2 := η 2) f12 f11 f10 f9 f8 f7 f6 f5 f4 f3 f2 f1 f0
set_option maxHeartbeats 20000000 in
theorem q_227_15 {q0 : Nat} {n0 n1 n2 n3 n4 n5 : Int} {H0 H1 H2 : gH} (f0 : n0 ≤ 5) (f1 : (-1) ≤ n0) (f2 : n1 = 285) (f3 : n2 = 285) (f4 : (hLe T0 H0 H1 ∧ hFr s_227.2.2.2.2 H0 H1 ∧ hWt T0 H1) ∧ (Ab_227_80 n2 n1 n0 H0 H1 ∧ preb_227 n2 H0) ∧ some q0 = some (mub_227_80 n2 n1 n0 H0 H1)) (f5 : n3 = (-1)) (f6 : n0 = n3) (f7 : n4 = 1) (f8 : (hLe T0 H1 H2 ∧ hFr s_217.2.2.2.2 H1 H2 ∧ ((0 : Int) = 0 → H2.length = H1.length) ∧ hWt T0 H2) ∧ postb_217 n1 n4 H1 H2) (f9 : n5 ≤ 2) (f10 : 0 ≤ n5) (f11 : n5 = hV H2 (n1).toNat 13) (f12 : 0 < n5) : postb_227 n2 H0 H2 := by
  have g4 := f4.2.1.1
  unfold Ab_227_80 at g4
  have g3 := f4.2.1.2
  unfold preb_227 at g3
  unfold postb_217 at f8
  unfold postb_227
  have e0 : n5 = hV H2 285 13 := (by rw [f2] at f11; exact f11 : n5 = hV H2 285 13)
  have e2 : hV H1 285 18 = hV H0 285 18 := (f4.1.2.1.1 285 18 kF_227_285_18)
  have e4 : hV H1 285 32 = hV H0 285 32 := (f4.1.2.1.1 285 32 kF_227_285_32)
  have e6 : hV H1 285 33 = hV H0 285 33 := (f4.1.2.1.1 285 33 kF_227_285_33)
  have e8 : hV H2 285 11 = hV H1 285 11 := (f8.1.2.1.1 285 11 kF_217_285_11)
  have e10 : hV H2 285 15 = hV H1 285 15 := (f8.1.2.1.1 285 15 kF_217_285_15)
  have e11 : PA H2 = PA H1 := PA_fr f8.1.2.1 (by decide +kernel)
  have e12 : PQ H2 = PQ H1 := PQ_fr f8.1.2.1 (by decide +kernel)
  have e13 : PW H2 = PW H1 := PW_fr f8.1.2.1 (by decide +kernel)
  have e14 : (0 : Int) ≤ hV H1 285 11 ∧ hV H1 285 11 ≤ 500 := f4.1.2.2 285 11 _ _ kW_285_11
  have e15 : (0 : Int) ≤ hV H1 285 13 ∧ hV H1 285 13 ≤ 2 := f4.1.2.2 285 13 _ _ kW_285_13
  have e16 : (0 : Int) ≤ hV H1 285 15 ∧ hV H1 285 15 ≤ 6 := f4.1.2.2 285 15 _ _ kW_285_15
  have e17 : (0 : Int) ≤ hV H0 285 18 ∧ hV H0 285 18 ≤ 8 := bTo e2 (f4.1.2.2 285 18 _ _ kW_285_18)
  have e18 : (0 : Int) ≤ hV H0 285 32 ∧ hV H0 285 32 ≤ 7 := bTo e4 (f4.1.2.2 285 32 _ _ kW_285_32)
  have e19 : (0 : Int) ≤ hV H0 285 33 ∧ hV H0 285 33 ≤ 62 := bTo e6 (f4.1.2.2 285 33 _ _ kW_285_33)
  have e21 : (0 : Int) ≤ hV H2 285 13 ∧ hV H2 285 13 ≤ 2 := f8.1.2.2.2 285 13 _ _ kW_285_13
  try simp only [e8, e10, e11, e12, e13]
  have y0 := g4.1
  have y1 := g4.2.1
  have y2 := g4.2.2.1
  have y3 := g4.2.2.2.1
  have y4 := g4.2.2.2.2.1
  have y5 := g4.2.2.2.2.2
  have p0 := g3.1
  have p1 := g3.2.1
  have p2 := g3.2.2.1
  have p3 := g3.2.2.2.1
  have p4 := g3.2.2.2.2.1
  have p5 := g3.2.2.2.2.2.1
  have p6 := g3.2.2.2.2.2.2
  have r0_0 := f8.2.1
  have r0_1 := f8.2.2
  clear g3
  clear g4
  have wb0 := (y2 (hV H0 285 32).toNat).1
  have wp0 := (y2 (hV H0 285 33).toNat).2
  try simp only [e2, e4, e6] at wb0
  try simp only [e2, e4, e6] at wp0
  clear f11 e2 e4 e6 e8 e10 e11 e12 e13
  clear f4 f8
  subst e0

  refine ⟨?_, ?_, ?_, ?_⟩
  · exact y0
  · intro z1 z2
    exact y1 (by omega) (by omega)
  · exact y2
  · (try clear y0 y1 y2 p0 p5 p6)
    first
    | omega
    | (refine ⟨?_, ?_, ?_, ?_, ?_⟩ <;> first | exact True.intro | omega)
def g_227_80_8 : vG := ([(34, [5], [], 0), (20, [5, 1], [2], 13), (90, [5], [], 0), (91, [5], [], 2), (1217, [1, 4], [1, 2], 0), (0, [4], [], 1), (40, [2, 3], [], 0), (0, [3], [], -1), (5000, [0, 1, 2], [0, 1], 80), (0, [0], [], 285), (0, [1], [], 285), (90, [2], [], -1), (91, [2], [], 5)], (3000, [], [2], 119))
theorem c_227_80_8 {q0 : Nat} : vOkm T0 (eP e_227 L_227 A_227 mu_227 (some q0)) 1 g_227_80_8 := vOk_inI fun ρ η f0 f1 f2 f3 f4 f5 f6 f7 f8 f9 f10 f11 f12 => q_227_15 (q0 := q0) (n0 := ρ 2) (n1 := ρ 1) (n2 := ρ 0) (n3 := ρ 3) (n4 := ρ 4) (n5 := ρ 5) (H0 := η 0) (H1 := η 1) (H2 := η 2) f12 f11 f10 f9 f8 f7 f6 f5 f4 f3 f2 f1 f0
def p_227_80 : List vG := [g_227_80_0,
  g_227_80_1,
  g_227_80_2,
  g_227_80_3,
  g_227_80_4,
  g_227_80_5,
  g_227_80_6,
  g_227_80_7,
  g_227_80_8]
theorem r_227_80 : vCovO false (eRc e_227 L_227 cs_227 2000 (80, [(0, (3, 12, 285, 0)), (1, (0, -1, 5, 0))])) p_227_80 = true := by decide +kernel
set_option maxHeartbeats 20000000 in
theorem q_227_16 {q0 : Nat} {n0 n1 n2 n3 n4 n5 n6 n7 n8 n9 : Int} {H0 H1 : gH} (f0 : n0 ≤ 5) (f1 : 0 ≤ n0) (f2 : n1 = 285) (f3 : n2 = 285) (f4 : (hLe T0 H0 H1 ∧ hFr s_227.2.2.2.2 H0 H1 ∧ hWt T0 H1) ∧ (Ab_227_120 n2 n1 n0 H0 H1 ∧ preb_227 n2 H0) ∧ some q0 = some (mub_227_120 n2 n1 n0 H0 H1)) (f5 : n3 = 16) (f6 : n4 ≤ 62) (f7 : 0 ≤ n4) (f8 : n4 = hV H1 (n1).toNat 33) (f9 : n5 = w32 (n3 * n4)) (f10 : n6 = 296) (f11 : n6 = hV H1 (n1).toNat 22) (f12 : n7 ≤ 62) (f13 : 0 ≤ n7) (f14 : n7 = hV H1 (n1).toNat 33) (f15 : n8 ≤ 16) (f16 : 0 ≤ n8) (f17 : n8 = hV H1 (n6).toNat (n7).toNat) (f18 : n9 = w32 (n5 + n8)) : 0 ≤ n9 ∧ n9 < 1008 := by
  have g4 := f4.2.1.1
  unfold Ab_227_120 at g4
  have g3 := f4.2.1.2
  unfold preb_227 at g3
  have e1 : n4 = hV H0 285 33 := (by rw [f2] at f8; exact f8 : n4 = hV H1 285 33).trans ((f4.1.2.1.1 285 33 kF_227_285_33))
  have e2 : n7 = hV H0 285 33 := (by rw [f2] at f14; exact f14 : n7 = hV H1 285 33).trans ((f4.1.2.1.1 285 33 kF_227_285_33))
  have e3 : n8 = hV H1 296 (n7).toNat := (by rw [f10] at f17; exact f17 : n8 = hV H1 296 (n7).toNat)
  have e5 : hV H1 285 18 = hV H0 285 18 := (f4.1.2.1.1 285 18 kF_227_285_18)
  have e7 : hV H1 285 32 = hV H0 285 32 := (f4.1.2.1.1 285 32 kF_227_285_32)
  have e8 : hV H1 285 33 = hV H0 285 33 := (f4.1.2.1.1 285 33 kF_227_285_33)
  have e9 : (0 : Int) ≤ hV H1 285 11 ∧ hV H1 285 11 ≤ 500 := f4.1.2.2 285 11 _ _ kW_285_11
  have e10 : (0 : Int) ≤ hV H1 285 13 ∧ hV H1 285 13 ≤ 2 := f4.1.2.2 285 13 _ _ kW_285_13
  have e11 : (0 : Int) ≤ hV H1 285 15 ∧ hV H1 285 15 ≤ 6 := f4.1.2.2 285 15 _ _ kW_285_15
  have e12 : (0 : Int) ≤ hV H0 285 18 ∧ hV H0 285 18 ≤ 8 := bTo e5 (f4.1.2.2 285 18 _ _ kW_285_18)
  have e13 : (0 : Int) ≤ hV H0 285 32 ∧ hV H0 285 32 ≤ 7 := bTo e7 (f4.1.2.2 285 32 _ _ kW_285_32)
  have e14 : (0 : Int) ≤ hV H0 285 33 ∧ hV H0 285 33 ≤ 62 := bTo e8 (f4.1.2.2 285 33 _ _ kW_285_33)
  have y0 := g4.1
  have y1 := g4.2.1
  have y2 := g4.2.2.1
  have y3 := g4.2.2.2.1
  have y4 := g4.2.2.2.2.1
  have y5 := g4.2.2.2.2.2.1
  have y6 := g4.2.2.2.2.2.2.1
  have y7 := g4.2.2.2.2.2.2.2
  have p0 := g3.1
  have p1 := g3.2.1
  have p2 := g3.2.2.1
  have p3 := g3.2.2.2.1
  have p4 := g3.2.2.2.2.1
  have p5 := g3.2.2.2.2.2.1
  have p6 := g3.2.2.2.2.2.2
  try simp only [e8] at y7
  clear g3
  clear g4
  have wb0 := (y2 (hV H0 285 32).toNat).1
  have wp0 := (y2 (hV H0 285 33).toNat).2
  try simp only [e5, e7, e8] at wb0
  try simp only [e5, e7, e8] at wp0
  clear f8 f11 f14 f17 e5 e7 e8
  clear f4
  subst e1
  subst e2
  subst e3
  rw [f5] at f9
  first
  | (have ix0 : n5 = 16 * (hV H0 285 33) := Eq.trans f9 (w32_iv (Iml 16 rfl (Iat f7 f6)) (by decide)); subst ix0; clear f9)
  | (have ix0 : n5 = 16 * (hV H0 285 33) := Eq.trans f9 (w32_id (by omega) (by omega)); subst ix0; clear f9)
  | (unfold w32 at f9; have ix0 : n5 = 16 * (hV H0 285 33) := (by omega); subst ix0)
  | skip
  first
  | (have ix1 : n9 = (16 * (hV H0 285 33)) + hV H1 296 (hV H0 285 33).toNat := Eq.trans f18 (w32_iv (Iad (Iml 16 rfl (Iat f7 f6)) (Iat f16 f15)) (by decide)); subst ix1; clear f18)
  | (have ix1 : n9 = (16 * (hV H0 285 33)) + hV H1 296 (hV H0 285 33).toNat := Eq.trans f18 (w32_id (by omega) (by omega)); subst ix1; clear f18)
  | (unfold w32 at f18; have ix1 : n9 = (16 * (hV H0 285 33)) + hV H1 296 (hV H0 285 33).toNat := (by omega); subst ix1)
  | skip
  try unfold w32 at f9
  try unfold w32 at f18

  (try clear y0 y1 y2 p0 p5 p6)
  omega
def g_227_120_0 : vG := ([(1, [9, 5, 8], [], 0), (22, [8, 6, 7], [1], 0), (90, [8], [], 0), (91, [8], [], 16), (20, [7, 1], [1], 33), (90, [7], [], 0), (91, [7], [], 62), (20, [6, 1], [1], 22), (0, [6], [], 296), (3, [5, 3, 4], [], 0), (20, [4, 1], [1], 33), (90, [4], [], 0), (91, [4], [], 62), (0, [3], [], 16), (5000, [0, 1, 2], [0, 1], 120), (0, [0], [], 285), (0, [1], [], 285), (90, [2], [], 0), (91, [2], [], 5)], (70, [9], [], 1008))
theorem c_227_120_0 {q0 : Nat} : vOkm T0 (eP e_227 L_227 A_227 mu_227 (some q0)) 1 g_227_120_0 := vOk_inI fun ρ η f0 f1 f2 f3 f4 f5 f6 f7 f8 f9 f10 f11 f12 f13 f14 f15 f16 f17 f18 => q_227_16 (q0 := q0) (n0 := ρ 2) (n1 := ρ 1) (n2 := ρ 0) (n3 := ρ 3) (n4 := ρ 4) (n5 := ρ 5) (n6 := ρ 6) (n7 := ρ 7) (n8 := ρ 8) (n9 := ρ 9) (H0 := η 0) (H1 := η 1) f18 f17 f16 f15 f14 f13 f12 f11 f10 f9 f8 f7 f6 f5 f4 f3 f2 f1 f0
set_option maxHeartbeats 20000000 in
theorem kR_227_294 : vFreeR s_227.2.2.2.2 294 = true := by decide +kernel
theorem kR_227_328 : vFreeR s_227.2.2.2.2 328 = true := by decide +kernel
theorem kR_227_332 : vFreeR s_227.2.2.2.2 332 = true := by decide +kernel
theorem kR_227_335 : vFreeR s_227.2.2.2.2 335 = true := by decide +kernel
theorem kF_227_285_64 : vFree s_227.2.2.2.2 285 64 = true := by decide +kernel
theorem q_227_17 {q0 : Nat} {n0 n1 n2 n3 n4 n5 n6 n7 n8 n9 n10 n11 : Int} {H0 H1 H2 : gH} (f0 : n0 ≤ 5) (f1 : 0 ≤ n0) (f2 : n1 = 285) (f3 : n2 = 285) (f4 : (hLe T0 H0 H1 ∧ hFr s_227.2.2.2.2 H0 H1 ∧ hWt T0 H1) ∧ (Ab_227_120 n2 n1 n0 H0 H1 ∧ preb_227 n2 H0) ∧ some q0 = some (mub_227_120 n2 n1 n0 H0 H1)) (f5 : n3 = 16) (f6 : n4 ≤ 62) (f7 : 0 ≤ n4) (f8 : n4 = hV H1 (n1).toNat 33) (f9 : n5 = w32 (n3 * n4)) (f10 : n6 = 296) (f11 : n6 = hV H1 (n1).toNat 22) (f12 : n7 ≤ 62) (f13 : 0 ≤ n7) (f14 : n7 = hV H1 (n1).toNat 33) (f15 : n8 ≤ 16) (f16 : 0 ≤ n8) (f17 : n8 = hV H1 (n6).toNat (n7).toNat) (f18 : n9 = w32 (n5 + n8)) (f19 : n10 = 298) (f20 : n10 = hV H1 (n1).toNat 24) (f21 : hUpd H2 H1 n10 n9 n0) (f22 : n11 ≤ 500) (f23 : 0 ≤ n11) (f24 : n11 = hV H2 (n1).toNat 11) : 0 ≤ n9 ∧ n9 < 1008 := by
  have g4 := f4.2.1.1
  unfold Ab_227_120 at g4
  have g3 := f4.2.1.2
  unfold preb_227 at g3
  have e1 : n4 = hV H0 285 33 := (by rw [f2] at f8; exact f8 : n4 = hV H1 285 33).trans ((f4.1.2.1.1 285 33 kF_227_285_33))
  have e2 : n7 = hV H0 285 33 := (by rw [f2] at f14; exact f14 : n7 = hV H1 285 33).trans ((f4.1.2.1.1 285 33 kF_227_285_33))
  have e3 : n8 = hV H1 296 (n7).toNat := (by rw [f10] at f17; exact f17 : n8 = hV H1 296 (n7).toNat)
  have e5 : n11 = hV H1 285 11 := (by rw [f2] at f24; exact f24 : n11 = hV H2 285 11).trans ((uPlace f21 285 11 (iS (show n10 = ((298 : Nat) : Int) from f19) rfl)))
  have e7 : hV H1 285 18 = hV H0 285 18 := (f4.1.2.1.1 285 18 kF_227_285_18)
  have e9 : hV H1 285 32 = hV H0 285 32 := (f4.1.2.1.1 285 32 kF_227_285_32)
  have e10 : hV H1 285 33 = hV H0 285 33 := (f4.1.2.1.1 285 33 kF_227_285_33)
  have e12 : hV H1 285 64 = hV H0 285 64 := (f4.1.2.1.1 285 64 kF_227_285_64)
  have e13 : hV H1 294 = hV H0 294 := fRow f4.1.2.1 294 kR_227_294
  have e14 : hV H1 328 = hV H0 328 := fRow f4.1.2.1 328 kR_227_328
  have e15 : hV H1 332 = hV H0 332 := fRow f4.1.2.1 332 kR_227_332
  have e16 : hV H1 335 = hV H0 335 := fRow f4.1.2.1 335 kR_227_335
  have e17 : (0 : Int) ≤ hV H1 285 11 ∧ hV H1 285 11 ≤ 500 := f4.1.2.2 285 11 _ _ kW_285_11
  have e18 : (0 : Int) ≤ hV H1 285 13 ∧ hV H1 285 13 ≤ 2 := f4.1.2.2 285 13 _ _ kW_285_13
  have e19 : (0 : Int) ≤ hV H1 285 15 ∧ hV H1 285 15 ≤ 6 := f4.1.2.2 285 15 _ _ kW_285_15
  have e20 : (0 : Int) ≤ hV H0 285 18 ∧ hV H0 285 18 ≤ 8 := bTo e7 (f4.1.2.2 285 18 _ _ kW_285_18)
  have e21 : (0 : Int) ≤ hV H0 285 32 ∧ hV H0 285 32 ≤ 7 := bTo e9 (f4.1.2.2 285 32 _ _ kW_285_32)
  have e22 : (0 : Int) ≤ hV H0 285 33 ∧ hV H0 285 33 ≤ 62 := bTo e10 (f4.1.2.2 285 33 _ _ kW_285_33)
  have e23 : (0 : Int) ≤ hV H0 285 64 ∧ hV H0 285 64 ≤ 20 := bTo e12 (f4.1.2.2 285 64 _ _ kW_285_64)
  try simp only [PA, PW]
  have y0 := g4.1
  have y1 := g4.2.1
  have y2 := g4.2.2.1
  have y3 := g4.2.2.2.1
  have y4 := g4.2.2.2.2.1
  have y5 := g4.2.2.2.2.2.1
  have y6 := g4.2.2.2.2.2.2.1
  have y7 := g4.2.2.2.2.2.2.2
  have p0 := g3.1
  have p1 := g3.2.1
  have p2 := g3.2.2.1
  have p3 := g3.2.2.2.1
  have p4 := g3.2.2.2.2.1
  have p5 := g3.2.2.2.2.2.1
  have p6 := g3.2.2.2.2.2.2
  try simp only [PA] at y0
  try simp only [PW] at y1
  try simp only [PA] at p0
  try simp only [PW] at p5
  try simp only [e7, e12, e13, e14, e15, e16] at y0
  try simp only [e9, e10, e13] at y1
  try simp only [e10] at y7
  clear g3
  clear g4
  have wb0 := (y2 (hV H0 285 32).toNat).1
  have wp0 := (y2 (hV H0 285 33).toNat).2
  try simp only [e7, e9, e10, e12, e13, e14, e15, e16] at wb0
  try simp only [e7, e9, e10, e12, e13, e14, e15, e16] at wp0
  clear f8 f11 f14 f17 f20 f24 e7 e9 e10 e12 e13 e14 e15 e16
  clear f4
  subst e1
  subst e2
  subst e3
  subst e5
  rw [f5] at f9
  first
  | (have ix0 : n5 = 16 * (hV H0 285 33) := Eq.trans f9 (w32_iv (Iml 16 rfl (Iat f7 f6)) (by decide)); subst ix0; clear f9)
  | (have ix0 : n5 = 16 * (hV H0 285 33) := Eq.trans f9 (w32_id (by omega) (by omega)); subst ix0; clear f9)
  | (unfold w32 at f9; have ix0 : n5 = 16 * (hV H0 285 33) := (by omega); subst ix0)
  | skip
  first
  | (have ix1 : n9 = (16 * (hV H0 285 33)) + hV H1 296 (hV H0 285 33).toNat := Eq.trans f18 (w32_iv (Iad (Iml 16 rfl (Iat f7 f6)) (Iat f16 f15)) (by decide)); subst ix1; clear f18)
  | (have ix1 : n9 = (16 * (hV H0 285 33)) + hV H1 296 (hV H0 285 33).toNat := Eq.trans f18 (w32_id (by omega) (by omega)); subst ix1; clear f18)
  | (unfold w32 at f18; have ix1 : n9 = (16 * (hV H0 285 33)) + hV H1 296 (hV H0 285 33).toNat := (by omega); subst ix1)
  | skip
  try unfold w32 at f9
  try unfold w32 at f18

  (try clear y0 y1 y2 p0 p5 p6)
  omega
def g_227_120_1 : vG := ([(20, [13, 1], [2], 11), (90, [13], [], 0), (91, [13], [], 500), (80, [10, 9, 2], [2, 1], 0), (20, [10, 1], [1], 24), (0, [10], [], 298), (1, [9, 5, 8], [], 0), (22, [8, 6, 7], [1], 0), (90, [8], [], 0), (91, [8], [], 16), (20, [7, 1], [1], 33), (90, [7], [], 0), (91, [7], [], 62), (20, [6, 1], [1], 22), (0, [6], [], 296), (3, [5, 3, 4], [], 0), (20, [4, 1], [1], 33), (90, [4], [], 0), (91, [4], [], 62), (0, [3], [], 16), (5000, [0, 1, 2], [0, 1], 120), (0, [0], [], 285), (0, [1], [], 285), (90, [2], [], 0), (91, [2], [], 5)], (70, [9], [], 1008))
theorem c_227_120_1 {q0 : Nat} : vOkm T0 (eP e_227 L_227 A_227 mu_227 (some q0)) 1 g_227_120_1 := vOk_inI fun ρ η f0 f1 f2 f3 f4 f5 f6 f7 f8 f9 f10 f11 f12 f13 f14 f15 f16 f17 f18 f19 f20 f21 f22 f23 f24 => q_227_17 (q0 := q0) (n0 := ρ 2) (n1 := ρ 1) (n2 := ρ 0) (n3 := ρ 3) (n4 := ρ 4) (n5 := ρ 5) (n6 := ρ 6) (n7 := ρ 7) (n8 := ρ 8) (n9 := ρ 9) (n10 := ρ 10) (n11 := ρ 13) (H0 := η 0) (H1 := η 1) (H2 := η 2) f24 f23 f22 f21 f20 f19 f18 f17 f16 f15 f14 f13 f12 f11 f10 f9 f8 f7 f6 f5 f4 f3 f2 f1 f0
def g_227_120_2 : vG := ([(20, [13, 1], [2], 11), (90, [13], [], 0), (91, [13], [], 500), (80, [10, 9, 2], [2, 1], 0), (20, [10, 1], [1], 24), (0, [10], [], 298), (1, [9, 5, 8], [], 0), (22, [8, 6, 7], [1], 0), (90, [8], [], 0), (91, [8], [], 16), (20, [7, 1], [1], 33), (90, [7], [], 0), (91, [7], [], 62), (20, [6, 1], [1], 22), (0, [6], [], 296), (3, [5, 3, 4], [], 0), (20, [4, 1], [1], 33), (90, [4], [], 0), (91, [4], [], 62), (0, [3], [], 16), (5000, [0, 1, 2], [0, 1], 120), (0, [0], [], 285), (0, [1], [], 285), (90, [2], [], 0), (91, [2], [], 5)], (70, [9], [], 1008))
theorem c_227_120_2 {q0 : Nat} : vOkm T0 (eP e_227 L_227 A_227 mu_227 (some q0)) 1 g_227_120_2 := vOk_inI fun ρ η f0 f1 f2 f3 f4 f5 f6 f7 f8 f9 f10 f11 f12 f13 f14 f15 f16 f17 f18 f19 f20 f21 f22 f23 f24 => q_227_17 (q0 := q0) (n0 := ρ 2) (n1 := ρ 1) (n2 := ρ 0) (n3 := ρ 3) (n4 := ρ 4) (n5 := ρ 5) (n6 := ρ 6) (n7 := ρ 7) (n8 := ρ 8) (n9 := ρ 9) (n10 := ρ 10) (n11 := ρ 13) (H0 := η 0) (H1 := η 1) (H2 := η 2) f24 f23 f22 f21 f20 f19 f18 f17 f16 f15 f14 f13 f12 f11 f10 f9 f8 f7 f6 f5 f4 f3 f2 f1 f0
def g_227_120_3 : vG := ([(20, [13, 1], [2], 11), (90, [13], [], 0), (91, [13], [], 500), (80, [10, 9, 2], [2, 1], 0), (20, [10, 1], [1], 24), (0, [10], [], 298), (1, [9, 5, 8], [], 0), (22, [8, 6, 7], [1], 0), (90, [8], [], 0), (91, [8], [], 16), (20, [7, 1], [1], 33), (90, [7], [], 0), (91, [7], [], 62), (20, [6, 1], [1], 22), (0, [6], [], 296), (3, [5, 3, 4], [], 0), (20, [4, 1], [1], 33), (90, [4], [], 0), (91, [4], [], 62), (0, [3], [], 16), (5000, [0, 1, 2], [0, 1], 120), (0, [0], [], 285), (0, [1], [], 285), (90, [2], [], 0), (91, [2], [], 5)], (70, [9], [], 1008))
theorem c_227_120_3 {q0 : Nat} : vOkm T0 (eP e_227 L_227 A_227 mu_227 (some q0)) 1 g_227_120_3 := vOk_inI fun ρ η f0 f1 f2 f3 f4 f5 f6 f7 f8 f9 f10 f11 f12 f13 f14 f15 f16 f17 f18 f19 f20 f21 f22 f23 f24 => q_227_17 (q0 := q0) (n0 := ρ 2) (n1 := ρ 1) (n2 := ρ 0) (n3 := ρ 3) (n4 := ρ 4) (n5 := ρ 5) (n6 := ρ 6) (n7 := ρ 7) (n8 := ρ 8) (n9 := ρ 9) (n10 := ρ 10) (n11 := ρ 13) (H0 := η 0) (H1 := η 1) (H2 := η 2) f24 f23 f22 f21 f20 f19 f18 f17 f16 f15 f14 f13 f12 f11 f10 f9 f8 f7 f6 f5 f4 f3 f2 f1 f0
set_option maxHeartbeats 20000000 in
theorem q_227_18 {q0 : Nat} {n0 n1 n2 n3 n4 n5 n6 n7 n8 n9 n10 n11 : Int} {H0 H1 H2 : gH} (f0 : n0 ≤ 5) (f1 : 0 ≤ n0) (f2 : n1 = 285) (f3 : n2 = 285) (f4 : (hLe T0 H0 H1 ∧ hFr s_227.2.2.2.2 H0 H1 ∧ hWt T0 H1) ∧ (Ab_227_120 n2 n1 n0 H0 H1 ∧ preb_227 n2 H0) ∧ some q0 = some (mub_227_120 n2 n1 n0 H0 H1)) (f5 : n3 = 16) (f6 : n4 ≤ 62) (f7 : 0 ≤ n4) (f8 : n4 = hV H1 (n1).toNat 33) (f9 : n5 = w32 (n3 * n4)) (f10 : n6 = 296) (f11 : n6 = hV H1 (n1).toNat 22) (f12 : n7 ≤ 62) (f13 : 0 ≤ n7) (f14 : n7 = hV H1 (n1).toNat 33) (f15 : n8 ≤ 16) (f16 : 0 ≤ n8) (f17 : n8 = hV H1 (n6).toNat (n7).toNat) (f18 : n9 = w32 (n5 + n8)) (f19 : n10 = 298) (f20 : n10 = hV H1 (n1).toNat 24) (f21 : hUpd H2 H1 n10 n9 n0) (f22 : n11 ≤ 500) (f23 : 0 ≤ n11) (f24 : n11 = hV H2 (n1).toNat 11) : 0 ≤ n9 := by
  have g4 := f4.2.1.1
  unfold Ab_227_120 at g4
  have g3 := f4.2.1.2
  unfold preb_227 at g3
  have e1 : n4 = hV H0 285 33 := (by rw [f2] at f8; exact f8 : n4 = hV H1 285 33).trans ((f4.1.2.1.1 285 33 kF_227_285_33))
  have e2 : n7 = hV H0 285 33 := (by rw [f2] at f14; exact f14 : n7 = hV H1 285 33).trans ((f4.1.2.1.1 285 33 kF_227_285_33))
  have e3 : n8 = hV H1 296 (n7).toNat := (by rw [f10] at f17; exact f17 : n8 = hV H1 296 (n7).toNat)
  have e5 : n11 = hV H1 285 11 := (by rw [f2] at f24; exact f24 : n11 = hV H2 285 11).trans ((uPlace f21 285 11 (iS (show n10 = ((298 : Nat) : Int) from f19) rfl)))
  have e7 : hV H1 285 18 = hV H0 285 18 := (f4.1.2.1.1 285 18 kF_227_285_18)
  have e9 : hV H1 285 32 = hV H0 285 32 := (f4.1.2.1.1 285 32 kF_227_285_32)
  have e10 : hV H1 285 33 = hV H0 285 33 := (f4.1.2.1.1 285 33 kF_227_285_33)
  have e12 : hV H1 285 64 = hV H0 285 64 := (f4.1.2.1.1 285 64 kF_227_285_64)
  have e13 : hV H1 294 = hV H0 294 := fRow f4.1.2.1 294 kR_227_294
  have e14 : hV H1 328 = hV H0 328 := fRow f4.1.2.1 328 kR_227_328
  have e15 : hV H1 332 = hV H0 332 := fRow f4.1.2.1 332 kR_227_332
  have e16 : hV H1 335 = hV H0 335 := fRow f4.1.2.1 335 kR_227_335
  have e17 : (0 : Int) ≤ hV H1 285 11 ∧ hV H1 285 11 ≤ 500 := f4.1.2.2 285 11 _ _ kW_285_11
  have e18 : (0 : Int) ≤ hV H1 285 13 ∧ hV H1 285 13 ≤ 2 := f4.1.2.2 285 13 _ _ kW_285_13
  have e19 : (0 : Int) ≤ hV H1 285 15 ∧ hV H1 285 15 ≤ 6 := f4.1.2.2 285 15 _ _ kW_285_15
  have e20 : (0 : Int) ≤ hV H0 285 18 ∧ hV H0 285 18 ≤ 8 := bTo e7 (f4.1.2.2 285 18 _ _ kW_285_18)
  have e21 : (0 : Int) ≤ hV H0 285 32 ∧ hV H0 285 32 ≤ 7 := bTo e9 (f4.1.2.2 285 32 _ _ kW_285_32)
  have e22 : (0 : Int) ≤ hV H0 285 33 ∧ hV H0 285 33 ≤ 62 := bTo e10 (f4.1.2.2 285 33 _ _ kW_285_33)
  have e23 : (0 : Int) ≤ hV H0 285 64 ∧ hV H0 285 64 ≤ 20 := bTo e12 (f4.1.2.2 285 64 _ _ kW_285_64)
  try simp only [PA, PW]
  have y0 := g4.1
  have y1 := g4.2.1
  have y2 := g4.2.2.1
  have y3 := g4.2.2.2.1
  have y4 := g4.2.2.2.2.1
  have y5 := g4.2.2.2.2.2.1
  have y6 := g4.2.2.2.2.2.2.1
  have y7 := g4.2.2.2.2.2.2.2
  have p0 := g3.1
  have p1 := g3.2.1
  have p2 := g3.2.2.1
  have p3 := g3.2.2.2.1
  have p4 := g3.2.2.2.2.1
  have p5 := g3.2.2.2.2.2.1
  have p6 := g3.2.2.2.2.2.2
  try simp only [PA] at y0
  try simp only [PW] at y1
  try simp only [PA] at p0
  try simp only [PW] at p5
  try simp only [e7, e12, e13, e14, e15, e16] at y0
  try simp only [e9, e10, e13] at y1
  try simp only [e10] at y7
  clear g3
  clear g4
  have wb0 := (y2 (hV H0 285 32).toNat).1
  have wp0 := (y2 (hV H0 285 33).toNat).2
  try simp only [e7, e9, e10, e12, e13, e14, e15, e16] at wb0
  try simp only [e7, e9, e10, e12, e13, e14, e15, e16] at wp0
  clear f8 f11 f14 f17 f20 f24 e7 e9 e10 e12 e13 e14 e15 e16
  clear f4
  subst e1
  subst e2
  subst e3
  subst e5
  rw [f5] at f9
  first
  | (have ix0 : n5 = 16 * (hV H0 285 33) := Eq.trans f9 (w32_iv (Iml 16 rfl (Iat f7 f6)) (by decide)); subst ix0; clear f9)
  | (have ix0 : n5 = 16 * (hV H0 285 33) := Eq.trans f9 (w32_id (by omega) (by omega)); subst ix0; clear f9)
  | (unfold w32 at f9; have ix0 : n5 = 16 * (hV H0 285 33) := (by omega); subst ix0)
  | skip
  first
  | (have ix1 : n9 = (16 * (hV H0 285 33)) + hV H1 296 (hV H0 285 33).toNat := Eq.trans f18 (w32_iv (Iad (Iml 16 rfl (Iat f7 f6)) (Iat f16 f15)) (by decide)); subst ix1; clear f18)
  | (have ix1 : n9 = (16 * (hV H0 285 33)) + hV H1 296 (hV H0 285 33).toNat := Eq.trans f18 (w32_id (by omega) (by omega)); subst ix1; clear f18)
  | (unfold w32 at f18; have ix1 : n9 = (16 * (hV H0 285 33)) + hV H1 296 (hV H0 285 33).toNat := (by omega); subst ix1)
  | skip
  try unfold w32 at f9
  try unfold w32 at f18

  (try clear y0 y1 y2 p0 p5 p6)
  omega
def g_227_120_4 : vG := ([(20, [13, 1], [2], 11), (90, [13], [], 0), (91, [13], [], 500), (80, [10, 9, 2], [2, 1], 0), (20, [10, 1], [1], 24), (0, [10], [], 298), (1, [9, 5, 8], [], 0), (22, [8, 6, 7], [1], 0), (90, [8], [], 0), (91, [8], [], 16), (20, [7, 1], [1], 33), (90, [7], [], 0), (91, [7], [], 62), (20, [6, 1], [1], 22), (0, [6], [], 296), (3, [5, 3, 4], [], 0), (20, [4, 1], [1], 33), (90, [4], [], 0), (91, [4], [], 62), (0, [3], [], 16), (5000, [0, 1, 2], [0, 1], 120), (0, [0], [], 285), (0, [1], [], 285), (90, [2], [], 0), (91, [2], [], 5)], (90, [9], [], 0))
theorem c_227_120_4 {q0 : Nat} : vOkm T0 (eP e_227 L_227 A_227 mu_227 (some q0)) 1 g_227_120_4 := vOk_inI fun ρ η f0 f1 f2 f3 f4 f5 f6 f7 f8 f9 f10 f11 f12 f13 f14 f15 f16 f17 f18 f19 f20 f21 f22 f23 f24 => q_227_18 (q0 := q0) (n0 := ρ 2) (n1 := ρ 1) (n2 := ρ 0) (n3 := ρ 3) (n4 := ρ 4) (n5 := ρ 5) (n6 := ρ 6) (n7 := ρ 7) (n8 := ρ 8) (n9 := ρ 9) (n10 := ρ 10) (n11 := ρ 13) (H0 := η 0) (H1 := η 1) (H2 := η 2) f24 f23 f22 f21 f20 f19 f18 f17 f16 f15 f14 f13 f12 f11 f10 f9 f8 f7 f6 f5 f4 f3 f2 f1 f0
set_option maxHeartbeats 20000000 in
theorem q_227_19 {q0 : Nat} {n0 n1 n2 n3 n4 n5 n6 n7 n8 n9 n10 n11 : Int} {H0 H1 H2 : gH} (f0 : n0 ≤ 5) (f1 : 0 ≤ n0) (f2 : n1 = 285) (f3 : n2 = 285) (f4 : (hLe T0 H0 H1 ∧ hFr s_227.2.2.2.2 H0 H1 ∧ hWt T0 H1) ∧ (Ab_227_120 n2 n1 n0 H0 H1 ∧ preb_227 n2 H0) ∧ some q0 = some (mub_227_120 n2 n1 n0 H0 H1)) (f5 : n3 = 16) (f6 : n4 ≤ 62) (f7 : 0 ≤ n4) (f8 : n4 = hV H1 (n1).toNat 33) (f9 : n5 = w32 (n3 * n4)) (f10 : n6 = 296) (f11 : n6 = hV H1 (n1).toNat 22) (f12 : n7 ≤ 62) (f13 : 0 ≤ n7) (f14 : n7 = hV H1 (n1).toNat 33) (f15 : n8 ≤ 16) (f16 : 0 ≤ n8) (f17 : n8 = hV H1 (n6).toNat (n7).toNat) (f18 : n9 = w32 (n5 + n8)) (f19 : n10 = 298) (f20 : n10 = hV H1 (n1).toNat 24) (f21 : hUpd H2 H1 n10 n9 n0) (f22 : n11 ≤ 500) (f23 : 0 ≤ n11) (f24 : n11 = hV H2 (n1).toNat 11) : n9 ≤ 1007 := by
  have g4 := f4.2.1.1
  unfold Ab_227_120 at g4
  have g3 := f4.2.1.2
  unfold preb_227 at g3
  have e1 : n4 = hV H0 285 33 := (by rw [f2] at f8; exact f8 : n4 = hV H1 285 33).trans ((f4.1.2.1.1 285 33 kF_227_285_33))
  have e2 : n7 = hV H0 285 33 := (by rw [f2] at f14; exact f14 : n7 = hV H1 285 33).trans ((f4.1.2.1.1 285 33 kF_227_285_33))
  have e3 : n8 = hV H1 296 (n7).toNat := (by rw [f10] at f17; exact f17 : n8 = hV H1 296 (n7).toNat)
  have e5 : n11 = hV H1 285 11 := (by rw [f2] at f24; exact f24 : n11 = hV H2 285 11).trans ((uPlace f21 285 11 (iS (show n10 = ((298 : Nat) : Int) from f19) rfl)))
  have e7 : hV H1 285 18 = hV H0 285 18 := (f4.1.2.1.1 285 18 kF_227_285_18)
  have e9 : hV H1 285 32 = hV H0 285 32 := (f4.1.2.1.1 285 32 kF_227_285_32)
  have e10 : hV H1 285 33 = hV H0 285 33 := (f4.1.2.1.1 285 33 kF_227_285_33)
  have e12 : hV H1 285 64 = hV H0 285 64 := (f4.1.2.1.1 285 64 kF_227_285_64)
  have e13 : hV H1 294 = hV H0 294 := fRow f4.1.2.1 294 kR_227_294
  have e14 : hV H1 328 = hV H0 328 := fRow f4.1.2.1 328 kR_227_328
  have e15 : hV H1 332 = hV H0 332 := fRow f4.1.2.1 332 kR_227_332
  have e16 : hV H1 335 = hV H0 335 := fRow f4.1.2.1 335 kR_227_335
  have e17 : (0 : Int) ≤ hV H1 285 11 ∧ hV H1 285 11 ≤ 500 := f4.1.2.2 285 11 _ _ kW_285_11
  have e18 : (0 : Int) ≤ hV H1 285 13 ∧ hV H1 285 13 ≤ 2 := f4.1.2.2 285 13 _ _ kW_285_13
  have e19 : (0 : Int) ≤ hV H1 285 15 ∧ hV H1 285 15 ≤ 6 := f4.1.2.2 285 15 _ _ kW_285_15
  have e20 : (0 : Int) ≤ hV H0 285 18 ∧ hV H0 285 18 ≤ 8 := bTo e7 (f4.1.2.2 285 18 _ _ kW_285_18)
  have e21 : (0 : Int) ≤ hV H0 285 32 ∧ hV H0 285 32 ≤ 7 := bTo e9 (f4.1.2.2 285 32 _ _ kW_285_32)
  have e22 : (0 : Int) ≤ hV H0 285 33 ∧ hV H0 285 33 ≤ 62 := bTo e10 (f4.1.2.2 285 33 _ _ kW_285_33)
  have e23 : (0 : Int) ≤ hV H0 285 64 ∧ hV H0 285 64 ≤ 20 := bTo e12 (f4.1.2.2 285 64 _ _ kW_285_64)
  try simp only [PA, PW]
  have y0 := g4.1
  have y1 := g4.2.1
  have y2 := g4.2.2.1
  have y3 := g4.2.2.2.1
  have y4 := g4.2.2.2.2.1
  have y5 := g4.2.2.2.2.2.1
  have y6 := g4.2.2.2.2.2.2.1
  have y7 := g4.2.2.2.2.2.2.2
  have p0 := g3.1
  have p1 := g3.2.1
  have p2 := g3.2.2.1
  have p3 := g3.2.2.2.1
  have p4 := g3.2.2.2.2.1
  have p5 := g3.2.2.2.2.2.1
  have p6 := g3.2.2.2.2.2.2
  try simp only [PA] at y0
  try simp only [PW] at y1
  try simp only [PA] at p0
  try simp only [PW] at p5
  try simp only [e7, e12, e13, e14, e15, e16] at y0
  try simp only [e9, e10, e13] at y1
  try simp only [e10] at y7
  clear g3
  clear g4
  have wb0 := (y2 (hV H0 285 32).toNat).1
  have wp0 := (y2 (hV H0 285 33).toNat).2
  try simp only [e7, e9, e10, e12, e13, e14, e15, e16] at wb0
  try simp only [e7, e9, e10, e12, e13, e14, e15, e16] at wp0
  clear f8 f11 f14 f17 f20 f24 e7 e9 e10 e12 e13 e14 e15 e16
  clear f4
  subst e1
  subst e2
  subst e3
  subst e5
  rw [f5] at f9
  first
  | (have ix0 : n5 = 16 * (hV H0 285 33) := Eq.trans f9 (w32_iv (Iml 16 rfl (Iat f7 f6)) (by decide)); subst ix0; clear f9)
  | (have ix0 : n5 = 16 * (hV H0 285 33) := Eq.trans f9 (w32_id (by omega) (by omega)); subst ix0; clear f9)
  | (unfold w32 at f9; have ix0 : n5 = 16 * (hV H0 285 33) := (by omega); subst ix0)
  | skip
  first
  | (have ix1 : n9 = (16 * (hV H0 285 33)) + hV H1 296 (hV H0 285 33).toNat := Eq.trans f18 (w32_iv (Iad (Iml 16 rfl (Iat f7 f6)) (Iat f16 f15)) (by decide)); subst ix1; clear f18)
  | (have ix1 : n9 = (16 * (hV H0 285 33)) + hV H1 296 (hV H0 285 33).toNat := Eq.trans f18 (w32_id (by omega) (by omega)); subst ix1; clear f18)
  | (unfold w32 at f18; have ix1 : n9 = (16 * (hV H0 285 33)) + hV H1 296 (hV H0 285 33).toNat := (by omega); subst ix1)
  | skip
  try unfold w32 at f9
  try unfold w32 at f18

  (try clear y0 y1 y2 p0 p5 p6)
  omega
def g_227_120_5 : vG := ([(20, [13, 1], [2], 11), (90, [13], [], 0), (91, [13], [], 500), (80, [10, 9, 2], [2, 1], 0), (20, [10, 1], [1], 24), (0, [10], [], 298), (1, [9, 5, 8], [], 0), (22, [8, 6, 7], [1], 0), (90, [8], [], 0), (91, [8], [], 16), (20, [7, 1], [1], 33), (90, [7], [], 0), (91, [7], [], 62), (20, [6, 1], [1], 22), (0, [6], [], 296), (3, [5, 3, 4], [], 0), (20, [4, 1], [1], 33), (90, [4], [], 0), (91, [4], [], 62), (0, [3], [], 16), (5000, [0, 1, 2], [0, 1], 120), (0, [0], [], 285), (0, [1], [], 285), (90, [2], [], 0), (91, [2], [], 5)], (91, [9], [], 1007))
theorem c_227_120_5 {q0 : Nat} : vOkm T0 (eP e_227 L_227 A_227 mu_227 (some q0)) 1 g_227_120_5 := vOk_inI fun ρ η f0 f1 f2 f3 f4 f5 f6 f7 f8 f9 f10 f11 f12 f13 f14 f15 f16 f17 f18 f19 f20 f21 f22 f23 f24 => q_227_19 (q0 := q0) (n0 := ρ 2) (n1 := ρ 1) (n2 := ρ 0) (n3 := ρ 3) (n4 := ρ 4) (n5 := ρ 5) (n6 := ρ 6) (n7 := ρ 7) (n8 := ρ 8) (n9 := ρ 9) (n10 := ρ 10) (n11 := ρ 13) (H0 := η 0) (H1 := η 1) (H2 := η 2) f24 f23 f22 f21 f20 f19 f18 f17 f16 f15 f14 f13 f12 f11 f10 f9 f8 f7 f6 f5 f4 f3 f2 f1 f0
set_option maxHeartbeats 20000000 in
theorem kR_227_289 : vFreeR s_227.2.2.2.2 289 = true := by decide +kernel
theorem q_227_20 {q0 : Nat} {n0 n1 n2 n3 n4 n5 n6 n7 n8 n9 n10 n11 n12 n13 n14 n15 n16 n17 n18 n19 : Int} {H0 H1 H2 H3 H4 H5 H6 : gH} (f0 : n0 ≤ 5) (f1 : 0 ≤ n0) (f2 : n1 = 285) (f3 : n2 = 285) (f4 : (hLe T0 H0 H1 ∧ hFr s_227.2.2.2.2 H0 H1 ∧ hWt T0 H1) ∧ (Ab_227_120 n2 n1 n0 H0 H1 ∧ preb_227 n2 H0) ∧ some q0 = some (mub_227_120 n2 n1 n0 H0 H1)) (f5 : n3 = 16) (f6 : n4 ≤ 62) (f7 : 0 ≤ n4) (f8 : n4 = hV H1 (n1).toNat 33) (f9 : n5 = w32 (n3 * n4)) (f10 : n6 = 296) (f11 : n6 = hV H1 (n1).toNat 22) (f12 : n7 ≤ 62) (f13 : 0 ≤ n7) (f14 : n7 = hV H1 (n1).toNat 33) (f15 : n8 ≤ 16) (f16 : 0 ≤ n8) (f17 : n8 = hV H1 (n6).toNat (n7).toNat) (f18 : n9 = w32 (n5 + n8)) (f19 : n10 = 298) (f20 : n10 = hV H1 (n1).toNat 24) (f21 : hUpd H2 H1 n10 n9 n0) (f22 : n11 = 299) (f23 : n11 = hV H2 (n1).toNat 25) (f24 : n12 = 289) (f25 : n12 = hV H2 (n1).toNat 6) (f26 : n13 ≤ 500) (f27 : 0 ≤ n13) (f28 : n13 = hV H2 (n1).toNat 11) (f29 : n14 ≤ 2000) (f30 : 0 ≤ n14) (f31 : n14 = hV H2 (n12).toNat (n13).toNat) (f32 : hUpd H3 H2 n11 n9 n14) (f33 : n15 = 301) (f34 : n15 = hV H3 (n1).toNat 27) (f35 : n16 = (-1)) (f36 : hUpd H4 H3 n15 n9 n16) (f37 : n17 = 303) (f38 : n17 = hV H4 (n1).toNat 29) (f39 : n18 = (-1)) (f40 : hUpd H5 H4 n17 n9 n18) (f41 : (hLe T0 H5 H6 ∧ hFr s_219.2.2.2.2 H5 H6 ∧ ((0 : Int) = 0 → H6.length = H5.length) ∧ hWt T0 H6) ∧ postb_219 n1 H5 H6) (f42 : n19 = 1) : Ab_227_180 n2 n1 n0 n9 n19 H0 H6 ∧ ∀ q, some q0 = some q → mub_227_180 n2 n1 n0 n9 n19 H0 H6 < q := by
  have g4 := f4.2.1.1
  unfold Ab_227_120 at g4
  have g3 := f4.2.1.2
  unfold preb_227 at g3
  have g5 := Option.some.inj f4.2.2
  unfold mub_227_120 at g5
  unfold postb_219 at f41
  unfold Ab_227_180
  unfold mub_227_180
  have e1 : n4 = hV H0 285 33 := (by rw [f2] at f8; exact f8 : n4 = hV H1 285 33).trans ((f4.1.2.1.1 285 33 kF_227_285_33))
  have e2 : n7 = hV H0 285 33 := (by rw [f2] at f14; exact f14 : n7 = hV H1 285 33).trans ((f4.1.2.1.1 285 33 kF_227_285_33))
  have e3 : n8 = hV H1 296 (n7).toNat := (by rw [f10] at f17; exact f17 : n8 = hV H1 296 (n7).toNat)
  have e5 : n13 = hV H1 285 11 := (by rw [f2] at f28; exact f28 : n13 = hV H2 285 11).trans ((uPlace f21 285 11 (iS (show n10 = ((298 : Nat) : Int) from f19) rfl)))
  have e8 : n14 = hV H0 289 (n13).toNat := (by rw [f24] at f31; exact f31 : n14 = hV H2 289 (n13).toNat).trans (((congrFun (uRowNe f21 289 (iS (show n10 = ((298 : Nat) : Int) from f19) rfl)) _)).trans ((congrFun (fRow f4.1.2.1 289 kR_227_289) _)))
  have e10 : hV H1 285 18 = hV H0 285 18 := (f4.1.2.1.1 285 18 kF_227_285_18)
  have e12 : hV H1 285 32 = hV H0 285 32 := (f4.1.2.1.1 285 32 kF_227_285_32)
  have e13 : hV H1 285 33 = hV H0 285 33 := (f4.1.2.1.1 285 33 kF_227_285_33)
  have e15 : hV H1 285 64 = hV H0 285 64 := (f4.1.2.1.1 285 64 kF_227_285_64)
  have e16 : hV H1 294 = hV H0 294 := fRow f4.1.2.1 294 kR_227_294
  have e17 : hV H1 328 = hV H0 328 := fRow f4.1.2.1 328 kR_227_328
  have e18 : hV H1 332 = hV H0 332 := fRow f4.1.2.1 332 kR_227_332
  have e19 : hV H1 335 = hV H0 335 := fRow f4.1.2.1 335 kR_227_335
  have e23 : hV H5 285 11 = hV H1 285 11 := ((uPlace f40 285 11 (iS (show n17 = ((303 : Nat) : Int) from f37) rfl))).trans (((uPlace f36 285 11 (iS (show n15 = ((301 : Nat) : Int) from f33) rfl))).trans (((uPlace f32 285 11 (iS (show n11 = ((299 : Nat) : Int) from f22) rfl))).trans (uPlace f21 285 11 (iS (show n10 = ((298 : Nat) : Int) from f19) rfl))))
  have e28 : hV H5 285 13 = hV H1 285 13 := ((uPlace f40 285 13 (iS (show n17 = ((303 : Nat) : Int) from f37) rfl))).trans (((uPlace f36 285 13 (iS (show n15 = ((301 : Nat) : Int) from f33) rfl))).trans (((uPlace f32 285 13 (iS (show n11 = ((299 : Nat) : Int) from f22) rfl))).trans (uPlace f21 285 13 (iS (show n10 = ((298 : Nat) : Int) from f19) rfl))))
  have e34 : hV H6 285 15 = hV H1 285 15 := ((f41.1.2.1.1 285 15 kF_219_285_15)).trans (((uPlace f40 285 15 (iS (show n17 = ((303 : Nat) : Int) from f37) rfl))).trans (((uPlace f36 285 15 (iS (show n15 = ((301 : Nat) : Int) from f33) rfl))).trans (((uPlace f32 285 15 (iS (show n11 = ((299 : Nat) : Int) from f22) rfl))).trans (uPlace f21 285 15 (iS (show n10 = ((298 : Nat) : Int) from f19) rfl)))))
  have e40 : hV H6 285 18 = hV H0 285 18 := ((f41.1.2.1.1 285 18 kF_219_285_18)).trans (((uPlace f40 285 18 (iS (show n17 = ((303 : Nat) : Int) from f37) rfl))).trans (((uPlace f36 285 18 (iS (show n15 = ((301 : Nat) : Int) from f33) rfl))).trans (((uPlace f32 285 18 (iS (show n11 = ((299 : Nat) : Int) from f22) rfl))).trans (((uPlace f21 285 18 (iS (show n10 = ((298 : Nat) : Int) from f19) rfl))).trans (f4.1.2.1.1 285 18 kF_227_285_18)))))
  have e46 : hV H6 285 32 = hV H0 285 32 := ((f41.1.2.1.1 285 32 kF_219_285_32)).trans (((uPlace f40 285 32 (iS (show n17 = ((303 : Nat) : Int) from f37) rfl))).trans (((uPlace f36 285 32 (iS (show n15 = ((301 : Nat) : Int) from f33) rfl))).trans (((uPlace f32 285 32 (iS (show n11 = ((299 : Nat) : Int) from f22) rfl))).trans (((uPlace f21 285 32 (iS (show n10 = ((298 : Nat) : Int) from f19) rfl))).trans (f4.1.2.1.1 285 32 kF_227_285_32)))))
  have e52 : hV H6 285 33 = hV H0 285 33 := ((f41.1.2.1.1 285 33 kF_219_285_33)).trans (((uPlace f40 285 33 (iS (show n17 = ((303 : Nat) : Int) from f37) rfl))).trans (((uPlace f36 285 33 (iS (show n15 = ((301 : Nat) : Int) from f33) rfl))).trans (((uPlace f32 285 33 (iS (show n11 = ((299 : Nat) : Int) from f22) rfl))).trans (((uPlace f21 285 33 (iS (show n10 = ((298 : Nat) : Int) from f19) rfl))).trans (f4.1.2.1.1 285 33 kF_227_285_33)))))
  have e58 : hV H6 285 64 = hV H0 285 64 := ((f41.1.2.1.1 285 64 kF_219_285_64)).trans (((uPlace f40 285 64 (iS (show n17 = ((303 : Nat) : Int) from f37) rfl))).trans (((uPlace f36 285 64 (iS (show n15 = ((301 : Nat) : Int) from f33) rfl))).trans (((uPlace f32 285 64 (iS (show n11 = ((299 : Nat) : Int) from f22) rfl))).trans (((uPlace f21 285 64 (iS (show n10 = ((298 : Nat) : Int) from f19) rfl))).trans (f4.1.2.1.1 285 64 kF_227_285_64)))))
  have e68 : hV H6 294 = hV H0 294 := (fRow f41.1.2.1 294 kR_219_294).trans ((uRowNe f40 294 (iS (show n17 = ((303 : Nat) : Int) from f37) rfl)).trans ((uRowNe f36 294 (iS (show n15 = ((301 : Nat) : Int) from f33) rfl)).trans ((uRowNe f32 294 (iS (show n11 = ((299 : Nat) : Int) from f22) rfl)).trans ((uRowNe f21 294 (iS (show n10 = ((298 : Nat) : Int) from f19) rfl)).trans e16))))
  have e77 : hV H6 296 = hV H1 296 := (fRow f41.1.2.1 296 kR_219_296).trans ((uRowNe f40 296 (iS (show n17 = ((303 : Nat) : Int) from f37) rfl)).trans ((uRowNe f36 296 (iS (show n15 = ((301 : Nat) : Int) from f33) rfl)).trans ((uRowNe f32 296 (iS (show n11 = ((299 : Nat) : Int) from f22) rfl)).trans (uRowNe f21 296 (iS (show n10 = ((298 : Nat) : Int) from f19) rfl)))))
  have e86 : hV H6 297 = hV H1 297 := (fRow f41.1.2.1 297 kR_219_297).trans ((uRowNe f40 297 (iS (show n17 = ((303 : Nat) : Int) from f37) rfl)).trans ((uRowNe f36 297 (iS (show n15 = ((301 : Nat) : Int) from f33) rfl)).trans ((uRowNe f32 297 (iS (show n11 = ((299 : Nat) : Int) from f22) rfl)).trans (uRowNe f21 297 (iS (show n10 = ((298 : Nat) : Int) from f19) rfl)))))
  have e95 : hV H6 298 = (uF (hV H1 298) n9 n0) := (fRow f41.1.2.1 298 kR_219_298).trans ((uRowNe f40 298 (iS (show n17 = ((303 : Nat) : Int) from f37) rfl)).trans ((uRowNe f36 298 (iS (show n15 = ((301 : Nat) : Int) from f33) rfl)).trans ((uRowNe f32 298 (iS (show n11 = ((299 : Nat) : Int) from f22) rfl)).trans (uRow f21 298 f19.symm))))
  have e104 : hV H6 300 = hV H1 300 := (fRow f41.1.2.1 300 kR_219_300).trans ((uRowNe f40 300 (iS (show n17 = ((303 : Nat) : Int) from f37) rfl)).trans ((uRowNe f36 300 (iS (show n15 = ((301 : Nat) : Int) from f33) rfl)).trans ((uRowNe f32 300 (iS (show n11 = ((299 : Nat) : Int) from f22) rfl)).trans (uRowNe f21 300 (iS (show n10 = ((298 : Nat) : Int) from f19) rfl)))))
  have e113 : hV H6 301 = (uF (hV H1 301) n9 n16) := (fRow f41.1.2.1 301 kR_219_301).trans ((uRowNe f40 301 (iS (show n17 = ((303 : Nat) : Int) from f37) rfl)).trans ((uRow f36 301 f33.symm).trans (congrArg (fun z => uF z n9 n16) ((uRowNe f32 301 (iS (show n11 = ((299 : Nat) : Int) from f22) rfl)).trans (uRowNe f21 301 (iS (show n10 = ((298 : Nat) : Int) from f19) rfl))))))
  have e122 : hV H6 302 = hV H1 302 := (fRow f41.1.2.1 302 kR_219_302).trans ((uRowNe f40 302 (iS (show n17 = ((303 : Nat) : Int) from f37) rfl)).trans ((uRowNe f36 302 (iS (show n15 = ((301 : Nat) : Int) from f33) rfl)).trans ((uRowNe f32 302 (iS (show n11 = ((299 : Nat) : Int) from f22) rfl)).trans (uRowNe f21 302 (iS (show n10 = ((298 : Nat) : Int) from f19) rfl)))))
  have e131 : hV H6 303 = (uF (hV H1 303) n9 n18) := (fRow f41.1.2.1 303 kR_219_303).trans ((uRow f40 303 f37.symm).trans (congrArg (fun z => uF z n9 n18) ((uRowNe f36 303 (iS (show n15 = ((301 : Nat) : Int) from f33) rfl)).trans ((uRowNe f32 303 (iS (show n11 = ((299 : Nat) : Int) from f22) rfl)).trans (uRowNe f21 303 (iS (show n10 = ((298 : Nat) : Int) from f19) rfl))))))
  have e140 : hV H6 305 = hV H1 305 := (fRow f41.1.2.1 305 kR_219_305).trans ((uRowNe f40 305 (iS (show n17 = ((303 : Nat) : Int) from f37) rfl)).trans ((uRowNe f36 305 (iS (show n15 = ((301 : Nat) : Int) from f33) rfl)).trans ((uRowNe f32 305 (iS (show n11 = ((299 : Nat) : Int) from f22) rfl)).trans (uRowNe f21 305 (iS (show n10 = ((298 : Nat) : Int) from f19) rfl)))))
  have e150 : hV H6 328 = hV H0 328 := (fRow f41.1.2.1 328 kR_219_328).trans ((uRowNe f40 328 (iS (show n17 = ((303 : Nat) : Int) from f37) rfl)).trans ((uRowNe f36 328 (iS (show n15 = ((301 : Nat) : Int) from f33) rfl)).trans ((uRowNe f32 328 (iS (show n11 = ((299 : Nat) : Int) from f22) rfl)).trans ((uRowNe f21 328 (iS (show n10 = ((298 : Nat) : Int) from f19) rfl)).trans e17))))
  have e160 : hV H6 332 = hV H0 332 := (fRow f41.1.2.1 332 kR_219_332).trans ((uRowNe f40 332 (iS (show n17 = ((303 : Nat) : Int) from f37) rfl)).trans ((uRowNe f36 332 (iS (show n15 = ((301 : Nat) : Int) from f33) rfl)).trans ((uRowNe f32 332 (iS (show n11 = ((299 : Nat) : Int) from f22) rfl)).trans ((uRowNe f21 332 (iS (show n10 = ((298 : Nat) : Int) from f19) rfl)).trans e18))))
  have e170 : hV H6 335 = hV H0 335 := (fRow f41.1.2.1 335 kR_219_335).trans ((uRowNe f40 335 (iS (show n17 = ((303 : Nat) : Int) from f37) rfl)).trans ((uRowNe f36 335 (iS (show n15 = ((301 : Nat) : Int) from f33) rfl)).trans ((uRowNe f32 335 (iS (show n11 = ((299 : Nat) : Int) from f22) rfl)).trans ((uRowNe f21 335 (iS (show n10 = ((298 : Nat) : Int) from f19) rfl)).trans e19))))
  have e171 : PQ H2 = PQ H1 := PQ_upR f21 (show n10 = ((298 : Nat) : Int) from f19) (by decide)
  have e172 : PQ H3 = PQ H2 := PQ_upR f32 (show n11 = ((299 : Nat) : Int) from f22) (by decide)
  have e173 : PQ H3 = PQ H1 := e172.trans e171
  have e174 : PQ H4 = PQ H3 := PQ_upR f36 (show n15 = ((301 : Nat) : Int) from f33) (by decide)
  have e175 : PQ H4 = PQ H1 := e174.trans e173
  have e176 : PQ H5 = PQ H4 := PQ_upR f40 (show n17 = ((303 : Nat) : Int) from f37) (by decide)
  have e177 : PQ H5 = PQ H1 := e176.trans e175
  have e178 : PQ H6 = PQ H5 := PQ_fr f41.1.2.1 (by decide +kernel)
  have e179 : PQ H6 = PQ H1 := e178.trans e177
  have e180 : (0 : Int) ≤ hV H1 285 11 ∧ hV H1 285 11 ≤ 500 := f4.1.2.2 285 11 _ _ kW_285_11
  have e181 : (0 : Int) ≤ hV H1 285 13 ∧ hV H1 285 13 ≤ 2 := f4.1.2.2 285 13 _ _ kW_285_13
  have e182 : (0 : Int) ≤ hV H1 285 15 ∧ hV H1 285 15 ≤ 6 := f4.1.2.2 285 15 _ _ kW_285_15
  have e183 : (0 : Int) ≤ hV H0 285 18 ∧ hV H0 285 18 ≤ 8 := bTo e10 (f4.1.2.2 285 18 _ _ kW_285_18)
  have e184 : (0 : Int) ≤ hV H0 285 32 ∧ hV H0 285 32 ≤ 7 := bTo e12 (f4.1.2.2 285 32 _ _ kW_285_32)
  have e185 : (0 : Int) ≤ hV H0 285 33 ∧ hV H0 285 33 ≤ 62 := bTo e13 (f4.1.2.2 285 33 _ _ kW_285_33)
  have e186 : (0 : Int) ≤ hV H0 285 64 ∧ hV H0 285 64 ≤ 20 := bTo e15 (f4.1.2.2 285 64 _ _ kW_285_64)
  have e187 : (0 : Int) ≤ hV H6 285 11 ∧ hV H6 285 11 ≤ 500 := f41.1.2.2.2 285 11 _ _ kW_285_11
  have e188 : (0 : Int) ≤ hV H6 285 13 ∧ hV H6 285 13 ≤ 2 := f41.1.2.2.2 285 13 _ _ kW_285_13
  try simp only [PA, PW]
  try simp only [e34, e40, e46, e52, e58, e68, e77, e86, e95, e104, e113, e122, e131, e140, e150, e160, e170, e179]
  have y0 := g4.1
  have y1 := g4.2.1
  have y2 := g4.2.2.1
  have y3 := g4.2.2.2.1
  have y4 := g4.2.2.2.2.1
  have y5 := g4.2.2.2.2.2.1
  have y6 := g4.2.2.2.2.2.2.1
  have y7 := g4.2.2.2.2.2.2.2
  have p0 := g3.1
  have p1 := g3.2.1
  have p2 := g3.2.2.1
  have p3 := g3.2.2.2.1
  have p4 := g3.2.2.2.2.1
  have p5 := g3.2.2.2.2.2.1
  have p6 := g3.2.2.2.2.2.2
  have r0_0 := f41.2.1
  have r0_1 := f41.2.2.1
  have r0_2 := f41.2.2.2.1
  have r0_3 := f41.2.2.2.2
  try simp only [PA] at y0
  try simp only [PW] at y1
  try simp only [PA] at p0
  try simp only [PW] at p5
  try simp only [e10, e15, e16, e17, e18, e19] at y0
  try simp only [e12, e13, e16] at y1
  try simp only [e13] at y7
  try simp only [e23] at r0_0
  try simp only [e23] at r0_1
  try simp only [e28] at r0_2
  try simp only [e23] at r0_3
  clear g3
  clear g4
  have wb0 := (y2 (hV H0 285 32).toNat).1
  have wp0 := (y2 (hV H0 285 33).toNat).2
  try simp only [e10, e12, e13, e15, e16, e17, e18, e19] at wb0
  try simp only [e10, e12, e13, e15, e16, e17, e18, e19] at wp0
  clear f8 f11 f14 f17 f20 f23 f25 f28 f31 f34 f38 e10 e12 e13 e15 e16 e17 e18 e19 e23 e28 e34 e40 e46 e52 e58 e68 e77 e86 e95 e104 e113 e122 e131 e140 e150 e160 e170 e171 e172 e173 e174 e175 e176 e177 e178 e179
  clear f4 f41
  subst e1
  subst e2
  subst e3
  subst e5
  subst e8
  rw [f5] at f9
  first
  | (have ix0 : n5 = 16 * (hV H0 285 33) := Eq.trans f9 (w32_iv (Iml 16 rfl (Iat f7 f6)) (by decide)); subst ix0; clear f9)
  | (have ix0 : n5 = 16 * (hV H0 285 33) := Eq.trans f9 (w32_id (by omega) (by omega)); subst ix0; clear f9)
  | (unfold w32 at f9; have ix0 : n5 = 16 * (hV H0 285 33) := (by omega); subst ix0)
  | skip
  first
  | (have ix1 : n9 = (16 * (hV H0 285 33)) + hV H1 296 (hV H0 285 33).toNat := Eq.trans f18 (w32_iv (Iad (Iml 16 rfl (Iat f7 f6)) (Iat f16 f15)) (by decide)); subst ix1; clear f18)
  | (have ix1 : n9 = (16 * (hV H0 285 33)) + hV H1 296 (hV H0 285 33).toNat := Eq.trans f18 (w32_id (by omega) (by omega)); subst ix1; clear f18)
  | (unfold w32 at f18; have ix1 : n9 = (16 * (hV H0 285 33)) + hV H1 296 (hV H0 285 33).toNat := (by omega); subst ix1)
  | skip
  try unfold w32 at f9
  try unfold w32 at f18

  refine ⟨⟨?_, ?_, ?_, ?_, ?_, ?_, ?_, ?_, ?_, ?_, ?_, ?_, ?_, ?_⟩, fun q hq => ?_⟩
  · refine PA_cmt ?_ (by omega)
    refine PA_cm ?_ (by omega)
    refine PA_cs ?_ (by omega)
    exact y0
  · intro z1 z2
    refine PW_cmt ?_ (by omega) (by omega) (by omega) (by omega)
    refine PW_cm ?_ (by omega) (by omega) (by omega) (by omega)
    refine PW_cs ?_ (by omega) (by omega) (by omega) (by omega)
    exact y1 (by omega) (by omega)
  · exact y2
  · (try clear y0 y1 y2 p0 p5 p6)
    first | exact True.intro | omega
  · (try clear y0 y1 y2 p0 p5 p6)
    first | exact True.intro | omega
  · (try clear y0 y1 y2 p0 p5 p6)
    first | exact True.intro | omega
  · (try clear y0 y1 y2 p0 p5 p6)
    first | exact True.intro | omega
  · (try clear y0 y1 y2 p0 p5 p6)
    first | exact True.intro | omega
  · (try clear y0 y1 y2 p0 p5 p6)
    first | exact True.intro | omega
  · (try clear y0 y1 y2 p0 p5 p6)
    first | exact True.intro | omega
  · (try clear y0 y1 y2 p0 p5 p6)
    first | (simp only [uF_at]; omega) | omega
  · (try clear y0 y1 y2 p0 p5 p6)
    first | (simp only [uF_at]; omega) | omega
  · (try clear y0 y1 y2 p0 p5 p6)
    first | (simp only [uF_at]; omega) | omega
  · (try clear y0 y1 y2 p0 p5 p6)
    first | exact True.intro | omega
  · (try clear y0 y1 y2 p0 p5 p6)
    have g6 := Option.some.inj hq
    subst g6
    omega
def g_227_120_6 : vG := ([(0, [19], [], 1), (1219, [1], [5, 6], 0), (80, [17, 9, 18], [5, 4], 0), (0, [18], [], -1), (20, [17, 1], [4], 29), (0, [17], [], 303), (80, [15, 9, 16], [4, 3], 0), (0, [16], [], -1), (20, [15, 1], [3], 27), (0, [15], [], 301), (80, [11, 9, 14], [3, 2], 0), (22, [14, 12, 13], [2], 0), (90, [14], [], 0), (91, [14], [], 2000), (20, [13, 1], [2], 11), (90, [13], [], 0), (91, [13], [], 500), (20, [12, 1], [2], 6), (0, [12], [], 289), (20, [11, 1], [2], 25), (0, [11], [], 299), (80, [10, 9, 2], [2, 1], 0), (20, [10, 1], [1], 24), (0, [10], [], 298), (1, [9, 5, 8], [], 0), (22, [8, 6, 7], [1], 0), (90, [8], [], 0), (91, [8], [], 16), (20, [7, 1], [1], 33), (90, [7], [], 0), (91, [7], [], 62), (20, [6, 1], [1], 22), (0, [6], [], 296), (3, [5, 3, 4], [], 0), (20, [4, 1], [1], 33), (90, [4], [], 0), (91, [4], [], 62), (0, [3], [], 16), (5000, [0, 1, 2], [0, 1], 120), (0, [0], [], 285), (0, [1], [], 285), (90, [2], [], 0), (91, [2], [], 5)], (4000, [1, 2, 9, 19], [6], 180))
theorem c_227_120_6 {q0 : Nat} : vOkm T0 (eP e_227 L_227 A_227 mu_227 (some q0)) 1 g_227_120_6 := vOk_inI fun ρ η f0 f1 f2 f3 f4 f5 f6 f7 f8 f9 f10 f11 f12 f13 f14 f15 f16 f17 f18 f19 f20 f21 f22 f23 f24 f25 f26 f27 f28 f29 f30 f31 f32 f33 f34 f35 f36 f37 f38 f39 f40 f41 f42 => q_227_20 (q0 := q0) (n0 := ρ 2) (n1 := ρ 1) (n2 := ρ 0) (n3 := ρ 3) (n4 := ρ 4) (n5 := ρ 5) (n6 := ρ 6) (n7 := ρ 7) (n8 := ρ 8) (n9 := ρ 9) (n10 := ρ 10) (n11 := ρ 11) (n12 := ρ 12) (n13 := ρ 13) (n14 := ρ 14) (n15 := ρ 15) (n16 := ρ 16) (n17 := ρ 17) (n18 := ρ 18) (n19 := ρ 19) (H0 := η 0) (H1 := η 1) (H2 := η 2) (H3 := η 3) (H4 := η 4) (H5 := η 5) (H6 := η 6) f42 f41 f40 f39 f38 f37 f36 f35 f34 f33 f32 f31 f30 f29 f28 f27 f26 f25 f24 f23 f22 f21 f20 f19 f18 f17 f16 f15 f14 f13 f12 f11 f10 f9 f8 f7 f6 f5 f4 f3 f2 f1 f0
def p_227_120 : List vG := [g_227_120_0,
  g_227_120_1,
  g_227_120_2,
  g_227_120_3,
  g_227_120_4,
  g_227_120_5,
  g_227_120_6]
theorem r_227_120 : vCovO false (eRc e_227 L_227 cs_227 2000 (120, [(0, (3, 12, 285, 0)), (1, (0, 0, 5, 0))])) p_227_120 = true := by decide +kernel
set_option maxHeartbeats 20000000 in
theorem q_227_21 {q0 : Nat} {n0 n1 n2 n3 n4 n5 n6 n7 n8 : Int} {H0 H1 H2 H3 : gH} (f0 : n0 ≤ 1) (f1 : 1 ≤ n0) (f2 : n1 ≤ 1007) (f3 : 0 ≤ n1) (f4 : n2 ≤ 5) (f5 : 0 ≤ n2) (f6 : n3 = 285) (f7 : n4 = 285) (f8 : (hLe T0 H0 H1 ∧ hFr s_227.2.2.2.2 H0 H1 ∧ hWt T0 H1) ∧ (Ab_227_180 n4 n3 n2 n1 n0 H0 H1 ∧ preb_227 n4 H0) ∧ some q0 = some (mub_227_180 n4 n3 n2 n1 n0 H0 H1)) (f9 : n2 < 0) (f10 : n5 ≤ 500) (f11 : 0 ≤ n5) (f12 : n5 = hV H1 (n3).toNat 11) (f13 : n6 = 1) (f14 : (hLe T0 H1 H2 ∧ hFr s_220.2.2.2.2 H1 H2 ∧ ((0 : Int) = 0 → H2.length = H1.length) ∧ hWt T0 H2) ∧ postb_220 n3 n6 H1 H2) (f15 : n7 = 25) (f16 : (hLe T0 H2 H3 ∧ hFr s_220.2.2.2.2 H2 H3 ∧ ((0 : Int) = 0 → H3.length = H2.length) ∧ hWt T0 H3) ∧ postb_220 n3 n7 H2 H3) (f17 : n8 = 0) : preb_229 n3 n1 n8 H3 := by
  have g4 := f8.2.1.1
  unfold Ab_227_180 at g4
  have g3 := f8.2.1.2
  unfold preb_227 at g3
  unfold postb_220 at f14
  unfold postb_220 at f16
  unfold preb_229
  have e0 : n5 = hV H1 285 11 := (by rw [f6] at f12; exact f12 : n5 = hV H1 285 11)
  have e2 : hV H1 285 18 = hV H0 285 18 := (f8.1.2.1.1 285 18 kF_227_285_18)
  have e4 : hV H1 285 32 = hV H0 285 32 := (f8.1.2.1.1 285 32 kF_227_285_32)
  have e6 : hV H1 285 33 = hV H0 285 33 := (f8.1.2.1.1 285 33 kF_227_285_33)
  have e12 : hV H3 285 15 = hV H1 285 15 := ((f16.1.2.1.1 285 15 kF_220_285_15)).trans (f14.1.2.1.1 285 15 kF_220_285_15)
  have e15 : hV H3 285 18 = hV H0 285 18 := ((f16.1.2.1.1 285 18 kF_220_285_18)).trans (((f14.1.2.1.1 285 18 kF_220_285_18)).trans (f8.1.2.1.1 285 18 kF_227_285_18))
  have e18 : hV H3 285 32 = hV H0 285 32 := ((f16.1.2.1.1 285 32 kF_220_285_32)).trans (((f14.1.2.1.1 285 32 kF_220_285_32)).trans (f8.1.2.1.1 285 32 kF_227_285_32))
  have e21 : hV H3 285 33 = hV H0 285 33 := ((f16.1.2.1.1 285 33 kF_220_285_33)).trans (((f14.1.2.1.1 285 33 kF_220_285_33)).trans (f8.1.2.1.1 285 33 kF_227_285_33))
  have e28 : hV H3 294 = hV H0 294 := (fRow f16.1.2.1 294 kR_220_294).trans ((fRow f14.1.2.1 294 kR_220_294).trans (fRow f8.1.2.1 294 kR_227_294))
  have e31 : hV H3 296 = hV H1 296 := (fRow f16.1.2.1 296 kR_220_296).trans (fRow f14.1.2.1 296 kR_220_296)
  have e32 : PA H2 = PA H1 := PA_fr f14.1.2.1 (by decide +kernel)
  have e33 : PA H3 = PA H2 := PA_fr f16.1.2.1 (by decide +kernel)
  have e34 : PA H3 = PA H1 := e33.trans e32
  have e35 : PQ H2 = PQ H1 := PQ_fr f14.1.2.1 (by decide +kernel)
  have e36 : PQ H3 = PQ H2 := PQ_fr f16.1.2.1 (by decide +kernel)
  have e37 : PQ H3 = PQ H1 := e36.trans e35
  have e38 : PW H2 = PW H1 := PW_fr f14.1.2.1 (by decide +kernel)
  have e39 : PW H3 = PW H2 := PW_fr f16.1.2.1 (by decide +kernel)
  have e40 : PW H3 = PW H1 := e39.trans e38
  have e41 : (0 : Int) ≤ hV H1 285 11 ∧ hV H1 285 11 ≤ 500 := f8.1.2.2 285 11 _ _ kW_285_11
  have e42 : (0 : Int) ≤ hV H1 285 13 ∧ hV H1 285 13 ≤ 2 := f8.1.2.2 285 13 _ _ kW_285_13
  have e43 : (0 : Int) ≤ hV H1 285 15 ∧ hV H1 285 15 ≤ 6 := f8.1.2.2 285 15 _ _ kW_285_15
  have e44 : (0 : Int) ≤ hV H0 285 18 ∧ hV H0 285 18 ≤ 8 := bTo e2 (f8.1.2.2 285 18 _ _ kW_285_18)
  have e45 : (0 : Int) ≤ hV H0 285 32 ∧ hV H0 285 32 ≤ 7 := bTo e4 (f8.1.2.2 285 32 _ _ kW_285_32)
  have e46 : (0 : Int) ≤ hV H0 285 33 ∧ hV H0 285 33 ≤ 62 := bTo e6 (f8.1.2.2 285 33 _ _ kW_285_33)
  have e47 : (0 : Int) ≤ hV H2 285 11 ∧ hV H2 285 11 ≤ 500 := f14.1.2.2.2 285 11 _ _ kW_285_11
  have e48 : (0 : Int) ≤ hV H2 285 13 ∧ hV H2 285 13 ≤ 2 := f14.1.2.2.2 285 13 _ _ kW_285_13
  have e49 : (0 : Int) ≤ hV H3 285 11 ∧ hV H3 285 11 ≤ 500 := f16.1.2.2.2 285 11 _ _ kW_285_11
  have e50 : (0 : Int) ≤ hV H3 285 13 ∧ hV H3 285 13 ≤ 2 := f16.1.2.2.2 285 13 _ _ kW_285_13
  try simp only [e12, e15, e18, e21, e28, e31, e34, e37, e40]
  have y0 := g4.1
  have y1 := g4.2.1
  have y2 := g4.2.2.1
  have y3 := g4.2.2.2.1
  have y4 := g4.2.2.2.2.1
  have y5 := g4.2.2.2.2.2.1
  have y6 := g4.2.2.2.2.2.2.1
  have y7 := g4.2.2.2.2.2.2.2.1
  have y8 := g4.2.2.2.2.2.2.2.2.1
  have y9 := g4.2.2.2.2.2.2.2.2.2.1
  have y10 := g4.2.2.2.2.2.2.2.2.2.2.1
  have y11 := g4.2.2.2.2.2.2.2.2.2.2.2.1
  have y12 := g4.2.2.2.2.2.2.2.2.2.2.2.2.1
  have y13 := g4.2.2.2.2.2.2.2.2.2.2.2.2.2
  have p0 := g3.1
  have p1 := g3.2.1
  have p2 := g3.2.2.1
  have p3 := g3.2.2.2.1
  have p4 := g3.2.2.2.2.1
  have p5 := g3.2.2.2.2.2.1
  have p6 := g3.2.2.2.2.2.2
  have r0_0 := f14.2.1
  have r0_1 := f14.2.2.1
  have r0_2 := f14.2.2.2.1
  have r0_3 := f14.2.2.2.2.1
  have r1_0 := f16.2.1
  have r1_1 := f16.2.2.1
  have r1_2 := f16.2.2.2.1
  have r1_3 := f16.2.2.2.2.1
  try simp only [e6] at y8
  try simp only [e6] at y9
  clear g3
  clear g4
  have wb0 := (y2 (hV H0 285 32).toNat).1
  have wp0 := (y2 (hV H0 285 33).toNat).2
  try simp only [e2, e4, e6] at wb0
  try simp only [e2, e4, e6] at wp0
  clear f12 e2 e4 e6 e12 e15 e18 e21 e28 e31 e32 e33 e34 e35 e36 e37 e38 e39 e40
  clear f8 f14 f16
  subst e0

  refine ⟨?_, ?_, ?_, ?_, ?_, ?_, ?_, ?_⟩
  · exact y0
  · (try clear y0 y1 y2 p0 p5 p6)
    first | exact True.intro | omega
  · (try clear y0 y1 y2 p0 p5 p6)
    first | exact True.intro | omega
  · (try clear y0 y1 y2 p0 p5 p6)
    first | exact True.intro | omega
  · (try clear y0 y1 y2 p0 p5 p6)
    first | exact True.intro | omega
  · intro z1 z2
    exact y1 (by omega) (by omega)
  · (try clear y0 y1 y2 p0 p5 p6)
    first | exact True.intro | omega
  · exact y2

def g_227_180_0 : vG := ([(0, [8], [], 0), (1220, [1, 7], [2, 3], 0), (0, [7], [], 25), (1220, [1, 6], [1, 2], 0), (0, [6], [], 1), (20, [5, 1], [1], 11), (90, [5], [], 0), (91, [5], [], 500), (66, [2], [], 0), (5000, [0, 1, 2, 3, 4], [0, 1], 180), (0, [0], [], 285), (0, [1], [], 285), (90, [2], [], 0), (91, [2], [], 5), (90, [3], [], 0), (91, [3], [], 1007), (90, [4], [], 1), (91, [4], [], 1)], (2229, [1, 3, 8], [3], 0))
theorem c_227_180_0 {q0 : Nat} : vOkm T0 (eP e_227 L_227 A_227 mu_227 (some q0)) 1 g_227_180_0 := vOk_inI fun ρ η f0 f1 f2 f3 f4 f5 f6 f7 f8 f9 f10 f11 f12 f13 f14 f15 f16 f17 => q_227_21 (q0 := q0) (n0 := ρ 4) (n1 := ρ 3) (n2 := ρ 2) (n3 := ρ 1) (n4 := ρ 0) (n5 := ρ 5) (n6 := ρ 6) (n7 := ρ 7) (n8 := ρ 8) (H0 := η 0) (H1 := η 1) (H2 := η 2) (H3 := η 3) f17 f16 f15 f14 f13 f12 f11 f10 f9 f8 f7 f6 f5 f4 f3 f2 f1 f0
set_option maxHeartbeats 20000000 in
theorem kR_227_288 : vFreeR s_227.2.2.2.2 288 = true := by decide +kernel
theorem q_227_22 {q0 : Nat} {n0 n1 n2 n3 n4 n5 n6 n7 n8 n9 n10 n11 n12 n13 n14 n15 n16 : Int} {H0 H1 H2 H3 H4 H5 : gH} (f0 : n0 ≤ 1) (f1 : 1 ≤ n0) (f2 : n1 ≤ 1007) (f3 : 0 ≤ n1) (f4 : n2 ≤ 5) (f5 : 0 ≤ n2) (f6 : n3 = 285) (f7 : n4 = 285) (f8 : (hLe T0 H0 H1 ∧ hFr s_227.2.2.2.2 H0 H1 ∧ hWt T0 H1) ∧ (Ab_227_180 n4 n3 n2 n1 n0 H0 H1 ∧ preb_227 n4 H0) ∧ some q0 = some (mub_227_180 n4 n3 n2 n1 n0 H0 H1)) (f9 : n2 < 0) (f10 : n5 ≤ 500) (f11 : 0 ≤ n5) (f12 : n5 = hV H1 (n3).toNat 11) (f13 : n6 = 1) (f14 : (hLe T0 H1 H2 ∧ hFr s_220.2.2.2.2 H1 H2 ∧ ((0 : Int) = 0 → H2.length = H1.length) ∧ hWt T0 H2) ∧ postb_220 n3 n6 H1 H2) (f15 : n7 = 25) (f16 : (hLe T0 H2 H3 ∧ hFr s_220.2.2.2.2 H2 H3 ∧ ((0 : Int) = 0 → H3.length = H2.length) ∧ hWt T0 H3) ∧ postb_220 n3 n7 H2 H3) (f17 : n8 = 0) (f18 : (hLe T0 H3 H4 ∧ hFr s_229.2.2.2.2 H3 H4 ∧ ((0 : Int) = 0 → H4.length = H3.length) ∧ hWt T0 H4) ∧ postb_229 n3 n1 n8 H3 H4) (f19 : n9 ≤ 2) (f20 : 0 ≤ n9) (f21 : n9 = hV H4 (n3).toNat 13) (f22 : n9 ≤ 0) (f23 : n10 = 300) (f24 : n10 = hV H4 (n3).toNat 26) (f25 : n11 = (-1)) (f26 : hUpd H5 H4 n10 n1 n11) (f27 : n12 = 294) (f28 : n12 = hV H5 (n3).toNat 20) (f29 : n13 ≤ 7) (f30 : 0 ≤ n13) (f31 : n13 = hV H5 (n3).toNat 32) (f32 : n14 ≤ 6) (f33 : 0 ≤ n14) (f34 : n14 = hV H5 (n12).toNat (n13).toNat) (f35 : n15 = 1) (f36 : n16 = w32 (n14 - n15)) : (-1) ≤ n16 := by
  have g4 := f8.2.1.1
  unfold Ab_227_180 at g4
  have g3 := f8.2.1.2
  unfold preb_227 at g3
  unfold postb_220 at f14
  unfold postb_220 at f16
  unfold postb_229 at f18
  have e0 : n5 = hV H1 285 11 := (by rw [f6] at f12; exact f12 : n5 = hV H1 285 11)
  have e1 : n9 = hV H4 285 13 := (by rw [f6] at f21; exact f21 : n9 = hV H4 285 13)
  have e7 : n13 = hV H0 285 32 := (by rw [f6] at f31; exact f31 : n13 = hV H5 285 32).trans (((uPlace f26 285 32 (iS (show n10 = ((300 : Nat) : Int) from f23) rfl))).trans (((f18.1.2.1.1 285 32 kF_229_285_32)).trans (((f16.1.2.1.1 285 32 kF_220_285_32)).trans (((f14.1.2.1.1 285 32 kF_220_285_32)).trans (f8.1.2.1.1 285 32 kF_227_285_32)))))
  have e12 : hV H1 294 = hV H0 294 := fRow f8.1.2.1 294 kR_227_294
  have e13 : n14 = hV H0 294 (n13).toNat := (by rw [f27] at f34; exact f34 : n14 = hV H5 294 (n13).toNat).trans (((congrFun (uRowNe f26 294 (iS (show n10 = ((300 : Nat) : Int) from f23) rfl)) _)).trans (((congrFun (fRow f18.1.2.1 294 kR_229_294) _)).trans (((congrFun (fRow f16.1.2.1 294 kR_220_294) _)).trans (((congrFun (fRow f14.1.2.1 294 kR_220_294) _)).trans ((congrFun e12 _))))))
  have e15 : hV H1 285 18 = hV H0 285 18 := (f8.1.2.1.1 285 18 kF_227_285_18)
  have e16 : hV H1 285 32 = hV H0 285 32 := (f8.1.2.1.1 285 32 kF_227_285_32)
  have e18 : hV H1 285 33 = hV H0 285 33 := (f8.1.2.1.1 285 33 kF_227_285_33)
  have e20 : hV H1 285 64 = hV H0 285 64 := (f8.1.2.1.1 285 64 kF_227_285_64)
  have e21 : hV H1 328 = hV H0 328 := fRow f8.1.2.1 328 kR_227_328
  have e22 : hV H1 332 = hV H0 332 := fRow f8.1.2.1 332 kR_227_332
  have e23 : hV H1 335 = hV H0 335 := fRow f8.1.2.1 335 kR_227_335
  have e29 : hV H3 285 15 = hV H1 285 15 := ((f16.1.2.1.1 285 15 kF_220_285_15)).trans (f14.1.2.1.1 285 15 kF_220_285_15)
  have e31 : hV H3 288 = hV H0 288 := (fRow f16.1.2.1 288 kR_220_288).trans ((fRow f14.1.2.1 288 kR_220_288).trans (fRow f8.1.2.1 288 kR_227_288))
  have e34 : hV H3 301 = hV H1 301 := (fRow f16.1.2.1 301 kR_220_301).trans (fRow f14.1.2.1 301 kR_220_301)
  have e37 : hV H3 302 = hV H1 302 := (fRow f16.1.2.1 302 kR_220_302).trans (fRow f14.1.2.1 302 kR_220_302)
  have e40 : hV H3 303 = hV H1 303 := (fRow f16.1.2.1 303 kR_220_303).trans (fRow f14.1.2.1 303 kR_220_303)
  have e44 : hV H4 285 18 = hV H0 285 18 := ((f18.1.2.1.1 285 18 kF_229_285_18)).trans (((f16.1.2.1.1 285 18 kF_220_285_18)).trans (((f14.1.2.1.1 285 18 kF_220_285_18)).trans (f8.1.2.1.1 285 18 kF_227_285_18)))
  have e45 : hV H4 285 32 = hV H0 285 32 := ((f18.1.2.1.1 285 32 kF_229_285_32)).trans (((f16.1.2.1.1 285 32 kF_220_285_32)).trans (((f14.1.2.1.1 285 32 kF_220_285_32)).trans (f8.1.2.1.1 285 32 kF_227_285_32)))
  have e49 : hV H4 285 33 = hV H0 285 33 := ((f18.1.2.1.1 285 33 kF_229_285_33)).trans (((f16.1.2.1.1 285 33 kF_220_285_33)).trans (((f14.1.2.1.1 285 33 kF_220_285_33)).trans (f8.1.2.1.1 285 33 kF_227_285_33)))
  have e53 : hV H4 285 64 = hV H0 285 64 := ((f18.1.2.1.1 285 64 kF_229_285_64)).trans (((f16.1.2.1.1 285 64 kF_220_285_64)).trans (((f14.1.2.1.1 285 64 kF_220_285_64)).trans (f8.1.2.1.1 285 64 kF_227_285_64)))
  have e56 : hV H4 294 = hV H0 294 := (fRow f18.1.2.1 294 kR_229_294).trans ((fRow f16.1.2.1 294 kR_220_294).trans ((fRow f14.1.2.1 294 kR_220_294).trans e12))
  have e61 : hV H4 296 = hV H1 296 := (fRow f18.1.2.1 296 kR_229_296).trans ((fRow f16.1.2.1 296 kR_220_296).trans (fRow f14.1.2.1 296 kR_220_296))
  have e66 : hV H4 297 = hV H1 297 := (fRow f18.1.2.1 297 kR_229_297).trans ((fRow f16.1.2.1 297 kR_220_297).trans (fRow f14.1.2.1 297 kR_220_297))
  have e71 : hV H4 298 = hV H1 298 := (fRow f18.1.2.1 298 kR_229_298).trans ((fRow f16.1.2.1 298 kR_220_298).trans (fRow f14.1.2.1 298 kR_220_298))
  have e76 : hV H4 300 = hV H1 300 := (fRow f18.1.2.1 300 kR_229_300).trans ((fRow f16.1.2.1 300 kR_220_300).trans (fRow f14.1.2.1 300 kR_220_300))
  have e81 : hV H4 305 = hV H1 305 := (fRow f18.1.2.1 305 kR_229_305).trans ((fRow f16.1.2.1 305 kR_220_305).trans (fRow f14.1.2.1 305 kR_220_305))
  have e87 : hV H4 328 = hV H0 328 := (fRow f18.1.2.1 328 kR_229_328).trans ((fRow f16.1.2.1 328 kR_220_328).trans ((fRow f14.1.2.1 328 kR_220_328).trans e21))
  have e93 : hV H4 332 = hV H0 332 := (fRow f18.1.2.1 332 kR_229_332).trans ((fRow f16.1.2.1 332 kR_220_332).trans ((fRow f14.1.2.1 332 kR_220_332).trans e22))
  have e99 : hV H4 335 = hV H0 335 := (fRow f18.1.2.1 335 kR_229_335).trans ((fRow f16.1.2.1 335 kR_220_335).trans ((fRow f14.1.2.1 335 kR_220_335).trans e23))
  have e100 : (0 : Int) ≤ hV H1 285 11 ∧ hV H1 285 11 ≤ 500 := f8.1.2.2 285 11 _ _ kW_285_11
  have e101 : (0 : Int) ≤ hV H1 285 13 ∧ hV H1 285 13 ≤ 2 := f8.1.2.2 285 13 _ _ kW_285_13
  have e102 : (0 : Int) ≤ hV H1 285 15 ∧ hV H1 285 15 ≤ 6 := f8.1.2.2 285 15 _ _ kW_285_15
  have e103 : (0 : Int) ≤ hV H0 285 18 ∧ hV H0 285 18 ≤ 8 := bTo e15 (f8.1.2.2 285 18 _ _ kW_285_18)
  have e104 : (0 : Int) ≤ hV H0 285 32 ∧ hV H0 285 32 ≤ 7 := bTo e16 (f8.1.2.2 285 32 _ _ kW_285_32)
  have e105 : (0 : Int) ≤ hV H0 285 33 ∧ hV H0 285 33 ≤ 62 := bTo e18 (f8.1.2.2 285 33 _ _ kW_285_33)
  have e106 : (0 : Int) ≤ hV H0 285 64 ∧ hV H0 285 64 ≤ 20 := bTo e20 (f8.1.2.2 285 64 _ _ kW_285_64)
  have e107 : (0 : Int) ≤ hV H2 285 11 ∧ hV H2 285 11 ≤ 500 := f14.1.2.2.2 285 11 _ _ kW_285_11
  have e108 : (0 : Int) ≤ hV H2 285 13 ∧ hV H2 285 13 ≤ 2 := f14.1.2.2.2 285 13 _ _ kW_285_13
  have e109 : (0 : Int) ≤ hV H3 285 11 ∧ hV H3 285 11 ≤ 500 := f16.1.2.2.2 285 11 _ _ kW_285_11
  have e110 : (0 : Int) ≤ hV H3 285 13 ∧ hV H3 285 13 ≤ 2 := f16.1.2.2.2 285 13 _ _ kW_285_13
  have e112 : (0 : Int) ≤ hV H4 285 11 ∧ hV H4 285 11 ≤ 500 := f18.1.2.2.2 285 11 _ _ kW_285_11
  have e113 : (0 : Int) ≤ hV H4 285 13 ∧ hV H4 285 13 ≤ 2 := f18.1.2.2.2 285 13 _ _ kW_285_13
  have e114 : (0 : Int) ≤ hV H4 285 15 ∧ hV H4 285 15 ≤ 6 := f18.1.2.2.2 285 15 _ _ kW_285_15
  try simp only [PA, PW]
  have y0 := g4.1
  have y1 := g4.2.1
  have y2 := g4.2.2.1
  have y3 := g4.2.2.2.1
  have y4 := g4.2.2.2.2.1
  have y5 := g4.2.2.2.2.2.1
  have y6 := g4.2.2.2.2.2.2.1
  have y7 := g4.2.2.2.2.2.2.2.1
  have y8 := g4.2.2.2.2.2.2.2.2.1
  have y9 := g4.2.2.2.2.2.2.2.2.2.1
  have y10 := g4.2.2.2.2.2.2.2.2.2.2.1
  have y11 := g4.2.2.2.2.2.2.2.2.2.2.2.1
  have y12 := g4.2.2.2.2.2.2.2.2.2.2.2.2.1
  have y13 := g4.2.2.2.2.2.2.2.2.2.2.2.2.2
  have p0 := g3.1
  have p1 := g3.2.1
  have p2 := g3.2.2.1
  have p3 := g3.2.2.2.1
  have p4 := g3.2.2.2.2.1
  have p5 := g3.2.2.2.2.2.1
  have p6 := g3.2.2.2.2.2.2
  have r0_0 := f14.2.1
  have r0_1 := f14.2.2.1
  have r0_2 := f14.2.2.2.1
  have r0_3 := f14.2.2.2.2.1
  have r1_0 := f16.2.1
  have r1_1 := f16.2.2.1
  have r1_2 := f16.2.2.2.1
  have r1_3 := f16.2.2.2.2.1
  have r2_0 := f18.2.1
  have r2_1 := f18.2.2.1
  have r2_2 := f18.2.2.2.1
  have r2_3 := f18.2.2.2.2.1
  have r2_4 := f18.2.2.2.2.2.1
  have r2_5 := f18.2.2.2.2.2.2.1
  have r2_6 := f18.2.2.2.2.2.2.2.1
  have r2_7 := f18.2.2.2.2.2.2.2.2.1 f17
  try simp only [PA] at y0
  try simp only [PW] at y1
  try simp only [PA] at p0
  try simp only [PW] at p5
  try simp only [PA] at r2_0
  try simp only [PW] at r2_1
  try simp only [e15, e20, e12, e21, e22, e23] at y0
  try simp only [e16, e18, e12] at y1
  try simp only [e18] at y8
  try simp only [e18] at y9
  try simp only [e44, e53, e56, e61, e71, e76, e81, e87, e93, e99] at r2_0
  try simp only [e45, e49, e56, e61, e66, e71, e76, e81] at r2_1
  try simp only [e29] at r2_5
  try simp only [e29] at r2_6
  try simp only [e29, e31, e34, e37, e40, e44, e45, e49, e53, e56, e61, e66, e71, e76, e81, e87, e93, e99] at r2_7
  clear g3
  clear g4
  have wb0 := (y2 (hV H0 285 32).toNat).1
  have wp0 := (y2 (hV H0 285 33).toNat).2
  try simp only [e15, e16, e18, e20, e12, e21, e22, e23] at wb0
  try simp only [e15, e16, e18, e20, e12, e21, e22, e23] at wp0
  clear f12 f21 f24 f28 f31 f34 e12 e15 e16 e18 e20 e21 e22 e23 e29 e31 e34 e37 e40 e44 e45 e49 e53 e56 e61 e66 e71 e76 e81 e87 e93 e99
  clear f8 f14 f16 f18
  subst e0
  subst e1
  subst e7
  subst e13
  first
  | (have ix0 : n16 = hV H0 294 (hV H0 285 32).toNat - 1 := Eq.trans f36 (w32_iv (Isu (Iat f33 f32) (IC 1)) (by decide)); subst ix0; clear f36)
  | (have ix0 : n16 = hV H0 294 (hV H0 285 32).toNat - 1 := Eq.trans f36 (w32_id (by omega) (by omega)); subst ix0; clear f36)
  | (unfold w32 at f36; have ix0 : n16 = hV H0 294 (hV H0 285 32).toNat - 1 := (by omega); subst ix0)
  | skip
  try unfold w32 at f36

  (try clear y0 y1 y2 p0 p5 p6 r2_0 r2_1)
  omega
def g_227_180_1 : vG := ([(2, [16, 14, 15], [], 0), (0, [15], [], 1), (22, [14, 12, 13], [5], 0), (90, [14], [], 0), (91, [14], [], 6), (20, [13, 1], [5], 32), (90, [13], [], 0), (91, [13], [], 7), (20, [12, 1], [5], 20), (0, [12], [], 294), (80, [10, 3, 11], [5, 4], 0), (0, [11], [], -1), (20, [10, 1], [4], 26), (0, [10], [], 300), (35, [9], [], 0), (20, [9, 1], [4], 13), (90, [9], [], 0), (91, [9], [], 2), (1229, [1, 3, 8], [3, 4], 0), (0, [8], [], 0), (1220, [1, 7], [2, 3], 0), (0, [7], [], 25), (1220, [1, 6], [1, 2], 0), (0, [6], [], 1), (20, [5, 1], [1], 11), (90, [5], [], 0), (91, [5], [], 500), (66, [2], [], 0), (5000, [0, 1, 2, 3, 4], [0, 1], 180), (0, [0], [], 285), (0, [1], [], 285), (90, [2], [], 0), (91, [2], [], 5), (90, [3], [], 0), (91, [3], [], 1007), (90, [4], [], 1), (91, [4], [], 1)], (90, [16], [], -1))
theorem c_227_180_1 {q0 : Nat} : vOkm T0 (eP e_227 L_227 A_227 mu_227 (some q0)) 1 g_227_180_1 := vOk_inI fun ρ η f0 f1 f2 f3 f4 f5 f6 f7 f8 f9 f10 f11 f12 f13 f14 f15 f16 f17 f18 f19 f20 f21 f22 f23 f24 f25 f26 f27 f28 f29 f30 f31 f32 f33 f34 f35 f36 => q_227_22 (q0 := q0) (n0 := ρ 4) (n1 := ρ 3) (n2 := ρ 2) (n3 := ρ 1) (n4 := ρ 0) (n5 := ρ 5) (n6 := ρ 6) (n7 := ρ 7) (n8 := ρ 8) (n9 := ρ 9) (n10 := ρ 10) (n11 := ρ 11) (n12 := ρ 12) (n13 := ρ 13) (n14 := ρ 14) (n15 := ρ 15) (n16 := ρ 16) (H0 := η 0) (H1 := η 1) (H2 := η 2) (H3 := η 3) (H4 := η 4) (H5 := η 5) f36 f35 f34 f33 f32 f31 f30 f29 f28 f27 f26 f25 f24 f23 f22 f21 f20 f19 f18 f17 f16 f15 f14 f13 f12 f11 f10 f9 f8 f7 f6 f5 f4 f3 f2 f1 f0
set_option maxHeartbeats 20000000 in
theorem q_227_23 {q0 : Nat} {n0 n1 n2 n3 n4 n5 n6 n7 n8 n9 n10 n11 n12 n13 n14 n15 n16 : Int} {H0 H1 H2 H3 H4 H5 : gH} (f0 : n0 ≤ 1) (f1 : 1 ≤ n0) (f2 : n1 ≤ 1007) (f3 : 0 ≤ n1) (f4 : n2 ≤ 5) (f5 : 0 ≤ n2) (f6 : n3 = 285) (f7 : n4 = 285) (f8 : (hLe T0 H0 H1 ∧ hFr s_227.2.2.2.2 H0 H1 ∧ hWt T0 H1) ∧ (Ab_227_180 n4 n3 n2 n1 n0 H0 H1 ∧ preb_227 n4 H0) ∧ some q0 = some (mub_227_180 n4 n3 n2 n1 n0 H0 H1)) (f9 : n2 < 0) (f10 : n5 ≤ 500) (f11 : 0 ≤ n5) (f12 : n5 = hV H1 (n3).toNat 11) (f13 : n6 = 1) (f14 : (hLe T0 H1 H2 ∧ hFr s_220.2.2.2.2 H1 H2 ∧ ((0 : Int) = 0 → H2.length = H1.length) ∧ hWt T0 H2) ∧ postb_220 n3 n6 H1 H2) (f15 : n7 = 25) (f16 : (hLe T0 H2 H3 ∧ hFr s_220.2.2.2.2 H2 H3 ∧ ((0 : Int) = 0 → H3.length = H2.length) ∧ hWt T0 H3) ∧ postb_220 n3 n7 H2 H3) (f17 : n8 = 0) (f18 : (hLe T0 H3 H4 ∧ hFr s_229.2.2.2.2 H3 H4 ∧ ((0 : Int) = 0 → H4.length = H3.length) ∧ hWt T0 H4) ∧ postb_229 n3 n1 n8 H3 H4) (f19 : n9 ≤ 2) (f20 : 0 ≤ n9) (f21 : n9 = hV H4 (n3).toNat 13) (f22 : n9 ≤ 0) (f23 : n10 = 300) (f24 : n10 = hV H4 (n3).toNat 26) (f25 : n11 = (-1)) (f26 : hUpd H5 H4 n10 n1 n11) (f27 : n12 = 294) (f28 : n12 = hV H5 (n3).toNat 20) (f29 : n13 ≤ 7) (f30 : 0 ≤ n13) (f31 : n13 = hV H5 (n3).toNat 32) (f32 : n14 ≤ 6) (f33 : 0 ≤ n14) (f34 : n14 = hV H5 (n12).toNat (n13).toNat) (f35 : n15 = 1) (f36 : n16 = w32 (n14 - n15)) : n16 ≤ 5 := by
  have g4 := f8.2.1.1
  unfold Ab_227_180 at g4
  have g3 := f8.2.1.2
  unfold preb_227 at g3
  unfold postb_220 at f14
  unfold postb_220 at f16
  unfold postb_229 at f18
  have e0 : n5 = hV H1 285 11 := (by rw [f6] at f12; exact f12 : n5 = hV H1 285 11)
  have e1 : n9 = hV H4 285 13 := (by rw [f6] at f21; exact f21 : n9 = hV H4 285 13)
  have e7 : n13 = hV H0 285 32 := (by rw [f6] at f31; exact f31 : n13 = hV H5 285 32).trans (((uPlace f26 285 32 (iS (show n10 = ((300 : Nat) : Int) from f23) rfl))).trans (((f18.1.2.1.1 285 32 kF_229_285_32)).trans (((f16.1.2.1.1 285 32 kF_220_285_32)).trans (((f14.1.2.1.1 285 32 kF_220_285_32)).trans (f8.1.2.1.1 285 32 kF_227_285_32)))))
  have e12 : hV H1 294 = hV H0 294 := fRow f8.1.2.1 294 kR_227_294
  have e13 : n14 = hV H0 294 (n13).toNat := (by rw [f27] at f34; exact f34 : n14 = hV H5 294 (n13).toNat).trans (((congrFun (uRowNe f26 294 (iS (show n10 = ((300 : Nat) : Int) from f23) rfl)) _)).trans (((congrFun (fRow f18.1.2.1 294 kR_229_294) _)).trans (((congrFun (fRow f16.1.2.1 294 kR_220_294) _)).trans (((congrFun (fRow f14.1.2.1 294 kR_220_294) _)).trans ((congrFun e12 _))))))
  have e15 : hV H1 285 18 = hV H0 285 18 := (f8.1.2.1.1 285 18 kF_227_285_18)
  have e16 : hV H1 285 32 = hV H0 285 32 := (f8.1.2.1.1 285 32 kF_227_285_32)
  have e18 : hV H1 285 33 = hV H0 285 33 := (f8.1.2.1.1 285 33 kF_227_285_33)
  have e20 : hV H1 285 64 = hV H0 285 64 := (f8.1.2.1.1 285 64 kF_227_285_64)
  have e21 : hV H1 328 = hV H0 328 := fRow f8.1.2.1 328 kR_227_328
  have e22 : hV H1 332 = hV H0 332 := fRow f8.1.2.1 332 kR_227_332
  have e23 : hV H1 335 = hV H0 335 := fRow f8.1.2.1 335 kR_227_335
  have e29 : hV H3 285 15 = hV H1 285 15 := ((f16.1.2.1.1 285 15 kF_220_285_15)).trans (f14.1.2.1.1 285 15 kF_220_285_15)
  have e31 : hV H3 288 = hV H0 288 := (fRow f16.1.2.1 288 kR_220_288).trans ((fRow f14.1.2.1 288 kR_220_288).trans (fRow f8.1.2.1 288 kR_227_288))
  have e34 : hV H3 301 = hV H1 301 := (fRow f16.1.2.1 301 kR_220_301).trans (fRow f14.1.2.1 301 kR_220_301)
  have e37 : hV H3 302 = hV H1 302 := (fRow f16.1.2.1 302 kR_220_302).trans (fRow f14.1.2.1 302 kR_220_302)
  have e40 : hV H3 303 = hV H1 303 := (fRow f16.1.2.1 303 kR_220_303).trans (fRow f14.1.2.1 303 kR_220_303)
  have e44 : hV H4 285 18 = hV H0 285 18 := ((f18.1.2.1.1 285 18 kF_229_285_18)).trans (((f16.1.2.1.1 285 18 kF_220_285_18)).trans (((f14.1.2.1.1 285 18 kF_220_285_18)).trans (f8.1.2.1.1 285 18 kF_227_285_18)))
  have e45 : hV H4 285 32 = hV H0 285 32 := ((f18.1.2.1.1 285 32 kF_229_285_32)).trans (((f16.1.2.1.1 285 32 kF_220_285_32)).trans (((f14.1.2.1.1 285 32 kF_220_285_32)).trans (f8.1.2.1.1 285 32 kF_227_285_32)))
  have e49 : hV H4 285 33 = hV H0 285 33 := ((f18.1.2.1.1 285 33 kF_229_285_33)).trans (((f16.1.2.1.1 285 33 kF_220_285_33)).trans (((f14.1.2.1.1 285 33 kF_220_285_33)).trans (f8.1.2.1.1 285 33 kF_227_285_33)))
  have e53 : hV H4 285 64 = hV H0 285 64 := ((f18.1.2.1.1 285 64 kF_229_285_64)).trans (((f16.1.2.1.1 285 64 kF_220_285_64)).trans (((f14.1.2.1.1 285 64 kF_220_285_64)).trans (f8.1.2.1.1 285 64 kF_227_285_64)))
  have e56 : hV H4 294 = hV H0 294 := (fRow f18.1.2.1 294 kR_229_294).trans ((fRow f16.1.2.1 294 kR_220_294).trans ((fRow f14.1.2.1 294 kR_220_294).trans e12))
  have e61 : hV H4 296 = hV H1 296 := (fRow f18.1.2.1 296 kR_229_296).trans ((fRow f16.1.2.1 296 kR_220_296).trans (fRow f14.1.2.1 296 kR_220_296))
  have e66 : hV H4 297 = hV H1 297 := (fRow f18.1.2.1 297 kR_229_297).trans ((fRow f16.1.2.1 297 kR_220_297).trans (fRow f14.1.2.1 297 kR_220_297))
  have e71 : hV H4 298 = hV H1 298 := (fRow f18.1.2.1 298 kR_229_298).trans ((fRow f16.1.2.1 298 kR_220_298).trans (fRow f14.1.2.1 298 kR_220_298))
  have e76 : hV H4 300 = hV H1 300 := (fRow f18.1.2.1 300 kR_229_300).trans ((fRow f16.1.2.1 300 kR_220_300).trans (fRow f14.1.2.1 300 kR_220_300))
  have e81 : hV H4 305 = hV H1 305 := (fRow f18.1.2.1 305 kR_229_305).trans ((fRow f16.1.2.1 305 kR_220_305).trans (fRow f14.1.2.1 305 kR_220_305))
  have e87 : hV H4 328 = hV H0 328 := (fRow f18.1.2.1 328 kR_229_328).trans ((fRow f16.1.2.1 328 kR_220_328).trans ((fRow f14.1.2.1 328 kR_220_328).trans e21))
  have e93 : hV H4 332 = hV H0 332 := (fRow f18.1.2.1 332 kR_229_332).trans ((fRow f16.1.2.1 332 kR_220_332).trans ((fRow f14.1.2.1 332 kR_220_332).trans e22))
  have e99 : hV H4 335 = hV H0 335 := (fRow f18.1.2.1 335 kR_229_335).trans ((fRow f16.1.2.1 335 kR_220_335).trans ((fRow f14.1.2.1 335 kR_220_335).trans e23))
  have e100 : (0 : Int) ≤ hV H1 285 11 ∧ hV H1 285 11 ≤ 500 := f8.1.2.2 285 11 _ _ kW_285_11
  have e101 : (0 : Int) ≤ hV H1 285 13 ∧ hV H1 285 13 ≤ 2 := f8.1.2.2 285 13 _ _ kW_285_13
  have e102 : (0 : Int) ≤ hV H1 285 15 ∧ hV H1 285 15 ≤ 6 := f8.1.2.2 285 15 _ _ kW_285_15
  have e103 : (0 : Int) ≤ hV H0 285 18 ∧ hV H0 285 18 ≤ 8 := bTo e15 (f8.1.2.2 285 18 _ _ kW_285_18)
  have e104 : (0 : Int) ≤ hV H0 285 32 ∧ hV H0 285 32 ≤ 7 := bTo e16 (f8.1.2.2 285 32 _ _ kW_285_32)
  have e105 : (0 : Int) ≤ hV H0 285 33 ∧ hV H0 285 33 ≤ 62 := bTo e18 (f8.1.2.2 285 33 _ _ kW_285_33)
  have e106 : (0 : Int) ≤ hV H0 285 64 ∧ hV H0 285 64 ≤ 20 := bTo e20 (f8.1.2.2 285 64 _ _ kW_285_64)
  have e107 : (0 : Int) ≤ hV H2 285 11 ∧ hV H2 285 11 ≤ 500 := f14.1.2.2.2 285 11 _ _ kW_285_11
  have e108 : (0 : Int) ≤ hV H2 285 13 ∧ hV H2 285 13 ≤ 2 := f14.1.2.2.2 285 13 _ _ kW_285_13
  have e109 : (0 : Int) ≤ hV H3 285 11 ∧ hV H3 285 11 ≤ 500 := f16.1.2.2.2 285 11 _ _ kW_285_11
  have e110 : (0 : Int) ≤ hV H3 285 13 ∧ hV H3 285 13 ≤ 2 := f16.1.2.2.2 285 13 _ _ kW_285_13
  have e112 : (0 : Int) ≤ hV H4 285 11 ∧ hV H4 285 11 ≤ 500 := f18.1.2.2.2 285 11 _ _ kW_285_11
  have e113 : (0 : Int) ≤ hV H4 285 13 ∧ hV H4 285 13 ≤ 2 := f18.1.2.2.2 285 13 _ _ kW_285_13
  have e114 : (0 : Int) ≤ hV H4 285 15 ∧ hV H4 285 15 ≤ 6 := f18.1.2.2.2 285 15 _ _ kW_285_15
  try simp only [PA, PW]
  have y0 := g4.1
  have y1 := g4.2.1
  have y2 := g4.2.2.1
  have y3 := g4.2.2.2.1
  have y4 := g4.2.2.2.2.1
  have y5 := g4.2.2.2.2.2.1
  have y6 := g4.2.2.2.2.2.2.1
  have y7 := g4.2.2.2.2.2.2.2.1
  have y8 := g4.2.2.2.2.2.2.2.2.1
  have y9 := g4.2.2.2.2.2.2.2.2.2.1
  have y10 := g4.2.2.2.2.2.2.2.2.2.2.1
  have y11 := g4.2.2.2.2.2.2.2.2.2.2.2.1
  have y12 := g4.2.2.2.2.2.2.2.2.2.2.2.2.1
  have y13 := g4.2.2.2.2.2.2.2.2.2.2.2.2.2
  have p0 := g3.1
  have p1 := g3.2.1
  have p2 := g3.2.2.1
  have p3 := g3.2.2.2.1
  have p4 := g3.2.2.2.2.1
  have p5 := g3.2.2.2.2.2.1
  have p6 := g3.2.2.2.2.2.2
  have r0_0 := f14.2.1
  have r0_1 := f14.2.2.1
  have r0_2 := f14.2.2.2.1
  have r0_3 := f14.2.2.2.2.1
  have r1_0 := f16.2.1
  have r1_1 := f16.2.2.1
  have r1_2 := f16.2.2.2.1
  have r1_3 := f16.2.2.2.2.1
  have r2_0 := f18.2.1
  have r2_1 := f18.2.2.1
  have r2_2 := f18.2.2.2.1
  have r2_3 := f18.2.2.2.2.1
  have r2_4 := f18.2.2.2.2.2.1
  have r2_5 := f18.2.2.2.2.2.2.1
  have r2_6 := f18.2.2.2.2.2.2.2.1
  have r2_7 := f18.2.2.2.2.2.2.2.2.1 f17
  try simp only [PA] at y0
  try simp only [PW] at y1
  try simp only [PA] at p0
  try simp only [PW] at p5
  try simp only [PA] at r2_0
  try simp only [PW] at r2_1
  try simp only [e15, e20, e12, e21, e22, e23] at y0
  try simp only [e16, e18, e12] at y1
  try simp only [e18] at y8
  try simp only [e18] at y9
  try simp only [e44, e53, e56, e61, e71, e76, e81, e87, e93, e99] at r2_0
  try simp only [e45, e49, e56, e61, e66, e71, e76, e81] at r2_1
  try simp only [e29] at r2_5
  try simp only [e29] at r2_6
  try simp only [e29, e31, e34, e37, e40, e44, e45, e49, e53, e56, e61, e66, e71, e76, e81, e87, e93, e99] at r2_7
  clear g3
  clear g4
  have wb0 := (y2 (hV H0 285 32).toNat).1
  have wp0 := (y2 (hV H0 285 33).toNat).2
  try simp only [e15, e16, e18, e20, e12, e21, e22, e23] at wb0
  try simp only [e15, e16, e18, e20, e12, e21, e22, e23] at wp0
  clear f12 f21 f24 f28 f31 f34 e12 e15 e16 e18 e20 e21 e22 e23 e29 e31 e34 e37 e40 e44 e45 e49 e53 e56 e61 e66 e71 e76 e81 e87 e93 e99
  clear f8 f14 f16 f18
  subst e0
  subst e1
  subst e7
  subst e13
  first
  | (have ix0 : n16 = hV H0 294 (hV H0 285 32).toNat - 1 := Eq.trans f36 (w32_iv (Isu (Iat f33 f32) (IC 1)) (by decide)); subst ix0; clear f36)
  | (have ix0 : n16 = hV H0 294 (hV H0 285 32).toNat - 1 := Eq.trans f36 (w32_id (by omega) (by omega)); subst ix0; clear f36)
  | (unfold w32 at f36; have ix0 : n16 = hV H0 294 (hV H0 285 32).toNat - 1 := (by omega); subst ix0)
  | skip
  try unfold w32 at f36

  (try clear y0 y1 y2 p0 p5 p6 r2_0 r2_1)
  omega
def g_227_180_2 : vG := ([(2, [16, 14, 15], [], 0), (0, [15], [], 1), (22, [14, 12, 13], [5], 0), (90, [14], [], 0), (91, [14], [], 6), (20, [13, 1], [5], 32), (90, [13], [], 0), (91, [13], [], 7), (20, [12, 1], [5], 20), (0, [12], [], 294), (80, [10, 3, 11], [5, 4], 0), (0, [11], [], -1), (20, [10, 1], [4], 26), (0, [10], [], 300), (35, [9], [], 0), (20, [9, 1], [4], 13), (90, [9], [], 0), (91, [9], [], 2), (1229, [1, 3, 8], [3, 4], 0), (0, [8], [], 0), (1220, [1, 7], [2, 3], 0), (0, [7], [], 25), (1220, [1, 6], [1, 2], 0), (0, [6], [], 1), (20, [5, 1], [1], 11), (90, [5], [], 0), (91, [5], [], 500), (66, [2], [], 0), (5000, [0, 1, 2, 3, 4], [0, 1], 180), (0, [0], [], 285), (0, [1], [], 285), (90, [2], [], 0), (91, [2], [], 5), (90, [3], [], 0), (91, [3], [], 1007), (90, [4], [], 1), (91, [4], [], 1)], (91, [16], [], 5))
theorem c_227_180_2 {q0 : Nat} : vOkm T0 (eP e_227 L_227 A_227 mu_227 (some q0)) 1 g_227_180_2 := vOk_inI fun ρ η f0 f1 f2 f3 f4 f5 f6 f7 f8 f9 f10 f11 f12 f13 f14 f15 f16 f17 f18 f19 f20 f21 f22 f23 f24 f25 f26 f27 f28 f29 f30 f31 f32 f33 f34 f35 f36 => q_227_23 (q0 := q0) (n0 := ρ 4) (n1 := ρ 3) (n2 := ρ 2) (n3 := ρ 1) (n4 := ρ 0) (n5 := ρ 5) (n6 := ρ 6) (n7 := ρ 7) (n8 := ρ 8) (n9 := ρ 9) (n10 := ρ 10) (n11 := ρ 11) (n12 := ρ 12) (n13 := ρ 13) (n14 := ρ 14) (n15 := ρ 15) (n16 := ρ 16) (H0 := η 0) (H1 := η 1) (H2 := η 2) (H3 := η 3) (H4 := η 4) (H5 := η 5) f36 f35 f34 f33 f32 f31 f30 f29 f28 f27 f26 f25 f24 f23 f22 f21 f20 f19 f18 f17 f16 f15 f14 f13 f12 f11 f10 f9 f8 f7 f6 f5 f4 f3 f2 f1 f0
set_option maxHeartbeats 20000000 in
theorem q_227_24 {q0 : Nat} {n0 n1 n2 n3 n4 n5 n6 n7 n8 n9 n10 n11 n12 n13 n14 n15 n16 : Int} {H0 H1 H2 H3 H4 H5 : gH} (f0 : n0 ≤ 1) (f1 : 1 ≤ n0) (f2 : n1 ≤ 1007) (f3 : 0 ≤ n1) (f4 : n2 ≤ 5) (f5 : 0 ≤ n2) (f6 : n3 = 285) (f7 : n4 = 285) (f8 : (hLe T0 H0 H1 ∧ hFr s_227.2.2.2.2 H0 H1 ∧ hWt T0 H1) ∧ (Ab_227_180 n4 n3 n2 n1 n0 H0 H1 ∧ preb_227 n4 H0) ∧ some q0 = some (mub_227_180 n4 n3 n2 n1 n0 H0 H1)) (f9 : n2 < 0) (f10 : n5 ≤ 500) (f11 : 0 ≤ n5) (f12 : n5 = hV H1 (n3).toNat 11) (f13 : n6 = 1) (f14 : (hLe T0 H1 H2 ∧ hFr s_220.2.2.2.2 H1 H2 ∧ ((0 : Int) = 0 → H2.length = H1.length) ∧ hWt T0 H2) ∧ postb_220 n3 n6 H1 H2) (f15 : n7 = 25) (f16 : (hLe T0 H2 H3 ∧ hFr s_220.2.2.2.2 H2 H3 ∧ ((0 : Int) = 0 → H3.length = H2.length) ∧ hWt T0 H3) ∧ postb_220 n3 n7 H2 H3) (f17 : n8 = 0) (f18 : (hLe T0 H3 H4 ∧ hFr s_229.2.2.2.2 H3 H4 ∧ ((0 : Int) = 0 → H4.length = H3.length) ∧ hWt T0 H4) ∧ postb_229 n3 n1 n8 H3 H4) (f19 : n9 ≤ 2) (f20 : 0 ≤ n9) (f21 : n9 = hV H4 (n3).toNat 13) (f22 : n9 ≤ 0) (f23 : n10 = 300) (f24 : n10 = hV H4 (n3).toNat 26) (f25 : n11 = (-1)) (f26 : hUpd H5 H4 n10 n1 n11) (f27 : n12 = 294) (f28 : n12 = hV H5 (n3).toNat 20) (f29 : n13 ≤ 7) (f30 : 0 ≤ n13) (f31 : n13 = hV H5 (n3).toNat 32) (f32 : n14 ≤ 6) (f33 : 0 ≤ n14) (f34 : n14 = hV H5 (n12).toNat (n13).toNat) (f35 : n15 = 1) (f36 : n16 = w32 (n14 - n15)) : Ab_227_471 n4 n3 n2 n1 n0 n5 n16 H0 H5 ∧ ∀ q, some q0 = some q → mub_227_471 n4 n3 n2 n1 n0 n5 n16 H0 H5 < q := by
  have g4 := f8.2.1.1
  unfold Ab_227_180 at g4
  have g3 := f8.2.1.2
  unfold preb_227 at g3
  have g5 := Option.some.inj f8.2.2
  unfold mub_227_180 at g5
  unfold postb_220 at f14
  unfold postb_220 at f16
  unfold postb_229 at f18
  unfold Ab_227_471
  unfold mub_227_471
  have e0 : n5 = hV H1 285 11 := (by rw [f6] at f12; exact f12 : n5 = hV H1 285 11)
  have e1 : n9 = hV H4 285 13 := (by rw [f6] at f21; exact f21 : n9 = hV H4 285 13)
  have e7 : n13 = hV H0 285 32 := (by rw [f6] at f31; exact f31 : n13 = hV H5 285 32).trans (((uPlace f26 285 32 (iS (show n10 = ((300 : Nat) : Int) from f23) rfl))).trans (((f18.1.2.1.1 285 32 kF_229_285_32)).trans (((f16.1.2.1.1 285 32 kF_220_285_32)).trans (((f14.1.2.1.1 285 32 kF_220_285_32)).trans (f8.1.2.1.1 285 32 kF_227_285_32)))))
  have e12 : hV H1 294 = hV H0 294 := fRow f8.1.2.1 294 kR_227_294
  have e13 : n14 = hV H0 294 (n13).toNat := (by rw [f27] at f34; exact f34 : n14 = hV H5 294 (n13).toNat).trans (((congrFun (uRowNe f26 294 (iS (show n10 = ((300 : Nat) : Int) from f23) rfl)) _)).trans (((congrFun (fRow f18.1.2.1 294 kR_229_294) _)).trans (((congrFun (fRow f16.1.2.1 294 kR_220_294) _)).trans (((congrFun (fRow f14.1.2.1 294 kR_220_294) _)).trans ((congrFun e12 _))))))
  have e15 : hV H1 285 18 = hV H0 285 18 := (f8.1.2.1.1 285 18 kF_227_285_18)
  have e16 : hV H1 285 32 = hV H0 285 32 := (f8.1.2.1.1 285 32 kF_227_285_32)
  have e18 : hV H1 285 33 = hV H0 285 33 := (f8.1.2.1.1 285 33 kF_227_285_33)
  have e20 : hV H1 285 64 = hV H0 285 64 := (f8.1.2.1.1 285 64 kF_227_285_64)
  have e21 : hV H1 328 = hV H0 328 := fRow f8.1.2.1 328 kR_227_328
  have e22 : hV H1 332 = hV H0 332 := fRow f8.1.2.1 332 kR_227_332
  have e23 : hV H1 335 = hV H0 335 := fRow f8.1.2.1 335 kR_227_335
  have e29 : hV H3 285 15 = hV H1 285 15 := ((f16.1.2.1.1 285 15 kF_220_285_15)).trans (f14.1.2.1.1 285 15 kF_220_285_15)
  have e31 : hV H3 288 = hV H0 288 := (fRow f16.1.2.1 288 kR_220_288).trans ((fRow f14.1.2.1 288 kR_220_288).trans (fRow f8.1.2.1 288 kR_227_288))
  have e34 : hV H3 301 = hV H1 301 := (fRow f16.1.2.1 301 kR_220_301).trans (fRow f14.1.2.1 301 kR_220_301)
  have e37 : hV H3 302 = hV H1 302 := (fRow f16.1.2.1 302 kR_220_302).trans (fRow f14.1.2.1 302 kR_220_302)
  have e40 : hV H3 303 = hV H1 303 := (fRow f16.1.2.1 303 kR_220_303).trans (fRow f14.1.2.1 303 kR_220_303)
  have e44 : hV H4 285 18 = hV H0 285 18 := ((f18.1.2.1.1 285 18 kF_229_285_18)).trans (((f16.1.2.1.1 285 18 kF_220_285_18)).trans (((f14.1.2.1.1 285 18 kF_220_285_18)).trans (f8.1.2.1.1 285 18 kF_227_285_18)))
  have e45 : hV H4 285 32 = hV H0 285 32 := ((f18.1.2.1.1 285 32 kF_229_285_32)).trans (((f16.1.2.1.1 285 32 kF_220_285_32)).trans (((f14.1.2.1.1 285 32 kF_220_285_32)).trans (f8.1.2.1.1 285 32 kF_227_285_32)))
  have e49 : hV H4 285 33 = hV H0 285 33 := ((f18.1.2.1.1 285 33 kF_229_285_33)).trans (((f16.1.2.1.1 285 33 kF_220_285_33)).trans (((f14.1.2.1.1 285 33 kF_220_285_33)).trans (f8.1.2.1.1 285 33 kF_227_285_33)))
  have e53 : hV H4 285 64 = hV H0 285 64 := ((f18.1.2.1.1 285 64 kF_229_285_64)).trans (((f16.1.2.1.1 285 64 kF_220_285_64)).trans (((f14.1.2.1.1 285 64 kF_220_285_64)).trans (f8.1.2.1.1 285 64 kF_227_285_64)))
  have e56 : hV H4 294 = hV H0 294 := (fRow f18.1.2.1 294 kR_229_294).trans ((fRow f16.1.2.1 294 kR_220_294).trans ((fRow f14.1.2.1 294 kR_220_294).trans e12))
  have e61 : hV H4 296 = hV H1 296 := (fRow f18.1.2.1 296 kR_229_296).trans ((fRow f16.1.2.1 296 kR_220_296).trans (fRow f14.1.2.1 296 kR_220_296))
  have e66 : hV H4 297 = hV H1 297 := (fRow f18.1.2.1 297 kR_229_297).trans ((fRow f16.1.2.1 297 kR_220_297).trans (fRow f14.1.2.1 297 kR_220_297))
  have e71 : hV H4 298 = hV H1 298 := (fRow f18.1.2.1 298 kR_229_298).trans ((fRow f16.1.2.1 298 kR_220_298).trans (fRow f14.1.2.1 298 kR_220_298))
  have e76 : hV H4 300 = hV H1 300 := (fRow f18.1.2.1 300 kR_229_300).trans ((fRow f16.1.2.1 300 kR_220_300).trans (fRow f14.1.2.1 300 kR_220_300))
  have e81 : hV H4 305 = hV H1 305 := (fRow f18.1.2.1 305 kR_229_305).trans ((fRow f16.1.2.1 305 kR_220_305).trans (fRow f14.1.2.1 305 kR_220_305))
  have e87 : hV H4 328 = hV H0 328 := (fRow f18.1.2.1 328 kR_229_328).trans ((fRow f16.1.2.1 328 kR_220_328).trans ((fRow f14.1.2.1 328 kR_220_328).trans e21))
  have e93 : hV H4 332 = hV H0 332 := (fRow f18.1.2.1 332 kR_229_332).trans ((fRow f16.1.2.1 332 kR_220_332).trans ((fRow f14.1.2.1 332 kR_220_332).trans e22))
  have e99 : hV H4 335 = hV H0 335 := (fRow f18.1.2.1 335 kR_229_335).trans ((fRow f16.1.2.1 335 kR_220_335).trans ((fRow f14.1.2.1 335 kR_220_335).trans e23))
  have e101 : hV H5 285 11 = hV H4 285 11 := (uPlace f26 285 11 (iS (show n10 = ((300 : Nat) : Int) from f23) rfl))
  have e103 : hV H5 285 13 = hV H4 285 13 := (uPlace f26 285 13 (iS (show n10 = ((300 : Nat) : Int) from f23) rfl))
  have e105 : hV H5 285 15 = hV H4 285 15 := (uPlace f26 285 15 (iS (show n10 = ((300 : Nat) : Int) from f23) rfl))
  have e107 : hV H5 285 18 = hV H0 285 18 := ((uPlace f26 285 18 (iS (show n10 = ((300 : Nat) : Int) from f23) rfl))).trans (((f18.1.2.1.1 285 18 kF_229_285_18)).trans (((f16.1.2.1.1 285 18 kF_220_285_18)).trans (((f14.1.2.1.1 285 18 kF_220_285_18)).trans (f8.1.2.1.1 285 18 kF_227_285_18))))
  have e108 : hV H5 285 32 = hV H0 285 32 := ((uPlace f26 285 32 (iS (show n10 = ((300 : Nat) : Int) from f23) rfl))).trans (((f18.1.2.1.1 285 32 kF_229_285_32)).trans (((f16.1.2.1.1 285 32 kF_220_285_32)).trans (((f14.1.2.1.1 285 32 kF_220_285_32)).trans (f8.1.2.1.1 285 32 kF_227_285_32))))
  have e110 : hV H5 285 33 = hV H0 285 33 := ((uPlace f26 285 33 (iS (show n10 = ((300 : Nat) : Int) from f23) rfl))).trans (((f18.1.2.1.1 285 33 kF_229_285_33)).trans (((f16.1.2.1.1 285 33 kF_220_285_33)).trans (((f14.1.2.1.1 285 33 kF_220_285_33)).trans (f8.1.2.1.1 285 33 kF_227_285_33))))
  have e112 : hV H5 285 64 = hV H0 285 64 := ((uPlace f26 285 64 (iS (show n10 = ((300 : Nat) : Int) from f23) rfl))).trans (((f18.1.2.1.1 285 64 kF_229_285_64)).trans (((f16.1.2.1.1 285 64 kF_220_285_64)).trans (((f14.1.2.1.1 285 64 kF_220_285_64)).trans (f8.1.2.1.1 285 64 kF_227_285_64))))
  have e113 : hV H5 294 = hV H0 294 := (uRowNe f26 294 (iS (show n10 = ((300 : Nat) : Int) from f23) rfl)).trans e56
  have e115 : hV H5 296 = hV H1 296 := (uRowNe f26 296 (iS (show n10 = ((300 : Nat) : Int) from f23) rfl)).trans e61
  have e117 : hV H5 297 = hV H1 297 := (uRowNe f26 297 (iS (show n10 = ((300 : Nat) : Int) from f23) rfl)).trans e66
  have e119 : hV H5 298 = hV H1 298 := (uRowNe f26 298 (iS (show n10 = ((300 : Nat) : Int) from f23) rfl)).trans e71
  have e121 : hV H5 300 = (uF (hV H1 300) n1 n11) := (uRow f26 300 f23.symm).trans (congrArg (fun z => uF z n1 n11) e76)
  have e122 : hV H5 301 = hV H4 301 := uRowNe f26 301 (iS (show n10 = ((300 : Nat) : Int) from f23) rfl)
  have e123 : hV H5 302 = hV H4 302 := uRowNe f26 302 (iS (show n10 = ((300 : Nat) : Int) from f23) rfl)
  have e124 : hV H5 303 = hV H4 303 := uRowNe f26 303 (iS (show n10 = ((300 : Nat) : Int) from f23) rfl)
  have e126 : hV H5 305 = hV H1 305 := (uRowNe f26 305 (iS (show n10 = ((300 : Nat) : Int) from f23) rfl)).trans e81
  have e128 : hV H5 328 = hV H0 328 := (uRowNe f26 328 (iS (show n10 = ((300 : Nat) : Int) from f23) rfl)).trans e87
  have e130 : hV H5 332 = hV H0 332 := (uRowNe f26 332 (iS (show n10 = ((300 : Nat) : Int) from f23) rfl)).trans e93
  have e132 : hV H5 335 = hV H0 335 := (uRowNe f26 335 (iS (show n10 = ((300 : Nat) : Int) from f23) rfl)).trans e99
  have e133 : PQ H2 = PQ H1 := PQ_fr f14.1.2.1 (by decide +kernel)
  have e134 : PQ H3 = PQ H2 := PQ_fr f16.1.2.1 (by decide +kernel)
  have e135 : PQ H3 = PQ H1 := e134.trans e133
  have e136 : PQ H4 = PQ H3 := PQ_fr f18.1.2.1 (by decide +kernel)
  have e137 : PQ H4 = PQ H1 := e136.trans e135
  have e138 : PQ H5 = PQ H4 := PQ_upR f26 (show n10 = ((300 : Nat) : Int) from f23) (by decide)
  have e139 : PQ H5 = PQ H1 := e138.trans e137
  have e140 : (0 : Int) ≤ hV H1 285 11 ∧ hV H1 285 11 ≤ 500 := f8.1.2.2 285 11 _ _ kW_285_11
  have e141 : (0 : Int) ≤ hV H1 285 13 ∧ hV H1 285 13 ≤ 2 := f8.1.2.2 285 13 _ _ kW_285_13
  have e142 : (0 : Int) ≤ hV H1 285 15 ∧ hV H1 285 15 ≤ 6 := f8.1.2.2 285 15 _ _ kW_285_15
  have e143 : (0 : Int) ≤ hV H0 285 18 ∧ hV H0 285 18 ≤ 8 := bTo e15 (f8.1.2.2 285 18 _ _ kW_285_18)
  have e144 : (0 : Int) ≤ hV H0 285 32 ∧ hV H0 285 32 ≤ 7 := bTo e16 (f8.1.2.2 285 32 _ _ kW_285_32)
  have e145 : (0 : Int) ≤ hV H0 285 33 ∧ hV H0 285 33 ≤ 62 := bTo e18 (f8.1.2.2 285 33 _ _ kW_285_33)
  have e146 : (0 : Int) ≤ hV H0 285 64 ∧ hV H0 285 64 ≤ 20 := bTo e20 (f8.1.2.2 285 64 _ _ kW_285_64)
  have e147 : (0 : Int) ≤ hV H2 285 11 ∧ hV H2 285 11 ≤ 500 := f14.1.2.2.2 285 11 _ _ kW_285_11
  have e148 : (0 : Int) ≤ hV H2 285 13 ∧ hV H2 285 13 ≤ 2 := f14.1.2.2.2 285 13 _ _ kW_285_13
  have e149 : (0 : Int) ≤ hV H3 285 11 ∧ hV H3 285 11 ≤ 500 := f16.1.2.2.2 285 11 _ _ kW_285_11
  have e150 : (0 : Int) ≤ hV H3 285 13 ∧ hV H3 285 13 ≤ 2 := f16.1.2.2.2 285 13 _ _ kW_285_13
  have e152 : (0 : Int) ≤ hV H4 285 11 ∧ hV H4 285 11 ≤ 500 := f18.1.2.2.2 285 11 _ _ kW_285_11
  have e153 : (0 : Int) ≤ hV H4 285 13 ∧ hV H4 285 13 ≤ 2 := f18.1.2.2.2 285 13 _ _ kW_285_13
  have e154 : (0 : Int) ≤ hV H4 285 15 ∧ hV H4 285 15 ≤ 6 := f18.1.2.2.2 285 15 _ _ kW_285_15
  try simp only [PA, PW]
  try simp only [e101, e103, e105, e107, e108, e110, e112, e113, e115, e117, e119, e121, e122, e123, e124, e126, e128, e130, e132, e139]
  have y0 := g4.1
  have y1 := g4.2.1
  have y2 := g4.2.2.1
  have y3 := g4.2.2.2.1
  have y4 := g4.2.2.2.2.1
  have y5 := g4.2.2.2.2.2.1
  have y6 := g4.2.2.2.2.2.2.1
  have y7 := g4.2.2.2.2.2.2.2.1
  have y8 := g4.2.2.2.2.2.2.2.2.1
  have y9 := g4.2.2.2.2.2.2.2.2.2.1
  have y10 := g4.2.2.2.2.2.2.2.2.2.2.1
  have y11 := g4.2.2.2.2.2.2.2.2.2.2.2.1
  have y12 := g4.2.2.2.2.2.2.2.2.2.2.2.2.1
  have y13 := g4.2.2.2.2.2.2.2.2.2.2.2.2.2
  have p0 := g3.1
  have p1 := g3.2.1
  have p2 := g3.2.2.1
  have p3 := g3.2.2.2.1
  have p4 := g3.2.2.2.2.1
  have p5 := g3.2.2.2.2.2.1
  have p6 := g3.2.2.2.2.2.2
  have r0_0 := f14.2.1
  have r0_1 := f14.2.2.1
  have r0_2 := f14.2.2.2.1
  have r0_3 := f14.2.2.2.2.1
  have r1_0 := f16.2.1
  have r1_1 := f16.2.2.1
  have r1_2 := f16.2.2.2.1
  have r1_3 := f16.2.2.2.2.1
  have r2_0 := f18.2.1
  have r2_1 := f18.2.2.1
  have r2_2 := f18.2.2.2.1
  have r2_3 := f18.2.2.2.2.1
  have r2_4 := f18.2.2.2.2.2.1
  have r2_5 := f18.2.2.2.2.2.2.1
  have r2_6 := f18.2.2.2.2.2.2.2.1
  have r2_7 := f18.2.2.2.2.2.2.2.2.1 f17
  try simp only [PA] at y0
  try simp only [PW] at y1
  try simp only [PA] at p0
  try simp only [PW] at p5
  try simp only [PA] at r2_0
  try simp only [PW] at r2_1
  try simp only [e15, e20, e12, e21, e22, e23] at y0
  try simp only [e16, e18, e12] at y1
  try simp only [e18] at y8
  try simp only [e18] at y9
  try simp only [e44, e53, e56, e61, e71, e76, e81, e87, e93, e99] at r2_0
  try simp only [e45, e49, e56, e61, e66, e71, e76, e81] at r2_1
  try simp only [e29] at r2_5
  try simp only [e29] at r2_6
  try simp only [e29, e31, e34, e37, e40, e44, e45, e49, e53, e56, e61, e66, e71, e76, e81, e87, e93, e99] at r2_7
  clear g3
  clear g4
  have wb0 := (y2 (hV H0 285 32).toNat).1
  have wp0 := (y2 (hV H0 285 33).toNat).2
  try simp only [e15, e16, e18, e20, e12, e21, e22, e23] at wb0
  try simp only [e15, e16, e18, e20, e12, e21, e22, e23] at wp0
  clear f12 f21 f24 f28 f31 f34 e12 e15 e16 e18 e20 e21 e22 e23 e29 e31 e34 e37 e40 e44 e45 e49 e53 e56 e61 e66 e71 e76 e81 e87 e93 e99 e101 e103 e105 e107 e108 e110 e112 e113 e115 e117 e119 e121 e122 e123 e124 e126 e128 e130 e132 e133 e134 e135 e136 e137 e138 e139
  clear f8 f14 f16 f18
  subst e0
  subst e1
  subst e7
  subst e13
  first
  | (have ix0 : n16 = hV H0 294 (hV H0 285 32).toNat - 1 := Eq.trans f36 (w32_iv (Isu (Iat f33 f32) (IC 1)) (by decide)); subst ix0; clear f36)
  | (have ix0 : n16 = hV H0 294 (hV H0 285 32).toNat - 1 := Eq.trans f36 (w32_id (by omega) (by omega)); subst ix0; clear f36)
  | (unfold w32 at f36; have ix0 : n16 = hV H0 294 (hV H0 285 32).toNat - 1 := (by omega); subst ix0)
  | skip
  try unfold w32 at f36

  refine ⟨⟨?_, ?_, ?_, ?_, ?_, ?_, ?_, ?_, ?_, ?_, ?_, ?_, ?_, ?_, ?_, ?_, ?_, ?_, ?_⟩, fun q hq => ?_⟩
  · refine PA_cw ?_ (by omega)
    exact r2_0
  · intro z1 z2
    refine PW_cw ?_ (by omega) (by omega) (by omega) (by omega)
    exact r2_1 (by omega) (by omega)
  · exact y2
  · (try clear y0 y1 y2 p0 p5 p6 r2_0 r2_1)
    first | exact True.intro | omega
  · (try clear y0 y1 y2 p0 p5 p6 r2_0 r2_1)
    first | exact True.intro | omega
  · (try clear y0 y1 y2 p0 p5 p6 r2_0 r2_1)
    first | exact True.intro | omega
  · (try clear y0 y1 y2 p0 p5 p6 r2_0 r2_1)
    first | exact True.intro | omega
  · (try clear y0 y1 y2 p0 p5 p6 r2_0 r2_1)
    first | exact True.intro | omega
  · (try clear y0 y1 y2 p0 p5 p6 r2_0 r2_1)
    first | exact True.intro | omega
  · (try clear y0 y1 y2 p0 p5 p6 r2_0 r2_1)
    first | exact True.intro | omega
  · (try clear y0 y1 y2 p0 p5 p6 r2_0 r2_1)
    first | exact True.intro | omega
  · (try clear y0 y1 y2 p0 p5 p6 r2_0 r2_1)
    first | exact True.intro | omega
  · (try clear y0 y1 y2 p0 p5 p6 r2_0 r2_1)
    first | exact True.intro | omega
  · (try clear y0 y1 y2 p0 p5 p6 r2_0 r2_1)
    first | exact True.intro | omega
  · (try clear y0 y1 y2 p0 p5 p6 r2_0 r2_1)
    first | exact True.intro | omega
  · (try clear y0 y1 y2 p0 p5 p6 r2_0 r2_1)
    first | exact True.intro | omega
  · (try clear y0 y1 y2 p0 p5 p6 r2_0 r2_1)
    first | exact True.intro | omega
  · (try clear y0 y1 y2 p0 p5 p6 r2_0 r2_1)
    first | (simp only [uF_at]; omega) | omega
  · (try clear y0 y1 y2 p0 p5 p6 r2_0 r2_1)
    first | (simp only [uF_at]; omega) | omega
  · (try clear y0 y1 y2 p0 p5 p6 r2_0 r2_1)
    have g6 := Option.some.inj hq
    subst g6
    omega
def g_227_180_3 : vG := ([(2, [16, 14, 15], [], 0), (0, [15], [], 1), (22, [14, 12, 13], [5], 0), (90, [14], [], 0), (91, [14], [], 6), (20, [13, 1], [5], 32), (90, [13], [], 0), (91, [13], [], 7), (20, [12, 1], [5], 20), (0, [12], [], 294), (80, [10, 3, 11], [5, 4], 0), (0, [11], [], -1), (20, [10, 1], [4], 26), (0, [10], [], 300), (35, [9], [], 0), (20, [9, 1], [4], 13), (90, [9], [], 0), (91, [9], [], 2), (1229, [1, 3, 8], [3, 4], 0), (0, [8], [], 0), (1220, [1, 7], [2, 3], 0), (0, [7], [], 25), (1220, [1, 6], [1, 2], 0), (0, [6], [], 1), (20, [5, 1], [1], 11), (90, [5], [], 0), (91, [5], [], 500), (66, [2], [], 0), (5000, [0, 1, 2, 3, 4], [0, 1], 180), (0, [0], [], 285), (0, [1], [], 285), (90, [2], [], 0), (91, [2], [], 5), (90, [3], [], 0), (91, [3], [], 1007), (90, [4], [], 1), (91, [4], [], 1)], (4000, [1, 2, 3, 4, 5, 16], [5], 471))
theorem c_227_180_3 {q0 : Nat} : vOkm T0 (eP e_227 L_227 A_227 mu_227 (some q0)) 1 g_227_180_3 := vOk_inI fun ρ η f0 f1 f2 f3 f4 f5 f6 f7 f8 f9 f10 f11 f12 f13 f14 f15 f16 f17 f18 f19 f20 f21 f22 f23 f24 f25 f26 f27 f28 f29 f30 f31 f32 f33 f34 f35 f36 => q_227_24 (q0 := q0) (n0 := ρ 4) (n1 := ρ 3) (n2 := ρ 2) (n3 := ρ 1) (n4 := ρ 0) (n5 := ρ 5) (n6 := ρ 6) (n7 := ρ 7) (n8 := ρ 8) (n9 := ρ 9) (n10 := ρ 10) (n11 := ρ 11) (n12 := ρ 12) (n13 := ρ 13) (n14 := ρ 14) (n15 := ρ 15) (n16 := ρ 16) (H0 := η 0) (H1 := η 1) (H2 := η 2) (H3 := η 3) (H4 := η 4) (H5 := η 5) f36 f35 f34 f33 f32 f31 f30 f29 f28 f27 f26 f25 f24 f23 f22 f21 f20 f19 f18 f17 f16 f15 f14 f13 f12 f11 f10 f9 f8 f7 f6 f5 f4 f3 f2 f1 f0
set_option maxHeartbeats 20000000 in
theorem q_227_25 {q0 : Nat} {n0 n1 n2 n3 n4 n5 n6 n7 n8 n9 : Int} {H0 H1 H2 H3 H4 : gH} (f0 : n0 ≤ 1) (f1 : 1 ≤ n0) (f2 : n1 ≤ 1007) (f3 : 0 ≤ n1) (f4 : n2 ≤ 5) (f5 : 0 ≤ n2) (f6 : n3 = 285) (f7 : n4 = 285) (f8 : (hLe T0 H0 H1 ∧ hFr s_227.2.2.2.2 H0 H1 ∧ hWt T0 H1) ∧ (Ab_227_180 n4 n3 n2 n1 n0 H0 H1 ∧ preb_227 n4 H0) ∧ some q0 = some (mub_227_180 n4 n3 n2 n1 n0 H0 H1)) (f9 : n2 < 0) (f10 : n5 ≤ 500) (f11 : 0 ≤ n5) (f12 : n5 = hV H1 (n3).toNat 11) (f13 : n6 = 1) (f14 : (hLe T0 H1 H2 ∧ hFr s_220.2.2.2.2 H1 H2 ∧ ((0 : Int) = 0 → H2.length = H1.length) ∧ hWt T0 H2) ∧ postb_220 n3 n6 H1 H2) (f15 : n7 = 25) (f16 : (hLe T0 H2 H3 ∧ hFr s_220.2.2.2.2 H2 H3 ∧ ((0 : Int) = 0 → H3.length = H2.length) ∧ hWt T0 H3) ∧ postb_220 n3 n7 H2 H3) (f17 : n8 = 0) (f18 : (hLe T0 H3 H4 ∧ hFr s_229.2.2.2.2 H3 H4 ∧ ((0 : Int) = 0 → H4.length = H3.length) ∧ hWt T0 H4) ∧ postb_229 n3 n1 n8 H3 H4) (f19 : n9 ≤ 2) (f20 : 0 ≤ n9) (f21 : n9 = hV H4 (n3).toNat 13) (f22 : 0 < n9) : postb_227 n4 H0 H4 := by
  have g4 := f8.2.1.1
  unfold Ab_227_180 at g4
  have g3 := f8.2.1.2
  unfold preb_227 at g3
  unfold postb_220 at f14
  unfold postb_220 at f16
  unfold postb_229 at f18
  unfold postb_227
  have e0 : n5 = hV H1 285 11 := (by rw [f6] at f12; exact f12 : n5 = hV H1 285 11)
  have e1 : n9 = hV H4 285 13 := (by rw [f6] at f21; exact f21 : n9 = hV H4 285 13)
  have e3 : hV H1 285 18 = hV H0 285 18 := (f8.1.2.1.1 285 18 kF_227_285_18)
  have e5 : hV H1 285 32 = hV H0 285 32 := (f8.1.2.1.1 285 32 kF_227_285_32)
  have e7 : hV H1 285 33 = hV H0 285 33 := (f8.1.2.1.1 285 33 kF_227_285_33)
  have e13 : hV H3 285 15 = hV H1 285 15 := ((f16.1.2.1.1 285 15 kF_220_285_15)).trans (f14.1.2.1.1 285 15 kF_220_285_15)
  have e15 : hV H3 288 = hV H0 288 := (fRow f16.1.2.1 288 kR_220_288).trans ((fRow f14.1.2.1 288 kR_220_288).trans (fRow f8.1.2.1 288 kR_227_288))
  have e18 : hV H3 301 = hV H1 301 := (fRow f16.1.2.1 301 kR_220_301).trans (fRow f14.1.2.1 301 kR_220_301)
  have e21 : hV H3 302 = hV H1 302 := (fRow f16.1.2.1 302 kR_220_302).trans (fRow f14.1.2.1 302 kR_220_302)
  have e24 : hV H3 303 = hV H1 303 := (fRow f16.1.2.1 303 kR_220_303).trans (fRow f14.1.2.1 303 kR_220_303)
  have e25 : PQ H2 = PQ H1 := PQ_fr f14.1.2.1 (by decide +kernel)
  have e26 : PQ H3 = PQ H2 := PQ_fr f16.1.2.1 (by decide +kernel)
  have e27 : PQ H3 = PQ H1 := e26.trans e25
  have e28 : PQ H4 = PQ H3 := PQ_fr f18.1.2.1 (by decide +kernel)
  have e29 : PQ H4 = PQ H1 := e28.trans e27
  have e30 : (0 : Int) ≤ hV H1 285 11 ∧ hV H1 285 11 ≤ 500 := f8.1.2.2 285 11 _ _ kW_285_11
  have e31 : (0 : Int) ≤ hV H1 285 13 ∧ hV H1 285 13 ≤ 2 := f8.1.2.2 285 13 _ _ kW_285_13
  have e32 : (0 : Int) ≤ hV H1 285 15 ∧ hV H1 285 15 ≤ 6 := f8.1.2.2 285 15 _ _ kW_285_15
  have e33 : (0 : Int) ≤ hV H0 285 18 ∧ hV H0 285 18 ≤ 8 := bTo e3 (f8.1.2.2 285 18 _ _ kW_285_18)
  have e34 : (0 : Int) ≤ hV H0 285 32 ∧ hV H0 285 32 ≤ 7 := bTo e5 (f8.1.2.2 285 32 _ _ kW_285_32)
  have e35 : (0 : Int) ≤ hV H0 285 33 ∧ hV H0 285 33 ≤ 62 := bTo e7 (f8.1.2.2 285 33 _ _ kW_285_33)
  have e36 : (0 : Int) ≤ hV H2 285 11 ∧ hV H2 285 11 ≤ 500 := f14.1.2.2.2 285 11 _ _ kW_285_11
  have e37 : (0 : Int) ≤ hV H2 285 13 ∧ hV H2 285 13 ≤ 2 := f14.1.2.2.2 285 13 _ _ kW_285_13
  have e38 : (0 : Int) ≤ hV H3 285 11 ∧ hV H3 285 11 ≤ 500 := f16.1.2.2.2 285 11 _ _ kW_285_11
  have e39 : (0 : Int) ≤ hV H3 285 13 ∧ hV H3 285 13 ≤ 2 := f16.1.2.2.2 285 13 _ _ kW_285_13
  have e41 : (0 : Int) ≤ hV H4 285 11 ∧ hV H4 285 11 ≤ 500 := f18.1.2.2.2 285 11 _ _ kW_285_11
  have e42 : (0 : Int) ≤ hV H4 285 13 ∧ hV H4 285 13 ≤ 2 := f18.1.2.2.2 285 13 _ _ kW_285_13
  have e43 : (0 : Int) ≤ hV H4 285 15 ∧ hV H4 285 15 ≤ 6 := f18.1.2.2.2 285 15 _ _ kW_285_15
  try simp only [e29]
  have y0 := g4.1
  have y1 := g4.2.1
  have y2 := g4.2.2.1
  have y3 := g4.2.2.2.1
  have y4 := g4.2.2.2.2.1
  have y5 := g4.2.2.2.2.2.1
  have y6 := g4.2.2.2.2.2.2.1
  have y7 := g4.2.2.2.2.2.2.2.1
  have y8 := g4.2.2.2.2.2.2.2.2.1
  have y9 := g4.2.2.2.2.2.2.2.2.2.1
  have y10 := g4.2.2.2.2.2.2.2.2.2.2.1
  have y11 := g4.2.2.2.2.2.2.2.2.2.2.2.1
  have y12 := g4.2.2.2.2.2.2.2.2.2.2.2.2.1
  have y13 := g4.2.2.2.2.2.2.2.2.2.2.2.2.2
  have p0 := g3.1
  have p1 := g3.2.1
  have p2 := g3.2.2.1
  have p3 := g3.2.2.2.1
  have p4 := g3.2.2.2.2.1
  have p5 := g3.2.2.2.2.2.1
  have p6 := g3.2.2.2.2.2.2
  have r0_0 := f14.2.1
  have r0_1 := f14.2.2.1
  have r0_2 := f14.2.2.2.1
  have r0_3 := f14.2.2.2.2.1
  have r1_0 := f16.2.1
  have r1_1 := f16.2.2.1
  have r1_2 := f16.2.2.2.1
  have r1_3 := f16.2.2.2.2.1
  have r2_0 := f18.2.1
  have r2_1 := f18.2.2.1
  have r2_2 := f18.2.2.2.1
  have r2_3 := f18.2.2.2.2.1
  have r2_4 := f18.2.2.2.2.2.1
  have r2_5 := f18.2.2.2.2.2.2.1
  have r2_6 := f18.2.2.2.2.2.2.2.1
  have r2_7 := f18.2.2.2.2.2.2.2.2.1 f17
  try simp only [e7] at y8
  try simp only [e7] at y9
  try simp only [e13] at r2_5
  try simp only [e13] at r2_6
  try simp only [e13, e15, e18, e21, e24, e29] at r2_7
  clear g3
  clear g4
  have wb0 := (y2 (hV H0 285 32).toNat).1
  have wp0 := (y2 (hV H0 285 33).toNat).2
  try simp only [e3, e5, e7] at wb0
  try simp only [e3, e5, e7] at wp0
  clear f12 f21 e3 e5 e7 e13 e15 e18 e21 e24 e25 e26 e27 e28 e29
  clear f8 f14 f16 f18
  subst e0
  subst e1

  refine ⟨?_, ?_, ?_, ?_⟩
  · exact r2_0
  · intro z1 z2
    exact r2_1 (by omega) (by omega)
  · exact y2
  · (try clear y0 y1 y2 p0 p5 p6 r2_0 r2_1)
    first
    | omega
    | (refine ⟨?_, ?_, ?_, ?_, ?_⟩ <;> first | exact True.intro | omega)
def g_227_180_4 : vG := ([(34, [9], [], 0), (20, [9, 1], [4], 13), (90, [9], [], 0), (91, [9], [], 2), (1229, [1, 3, 8], [3, 4], 0), (0, [8], [], 0), (1220, [1, 7], [2, 3], 0), (0, [7], [], 25), (1220, [1, 6], [1, 2], 0), (0, [6], [], 1), (20, [5, 1], [1], 11), (90, [5], [], 0), (91, [5], [], 500), (66, [2], [], 0), (5000, [0, 1, 2, 3, 4], [0, 1], 180), (0, [0], [], 285), (0, [1], [], 285), (90, [2], [], 0), (91, [2], [], 5), (90, [3], [], 0), (91, [3], [], 1007), (90, [4], [], 1), (91, [4], [], 1)], (3000, [], [4], 450))
theorem c_227_180_4 {q0 : Nat} : vOkm T0 (eP e_227 L_227 A_227 mu_227 (some q0)) 1 g_227_180_4 := vOk_inI fun ρ η f0 f1 f2 f3 f4 f5 f6 f7 f8 f9 f10 f11 f12 f13 f14 f15 f16 f17 f18 f19 f20 f21 f22 => q_227_25 (q0 := q0) (n0 := ρ 4) (n1 := ρ 3) (n2 := ρ 2) (n3 := ρ 1) (n4 := ρ 0) (n5 := ρ 5) (n6 := ρ 6) (n7 := ρ 7) (n8 := ρ 8) (n9 := ρ 9) (H0 := η 0) (H1 := η 1) (H2 := η 2) (H3 := η 3) (H4 := η 4) f22 f21 f20 f19 f18 f17 f16 f15 f14 f13 f12 f11 f10 f9 f8 f7 f6 f5 f4 f3 f2 f1 f0
set_option maxHeartbeats 20000000 in
theorem q_227_26 {q0 : Nat} {n0 n1 n2 n3 n4 n5 n6 n7 n8 : Int} {H0 H1 H2 H3 : gH} (f0 : n0 ≤ 1) (f1 : 1 ≤ n0) (f2 : n1 ≤ 1007) (f3 : 0 ≤ n1) (f4 : n2 ≤ 5) (f5 : 0 ≤ n2) (f6 : n3 = 285) (f7 : n4 = 285) (f8 : (hLe T0 H0 H1 ∧ hFr s_227.2.2.2.2 H0 H1 ∧ hWt T0 H1) ∧ (Ab_227_180 n4 n3 n2 n1 n0 H0 H1 ∧ preb_227 n4 H0) ∧ some q0 = some (mub_227_180 n4 n3 n2 n1 n0 H0 H1)) (f9 : 4 < n2) (f10 : n5 ≤ 500) (f11 : 0 ≤ n5) (f12 : n5 = hV H1 (n3).toNat 11) (f13 : n6 = 1) (f14 : (hLe T0 H1 H2 ∧ hFr s_220.2.2.2.2 H1 H2 ∧ ((0 : Int) = 0 → H2.length = H1.length) ∧ hWt T0 H2) ∧ postb_220 n3 n6 H1 H2) (f15 : n7 = 25) (f16 : (hLe T0 H2 H3 ∧ hFr s_220.2.2.2.2 H2 H3 ∧ ((0 : Int) = 0 → H3.length = H2.length) ∧ hWt T0 H3) ∧ postb_220 n3 n7 H2 H3) (f17 : n8 = 0) : preb_229 n3 n1 n8 H3 := by
  have g4 := f8.2.1.1
  unfold Ab_227_180 at g4
  have g3 := f8.2.1.2
  unfold preb_227 at g3
  unfold postb_220 at f14
  unfold postb_220 at f16
  unfold preb_229
  have e0 : n5 = hV H1 285 11 := (by rw [f6] at f12; exact f12 : n5 = hV H1 285 11)
  have e2 : hV H1 285 18 = hV H0 285 18 := (f8.1.2.1.1 285 18 kF_227_285_18)
  have e4 : hV H1 285 32 = hV H0 285 32 := (f8.1.2.1.1 285 32 kF_227_285_32)
  have e6 : hV H1 285 33 = hV H0 285 33 := (f8.1.2.1.1 285 33 kF_227_285_33)
  have e12 : hV H3 285 15 = hV H1 285 15 := ((f16.1.2.1.1 285 15 kF_220_285_15)).trans (f14.1.2.1.1 285 15 kF_220_285_15)
  have e15 : hV H3 285 18 = hV H0 285 18 := ((f16.1.2.1.1 285 18 kF_220_285_18)).trans (((f14.1.2.1.1 285 18 kF_220_285_18)).trans (f8.1.2.1.1 285 18 kF_227_285_18))
  have e18 : hV H3 285 32 = hV H0 285 32 := ((f16.1.2.1.1 285 32 kF_220_285_32)).trans (((f14.1.2.1.1 285 32 kF_220_285_32)).trans (f8.1.2.1.1 285 32 kF_227_285_32))
  have e21 : hV H3 285 33 = hV H0 285 33 := ((f16.1.2.1.1 285 33 kF_220_285_33)).trans (((f14.1.2.1.1 285 33 kF_220_285_33)).trans (f8.1.2.1.1 285 33 kF_227_285_33))
  have e28 : hV H3 294 = hV H0 294 := (fRow f16.1.2.1 294 kR_220_294).trans ((fRow f14.1.2.1 294 kR_220_294).trans (fRow f8.1.2.1 294 kR_227_294))
  have e31 : hV H3 296 = hV H1 296 := (fRow f16.1.2.1 296 kR_220_296).trans (fRow f14.1.2.1 296 kR_220_296)
  have e32 : PA H2 = PA H1 := PA_fr f14.1.2.1 (by decide +kernel)
  have e33 : PA H3 = PA H2 := PA_fr f16.1.2.1 (by decide +kernel)
  have e34 : PA H3 = PA H1 := e33.trans e32
  have e35 : PQ H2 = PQ H1 := PQ_fr f14.1.2.1 (by decide +kernel)
  have e36 : PQ H3 = PQ H2 := PQ_fr f16.1.2.1 (by decide +kernel)
  have e37 : PQ H3 = PQ H1 := e36.trans e35
  have e38 : PW H2 = PW H1 := PW_fr f14.1.2.1 (by decide +kernel)
  have e39 : PW H3 = PW H2 := PW_fr f16.1.2.1 (by decide +kernel)
  have e40 : PW H3 = PW H1 := e39.trans e38
  have e41 : (0 : Int) ≤ hV H1 285 11 ∧ hV H1 285 11 ≤ 500 := f8.1.2.2 285 11 _ _ kW_285_11
  have e42 : (0 : Int) ≤ hV H1 285 13 ∧ hV H1 285 13 ≤ 2 := f8.1.2.2 285 13 _ _ kW_285_13
  have e43 : (0 : Int) ≤ hV H1 285 15 ∧ hV H1 285 15 ≤ 6 := f8.1.2.2 285 15 _ _ kW_285_15
  have e44 : (0 : Int) ≤ hV H0 285 18 ∧ hV H0 285 18 ≤ 8 := bTo e2 (f8.1.2.2 285 18 _ _ kW_285_18)
  have e45 : (0 : Int) ≤ hV H0 285 32 ∧ hV H0 285 32 ≤ 7 := bTo e4 (f8.1.2.2 285 32 _ _ kW_285_32)
  have e46 : (0 : Int) ≤ hV H0 285 33 ∧ hV H0 285 33 ≤ 62 := bTo e6 (f8.1.2.2 285 33 _ _ kW_285_33)
  have e47 : (0 : Int) ≤ hV H2 285 11 ∧ hV H2 285 11 ≤ 500 := f14.1.2.2.2 285 11 _ _ kW_285_11
  have e48 : (0 : Int) ≤ hV H2 285 13 ∧ hV H2 285 13 ≤ 2 := f14.1.2.2.2 285 13 _ _ kW_285_13
  have e49 : (0 : Int) ≤ hV H3 285 11 ∧ hV H3 285 11 ≤ 500 := f16.1.2.2.2 285 11 _ _ kW_285_11
  have e50 : (0 : Int) ≤ hV H3 285 13 ∧ hV H3 285 13 ≤ 2 := f16.1.2.2.2 285 13 _ _ kW_285_13
  try simp only [e12, e15, e18, e21, e28, e31, e34, e37, e40]
  have y0 := g4.1
  have y1 := g4.2.1
  have y2 := g4.2.2.1
  have y3 := g4.2.2.2.1
  have y4 := g4.2.2.2.2.1
  have y5 := g4.2.2.2.2.2.1
  have y6 := g4.2.2.2.2.2.2.1
  have y7 := g4.2.2.2.2.2.2.2.1
  have y8 := g4.2.2.2.2.2.2.2.2.1
  have y9 := g4.2.2.2.2.2.2.2.2.2.1
  have y10 := g4.2.2.2.2.2.2.2.2.2.2.1
  have y11 := g4.2.2.2.2.2.2.2.2.2.2.2.1
  have y12 := g4.2.2.2.2.2.2.2.2.2.2.2.2.1
  have y13 := g4.2.2.2.2.2.2.2.2.2.2.2.2.2
  have p0 := g3.1
  have p1 := g3.2.1
  have p2 := g3.2.2.1
  have p3 := g3.2.2.2.1
  have p4 := g3.2.2.2.2.1
  have p5 := g3.2.2.2.2.2.1
  have p6 := g3.2.2.2.2.2.2
  have r0_0 := f14.2.1
  have r0_1 := f14.2.2.1
  have r0_2 := f14.2.2.2.1
  have r0_3 := f14.2.2.2.2.1
  have r1_0 := f16.2.1
  have r1_1 := f16.2.2.1
  have r1_2 := f16.2.2.2.1
  have r1_3 := f16.2.2.2.2.1
  try simp only [e6] at y8
  try simp only [e6] at y9
  clear g3
  clear g4
  have wb0 := (y2 (hV H0 285 32).toNat).1
  have wp0 := (y2 (hV H0 285 33).toNat).2
  try simp only [e2, e4, e6] at wb0
  try simp only [e2, e4, e6] at wp0
  clear f12 e2 e4 e6 e12 e15 e18 e21 e28 e31 e32 e33 e34 e35 e36 e37 e38 e39 e40
  clear f8 f14 f16
  subst e0

  refine ⟨?_, ?_, ?_, ?_, ?_, ?_, ?_, ?_⟩
  · exact y0
  · (try clear y0 y1 y2 p0 p5 p6)
    first | exact True.intro | omega
  · (try clear y0 y1 y2 p0 p5 p6)
    first | exact True.intro | omega
  · (try clear y0 y1 y2 p0 p5 p6)
    first | exact True.intro | omega
  · (try clear y0 y1 y2 p0 p5 p6)
    first | exact True.intro | omega
  · intro z1 z2
    exact y1 (by omega) (by omega)
  · (try clear y0 y1 y2 p0 p5 p6)
    first | exact True.intro | omega
  · exact y2

def g_227_180_5 : vG := ([(0, [8], [], 0), (1220, [1, 7], [2, 3], 0), (0, [7], [], 25), (1220, [1, 6], [1, 2], 0), (0, [6], [], 1), (20, [5, 1], [1], 11), (90, [5], [], 0), (91, [5], [], 500), (67, [2], [], 4), (5000, [0, 1, 2, 3, 4], [0, 1], 180), (0, [0], [], 285), (0, [1], [], 285), (90, [2], [], 0), (91, [2], [], 5), (90, [3], [], 0), (91, [3], [], 1007), (90, [4], [], 1), (91, [4], [], 1)], (2229, [1, 3, 8], [3], 0))
theorem c_227_180_5 {q0 : Nat} : vOkm T0 (eP e_227 L_227 A_227 mu_227 (some q0)) 1 g_227_180_5 := vOk_inI fun ρ η f0 f1 f2 f3 f4 f5 f6 f7 f8 f9 f10 f11 f12 f13 f14 f15 f16 f17 => q_227_26 (q0 := q0) (n0 := ρ 4) (n1 := ρ 3) (n2 := ρ 2) (n3 := ρ 1) (n4 := ρ 0) (n5 := ρ 5) (n6 := ρ 6) (n7 := ρ 7) (n8 := ρ 8) (H0 := η 0) (H1 := η 1) (H2 := η 2) (H3 := η 3) f17 f16 f15 f14 f13 f12 f11 f10 f9 f8 f7 f6 f5 f4 f3 f2 f1 f0
set_option maxHeartbeats 20000000 in
theorem q_227_27 {q0 : Nat} {n0 n1 n2 n3 n4 n5 n6 n7 n8 n9 n10 n11 n12 n13 n14 n15 n16 : Int} {H0 H1 H2 H3 H4 H5 : gH} (f0 : n0 ≤ 1) (f1 : 1 ≤ n0) (f2 : n1 ≤ 1007) (f3 : 0 ≤ n1) (f4 : n2 ≤ 5) (f5 : 0 ≤ n2) (f6 : n3 = 285) (f7 : n4 = 285) (f8 : (hLe T0 H0 H1 ∧ hFr s_227.2.2.2.2 H0 H1 ∧ hWt T0 H1) ∧ (Ab_227_180 n4 n3 n2 n1 n0 H0 H1 ∧ preb_227 n4 H0) ∧ some q0 = some (mub_227_180 n4 n3 n2 n1 n0 H0 H1)) (f9 : 4 < n2) (f10 : n5 ≤ 500) (f11 : 0 ≤ n5) (f12 : n5 = hV H1 (n3).toNat 11) (f13 : n6 = 1) (f14 : (hLe T0 H1 H2 ∧ hFr s_220.2.2.2.2 H1 H2 ∧ ((0 : Int) = 0 → H2.length = H1.length) ∧ hWt T0 H2) ∧ postb_220 n3 n6 H1 H2) (f15 : n7 = 25) (f16 : (hLe T0 H2 H3 ∧ hFr s_220.2.2.2.2 H2 H3 ∧ ((0 : Int) = 0 → H3.length = H2.length) ∧ hWt T0 H3) ∧ postb_220 n3 n7 H2 H3) (f17 : n8 = 0) (f18 : (hLe T0 H3 H4 ∧ hFr s_229.2.2.2.2 H3 H4 ∧ ((0 : Int) = 0 → H4.length = H3.length) ∧ hWt T0 H4) ∧ postb_229 n3 n1 n8 H3 H4) (f19 : n9 ≤ 2) (f20 : 0 ≤ n9) (f21 : n9 = hV H4 (n3).toNat 13) (f22 : n9 ≤ 0) (f23 : n10 = 300) (f24 : n10 = hV H4 (n3).toNat 26) (f25 : n11 = (-1)) (f26 : hUpd H5 H4 n10 n1 n11) (f27 : n12 = 294) (f28 : n12 = hV H5 (n3).toNat 20) (f29 : n13 ≤ 7) (f30 : 0 ≤ n13) (f31 : n13 = hV H5 (n3).toNat 32) (f32 : n14 ≤ 6) (f33 : 0 ≤ n14) (f34 : n14 = hV H5 (n12).toNat (n13).toNat) (f35 : n15 = 1) (f36 : n16 = w32 (n14 - n15)) : (-1) ≤ n16 := by
  have g4 := f8.2.1.1
  unfold Ab_227_180 at g4
  have g3 := f8.2.1.2
  unfold preb_227 at g3
  unfold postb_220 at f14
  unfold postb_220 at f16
  unfold postb_229 at f18
  have e0 : n5 = hV H1 285 11 := (by rw [f6] at f12; exact f12 : n5 = hV H1 285 11)
  have e1 : n9 = hV H4 285 13 := (by rw [f6] at f21; exact f21 : n9 = hV H4 285 13)
  have e7 : n13 = hV H0 285 32 := (by rw [f6] at f31; exact f31 : n13 = hV H5 285 32).trans (((uPlace f26 285 32 (iS (show n10 = ((300 : Nat) : Int) from f23) rfl))).trans (((f18.1.2.1.1 285 32 kF_229_285_32)).trans (((f16.1.2.1.1 285 32 kF_220_285_32)).trans (((f14.1.2.1.1 285 32 kF_220_285_32)).trans (f8.1.2.1.1 285 32 kF_227_285_32)))))
  have e12 : hV H1 294 = hV H0 294 := fRow f8.1.2.1 294 kR_227_294
  have e13 : n14 = hV H0 294 (n13).toNat := (by rw [f27] at f34; exact f34 : n14 = hV H5 294 (n13).toNat).trans (((congrFun (uRowNe f26 294 (iS (show n10 = ((300 : Nat) : Int) from f23) rfl)) _)).trans (((congrFun (fRow f18.1.2.1 294 kR_229_294) _)).trans (((congrFun (fRow f16.1.2.1 294 kR_220_294) _)).trans (((congrFun (fRow f14.1.2.1 294 kR_220_294) _)).trans ((congrFun e12 _))))))
  have e15 : hV H1 285 18 = hV H0 285 18 := (f8.1.2.1.1 285 18 kF_227_285_18)
  have e16 : hV H1 285 32 = hV H0 285 32 := (f8.1.2.1.1 285 32 kF_227_285_32)
  have e18 : hV H1 285 33 = hV H0 285 33 := (f8.1.2.1.1 285 33 kF_227_285_33)
  have e20 : hV H1 285 64 = hV H0 285 64 := (f8.1.2.1.1 285 64 kF_227_285_64)
  have e21 : hV H1 328 = hV H0 328 := fRow f8.1.2.1 328 kR_227_328
  have e22 : hV H1 332 = hV H0 332 := fRow f8.1.2.1 332 kR_227_332
  have e23 : hV H1 335 = hV H0 335 := fRow f8.1.2.1 335 kR_227_335
  have e29 : hV H3 285 15 = hV H1 285 15 := ((f16.1.2.1.1 285 15 kF_220_285_15)).trans (f14.1.2.1.1 285 15 kF_220_285_15)
  have e31 : hV H3 288 = hV H0 288 := (fRow f16.1.2.1 288 kR_220_288).trans ((fRow f14.1.2.1 288 kR_220_288).trans (fRow f8.1.2.1 288 kR_227_288))
  have e34 : hV H3 301 = hV H1 301 := (fRow f16.1.2.1 301 kR_220_301).trans (fRow f14.1.2.1 301 kR_220_301)
  have e37 : hV H3 302 = hV H1 302 := (fRow f16.1.2.1 302 kR_220_302).trans (fRow f14.1.2.1 302 kR_220_302)
  have e40 : hV H3 303 = hV H1 303 := (fRow f16.1.2.1 303 kR_220_303).trans (fRow f14.1.2.1 303 kR_220_303)
  have e44 : hV H4 285 18 = hV H0 285 18 := ((f18.1.2.1.1 285 18 kF_229_285_18)).trans (((f16.1.2.1.1 285 18 kF_220_285_18)).trans (((f14.1.2.1.1 285 18 kF_220_285_18)).trans (f8.1.2.1.1 285 18 kF_227_285_18)))
  have e45 : hV H4 285 32 = hV H0 285 32 := ((f18.1.2.1.1 285 32 kF_229_285_32)).trans (((f16.1.2.1.1 285 32 kF_220_285_32)).trans (((f14.1.2.1.1 285 32 kF_220_285_32)).trans (f8.1.2.1.1 285 32 kF_227_285_32)))
  have e49 : hV H4 285 33 = hV H0 285 33 := ((f18.1.2.1.1 285 33 kF_229_285_33)).trans (((f16.1.2.1.1 285 33 kF_220_285_33)).trans (((f14.1.2.1.1 285 33 kF_220_285_33)).trans (f8.1.2.1.1 285 33 kF_227_285_33)))
  have e53 : hV H4 285 64 = hV H0 285 64 := ((f18.1.2.1.1 285 64 kF_229_285_64)).trans (((f16.1.2.1.1 285 64 kF_220_285_64)).trans (((f14.1.2.1.1 285 64 kF_220_285_64)).trans (f8.1.2.1.1 285 64 kF_227_285_64)))
  have e56 : hV H4 294 = hV H0 294 := (fRow f18.1.2.1 294 kR_229_294).trans ((fRow f16.1.2.1 294 kR_220_294).trans ((fRow f14.1.2.1 294 kR_220_294).trans e12))
  have e61 : hV H4 296 = hV H1 296 := (fRow f18.1.2.1 296 kR_229_296).trans ((fRow f16.1.2.1 296 kR_220_296).trans (fRow f14.1.2.1 296 kR_220_296))
  have e66 : hV H4 297 = hV H1 297 := (fRow f18.1.2.1 297 kR_229_297).trans ((fRow f16.1.2.1 297 kR_220_297).trans (fRow f14.1.2.1 297 kR_220_297))
  have e71 : hV H4 298 = hV H1 298 := (fRow f18.1.2.1 298 kR_229_298).trans ((fRow f16.1.2.1 298 kR_220_298).trans (fRow f14.1.2.1 298 kR_220_298))
  have e76 : hV H4 300 = hV H1 300 := (fRow f18.1.2.1 300 kR_229_300).trans ((fRow f16.1.2.1 300 kR_220_300).trans (fRow f14.1.2.1 300 kR_220_300))
  have e81 : hV H4 305 = hV H1 305 := (fRow f18.1.2.1 305 kR_229_305).trans ((fRow f16.1.2.1 305 kR_220_305).trans (fRow f14.1.2.1 305 kR_220_305))
  have e87 : hV H4 328 = hV H0 328 := (fRow f18.1.2.1 328 kR_229_328).trans ((fRow f16.1.2.1 328 kR_220_328).trans ((fRow f14.1.2.1 328 kR_220_328).trans e21))
  have e93 : hV H4 332 = hV H0 332 := (fRow f18.1.2.1 332 kR_229_332).trans ((fRow f16.1.2.1 332 kR_220_332).trans ((fRow f14.1.2.1 332 kR_220_332).trans e22))
  have e99 : hV H4 335 = hV H0 335 := (fRow f18.1.2.1 335 kR_229_335).trans ((fRow f16.1.2.1 335 kR_220_335).trans ((fRow f14.1.2.1 335 kR_220_335).trans e23))
  have e100 : (0 : Int) ≤ hV H1 285 11 ∧ hV H1 285 11 ≤ 500 := f8.1.2.2 285 11 _ _ kW_285_11
  have e101 : (0 : Int) ≤ hV H1 285 13 ∧ hV H1 285 13 ≤ 2 := f8.1.2.2 285 13 _ _ kW_285_13
  have e102 : (0 : Int) ≤ hV H1 285 15 ∧ hV H1 285 15 ≤ 6 := f8.1.2.2 285 15 _ _ kW_285_15
  have e103 : (0 : Int) ≤ hV H0 285 18 ∧ hV H0 285 18 ≤ 8 := bTo e15 (f8.1.2.2 285 18 _ _ kW_285_18)
  have e104 : (0 : Int) ≤ hV H0 285 32 ∧ hV H0 285 32 ≤ 7 := bTo e16 (f8.1.2.2 285 32 _ _ kW_285_32)
  have e105 : (0 : Int) ≤ hV H0 285 33 ∧ hV H0 285 33 ≤ 62 := bTo e18 (f8.1.2.2 285 33 _ _ kW_285_33)
  have e106 : (0 : Int) ≤ hV H0 285 64 ∧ hV H0 285 64 ≤ 20 := bTo e20 (f8.1.2.2 285 64 _ _ kW_285_64)
  have e107 : (0 : Int) ≤ hV H2 285 11 ∧ hV H2 285 11 ≤ 500 := f14.1.2.2.2 285 11 _ _ kW_285_11
  have e108 : (0 : Int) ≤ hV H2 285 13 ∧ hV H2 285 13 ≤ 2 := f14.1.2.2.2 285 13 _ _ kW_285_13
  have e109 : (0 : Int) ≤ hV H3 285 11 ∧ hV H3 285 11 ≤ 500 := f16.1.2.2.2 285 11 _ _ kW_285_11
  have e110 : (0 : Int) ≤ hV H3 285 13 ∧ hV H3 285 13 ≤ 2 := f16.1.2.2.2 285 13 _ _ kW_285_13
  have e112 : (0 : Int) ≤ hV H4 285 11 ∧ hV H4 285 11 ≤ 500 := f18.1.2.2.2 285 11 _ _ kW_285_11
  have e113 : (0 : Int) ≤ hV H4 285 13 ∧ hV H4 285 13 ≤ 2 := f18.1.2.2.2 285 13 _ _ kW_285_13
  have e114 : (0 : Int) ≤ hV H4 285 15 ∧ hV H4 285 15 ≤ 6 := f18.1.2.2.2 285 15 _ _ kW_285_15
  try simp only [PA, PW]
  have y0 := g4.1
  have y1 := g4.2.1
  have y2 := g4.2.2.1
  have y3 := g4.2.2.2.1
  have y4 := g4.2.2.2.2.1
  have y5 := g4.2.2.2.2.2.1
  have y6 := g4.2.2.2.2.2.2.1
  have y7 := g4.2.2.2.2.2.2.2.1
  have y8 := g4.2.2.2.2.2.2.2.2.1
  have y9 := g4.2.2.2.2.2.2.2.2.2.1
  have y10 := g4.2.2.2.2.2.2.2.2.2.2.1
  have y11 := g4.2.2.2.2.2.2.2.2.2.2.2.1
  have y12 := g4.2.2.2.2.2.2.2.2.2.2.2.2.1
  have y13 := g4.2.2.2.2.2.2.2.2.2.2.2.2.2
  have p0 := g3.1
  have p1 := g3.2.1
  have p2 := g3.2.2.1
  have p3 := g3.2.2.2.1
  have p4 := g3.2.2.2.2.1
  have p5 := g3.2.2.2.2.2.1
  have p6 := g3.2.2.2.2.2.2
  have r0_0 := f14.2.1
  have r0_1 := f14.2.2.1
  have r0_2 := f14.2.2.2.1
  have r0_3 := f14.2.2.2.2.1
  have r1_0 := f16.2.1
  have r1_1 := f16.2.2.1
  have r1_2 := f16.2.2.2.1
  have r1_3 := f16.2.2.2.2.1
  have r2_0 := f18.2.1
  have r2_1 := f18.2.2.1
  have r2_2 := f18.2.2.2.1
  have r2_3 := f18.2.2.2.2.1
  have r2_4 := f18.2.2.2.2.2.1
  have r2_5 := f18.2.2.2.2.2.2.1
  have r2_6 := f18.2.2.2.2.2.2.2.1
  have r2_7 := f18.2.2.2.2.2.2.2.2.1 f17
  try simp only [PA] at y0
  try simp only [PW] at y1
  try simp only [PA] at p0
  try simp only [PW] at p5
  try simp only [PA] at r2_0
  try simp only [PW] at r2_1
  try simp only [e15, e20, e12, e21, e22, e23] at y0
  try simp only [e16, e18, e12] at y1
  try simp only [e18] at y8
  try simp only [e18] at y9
  try simp only [e44, e53, e56, e61, e71, e76, e81, e87, e93, e99] at r2_0
  try simp only [e45, e49, e56, e61, e66, e71, e76, e81] at r2_1
  try simp only [e29] at r2_5
  try simp only [e29] at r2_6
  try simp only [e29, e31, e34, e37, e40, e44, e45, e49, e53, e56, e61, e66, e71, e76, e81, e87, e93, e99] at r2_7
  clear g3
  clear g4
  have wb0 := (y2 (hV H0 285 32).toNat).1
  have wp0 := (y2 (hV H0 285 33).toNat).2
  try simp only [e15, e16, e18, e20, e12, e21, e22, e23] at wb0
  try simp only [e15, e16, e18, e20, e12, e21, e22, e23] at wp0
  clear f12 f21 f24 f28 f31 f34 e12 e15 e16 e18 e20 e21 e22 e23 e29 e31 e34 e37 e40 e44 e45 e49 e53 e56 e61 e66 e71 e76 e81 e87 e93 e99
  clear f8 f14 f16 f18
  subst e0
  subst e1
  subst e7
  subst e13
  first
  | (have ix0 : n16 = hV H0 294 (hV H0 285 32).toNat - 1 := Eq.trans f36 (w32_iv (Isu (Iat f33 f32) (IC 1)) (by decide)); subst ix0; clear f36)
  | (have ix0 : n16 = hV H0 294 (hV H0 285 32).toNat - 1 := Eq.trans f36 (w32_id (by omega) (by omega)); subst ix0; clear f36)
  | (unfold w32 at f36; have ix0 : n16 = hV H0 294 (hV H0 285 32).toNat - 1 := (by omega); subst ix0)
  | skip
  try unfold w32 at f36

  (try clear y0 y1 y2 p0 p5 p6 r2_0 r2_1)
  omega
def g_227_180_6 : vG := ([(2, [16, 14, 15], [], 0), (0, [15], [], 1), (22, [14, 12, 13], [5], 0), (90, [14], [], 0), (91, [14], [], 6), (20, [13, 1], [5], 32), (90, [13], [], 0), (91, [13], [], 7), (20, [12, 1], [5], 20), (0, [12], [], 294), (80, [10, 3, 11], [5, 4], 0), (0, [11], [], -1), (20, [10, 1], [4], 26), (0, [10], [], 300), (35, [9], [], 0), (20, [9, 1], [4], 13), (90, [9], [], 0), (91, [9], [], 2), (1229, [1, 3, 8], [3, 4], 0), (0, [8], [], 0), (1220, [1, 7], [2, 3], 0), (0, [7], [], 25), (1220, [1, 6], [1, 2], 0), (0, [6], [], 1), (20, [5, 1], [1], 11), (90, [5], [], 0), (91, [5], [], 500), (67, [2], [], 4), (5000, [0, 1, 2, 3, 4], [0, 1], 180), (0, [0], [], 285), (0, [1], [], 285), (90, [2], [], 0), (91, [2], [], 5), (90, [3], [], 0), (91, [3], [], 1007), (90, [4], [], 1), (91, [4], [], 1)], (90, [16], [], -1))
theorem c_227_180_6 {q0 : Nat} : vOkm T0 (eP e_227 L_227 A_227 mu_227 (some q0)) 1 g_227_180_6 := vOk_inI fun ρ η f0 f1 f2 f3 f4 f5 f6 f7 f8 f9 f10 f11 f12 f13 f14 f15 f16 f17 f18 f19 f20 f21 f22 f23 f24 f25 f26 f27 f28 f29 f30 f31 f32 f33 f34 f35 f36 => q_227_27 (q0 := q0) (n0 := ρ 4) (n1 := ρ 3) (n2 := ρ 2) (n3 := ρ 1) (n4 := ρ 0) (n5 := ρ 5) (n6 := ρ 6) (n7 := ρ 7) (n8 := ρ 8) (n9 := ρ 9) (n10 := ρ 10) (n11 := ρ 11) (n12 := ρ 12) (n13 := ρ 13) (n14 := ρ 14) (n15 := ρ 15) (n16 := ρ 16) (H0 := η 0) (H1 := η 1) (H2 := η 2) (H3 := η 3) (H4 := η 4) (H5 := η 5) f36 f35 f34 f33 f32 f31 f30 f29 f28 f27 f26 f25 f24 f23 f22 f21 f20 f19 f18 f17 f16 f15 f14 f13 f12 f11 f10 f9 f8 f7 f6 f5 f4 f3 f2 f1 f0
set_option maxHeartbeats 20000000 in
theorem q_227_28 {q0 : Nat} {n0 n1 n2 n3 n4 n5 n6 n7 n8 n9 n10 n11 n12 n13 n14 n15 n16 : Int} {H0 H1 H2 H3 H4 H5 : gH} (f0 : n0 ≤ 1) (f1 : 1 ≤ n0) (f2 : n1 ≤ 1007) (f3 : 0 ≤ n1) (f4 : n2 ≤ 5) (f5 : 0 ≤ n2) (f6 : n3 = 285) (f7 : n4 = 285) (f8 : (hLe T0 H0 H1 ∧ hFr s_227.2.2.2.2 H0 H1 ∧ hWt T0 H1) ∧ (Ab_227_180 n4 n3 n2 n1 n0 H0 H1 ∧ preb_227 n4 H0) ∧ some q0 = some (mub_227_180 n4 n3 n2 n1 n0 H0 H1)) (f9 : 4 < n2) (f10 : n5 ≤ 500) (f11 : 0 ≤ n5) (f12 : n5 = hV H1 (n3).toNat 11) (f13 : n6 = 1) (f14 : (hLe T0 H1 H2 ∧ hFr s_220.2.2.2.2 H1 H2 ∧ ((0 : Int) = 0 → H2.length = H1.length) ∧ hWt T0 H2) ∧ postb_220 n3 n6 H1 H2) (f15 : n7 = 25) (f16 : (hLe T0 H2 H3 ∧ hFr s_220.2.2.2.2 H2 H3 ∧ ((0 : Int) = 0 → H3.length = H2.length) ∧ hWt T0 H3) ∧ postb_220 n3 n7 H2 H3) (f17 : n8 = 0) (f18 : (hLe T0 H3 H4 ∧ hFr s_229.2.2.2.2 H3 H4 ∧ ((0 : Int) = 0 → H4.length = H3.length) ∧ hWt T0 H4) ∧ postb_229 n3 n1 n8 H3 H4) (f19 : n9 ≤ 2) (f20 : 0 ≤ n9) (f21 : n9 = hV H4 (n3).toNat 13) (f22 : n9 ≤ 0) (f23 : n10 = 300) (f24 : n10 = hV H4 (n3).toNat 26) (f25 : n11 = (-1)) (f26 : hUpd H5 H4 n10 n1 n11) (f27 : n12 = 294) (f28 : n12 = hV H5 (n3).toNat 20) (f29 : n13 ≤ 7) (f30 : 0 ≤ n13) (f31 : n13 = hV H5 (n3).toNat 32) (f32 : n14 ≤ 6) (f33 : 0 ≤ n14) (f34 : n14 = hV H5 (n12).toNat (n13).toNat) (f35 : n15 = 1) (f36 : n16 = w32 (n14 - n15)) : n16 ≤ 5 := by
  have g4 := f8.2.1.1
  unfold Ab_227_180 at g4
  have g3 := f8.2.1.2
  unfold preb_227 at g3
  unfold postb_220 at f14
  unfold postb_220 at f16
  unfold postb_229 at f18
  have e0 : n5 = hV H1 285 11 := (by rw [f6] at f12; exact f12 : n5 = hV H1 285 11)
  have e1 : n9 = hV H4 285 13 := (by rw [f6] at f21; exact f21 : n9 = hV H4 285 13)
  have e7 : n13 = hV H0 285 32 := (by rw [f6] at f31; exact f31 : n13 = hV H5 285 32).trans (((uPlace f26 285 32 (iS (show n10 = ((300 : Nat) : Int) from f23) rfl))).trans (((f18.1.2.1.1 285 32 kF_229_285_32)).trans (((f16.1.2.1.1 285 32 kF_220_285_32)).trans (((f14.1.2.1.1 285 32 kF_220_285_32)).trans (f8.1.2.1.1 285 32 kF_227_285_32)))))
  have e12 : hV H1 294 = hV H0 294 := fRow f8.1.2.1 294 kR_227_294
  have e13 : n14 = hV H0 294 (n13).toNat := (by rw [f27] at f34; exact f34 : n14 = hV H5 294 (n13).toNat).trans (((congrFun (uRowNe f26 294 (iS (show n10 = ((300 : Nat) : Int) from f23) rfl)) _)).trans (((congrFun (fRow f18.1.2.1 294 kR_229_294) _)).trans (((congrFun (fRow f16.1.2.1 294 kR_220_294) _)).trans (((congrFun (fRow f14.1.2.1 294 kR_220_294) _)).trans ((congrFun e12 _))))))
  have e15 : hV H1 285 18 = hV H0 285 18 := (f8.1.2.1.1 285 18 kF_227_285_18)
  have e16 : hV H1 285 32 = hV H0 285 32 := (f8.1.2.1.1 285 32 kF_227_285_32)
  have e18 : hV H1 285 33 = hV H0 285 33 := (f8.1.2.1.1 285 33 kF_227_285_33)
  have e20 : hV H1 285 64 = hV H0 285 64 := (f8.1.2.1.1 285 64 kF_227_285_64)
  have e21 : hV H1 328 = hV H0 328 := fRow f8.1.2.1 328 kR_227_328
  have e22 : hV H1 332 = hV H0 332 := fRow f8.1.2.1 332 kR_227_332
  have e23 : hV H1 335 = hV H0 335 := fRow f8.1.2.1 335 kR_227_335
  have e29 : hV H3 285 15 = hV H1 285 15 := ((f16.1.2.1.1 285 15 kF_220_285_15)).trans (f14.1.2.1.1 285 15 kF_220_285_15)
  have e31 : hV H3 288 = hV H0 288 := (fRow f16.1.2.1 288 kR_220_288).trans ((fRow f14.1.2.1 288 kR_220_288).trans (fRow f8.1.2.1 288 kR_227_288))
  have e34 : hV H3 301 = hV H1 301 := (fRow f16.1.2.1 301 kR_220_301).trans (fRow f14.1.2.1 301 kR_220_301)
  have e37 : hV H3 302 = hV H1 302 := (fRow f16.1.2.1 302 kR_220_302).trans (fRow f14.1.2.1 302 kR_220_302)
  have e40 : hV H3 303 = hV H1 303 := (fRow f16.1.2.1 303 kR_220_303).trans (fRow f14.1.2.1 303 kR_220_303)
  have e44 : hV H4 285 18 = hV H0 285 18 := ((f18.1.2.1.1 285 18 kF_229_285_18)).trans (((f16.1.2.1.1 285 18 kF_220_285_18)).trans (((f14.1.2.1.1 285 18 kF_220_285_18)).trans (f8.1.2.1.1 285 18 kF_227_285_18)))
  have e45 : hV H4 285 32 = hV H0 285 32 := ((f18.1.2.1.1 285 32 kF_229_285_32)).trans (((f16.1.2.1.1 285 32 kF_220_285_32)).trans (((f14.1.2.1.1 285 32 kF_220_285_32)).trans (f8.1.2.1.1 285 32 kF_227_285_32)))
  have e49 : hV H4 285 33 = hV H0 285 33 := ((f18.1.2.1.1 285 33 kF_229_285_33)).trans (((f16.1.2.1.1 285 33 kF_220_285_33)).trans (((f14.1.2.1.1 285 33 kF_220_285_33)).trans (f8.1.2.1.1 285 33 kF_227_285_33)))
  have e53 : hV H4 285 64 = hV H0 285 64 := ((f18.1.2.1.1 285 64 kF_229_285_64)).trans (((f16.1.2.1.1 285 64 kF_220_285_64)).trans (((f14.1.2.1.1 285 64 kF_220_285_64)).trans (f8.1.2.1.1 285 64 kF_227_285_64)))
  have e56 : hV H4 294 = hV H0 294 := (fRow f18.1.2.1 294 kR_229_294).trans ((fRow f16.1.2.1 294 kR_220_294).trans ((fRow f14.1.2.1 294 kR_220_294).trans e12))
  have e61 : hV H4 296 = hV H1 296 := (fRow f18.1.2.1 296 kR_229_296).trans ((fRow f16.1.2.1 296 kR_220_296).trans (fRow f14.1.2.1 296 kR_220_296))
  have e66 : hV H4 297 = hV H1 297 := (fRow f18.1.2.1 297 kR_229_297).trans ((fRow f16.1.2.1 297 kR_220_297).trans (fRow f14.1.2.1 297 kR_220_297))
  have e71 : hV H4 298 = hV H1 298 := (fRow f18.1.2.1 298 kR_229_298).trans ((fRow f16.1.2.1 298 kR_220_298).trans (fRow f14.1.2.1 298 kR_220_298))
  have e76 : hV H4 300 = hV H1 300 := (fRow f18.1.2.1 300 kR_229_300).trans ((fRow f16.1.2.1 300 kR_220_300).trans (fRow f14.1.2.1 300 kR_220_300))
  have e81 : hV H4 305 = hV H1 305 := (fRow f18.1.2.1 305 kR_229_305).trans ((fRow f16.1.2.1 305 kR_220_305).trans (fRow f14.1.2.1 305 kR_220_305))
  have e87 : hV H4 328 = hV H0 328 := (fRow f18.1.2.1 328 kR_229_328).trans ((fRow f16.1.2.1 328 kR_220_328).trans ((fRow f14.1.2.1 328 kR_220_328).trans e21))
  have e93 : hV H4 332 = hV H0 332 := (fRow f18.1.2.1 332 kR_229_332).trans ((fRow f16.1.2.1 332 kR_220_332).trans ((fRow f14.1.2.1 332 kR_220_332).trans e22))
  have e99 : hV H4 335 = hV H0 335 := (fRow f18.1.2.1 335 kR_229_335).trans ((fRow f16.1.2.1 335 kR_220_335).trans ((fRow f14.1.2.1 335 kR_220_335).trans e23))
  have e100 : (0 : Int) ≤ hV H1 285 11 ∧ hV H1 285 11 ≤ 500 := f8.1.2.2 285 11 _ _ kW_285_11
  have e101 : (0 : Int) ≤ hV H1 285 13 ∧ hV H1 285 13 ≤ 2 := f8.1.2.2 285 13 _ _ kW_285_13
  have e102 : (0 : Int) ≤ hV H1 285 15 ∧ hV H1 285 15 ≤ 6 := f8.1.2.2 285 15 _ _ kW_285_15
  have e103 : (0 : Int) ≤ hV H0 285 18 ∧ hV H0 285 18 ≤ 8 := bTo e15 (f8.1.2.2 285 18 _ _ kW_285_18)
  have e104 : (0 : Int) ≤ hV H0 285 32 ∧ hV H0 285 32 ≤ 7 := bTo e16 (f8.1.2.2 285 32 _ _ kW_285_32)
  have e105 : (0 : Int) ≤ hV H0 285 33 ∧ hV H0 285 33 ≤ 62 := bTo e18 (f8.1.2.2 285 33 _ _ kW_285_33)
  have e106 : (0 : Int) ≤ hV H0 285 64 ∧ hV H0 285 64 ≤ 20 := bTo e20 (f8.1.2.2 285 64 _ _ kW_285_64)
  have e107 : (0 : Int) ≤ hV H2 285 11 ∧ hV H2 285 11 ≤ 500 := f14.1.2.2.2 285 11 _ _ kW_285_11
  have e108 : (0 : Int) ≤ hV H2 285 13 ∧ hV H2 285 13 ≤ 2 := f14.1.2.2.2 285 13 _ _ kW_285_13
  have e109 : (0 : Int) ≤ hV H3 285 11 ∧ hV H3 285 11 ≤ 500 := f16.1.2.2.2 285 11 _ _ kW_285_11
  have e110 : (0 : Int) ≤ hV H3 285 13 ∧ hV H3 285 13 ≤ 2 := f16.1.2.2.2 285 13 _ _ kW_285_13
  have e112 : (0 : Int) ≤ hV H4 285 11 ∧ hV H4 285 11 ≤ 500 := f18.1.2.2.2 285 11 _ _ kW_285_11
  have e113 : (0 : Int) ≤ hV H4 285 13 ∧ hV H4 285 13 ≤ 2 := f18.1.2.2.2 285 13 _ _ kW_285_13
  have e114 : (0 : Int) ≤ hV H4 285 15 ∧ hV H4 285 15 ≤ 6 := f18.1.2.2.2 285 15 _ _ kW_285_15
  try simp only [PA, PW]
  have y0 := g4.1
  have y1 := g4.2.1
  have y2 := g4.2.2.1
  have y3 := g4.2.2.2.1
  have y4 := g4.2.2.2.2.1
  have y5 := g4.2.2.2.2.2.1
  have y6 := g4.2.2.2.2.2.2.1
  have y7 := g4.2.2.2.2.2.2.2.1
  have y8 := g4.2.2.2.2.2.2.2.2.1
  have y9 := g4.2.2.2.2.2.2.2.2.2.1
  have y10 := g4.2.2.2.2.2.2.2.2.2.2.1
  have y11 := g4.2.2.2.2.2.2.2.2.2.2.2.1
  have y12 := g4.2.2.2.2.2.2.2.2.2.2.2.2.1
  have y13 := g4.2.2.2.2.2.2.2.2.2.2.2.2.2
  have p0 := g3.1
  have p1 := g3.2.1
  have p2 := g3.2.2.1
  have p3 := g3.2.2.2.1
  have p4 := g3.2.2.2.2.1
  have p5 := g3.2.2.2.2.2.1
  have p6 := g3.2.2.2.2.2.2
  have r0_0 := f14.2.1
  have r0_1 := f14.2.2.1
  have r0_2 := f14.2.2.2.1
  have r0_3 := f14.2.2.2.2.1
  have r1_0 := f16.2.1
  have r1_1 := f16.2.2.1
  have r1_2 := f16.2.2.2.1
  have r1_3 := f16.2.2.2.2.1
  have r2_0 := f18.2.1
  have r2_1 := f18.2.2.1
  have r2_2 := f18.2.2.2.1
  have r2_3 := f18.2.2.2.2.1
  have r2_4 := f18.2.2.2.2.2.1
  have r2_5 := f18.2.2.2.2.2.2.1
  have r2_6 := f18.2.2.2.2.2.2.2.1
  have r2_7 := f18.2.2.2.2.2.2.2.2.1 f17
  try simp only [PA] at y0
  try simp only [PW] at y1
  try simp only [PA] at p0
  try simp only [PW] at p5
  try simp only [PA] at r2_0
  try simp only [PW] at r2_1
  try simp only [e15, e20, e12, e21, e22, e23] at y0
  try simp only [e16, e18, e12] at y1
  try simp only [e18] at y8
  try simp only [e18] at y9
  try simp only [e44, e53, e56, e61, e71, e76, e81, e87, e93, e99] at r2_0
  try simp only [e45, e49, e56, e61, e66, e71, e76, e81] at r2_1
  try simp only [e29] at r2_5
  try simp only [e29] at r2_6
  try simp only [e29, e31, e34, e37, e40, e44, e45, e49, e53, e56, e61, e66, e71, e76, e81, e87, e93, e99] at r2_7
  clear g3
  clear g4
  have wb0 := (y2 (hV H0 285 32).toNat).1
  have wp0 := (y2 (hV H0 285 33).toNat).2
  try simp only [e15, e16, e18, e20, e12, e21, e22, e23] at wb0
  try simp only [e15, e16, e18, e20, e12, e21, e22, e23] at wp0
  clear f12 f21 f24 f28 f31 f34 e12 e15 e16 e18 e20 e21 e22 e23 e29 e31 e34 e37 e40 e44 e45 e49 e53 e56 e61 e66 e71 e76 e81 e87 e93 e99
  clear f8 f14 f16 f18
  subst e0
  subst e1
  subst e7
  subst e13
  first
  | (have ix0 : n16 = hV H0 294 (hV H0 285 32).toNat - 1 := Eq.trans f36 (w32_iv (Isu (Iat f33 f32) (IC 1)) (by decide)); subst ix0; clear f36)
  | (have ix0 : n16 = hV H0 294 (hV H0 285 32).toNat - 1 := Eq.trans f36 (w32_id (by omega) (by omega)); subst ix0; clear f36)
  | (unfold w32 at f36; have ix0 : n16 = hV H0 294 (hV H0 285 32).toNat - 1 := (by omega); subst ix0)
  | skip
  try unfold w32 at f36

  (try clear y0 y1 y2 p0 p5 p6 r2_0 r2_1)
  omega
def g_227_180_7 : vG := ([(2, [16, 14, 15], [], 0), (0, [15], [], 1), (22, [14, 12, 13], [5], 0), (90, [14], [], 0), (91, [14], [], 6), (20, [13, 1], [5], 32), (90, [13], [], 0), (91, [13], [], 7), (20, [12, 1], [5], 20), (0, [12], [], 294), (80, [10, 3, 11], [5, 4], 0), (0, [11], [], -1), (20, [10, 1], [4], 26), (0, [10], [], 300), (35, [9], [], 0), (20, [9, 1], [4], 13), (90, [9], [], 0), (91, [9], [], 2), (1229, [1, 3, 8], [3, 4], 0), (0, [8], [], 0), (1220, [1, 7], [2, 3], 0), (0, [7], [], 25), (1220, [1, 6], [1, 2], 0), (0, [6], [], 1), (20, [5, 1], [1], 11), (90, [5], [], 0), (91, [5], [], 500), (67, [2], [], 4), (5000, [0, 1, 2, 3, 4], [0, 1], 180), (0, [0], [], 285), (0, [1], [], 285), (90, [2], [], 0), (91, [2], [], 5), (90, [3], [], 0), (91, [3], [], 1007), (90, [4], [], 1), (91, [4], [], 1)], (91, [16], [], 5))
theorem c_227_180_7 {q0 : Nat} : vOkm T0 (eP e_227 L_227 A_227 mu_227 (some q0)) 1 g_227_180_7 := vOk_inI fun ρ η f0 f1 f2 f3 f4 f5 f6 f7 f8 f9 f10 f11 f12 f13 f14 f15 f16 f17 f18 f19 f20 f21 f22 f23 f24 f25 f26 f27 f28 f29 f30 f31 f32 f33 f34 f35 f36 => q_227_28 (q0 := q0) (n0 := ρ 4) (n1 := ρ 3) (n2 := ρ 2) (n3 := ρ 1) (n4 := ρ 0) (n5 := ρ 5) (n6 := ρ 6) (n7 := ρ 7) (n8 := ρ 8) (n9 := ρ 9) (n10 := ρ 10) (n11 := ρ 11) (n12 := ρ 12) (n13 := ρ 13) (n14 := ρ 14) (n15 := ρ 15) (n16 := ρ 16) (H0 := η 0) (H1 := η 1) (H2 := η 2) (H3 := η 3) (H4 := η 4) (H5 := η 5) f36 f35 f34 f33 f32 f31 f30 f29 f28 f27 f26 f25 f24 f23 f22 f21 f20 f19 f18 f17 f16 f15 f14 f13 f12 f11 f10 f9 f8 f7 f6 f5 f4 f3 f2 f1 f0
set_option maxHeartbeats 20000000 in
theorem q_227_29 {q0 : Nat} {n0 n1 n2 n3 n4 n5 n6 n7 n8 n9 n10 n11 n12 n13 n14 n15 n16 : Int} {H0 H1 H2 H3 H4 H5 : gH} (f0 : n0 ≤ 1) (f1 : 1 ≤ n0) (f2 : n1 ≤ 1007) (f3 : 0 ≤ n1) (f4 : n2 ≤ 5) (f5 : 0 ≤ n2) (f6 : n3 = 285) (f7 : n4 = 285) (f8 : (hLe T0 H0 H1 ∧ hFr s_227.2.2.2.2 H0 H1 ∧ hWt T0 H1) ∧ (Ab_227_180 n4 n3 n2 n1 n0 H0 H1 ∧ preb_227 n4 H0) ∧ some q0 = some (mub_227_180 n4 n3 n2 n1 n0 H0 H1)) (f9 : 4 < n2) (f10 : n5 ≤ 500) (f11 : 0 ≤ n5) (f12 : n5 = hV H1 (n3).toNat 11) (f13 : n6 = 1) (f14 : (hLe T0 H1 H2 ∧ hFr s_220.2.2.2.2 H1 H2 ∧ ((0 : Int) = 0 → H2.length = H1.length) ∧ hWt T0 H2) ∧ postb_220 n3 n6 H1 H2) (f15 : n7 = 25) (f16 : (hLe T0 H2 H3 ∧ hFr s_220.2.2.2.2 H2 H3 ∧ ((0 : Int) = 0 → H3.length = H2.length) ∧ hWt T0 H3) ∧ postb_220 n3 n7 H2 H3) (f17 : n8 = 0) (f18 : (hLe T0 H3 H4 ∧ hFr s_229.2.2.2.2 H3 H4 ∧ ((0 : Int) = 0 → H4.length = H3.length) ∧ hWt T0 H4) ∧ postb_229 n3 n1 n8 H3 H4) (f19 : n9 ≤ 2) (f20 : 0 ≤ n9) (f21 : n9 = hV H4 (n3).toNat 13) (f22 : n9 ≤ 0) (f23 : n10 = 300) (f24 : n10 = hV H4 (n3).toNat 26) (f25 : n11 = (-1)) (f26 : hUpd H5 H4 n10 n1 n11) (f27 : n12 = 294) (f28 : n12 = hV H5 (n3).toNat 20) (f29 : n13 ≤ 7) (f30 : 0 ≤ n13) (f31 : n13 = hV H5 (n3).toNat 32) (f32 : n14 ≤ 6) (f33 : 0 ≤ n14) (f34 : n14 = hV H5 (n12).toNat (n13).toNat) (f35 : n15 = 1) (f36 : n16 = w32 (n14 - n15)) : Ab_227_471 n4 n3 n2 n1 n0 n5 n16 H0 H5 ∧ ∀ q, some q0 = some q → mub_227_471 n4 n3 n2 n1 n0 n5 n16 H0 H5 < q := by
  have g4 := f8.2.1.1
  unfold Ab_227_180 at g4
  have g3 := f8.2.1.2
  unfold preb_227 at g3
  have g5 := Option.some.inj f8.2.2
  unfold mub_227_180 at g5
  unfold postb_220 at f14
  unfold postb_220 at f16
  unfold postb_229 at f18
  unfold Ab_227_471
  unfold mub_227_471
  have e0 : n5 = hV H1 285 11 := (by rw [f6] at f12; exact f12 : n5 = hV H1 285 11)
  have e1 : n9 = hV H4 285 13 := (by rw [f6] at f21; exact f21 : n9 = hV H4 285 13)
  have e7 : n13 = hV H0 285 32 := (by rw [f6] at f31; exact f31 : n13 = hV H5 285 32).trans (((uPlace f26 285 32 (iS (show n10 = ((300 : Nat) : Int) from f23) rfl))).trans (((f18.1.2.1.1 285 32 kF_229_285_32)).trans (((f16.1.2.1.1 285 32 kF_220_285_32)).trans (((f14.1.2.1.1 285 32 kF_220_285_32)).trans (f8.1.2.1.1 285 32 kF_227_285_32)))))
  have e12 : hV H1 294 = hV H0 294 := fRow f8.1.2.1 294 kR_227_294
  have e13 : n14 = hV H0 294 (n13).toNat := (by rw [f27] at f34; exact f34 : n14 = hV H5 294 (n13).toNat).trans (((congrFun (uRowNe f26 294 (iS (show n10 = ((300 : Nat) : Int) from f23) rfl)) _)).trans (((congrFun (fRow f18.1.2.1 294 kR_229_294) _)).trans (((congrFun (fRow f16.1.2.1 294 kR_220_294) _)).trans (((congrFun (fRow f14.1.2.1 294 kR_220_294) _)).trans ((congrFun e12 _))))))
  have e15 : hV H1 285 18 = hV H0 285 18 := (f8.1.2.1.1 285 18 kF_227_285_18)
  have e16 : hV H1 285 32 = hV H0 285 32 := (f8.1.2.1.1 285 32 kF_227_285_32)
  have e18 : hV H1 285 33 = hV H0 285 33 := (f8.1.2.1.1 285 33 kF_227_285_33)
  have e20 : hV H1 285 64 = hV H0 285 64 := (f8.1.2.1.1 285 64 kF_227_285_64)
  have e21 : hV H1 328 = hV H0 328 := fRow f8.1.2.1 328 kR_227_328
  have e22 : hV H1 332 = hV H0 332 := fRow f8.1.2.1 332 kR_227_332
  have e23 : hV H1 335 = hV H0 335 := fRow f8.1.2.1 335 kR_227_335
  have e29 : hV H3 285 15 = hV H1 285 15 := ((f16.1.2.1.1 285 15 kF_220_285_15)).trans (f14.1.2.1.1 285 15 kF_220_285_15)
  have e31 : hV H3 288 = hV H0 288 := (fRow f16.1.2.1 288 kR_220_288).trans ((fRow f14.1.2.1 288 kR_220_288).trans (fRow f8.1.2.1 288 kR_227_288))
  have e34 : hV H3 301 = hV H1 301 := (fRow f16.1.2.1 301 kR_220_301).trans (fRow f14.1.2.1 301 kR_220_301)
  have e37 : hV H3 302 = hV H1 302 := (fRow f16.1.2.1 302 kR_220_302).trans (fRow f14.1.2.1 302 kR_220_302)
  have e40 : hV H3 303 = hV H1 303 := (fRow f16.1.2.1 303 kR_220_303).trans (fRow f14.1.2.1 303 kR_220_303)
  have e44 : hV H4 285 18 = hV H0 285 18 := ((f18.1.2.1.1 285 18 kF_229_285_18)).trans (((f16.1.2.1.1 285 18 kF_220_285_18)).trans (((f14.1.2.1.1 285 18 kF_220_285_18)).trans (f8.1.2.1.1 285 18 kF_227_285_18)))
  have e45 : hV H4 285 32 = hV H0 285 32 := ((f18.1.2.1.1 285 32 kF_229_285_32)).trans (((f16.1.2.1.1 285 32 kF_220_285_32)).trans (((f14.1.2.1.1 285 32 kF_220_285_32)).trans (f8.1.2.1.1 285 32 kF_227_285_32)))
  have e49 : hV H4 285 33 = hV H0 285 33 := ((f18.1.2.1.1 285 33 kF_229_285_33)).trans (((f16.1.2.1.1 285 33 kF_220_285_33)).trans (((f14.1.2.1.1 285 33 kF_220_285_33)).trans (f8.1.2.1.1 285 33 kF_227_285_33)))
  have e53 : hV H4 285 64 = hV H0 285 64 := ((f18.1.2.1.1 285 64 kF_229_285_64)).trans (((f16.1.2.1.1 285 64 kF_220_285_64)).trans (((f14.1.2.1.1 285 64 kF_220_285_64)).trans (f8.1.2.1.1 285 64 kF_227_285_64)))
  have e56 : hV H4 294 = hV H0 294 := (fRow f18.1.2.1 294 kR_229_294).trans ((fRow f16.1.2.1 294 kR_220_294).trans ((fRow f14.1.2.1 294 kR_220_294).trans e12))
  have e61 : hV H4 296 = hV H1 296 := (fRow f18.1.2.1 296 kR_229_296).trans ((fRow f16.1.2.1 296 kR_220_296).trans (fRow f14.1.2.1 296 kR_220_296))
  have e66 : hV H4 297 = hV H1 297 := (fRow f18.1.2.1 297 kR_229_297).trans ((fRow f16.1.2.1 297 kR_220_297).trans (fRow f14.1.2.1 297 kR_220_297))
  have e71 : hV H4 298 = hV H1 298 := (fRow f18.1.2.1 298 kR_229_298).trans ((fRow f16.1.2.1 298 kR_220_298).trans (fRow f14.1.2.1 298 kR_220_298))
  have e76 : hV H4 300 = hV H1 300 := (fRow f18.1.2.1 300 kR_229_300).trans ((fRow f16.1.2.1 300 kR_220_300).trans (fRow f14.1.2.1 300 kR_220_300))
  have e81 : hV H4 305 = hV H1 305 := (fRow f18.1.2.1 305 kR_229_305).trans ((fRow f16.1.2.1 305 kR_220_305).trans (fRow f14.1.2.1 305 kR_220_305))
  have e87 : hV H4 328 = hV H0 328 := (fRow f18.1.2.1 328 kR_229_328).trans ((fRow f16.1.2.1 328 kR_220_328).trans ((fRow f14.1.2.1 328 kR_220_328).trans e21))
  have e93 : hV H4 332 = hV H0 332 := (fRow f18.1.2.1 332 kR_229_332).trans ((fRow f16.1.2.1 332 kR_220_332).trans ((fRow f14.1.2.1 332 kR_220_332).trans e22))
  have e99 : hV H4 335 = hV H0 335 := (fRow f18.1.2.1 335 kR_229_335).trans ((fRow f16.1.2.1 335 kR_220_335).trans ((fRow f14.1.2.1 335 kR_220_335).trans e23))
  have e101 : hV H5 285 11 = hV H4 285 11 := (uPlace f26 285 11 (iS (show n10 = ((300 : Nat) : Int) from f23) rfl))
  have e103 : hV H5 285 13 = hV H4 285 13 := (uPlace f26 285 13 (iS (show n10 = ((300 : Nat) : Int) from f23) rfl))
  have e105 : hV H5 285 15 = hV H4 285 15 := (uPlace f26 285 15 (iS (show n10 = ((300 : Nat) : Int) from f23) rfl))
  have e107 : hV H5 285 18 = hV H0 285 18 := ((uPlace f26 285 18 (iS (show n10 = ((300 : Nat) : Int) from f23) rfl))).trans (((f18.1.2.1.1 285 18 kF_229_285_18)).trans (((f16.1.2.1.1 285 18 kF_220_285_18)).trans (((f14.1.2.1.1 285 18 kF_220_285_18)).trans (f8.1.2.1.1 285 18 kF_227_285_18))))
  have e108 : hV H5 285 32 = hV H0 285 32 := ((uPlace f26 285 32 (iS (show n10 = ((300 : Nat) : Int) from f23) rfl))).trans (((f18.1.2.1.1 285 32 kF_229_285_32)).trans (((f16.1.2.1.1 285 32 kF_220_285_32)).trans (((f14.1.2.1.1 285 32 kF_220_285_32)).trans (f8.1.2.1.1 285 32 kF_227_285_32))))
  have e110 : hV H5 285 33 = hV H0 285 33 := ((uPlace f26 285 33 (iS (show n10 = ((300 : Nat) : Int) from f23) rfl))).trans (((f18.1.2.1.1 285 33 kF_229_285_33)).trans (((f16.1.2.1.1 285 33 kF_220_285_33)).trans (((f14.1.2.1.1 285 33 kF_220_285_33)).trans (f8.1.2.1.1 285 33 kF_227_285_33))))
  have e112 : hV H5 285 64 = hV H0 285 64 := ((uPlace f26 285 64 (iS (show n10 = ((300 : Nat) : Int) from f23) rfl))).trans (((f18.1.2.1.1 285 64 kF_229_285_64)).trans (((f16.1.2.1.1 285 64 kF_220_285_64)).trans (((f14.1.2.1.1 285 64 kF_220_285_64)).trans (f8.1.2.1.1 285 64 kF_227_285_64))))
  have e113 : hV H5 294 = hV H0 294 := (uRowNe f26 294 (iS (show n10 = ((300 : Nat) : Int) from f23) rfl)).trans e56
  have e115 : hV H5 296 = hV H1 296 := (uRowNe f26 296 (iS (show n10 = ((300 : Nat) : Int) from f23) rfl)).trans e61
  have e117 : hV H5 297 = hV H1 297 := (uRowNe f26 297 (iS (show n10 = ((300 : Nat) : Int) from f23) rfl)).trans e66
  have e119 : hV H5 298 = hV H1 298 := (uRowNe f26 298 (iS (show n10 = ((300 : Nat) : Int) from f23) rfl)).trans e71
  have e121 : hV H5 300 = (uF (hV H1 300) n1 n11) := (uRow f26 300 f23.symm).trans (congrArg (fun z => uF z n1 n11) e76)
  have e122 : hV H5 301 = hV H4 301 := uRowNe f26 301 (iS (show n10 = ((300 : Nat) : Int) from f23) rfl)
  have e123 : hV H5 302 = hV H4 302 := uRowNe f26 302 (iS (show n10 = ((300 : Nat) : Int) from f23) rfl)
  have e124 : hV H5 303 = hV H4 303 := uRowNe f26 303 (iS (show n10 = ((300 : Nat) : Int) from f23) rfl)
  have e126 : hV H5 305 = hV H1 305 := (uRowNe f26 305 (iS (show n10 = ((300 : Nat) : Int) from f23) rfl)).trans e81
  have e128 : hV H5 328 = hV H0 328 := (uRowNe f26 328 (iS (show n10 = ((300 : Nat) : Int) from f23) rfl)).trans e87
  have e130 : hV H5 332 = hV H0 332 := (uRowNe f26 332 (iS (show n10 = ((300 : Nat) : Int) from f23) rfl)).trans e93
  have e132 : hV H5 335 = hV H0 335 := (uRowNe f26 335 (iS (show n10 = ((300 : Nat) : Int) from f23) rfl)).trans e99
  have e133 : PQ H2 = PQ H1 := PQ_fr f14.1.2.1 (by decide +kernel)
  have e134 : PQ H3 = PQ H2 := PQ_fr f16.1.2.1 (by decide +kernel)
  have e135 : PQ H3 = PQ H1 := e134.trans e133
  have e136 : PQ H4 = PQ H3 := PQ_fr f18.1.2.1 (by decide +kernel)
  have e137 : PQ H4 = PQ H1 := e136.trans e135
  have e138 : PQ H5 = PQ H4 := PQ_upR f26 (show n10 = ((300 : Nat) : Int) from f23) (by decide)
  have e139 : PQ H5 = PQ H1 := e138.trans e137
  have e140 : (0 : Int) ≤ hV H1 285 11 ∧ hV H1 285 11 ≤ 500 := f8.1.2.2 285 11 _ _ kW_285_11
  have e141 : (0 : Int) ≤ hV H1 285 13 ∧ hV H1 285 13 ≤ 2 := f8.1.2.2 285 13 _ _ kW_285_13
  have e142 : (0 : Int) ≤ hV H1 285 15 ∧ hV H1 285 15 ≤ 6 := f8.1.2.2 285 15 _ _ kW_285_15
  have e143 : (0 : Int) ≤ hV H0 285 18 ∧ hV H0 285 18 ≤ 8 := bTo e15 (f8.1.2.2 285 18 _ _ kW_285_18)
  have e144 : (0 : Int) ≤ hV H0 285 32 ∧ hV H0 285 32 ≤ 7 := bTo e16 (f8.1.2.2 285 32 _ _ kW_285_32)
  have e145 : (0 : Int) ≤ hV H0 285 33 ∧ hV H0 285 33 ≤ 62 := bTo e18 (f8.1.2.2 285 33 _ _ kW_285_33)
  have e146 : (0 : Int) ≤ hV H0 285 64 ∧ hV H0 285 64 ≤ 20 := bTo e20 (f8.1.2.2 285 64 _ _ kW_285_64)
  have e147 : (0 : Int) ≤ hV H2 285 11 ∧ hV H2 285 11 ≤ 500 := f14.1.2.2.2 285 11 _ _ kW_285_11
  have e148 : (0 : Int) ≤ hV H2 285 13 ∧ hV H2 285 13 ≤ 2 := f14.1.2.2.2 285 13 _ _ kW_285_13
  have e149 : (0 : Int) ≤ hV H3 285 11 ∧ hV H3 285 11 ≤ 500 := f16.1.2.2.2 285 11 _ _ kW_285_11
  have e150 : (0 : Int) ≤ hV H3 285 13 ∧ hV H3 285 13 ≤ 2 := f16.1.2.2.2 285 13 _ _ kW_285_13
  have e152 : (0 : Int) ≤ hV H4 285 11 ∧ hV H4 285 11 ≤ 500 := f18.1.2.2.2 285 11 _ _ kW_285_11
  have e153 : (0 : Int) ≤ hV H4 285 13 ∧ hV H4 285 13 ≤ 2 := f18.1.2.2.2 285 13 _ _ kW_285_13
  have e154 : (0 : Int) ≤ hV H4 285 15 ∧ hV H4 285 15 ≤ 6 := f18.1.2.2.2 285 15 _ _ kW_285_15
  try simp only [PA, PW]
  try simp only [e101, e103, e105, e107, e108, e110, e112, e113, e115, e117, e119, e121, e122, e123, e124, e126, e128, e130, e132, e139]
  have y0 := g4.1
  have y1 := g4.2.1
  have y2 := g4.2.2.1
  have y3 := g4.2.2.2.1
  have y4 := g4.2.2.2.2.1
  have y5 := g4.2.2.2.2.2.1
  have y6 := g4.2.2.2.2.2.2.1
  have y7 := g4.2.2.2.2.2.2.2.1
  have y8 := g4.2.2.2.2.2.2.2.2.1
  have y9 := g4.2.2.2.2.2.2.2.2.2.1
  have y10 := g4.2.2.2.2.2.2.2.2.2.2.1
  have y11 := g4.2.2.2.2.2.2.2.2.2.2.2.1
  have y12 := g4.2.2.2.2.2.2.2.2.2.2.2.2.1
  have y13 := g4.2.2.2.2.2.2.2.2.2.2.2.2.2
  have p0 := g3.1
  have p1 := g3.2.1
  have p2 := g3.2.2.1
  have p3 := g3.2.2.2.1
  have p4 := g3.2.2.2.2.1
  have p5 := g3.2.2.2.2.2.1
  have p6 := g3.2.2.2.2.2.2
  have r0_0 := f14.2.1
  have r0_1 := f14.2.2.1
  have r0_2 := f14.2.2.2.1
  have r0_3 := f14.2.2.2.2.1
  have r1_0 := f16.2.1
  have r1_1 := f16.2.2.1
  have r1_2 := f16.2.2.2.1
  have r1_3 := f16.2.2.2.2.1
  have r2_0 := f18.2.1
  have r2_1 := f18.2.2.1
  have r2_2 := f18.2.2.2.1
  have r2_3 := f18.2.2.2.2.1
  have r2_4 := f18.2.2.2.2.2.1
  have r2_5 := f18.2.2.2.2.2.2.1
  have r2_6 := f18.2.2.2.2.2.2.2.1
  have r2_7 := f18.2.2.2.2.2.2.2.2.1 f17
  try simp only [PA] at y0
  try simp only [PW] at y1
  try simp only [PA] at p0
  try simp only [PW] at p5
  try simp only [PA] at r2_0
  try simp only [PW] at r2_1
  try simp only [e15, e20, e12, e21, e22, e23] at y0
  try simp only [e16, e18, e12] at y1
  try simp only [e18] at y8
  try simp only [e18] at y9
  try simp only [e44, e53, e56, e61, e71, e76, e81, e87, e93, e99] at r2_0
  try simp only [e45, e49, e56, e61, e66, e71, e76, e81] at r2_1
  try simp only [e29] at r2_5
  try simp only [e29] at r2_6
  try simp only [e29, e31, e34, e37, e40, e44, e45, e49, e53, e56, e61, e66, e71, e76, e81, e87, e93, e99] at r2_7
  clear g3
  clear g4
  have wb0 := (y2 (hV H0 285 32).toNat).1
  have wp0 := (y2 (hV H0 285 33).toNat).2
  try simp only [e15, e16, e18, e20, e12, e21, e22, e23] at wb0
  try simp only [e15, e16, e18, e20, e12, e21, e22, e23] at wp0
  clear f12 f21 f24 f28 f31 f34 e12 e15 e16 e18 e20 e21 e22 e23 e29 e31 e34 e37 e40 e44 e45 e49 e53 e56 e61 e66 e71 e76 e81 e87 e93 e99 e101 e103 e105 e107 e108 e110 e112 e113 e115 e117 e119 e121 e122 e123 e124 e126 e128 e130 e132 e133 e134 e135 e136 e137 e138 e139
  clear f8 f14 f16 f18
  subst e0
  subst e1
  subst e7
  subst e13
  first
  | (have ix0 : n16 = hV H0 294 (hV H0 285 32).toNat - 1 := Eq.trans f36 (w32_iv (Isu (Iat f33 f32) (IC 1)) (by decide)); subst ix0; clear f36)
  | (have ix0 : n16 = hV H0 294 (hV H0 285 32).toNat - 1 := Eq.trans f36 (w32_id (by omega) (by omega)); subst ix0; clear f36)
  | (unfold w32 at f36; have ix0 : n16 = hV H0 294 (hV H0 285 32).toNat - 1 := (by omega); subst ix0)
  | skip
  try unfold w32 at f36

  refine ⟨⟨?_, ?_, ?_, ?_, ?_, ?_, ?_, ?_, ?_, ?_, ?_, ?_, ?_, ?_, ?_, ?_, ?_, ?_, ?_⟩, fun q hq => ?_⟩
  · refine PA_cw ?_ (by omega)
    exact r2_0
  · intro z1 z2
    refine PW_cw ?_ (by omega) (by omega) (by omega) (by omega)
    exact r2_1 (by omega) (by omega)
  · exact y2
  · (try clear y0 y1 y2 p0 p5 p6 r2_0 r2_1)
    first | exact True.intro | omega
  · (try clear y0 y1 y2 p0 p5 p6 r2_0 r2_1)
    first | exact True.intro | omega
  · (try clear y0 y1 y2 p0 p5 p6 r2_0 r2_1)
    first | exact True.intro | omega
  · (try clear y0 y1 y2 p0 p5 p6 r2_0 r2_1)
    first | exact True.intro | omega
  · (try clear y0 y1 y2 p0 p5 p6 r2_0 r2_1)
    first | exact True.intro | omega
  · (try clear y0 y1 y2 p0 p5 p6 r2_0 r2_1)
    first | exact True.intro | omega
  · (try clear y0 y1 y2 p0 p5 p6 r2_0 r2_1)
    first | exact True.intro | omega
  · (try clear y0 y1 y2 p0 p5 p6 r2_0 r2_1)
    first | exact True.intro | omega
  · (try clear y0 y1 y2 p0 p5 p6 r2_0 r2_1)
    first | exact True.intro | omega
  · (try clear y0 y1 y2 p0 p5 p6 r2_0 r2_1)
    first | exact True.intro | omega
  · (try clear y0 y1 y2 p0 p5 p6 r2_0 r2_1)
    first | exact True.intro | omega
  · (try clear y0 y1 y2 p0 p5 p6 r2_0 r2_1)
    first | exact True.intro | omega
  · (try clear y0 y1 y2 p0 p5 p6 r2_0 r2_1)
    first | exact True.intro | omega
  · (try clear y0 y1 y2 p0 p5 p6 r2_0 r2_1)
    first | exact True.intro | omega
  · (try clear y0 y1 y2 p0 p5 p6 r2_0 r2_1)
    first | (simp only [uF_at]; omega) | omega
  · (try clear y0 y1 y2 p0 p5 p6 r2_0 r2_1)
    first | (simp only [uF_at]; omega) | omega
  · (try clear y0 y1 y2 p0 p5 p6 r2_0 r2_1)
    have g6 := Option.some.inj hq
    subst g6
    omega
def g_227_180_8 : vG := ([(2, [16, 14, 15], [], 0), (0, [15], [], 1), (22, [14, 12, 13], [5], 0), (90, [14], [], 0), (91, [14], [], 6), (20, [13, 1], [5], 32), (90, [13], [], 0), (91, [13], [], 7), (20, [12, 1], [5], 20), (0, [12], [], 294), (80, [10, 3, 11], [5, 4], 0), (0, [11], [], -1), (20, [10, 1], [4], 26), (0, [10], [], 300), (35, [9], [], 0), (20, [9, 1], [4], 13), (90, [9], [], 0), (91, [9], [], 2), (1229, [1, 3, 8], [3, 4], 0), (0, [8], [], 0), (1220, [1, 7], [2, 3], 0), (0, [7], [], 25), (1220, [1, 6], [1, 2], 0), (0, [6], [], 1), (20, [5, 1], [1], 11), (90, [5], [], 0), (91, [5], [], 500), (67, [2], [], 4), (5000, [0, 1, 2, 3, 4], [0, 1], 180), (0, [0], [], 285), (0, [1], [], 285), (90, [2], [], 0), (91, [2], [], 5), (90, [3], [], 0), (91, [3], [], 1007), (90, [4], [], 1), (91, [4], [], 1)], (4000, [1, 2, 3, 4, 5, 16], [5], 471))
theorem c_227_180_8 {q0 : Nat} : vOkm T0 (eP e_227 L_227 A_227 mu_227 (some q0)) 1 g_227_180_8 := vOk_inI fun ρ η f0 f1 f2 f3 f4 f5 f6 f7 f8 f9 f10 f11 f12 f13 f14 f15 f16 f17 f18 f19 f20 f21 f22 f23 f24 f25 f26 f27 f28 f29 f30 f31 f32 f33 f34 f35 f36 => q_227_29 (q0 := q0) (n0 := ρ 4) (n1 := ρ 3) (n2 := ρ 2) (n3 := ρ 1) (n4 := ρ 0) (n5 := ρ 5) (n6 := ρ 6) (n7 := ρ 7) (n8 := ρ 8) (n9 := ρ 9) (n10 := ρ 10) (n11 := ρ 11) (n12 := ρ 12) (n13 := ρ 13) (n14 := ρ 14) (n15 := ρ 15) (n16 := ρ 16) (H0 := η 0) (H1 := η 1) (H2 := η 2) (H3 := η 3) (H4 := η 4) (H5 := η 5) f36 f35 f34 f33 f32 f31 f30 f29 f28 f27 f26 f25 f24 f23 f22 f21 f20 f19 f18 f17 f16 f15 f14 f13 f12 f11 f10 f9 f8 f7 f6 f5 f4 f3 f2 f1 f0
set_option maxHeartbeats 20000000 in
theorem q_227_30 {q0 : Nat} {n0 n1 n2 n3 n4 n5 n6 n7 n8 n9 : Int} {H0 H1 H2 H3 H4 : gH} (f0 : n0 ≤ 1) (f1 : 1 ≤ n0) (f2 : n1 ≤ 1007) (f3 : 0 ≤ n1) (f4 : n2 ≤ 5) (f5 : 0 ≤ n2) (f6 : n3 = 285) (f7 : n4 = 285) (f8 : (hLe T0 H0 H1 ∧ hFr s_227.2.2.2.2 H0 H1 ∧ hWt T0 H1) ∧ (Ab_227_180 n4 n3 n2 n1 n0 H0 H1 ∧ preb_227 n4 H0) ∧ some q0 = some (mub_227_180 n4 n3 n2 n1 n0 H0 H1)) (f9 : 4 < n2) (f10 : n5 ≤ 500) (f11 : 0 ≤ n5) (f12 : n5 = hV H1 (n3).toNat 11) (f13 : n6 = 1) (f14 : (hLe T0 H1 H2 ∧ hFr s_220.2.2.2.2 H1 H2 ∧ ((0 : Int) = 0 → H2.length = H1.length) ∧ hWt T0 H2) ∧ postb_220 n3 n6 H1 H2) (f15 : n7 = 25) (f16 : (hLe T0 H2 H3 ∧ hFr s_220.2.2.2.2 H2 H3 ∧ ((0 : Int) = 0 → H3.length = H2.length) ∧ hWt T0 H3) ∧ postb_220 n3 n7 H2 H3) (f17 : n8 = 0) (f18 : (hLe T0 H3 H4 ∧ hFr s_229.2.2.2.2 H3 H4 ∧ ((0 : Int) = 0 → H4.length = H3.length) ∧ hWt T0 H4) ∧ postb_229 n3 n1 n8 H3 H4) (f19 : n9 ≤ 2) (f20 : 0 ≤ n9) (f21 : n9 = hV H4 (n3).toNat 13) (f22 : 0 < n9) : postb_227 n4 H0 H4 := by
  have g4 := f8.2.1.1
  unfold Ab_227_180 at g4
  have g3 := f8.2.1.2
  unfold preb_227 at g3
  unfold postb_220 at f14
  unfold postb_220 at f16
  unfold postb_229 at f18
  unfold postb_227
  have e0 : n5 = hV H1 285 11 := (by rw [f6] at f12; exact f12 : n5 = hV H1 285 11)
  have e1 : n9 = hV H4 285 13 := (by rw [f6] at f21; exact f21 : n9 = hV H4 285 13)
  have e3 : hV H1 285 18 = hV H0 285 18 := (f8.1.2.1.1 285 18 kF_227_285_18)
  have e5 : hV H1 285 32 = hV H0 285 32 := (f8.1.2.1.1 285 32 kF_227_285_32)
  have e7 : hV H1 285 33 = hV H0 285 33 := (f8.1.2.1.1 285 33 kF_227_285_33)
  have e13 : hV H3 285 15 = hV H1 285 15 := ((f16.1.2.1.1 285 15 kF_220_285_15)).trans (f14.1.2.1.1 285 15 kF_220_285_15)
  have e15 : hV H3 288 = hV H0 288 := (fRow f16.1.2.1 288 kR_220_288).trans ((fRow f14.1.2.1 288 kR_220_288).trans (fRow f8.1.2.1 288 kR_227_288))
  have e18 : hV H3 301 = hV H1 301 := (fRow f16.1.2.1 301 kR_220_301).trans (fRow f14.1.2.1 301 kR_220_301)
  have e21 : hV H3 302 = hV H1 302 := (fRow f16.1.2.1 302 kR_220_302).trans (fRow f14.1.2.1 302 kR_220_302)
  have e24 : hV H3 303 = hV H1 303 := (fRow f16.1.2.1 303 kR_220_303).trans (fRow f14.1.2.1 303 kR_220_303)
  have e25 : PQ H2 = PQ H1 := PQ_fr f14.1.2.1 (by decide +kernel)
  have e26 : PQ H3 = PQ H2 := PQ_fr f16.1.2.1 (by decide +kernel)
  have e27 : PQ H3 = PQ H1 := e26.trans e25
  have e28 : PQ H4 = PQ H3 := PQ_fr f18.1.2.1 (by decide +kernel)
  have e29 : PQ H4 = PQ H1 := e28.trans e27
  have e30 : (0 : Int) ≤ hV H1 285 11 ∧ hV H1 285 11 ≤ 500 := f8.1.2.2 285 11 _ _ kW_285_11
  have e31 : (0 : Int) ≤ hV H1 285 13 ∧ hV H1 285 13 ≤ 2 := f8.1.2.2 285 13 _ _ kW_285_13
  have e32 : (0 : Int) ≤ hV H1 285 15 ∧ hV H1 285 15 ≤ 6 := f8.1.2.2 285 15 _ _ kW_285_15
  have e33 : (0 : Int) ≤ hV H0 285 18 ∧ hV H0 285 18 ≤ 8 := bTo e3 (f8.1.2.2 285 18 _ _ kW_285_18)
  have e34 : (0 : Int) ≤ hV H0 285 32 ∧ hV H0 285 32 ≤ 7 := bTo e5 (f8.1.2.2 285 32 _ _ kW_285_32)
  have e35 : (0 : Int) ≤ hV H0 285 33 ∧ hV H0 285 33 ≤ 62 := bTo e7 (f8.1.2.2 285 33 _ _ kW_285_33)
  have e36 : (0 : Int) ≤ hV H2 285 11 ∧ hV H2 285 11 ≤ 500 := f14.1.2.2.2 285 11 _ _ kW_285_11
  have e37 : (0 : Int) ≤ hV H2 285 13 ∧ hV H2 285 13 ≤ 2 := f14.1.2.2.2 285 13 _ _ kW_285_13
  have e38 : (0 : Int) ≤ hV H3 285 11 ∧ hV H3 285 11 ≤ 500 := f16.1.2.2.2 285 11 _ _ kW_285_11
  have e39 : (0 : Int) ≤ hV H3 285 13 ∧ hV H3 285 13 ≤ 2 := f16.1.2.2.2 285 13 _ _ kW_285_13
  have e41 : (0 : Int) ≤ hV H4 285 11 ∧ hV H4 285 11 ≤ 500 := f18.1.2.2.2 285 11 _ _ kW_285_11
  have e42 : (0 : Int) ≤ hV H4 285 13 ∧ hV H4 285 13 ≤ 2 := f18.1.2.2.2 285 13 _ _ kW_285_13
  have e43 : (0 : Int) ≤ hV H4 285 15 ∧ hV H4 285 15 ≤ 6 := f18.1.2.2.2 285 15 _ _ kW_285_15
  try simp only [e29]
  have y0 := g4.1
  have y1 := g4.2.1
  have y2 := g4.2.2.1
  have y3 := g4.2.2.2.1
  have y4 := g4.2.2.2.2.1
  have y5 := g4.2.2.2.2.2.1
  have y6 := g4.2.2.2.2.2.2.1
  have y7 := g4.2.2.2.2.2.2.2.1
  have y8 := g4.2.2.2.2.2.2.2.2.1
  have y9 := g4.2.2.2.2.2.2.2.2.2.1
  have y10 := g4.2.2.2.2.2.2.2.2.2.2.1
  have y11 := g4.2.2.2.2.2.2.2.2.2.2.2.1
  have y12 := g4.2.2.2.2.2.2.2.2.2.2.2.2.1
  have y13 := g4.2.2.2.2.2.2.2.2.2.2.2.2.2
  have p0 := g3.1
  have p1 := g3.2.1
  have p2 := g3.2.2.1
  have p3 := g3.2.2.2.1
  have p4 := g3.2.2.2.2.1
  have p5 := g3.2.2.2.2.2.1
  have p6 := g3.2.2.2.2.2.2
  have r0_0 := f14.2.1
  have r0_1 := f14.2.2.1
  have r0_2 := f14.2.2.2.1
  have r0_3 := f14.2.2.2.2.1
  have r1_0 := f16.2.1
  have r1_1 := f16.2.2.1
  have r1_2 := f16.2.2.2.1
  have r1_3 := f16.2.2.2.2.1
  have r2_0 := f18.2.1
  have r2_1 := f18.2.2.1
  have r2_2 := f18.2.2.2.1
  have r2_3 := f18.2.2.2.2.1
  have r2_4 := f18.2.2.2.2.2.1
  have r2_5 := f18.2.2.2.2.2.2.1
  have r2_6 := f18.2.2.2.2.2.2.2.1
  have r2_7 := f18.2.2.2.2.2.2.2.2.1 f17
  try simp only [e7] at y8
  try simp only [e7] at y9
  try simp only [e13] at r2_5
  try simp only [e13] at r2_6
  try simp only [e13, e15, e18, e21, e24, e29] at r2_7
  clear g3
  clear g4
  have wb0 := (y2 (hV H0 285 32).toNat).1
  have wp0 := (y2 (hV H0 285 33).toNat).2
  try simp only [e3, e5, e7] at wb0
  try simp only [e3, e5, e7] at wp0
  clear f12 f21 e3 e5 e7 e13 e15 e18 e21 e24 e25 e26 e27 e28 e29
  clear f8 f14 f16 f18
  subst e0
  subst e1

  refine ⟨?_, ?_, ?_, ?_⟩
  · exact r2_0
  · intro z1 z2
    exact r2_1 (by omega) (by omega)
  · exact y2
  · (try clear y0 y1 y2 p0 p5 p6 r2_0 r2_1)
    first
    | omega
    | (refine ⟨?_, ?_, ?_, ?_, ?_⟩ <;> first | exact True.intro | omega)
def g_227_180_9 : vG := ([(34, [9], [], 0), (20, [9, 1], [4], 13), (90, [9], [], 0), (91, [9], [], 2), (1229, [1, 3, 8], [3, 4], 0), (0, [8], [], 0), (1220, [1, 7], [2, 3], 0), (0, [7], [], 25), (1220, [1, 6], [1, 2], 0), (0, [6], [], 1), (20, [5, 1], [1], 11), (90, [5], [], 0), (91, [5], [], 500), (67, [2], [], 4), (5000, [0, 1, 2, 3, 4], [0, 1], 180), (0, [0], [], 285), (0, [1], [], 285), (90, [2], [], 0), (91, [2], [], 5), (90, [3], [], 0), (91, [3], [], 1007), (90, [4], [], 1), (91, [4], [], 1)], (3000, [], [4], 450))
theorem c_227_180_9 {q0 : Nat} : vOkm T0 (eP e_227 L_227 A_227 mu_227 (some q0)) 1 g_227_180_9 := vOk_inI fun ρ η f0 f1 f2 f3 f4 f5 f6 f7 f8 f9 f10 f11 f12 f13 f14 f15 f16 f17 f18 f19 f20 f21 f22 => q_227_30 (q0 := q0) (n0 := ρ 4) (n1 := ρ 3) (n2 := ρ 2) (n3 := ρ 1) (n4 := ρ 0) (n5 := ρ 5) (n6 := ρ 6) (n7 := ρ 7) (n8 := ρ 8) (n9 := ρ 9) (H0 := η 0) (H1 := η 1) (H2 := η 2) (H3 := η 3) (H4 := η 4) f22 f21 f20 f19 f18 f17 f16 f15 f14 f13 f12 f11 f10 f9 f8 f7 f6 f5 f4 f3 f2 f1 f0
set_option maxHeartbeats 20000000 in
theorem q_227_31 {q0 : Nat} {n0 n1 n2 n3 n4 : Int} {H0 H1 : gH} (f0 : n0 ≤ 1) (f1 : 1 ≤ n0) (f2 : n1 ≤ 1007) (f3 : 0 ≤ n1) (f4 : n2 ≤ 5) (f5 : 0 ≤ n2) (f6 : n3 = 285) (f7 : n4 = 285) (f8 : (hLe T0 H0 H1 ∧ hFr s_227.2.2.2.2 H0 H1 ∧ hWt T0 H1) ∧ (Ab_227_180 n4 n3 n2 n1 n0 H0 H1 ∧ preb_227 n4 H0) ∧ some q0 = some (mub_227_180 n4 n3 n2 n1 n0 H0 H1)) (f9 : n2 = 0) : preb_228 n3 n1 H1 := by
  have g4 := f8.2.1.1
  unfold Ab_227_180 at g4
  have g3 := f8.2.1.2
  unfold preb_227 at g3
  unfold preb_228
  have e1 : hV H1 285 18 = hV H0 285 18 := (f8.1.2.1.1 285 18 kF_227_285_18)
  have e3 : hV H1 285 32 = hV H0 285 32 := (f8.1.2.1.1 285 32 kF_227_285_32)
  have e5 : hV H1 285 33 = hV H0 285 33 := (f8.1.2.1.1 285 33 kF_227_285_33)
  have e6 : hV H1 294 = hV H0 294 := fRow f8.1.2.1 294 kR_227_294
  have e7 : (0 : Int) ≤ hV H1 285 11 ∧ hV H1 285 11 ≤ 500 := f8.1.2.2 285 11 _ _ kW_285_11
  have e8 : (0 : Int) ≤ hV H1 285 13 ∧ hV H1 285 13 ≤ 2 := f8.1.2.2 285 13 _ _ kW_285_13
  have e9 : (0 : Int) ≤ hV H1 285 15 ∧ hV H1 285 15 ≤ 6 := f8.1.2.2 285 15 _ _ kW_285_15
  have e10 : (0 : Int) ≤ hV H0 285 18 ∧ hV H0 285 18 ≤ 8 := bTo e1 (f8.1.2.2 285 18 _ _ kW_285_18)
  have e11 : (0 : Int) ≤ hV H0 285 32 ∧ hV H0 285 32 ≤ 7 := bTo e3 (f8.1.2.2 285 32 _ _ kW_285_32)
  have e12 : (0 : Int) ≤ hV H0 285 33 ∧ hV H0 285 33 ≤ 62 := bTo e5 (f8.1.2.2 285 33 _ _ kW_285_33)
  try simp only [e1, e3, e5, e6]
  have y0 := g4.1
  have y1 := g4.2.1
  have y2 := g4.2.2.1
  have y3 := g4.2.2.2.1
  have y4 := g4.2.2.2.2.1
  have y5 := g4.2.2.2.2.2.1
  have y6 := g4.2.2.2.2.2.2.1
  have y7 := g4.2.2.2.2.2.2.2.1
  have y8 := g4.2.2.2.2.2.2.2.2.1
  have y9 := g4.2.2.2.2.2.2.2.2.2.1
  have y10 := g4.2.2.2.2.2.2.2.2.2.2.1
  have y11 := g4.2.2.2.2.2.2.2.2.2.2.2.1
  have y12 := g4.2.2.2.2.2.2.2.2.2.2.2.2.1
  have y13 := g4.2.2.2.2.2.2.2.2.2.2.2.2.2
  have p0 := g3.1
  have p1 := g3.2.1
  have p2 := g3.2.2.1
  have p3 := g3.2.2.2.1
  have p4 := g3.2.2.2.2.1
  have p5 := g3.2.2.2.2.2.1
  have p6 := g3.2.2.2.2.2.2
  try simp only [e5] at y8
  try simp only [e5] at y9
  clear g3
  clear g4
  have wb0 := (y2 (hV H0 285 32).toNat).1
  have wp0 := (y2 (hV H0 285 33).toNat).2
  try simp only [e1, e3, e5, e6] at wb0
  try simp only [e1, e3, e5, e6] at wp0
  clear e1 e3 e5 e6
  clear f8

  refine ⟨?_, ?_, ?_, ?_, ?_, ?_, ?_, ?_⟩
  · exact y0
  · (try clear y0 y1 y2 p0 p5 p6)
    first | exact True.intro | omega
  · (try clear y0 y1 y2 p0 p5 p6)
    first | exact True.intro | omega
  · (try clear y0 y1 y2 p0 p5 p6)
    first | exact True.intro | omega
  · (try clear y0 y1 y2 p0 p5 p6)
    first | exact True.intro | omega
  · intro z1 z2
    exact y1 (by omega) (by omega)
  · (try clear y0 y1 y2 p0 p5 p6)
    first | exact True.intro | omega
  · exact y2

def g_227_180_10 : vG := ([(0, [2], [], 0), (5000, [0, 1, 2, 3, 4], [0, 1], 180), (0, [0], [], 285), (0, [1], [], 285), (90, [2], [], 0), (91, [2], [], 5), (90, [3], [], 0), (91, [3], [], 1007), (90, [4], [], 1), (91, [4], [], 1)], (2228, [1, 3], [1], 0))
theorem c_227_180_10 {q0 : Nat} : vOkm T0 (eP e_227 L_227 A_227 mu_227 (some q0)) 1 g_227_180_10 := vOk_inI fun ρ η f0 f1 f2 f3 f4 f5 f6 f7 f8 f9 => q_227_31 (q0 := q0) (n0 := ρ 4) (n1 := ρ 3) (n2 := ρ 2) (n3 := ρ 1) (n4 := ρ 0) (H0 := η 0) (H1 := η 1) f9 f8 f7 f6 f5 f4 f3 f2 f1 f0
set_option maxHeartbeats 20000000 in
theorem q_227_32 {q0 : Nat} {n0 n1 n2 n3 n4 : Int} {H0 H1 H2 : gH} (f0 : n0 ≤ 1) (f1 : 1 ≤ n0) (f2 : n1 ≤ 1007) (f3 : 0 ≤ n1) (f4 : n2 ≤ 5) (f5 : 0 ≤ n2) (f6 : n3 = 285) (f7 : n4 = 285) (f8 : (hLe T0 H0 H1 ∧ hFr s_227.2.2.2.2 H0 H1 ∧ hWt T0 H1) ∧ (Ab_227_180 n4 n3 n2 n1 n0 H0 H1 ∧ preb_227 n4 H0) ∧ some q0 = some (mub_227_180 n4 n3 n2 n1 n0 H0 H1)) (f9 : n2 = 0) (f10 : (hLe T0 H1 H2 ∧ hFr s_228.2.2.2.2 H1 H2 ∧ ((0 : Int) = 0 → H2.length = H1.length) ∧ hWt T0 H2) ∧ postb_228 n3 n1 H1 H2) : Ab_227_567 n4 n3 n2 n1 n0 H0 H2 ∧ ∀ q, some q0 = some q → mub_227_567 n4 n3 n2 n1 n0 H0 H2 < q := by
  have g4 := f8.2.1.1
  unfold Ab_227_180 at g4
  have g3 := f8.2.1.2
  unfold preb_227 at g3
  have g5 := Option.some.inj f8.2.2
  unfold mub_227_180 at g5
  unfold postb_228 at f10
  unfold Ab_227_567
  unfold mub_227_567
  have e1 : hV H1 285 18 = hV H0 285 18 := (f8.1.2.1.1 285 18 kF_227_285_18)
  have e3 : hV H1 285 32 = hV H0 285 32 := (f8.1.2.1.1 285 32 kF_227_285_32)
  have e5 : hV H1 285 33 = hV H0 285 33 := (f8.1.2.1.1 285 33 kF_227_285_33)
  have e7 : hV H2 285 32 = hV H0 285 32 := ((f10.1.2.1.1 285 32 kF_228_285_32)).trans (f8.1.2.1.1 285 32 kF_227_285_32)
  have e9 : hV H2 285 33 = hV H0 285 33 := ((f10.1.2.1.1 285 33 kF_228_285_33)).trans (f8.1.2.1.1 285 33 kF_227_285_33)
  have e12 : hV H2 294 = hV H0 294 := (fRow f10.1.2.1 294 kR_228_294).trans (fRow f8.1.2.1 294 kR_227_294)
  have e13 : hV H2 296 = hV H1 296 := fRow f10.1.2.1 296 kR_228_296
  have e14 : hV H2 297 = hV H1 297 := fRow f10.1.2.1 297 kR_228_297
  have e15 : hV H2 298 = hV H1 298 := fRow f10.1.2.1 298 kR_228_298
  have e16 : PQ H2 = PQ H1 := PQ_fr f10.1.2.1 (by decide +kernel)
  have e17 : (0 : Int) ≤ hV H1 285 11 ∧ hV H1 285 11 ≤ 500 := f8.1.2.2 285 11 _ _ kW_285_11
  have e18 : (0 : Int) ≤ hV H1 285 13 ∧ hV H1 285 13 ≤ 2 := f8.1.2.2 285 13 _ _ kW_285_13
  have e19 : (0 : Int) ≤ hV H1 285 15 ∧ hV H1 285 15 ≤ 6 := f8.1.2.2 285 15 _ _ kW_285_15
  have e20 : (0 : Int) ≤ hV H0 285 18 ∧ hV H0 285 18 ≤ 8 := bTo e1 (f8.1.2.2 285 18 _ _ kW_285_18)
  have e21 : (0 : Int) ≤ hV H0 285 32 ∧ hV H0 285 32 ≤ 7 := bTo e3 (f8.1.2.2 285 32 _ _ kW_285_32)
  have e22 : (0 : Int) ≤ hV H0 285 33 ∧ hV H0 285 33 ≤ 62 := bTo e5 (f8.1.2.2 285 33 _ _ kW_285_33)
  have e23 : (0 : Int) ≤ hV H2 285 11 ∧ hV H2 285 11 ≤ 500 := f10.1.2.2.2 285 11 _ _ kW_285_11
  have e24 : (0 : Int) ≤ hV H2 285 13 ∧ hV H2 285 13 ≤ 2 := f10.1.2.2.2 285 13 _ _ kW_285_13
  have e25 : (0 : Int) ≤ hV H2 285 15 ∧ hV H2 285 15 ≤ 6 := f10.1.2.2.2 285 15 _ _ kW_285_15
  try simp only [e7, e9, e12, e13, e14, e15, e16]
  have y0 := g4.1
  have y1 := g4.2.1
  have y2 := g4.2.2.1
  have y3 := g4.2.2.2.1
  have y4 := g4.2.2.2.2.1
  have y5 := g4.2.2.2.2.2.1
  have y6 := g4.2.2.2.2.2.2.1
  have y7 := g4.2.2.2.2.2.2.2.1
  have y8 := g4.2.2.2.2.2.2.2.2.1
  have y9 := g4.2.2.2.2.2.2.2.2.2.1
  have y10 := g4.2.2.2.2.2.2.2.2.2.2.1
  have y11 := g4.2.2.2.2.2.2.2.2.2.2.2.1
  have y12 := g4.2.2.2.2.2.2.2.2.2.2.2.2.1
  have y13 := g4.2.2.2.2.2.2.2.2.2.2.2.2.2
  have p0 := g3.1
  have p1 := g3.2.1
  have p2 := g3.2.2.1
  have p3 := g3.2.2.2.1
  have p4 := g3.2.2.2.2.1
  have p5 := g3.2.2.2.2.2.1
  have p6 := g3.2.2.2.2.2.2
  have r0_0 := f10.2.1
  have r0_1 := f10.2.2.1
  have r0_2 := f10.2.2.2.1
  have r0_3 := f10.2.2.2.2.1
  have r0_4 := f10.2.2.2.2.2.1
  have r0_5 := f10.2.2.2.2.2.2.1
  have r0_6 := f10.2.2.2.2.2.2.2.1
  have r0_7 := f10.2.2.2.2.2.2.2.2.1
  have r0_8 := f10.2.2.2.2.2.2.2.2.2.1
  have r0_9 := f10.2.2.2.2.2.2.2.2.2.2.1
  have r0_10 := f10.2.2.2.2.2.2.2.2.2.2.2.1
  have r0_11 := f10.2.2.2.2.2.2.2.2.2.2.2.2.1
  have r0_12 := f10.2.2.2.2.2.2.2.2.2.2.2.2.2.1
  have r0_13 := f10.2.2.2.2.2.2.2.2.2.2.2.2.2.2.1
  have r0_14 := f10.2.2.2.2.2.2.2.2.2.2.2.2.2.2.2.1
  have r0_15 := f10.2.2.2.2.2.2.2.2.2.2.2.2.2.2.2.2
  try simp only [e5] at y8
  try simp only [e5] at y9
  clear g3
  clear g4
  have wb0 := (y2 (hV H0 285 32).toNat).1
  have wp0 := (y2 (hV H0 285 33).toNat).2
  try simp only [e1, e3, e5] at wb0
  try simp only [e1, e3, e5] at wp0
  clear e1 e3 e5 e7 e9 e12 e13 e14 e15 e16
  clear f8 f10

  refine ⟨⟨?_, ?_, ?_, ?_, ?_⟩, fun q hq => ?_⟩
  · exact r0_0
  · intro z1 z2
    exact r0_1 (by omega) (by omega)
  · exact y2
  · intro z1 z2
    (try clear y0 y1 y2 p0 p5 p6 r0_0 r0_1)
    refine WN_lay (by omega) ?_ ?_ ?_ ?_ ?_ ?_ ?_ (by omega) <;> first | (simp only [uF_at]; omega) | omega
  · (try clear y0 y1 y2 p0 p5 p6 r0_0 r0_1)
    first
    | omega
    | (refine ⟨?_, ?_, ?_, ?_, ?_, ?_, ?_⟩ <;> first | exact True.intro | omega)
  · (try clear y0 y1 y2 p0 p5 p6 r0_0 r0_1)
    have g6 := Option.some.inj hq
    subst g6
    omega
def g_227_180_11 : vG := ([(1228, [1, 3], [1, 2], 0), (0, [2], [], 0), (5000, [0, 1, 2, 3, 4], [0, 1], 180), (0, [0], [], 285), (0, [1], [], 285), (90, [2], [], 0), (91, [2], [], 5), (90, [3], [], 0), (91, [3], [], 1007), (90, [4], [], 1), (91, [4], [], 1)], (4000, [1, 2, 3, 4], [2], 567))
theorem c_227_180_11 {q0 : Nat} : vOkm T0 (eP e_227 L_227 A_227 mu_227 (some q0)) 1 g_227_180_11 := vOk_inI fun ρ η f0 f1 f2 f3 f4 f5 f6 f7 f8 f9 f10 => q_227_32 (q0 := q0) (n0 := ρ 4) (n1 := ρ 3) (n2 := ρ 2) (n3 := ρ 1) (n4 := ρ 0) (H0 := η 0) (H1 := η 1) (H2 := η 2) f10 f9 f8 f7 f6 f5 f4 f3 f2 f1 f0
set_option maxHeartbeats 20000000 in
theorem q_227_33 {q0 : Nat} {n0 n1 n2 n3 n4 n5 n6 n7 n8 n9 n10 : Int} {H0 H1 H2 H3 H4 : gH} (f0 : n0 ≤ 1) (f1 : 1 ≤ n0) (f2 : n1 ≤ 1007) (f3 : 0 ≤ n1) (f4 : n2 ≤ 5) (f5 : 0 ≤ n2) (f6 : n3 = 285) (f7 : n4 = 285) (f8 : (hLe T0 H0 H1 ∧ hFr s_227.2.2.2.2 H0 H1 ∧ hWt T0 H1) ∧ (Ab_227_180 n4 n3 n2 n1 n0 H0 H1 ∧ preb_227 n4 H0) ∧ some q0 = some (mub_227_180 n4 n3 n2 n1 n0 H0 H1)) (f9 : n2 = 1) (f10 : n5 = 300) (f11 : n5 = hV H1 (n3).toNat 26) (f12 : n6 = 0) (f13 : n7 = 2) (f14 : n8 ≤ 9999) (f15 : 0 ≤ n8) (f16 : (hLe T0 H1 H2 ∧ hFr s_223.2.2.2.2 H1 H2 ∧ ((0 : Int) = 0 → H2.length = H1.length) ∧ hWt T0 H2) ∧ postb_223 n8 n3 n6 n7 H1 H2) (f17 : hUpd H3 H2 n5 n1 n8) (f18 : n9 = 26) (f19 : (hLe T0 H3 H4 ∧ hFr s_220.2.2.2.2 H3 H4 ∧ ((0 : Int) = 0 → H4.length = H3.length) ∧ hWt T0 H4) ∧ postb_220 n3 n9 H3 H4) (f20 : n10 = 0) : preb_229 n3 n1 n10 H4 := by
  have g4 := f8.2.1.1
  unfold Ab_227_180 at g4
  have g3 := f8.2.1.2
  unfold preb_227 at g3
  unfold postb_223 at f16
  unfold postb_220 at f19
  unfold preb_229
  have e1 : hV H1 285 18 = hV H0 285 18 := (f8.1.2.1.1 285 18 kF_227_285_18)
  have e3 : hV H1 285 32 = hV H0 285 32 := (f8.1.2.1.1 285 32 kF_227_285_32)
  have e5 : hV H1 285 33 = hV H0 285 33 := (f8.1.2.1.1 285 33 kF_227_285_33)
  have e7 : hV H1 285 64 = hV H0 285 64 := (f8.1.2.1.1 285 64 kF_227_285_64)
  have e8 : hV H1 294 = hV H0 294 := fRow f8.1.2.1 294 kR_227_294
  have e9 : hV H1 328 = hV H0 328 := fRow f8.1.2.1 328 kR_227_328
  have e10 : hV H1 332 = hV H0 332 := fRow f8.1.2.1 332 kR_227_332
  have e11 : hV H1 335 = hV H0 335 := fRow f8.1.2.1 335 kR_227_335
  have e16 : hV H3 285 11 = hV H2 285 11 := (uPlace f17 285 11 (iS (show n5 = ((300 : Nat) : Int) from f10) rfl))
  have e18 : hV H3 285 13 = hV H2 285 13 := (uPlace f17 285 13 (iS (show n5 = ((300 : Nat) : Int) from f10) rfl))
  have e21 : hV H4 285 15 = hV H2 285 15 := ((f19.1.2.1.1 285 15 kF_220_285_15)).trans (uPlace f17 285 15 (iS (show n5 = ((300 : Nat) : Int) from f10) rfl))
  have e25 : hV H4 285 18 = hV H0 285 18 := ((f19.1.2.1.1 285 18 kF_220_285_18)).trans (((uPlace f17 285 18 (iS (show n5 = ((300 : Nat) : Int) from f10) rfl))).trans (((f16.1.2.1.1 285 18 kF_223_285_18)).trans (f8.1.2.1.1 285 18 kF_227_285_18)))
  have e29 : hV H4 285 32 = hV H0 285 32 := ((f19.1.2.1.1 285 32 kF_220_285_32)).trans (((uPlace f17 285 32 (iS (show n5 = ((300 : Nat) : Int) from f10) rfl))).trans (((f16.1.2.1.1 285 32 kF_223_285_32)).trans (f8.1.2.1.1 285 32 kF_227_285_32)))
  have e33 : hV H4 285 33 = hV H0 285 33 := ((f19.1.2.1.1 285 33 kF_220_285_33)).trans (((uPlace f17 285 33 (iS (show n5 = ((300 : Nat) : Int) from f10) rfl))).trans (((f16.1.2.1.1 285 33 kF_223_285_33)).trans (f8.1.2.1.1 285 33 kF_227_285_33)))
  have e37 : hV H4 285 64 = hV H0 285 64 := ((f19.1.2.1.1 285 64 kF_220_285_64)).trans (((uPlace f17 285 64 (iS (show n5 = ((300 : Nat) : Int) from f10) rfl))).trans (((f16.1.2.1.1 285 64 kF_223_285_64)).trans (f8.1.2.1.1 285 64 kF_227_285_64)))
  have e47 : hV H4 294 = hV H0 294 := (fRow f19.1.2.1 294 kR_220_294).trans ((uRowNe f17 294 (iS (show n5 = ((300 : Nat) : Int) from f10) rfl)).trans ((fRow f16.1.2.1 294 kR_223_294).trans e8))
  have e52 : hV H4 296 = hV H1 296 := (fRow f19.1.2.1 296 kR_220_296).trans ((uRowNe f17 296 (iS (show n5 = ((300 : Nat) : Int) from f10) rfl)).trans (fRow f16.1.2.1 296 kR_223_296))
  have e57 : hV H4 297 = hV H1 297 := (fRow f19.1.2.1 297 kR_220_297).trans ((uRowNe f17 297 (iS (show n5 = ((300 : Nat) : Int) from f10) rfl)).trans (fRow f16.1.2.1 297 kR_223_297))
  have e62 : hV H4 298 = hV H1 298 := (fRow f19.1.2.1 298 kR_220_298).trans ((uRowNe f17 298 (iS (show n5 = ((300 : Nat) : Int) from f10) rfl)).trans (fRow f16.1.2.1 298 kR_223_298))
  have e67 : hV H4 300 = (uF (hV H1 300) n1 n8) := (fRow f19.1.2.1 300 kR_220_300).trans ((uRow f17 300 f10.symm).trans (congrArg (fun z => uF z n1 n8) (fRow f16.1.2.1 300 kR_223_300)))
  have e72 : hV H4 301 = hV H1 301 := (fRow f19.1.2.1 301 kR_220_301).trans ((uRowNe f17 301 (iS (show n5 = ((300 : Nat) : Int) from f10) rfl)).trans (fRow f16.1.2.1 301 kR_223_301))
  have e77 : hV H4 302 = hV H1 302 := (fRow f19.1.2.1 302 kR_220_302).trans ((uRowNe f17 302 (iS (show n5 = ((300 : Nat) : Int) from f10) rfl)).trans (fRow f16.1.2.1 302 kR_223_302))
  have e82 : hV H4 303 = hV H1 303 := (fRow f19.1.2.1 303 kR_220_303).trans ((uRowNe f17 303 (iS (show n5 = ((300 : Nat) : Int) from f10) rfl)).trans (fRow f16.1.2.1 303 kR_223_303))
  have e87 : hV H4 305 = hV H1 305 := (fRow f19.1.2.1 305 kR_220_305).trans ((uRowNe f17 305 (iS (show n5 = ((300 : Nat) : Int) from f10) rfl)).trans (fRow f16.1.2.1 305 kR_223_305))
  have e93 : hV H4 328 = hV H0 328 := (fRow f19.1.2.1 328 kR_220_328).trans ((uRowNe f17 328 (iS (show n5 = ((300 : Nat) : Int) from f10) rfl)).trans ((fRow f16.1.2.1 328 kR_223_328).trans e9))
  have e99 : hV H4 332 = hV H0 332 := (fRow f19.1.2.1 332 kR_220_332).trans ((uRowNe f17 332 (iS (show n5 = ((300 : Nat) : Int) from f10) rfl)).trans ((fRow f16.1.2.1 332 kR_223_332).trans e10))
  have e105 : hV H4 335 = hV H0 335 := (fRow f19.1.2.1 335 kR_220_335).trans ((uRowNe f17 335 (iS (show n5 = ((300 : Nat) : Int) from f10) rfl)).trans ((fRow f16.1.2.1 335 kR_223_335).trans e11))
  have e106 : PQ H2 = PQ H1 := PQ_fr f16.1.2.1 (by decide +kernel)
  have e107 : PQ H3 = PQ H2 := PQ_upR f17 (show n5 = ((300 : Nat) : Int) from f10) (by decide)
  have e108 : PQ H3 = PQ H1 := e107.trans e106
  have e109 : PQ H4 = PQ H3 := PQ_fr f19.1.2.1 (by decide +kernel)
  have e110 : PQ H4 = PQ H1 := e109.trans e108
  have e111 : (0 : Int) ≤ hV H1 285 11 ∧ hV H1 285 11 ≤ 500 := f8.1.2.2 285 11 _ _ kW_285_11
  have e112 : (0 : Int) ≤ hV H1 285 13 ∧ hV H1 285 13 ≤ 2 := f8.1.2.2 285 13 _ _ kW_285_13
  have e113 : (0 : Int) ≤ hV H1 285 15 ∧ hV H1 285 15 ≤ 6 := f8.1.2.2 285 15 _ _ kW_285_15
  have e114 : (0 : Int) ≤ hV H0 285 18 ∧ hV H0 285 18 ≤ 8 := bTo e1 (f8.1.2.2 285 18 _ _ kW_285_18)
  have e115 : (0 : Int) ≤ hV H0 285 32 ∧ hV H0 285 32 ≤ 7 := bTo e3 (f8.1.2.2 285 32 _ _ kW_285_32)
  have e116 : (0 : Int) ≤ hV H0 285 33 ∧ hV H0 285 33 ≤ 62 := bTo e5 (f8.1.2.2 285 33 _ _ kW_285_33)
  have e117 : (0 : Int) ≤ hV H0 285 64 ∧ hV H0 285 64 ≤ 20 := bTo e7 (f8.1.2.2 285 64 _ _ kW_285_64)
  have e118 : (0 : Int) ≤ hV H2 285 11 ∧ hV H2 285 11 ≤ 500 := f16.1.2.2.2 285 11 _ _ kW_285_11
  have e119 : (0 : Int) ≤ hV H2 285 13 ∧ hV H2 285 13 ≤ 2 := f16.1.2.2.2 285 13 _ _ kW_285_13
  have e120 : (0 : Int) ≤ hV H2 285 15 ∧ hV H2 285 15 ≤ 6 := f16.1.2.2.2 285 15 _ _ kW_285_15
  have e121 : (0 : Int) ≤ hV H4 285 11 ∧ hV H4 285 11 ≤ 500 := f19.1.2.2.2 285 11 _ _ kW_285_11
  have e122 : (0 : Int) ≤ hV H4 285 13 ∧ hV H4 285 13 ≤ 2 := f19.1.2.2.2 285 13 _ _ kW_285_13
  try simp only [PA, PW]
  try simp only [e21, e25, e29, e33, e37, e47, e52, e57, e62, e67, e72, e77, e82, e87, e93, e99, e105, e110]
  have y0 := g4.1
  have y1 := g4.2.1
  have y2 := g4.2.2.1
  have y3 := g4.2.2.2.1
  have y4 := g4.2.2.2.2.1
  have y5 := g4.2.2.2.2.2.1
  have y6 := g4.2.2.2.2.2.2.1
  have y7 := g4.2.2.2.2.2.2.2.1
  have y8 := g4.2.2.2.2.2.2.2.2.1
  have y9 := g4.2.2.2.2.2.2.2.2.2.1
  have y10 := g4.2.2.2.2.2.2.2.2.2.2.1
  have y11 := g4.2.2.2.2.2.2.2.2.2.2.2.1
  have y12 := g4.2.2.2.2.2.2.2.2.2.2.2.2.1
  have y13 := g4.2.2.2.2.2.2.2.2.2.2.2.2.2
  have p0 := g3.1
  have p1 := g3.2.1
  have p2 := g3.2.2.1
  have p3 := g3.2.2.2.1
  have p4 := g3.2.2.2.2.1
  have p5 := g3.2.2.2.2.2.1
  have p6 := g3.2.2.2.2.2.2
  have r0_0 := f16.2.1
  have r0_1 := f16.2.2.1
  have r0_2 := f16.2.2.2.1
  have r0_3 := f16.2.2.2.2.1
  have r0_4 := f16.2.2.2.2.2.1
  have r0_5 := f16.2.2.2.2.2.2.1
  have r0_6 := f16.2.2.2.2.2.2.2.1
  have r1_0 := f19.2.1
  have r1_1 := f19.2.2.1
  have r1_2 := f19.2.2.2.1
  have r1_3 := f19.2.2.2.2.1
  try simp only [PA] at y0
  try simp only [PW] at y1
  try simp only [PA] at p0
  try simp only [PW] at p5
  try simp only [e1, e7, e8, e9, e10, e11] at y0
  try simp only [e3, e5, e8] at y1
  try simp only [e5] at y8
  try simp only [e5] at y9
  try simp only [e16] at r1_0
  try simp only [e16] at r1_1
  try simp only [e18] at r1_2
  try simp only [e16] at r1_3
  clear g3
  clear g4
  have wb0 := (y2 (hV H0 285 32).toNat).1
  have wp0 := (y2 (hV H0 285 33).toNat).2
  try simp only [e1, e3, e5, e7, e8, e9, e10, e11] at wb0
  try simp only [e1, e3, e5, e7, e8, e9, e10, e11] at wp0
  clear f11 e1 e3 e5 e7 e8 e9 e10 e11 e16 e18 e21 e25 e29 e33 e37 e47 e52 e57 e62 e67 e72 e77 e82 e87 e93 e99 e105 e106 e107 e108 e109 e110
  clear f8 f16 f19

  refine ⟨?_, ?_, ?_, ?_, ?_, ?_, ?_, ?_⟩
  · refine PA_cw ?_ (by omega)
    exact y0
  · (try clear y0 y1 y2 p0 p5 p6)
    first | exact True.intro | omega
  · (try clear y0 y1 y2 p0 p5 p6)
    first | exact True.intro | omega
  · (try clear y0 y1 y2 p0 p5 p6)
    first | exact True.intro | omega
  · (try clear y0 y1 y2 p0 p5 p6)
    first | exact True.intro | omega
  · intro z1 z2
    refine PW_cw ?_ (by omega) (by omega) (by omega) (by omega)
    exact y1 (by omega) (by omega)
  · (try clear y0 y1 y2 p0 p5 p6)
    first | exact True.intro | omega
  · exact y2

def g_227_180_12 : vG := ([(0, [10], [], 0), (1220, [1, 9], [3, 4], 0), (0, [9], [], 26), (80, [5, 3, 8], [3, 2], 0), (1223, [8, 1, 6, 7], [1, 2], 0), (90, [8], [], 0), (91, [8], [], 9999), (0, [7], [], 2), (0, [6], [], 0), (20, [5, 1], [1], 26), (0, [5], [], 300), (0, [2], [], 1), (5000, [0, 1, 2, 3, 4], [0, 1], 180), (0, [0], [], 285), (0, [1], [], 285), (90, [2], [], 0), (91, [2], [], 5), (90, [3], [], 0), (91, [3], [], 1007), (90, [4], [], 1), (91, [4], [], 1)], (2229, [1, 3, 10], [4], 0))
theorem c_227_180_12 {q0 : Nat} : vOkm T0 (eP e_227 L_227 A_227 mu_227 (some q0)) 1 g_227_180_12 := vOk_inI fun ρ η f0 f1 f2 f3 f4 f5 f6 f7 f8 f9 f10 f11 f12 f13 f14 f15 f16 f17 f18 f19 f20 => q_227_33 (q0 := q0) (n0 := ρ 4) (n1 := ρ 3) (n2 := ρ 2) (n3 := ρ 1) (n4 := ρ 0) (n5 := ρ 5) (n6 := ρ 6) (n7 := ρ 7) (n8 := ρ 8) (n9 := ρ 9) (n10 := ρ 10) (H0 := η 0) (H1 := η 1) (H2 := η 2) (H3 := η 3) (H4 := η 4) f20 f19 f18 f17 f16 f15 f14 f13 f12 f11 f10 f9 f8 f7 f6 f5 f4 f3 f2 f1 f0
set_option maxHeartbeats 20000000 in
theorem q_227_34 {q0 : Nat} {n0 n1 n2 n3 n4 n5 n6 n7 n8 n9 n10 n11 n12 : Int} {H0 H1 H2 H3 H4 H5 H6 : gH} (f0 : n0 ≤ 1) (f1 : 1 ≤ n0) (f2 : n1 ≤ 1007) (f3 : 0 ≤ n1) (f4 : n2 ≤ 5) (f5 : 0 ≤ n2) (f6 : n3 = 285) (f7 : n4 = 285) (f8 : (hLe T0 H0 H1 ∧ hFr s_227.2.2.2.2 H0 H1 ∧ hWt T0 H1) ∧ (Ab_227_180 n4 n3 n2 n1 n0 H0 H1 ∧ preb_227 n4 H0) ∧ some q0 = some (mub_227_180 n4 n3 n2 n1 n0 H0 H1)) (f9 : n2 = 1) (f10 : n5 = 300) (f11 : n5 = hV H1 (n3).toNat 26) (f12 : n6 = 0) (f13 : n7 = 2) (f14 : n8 ≤ 9999) (f15 : 0 ≤ n8) (f16 : (hLe T0 H1 H2 ∧ hFr s_223.2.2.2.2 H1 H2 ∧ ((0 : Int) = 0 → H2.length = H1.length) ∧ hWt T0 H2) ∧ postb_223 n8 n3 n6 n7 H1 H2) (f17 : hUpd H3 H2 n5 n1 n8) (f18 : n9 = 26) (f19 : (hLe T0 H3 H4 ∧ hFr s_220.2.2.2.2 H3 H4 ∧ ((0 : Int) = 0 → H4.length = H3.length) ∧ hWt T0 H4) ∧ postb_220 n3 n9 H3 H4) (f20 : n10 = 0) (f21 : (hLe T0 H4 H5 ∧ hFr s_229.2.2.2.2 H4 H5 ∧ ((0 : Int) = 0 → H5.length = H4.length) ∧ hWt T0 H5) ∧ postb_229 n3 n1 n10 H4 H5) (f22 : n11 = 32) (f23 : (hLe T0 H5 H6 ∧ hFr s_220.2.2.2.2 H5 H6 ∧ ((0 : Int) = 0 → H6.length = H5.length) ∧ hWt T0 H6) ∧ postb_220 n3 n11 H5 H6) (f24 : n12 = 1) : preb_229 n3 n1 n12 H6 := by
  have g4 := f8.2.1.1
  unfold Ab_227_180 at g4
  have g3 := f8.2.1.2
  unfold preb_227 at g3
  unfold postb_223 at f16
  unfold postb_220 at f19
  unfold postb_229 at f21
  unfold postb_220 at f23
  unfold preb_229
  have e1 : hV H1 285 18 = hV H0 285 18 := (f8.1.2.1.1 285 18 kF_227_285_18)
  have e3 : hV H1 285 32 = hV H0 285 32 := (f8.1.2.1.1 285 32 kF_227_285_32)
  have e5 : hV H1 285 33 = hV H0 285 33 := (f8.1.2.1.1 285 33 kF_227_285_33)
  have e7 : hV H1 285 64 = hV H0 285 64 := (f8.1.2.1.1 285 64 kF_227_285_64)
  have e8 : hV H1 294 = hV H0 294 := fRow f8.1.2.1 294 kR_227_294
  have e9 : hV H1 328 = hV H0 328 := fRow f8.1.2.1 328 kR_227_328
  have e10 : hV H1 332 = hV H0 332 := fRow f8.1.2.1 332 kR_227_332
  have e11 : hV H1 335 = hV H0 335 := fRow f8.1.2.1 335 kR_227_335
  have e16 : hV H3 285 11 = hV H2 285 11 := (uPlace f17 285 11 (iS (show n5 = ((300 : Nat) : Int) from f10) rfl))
  have e18 : hV H3 285 13 = hV H2 285 13 := (uPlace f17 285 13 (iS (show n5 = ((300 : Nat) : Int) from f10) rfl))
  have e21 : hV H4 285 15 = hV H2 285 15 := ((f19.1.2.1.1 285 15 kF_220_285_15)).trans (uPlace f17 285 15 (iS (show n5 = ((300 : Nat) : Int) from f10) rfl))
  have e25 : hV H4 288 = hV H0 288 := (fRow f19.1.2.1 288 kR_220_288).trans ((uRowNe f17 288 (iS (show n5 = ((300 : Nat) : Int) from f10) rfl)).trans ((fRow f16.1.2.1 288 kR_223_288).trans (fRow f8.1.2.1 288 kR_227_288)))
  have e30 : hV H4 301 = hV H1 301 := (fRow f19.1.2.1 301 kR_220_301).trans ((uRowNe f17 301 (iS (show n5 = ((300 : Nat) : Int) from f10) rfl)).trans (fRow f16.1.2.1 301 kR_223_301))
  have e35 : hV H4 302 = hV H1 302 := (fRow f19.1.2.1 302 kR_220_302).trans ((uRowNe f17 302 (iS (show n5 = ((300 : Nat) : Int) from f10) rfl)).trans (fRow f16.1.2.1 302 kR_223_302))
  have e40 : hV H4 303 = hV H1 303 := (fRow f19.1.2.1 303 kR_220_303).trans ((uRowNe f17 303 (iS (show n5 = ((300 : Nat) : Int) from f10) rfl)).trans (fRow f16.1.2.1 303 kR_223_303))
  have e45 : hV H5 285 18 = hV H0 285 18 := ((f21.1.2.1.1 285 18 kF_229_285_18)).trans (((f19.1.2.1.1 285 18 kF_220_285_18)).trans (((uPlace f17 285 18 (iS (show n5 = ((300 : Nat) : Int) from f10) rfl))).trans (((f16.1.2.1.1 285 18 kF_223_285_18)).trans (f8.1.2.1.1 285 18 kF_227_285_18))))
  have e50 : hV H5 285 32 = hV H0 285 32 := ((f21.1.2.1.1 285 32 kF_229_285_32)).trans (((f19.1.2.1.1 285 32 kF_220_285_32)).trans (((uPlace f17 285 32 (iS (show n5 = ((300 : Nat) : Int) from f10) rfl))).trans (((f16.1.2.1.1 285 32 kF_223_285_32)).trans (f8.1.2.1.1 285 32 kF_227_285_32))))
  have e55 : hV H5 285 33 = hV H0 285 33 := ((f21.1.2.1.1 285 33 kF_229_285_33)).trans (((f19.1.2.1.1 285 33 kF_220_285_33)).trans (((uPlace f17 285 33 (iS (show n5 = ((300 : Nat) : Int) from f10) rfl))).trans (((f16.1.2.1.1 285 33 kF_223_285_33)).trans (f8.1.2.1.1 285 33 kF_227_285_33))))
  have e60 : hV H5 285 64 = hV H0 285 64 := ((f21.1.2.1.1 285 64 kF_229_285_64)).trans (((f19.1.2.1.1 285 64 kF_220_285_64)).trans (((uPlace f17 285 64 (iS (show n5 = ((300 : Nat) : Int) from f10) rfl))).trans (((f16.1.2.1.1 285 64 kF_223_285_64)).trans (f8.1.2.1.1 285 64 kF_227_285_64))))
  have e68 : hV H5 294 = hV H0 294 := (fRow f21.1.2.1 294 kR_229_294).trans ((fRow f19.1.2.1 294 kR_220_294).trans ((uRowNe f17 294 (iS (show n5 = ((300 : Nat) : Int) from f10) rfl)).trans ((fRow f16.1.2.1 294 kR_223_294).trans e8)))
  have e75 : hV H5 296 = hV H1 296 := (fRow f21.1.2.1 296 kR_229_296).trans ((fRow f19.1.2.1 296 kR_220_296).trans ((uRowNe f17 296 (iS (show n5 = ((300 : Nat) : Int) from f10) rfl)).trans (fRow f16.1.2.1 296 kR_223_296)))
  have e82 : hV H5 297 = hV H1 297 := (fRow f21.1.2.1 297 kR_229_297).trans ((fRow f19.1.2.1 297 kR_220_297).trans ((uRowNe f17 297 (iS (show n5 = ((300 : Nat) : Int) from f10) rfl)).trans (fRow f16.1.2.1 297 kR_223_297)))
  have e89 : hV H5 298 = hV H1 298 := (fRow f21.1.2.1 298 kR_229_298).trans ((fRow f19.1.2.1 298 kR_220_298).trans ((uRowNe f17 298 (iS (show n5 = ((300 : Nat) : Int) from f10) rfl)).trans (fRow f16.1.2.1 298 kR_223_298)))
  have e96 : hV H5 300 = (uF (hV H1 300) n1 n8) := (fRow f21.1.2.1 300 kR_229_300).trans ((fRow f19.1.2.1 300 kR_220_300).trans ((uRow f17 300 f10.symm).trans (congrArg (fun z => uF z n1 n8) (fRow f16.1.2.1 300 kR_223_300))))
  have e103 : hV H5 305 = hV H1 305 := (fRow f21.1.2.1 305 kR_229_305).trans ((fRow f19.1.2.1 305 kR_220_305).trans ((uRowNe f17 305 (iS (show n5 = ((300 : Nat) : Int) from f10) rfl)).trans (fRow f16.1.2.1 305 kR_223_305)))
  have e111 : hV H5 328 = hV H0 328 := (fRow f21.1.2.1 328 kR_229_328).trans ((fRow f19.1.2.1 328 kR_220_328).trans ((uRowNe f17 328 (iS (show n5 = ((300 : Nat) : Int) from f10) rfl)).trans ((fRow f16.1.2.1 328 kR_223_328).trans e9)))
  have e119 : hV H5 332 = hV H0 332 := (fRow f21.1.2.1 332 kR_229_332).trans ((fRow f19.1.2.1 332 kR_220_332).trans ((uRowNe f17 332 (iS (show n5 = ((300 : Nat) : Int) from f10) rfl)).trans ((fRow f16.1.2.1 332 kR_223_332).trans e10)))
  have e127 : hV H5 335 = hV H0 335 := (fRow f21.1.2.1 335 kR_229_335).trans ((fRow f19.1.2.1 335 kR_220_335).trans ((uRowNe f17 335 (iS (show n5 = ((300 : Nat) : Int) from f10) rfl)).trans ((fRow f16.1.2.1 335 kR_223_335).trans e11)))
  have e129 : hV H6 285 15 = hV H5 285 15 := (f23.1.2.1.1 285 15 kF_220_285_15)
  have e131 : hV H6 285 18 = hV H0 285 18 := ((f23.1.2.1.1 285 18 kF_220_285_18)).trans (((f21.1.2.1.1 285 18 kF_229_285_18)).trans (((f19.1.2.1.1 285 18 kF_220_285_18)).trans (((uPlace f17 285 18 (iS (show n5 = ((300 : Nat) : Int) from f10) rfl))).trans (((f16.1.2.1.1 285 18 kF_223_285_18)).trans (f8.1.2.1.1 285 18 kF_227_285_18)))))
  have e133 : hV H6 285 32 = hV H0 285 32 := ((f23.1.2.1.1 285 32 kF_220_285_32)).trans (((f21.1.2.1.1 285 32 kF_229_285_32)).trans (((f19.1.2.1.1 285 32 kF_220_285_32)).trans (((uPlace f17 285 32 (iS (show n5 = ((300 : Nat) : Int) from f10) rfl))).trans (((f16.1.2.1.1 285 32 kF_223_285_32)).trans (f8.1.2.1.1 285 32 kF_227_285_32)))))
  have e135 : hV H6 285 33 = hV H0 285 33 := ((f23.1.2.1.1 285 33 kF_220_285_33)).trans (((f21.1.2.1.1 285 33 kF_229_285_33)).trans (((f19.1.2.1.1 285 33 kF_220_285_33)).trans (((uPlace f17 285 33 (iS (show n5 = ((300 : Nat) : Int) from f10) rfl))).trans (((f16.1.2.1.1 285 33 kF_223_285_33)).trans (f8.1.2.1.1 285 33 kF_227_285_33)))))
  have e137 : hV H6 285 64 = hV H0 285 64 := ((f23.1.2.1.1 285 64 kF_220_285_64)).trans (((f21.1.2.1.1 285 64 kF_229_285_64)).trans (((f19.1.2.1.1 285 64 kF_220_285_64)).trans (((uPlace f17 285 64 (iS (show n5 = ((300 : Nat) : Int) from f10) rfl))).trans (((f16.1.2.1.1 285 64 kF_223_285_64)).trans (f8.1.2.1.1 285 64 kF_227_285_64)))))
  have e143 : hV H6 294 = hV H0 294 := (fRow f23.1.2.1 294 kR_220_294).trans e68
  have e145 : hV H6 296 = hV H1 296 := (fRow f23.1.2.1 296 kR_220_296).trans e75
  have e147 : hV H6 297 = hV H1 297 := (fRow f23.1.2.1 297 kR_220_297).trans e82
  have e149 : hV H6 298 = hV H1 298 := (fRow f23.1.2.1 298 kR_220_298).trans e89
  have e151 : hV H6 300 = (uF (hV H1 300) n1 n8) := (fRow f23.1.2.1 300 kR_220_300).trans e96
  have e152 : hV H6 301 = hV H5 301 := fRow f23.1.2.1 301 kR_220_301
  have e153 : hV H6 302 = hV H5 302 := fRow f23.1.2.1 302 kR_220_302
  have e154 : hV H6 303 = hV H5 303 := fRow f23.1.2.1 303 kR_220_303
  have e156 : hV H6 305 = hV H1 305 := (fRow f23.1.2.1 305 kR_220_305).trans e103
  have e158 : hV H6 328 = hV H0 328 := (fRow f23.1.2.1 328 kR_220_328).trans e111
  have e160 : hV H6 332 = hV H0 332 := (fRow f23.1.2.1 332 kR_220_332).trans e119
  have e162 : hV H6 335 = hV H0 335 := (fRow f23.1.2.1 335 kR_220_335).trans e127
  have e163 : PQ H2 = PQ H1 := PQ_fr f16.1.2.1 (by decide +kernel)
  have e164 : PQ H3 = PQ H2 := PQ_upR f17 (show n5 = ((300 : Nat) : Int) from f10) (by decide)
  have e165 : PQ H3 = PQ H1 := e164.trans e163
  have e166 : PQ H4 = PQ H3 := PQ_fr f19.1.2.1 (by decide +kernel)
  have e167 : PQ H4 = PQ H1 := e166.trans e165
  have e168 : PQ H5 = PQ H4 := PQ_fr f21.1.2.1 (by decide +kernel)
  have e169 : PQ H5 = PQ H1 := e168.trans e167
  have e170 : PQ H6 = PQ H5 := PQ_fr f23.1.2.1 (by decide +kernel)
  have e171 : PQ H6 = PQ H1 := e170.trans e169
  have e172 : (0 : Int) ≤ hV H1 285 11 ∧ hV H1 285 11 ≤ 500 := f8.1.2.2 285 11 _ _ kW_285_11
  have e173 : (0 : Int) ≤ hV H1 285 13 ∧ hV H1 285 13 ≤ 2 := f8.1.2.2 285 13 _ _ kW_285_13
  have e174 : (0 : Int) ≤ hV H1 285 15 ∧ hV H1 285 15 ≤ 6 := f8.1.2.2 285 15 _ _ kW_285_15
  have e175 : (0 : Int) ≤ hV H0 285 18 ∧ hV H0 285 18 ≤ 8 := bTo e1 (f8.1.2.2 285 18 _ _ kW_285_18)
  have e176 : (0 : Int) ≤ hV H0 285 32 ∧ hV H0 285 32 ≤ 7 := bTo e3 (f8.1.2.2 285 32 _ _ kW_285_32)
  have e177 : (0 : Int) ≤ hV H0 285 33 ∧ hV H0 285 33 ≤ 62 := bTo e5 (f8.1.2.2 285 33 _ _ kW_285_33)
  have e178 : (0 : Int) ≤ hV H0 285 64 ∧ hV H0 285 64 ≤ 20 := bTo e7 (f8.1.2.2 285 64 _ _ kW_285_64)
  have e179 : (0 : Int) ≤ hV H2 285 11 ∧ hV H2 285 11 ≤ 500 := f16.1.2.2.2 285 11 _ _ kW_285_11
  have e180 : (0 : Int) ≤ hV H2 285 13 ∧ hV H2 285 13 ≤ 2 := f16.1.2.2.2 285 13 _ _ kW_285_13
  have e181 : (0 : Int) ≤ hV H2 285 15 ∧ hV H2 285 15 ≤ 6 := f16.1.2.2.2 285 15 _ _ kW_285_15
  have e182 : (0 : Int) ≤ hV H4 285 11 ∧ hV H4 285 11 ≤ 500 := f19.1.2.2.2 285 11 _ _ kW_285_11
  have e183 : (0 : Int) ≤ hV H4 285 13 ∧ hV H4 285 13 ≤ 2 := f19.1.2.2.2 285 13 _ _ kW_285_13
  have e185 : (0 : Int) ≤ hV H5 285 11 ∧ hV H5 285 11 ≤ 500 := f21.1.2.2.2 285 11 _ _ kW_285_11
  have e186 : (0 : Int) ≤ hV H5 285 13 ∧ hV H5 285 13 ≤ 2 := f21.1.2.2.2 285 13 _ _ kW_285_13
  have e187 : (0 : Int) ≤ hV H5 285 15 ∧ hV H5 285 15 ≤ 6 := f21.1.2.2.2 285 15 _ _ kW_285_15
  have e192 : (0 : Int) ≤ hV H6 285 11 ∧ hV H6 285 11 ≤ 500 := f23.1.2.2.2 285 11 _ _ kW_285_11
  have e193 : (0 : Int) ≤ hV H6 285 13 ∧ hV H6 285 13 ≤ 2 := f23.1.2.2.2 285 13 _ _ kW_285_13
  try simp only [PA, PW]
  try simp only [e129, e131, e133, e135, e137, e143, e145, e147, e149, e151, e152, e153, e154, e156, e158, e160, e162, e171]
  have y0 := g4.1
  have y1 := g4.2.1
  have y2 := g4.2.2.1
  have y3 := g4.2.2.2.1
  have y4 := g4.2.2.2.2.1
  have y5 := g4.2.2.2.2.2.1
  have y6 := g4.2.2.2.2.2.2.1
  have y7 := g4.2.2.2.2.2.2.2.1
  have y8 := g4.2.2.2.2.2.2.2.2.1
  have y9 := g4.2.2.2.2.2.2.2.2.2.1
  have y10 := g4.2.2.2.2.2.2.2.2.2.2.1
  have y11 := g4.2.2.2.2.2.2.2.2.2.2.2.1
  have y12 := g4.2.2.2.2.2.2.2.2.2.2.2.2.1
  have y13 := g4.2.2.2.2.2.2.2.2.2.2.2.2.2
  have p0 := g3.1
  have p1 := g3.2.1
  have p2 := g3.2.2.1
  have p3 := g3.2.2.2.1
  have p4 := g3.2.2.2.2.1
  have p5 := g3.2.2.2.2.2.1
  have p6 := g3.2.2.2.2.2.2
  have r0_0 := f16.2.1
  have r0_1 := f16.2.2.1
  have r0_2 := f16.2.2.2.1
  have r0_3 := f16.2.2.2.2.1
  have r0_4 := f16.2.2.2.2.2.1
  have r0_5 := f16.2.2.2.2.2.2.1
  have r0_6 := f16.2.2.2.2.2.2.2.1
  have r1_0 := f19.2.1
  have r1_1 := f19.2.2.1
  have r1_2 := f19.2.2.2.1
  have r1_3 := f19.2.2.2.2.1
  have r2_0 := f21.2.1
  have r2_1 := f21.2.2.1
  have r2_2 := f21.2.2.2.1
  have r2_3 := f21.2.2.2.2.1
  have r2_4 := f21.2.2.2.2.2.1
  have r2_5 := f21.2.2.2.2.2.2.1
  have r2_6 := f21.2.2.2.2.2.2.2.1
  have r2_7 := f21.2.2.2.2.2.2.2.2.1 f20
  have r3_0 := f23.2.1
  have r3_1 := f23.2.2.1
  have r3_2 := f23.2.2.2.1
  have r3_3 := f23.2.2.2.2.1
  try simp only [PA] at y0
  try simp only [PW] at y1
  try simp only [PA] at p0
  try simp only [PW] at p5
  try simp only [PA] at r2_0
  try simp only [PW] at r2_1
  try simp only [e1, e7, e8, e9, e10, e11] at y0
  try simp only [e3, e5, e8] at y1
  try simp only [e5] at y8
  try simp only [e5] at y9
  try simp only [e16] at r1_0
  try simp only [e16] at r1_1
  try simp only [e18] at r1_2
  try simp only [e16] at r1_3
  try simp only [e45, e60, e68, e75, e89, e96, e103, e111, e119, e127] at r2_0
  try simp only [e50, e55, e68, e75, e82, e89, e96, e103] at r2_1
  try simp only [e21] at r2_5
  try simp only [e21] at r2_6
  try simp only [e21, e25, e30, e35, e40, e45, e50, e55, e60, e68, e75, e82, e89, e96, e103, e111, e119, e127] at r2_7
  clear g3
  clear g4
  have wb0 := (y2 (hV H0 285 32).toNat).1
  have wp0 := (y2 (hV H0 285 33).toNat).2
  try simp only [e1, e3, e5, e7, e8, e9, e10, e11] at wb0
  try simp only [e1, e3, e5, e7, e8, e9, e10, e11] at wp0
  clear f11 e1 e3 e5 e7 e8 e9 e10 e11 e16 e18 e21 e25 e30 e35 e40 e45 e50 e55 e60 e68 e75 e82 e89 e96 e103 e111 e119 e127 e129 e131 e133 e135 e137 e143 e145 e147 e149 e151 e152 e153 e154 e156 e158 e160 e162 e163 e164 e165 e166 e167 e168 e169 e170 e171
  clear f8 f16 f19 f21 f23

  refine ⟨?_, ?_, ?_, ?_, ?_, ?_, ?_, ?_⟩
  · exact r2_0
  · (try clear y0 y1 y2 p0 p5 p6 r2_0 r2_1)
    first | exact True.intro | omega
  · (try clear y0 y1 y2 p0 p5 p6 r2_0 r2_1)
    first | exact True.intro | omega
  · (try clear y0 y1 y2 p0 p5 p6 r2_0 r2_1)
    first | exact True.intro | omega
  · (try clear y0 y1 y2 p0 p5 p6 r2_0 r2_1)
    first | exact True.intro | omega
  · intro z1 z2
    exact r2_1 (by omega) (by omega)
  · (try clear y0 y1 y2 p0 p5 p6 r2_0 r2_1)
    first | exact True.intro | omega
  · exact y2

def g_227_180_13 : vG := ([(0, [12], [], 1), (1220, [1, 11], [5, 6], 0), (0, [11], [], 32), (1229, [1, 3, 10], [4, 5], 0), (0, [10], [], 0), (1220, [1, 9], [3, 4], 0), (0, [9], [], 26), (80, [5, 3, 8], [3, 2], 0), (1223, [8, 1, 6, 7], [1, 2], 0), (90, [8], [], 0), (91, [8], [], 9999), (0, [7], [], 2), (0, [6], [], 0), (20, [5, 1], [1], 26), (0, [5], [], 300), (0, [2], [], 1), (5000, [0, 1, 2, 3, 4], [0, 1], 180), (0, [0], [], 285), (0, [1], [], 285), (90, [2], [], 0), (91, [2], [], 5), (90, [3], [], 0), (91, [3], [], 1007), (90, [4], [], 1), (91, [4], [], 1)], (2229, [1, 3, 12], [6], 0))
theorem c_227_180_13 {q0 : Nat} : vOkm T0 (eP e_227 L_227 A_227 mu_227 (some q0)) 1 g_227_180_13 := vOk_inI fun ρ η f0 f1 f2 f3 f4 f5 f6 f7 f8 f9 f10 f11 f12 f13 f14 f15 f16 f17 f18 f19 f20 f21 f22 f23 f24 => q_227_34 (q0 := q0) (n0 := ρ 4) (n1 := ρ 3) (n2 := ρ 2) (n3 := ρ 1) (n4 := ρ 0) (n5 := ρ 5) (n6 := ρ 6) (n7 := ρ 7) (n8 := ρ 8) (n9 := ρ 9) (n10 := ρ 10) (n11 := ρ 11) (n12 := ρ 12) (H0 := η 0) (H1 := η 1) (H2 := η 2) (H3 := η 3) (H4 := η 4) (H5 := η 5) (H6 := η 6) f24 f23 f22 f21 f20 f19 f18 f17 f16 f15 f14 f13 f12 f11 f10 f9 f8 f7 f6 f5 f4 f3 f2 f1 f0
set_option maxHeartbeats 20000000 in
theorem q_227_35 {q0 : Nat} {n0 n1 n2 n3 n4 n5 n6 n7 n8 n9 n10 n11 n12 n13 n14 : Int} {H0 H1 H2 H3 H4 H5 H6 H7 : gH} (f0 : n0 ≤ 1) (f1 : 1 ≤ n0) (f2 : n1 ≤ 1007) (f3 : 0 ≤ n1) (f4 : n2 ≤ 5) (f5 : 0 ≤ n2) (f6 : n3 = 285) (f7 : n4 = 285) (f8 : (hLe T0 H0 H1 ∧ hFr s_227.2.2.2.2 H0 H1 ∧ hWt T0 H1) ∧ (Ab_227_180 n4 n3 n2 n1 n0 H0 H1 ∧ preb_227 n4 H0) ∧ some q0 = some (mub_227_180 n4 n3 n2 n1 n0 H0 H1)) (f9 : n2 = 1) (f10 : n5 = 300) (f11 : n5 = hV H1 (n3).toNat 26) (f12 : n6 = 0) (f13 : n7 = 2) (f14 : n8 ≤ 9999) (f15 : 0 ≤ n8) (f16 : (hLe T0 H1 H2 ∧ hFr s_223.2.2.2.2 H1 H2 ∧ ((0 : Int) = 0 → H2.length = H1.length) ∧ hWt T0 H2) ∧ postb_223 n8 n3 n6 n7 H1 H2) (f17 : hUpd H3 H2 n5 n1 n8) (f18 : n9 = 26) (f19 : (hLe T0 H3 H4 ∧ hFr s_220.2.2.2.2 H3 H4 ∧ ((0 : Int) = 0 → H4.length = H3.length) ∧ hWt T0 H4) ∧ postb_220 n3 n9 H3 H4) (f20 : n10 = 0) (f21 : (hLe T0 H4 H5 ∧ hFr s_229.2.2.2.2 H4 H5 ∧ ((0 : Int) = 0 → H5.length = H4.length) ∧ hWt T0 H5) ∧ postb_229 n3 n1 n10 H4 H5) (f22 : n11 = 32) (f23 : (hLe T0 H5 H6 ∧ hFr s_220.2.2.2.2 H5 H6 ∧ ((0 : Int) = 0 → H6.length = H5.length) ∧ hWt T0 H6) ∧ postb_220 n3 n11 H5 H6) (f24 : n12 = 1) (f25 : (hLe T0 H6 H7 ∧ hFr s_229.2.2.2.2 H6 H7 ∧ ((0 : Int) = 0 → H7.length = H6.length) ∧ hWt T0 H7) ∧ postb_229 n3 n1 n12 H6 H7) (f26 : n13 = 6) (f27 : n14 = w32 (n13 * n1)) : 0 ≤ n14 ∧ n14 < 6048 := by
  have g4 := f8.2.1.1
  unfold Ab_227_180 at g4
  have g3 := f8.2.1.2
  unfold preb_227 at g3
  unfold postb_223 at f16
  unfold postb_220 at f19
  unfold postb_229 at f21
  unfold postb_220 at f23
  unfold postb_229 at f25
  have e1 : hV H1 285 18 = hV H0 285 18 := (f8.1.2.1.1 285 18 kF_227_285_18)
  have e3 : hV H1 285 32 = hV H0 285 32 := (f8.1.2.1.1 285 32 kF_227_285_32)
  have e5 : hV H1 285 33 = hV H0 285 33 := (f8.1.2.1.1 285 33 kF_227_285_33)
  have e7 : hV H1 285 64 = hV H0 285 64 := (f8.1.2.1.1 285 64 kF_227_285_64)
  have e8 : hV H1 294 = hV H0 294 := fRow f8.1.2.1 294 kR_227_294
  have e9 : hV H1 328 = hV H0 328 := fRow f8.1.2.1 328 kR_227_328
  have e10 : hV H1 332 = hV H0 332 := fRow f8.1.2.1 332 kR_227_332
  have e11 : hV H1 335 = hV H0 335 := fRow f8.1.2.1 335 kR_227_335
  have e16 : hV H3 285 11 = hV H2 285 11 := (uPlace f17 285 11 (iS (show n5 = ((300 : Nat) : Int) from f10) rfl))
  have e18 : hV H3 285 13 = hV H2 285 13 := (uPlace f17 285 13 (iS (show n5 = ((300 : Nat) : Int) from f10) rfl))
  have e21 : hV H4 285 15 = hV H2 285 15 := ((f19.1.2.1.1 285 15 kF_220_285_15)).trans (uPlace f17 285 15 (iS (show n5 = ((300 : Nat) : Int) from f10) rfl))
  have e25 : hV H4 288 = hV H0 288 := (fRow f19.1.2.1 288 kR_220_288).trans ((uRowNe f17 288 (iS (show n5 = ((300 : Nat) : Int) from f10) rfl)).trans ((fRow f16.1.2.1 288 kR_223_288).trans (fRow f8.1.2.1 288 kR_227_288)))
  have e30 : hV H4 301 = hV H1 301 := (fRow f19.1.2.1 301 kR_220_301).trans ((uRowNe f17 301 (iS (show n5 = ((300 : Nat) : Int) from f10) rfl)).trans (fRow f16.1.2.1 301 kR_223_301))
  have e35 : hV H4 302 = hV H1 302 := (fRow f19.1.2.1 302 kR_220_302).trans ((uRowNe f17 302 (iS (show n5 = ((300 : Nat) : Int) from f10) rfl)).trans (fRow f16.1.2.1 302 kR_223_302))
  have e40 : hV H4 303 = hV H1 303 := (fRow f19.1.2.1 303 kR_220_303).trans ((uRowNe f17 303 (iS (show n5 = ((300 : Nat) : Int) from f10) rfl)).trans (fRow f16.1.2.1 303 kR_223_303))
  have e45 : hV H5 285 18 = hV H0 285 18 := ((f21.1.2.1.1 285 18 kF_229_285_18)).trans (((f19.1.2.1.1 285 18 kF_220_285_18)).trans (((uPlace f17 285 18 (iS (show n5 = ((300 : Nat) : Int) from f10) rfl))).trans (((f16.1.2.1.1 285 18 kF_223_285_18)).trans (f8.1.2.1.1 285 18 kF_227_285_18))))
  have e50 : hV H5 285 32 = hV H0 285 32 := ((f21.1.2.1.1 285 32 kF_229_285_32)).trans (((f19.1.2.1.1 285 32 kF_220_285_32)).trans (((uPlace f17 285 32 (iS (show n5 = ((300 : Nat) : Int) from f10) rfl))).trans (((f16.1.2.1.1 285 32 kF_223_285_32)).trans (f8.1.2.1.1 285 32 kF_227_285_32))))
  have e55 : hV H5 285 33 = hV H0 285 33 := ((f21.1.2.1.1 285 33 kF_229_285_33)).trans (((f19.1.2.1.1 285 33 kF_220_285_33)).trans (((uPlace f17 285 33 (iS (show n5 = ((300 : Nat) : Int) from f10) rfl))).trans (((f16.1.2.1.1 285 33 kF_223_285_33)).trans (f8.1.2.1.1 285 33 kF_227_285_33))))
  have e60 : hV H5 285 64 = hV H0 285 64 := ((f21.1.2.1.1 285 64 kF_229_285_64)).trans (((f19.1.2.1.1 285 64 kF_220_285_64)).trans (((uPlace f17 285 64 (iS (show n5 = ((300 : Nat) : Int) from f10) rfl))).trans (((f16.1.2.1.1 285 64 kF_223_285_64)).trans (f8.1.2.1.1 285 64 kF_227_285_64))))
  have e68 : hV H5 294 = hV H0 294 := (fRow f21.1.2.1 294 kR_229_294).trans ((fRow f19.1.2.1 294 kR_220_294).trans ((uRowNe f17 294 (iS (show n5 = ((300 : Nat) : Int) from f10) rfl)).trans ((fRow f16.1.2.1 294 kR_223_294).trans e8)))
  have e75 : hV H5 296 = hV H1 296 := (fRow f21.1.2.1 296 kR_229_296).trans ((fRow f19.1.2.1 296 kR_220_296).trans ((uRowNe f17 296 (iS (show n5 = ((300 : Nat) : Int) from f10) rfl)).trans (fRow f16.1.2.1 296 kR_223_296)))
  have e82 : hV H5 297 = hV H1 297 := (fRow f21.1.2.1 297 kR_229_297).trans ((fRow f19.1.2.1 297 kR_220_297).trans ((uRowNe f17 297 (iS (show n5 = ((300 : Nat) : Int) from f10) rfl)).trans (fRow f16.1.2.1 297 kR_223_297)))
  have e89 : hV H5 298 = hV H1 298 := (fRow f21.1.2.1 298 kR_229_298).trans ((fRow f19.1.2.1 298 kR_220_298).trans ((uRowNe f17 298 (iS (show n5 = ((300 : Nat) : Int) from f10) rfl)).trans (fRow f16.1.2.1 298 kR_223_298)))
  have e96 : hV H5 300 = (uF (hV H1 300) n1 n8) := (fRow f21.1.2.1 300 kR_229_300).trans ((fRow f19.1.2.1 300 kR_220_300).trans ((uRow f17 300 f10.symm).trans (congrArg (fun z => uF z n1 n8) (fRow f16.1.2.1 300 kR_223_300))))
  have e103 : hV H5 305 = hV H1 305 := (fRow f21.1.2.1 305 kR_229_305).trans ((fRow f19.1.2.1 305 kR_220_305).trans ((uRowNe f17 305 (iS (show n5 = ((300 : Nat) : Int) from f10) rfl)).trans (fRow f16.1.2.1 305 kR_223_305)))
  have e111 : hV H5 328 = hV H0 328 := (fRow f21.1.2.1 328 kR_229_328).trans ((fRow f19.1.2.1 328 kR_220_328).trans ((uRowNe f17 328 (iS (show n5 = ((300 : Nat) : Int) from f10) rfl)).trans ((fRow f16.1.2.1 328 kR_223_328).trans e9)))
  have e119 : hV H5 332 = hV H0 332 := (fRow f21.1.2.1 332 kR_229_332).trans ((fRow f19.1.2.1 332 kR_220_332).trans ((uRowNe f17 332 (iS (show n5 = ((300 : Nat) : Int) from f10) rfl)).trans ((fRow f16.1.2.1 332 kR_223_332).trans e10)))
  have e127 : hV H5 335 = hV H0 335 := (fRow f21.1.2.1 335 kR_229_335).trans ((fRow f19.1.2.1 335 kR_220_335).trans ((uRowNe f17 335 (iS (show n5 = ((300 : Nat) : Int) from f10) rfl)).trans ((fRow f16.1.2.1 335 kR_223_335).trans e11)))
  have e129 : hV H6 285 15 = hV H5 285 15 := (f23.1.2.1.1 285 15 kF_220_285_15)
  have e133 : hV H6 288 = hV H0 288 := (fRow f23.1.2.1 288 kR_220_288).trans ((fRow f21.1.2.1 288 kR_229_288).trans e25)
  have e134 : hV H6 301 = hV H5 301 := fRow f23.1.2.1 301 kR_220_301
  have e135 : hV H6 302 = hV H5 302 := fRow f23.1.2.1 302 kR_220_302
  have e136 : hV H6 303 = hV H5 303 := fRow f23.1.2.1 303 kR_220_303
  have e139 : hV H7 285 18 = hV H0 285 18 := ((f25.1.2.1.1 285 18 kF_229_285_18)).trans (((f23.1.2.1.1 285 18 kF_220_285_18)).trans (((f21.1.2.1.1 285 18 kF_229_285_18)).trans (((f19.1.2.1.1 285 18 kF_220_285_18)).trans (((uPlace f17 285 18 (iS (show n5 = ((300 : Nat) : Int) from f10) rfl))).trans (((f16.1.2.1.1 285 18 kF_223_285_18)).trans (f8.1.2.1.1 285 18 kF_227_285_18))))))
  have e142 : hV H7 285 32 = hV H0 285 32 := ((f25.1.2.1.1 285 32 kF_229_285_32)).trans (((f23.1.2.1.1 285 32 kF_220_285_32)).trans (((f21.1.2.1.1 285 32 kF_229_285_32)).trans (((f19.1.2.1.1 285 32 kF_220_285_32)).trans (((uPlace f17 285 32 (iS (show n5 = ((300 : Nat) : Int) from f10) rfl))).trans (((f16.1.2.1.1 285 32 kF_223_285_32)).trans (f8.1.2.1.1 285 32 kF_227_285_32))))))
  have e145 : hV H7 285 33 = hV H0 285 33 := ((f25.1.2.1.1 285 33 kF_229_285_33)).trans (((f23.1.2.1.1 285 33 kF_220_285_33)).trans (((f21.1.2.1.1 285 33 kF_229_285_33)).trans (((f19.1.2.1.1 285 33 kF_220_285_33)).trans (((uPlace f17 285 33 (iS (show n5 = ((300 : Nat) : Int) from f10) rfl))).trans (((f16.1.2.1.1 285 33 kF_223_285_33)).trans (f8.1.2.1.1 285 33 kF_227_285_33))))))
  have e148 : hV H7 285 64 = hV H0 285 64 := ((f25.1.2.1.1 285 64 kF_229_285_64)).trans (((f23.1.2.1.1 285 64 kF_220_285_64)).trans (((f21.1.2.1.1 285 64 kF_229_285_64)).trans (((f19.1.2.1.1 285 64 kF_220_285_64)).trans (((uPlace f17 285 64 (iS (show n5 = ((300 : Nat) : Int) from f10) rfl))).trans (((f16.1.2.1.1 285 64 kF_223_285_64)).trans (f8.1.2.1.1 285 64 kF_227_285_64))))))
  have e152 : hV H7 294 = hV H0 294 := (fRow f25.1.2.1 294 kR_229_294).trans ((fRow f23.1.2.1 294 kR_220_294).trans e68)
  have e156 : hV H7 296 = hV H1 296 := (fRow f25.1.2.1 296 kR_229_296).trans ((fRow f23.1.2.1 296 kR_220_296).trans e75)
  have e160 : hV H7 297 = hV H1 297 := (fRow f25.1.2.1 297 kR_229_297).trans ((fRow f23.1.2.1 297 kR_220_297).trans e82)
  have e164 : hV H7 298 = hV H1 298 := (fRow f25.1.2.1 298 kR_229_298).trans ((fRow f23.1.2.1 298 kR_220_298).trans e89)
  have e168 : hV H7 300 = (uF (hV H1 300) n1 n8) := (fRow f25.1.2.1 300 kR_229_300).trans ((fRow f23.1.2.1 300 kR_220_300).trans e96)
  have e172 : hV H7 305 = hV H1 305 := (fRow f25.1.2.1 305 kR_229_305).trans ((fRow f23.1.2.1 305 kR_220_305).trans e103)
  have e176 : hV H7 328 = hV H0 328 := (fRow f25.1.2.1 328 kR_229_328).trans ((fRow f23.1.2.1 328 kR_220_328).trans e111)
  have e180 : hV H7 332 = hV H0 332 := (fRow f25.1.2.1 332 kR_229_332).trans ((fRow f23.1.2.1 332 kR_220_332).trans e119)
  have e184 : hV H7 335 = hV H0 335 := (fRow f25.1.2.1 335 kR_229_335).trans ((fRow f23.1.2.1 335 kR_220_335).trans e127)
  have e185 : (0 : Int) ≤ hV H1 285 11 ∧ hV H1 285 11 ≤ 500 := f8.1.2.2 285 11 _ _ kW_285_11
  have e186 : (0 : Int) ≤ hV H1 285 13 ∧ hV H1 285 13 ≤ 2 := f8.1.2.2 285 13 _ _ kW_285_13
  have e187 : (0 : Int) ≤ hV H1 285 15 ∧ hV H1 285 15 ≤ 6 := f8.1.2.2 285 15 _ _ kW_285_15
  have e188 : (0 : Int) ≤ hV H0 285 18 ∧ hV H0 285 18 ≤ 8 := bTo e1 (f8.1.2.2 285 18 _ _ kW_285_18)
  have e189 : (0 : Int) ≤ hV H0 285 32 ∧ hV H0 285 32 ≤ 7 := bTo e3 (f8.1.2.2 285 32 _ _ kW_285_32)
  have e190 : (0 : Int) ≤ hV H0 285 33 ∧ hV H0 285 33 ≤ 62 := bTo e5 (f8.1.2.2 285 33 _ _ kW_285_33)
  have e191 : (0 : Int) ≤ hV H0 285 64 ∧ hV H0 285 64 ≤ 20 := bTo e7 (f8.1.2.2 285 64 _ _ kW_285_64)
  have e192 : (0 : Int) ≤ hV H2 285 11 ∧ hV H2 285 11 ≤ 500 := f16.1.2.2.2 285 11 _ _ kW_285_11
  have e193 : (0 : Int) ≤ hV H2 285 13 ∧ hV H2 285 13 ≤ 2 := f16.1.2.2.2 285 13 _ _ kW_285_13
  have e194 : (0 : Int) ≤ hV H2 285 15 ∧ hV H2 285 15 ≤ 6 := f16.1.2.2.2 285 15 _ _ kW_285_15
  have e195 : (0 : Int) ≤ hV H4 285 11 ∧ hV H4 285 11 ≤ 500 := f19.1.2.2.2 285 11 _ _ kW_285_11
  have e196 : (0 : Int) ≤ hV H4 285 13 ∧ hV H4 285 13 ≤ 2 := f19.1.2.2.2 285 13 _ _ kW_285_13
  have e198 : (0 : Int) ≤ hV H5 285 11 ∧ hV H5 285 11 ≤ 500 := f21.1.2.2.2 285 11 _ _ kW_285_11
  have e199 : (0 : Int) ≤ hV H5 285 13 ∧ hV H5 285 13 ≤ 2 := f21.1.2.2.2 285 13 _ _ kW_285_13
  have e200 : (0 : Int) ≤ hV H5 285 15 ∧ hV H5 285 15 ≤ 6 := f21.1.2.2.2 285 15 _ _ kW_285_15
  have e205 : (0 : Int) ≤ hV H6 285 11 ∧ hV H6 285 11 ≤ 500 := f23.1.2.2.2 285 11 _ _ kW_285_11
  have e206 : (0 : Int) ≤ hV H6 285 13 ∧ hV H6 285 13 ≤ 2 := f23.1.2.2.2 285 13 _ _ kW_285_13
  have e208 : (0 : Int) ≤ hV H7 285 11 ∧ hV H7 285 11 ≤ 500 := f25.1.2.2.2 285 11 _ _ kW_285_11
  have e209 : (0 : Int) ≤ hV H7 285 13 ∧ hV H7 285 13 ≤ 2 := f25.1.2.2.2 285 13 _ _ kW_285_13
  have e210 : (0 : Int) ≤ hV H7 285 15 ∧ hV H7 285 15 ≤ 6 := f25.1.2.2.2 285 15 _ _ kW_285_15
  try simp only [PA, PW]
  have y0 := g4.1
  have y1 := g4.2.1
  have y2 := g4.2.2.1
  have y3 := g4.2.2.2.1
  have y4 := g4.2.2.2.2.1
  have y5 := g4.2.2.2.2.2.1
  have y6 := g4.2.2.2.2.2.2.1
  have y7 := g4.2.2.2.2.2.2.2.1
  have y8 := g4.2.2.2.2.2.2.2.2.1
  have y9 := g4.2.2.2.2.2.2.2.2.2.1
  have y10 := g4.2.2.2.2.2.2.2.2.2.2.1
  have y11 := g4.2.2.2.2.2.2.2.2.2.2.2.1
  have y12 := g4.2.2.2.2.2.2.2.2.2.2.2.2.1
  have y13 := g4.2.2.2.2.2.2.2.2.2.2.2.2.2
  have p0 := g3.1
  have p1 := g3.2.1
  have p2 := g3.2.2.1
  have p3 := g3.2.2.2.1
  have p4 := g3.2.2.2.2.1
  have p5 := g3.2.2.2.2.2.1
  have p6 := g3.2.2.2.2.2.2
  have r0_0 := f16.2.1
  have r0_1 := f16.2.2.1
  have r0_2 := f16.2.2.2.1
  have r0_3 := f16.2.2.2.2.1
  have r0_4 := f16.2.2.2.2.2.1
  have r0_5 := f16.2.2.2.2.2.2.1
  have r0_6 := f16.2.2.2.2.2.2.2.1
  have r1_0 := f19.2.1
  have r1_1 := f19.2.2.1
  have r1_2 := f19.2.2.2.1
  have r1_3 := f19.2.2.2.2.1
  have r2_0 := f21.2.1
  have r2_1 := f21.2.2.1
  have r2_2 := f21.2.2.2.1
  have r2_3 := f21.2.2.2.2.1
  have r2_4 := f21.2.2.2.2.2.1
  have r2_5 := f21.2.2.2.2.2.2.1
  have r2_6 := f21.2.2.2.2.2.2.2.1
  have r2_7 := f21.2.2.2.2.2.2.2.2.1 f20
  have r3_0 := f23.2.1
  have r3_1 := f23.2.2.1
  have r3_2 := f23.2.2.2.1
  have r3_3 := f23.2.2.2.2.1
  have r4_0 := f25.2.1
  have r4_1 := f25.2.2.1
  have r4_2 := f25.2.2.2.1
  have r4_3 := f25.2.2.2.2.1
  have r4_4 := f25.2.2.2.2.2.1
  have r4_5 := f25.2.2.2.2.2.2.1
  have r4_6 := f25.2.2.2.2.2.2.2.1
  have r4_8 := f25.2.2.2.2.2.2.2.2.2 f24
  try simp only [PA] at y0
  try simp only [PW] at y1
  try simp only [PA] at p0
  try simp only [PW] at p5
  try simp only [PA] at r2_0
  try simp only [PW] at r2_1
  try simp only [PA] at r4_0
  try simp only [PW] at r4_1
  try simp only [e1, e7, e8, e9, e10, e11] at y0
  try simp only [e3, e5, e8] at y1
  try simp only [e5] at y8
  try simp only [e5] at y9
  try simp only [e16] at r1_0
  try simp only [e16] at r1_1
  try simp only [e18] at r1_2
  try simp only [e16] at r1_3
  try simp only [e45, e60, e68, e75, e89, e96, e103, e111, e119, e127] at r2_0
  try simp only [e50, e55, e68, e75, e82, e89, e96, e103] at r2_1
  try simp only [e21] at r2_5
  try simp only [e21] at r2_6
  try simp only [e21, e25, e30, e35, e40, e45, e50, e55, e60, e68, e75, e82, e89, e96, e103, e111, e119, e127] at r2_7
  try simp only [e139, e148, e152, e156, e164, e168, e172, e176, e180, e184] at r4_0
  try simp only [e142, e145, e152, e156, e160, e164, e168, e172] at r4_1
  try simp only [e129] at r4_5
  try simp only [e129] at r4_6
  try simp only [e129, e133, e134, e135, e136, e139, e142, e145, e148, e152, e156, e160, e164, e168, e172, e176, e180, e184] at r4_8
  clear g3
  clear g4
  have wb0 := (y2 (hV H0 285 32).toNat).1
  have wp0 := (y2 (hV H0 285 33).toNat).2
  try simp only [e1, e3, e5, e7, e8, e9, e10, e11] at wb0
  try simp only [e1, e3, e5, e7, e8, e9, e10, e11] at wp0
  clear f11 e1 e3 e5 e7 e8 e9 e10 e11 e16 e18 e21 e25 e30 e35 e40 e45 e50 e55 e60 e68 e75 e82 e89 e96 e103 e111 e119 e127 e129 e133 e134 e135 e136 e139 e142 e145 e148 e152 e156 e160 e164 e168 e172 e176 e180 e184
  clear f8 f16 f19 f21 f23 f25
  rw [f26] at f27
  first
  | (have ix0 : n14 = 6 * n1 := Eq.trans f27 (w32_iv (Iml 6 rfl (Iat f3 f2)) (by decide)); subst ix0; clear f27)
  | (have ix0 : n14 = 6 * n1 := Eq.trans f27 (w32_id (by omega) (by omega)); subst ix0; clear f27)
  | (unfold w32 at f27; have ix0 : n14 = 6 * n1 := (by omega); subst ix0)
  | skip
  try unfold w32 at f27

  (try clear y0 y1 y2 p0 p5 p6 r2_0 r2_1 r4_0 r4_1)
  omega
def g_227_180_14 : vG := ([(3, [16, 15, 3], [], 0), (0, [15], [], 6), (1229, [1, 3, 12], [6, 7], 0), (0, [12], [], 1), (1220, [1, 11], [5, 6], 0), (0, [11], [], 32), (1229, [1, 3, 10], [4, 5], 0), (0, [10], [], 0), (1220, [1, 9], [3, 4], 0), (0, [9], [], 26), (80, [5, 3, 8], [3, 2], 0), (1223, [8, 1, 6, 7], [1, 2], 0), (90, [8], [], 0), (91, [8], [], 9999), (0, [7], [], 2), (0, [6], [], 0), (20, [5, 1], [1], 26), (0, [5], [], 300), (0, [2], [], 1), (5000, [0, 1, 2, 3, 4], [0, 1], 180), (0, [0], [], 285), (0, [1], [], 285), (90, [2], [], 0), (91, [2], [], 5), (90, [3], [], 0), (91, [3], [], 1007), (90, [4], [], 1), (91, [4], [], 1)], (70, [16], [], 6048))
theorem c_227_180_14 {q0 : Nat} : vOkm T0 (eP e_227 L_227 A_227 mu_227 (some q0)) 1 g_227_180_14 := vOk_inI fun ρ η f0 f1 f2 f3 f4 f5 f6 f7 f8 f9 f10 f11 f12 f13 f14 f15 f16 f17 f18 f19 f20 f21 f22 f23 f24 f25 f26 f27 => q_227_35 (q0 := q0) (n0 := ρ 4) (n1 := ρ 3) (n2 := ρ 2) (n3 := ρ 1) (n4 := ρ 0) (n5 := ρ 5) (n6 := ρ 6) (n7 := ρ 7) (n8 := ρ 8) (n9 := ρ 9) (n10 := ρ 10) (n11 := ρ 11) (n12 := ρ 12) (n13 := ρ 15) (n14 := ρ 16) (H0 := η 0) (H1 := η 1) (H2 := η 2) (H3 := η 3) (H4 := η 4) (H5 := η 5) (H6 := η 6) (H7 := η 7) f27 f26 f25 f24 f23 f22 f21 f20 f19 f18 f17 f16 f15 f14 f13 f12 f11 f10 f9 f8 f7 f6 f5 f4 f3 f2 f1 f0
set_option maxHeartbeats 20000000 in
theorem q_227_36 {q0 : Nat} {n0 n1 n2 n3 n4 n5 n6 n7 n8 n9 n10 n11 n12 n13 n14 n15 n16 n17 n18 : Int} {H0 H1 H2 H3 H4 H5 H6 H7 : gH} (f0 : n0 ≤ 1) (f1 : 1 ≤ n0) (f2 : n1 ≤ 1007) (f3 : 0 ≤ n1) (f4 : n2 ≤ 5) (f5 : 0 ≤ n2) (f6 : n3 = 285) (f7 : n4 = 285) (f8 : (hLe T0 H0 H1 ∧ hFr s_227.2.2.2.2 H0 H1 ∧ hWt T0 H1) ∧ (Ab_227_180 n4 n3 n2 n1 n0 H0 H1 ∧ preb_227 n4 H0) ∧ some q0 = some (mub_227_180 n4 n3 n2 n1 n0 H0 H1)) (f9 : n2 = 1) (f10 : n5 = 300) (f11 : n5 = hV H1 (n3).toNat 26) (f12 : n6 = 0) (f13 : n7 = 2) (f14 : n8 ≤ 9999) (f15 : 0 ≤ n8) (f16 : (hLe T0 H1 H2 ∧ hFr s_223.2.2.2.2 H1 H2 ∧ ((0 : Int) = 0 → H2.length = H1.length) ∧ hWt T0 H2) ∧ postb_223 n8 n3 n6 n7 H1 H2) (f17 : hUpd H3 H2 n5 n1 n8) (f18 : n9 = 26) (f19 : (hLe T0 H3 H4 ∧ hFr s_220.2.2.2.2 H3 H4 ∧ ((0 : Int) = 0 → H4.length = H3.length) ∧ hWt T0 H4) ∧ postb_220 n3 n9 H3 H4) (f20 : n10 = 0) (f21 : (hLe T0 H4 H5 ∧ hFr s_229.2.2.2.2 H4 H5 ∧ ((0 : Int) = 0 → H5.length = H4.length) ∧ hWt T0 H5) ∧ postb_229 n3 n1 n10 H4 H5) (f22 : n11 = 32) (f23 : (hLe T0 H5 H6 ∧ hFr s_220.2.2.2.2 H5 H6 ∧ ((0 : Int) = 0 → H6.length = H5.length) ∧ hWt T0 H6) ∧ postb_220 n3 n11 H5 H6) (f24 : n12 = 1) (f25 : (hLe T0 H6 H7 ∧ hFr s_229.2.2.2.2 H6 H7 ∧ ((0 : Int) = 0 → H7.length = H6.length) ∧ hWt T0 H7) ∧ postb_229 n3 n1 n12 H6 H7) (f26 : n13 = 6) (f27 : n14 = w32 (n13 * n1)) (f28 : n15 = 6) (f29 : n16 = w32 (n15 * n1)) (f30 : n17 = 1) (f31 : n18 = w32 (n16 + n17)) : 0 ≤ n18 ∧ n18 < 6048 := by
  have g4 := f8.2.1.1
  unfold Ab_227_180 at g4
  have g3 := f8.2.1.2
  unfold preb_227 at g3
  unfold postb_223 at f16
  unfold postb_220 at f19
  unfold postb_229 at f21
  unfold postb_220 at f23
  unfold postb_229 at f25
  have e1 : hV H1 285 18 = hV H0 285 18 := (f8.1.2.1.1 285 18 kF_227_285_18)
  have e3 : hV H1 285 32 = hV H0 285 32 := (f8.1.2.1.1 285 32 kF_227_285_32)
  have e5 : hV H1 285 33 = hV H0 285 33 := (f8.1.2.1.1 285 33 kF_227_285_33)
  have e7 : hV H1 285 64 = hV H0 285 64 := (f8.1.2.1.1 285 64 kF_227_285_64)
  have e8 : hV H1 294 = hV H0 294 := fRow f8.1.2.1 294 kR_227_294
  have e9 : hV H1 328 = hV H0 328 := fRow f8.1.2.1 328 kR_227_328
  have e10 : hV H1 332 = hV H0 332 := fRow f8.1.2.1 332 kR_227_332
  have e11 : hV H1 335 = hV H0 335 := fRow f8.1.2.1 335 kR_227_335
  have e16 : hV H3 285 11 = hV H2 285 11 := (uPlace f17 285 11 (iS (show n5 = ((300 : Nat) : Int) from f10) rfl))
  have e18 : hV H3 285 13 = hV H2 285 13 := (uPlace f17 285 13 (iS (show n5 = ((300 : Nat) : Int) from f10) rfl))
  have e21 : hV H4 285 15 = hV H2 285 15 := ((f19.1.2.1.1 285 15 kF_220_285_15)).trans (uPlace f17 285 15 (iS (show n5 = ((300 : Nat) : Int) from f10) rfl))
  have e25 : hV H4 288 = hV H0 288 := (fRow f19.1.2.1 288 kR_220_288).trans ((uRowNe f17 288 (iS (show n5 = ((300 : Nat) : Int) from f10) rfl)).trans ((fRow f16.1.2.1 288 kR_223_288).trans (fRow f8.1.2.1 288 kR_227_288)))
  have e30 : hV H4 301 = hV H1 301 := (fRow f19.1.2.1 301 kR_220_301).trans ((uRowNe f17 301 (iS (show n5 = ((300 : Nat) : Int) from f10) rfl)).trans (fRow f16.1.2.1 301 kR_223_301))
  have e35 : hV H4 302 = hV H1 302 := (fRow f19.1.2.1 302 kR_220_302).trans ((uRowNe f17 302 (iS (show n5 = ((300 : Nat) : Int) from f10) rfl)).trans (fRow f16.1.2.1 302 kR_223_302))
  have e40 : hV H4 303 = hV H1 303 := (fRow f19.1.2.1 303 kR_220_303).trans ((uRowNe f17 303 (iS (show n5 = ((300 : Nat) : Int) from f10) rfl)).trans (fRow f16.1.2.1 303 kR_223_303))
  have e45 : hV H5 285 18 = hV H0 285 18 := ((f21.1.2.1.1 285 18 kF_229_285_18)).trans (((f19.1.2.1.1 285 18 kF_220_285_18)).trans (((uPlace f17 285 18 (iS (show n5 = ((300 : Nat) : Int) from f10) rfl))).trans (((f16.1.2.1.1 285 18 kF_223_285_18)).trans (f8.1.2.1.1 285 18 kF_227_285_18))))
  have e50 : hV H5 285 32 = hV H0 285 32 := ((f21.1.2.1.1 285 32 kF_229_285_32)).trans (((f19.1.2.1.1 285 32 kF_220_285_32)).trans (((uPlace f17 285 32 (iS (show n5 = ((300 : Nat) : Int) from f10) rfl))).trans (((f16.1.2.1.1 285 32 kF_223_285_32)).trans (f8.1.2.1.1 285 32 kF_227_285_32))))
  have e55 : hV H5 285 33 = hV H0 285 33 := ((f21.1.2.1.1 285 33 kF_229_285_33)).trans (((f19.1.2.1.1 285 33 kF_220_285_33)).trans (((uPlace f17 285 33 (iS (show n5 = ((300 : Nat) : Int) from f10) rfl))).trans (((f16.1.2.1.1 285 33 kF_223_285_33)).trans (f8.1.2.1.1 285 33 kF_227_285_33))))
  have e60 : hV H5 285 64 = hV H0 285 64 := ((f21.1.2.1.1 285 64 kF_229_285_64)).trans (((f19.1.2.1.1 285 64 kF_220_285_64)).trans (((uPlace f17 285 64 (iS (show n5 = ((300 : Nat) : Int) from f10) rfl))).trans (((f16.1.2.1.1 285 64 kF_223_285_64)).trans (f8.1.2.1.1 285 64 kF_227_285_64))))
  have e68 : hV H5 294 = hV H0 294 := (fRow f21.1.2.1 294 kR_229_294).trans ((fRow f19.1.2.1 294 kR_220_294).trans ((uRowNe f17 294 (iS (show n5 = ((300 : Nat) : Int) from f10) rfl)).trans ((fRow f16.1.2.1 294 kR_223_294).trans e8)))
  have e75 : hV H5 296 = hV H1 296 := (fRow f21.1.2.1 296 kR_229_296).trans ((fRow f19.1.2.1 296 kR_220_296).trans ((uRowNe f17 296 (iS (show n5 = ((300 : Nat) : Int) from f10) rfl)).trans (fRow f16.1.2.1 296 kR_223_296)))
  have e82 : hV H5 297 = hV H1 297 := (fRow f21.1.2.1 297 kR_229_297).trans ((fRow f19.1.2.1 297 kR_220_297).trans ((uRowNe f17 297 (iS (show n5 = ((300 : Nat) : Int) from f10) rfl)).trans (fRow f16.1.2.1 297 kR_223_297)))
  have e89 : hV H5 298 = hV H1 298 := (fRow f21.1.2.1 298 kR_229_298).trans ((fRow f19.1.2.1 298 kR_220_298).trans ((uRowNe f17 298 (iS (show n5 = ((300 : Nat) : Int) from f10) rfl)).trans (fRow f16.1.2.1 298 kR_223_298)))
  have e96 : hV H5 300 = (uF (hV H1 300) n1 n8) := (fRow f21.1.2.1 300 kR_229_300).trans ((fRow f19.1.2.1 300 kR_220_300).trans ((uRow f17 300 f10.symm).trans (congrArg (fun z => uF z n1 n8) (fRow f16.1.2.1 300 kR_223_300))))
  have e103 : hV H5 305 = hV H1 305 := (fRow f21.1.2.1 305 kR_229_305).trans ((fRow f19.1.2.1 305 kR_220_305).trans ((uRowNe f17 305 (iS (show n5 = ((300 : Nat) : Int) from f10) rfl)).trans (fRow f16.1.2.1 305 kR_223_305)))
  have e111 : hV H5 328 = hV H0 328 := (fRow f21.1.2.1 328 kR_229_328).trans ((fRow f19.1.2.1 328 kR_220_328).trans ((uRowNe f17 328 (iS (show n5 = ((300 : Nat) : Int) from f10) rfl)).trans ((fRow f16.1.2.1 328 kR_223_328).trans e9)))
  have e119 : hV H5 332 = hV H0 332 := (fRow f21.1.2.1 332 kR_229_332).trans ((fRow f19.1.2.1 332 kR_220_332).trans ((uRowNe f17 332 (iS (show n5 = ((300 : Nat) : Int) from f10) rfl)).trans ((fRow f16.1.2.1 332 kR_223_332).trans e10)))
  have e127 : hV H5 335 = hV H0 335 := (fRow f21.1.2.1 335 kR_229_335).trans ((fRow f19.1.2.1 335 kR_220_335).trans ((uRowNe f17 335 (iS (show n5 = ((300 : Nat) : Int) from f10) rfl)).trans ((fRow f16.1.2.1 335 kR_223_335).trans e11)))
  have e129 : hV H6 285 15 = hV H5 285 15 := (f23.1.2.1.1 285 15 kF_220_285_15)
  have e133 : hV H6 288 = hV H0 288 := (fRow f23.1.2.1 288 kR_220_288).trans ((fRow f21.1.2.1 288 kR_229_288).trans e25)
  have e134 : hV H6 301 = hV H5 301 := fRow f23.1.2.1 301 kR_220_301
  have e135 : hV H6 302 = hV H5 302 := fRow f23.1.2.1 302 kR_220_302
  have e136 : hV H6 303 = hV H5 303 := fRow f23.1.2.1 303 kR_220_303
  have e139 : hV H7 285 18 = hV H0 285 18 := ((f25.1.2.1.1 285 18 kF_229_285_18)).trans (((f23.1.2.1.1 285 18 kF_220_285_18)).trans (((f21.1.2.1.1 285 18 kF_229_285_18)).trans (((f19.1.2.1.1 285 18 kF_220_285_18)).trans (((uPlace f17 285 18 (iS (show n5 = ((300 : Nat) : Int) from f10) rfl))).trans (((f16.1.2.1.1 285 18 kF_223_285_18)).trans (f8.1.2.1.1 285 18 kF_227_285_18))))))
  have e142 : hV H7 285 32 = hV H0 285 32 := ((f25.1.2.1.1 285 32 kF_229_285_32)).trans (((f23.1.2.1.1 285 32 kF_220_285_32)).trans (((f21.1.2.1.1 285 32 kF_229_285_32)).trans (((f19.1.2.1.1 285 32 kF_220_285_32)).trans (((uPlace f17 285 32 (iS (show n5 = ((300 : Nat) : Int) from f10) rfl))).trans (((f16.1.2.1.1 285 32 kF_223_285_32)).trans (f8.1.2.1.1 285 32 kF_227_285_32))))))
  have e145 : hV H7 285 33 = hV H0 285 33 := ((f25.1.2.1.1 285 33 kF_229_285_33)).trans (((f23.1.2.1.1 285 33 kF_220_285_33)).trans (((f21.1.2.1.1 285 33 kF_229_285_33)).trans (((f19.1.2.1.1 285 33 kF_220_285_33)).trans (((uPlace f17 285 33 (iS (show n5 = ((300 : Nat) : Int) from f10) rfl))).trans (((f16.1.2.1.1 285 33 kF_223_285_33)).trans (f8.1.2.1.1 285 33 kF_227_285_33))))))
  have e148 : hV H7 285 64 = hV H0 285 64 := ((f25.1.2.1.1 285 64 kF_229_285_64)).trans (((f23.1.2.1.1 285 64 kF_220_285_64)).trans (((f21.1.2.1.1 285 64 kF_229_285_64)).trans (((f19.1.2.1.1 285 64 kF_220_285_64)).trans (((uPlace f17 285 64 (iS (show n5 = ((300 : Nat) : Int) from f10) rfl))).trans (((f16.1.2.1.1 285 64 kF_223_285_64)).trans (f8.1.2.1.1 285 64 kF_227_285_64))))))
  have e152 : hV H7 294 = hV H0 294 := (fRow f25.1.2.1 294 kR_229_294).trans ((fRow f23.1.2.1 294 kR_220_294).trans e68)
  have e156 : hV H7 296 = hV H1 296 := (fRow f25.1.2.1 296 kR_229_296).trans ((fRow f23.1.2.1 296 kR_220_296).trans e75)
  have e160 : hV H7 297 = hV H1 297 := (fRow f25.1.2.1 297 kR_229_297).trans ((fRow f23.1.2.1 297 kR_220_297).trans e82)
  have e164 : hV H7 298 = hV H1 298 := (fRow f25.1.2.1 298 kR_229_298).trans ((fRow f23.1.2.1 298 kR_220_298).trans e89)
  have e168 : hV H7 300 = (uF (hV H1 300) n1 n8) := (fRow f25.1.2.1 300 kR_229_300).trans ((fRow f23.1.2.1 300 kR_220_300).trans e96)
  have e172 : hV H7 305 = hV H1 305 := (fRow f25.1.2.1 305 kR_229_305).trans ((fRow f23.1.2.1 305 kR_220_305).trans e103)
  have e176 : hV H7 328 = hV H0 328 := (fRow f25.1.2.1 328 kR_229_328).trans ((fRow f23.1.2.1 328 kR_220_328).trans e111)
  have e180 : hV H7 332 = hV H0 332 := (fRow f25.1.2.1 332 kR_229_332).trans ((fRow f23.1.2.1 332 kR_220_332).trans e119)
  have e184 : hV H7 335 = hV H0 335 := (fRow f25.1.2.1 335 kR_229_335).trans ((fRow f23.1.2.1 335 kR_220_335).trans e127)
  have e185 : (0 : Int) ≤ hV H1 285 11 ∧ hV H1 285 11 ≤ 500 := f8.1.2.2 285 11 _ _ kW_285_11
  have e186 : (0 : Int) ≤ hV H1 285 13 ∧ hV H1 285 13 ≤ 2 := f8.1.2.2 285 13 _ _ kW_285_13
  have e187 : (0 : Int) ≤ hV H1 285 15 ∧ hV H1 285 15 ≤ 6 := f8.1.2.2 285 15 _ _ kW_285_15
  have e188 : (0 : Int) ≤ hV H0 285 18 ∧ hV H0 285 18 ≤ 8 := bTo e1 (f8.1.2.2 285 18 _ _ kW_285_18)
  have e189 : (0 : Int) ≤ hV H0 285 32 ∧ hV H0 285 32 ≤ 7 := bTo e3 (f8.1.2.2 285 32 _ _ kW_285_32)
  have e190 : (0 : Int) ≤ hV H0 285 33 ∧ hV H0 285 33 ≤ 62 := bTo e5 (f8.1.2.2 285 33 _ _ kW_285_33)
  have e191 : (0 : Int) ≤ hV H0 285 64 ∧ hV H0 285 64 ≤ 20 := bTo e7 (f8.1.2.2 285 64 _ _ kW_285_64)
  have e192 : (0 : Int) ≤ hV H2 285 11 ∧ hV H2 285 11 ≤ 500 := f16.1.2.2.2 285 11 _ _ kW_285_11
  have e193 : (0 : Int) ≤ hV H2 285 13 ∧ hV H2 285 13 ≤ 2 := f16.1.2.2.2 285 13 _ _ kW_285_13
  have e194 : (0 : Int) ≤ hV H2 285 15 ∧ hV H2 285 15 ≤ 6 := f16.1.2.2.2 285 15 _ _ kW_285_15
  have e195 : (0 : Int) ≤ hV H4 285 11 ∧ hV H4 285 11 ≤ 500 := f19.1.2.2.2 285 11 _ _ kW_285_11
  have e196 : (0 : Int) ≤ hV H4 285 13 ∧ hV H4 285 13 ≤ 2 := f19.1.2.2.2 285 13 _ _ kW_285_13
  have e198 : (0 : Int) ≤ hV H5 285 11 ∧ hV H5 285 11 ≤ 500 := f21.1.2.2.2 285 11 _ _ kW_285_11
  have e199 : (0 : Int) ≤ hV H5 285 13 ∧ hV H5 285 13 ≤ 2 := f21.1.2.2.2 285 13 _ _ kW_285_13
  have e200 : (0 : Int) ≤ hV H5 285 15 ∧ hV H5 285 15 ≤ 6 := f21.1.2.2.2 285 15 _ _ kW_285_15
  have e205 : (0 : Int) ≤ hV H6 285 11 ∧ hV H6 285 11 ≤ 500 := f23.1.2.2.2 285 11 _ _ kW_285_11
  have e206 : (0 : Int) ≤ hV H6 285 13 ∧ hV H6 285 13 ≤ 2 := f23.1.2.2.2 285 13 _ _ kW_285_13
  have e208 : (0 : Int) ≤ hV H7 285 11 ∧ hV H7 285 11 ≤ 500 := f25.1.2.2.2 285 11 _ _ kW_285_11
  have e209 : (0 : Int) ≤ hV H7 285 13 ∧ hV H7 285 13 ≤ 2 := f25.1.2.2.2 285 13 _ _ kW_285_13
  have e210 : (0 : Int) ≤ hV H7 285 15 ∧ hV H7 285 15 ≤ 6 := f25.1.2.2.2 285 15 _ _ kW_285_15
  try simp only [PA, PW]
  have y0 := g4.1
  have y1 := g4.2.1
  have y2 := g4.2.2.1
  have y3 := g4.2.2.2.1
  have y4 := g4.2.2.2.2.1
  have y5 := g4.2.2.2.2.2.1
  have y6 := g4.2.2.2.2.2.2.1
  have y7 := g4.2.2.2.2.2.2.2.1
  have y8 := g4.2.2.2.2.2.2.2.2.1
  have y9 := g4.2.2.2.2.2.2.2.2.2.1
  have y10 := g4.2.2.2.2.2.2.2.2.2.2.1
  have y11 := g4.2.2.2.2.2.2.2.2.2.2.2.1
  have y12 := g4.2.2.2.2.2.2.2.2.2.2.2.2.1
  have y13 := g4.2.2.2.2.2.2.2.2.2.2.2.2.2
  have p0 := g3.1
  have p1 := g3.2.1
  have p2 := g3.2.2.1
  have p3 := g3.2.2.2.1
  have p4 := g3.2.2.2.2.1
  have p5 := g3.2.2.2.2.2.1
  have p6 := g3.2.2.2.2.2.2
  have r0_0 := f16.2.1
  have r0_1 := f16.2.2.1
  have r0_2 := f16.2.2.2.1
  have r0_3 := f16.2.2.2.2.1
  have r0_4 := f16.2.2.2.2.2.1
  have r0_5 := f16.2.2.2.2.2.2.1
  have r0_6 := f16.2.2.2.2.2.2.2.1
  have r1_0 := f19.2.1
  have r1_1 := f19.2.2.1
  have r1_2 := f19.2.2.2.1
  have r1_3 := f19.2.2.2.2.1
  have r2_0 := f21.2.1
  have r2_1 := f21.2.2.1
  have r2_2 := f21.2.2.2.1
  have r2_3 := f21.2.2.2.2.1
  have r2_4 := f21.2.2.2.2.2.1
  have r2_5 := f21.2.2.2.2.2.2.1
  have r2_6 := f21.2.2.2.2.2.2.2.1
  have r2_7 := f21.2.2.2.2.2.2.2.2.1 f20
  have r3_0 := f23.2.1
  have r3_1 := f23.2.2.1
  have r3_2 := f23.2.2.2.1
  have r3_3 := f23.2.2.2.2.1
  have r4_0 := f25.2.1
  have r4_1 := f25.2.2.1
  have r4_2 := f25.2.2.2.1
  have r4_3 := f25.2.2.2.2.1
  have r4_4 := f25.2.2.2.2.2.1
  have r4_5 := f25.2.2.2.2.2.2.1
  have r4_6 := f25.2.2.2.2.2.2.2.1
  have r4_8 := f25.2.2.2.2.2.2.2.2.2 f24
  try simp only [PA] at y0
  try simp only [PW] at y1
  try simp only [PA] at p0
  try simp only [PW] at p5
  try simp only [PA] at r2_0
  try simp only [PW] at r2_1
  try simp only [PA] at r4_0
  try simp only [PW] at r4_1
  try simp only [e1, e7, e8, e9, e10, e11] at y0
  try simp only [e3, e5, e8] at y1
  try simp only [e5] at y8
  try simp only [e5] at y9
  try simp only [e16] at r1_0
  try simp only [e16] at r1_1
  try simp only [e18] at r1_2
  try simp only [e16] at r1_3
  try simp only [e45, e60, e68, e75, e89, e96, e103, e111, e119, e127] at r2_0
  try simp only [e50, e55, e68, e75, e82, e89, e96, e103] at r2_1
  try simp only [e21] at r2_5
  try simp only [e21] at r2_6
  try simp only [e21, e25, e30, e35, e40, e45, e50, e55, e60, e68, e75, e82, e89, e96, e103, e111, e119, e127] at r2_7
  try simp only [e139, e148, e152, e156, e164, e168, e172, e176, e180, e184] at r4_0
  try simp only [e142, e145, e152, e156, e160, e164, e168, e172] at r4_1
  try simp only [e129] at r4_5
  try simp only [e129] at r4_6
  try simp only [e129, e133, e134, e135, e136, e139, e142, e145, e148, e152, e156, e160, e164, e168, e172, e176, e180, e184] at r4_8
  clear g3
  clear g4
  have wb0 := (y2 (hV H0 285 32).toNat).1
  have wp0 := (y2 (hV H0 285 33).toNat).2
  try simp only [e1, e3, e5, e7, e8, e9, e10, e11] at wb0
  try simp only [e1, e3, e5, e7, e8, e9, e10, e11] at wp0
  clear f11 e1 e3 e5 e7 e8 e9 e10 e11 e16 e18 e21 e25 e30 e35 e40 e45 e50 e55 e60 e68 e75 e82 e89 e96 e103 e111 e119 e127 e129 e133 e134 e135 e136 e139 e142 e145 e148 e152 e156 e160 e164 e168 e172 e176 e180 e184
  clear f8 f16 f19 f21 f23 f25
  rw [f26] at f27
  rw [f28] at f29
  first
  | (have ix0 : n16 = 6 * n1 := Eq.trans f29 (w32_iv (Iml 6 rfl (Iat f3 f2)) (by decide)); subst ix0; clear f29)
  | (have ix0 : n16 = 6 * n1 := Eq.trans f29 (w32_id (by omega) (by omega)); subst ix0; clear f29)
  | (unfold w32 at f29; have ix0 : n16 = 6 * n1 := (by omega); subst ix0)
  | skip
  first
  | (have ix1 : n18 = (6 * n1) + 1 := Eq.trans f31 (w32_iv (Iad (Iml 6 rfl (Iat f3 f2)) (IC 1)) (by decide)); subst ix1; clear f31)
  | (have ix1 : n18 = (6 * n1) + 1 := Eq.trans f31 (w32_id (by omega) (by omega)); subst ix1; clear f31)
  | (unfold w32 at f31; have ix1 : n18 = (6 * n1) + 1 := (by omega); subst ix1)
  | skip
  try unfold w32 at f27
  try unfold w32 at f29
  try unfold w32 at f31

  (try clear y0 y1 y2 p0 p5 p6 r2_0 r2_1 r4_0 r4_1)
  omega
def g_227_180_15 : vG := ([(1, [25, 23, 24], [], 0), (0, [24], [], 1), (3, [23, 22, 3], [], 0), (0, [22], [], 6), (3, [16, 15, 3], [], 0), (0, [15], [], 6), (1229, [1, 3, 12], [6, 7], 0), (0, [12], [], 1), (1220, [1, 11], [5, 6], 0), (0, [11], [], 32), (1229, [1, 3, 10], [4, 5], 0), (0, [10], [], 0), (1220, [1, 9], [3, 4], 0), (0, [9], [], 26), (80, [5, 3, 8], [3, 2], 0), (1223, [8, 1, 6, 7], [1, 2], 0), (90, [8], [], 0), (91, [8], [], 9999), (0, [7], [], 2), (0, [6], [], 0), (20, [5, 1], [1], 26), (0, [5], [], 300), (0, [2], [], 1), (5000, [0, 1, 2, 3, 4], [0, 1], 180), (0, [0], [], 285), (0, [1], [], 285), (90, [2], [], 0), (91, [2], [], 5), (90, [3], [], 0), (91, [3], [], 1007), (90, [4], [], 1), (91, [4], [], 1)], (70, [25], [], 6048))
theorem c_227_180_15 {q0 : Nat} : vOkm T0 (eP e_227 L_227 A_227 mu_227 (some q0)) 1 g_227_180_15 := vOk_inI fun ρ η f0 f1 f2 f3 f4 f5 f6 f7 f8 f9 f10 f11 f12 f13 f14 f15 f16 f17 f18 f19 f20 f21 f22 f23 f24 f25 f26 f27 f28 f29 f30 f31 => q_227_36 (q0 := q0) (n0 := ρ 4) (n1 := ρ 3) (n2 := ρ 2) (n3 := ρ 1) (n4 := ρ 0) (n5 := ρ 5) (n6 := ρ 6) (n7 := ρ 7) (n8 := ρ 8) (n9 := ρ 9) (n10 := ρ 10) (n11 := ρ 11) (n12 := ρ 12) (n13 := ρ 15) (n14 := ρ 16) (n15 := ρ 22) (n16 := ρ 23) (n17 := ρ 24) (n18 := ρ 25) (H0 := η 0) (H1 := η 1) (H2 := η 2) (H3 := η 3) (H4 := η 4) (H5 := η 5) (H6 := η 6) (H7 := η 7) f31 f30 f29 f28 f27 f26 f25 f24 f23 f22 f21 f20 f19 f18 f17 f16 f15 f14 f13 f12 f11 f10 f9 f8 f7 f6 f5 f4 f3 f2 f1 f0
set_option maxHeartbeats 20000000 in
theorem q_227_37 {q0 : Nat} {n0 n1 n2 n3 n4 n5 n6 n7 n8 n9 n10 n11 n12 n13 n14 n15 n16 n17 n18 n19 n20 n21 n22 n23 n24 n25 n26 n27 n28 : Int} {H0 H1 H2 H3 H4 H5 H6 H7 H8 H9 H10 H11 H12 H13 : gH} (f0 : n0 ≤ 1) (f1 : 1 ≤ n0) (f2 : n1 ≤ 1007) (f3 : 0 ≤ n1) (f4 : n2 ≤ 5) (f5 : 0 ≤ n2) (f6 : n3 = 285) (f7 : n4 = 285) (f8 : (hLe T0 H0 H1 ∧ hFr s_227.2.2.2.2 H0 H1 ∧ hWt T0 H1) ∧ (Ab_227_180 n4 n3 n2 n1 n0 H0 H1 ∧ preb_227 n4 H0) ∧ some q0 = some (mub_227_180 n4 n3 n2 n1 n0 H0 H1)) (f9 : n2 = 1) (f10 : n5 = 300) (f11 : n5 = hV H1 (n3).toNat 26) (f12 : n6 = 0) (f13 : n7 = 2) (f14 : n8 ≤ 9999) (f15 : 0 ≤ n8) (f16 : (hLe T0 H1 H2 ∧ hFr s_223.2.2.2.2 H1 H2 ∧ ((0 : Int) = 0 → H2.length = H1.length) ∧ hWt T0 H2) ∧ postb_223 n8 n3 n6 n7 H1 H2) (f17 : hUpd H3 H2 n5 n1 n8) (f18 : n9 = 26) (f19 : (hLe T0 H3 H4 ∧ hFr s_220.2.2.2.2 H3 H4 ∧ ((0 : Int) = 0 → H4.length = H3.length) ∧ hWt T0 H4) ∧ postb_220 n3 n9 H3 H4) (f20 : n10 = 0) (f21 : (hLe T0 H4 H5 ∧ hFr s_229.2.2.2.2 H4 H5 ∧ ((0 : Int) = 0 → H5.length = H4.length) ∧ hWt T0 H5) ∧ postb_229 n3 n1 n10 H4 H5) (f22 : n11 = 32) (f23 : (hLe T0 H5 H6 ∧ hFr s_220.2.2.2.2 H5 H6 ∧ ((0 : Int) = 0 → H6.length = H5.length) ∧ hWt T0 H6) ∧ postb_220 n3 n11 H5 H6) (f24 : n12 = 1) (f25 : (hLe T0 H6 H7 ∧ hFr s_229.2.2.2.2 H6 H7 ∧ ((0 : Int) = 0 → H7.length = H6.length) ∧ hWt T0 H7) ∧ postb_229 n3 n1 n12 H6 H7) (f26 : n13 = 28) (f27 : (hLe T0 H7 H8 ∧ hFr s_220.2.2.2.2 H7 H8 ∧ ((0 : Int) = 0 → H8.length = H7.length) ∧ hWt T0 H8) ∧ postb_220 n3 n13 H7 H8) (f28 : n14 = 305) (f29 : n14 = hV H8 (n3).toNat 31) (f30 : n15 = 6) (f31 : n16 = w32 (n15 * n1)) (f32 : n17 = 0) (f33 : n18 = 400) (f34 : n19 ≤ 9999) (f35 : 0 ≤ n19) (f36 : (hLe T0 H8 H9 ∧ hFr s_223.2.2.2.2 H8 H9 ∧ ((0 : Int) = 0 → H9.length = H8.length) ∧ hWt T0 H9) ∧ postb_223 n19 n3 n17 n18 H8 H9) (f37 : hUpd H10 H9 n14 n16 n19) (f38 : n20 = 5) (f39 : (hLe T0 H10 H11 ∧ hFr s_220.2.2.2.2 H10 H11 ∧ ((0 : Int) = 0 → H11.length = H10.length) ∧ hWt T0 H11) ∧ postb_220 n3 n20 H10 H11) (f40 : n21 = 305) (f41 : n21 = hV H11 (n3).toNat 31) (f42 : n22 = 6) (f43 : n23 = w32 (n22 * n1)) (f44 : n24 = 1) (f45 : n25 = w32 (n23 + n24)) (f46 : n26 = 0) (f47 : n27 = 400) (f48 : n28 ≤ 9999) (f49 : 0 ≤ n28) (f50 : (hLe T0 H11 H12 ∧ hFr s_223.2.2.2.2 H11 H12 ∧ ((0 : Int) = 0 → H12.length = H11.length) ∧ hWt T0 H12) ∧ postb_223 n28 n3 n26 n27 H11 H12) (f51 : hUpd H13 H12 n21 n25 n28) : Ab_227_567 n4 n3 n2 n1 n0 H0 H13 ∧ ∀ q, some q0 = some q → mub_227_567 n4 n3 n2 n1 n0 H0 H13 < q := by
  have g4 := f8.2.1.1
  unfold Ab_227_180 at g4
  have g3 := f8.2.1.2
  unfold preb_227 at g3
  have g5 := Option.some.inj f8.2.2
  unfold mub_227_180 at g5
  unfold postb_223 at f16
  unfold postb_220 at f19
  unfold postb_229 at f21
  unfold postb_220 at f23
  unfold postb_229 at f25
  unfold postb_220 at f27
  unfold postb_223 at f36
  unfold postb_220 at f39
  unfold postb_223 at f50
  unfold Ab_227_567
  unfold mub_227_567
  have e1 : hV H1 285 18 = hV H0 285 18 := (f8.1.2.1.1 285 18 kF_227_285_18)
  have e3 : hV H1 285 32 = hV H0 285 32 := (f8.1.2.1.1 285 32 kF_227_285_32)
  have e5 : hV H1 285 33 = hV H0 285 33 := (f8.1.2.1.1 285 33 kF_227_285_33)
  have e7 : hV H1 285 64 = hV H0 285 64 := (f8.1.2.1.1 285 64 kF_227_285_64)
  have e8 : hV H1 294 = hV H0 294 := fRow f8.1.2.1 294 kR_227_294
  have e9 : hV H1 328 = hV H0 328 := fRow f8.1.2.1 328 kR_227_328
  have e10 : hV H1 332 = hV H0 332 := fRow f8.1.2.1 332 kR_227_332
  have e11 : hV H1 335 = hV H0 335 := fRow f8.1.2.1 335 kR_227_335
  have e13 : hV H10 285 11 = hV H9 285 11 := (uPlace f37 285 11 (iS (show n14 = ((305 : Nat) : Int) from f28) rfl))
  have e15 : hV H10 285 13 = hV H9 285 13 := (uPlace f37 285 13 (iS (show n14 = ((305 : Nat) : Int) from f28) rfl))
  have e18 : hV H11 285 15 = hV H9 285 15 := ((f39.1.2.1.1 285 15 kF_220_285_15)).trans (uPlace f37 285 15 (iS (show n14 = ((305 : Nat) : Int) from f28) rfl))
  have e32 : hV H4 288 = hV H0 288 := (fRow f19.1.2.1 288 kR_220_288).trans ((uRowNe f17 288 (iS (show n5 = ((300 : Nat) : Int) from f10) rfl)).trans ((fRow f16.1.2.1 288 kR_223_288).trans (fRow f8.1.2.1 288 kR_227_288)))
  have e34 : hV H6 288 = hV H0 288 := (fRow f23.1.2.1 288 kR_220_288).trans ((fRow f21.1.2.1 288 kR_229_288).trans e32)
  have e43 : hV H13 285 11 = hV H12 285 11 := (uPlace f51 285 11 (iS (show n21 = ((305 : Nat) : Int) from f40) rfl))
  have e45 : hV H13 285 13 = hV H12 285 13 := (uPlace f51 285 13 (iS (show n21 = ((305 : Nat) : Int) from f40) rfl))
  have e47 : hV H13 285 15 = hV H12 285 15 := (uPlace f51 285 15 (iS (show n21 = ((305 : Nat) : Int) from f40) rfl))
  have e60 : hV H13 285 18 = hV H0 285 18 := ((uPlace f51 285 18 (iS (show n21 = ((305 : Nat) : Int) from f40) rfl))).trans (((f50.1.2.1.1 285 18 kF_223_285_18)).trans (((f39.1.2.1.1 285 18 kF_220_285_18)).trans (((uPlace f37 285 18 (iS (show n14 = ((305 : Nat) : Int) from f28) rfl))).trans (((f36.1.2.1.1 285 18 kF_223_285_18)).trans (((f27.1.2.1.1 285 18 kF_220_285_18)).trans (((f25.1.2.1.1 285 18 kF_229_285_18)).trans (((f23.1.2.1.1 285 18 kF_220_285_18)).trans (((f21.1.2.1.1 285 18 kF_229_285_18)).trans (((f19.1.2.1.1 285 18 kF_220_285_18)).trans (((uPlace f17 285 18 (iS (show n5 = ((300 : Nat) : Int) from f10) rfl))).trans (((f16.1.2.1.1 285 18 kF_223_285_18)).trans (f8.1.2.1.1 285 18 kF_227_285_18))))))))))))
  have e73 : hV H13 285 32 = hV H0 285 32 := ((uPlace f51 285 32 (iS (show n21 = ((305 : Nat) : Int) from f40) rfl))).trans (((f50.1.2.1.1 285 32 kF_223_285_32)).trans (((f39.1.2.1.1 285 32 kF_220_285_32)).trans (((uPlace f37 285 32 (iS (show n14 = ((305 : Nat) : Int) from f28) rfl))).trans (((f36.1.2.1.1 285 32 kF_223_285_32)).trans (((f27.1.2.1.1 285 32 kF_220_285_32)).trans (((f25.1.2.1.1 285 32 kF_229_285_32)).trans (((f23.1.2.1.1 285 32 kF_220_285_32)).trans (((f21.1.2.1.1 285 32 kF_229_285_32)).trans (((f19.1.2.1.1 285 32 kF_220_285_32)).trans (((uPlace f17 285 32 (iS (show n5 = ((300 : Nat) : Int) from f10) rfl))).trans (((f16.1.2.1.1 285 32 kF_223_285_32)).trans (f8.1.2.1.1 285 32 kF_227_285_32))))))))))))
  have e86 : hV H13 285 33 = hV H0 285 33 := ((uPlace f51 285 33 (iS (show n21 = ((305 : Nat) : Int) from f40) rfl))).trans (((f50.1.2.1.1 285 33 kF_223_285_33)).trans (((f39.1.2.1.1 285 33 kF_220_285_33)).trans (((uPlace f37 285 33 (iS (show n14 = ((305 : Nat) : Int) from f28) rfl))).trans (((f36.1.2.1.1 285 33 kF_223_285_33)).trans (((f27.1.2.1.1 285 33 kF_220_285_33)).trans (((f25.1.2.1.1 285 33 kF_229_285_33)).trans (((f23.1.2.1.1 285 33 kF_220_285_33)).trans (((f21.1.2.1.1 285 33 kF_229_285_33)).trans (((f19.1.2.1.1 285 33 kF_220_285_33)).trans (((uPlace f17 285 33 (iS (show n5 = ((300 : Nat) : Int) from f10) rfl))).trans (((f16.1.2.1.1 285 33 kF_223_285_33)).trans (f8.1.2.1.1 285 33 kF_227_285_33))))))))))))
  have e99 : hV H13 285 64 = hV H0 285 64 := ((uPlace f51 285 64 (iS (show n21 = ((305 : Nat) : Int) from f40) rfl))).trans (((f50.1.2.1.1 285 64 kF_223_285_64)).trans (((f39.1.2.1.1 285 64 kF_220_285_64)).trans (((uPlace f37 285 64 (iS (show n14 = ((305 : Nat) : Int) from f28) rfl))).trans (((f36.1.2.1.1 285 64 kF_223_285_64)).trans (((f27.1.2.1.1 285 64 kF_220_285_64)).trans (((f25.1.2.1.1 285 64 kF_229_285_64)).trans (((f23.1.2.1.1 285 64 kF_220_285_64)).trans (((f21.1.2.1.1 285 64 kF_229_285_64)).trans (((f19.1.2.1.1 285 64 kF_220_285_64)).trans (((uPlace f17 285 64 (iS (show n5 = ((300 : Nat) : Int) from f10) rfl))).trans (((f16.1.2.1.1 285 64 kF_223_285_64)).trans (f8.1.2.1.1 285 64 kF_227_285_64))))))))))))
  have e115 : hV H5 294 = hV H0 294 := (fRow f21.1.2.1 294 kR_229_294).trans ((fRow f19.1.2.1 294 kR_220_294).trans ((uRowNe f17 294 (iS (show n5 = ((300 : Nat) : Int) from f10) rfl)).trans ((fRow f16.1.2.1 294 kR_223_294).trans e8)))
  have e117 : hV H7 294 = hV H0 294 := (fRow f25.1.2.1 294 kR_229_294).trans ((fRow f23.1.2.1 294 kR_220_294).trans e115)
  have e123 : hV H13 294 = hV H0 294 := (uRowNe f51 294 (iS (show n21 = ((305 : Nat) : Int) from f40) rfl)).trans ((fRow f50.1.2.1 294 kR_223_294).trans ((fRow f39.1.2.1 294 kR_220_294).trans ((uRowNe f37 294 (iS (show n14 = ((305 : Nat) : Int) from f28) rfl)).trans ((fRow f36.1.2.1 294 kR_223_294).trans ((fRow f27.1.2.1 294 kR_220_294).trans e117)))))
  have e138 : hV H5 296 = hV H1 296 := (fRow f21.1.2.1 296 kR_229_296).trans ((fRow f19.1.2.1 296 kR_220_296).trans ((uRowNe f17 296 (iS (show n5 = ((300 : Nat) : Int) from f10) rfl)).trans (fRow f16.1.2.1 296 kR_223_296)))
  have e140 : hV H7 296 = hV H1 296 := (fRow f25.1.2.1 296 kR_229_296).trans ((fRow f23.1.2.1 296 kR_220_296).trans e138)
  have e146 : hV H13 296 = hV H1 296 := (uRowNe f51 296 (iS (show n21 = ((305 : Nat) : Int) from f40) rfl)).trans ((fRow f50.1.2.1 296 kR_223_296).trans ((fRow f39.1.2.1 296 kR_220_296).trans ((uRowNe f37 296 (iS (show n14 = ((305 : Nat) : Int) from f28) rfl)).trans ((fRow f36.1.2.1 296 kR_223_296).trans ((fRow f27.1.2.1 296 kR_220_296).trans e140)))))
  have e161 : hV H5 297 = hV H1 297 := (fRow f21.1.2.1 297 kR_229_297).trans ((fRow f19.1.2.1 297 kR_220_297).trans ((uRowNe f17 297 (iS (show n5 = ((300 : Nat) : Int) from f10) rfl)).trans (fRow f16.1.2.1 297 kR_223_297)))
  have e163 : hV H7 297 = hV H1 297 := (fRow f25.1.2.1 297 kR_229_297).trans ((fRow f23.1.2.1 297 kR_220_297).trans e161)
  have e169 : hV H13 297 = hV H1 297 := (uRowNe f51 297 (iS (show n21 = ((305 : Nat) : Int) from f40) rfl)).trans ((fRow f50.1.2.1 297 kR_223_297).trans ((fRow f39.1.2.1 297 kR_220_297).trans ((uRowNe f37 297 (iS (show n14 = ((305 : Nat) : Int) from f28) rfl)).trans ((fRow f36.1.2.1 297 kR_223_297).trans ((fRow f27.1.2.1 297 kR_220_297).trans e163)))))
  have e184 : hV H5 298 = hV H1 298 := (fRow f21.1.2.1 298 kR_229_298).trans ((fRow f19.1.2.1 298 kR_220_298).trans ((uRowNe f17 298 (iS (show n5 = ((300 : Nat) : Int) from f10) rfl)).trans (fRow f16.1.2.1 298 kR_223_298)))
  have e186 : hV H7 298 = hV H1 298 := (fRow f25.1.2.1 298 kR_229_298).trans ((fRow f23.1.2.1 298 kR_220_298).trans e184)
  have e192 : hV H13 298 = hV H1 298 := (uRowNe f51 298 (iS (show n21 = ((305 : Nat) : Int) from f40) rfl)).trans ((fRow f50.1.2.1 298 kR_223_298).trans ((fRow f39.1.2.1 298 kR_220_298).trans ((uRowNe f37 298 (iS (show n14 = ((305 : Nat) : Int) from f28) rfl)).trans ((fRow f36.1.2.1 298 kR_223_298).trans ((fRow f27.1.2.1 298 kR_220_298).trans e186)))))
  have e207 : hV H5 300 = (uF (hV H1 300) n1 n8) := (fRow f21.1.2.1 300 kR_229_300).trans ((fRow f19.1.2.1 300 kR_220_300).trans ((uRow f17 300 f10.symm).trans (congrArg (fun z => uF z n1 n8) (fRow f16.1.2.1 300 kR_223_300))))
  have e209 : hV H7 300 = (uF (hV H1 300) n1 n8) := (fRow f25.1.2.1 300 kR_229_300).trans ((fRow f23.1.2.1 300 kR_220_300).trans e207)
  have e215 : hV H13 300 = (uF (hV H1 300) n1 n8) := (uRowNe f51 300 (iS (show n21 = ((305 : Nat) : Int) from f40) rfl)).trans ((fRow f50.1.2.1 300 kR_223_300).trans ((fRow f39.1.2.1 300 kR_220_300).trans ((uRowNe f37 300 (iS (show n14 = ((305 : Nat) : Int) from f28) rfl)).trans ((fRow f36.1.2.1 300 kR_223_300).trans ((fRow f27.1.2.1 300 kR_220_300).trans e209)))))
  have e226 : hV H13 301 = hV H7 301 := (uRowNe f51 301 (iS (show n21 = ((305 : Nat) : Int) from f40) rfl)).trans ((fRow f50.1.2.1 301 kR_223_301).trans ((fRow f39.1.2.1 301 kR_220_301).trans ((uRowNe f37 301 (iS (show n14 = ((305 : Nat) : Int) from f28) rfl)).trans ((fRow f36.1.2.1 301 kR_223_301).trans (fRow f27.1.2.1 301 kR_220_301)))))
  have e237 : hV H13 302 = hV H7 302 := (uRowNe f51 302 (iS (show n21 = ((305 : Nat) : Int) from f40) rfl)).trans ((fRow f50.1.2.1 302 kR_223_302).trans ((fRow f39.1.2.1 302 kR_220_302).trans ((uRowNe f37 302 (iS (show n14 = ((305 : Nat) : Int) from f28) rfl)).trans ((fRow f36.1.2.1 302 kR_223_302).trans (fRow f27.1.2.1 302 kR_220_302)))))
  have e248 : hV H13 303 = hV H7 303 := (uRowNe f51 303 (iS (show n21 = ((305 : Nat) : Int) from f40) rfl)).trans ((fRow f50.1.2.1 303 kR_223_303).trans ((fRow f39.1.2.1 303 kR_220_303).trans ((uRowNe f37 303 (iS (show n14 = ((305 : Nat) : Int) from f28) rfl)).trans ((fRow f36.1.2.1 303 kR_223_303).trans (fRow f27.1.2.1 303 kR_220_303)))))
  have e263 : hV H5 305 = hV H1 305 := (fRow f21.1.2.1 305 kR_229_305).trans ((fRow f19.1.2.1 305 kR_220_305).trans ((uRowNe f17 305 (iS (show n5 = ((300 : Nat) : Int) from f10) rfl)).trans (fRow f16.1.2.1 305 kR_223_305)))
  have e265 : hV H7 305 = hV H1 305 := (fRow f25.1.2.1 305 kR_229_305).trans ((fRow f23.1.2.1 305 kR_220_305).trans e263)
  have e271 : hV H13 305 = (uF (uF (hV H1 305) n16 n19) n25 n28) := (uRow f51 305 f40.symm).trans (congrArg (fun z => uF z n25 n28) ((fRow f50.1.2.1 305 kR_223_305).trans ((fRow f39.1.2.1 305 kR_220_305).trans ((uRow f37 305 f28.symm).trans (congrArg (fun z => uF z n16 n19) ((fRow f36.1.2.1 305 kR_223_305).trans ((fRow f27.1.2.1 305 kR_220_305).trans e265)))))))
  have e287 : hV H5 328 = hV H0 328 := (fRow f21.1.2.1 328 kR_229_328).trans ((fRow f19.1.2.1 328 kR_220_328).trans ((uRowNe f17 328 (iS (show n5 = ((300 : Nat) : Int) from f10) rfl)).trans ((fRow f16.1.2.1 328 kR_223_328).trans e9)))
  have e289 : hV H7 328 = hV H0 328 := (fRow f25.1.2.1 328 kR_229_328).trans ((fRow f23.1.2.1 328 kR_220_328).trans e287)
  have e295 : hV H13 328 = hV H0 328 := (uRowNe f51 328 (iS (show n21 = ((305 : Nat) : Int) from f40) rfl)).trans ((fRow f50.1.2.1 328 kR_223_328).trans ((fRow f39.1.2.1 328 kR_220_328).trans ((uRowNe f37 328 (iS (show n14 = ((305 : Nat) : Int) from f28) rfl)).trans ((fRow f36.1.2.1 328 kR_223_328).trans ((fRow f27.1.2.1 328 kR_220_328).trans e289)))))
  have e311 : hV H5 332 = hV H0 332 := (fRow f21.1.2.1 332 kR_229_332).trans ((fRow f19.1.2.1 332 kR_220_332).trans ((uRowNe f17 332 (iS (show n5 = ((300 : Nat) : Int) from f10) rfl)).trans ((fRow f16.1.2.1 332 kR_223_332).trans e10)))
  have e313 : hV H7 332 = hV H0 332 := (fRow f25.1.2.1 332 kR_229_332).trans ((fRow f23.1.2.1 332 kR_220_332).trans e311)
  have e319 : hV H13 332 = hV H0 332 := (uRowNe f51 332 (iS (show n21 = ((305 : Nat) : Int) from f40) rfl)).trans ((fRow f50.1.2.1 332 kR_223_332).trans ((fRow f39.1.2.1 332 kR_220_332).trans ((uRowNe f37 332 (iS (show n14 = ((305 : Nat) : Int) from f28) rfl)).trans ((fRow f36.1.2.1 332 kR_223_332).trans ((fRow f27.1.2.1 332 kR_220_332).trans e313)))))
  have e335 : hV H5 335 = hV H0 335 := (fRow f21.1.2.1 335 kR_229_335).trans ((fRow f19.1.2.1 335 kR_220_335).trans ((uRowNe f17 335 (iS (show n5 = ((300 : Nat) : Int) from f10) rfl)).trans ((fRow f16.1.2.1 335 kR_223_335).trans e11)))
  have e337 : hV H7 335 = hV H0 335 := (fRow f25.1.2.1 335 kR_229_335).trans ((fRow f23.1.2.1 335 kR_220_335).trans e335)
  have e343 : hV H13 335 = hV H0 335 := (uRowNe f51 335 (iS (show n21 = ((305 : Nat) : Int) from f40) rfl)).trans ((fRow f50.1.2.1 335 kR_223_335).trans ((fRow f39.1.2.1 335 kR_220_335).trans ((uRowNe f37 335 (iS (show n14 = ((305 : Nat) : Int) from f28) rfl)).trans ((fRow f36.1.2.1 335 kR_223_335).trans ((fRow f27.1.2.1 335 kR_220_335).trans e337)))))
  have e345 : hV H3 285 11 = hV H2 285 11 := (uPlace f17 285 11 (iS (show n5 = ((300 : Nat) : Int) from f10) rfl))
  have e347 : hV H3 285 13 = hV H2 285 13 := (uPlace f17 285 13 (iS (show n5 = ((300 : Nat) : Int) from f10) rfl))
  have e350 : hV H4 285 15 = hV H2 285 15 := ((f19.1.2.1.1 285 15 kF_220_285_15)).trans (uPlace f17 285 15 (iS (show n5 = ((300 : Nat) : Int) from f10) rfl))
  have e355 : hV H4 301 = hV H1 301 := (fRow f19.1.2.1 301 kR_220_301).trans ((uRowNe f17 301 (iS (show n5 = ((300 : Nat) : Int) from f10) rfl)).trans (fRow f16.1.2.1 301 kR_223_301))
  have e360 : hV H4 302 = hV H1 302 := (fRow f19.1.2.1 302 kR_220_302).trans ((uRowNe f17 302 (iS (show n5 = ((300 : Nat) : Int) from f10) rfl)).trans (fRow f16.1.2.1 302 kR_223_302))
  have e365 : hV H4 303 = hV H1 303 := (fRow f19.1.2.1 303 kR_220_303).trans ((uRowNe f17 303 (iS (show n5 = ((300 : Nat) : Int) from f10) rfl)).trans (fRow f16.1.2.1 303 kR_223_303))
  have e366 : hV H5 285 18 = hV H0 285 18 := ((f21.1.2.1.1 285 18 kF_229_285_18)).trans (((f19.1.2.1.1 285 18 kF_220_285_18)).trans (((uPlace f17 285 18 (iS (show n5 = ((300 : Nat) : Int) from f10) rfl))).trans (((f16.1.2.1.1 285 18 kF_223_285_18)).trans (f8.1.2.1.1 285 18 kF_227_285_18))))
  have e367 : hV H5 285 32 = hV H0 285 32 := ((f21.1.2.1.1 285 32 kF_229_285_32)).trans (((f19.1.2.1.1 285 32 kF_220_285_32)).trans (((uPlace f17 285 32 (iS (show n5 = ((300 : Nat) : Int) from f10) rfl))).trans (((f16.1.2.1.1 285 32 kF_223_285_32)).trans (f8.1.2.1.1 285 32 kF_227_285_32))))
  have e368 : hV H5 285 33 = hV H0 285 33 := ((f21.1.2.1.1 285 33 kF_229_285_33)).trans (((f19.1.2.1.1 285 33 kF_220_285_33)).trans (((uPlace f17 285 33 (iS (show n5 = ((300 : Nat) : Int) from f10) rfl))).trans (((f16.1.2.1.1 285 33 kF_223_285_33)).trans (f8.1.2.1.1 285 33 kF_227_285_33))))
  have e369 : hV H5 285 64 = hV H0 285 64 := ((f21.1.2.1.1 285 64 kF_229_285_64)).trans (((f19.1.2.1.1 285 64 kF_220_285_64)).trans (((uPlace f17 285 64 (iS (show n5 = ((300 : Nat) : Int) from f10) rfl))).trans (((f16.1.2.1.1 285 64 kF_223_285_64)).trans (f8.1.2.1.1 285 64 kF_227_285_64))))
  have e371 : hV H6 285 15 = hV H5 285 15 := (f23.1.2.1.1 285 15 kF_220_285_15)
  have e372 : hV H6 301 = hV H5 301 := fRow f23.1.2.1 301 kR_220_301
  have e373 : hV H6 302 = hV H5 302 := fRow f23.1.2.1 302 kR_220_302
  have e374 : hV H6 303 = hV H5 303 := fRow f23.1.2.1 303 kR_220_303
  have e375 : hV H7 285 18 = hV H0 285 18 := ((f25.1.2.1.1 285 18 kF_229_285_18)).trans (((f23.1.2.1.1 285 18 kF_220_285_18)).trans (((f21.1.2.1.1 285 18 kF_229_285_18)).trans (((f19.1.2.1.1 285 18 kF_220_285_18)).trans (((uPlace f17 285 18 (iS (show n5 = ((300 : Nat) : Int) from f10) rfl))).trans (((f16.1.2.1.1 285 18 kF_223_285_18)).trans (f8.1.2.1.1 285 18 kF_227_285_18))))))
  have e376 : hV H7 285 32 = hV H0 285 32 := ((f25.1.2.1.1 285 32 kF_229_285_32)).trans (((f23.1.2.1.1 285 32 kF_220_285_32)).trans (((f21.1.2.1.1 285 32 kF_229_285_32)).trans (((f19.1.2.1.1 285 32 kF_220_285_32)).trans (((uPlace f17 285 32 (iS (show n5 = ((300 : Nat) : Int) from f10) rfl))).trans (((f16.1.2.1.1 285 32 kF_223_285_32)).trans (f8.1.2.1.1 285 32 kF_227_285_32))))))
  have e377 : hV H7 285 33 = hV H0 285 33 := ((f25.1.2.1.1 285 33 kF_229_285_33)).trans (((f23.1.2.1.1 285 33 kF_220_285_33)).trans (((f21.1.2.1.1 285 33 kF_229_285_33)).trans (((f19.1.2.1.1 285 33 kF_220_285_33)).trans (((uPlace f17 285 33 (iS (show n5 = ((300 : Nat) : Int) from f10) rfl))).trans (((f16.1.2.1.1 285 33 kF_223_285_33)).trans (f8.1.2.1.1 285 33 kF_227_285_33))))))
  have e378 : hV H7 285 64 = hV H0 285 64 := ((f25.1.2.1.1 285 64 kF_229_285_64)).trans (((f23.1.2.1.1 285 64 kF_220_285_64)).trans (((f21.1.2.1.1 285 64 kF_229_285_64)).trans (((f19.1.2.1.1 285 64 kF_220_285_64)).trans (((uPlace f17 285 64 (iS (show n5 = ((300 : Nat) : Int) from f10) rfl))).trans (((f16.1.2.1.1 285 64 kF_223_285_64)).trans (f8.1.2.1.1 285 64 kF_227_285_64))))))
  have e380 : hV H8 285 15 = hV H7 285 15 := (f27.1.2.1.1 285 15 kF_220_285_15)
  have e381 : PQ H2 = PQ H1 := PQ_fr f16.1.2.1 (by decide +kernel)
  have e382 : PQ H3 = PQ H2 := PQ_upR f17 (show n5 = ((300 : Nat) : Int) from f10) (by decide)
  have e383 : PQ H3 = PQ H1 := e382.trans e381
  have e384 : PQ H4 = PQ H3 := PQ_fr f19.1.2.1 (by decide +kernel)
  have e385 : PQ H4 = PQ H1 := e384.trans e383
  have e386 : PQ H5 = PQ H4 := PQ_fr f21.1.2.1 (by decide +kernel)
  have e387 : PQ H5 = PQ H1 := e386.trans e385
  have e388 : PQ H6 = PQ H5 := PQ_fr f23.1.2.1 (by decide +kernel)
  have e389 : PQ H6 = PQ H1 := e388.trans e387
  have e390 : PQ H7 = PQ H6 := PQ_fr f25.1.2.1 (by decide +kernel)
  have e391 : PQ H7 = PQ H1 := e390.trans e389
  have e392 : PQ H8 = PQ H7 := PQ_fr f27.1.2.1 (by decide +kernel)
  have e393 : PQ H8 = PQ H1 := e392.trans e391
  have e394 : PQ H9 = PQ H8 := PQ_fr f36.1.2.1 (by decide +kernel)
  have e395 : PQ H9 = PQ H1 := e394.trans e393
  have e396 : PQ H10 = PQ H9 := PQ_upR f37 (show n14 = ((305 : Nat) : Int) from f28) (by decide)
  have e397 : PQ H10 = PQ H1 := e396.trans e395
  have e398 : PQ H11 = PQ H10 := PQ_fr f39.1.2.1 (by decide +kernel)
  have e399 : PQ H11 = PQ H1 := e398.trans e397
  have e400 : PQ H12 = PQ H11 := PQ_fr f50.1.2.1 (by decide +kernel)
  have e401 : PQ H12 = PQ H1 := e400.trans e399
  have e402 : PQ H13 = PQ H12 := PQ_upR f51 (show n21 = ((305 : Nat) : Int) from f40) (by decide)
  have e403 : PQ H13 = PQ H1 := e402.trans e401
  have e404 : (0 : Int) ≤ hV H1 285 11 ∧ hV H1 285 11 ≤ 500 := f8.1.2.2 285 11 _ _ kW_285_11
  have e405 : (0 : Int) ≤ hV H1 285 13 ∧ hV H1 285 13 ≤ 2 := f8.1.2.2 285 13 _ _ kW_285_13
  have e406 : (0 : Int) ≤ hV H1 285 15 ∧ hV H1 285 15 ≤ 6 := f8.1.2.2 285 15 _ _ kW_285_15
  have e407 : (0 : Int) ≤ hV H0 285 18 ∧ hV H0 285 18 ≤ 8 := bTo e1 (f8.1.2.2 285 18 _ _ kW_285_18)
  have e408 : (0 : Int) ≤ hV H0 285 32 ∧ hV H0 285 32 ≤ 7 := bTo e3 (f8.1.2.2 285 32 _ _ kW_285_32)
  have e409 : (0 : Int) ≤ hV H0 285 33 ∧ hV H0 285 33 ≤ 62 := bTo e5 (f8.1.2.2 285 33 _ _ kW_285_33)
  have e410 : (0 : Int) ≤ hV H0 285 64 ∧ hV H0 285 64 ≤ 20 := bTo e7 (f8.1.2.2 285 64 _ _ kW_285_64)
  have e411 : (0 : Int) ≤ hV H9 285 11 ∧ hV H9 285 11 ≤ 500 := f36.1.2.2.2 285 11 _ _ kW_285_11
  have e412 : (0 : Int) ≤ hV H9 285 13 ∧ hV H9 285 13 ≤ 2 := f36.1.2.2.2 285 13 _ _ kW_285_13
  have e413 : (0 : Int) ≤ hV H11 285 11 ∧ hV H11 285 11 ≤ 500 := f39.1.2.2.2 285 11 _ _ kW_285_11
  have e414 : (0 : Int) ≤ hV H11 285 13 ∧ hV H11 285 13 ≤ 2 := f39.1.2.2.2 285 13 _ _ kW_285_13
  have e415 : (0 : Int) ≤ hV H9 285 15 ∧ hV H9 285 15 ≤ 6 := bTo e18 (f39.1.2.2.2 285 15 _ _ kW_285_15)
  have e417 : (0 : Int) ≤ hV H12 285 11 ∧ hV H12 285 11 ≤ 500 := f50.1.2.2.2 285 11 _ _ kW_285_11
  have e418 : (0 : Int) ≤ hV H12 285 13 ∧ hV H12 285 13 ≤ 2 := f50.1.2.2.2 285 13 _ _ kW_285_13
  have e419 : (0 : Int) ≤ hV H12 285 15 ∧ hV H12 285 15 ≤ 6 := f50.1.2.2.2 285 15 _ _ kW_285_15
  have e420 : (0 : Int) ≤ hV H2 285 11 ∧ hV H2 285 11 ≤ 500 := f16.1.2.2.2 285 11 _ _ kW_285_11
  have e421 : (0 : Int) ≤ hV H2 285 13 ∧ hV H2 285 13 ≤ 2 := f16.1.2.2.2 285 13 _ _ kW_285_13
  have e422 : (0 : Int) ≤ hV H2 285 15 ∧ hV H2 285 15 ≤ 6 := f16.1.2.2.2 285 15 _ _ kW_285_15
  have e423 : (0 : Int) ≤ hV H4 285 11 ∧ hV H4 285 11 ≤ 500 := f19.1.2.2.2 285 11 _ _ kW_285_11
  have e424 : (0 : Int) ≤ hV H4 285 13 ∧ hV H4 285 13 ≤ 2 := f19.1.2.2.2 285 13 _ _ kW_285_13
  have e426 : (0 : Int) ≤ hV H5 285 11 ∧ hV H5 285 11 ≤ 500 := f21.1.2.2.2 285 11 _ _ kW_285_11
  have e427 : (0 : Int) ≤ hV H5 285 13 ∧ hV H5 285 13 ≤ 2 := f21.1.2.2.2 285 13 _ _ kW_285_13
  have e428 : (0 : Int) ≤ hV H5 285 15 ∧ hV H5 285 15 ≤ 6 := f21.1.2.2.2 285 15 _ _ kW_285_15
  have e433 : (0 : Int) ≤ hV H6 285 11 ∧ hV H6 285 11 ≤ 500 := f23.1.2.2.2 285 11 _ _ kW_285_11
  have e434 : (0 : Int) ≤ hV H6 285 13 ∧ hV H6 285 13 ≤ 2 := f23.1.2.2.2 285 13 _ _ kW_285_13
  have e436 : (0 : Int) ≤ hV H7 285 11 ∧ hV H7 285 11 ≤ 500 := f25.1.2.2.2 285 11 _ _ kW_285_11
  have e437 : (0 : Int) ≤ hV H7 285 13 ∧ hV H7 285 13 ≤ 2 := f25.1.2.2.2 285 13 _ _ kW_285_13
  have e438 : (0 : Int) ≤ hV H7 285 15 ∧ hV H7 285 15 ≤ 6 := f25.1.2.2.2 285 15 _ _ kW_285_15
  have e443 : (0 : Int) ≤ hV H8 285 11 ∧ hV H8 285 11 ≤ 500 := f27.1.2.2.2 285 11 _ _ kW_285_11
  have e444 : (0 : Int) ≤ hV H8 285 13 ∧ hV H8 285 13 ≤ 2 := f27.1.2.2.2 285 13 _ _ kW_285_13
  try simp only [PA, PW]
  try simp only [e43, e45, e47, e60, e73, e86, e99, e123, e146, e169, e192, e215, e226, e237, e248, e271, e295, e319, e343, e403]
  have y0 := g4.1
  have y1 := g4.2.1
  have y2 := g4.2.2.1
  have y3 := g4.2.2.2.1
  have y4 := g4.2.2.2.2.1
  have y5 := g4.2.2.2.2.2.1
  have y6 := g4.2.2.2.2.2.2.1
  have y7 := g4.2.2.2.2.2.2.2.1
  have y8 := g4.2.2.2.2.2.2.2.2.1
  have y9 := g4.2.2.2.2.2.2.2.2.2.1
  have y10 := g4.2.2.2.2.2.2.2.2.2.2.1
  have y11 := g4.2.2.2.2.2.2.2.2.2.2.2.1
  have y12 := g4.2.2.2.2.2.2.2.2.2.2.2.2.1
  have y13 := g4.2.2.2.2.2.2.2.2.2.2.2.2.2
  have p0 := g3.1
  have p1 := g3.2.1
  have p2 := g3.2.2.1
  have p3 := g3.2.2.2.1
  have p4 := g3.2.2.2.2.1
  have p5 := g3.2.2.2.2.2.1
  have p6 := g3.2.2.2.2.2.2
  have r0_0 := f16.2.1
  have r0_1 := f16.2.2.1
  have r0_2 := f16.2.2.2.1
  have r0_3 := f16.2.2.2.2.1
  have r0_4 := f16.2.2.2.2.2.1
  have r0_5 := f16.2.2.2.2.2.2.1
  have r0_6 := f16.2.2.2.2.2.2.2.1
  have r1_0 := f19.2.1
  have r1_1 := f19.2.2.1
  have r1_2 := f19.2.2.2.1
  have r1_3 := f19.2.2.2.2.1
  have r2_0 := f21.2.1
  have r2_1 := f21.2.2.1
  have r2_2 := f21.2.2.2.1
  have r2_3 := f21.2.2.2.2.1
  have r2_4 := f21.2.2.2.2.2.1
  have r2_5 := f21.2.2.2.2.2.2.1
  have r2_6 := f21.2.2.2.2.2.2.2.1
  have r2_7 := f21.2.2.2.2.2.2.2.2.1 f20
  have r3_0 := f23.2.1
  have r3_1 := f23.2.2.1
  have r3_2 := f23.2.2.2.1
  have r3_3 := f23.2.2.2.2.1
  have r4_0 := f25.2.1
  have r4_1 := f25.2.2.1
  have r4_2 := f25.2.2.2.1
  have r4_3 := f25.2.2.2.2.1
  have r4_4 := f25.2.2.2.2.2.1
  have r4_5 := f25.2.2.2.2.2.2.1
  have r4_6 := f25.2.2.2.2.2.2.2.1
  have r4_8 := f25.2.2.2.2.2.2.2.2.2 f24
  have r5_0 := f27.2.1
  have r5_1 := f27.2.2.1
  have r5_2 := f27.2.2.2.1
  have r5_3 := f27.2.2.2.2.1
  have r6_0 := f36.2.1
  have r6_1 := f36.2.2.1
  have r6_2 := f36.2.2.2.1
  have r6_3 := f36.2.2.2.2.1
  have r6_4 := f36.2.2.2.2.2.1
  have r6_5 := f36.2.2.2.2.2.2.1
  have r6_6 := f36.2.2.2.2.2.2.2.1
  have r7_0 := f39.2.1
  have r7_1 := f39.2.2.1
  have r7_2 := f39.2.2.2.1
  have r7_3 := f39.2.2.2.2.1
  have r8_0 := f50.2.1
  have r8_1 := f50.2.2.1
  have r8_2 := f50.2.2.2.1
  have r8_3 := f50.2.2.2.2.1
  have r8_4 := f50.2.2.2.2.2.1
  have r8_5 := f50.2.2.2.2.2.2.1
  have r8_6 := f50.2.2.2.2.2.2.2.1
  try simp only [PA] at y0
  try simp only [PW] at y1
  try simp only [PA] at p0
  try simp only [PW] at p5
  try simp only [PA] at r2_0
  try simp only [PW] at r2_1
  try simp only [PA] at r4_0
  try simp only [PW] at r4_1
  try simp only [e1, e7, e8, e9, e10, e11] at y0
  try simp only [e3, e5, e8] at y1
  try simp only [e5] at y8
  try simp only [e5] at y9
  try simp only [e345] at r1_0
  try simp only [e345] at r1_1
  try simp only [e347] at r1_2
  try simp only [e345] at r1_3
  try simp only [e366, e369, e115, e138, e184, e207, e263, e287, e311, e335] at r2_0
  try simp only [e367, e368, e115, e138, e161, e184, e207, e263] at r2_1
  try simp only [e350] at r2_5
  try simp only [e350] at r2_6
  try simp only [e350, e32, e355, e360, e365, e366, e367, e368, e369, e115, e138, e161, e184, e207, e263, e287, e311, e335] at r2_7
  try simp only [e375, e378, e117, e140, e186, e209, e265, e289, e313, e337] at r4_0
  try simp only [e376, e377, e117, e140, e163, e186, e209, e265] at r4_1
  try simp only [e371] at r4_5
  try simp only [e371] at r4_6
  try simp only [e371, e34, e372, e373, e374, e375, e376, e377, e378, e117, e140, e163, e186, e209, e265, e289, e313, e337] at r4_8
  try simp only [e380] at r6_4
  try simp only [e13] at r7_0
  try simp only [e13] at r7_1
  try simp only [e15] at r7_2
  try simp only [e13] at r7_3
  try simp only [e18] at r8_4
  clear g3
  clear g4
  have wb0 := (y2 (hV H0 285 32).toNat).1
  have wp0 := (y2 (hV H0 285 33).toNat).2
  try simp only [e1, e3, e5, e7, e8, e9, e10, e11] at wb0
  try simp only [e1, e3, e5, e7, e8, e9, e10, e11] at wp0
  clear f11 f29 f41 e1 e3 e5 e7 e8 e9 e10 e11 e13 e15 e18 e32 e34 e43 e45 e47 e60 e73 e86 e99 e115 e117 e123 e138 e140 e146 e161 e163 e169 e184 e186 e192 e207 e209 e215 e226 e237 e248 e263 e265 e271 e287 e289 e295 e311 e313 e319 e335 e337 e343 e345 e347 e350 e355 e360 e365 e366 e367 e368 e369 e371 e372 e373 e374 e375 e376 e377 e378 e380 e381 e382 e383 e384 e385 e386 e387 e388 e389 e390 e391 e392 e393 e394 e395 e396 e397 e398 e399 e400 e401 e402 e403
  clear f8 f16 f19 f21 f23 f25 f27 f36 f39 f50
  rw [f30] at f31
  rw [f42] at f43
  first
  | (have ix0 : n16 = 6 * n1 := Eq.trans f31 (w32_iv (Iml 6 rfl (Iat f3 f2)) (by decide)); subst ix0; clear f31)
  | (have ix0 : n16 = 6 * n1 := Eq.trans f31 (w32_id (by omega) (by omega)); subst ix0; clear f31)
  | (unfold w32 at f31; have ix0 : n16 = 6 * n1 := (by omega); subst ix0)
  | skip
  first
  | (have ix1 : n23 = 6 * n1 := Eq.trans f43 (w32_iv (Iml 6 rfl (Iat f3 f2)) (by decide)); subst ix1; clear f43)
  | (have ix1 : n23 = 6 * n1 := Eq.trans f43 (w32_id (by omega) (by omega)); subst ix1; clear f43)
  | (unfold w32 at f43; have ix1 : n23 = 6 * n1 := (by omega); subst ix1)
  | skip
  first
  | (have ix2 : n25 = (6 * n1) + 1 := Eq.trans f45 (w32_iv (Iad (Iml 6 rfl (Iat f3 f2)) (IC 1)) (by decide)); subst ix2; clear f45)
  | (have ix2 : n25 = (6 * n1) + 1 := Eq.trans f45 (w32_id (by omega) (by omega)); subst ix2; clear f45)
  | (unfold w32 at f45; have ix2 : n25 = (6 * n1) + 1 := (by omega); subst ix2)
  | skip
  try unfold w32 at f31
  try unfold w32 at f43
  try unfold w32 at f45

  refine ⟨⟨?_, ?_, ?_, ?_, ?_⟩, fun q hq => ?_⟩
  · refine PA_cn ?_ (by omega)
    refine PA_cn ?_ (by omega)
    exact r4_0
  · intro z1 z2
    refine PW_cn ?_ (by omega) (by omega) (by omega) (by omega)
    refine PW_cn ?_ (by omega) (by omega) (by omega) (by omega)
    exact r4_1 (by omega) (by omega)
  · exact y2
  · intro z1 z2
    (try clear y0 y1 y2 p0 p5 p6 r2_0 r2_1 r4_0 r4_1)
    refine WN_fade ?_ ?_ ?_ (by omega) <;> first | (simp only [uF_at]; omega) | omega
  · (try clear y0 y1 y2 p0 p5 p6 r2_0 r2_1 r4_0 r4_1)
    first
    | omega
    | (refine ⟨?_, ?_, ?_, ?_, ?_, ?_, ?_⟩ <;> first | exact True.intro | omega)
  · (try clear y0 y1 y2 p0 p5 p6 r2_0 r2_1 r4_0 r4_1)
    have g6 := Option.some.inj hq
    subst g6
    omega
def g_227_180_16 : vG := ([(80, [21, 25, 28], [13, 12], 0), (1223, [28, 1, 26, 27], [11, 12], 0), (90, [28], [], 0), (91, [28], [], 9999), (0, [27], [], 400), (0, [26], [], 0), (1, [25, 23, 24], [], 0), (0, [24], [], 1), (3, [23, 22, 3], [], 0), (0, [22], [], 6), (20, [21, 1], [11], 31), (0, [21], [], 305), (1220, [1, 20], [10, 11], 0), (0, [20], [], 5), (80, [14, 16, 19], [10, 9], 0), (1223, [19, 1, 17, 18], [8, 9], 0), (90, [19], [], 0), (91, [19], [], 9999), (0, [18], [], 400), (0, [17], [], 0), (3, [16, 15, 3], [], 0), (0, [15], [], 6), (20, [14, 1], [8], 31), (0, [14], [], 305), (1220, [1, 13], [7, 8], 0), (0, [13], [], 28), (1229, [1, 3, 12], [6, 7], 0), (0, [12], [], 1), (1220, [1, 11], [5, 6], 0), (0, [11], [], 32), (1229, [1, 3, 10], [4, 5], 0), (0, [10], [], 0), (1220, [1, 9], [3, 4], 0), (0, [9], [], 26), (80, [5, 3, 8], [3, 2], 0), (1223, [8, 1, 6, 7], [1, 2], 0), (90, [8], [], 0), (91, [8], [], 9999), (0, [7], [], 2), (0, [6], [], 0), (20, [5, 1], [1], 26), (0, [5], [], 300), (0, [2], [], 1), (5000, [0, 1, 2, 3, 4], [0, 1], 180), (0, [0], [], 285), (0, [1], [], 285), (90, [2], [], 0), (91, [2], [], 5), (90, [3], [], 0), (91, [3], [], 1007), (90, [4], [], 1), (91, [4], [], 1)], (4000, [1, 2, 3, 4], [13], 567))
theorem c_227_180_16 {q0 : Nat} : vOkm T0 (eP e_227 L_227 A_227 mu_227 (some q0)) 1 g_227_180_16 := vOk_inI fun ρ η f0 f1 f2 f3 f4 f5 f6 f7 f8 f9 f10 f11 f12 f13 f14 f15 f16 f17 f18 f19 f20 f21 f22 f23 f24 f25 f26 f27 f28 f29 f30 f31 f32 f33 f34 f35 f36 f37 f38 f39 f40 f41 f42 f43 f44 f45 f46 f47 f48 f49 f50 f51 => q_227_37 (q0 := q0) (n0 := ρ 4) (n1 := ρ 3) (n2 := ρ 2) (n3 := ρ 1) (n4 := ρ 0) (n5 := ρ 5) (n6 := ρ 6) (n7 := ρ 7) (n8 := ρ 8) (n9 := ρ 9) (n10 := ρ 10) (n11 := ρ 11) (n12 := ρ 12) (n13 := ρ 13) (n14 := ρ 14) (n15 := ρ 15) (n16 := ρ 16) (n17 := ρ 17) (n18 := ρ 18) (n19 := ρ 19) (n20 := ρ 20) (n21 := ρ 21) (n22 := ρ 22) (n23 := ρ 23) (n24 := ρ 24) (n25 := ρ 25) (n26 := ρ 26) (n27 := ρ 27) (n28 := ρ 28) (H0 := η 0) (H1 := η 1) (H2 := η 2) (H3 := η 3) (H4 := η 4) (H5 := η 5) (H6 := η 6) (H7 := η 7) (H8 := η 8) (H9 := η 9) (H10 := η 10) (H11 := η 11) (H12 := η 12) (H13 := η 13) f51 f50 f49 f48 f47 f46 f45 f44 f43 f42 f41 f40 f39 f38 f37 f36 f35 f34 f33 f32 f31 f30 f29 f28 f27 f26 f25 f24 f23 f22 f21 f20 f19 f18 f17 f16 f15 f14 f13 f12 f11 f10 f9 f8 f7 f6 f5 f4 f3 f2 f1 f0
set_option maxHeartbeats 20000000 in
theorem q_227_38 {q0 : Nat} {n0 n1 n2 n3 n4 n5 n6 : Int} {H0 H1 : gH} (f0 : n0 ≤ 1) (f1 : 1 ≤ n0) (f2 : n1 ≤ 1007) (f3 : 0 ≤ n1) (f4 : n2 ≤ 5) (f5 : 0 ≤ n2) (f6 : n3 = 285) (f7 : n4 = 285) (f8 : (hLe T0 H0 H1 ∧ hFr s_227.2.2.2.2 H0 H1 ∧ hWt T0 H1) ∧ (Ab_227_180 n4 n3 n2 n1 n0 H0 H1 ∧ preb_227 n4 H0) ∧ some q0 = some (mub_227_180 n4 n3 n2 n1 n0 H0 H1)) (f9 : n2 = 2) (f10 : n5 = 6) (f11 : n6 = w32 (n5 * n1)) : 0 ≤ n6 ∧ n6 < 6048 := by
  have g4 := f8.2.1.1
  unfold Ab_227_180 at g4
  have g3 := f8.2.1.2
  unfold preb_227 at g3
  have e1 : hV H1 285 18 = hV H0 285 18 := (f8.1.2.1.1 285 18 kF_227_285_18)
  have e3 : hV H1 285 32 = hV H0 285 32 := (f8.1.2.1.1 285 32 kF_227_285_32)
  have e5 : hV H1 285 33 = hV H0 285 33 := (f8.1.2.1.1 285 33 kF_227_285_33)
  have e6 : (0 : Int) ≤ hV H1 285 11 ∧ hV H1 285 11 ≤ 500 := f8.1.2.2 285 11 _ _ kW_285_11
  have e7 : (0 : Int) ≤ hV H1 285 13 ∧ hV H1 285 13 ≤ 2 := f8.1.2.2 285 13 _ _ kW_285_13
  have e8 : (0 : Int) ≤ hV H1 285 15 ∧ hV H1 285 15 ≤ 6 := f8.1.2.2 285 15 _ _ kW_285_15
  have e9 : (0 : Int) ≤ hV H0 285 18 ∧ hV H0 285 18 ≤ 8 := bTo e1 (f8.1.2.2 285 18 _ _ kW_285_18)
  have e10 : (0 : Int) ≤ hV H0 285 32 ∧ hV H0 285 32 ≤ 7 := bTo e3 (f8.1.2.2 285 32 _ _ kW_285_32)
  have e11 : (0 : Int) ≤ hV H0 285 33 ∧ hV H0 285 33 ≤ 62 := bTo e5 (f8.1.2.2 285 33 _ _ kW_285_33)
  have y0 := g4.1
  have y1 := g4.2.1
  have y2 := g4.2.2.1
  have y3 := g4.2.2.2.1
  have y4 := g4.2.2.2.2.1
  have y5 := g4.2.2.2.2.2.1
  have y6 := g4.2.2.2.2.2.2.1
  have y7 := g4.2.2.2.2.2.2.2.1
  have y8 := g4.2.2.2.2.2.2.2.2.1
  have y9 := g4.2.2.2.2.2.2.2.2.2.1
  have y10 := g4.2.2.2.2.2.2.2.2.2.2.1
  have y11 := g4.2.2.2.2.2.2.2.2.2.2.2.1
  have y12 := g4.2.2.2.2.2.2.2.2.2.2.2.2.1
  have y13 := g4.2.2.2.2.2.2.2.2.2.2.2.2.2
  have p0 := g3.1
  have p1 := g3.2.1
  have p2 := g3.2.2.1
  have p3 := g3.2.2.2.1
  have p4 := g3.2.2.2.2.1
  have p5 := g3.2.2.2.2.2.1
  have p6 := g3.2.2.2.2.2.2
  try simp only [e5] at y8
  try simp only [e5] at y9
  clear g3
  clear g4
  have wb0 := (y2 (hV H0 285 32).toNat).1
  have wp0 := (y2 (hV H0 285 33).toNat).2
  try simp only [e1, e3, e5] at wb0
  try simp only [e1, e3, e5] at wp0
  clear e1 e3 e5
  clear f8
  rw [f10] at f11
  first
  | (have ix0 : n6 = 6 * n1 := Eq.trans f11 (w32_iv (Iml 6 rfl (Iat f3 f2)) (by decide)); subst ix0; clear f11)
  | (have ix0 : n6 = 6 * n1 := Eq.trans f11 (w32_id (by omega) (by omega)); subst ix0; clear f11)
  | (unfold w32 at f11; have ix0 : n6 = 6 * n1 := (by omega); subst ix0)
  | skip
  try unfold w32 at f11

  (try clear y0 y1 y2 p0 p5 p6)
  omega
def g_227_180_17 : vG := ([(3, [12, 11, 3], [], 0), (0, [11], [], 6), (0, [2], [], 2), (5000, [0, 1, 2, 3, 4], [0, 1], 180), (0, [0], [], 285), (0, [1], [], 285), (90, [2], [], 0), (91, [2], [], 5), (90, [3], [], 0), (91, [3], [], 1007), (90, [4], [], 1), (91, [4], [], 1)], (70, [12], [], 6048))
theorem c_227_180_17 {q0 : Nat} : vOkm T0 (eP e_227 L_227 A_227 mu_227 (some q0)) 1 g_227_180_17 := vOk_inI fun ρ η f0 f1 f2 f3 f4 f5 f6 f7 f8 f9 f10 f11 => q_227_38 (q0 := q0) (n0 := ρ 4) (n1 := ρ 3) (n2 := ρ 2) (n3 := ρ 1) (n4 := ρ 0) (n5 := ρ 11) (n6 := ρ 12) (H0 := η 0) (H1 := η 1) f11 f10 f9 f8 f7 f6 f5 f4 f3 f2 f1 f0
set_option maxHeartbeats 20000000 in
theorem q_227_39 {q0 : Nat} {n0 n1 n2 n3 n4 n5 n6 n7 n8 n9 n10 : Int} {H0 H1 : gH} (f0 : n0 ≤ 1) (f1 : 1 ≤ n0) (f2 : n1 ≤ 1007) (f3 : 0 ≤ n1) (f4 : n2 ≤ 5) (f5 : 0 ≤ n2) (f6 : n3 = 285) (f7 : n4 = 285) (f8 : (hLe T0 H0 H1 ∧ hFr s_227.2.2.2.2 H0 H1 ∧ hWt T0 H1) ∧ (Ab_227_180 n4 n3 n2 n1 n0 H0 H1 ∧ preb_227 n4 H0) ∧ some q0 = some (mub_227_180 n4 n3 n2 n1 n0 H0 H1)) (f9 : n2 = 2) (f10 : n5 = 6) (f11 : n6 = w32 (n5 * n1)) (f12 : n7 = 6) (f13 : n8 = w32 (n7 * n1)) (f14 : n9 = 1) (f15 : n10 = w32 (n8 + n9)) : 0 ≤ n10 ∧ n10 < 6048 := by
  have g4 := f8.2.1.1
  unfold Ab_227_180 at g4
  have g3 := f8.2.1.2
  unfold preb_227 at g3
  have e1 : hV H1 285 18 = hV H0 285 18 := (f8.1.2.1.1 285 18 kF_227_285_18)
  have e3 : hV H1 285 32 = hV H0 285 32 := (f8.1.2.1.1 285 32 kF_227_285_32)
  have e5 : hV H1 285 33 = hV H0 285 33 := (f8.1.2.1.1 285 33 kF_227_285_33)
  have e6 : (0 : Int) ≤ hV H1 285 11 ∧ hV H1 285 11 ≤ 500 := f8.1.2.2 285 11 _ _ kW_285_11
  have e7 : (0 : Int) ≤ hV H1 285 13 ∧ hV H1 285 13 ≤ 2 := f8.1.2.2 285 13 _ _ kW_285_13
  have e8 : (0 : Int) ≤ hV H1 285 15 ∧ hV H1 285 15 ≤ 6 := f8.1.2.2 285 15 _ _ kW_285_15
  have e9 : (0 : Int) ≤ hV H0 285 18 ∧ hV H0 285 18 ≤ 8 := bTo e1 (f8.1.2.2 285 18 _ _ kW_285_18)
  have e10 : (0 : Int) ≤ hV H0 285 32 ∧ hV H0 285 32 ≤ 7 := bTo e3 (f8.1.2.2 285 32 _ _ kW_285_32)
  have e11 : (0 : Int) ≤ hV H0 285 33 ∧ hV H0 285 33 ≤ 62 := bTo e5 (f8.1.2.2 285 33 _ _ kW_285_33)
  have y0 := g4.1
  have y1 := g4.2.1
  have y2 := g4.2.2.1
  have y3 := g4.2.2.2.1
  have y4 := g4.2.2.2.2.1
  have y5 := g4.2.2.2.2.2.1
  have y6 := g4.2.2.2.2.2.2.1
  have y7 := g4.2.2.2.2.2.2.2.1
  have y8 := g4.2.2.2.2.2.2.2.2.1
  have y9 := g4.2.2.2.2.2.2.2.2.2.1
  have y10 := g4.2.2.2.2.2.2.2.2.2.2.1
  have y11 := g4.2.2.2.2.2.2.2.2.2.2.2.1
  have y12 := g4.2.2.2.2.2.2.2.2.2.2.2.2.1
  have y13 := g4.2.2.2.2.2.2.2.2.2.2.2.2.2
  have p0 := g3.1
  have p1 := g3.2.1
  have p2 := g3.2.2.1
  have p3 := g3.2.2.2.1
  have p4 := g3.2.2.2.2.1
  have p5 := g3.2.2.2.2.2.1
  have p6 := g3.2.2.2.2.2.2
  try simp only [e5] at y8
  try simp only [e5] at y9
  clear g3
  clear g4
  have wb0 := (y2 (hV H0 285 32).toNat).1
  have wp0 := (y2 (hV H0 285 33).toNat).2
  try simp only [e1, e3, e5] at wb0
  try simp only [e1, e3, e5] at wp0
  clear e1 e3 e5
  clear f8
  rw [f10] at f11
  rw [f12] at f13
  first
  | (have ix0 : n8 = 6 * n1 := Eq.trans f13 (w32_iv (Iml 6 rfl (Iat f3 f2)) (by decide)); subst ix0; clear f13)
  | (have ix0 : n8 = 6 * n1 := Eq.trans f13 (w32_id (by omega) (by omega)); subst ix0; clear f13)
  | (unfold w32 at f13; have ix0 : n8 = 6 * n1 := (by omega); subst ix0)
  | skip
  first
  | (have ix1 : n10 = (6 * n1) + 1 := Eq.trans f15 (w32_iv (Iad (Iml 6 rfl (Iat f3 f2)) (IC 1)) (by decide)); subst ix1; clear f15)
  | (have ix1 : n10 = (6 * n1) + 1 := Eq.trans f15 (w32_id (by omega) (by omega)); subst ix1; clear f15)
  | (unfold w32 at f15; have ix1 : n10 = (6 * n1) + 1 := (by omega); subst ix1)
  | skip
  try unfold w32 at f11
  try unfold w32 at f13
  try unfold w32 at f15

  (try clear y0 y1 y2 p0 p5 p6)
  omega
def g_227_180_18 : vG := ([(1, [21, 19, 20], [], 0), (0, [20], [], 1), (3, [19, 18, 3], [], 0), (0, [18], [], 6), (3, [12, 11, 3], [], 0), (0, [11], [], 6), (0, [2], [], 2), (5000, [0, 1, 2, 3, 4], [0, 1], 180), (0, [0], [], 285), (0, [1], [], 285), (90, [2], [], 0), (91, [2], [], 5), (90, [3], [], 0), (91, [3], [], 1007), (90, [4], [], 1), (91, [4], [], 1)], (70, [21], [], 6048))
theorem c_227_180_18 {q0 : Nat} : vOkm T0 (eP e_227 L_227 A_227 mu_227 (some q0)) 1 g_227_180_18 := vOk_inI fun ρ η f0 f1 f2 f3 f4 f5 f6 f7 f8 f9 f10 f11 f12 f13 f14 f15 => q_227_39 (q0 := q0) (n0 := ρ 4) (n1 := ρ 3) (n2 := ρ 2) (n3 := ρ 1) (n4 := ρ 0) (n5 := ρ 11) (n6 := ρ 12) (n7 := ρ 18) (n8 := ρ 19) (n9 := ρ 20) (n10 := ρ 21) (H0 := η 0) (H1 := η 1) f15 f14 f13 f12 f11 f10 f9 f8 f7 f6 f5 f4 f3 f2 f1 f0
set_option maxHeartbeats 20000000 in
theorem q_227_40 {q0 : Nat} {n0 n1 n2 n3 n4 n5 n6 n7 n8 n9 n10 n11 n12 n13 n14 : Int} {H0 H1 : gH} (f0 : n0 ≤ 1) (f1 : 1 ≤ n0) (f2 : n1 ≤ 1007) (f3 : 0 ≤ n1) (f4 : n2 ≤ 5) (f5 : 0 ≤ n2) (f6 : n3 = 285) (f7 : n4 = 285) (f8 : (hLe T0 H0 H1 ∧ hFr s_227.2.2.2.2 H0 H1 ∧ hWt T0 H1) ∧ (Ab_227_180 n4 n3 n2 n1 n0 H0 H1 ∧ preb_227 n4 H0) ∧ some q0 = some (mub_227_180 n4 n3 n2 n1 n0 H0 H1)) (f9 : n2 = 2) (f10 : n5 = 6) (f11 : n6 = w32 (n5 * n1)) (f12 : n7 = 6) (f13 : n8 = w32 (n7 * n1)) (f14 : n9 = 1) (f15 : n10 = w32 (n8 + n9)) (f16 : n11 = 6) (f17 : n12 = w32 (n11 * n1)) (f18 : n13 = 2) (f19 : n14 = w32 (n12 + n13)) : 0 ≤ n14 ∧ n14 < 6048 := by
  have g4 := f8.2.1.1
  unfold Ab_227_180 at g4
  have g3 := f8.2.1.2
  unfold preb_227 at g3
  have e1 : hV H1 285 18 = hV H0 285 18 := (f8.1.2.1.1 285 18 kF_227_285_18)
  have e3 : hV H1 285 32 = hV H0 285 32 := (f8.1.2.1.1 285 32 kF_227_285_32)
  have e5 : hV H1 285 33 = hV H0 285 33 := (f8.1.2.1.1 285 33 kF_227_285_33)
  have e6 : (0 : Int) ≤ hV H1 285 11 ∧ hV H1 285 11 ≤ 500 := f8.1.2.2 285 11 _ _ kW_285_11
  have e7 : (0 : Int) ≤ hV H1 285 13 ∧ hV H1 285 13 ≤ 2 := f8.1.2.2 285 13 _ _ kW_285_13
  have e8 : (0 : Int) ≤ hV H1 285 15 ∧ hV H1 285 15 ≤ 6 := f8.1.2.2 285 15 _ _ kW_285_15
  have e9 : (0 : Int) ≤ hV H0 285 18 ∧ hV H0 285 18 ≤ 8 := bTo e1 (f8.1.2.2 285 18 _ _ kW_285_18)
  have e10 : (0 : Int) ≤ hV H0 285 32 ∧ hV H0 285 32 ≤ 7 := bTo e3 (f8.1.2.2 285 32 _ _ kW_285_32)
  have e11 : (0 : Int) ≤ hV H0 285 33 ∧ hV H0 285 33 ≤ 62 := bTo e5 (f8.1.2.2 285 33 _ _ kW_285_33)
  have y0 := g4.1
  have y1 := g4.2.1
  have y2 := g4.2.2.1
  have y3 := g4.2.2.2.1
  have y4 := g4.2.2.2.2.1
  have y5 := g4.2.2.2.2.2.1
  have y6 := g4.2.2.2.2.2.2.1
  have y7 := g4.2.2.2.2.2.2.2.1
  have y8 := g4.2.2.2.2.2.2.2.2.1
  have y9 := g4.2.2.2.2.2.2.2.2.2.1
  have y10 := g4.2.2.2.2.2.2.2.2.2.2.1
  have y11 := g4.2.2.2.2.2.2.2.2.2.2.2.1
  have y12 := g4.2.2.2.2.2.2.2.2.2.2.2.2.1
  have y13 := g4.2.2.2.2.2.2.2.2.2.2.2.2.2
  have p0 := g3.1
  have p1 := g3.2.1
  have p2 := g3.2.2.1
  have p3 := g3.2.2.2.1
  have p4 := g3.2.2.2.2.1
  have p5 := g3.2.2.2.2.2.1
  have p6 := g3.2.2.2.2.2.2
  try simp only [e5] at y8
  try simp only [e5] at y9
  clear g3
  clear g4
  have wb0 := (y2 (hV H0 285 32).toNat).1
  have wp0 := (y2 (hV H0 285 33).toNat).2
  try simp only [e1, e3, e5] at wb0
  try simp only [e1, e3, e5] at wp0
  clear e1 e3 e5
  clear f8
  rw [f10] at f11
  rw [f12] at f13
  rw [f16] at f17
  first
  | (have ix0 : n12 = 6 * n1 := Eq.trans f17 (w32_iv (Iml 6 rfl (Iat f3 f2)) (by decide)); subst ix0; clear f17)
  | (have ix0 : n12 = 6 * n1 := Eq.trans f17 (w32_id (by omega) (by omega)); subst ix0; clear f17)
  | (unfold w32 at f17; have ix0 : n12 = 6 * n1 := (by omega); subst ix0)
  | skip
  first
  | (have ix1 : n14 = (6 * n1) + 2 := Eq.trans f19 (w32_iv (Iad (Iml 6 rfl (Iat f3 f2)) (IC 2)) (by decide)); subst ix1; clear f19)
  | (have ix1 : n14 = (6 * n1) + 2 := Eq.trans f19 (w32_id (by omega) (by omega)); subst ix1; clear f19)
  | (unfold w32 at f19; have ix1 : n14 = (6 * n1) + 2 := (by omega); subst ix1)
  | skip
  try unfold w32 at f11
  try unfold w32 at f13
  try unfold w32 at f15
  try unfold w32 at f17
  try unfold w32 at f19

  (try clear y0 y1 y2 p0 p5 p6)
  omega
def g_227_180_19 : vG := ([(1, [30, 28, 29], [], 0), (0, [29], [], 2), (3, [28, 27, 3], [], 0), (0, [27], [], 6), (1, [21, 19, 20], [], 0), (0, [20], [], 1), (3, [19, 18, 3], [], 0), (0, [18], [], 6), (3, [12, 11, 3], [], 0), (0, [11], [], 6), (0, [2], [], 2), (5000, [0, 1, 2, 3, 4], [0, 1], 180), (0, [0], [], 285), (0, [1], [], 285), (90, [2], [], 0), (91, [2], [], 5), (90, [3], [], 0), (91, [3], [], 1007), (90, [4], [], 1), (91, [4], [], 1)], (70, [30], [], 6048))
theorem c_227_180_19 {q0 : Nat} : vOkm T0 (eP e_227 L_227 A_227 mu_227 (some q0)) 1 g_227_180_19 := vOk_inI fun ρ η f0 f1 f2 f3 f4 f5 f6 f7 f8 f9 f10 f11 f12 f13 f14 f15 f16 f17 f18 f19 => q_227_40 (q0 := q0) (n0 := ρ 4) (n1 := ρ 3) (n2 := ρ 2) (n3 := ρ 1) (n4 := ρ 0) (n5 := ρ 11) (n6 := ρ 12) (n7 := ρ 18) (n8 := ρ 19) (n9 := ρ 20) (n10 := ρ 21) (n11 := ρ 27) (n12 := ρ 28) (n13 := ρ 29) (n14 := ρ 30) (H0 := η 0) (H1 := η 1) f19 f18 f17 f16 f15 f14 f13 f12 f11 f10 f9 f8 f7 f6 f5 f4 f3 f2 f1 f0
set_option maxHeartbeats 20000000 in
theorem q_227_41 {q0 : Nat} {n0 n1 n2 n3 n4 n5 n6 n7 n8 n9 n10 n11 n12 n13 n14 n15 n16 n17 n18 n19 n20 n21 n22 n23 n24 n25 n26 n27 n28 n29 n30 n31 n32 n33 : Int} {H0 H1 H2 H3 H4 H5 H6 H7 H8 H9 H10 H11 H12 : gH} (f0 : n0 ≤ 1) (f1 : 1 ≤ n0) (f2 : n1 ≤ 1007) (f3 : 0 ≤ n1) (f4 : n2 ≤ 5) (f5 : 0 ≤ n2) (f6 : n3 = 285) (f7 : n4 = 285) (f8 : (hLe T0 H0 H1 ∧ hFr s_227.2.2.2.2 H0 H1 ∧ hWt T0 H1) ∧ (Ab_227_180 n4 n3 n2 n1 n0 H0 H1 ∧ preb_227 n4 H0) ∧ some q0 = some (mub_227_180 n4 n3 n2 n1 n0 H0 H1)) (f9 : n2 = 2) (f10 : n5 = 300) (f11 : n5 = hV H1 (n3).toNat 26) (f12 : n6 = 0) (f13 : n7 = 2) (f14 : n8 ≤ 9999) (f15 : 0 ≤ n8) (f16 : (hLe T0 H1 H2 ∧ hFr s_223.2.2.2.2 H1 H2 ∧ ((0 : Int) = 0 → H2.length = H1.length) ∧ hWt T0 H2) ∧ postb_223 n8 n3 n6 n7 H1 H2) (f17 : hUpd H3 H2 n5 n1 n8) (f18 : n9 = 34) (f19 : (hLe T0 H3 H4 ∧ hFr s_220.2.2.2.2 H3 H4 ∧ ((0 : Int) = 0 → H4.length = H3.length) ∧ hWt T0 H4) ∧ postb_220 n3 n9 H3 H4) (f20 : n10 = 305) (f21 : n10 = hV H4 (n3).toNat 31) (f22 : n11 = 6) (f23 : n12 = w32 (n11 * n1)) (f24 : n13 = 0) (f25 : n14 = 2) (f26 : n15 ≤ 9999) (f27 : 0 ≤ n15) (f28 : (hLe T0 H4 H5 ∧ hFr s_223.2.2.2.2 H4 H5 ∧ ((0 : Int) = 0 → H5.length = H4.length) ∧ hWt T0 H5) ∧ postb_223 n15 n3 n13 n14 H4 H5) (f29 : hUpd H6 H5 n10 n12 n15) (f30 : n16 = 35) (f31 : (hLe T0 H6 H7 ∧ hFr s_220.2.2.2.2 H6 H7 ∧ ((0 : Int) = 0 → H7.length = H6.length) ∧ hWt T0 H7) ∧ postb_220 n3 n16 H6 H7) (f32 : n17 = 305) (f33 : n17 = hV H7 (n3).toNat 31) (f34 : n18 = 6) (f35 : n19 = w32 (n18 * n1)) (f36 : n20 = 1) (f37 : n21 = w32 (n19 + n20)) (f38 : n22 = 0) (f39 : n23 = 400) (f40 : n24 ≤ 9999) (f41 : 0 ≤ n24) (f42 : (hLe T0 H7 H8 ∧ hFr s_223.2.2.2.2 H7 H8 ∧ ((0 : Int) = 0 → H8.length = H7.length) ∧ hWt T0 H8) ∧ postb_223 n24 n3 n22 n23 H7 H8) (f43 : hUpd H9 H8 n17 n21 n24) (f44 : n25 = 36) (f45 : (hLe T0 H9 H10 ∧ hFr s_220.2.2.2.2 H9 H10 ∧ ((0 : Int) = 0 → H10.length = H9.length) ∧ hWt T0 H10) ∧ postb_220 n3 n25 H9 H10) (f46 : n26 = 305) (f47 : n26 = hV H10 (n3).toNat 31) (f48 : n27 = 6) (f49 : n28 = w32 (n27 * n1)) (f50 : n29 = 2) (f51 : n30 = w32 (n28 + n29)) (f52 : n31 = 0) (f53 : n32 = 60) (f54 : n33 ≤ 9999) (f55 : 0 ≤ n33) (f56 : (hLe T0 H10 H11 ∧ hFr s_223.2.2.2.2 H10 H11 ∧ ((0 : Int) = 0 → H11.length = H10.length) ∧ hWt T0 H11) ∧ postb_223 n33 n3 n31 n32 H10 H11) (f57 : hUpd H12 H11 n26 n30 n33) : Ab_227_567 n4 n3 n2 n1 n0 H0 H12 ∧ ∀ q, some q0 = some q → mub_227_567 n4 n3 n2 n1 n0 H0 H12 < q := by
  have g4 := f8.2.1.1
  unfold Ab_227_180 at g4
  have g3 := f8.2.1.2
  unfold preb_227 at g3
  have g5 := Option.some.inj f8.2.2
  unfold mub_227_180 at g5
  unfold postb_223 at f16
  unfold postb_220 at f19
  unfold postb_223 at f28
  unfold postb_220 at f31
  unfold postb_223 at f42
  unfold postb_220 at f45
  unfold postb_223 at f56
  unfold Ab_227_567
  unfold mub_227_567
  have e1 : hV H1 285 18 = hV H0 285 18 := (f8.1.2.1.1 285 18 kF_227_285_18)
  have e3 : hV H1 285 32 = hV H0 285 32 := (f8.1.2.1.1 285 32 kF_227_285_32)
  have e5 : hV H1 285 33 = hV H0 285 33 := (f8.1.2.1.1 285 33 kF_227_285_33)
  have e7 : hV H1 285 64 = hV H0 285 64 := (f8.1.2.1.1 285 64 kF_227_285_64)
  have e8 : hV H1 294 = hV H0 294 := fRow f8.1.2.1 294 kR_227_294
  have e9 : hV H1 328 = hV H0 328 := fRow f8.1.2.1 328 kR_227_328
  have e10 : hV H1 332 = hV H0 332 := fRow f8.1.2.1 332 kR_227_332
  have e11 : hV H1 335 = hV H0 335 := fRow f8.1.2.1 335 kR_227_335
  have e14 : hV H10 285 15 = hV H8 285 15 := ((f45.1.2.1.1 285 15 kF_220_285_15)).trans (uPlace f43 285 15 (iS (show n17 = ((305 : Nat) : Int) from f32) rfl))
  have e37 : hV H12 285 11 = hV H11 285 11 := (uPlace f57 285 11 (iS (show n26 = ((305 : Nat) : Int) from f46) rfl))
  have e39 : hV H12 285 13 = hV H11 285 13 := (uPlace f57 285 13 (iS (show n26 = ((305 : Nat) : Int) from f46) rfl))
  have e41 : hV H12 285 15 = hV H11 285 15 := (uPlace f57 285 15 (iS (show n26 = ((305 : Nat) : Int) from f46) rfl))
  have e53 : hV H12 285 18 = hV H0 285 18 := ((uPlace f57 285 18 (iS (show n26 = ((305 : Nat) : Int) from f46) rfl))).trans (((f56.1.2.1.1 285 18 kF_223_285_18)).trans (((f45.1.2.1.1 285 18 kF_220_285_18)).trans (((uPlace f43 285 18 (iS (show n17 = ((305 : Nat) : Int) from f32) rfl))).trans (((f42.1.2.1.1 285 18 kF_223_285_18)).trans (((f31.1.2.1.1 285 18 kF_220_285_18)).trans (((uPlace f29 285 18 (iS (show n10 = ((305 : Nat) : Int) from f20) rfl))).trans (((f28.1.2.1.1 285 18 kF_223_285_18)).trans (((f19.1.2.1.1 285 18 kF_220_285_18)).trans (((uPlace f17 285 18 (iS (show n5 = ((300 : Nat) : Int) from f10) rfl))).trans (((f16.1.2.1.1 285 18 kF_223_285_18)).trans (f8.1.2.1.1 285 18 kF_227_285_18)))))))))))
  have e65 : hV H12 285 32 = hV H0 285 32 := ((uPlace f57 285 32 (iS (show n26 = ((305 : Nat) : Int) from f46) rfl))).trans (((f56.1.2.1.1 285 32 kF_223_285_32)).trans (((f45.1.2.1.1 285 32 kF_220_285_32)).trans (((uPlace f43 285 32 (iS (show n17 = ((305 : Nat) : Int) from f32) rfl))).trans (((f42.1.2.1.1 285 32 kF_223_285_32)).trans (((f31.1.2.1.1 285 32 kF_220_285_32)).trans (((uPlace f29 285 32 (iS (show n10 = ((305 : Nat) : Int) from f20) rfl))).trans (((f28.1.2.1.1 285 32 kF_223_285_32)).trans (((f19.1.2.1.1 285 32 kF_220_285_32)).trans (((uPlace f17 285 32 (iS (show n5 = ((300 : Nat) : Int) from f10) rfl))).trans (((f16.1.2.1.1 285 32 kF_223_285_32)).trans (f8.1.2.1.1 285 32 kF_227_285_32)))))))))))
  have e77 : hV H12 285 33 = hV H0 285 33 := ((uPlace f57 285 33 (iS (show n26 = ((305 : Nat) : Int) from f46) rfl))).trans (((f56.1.2.1.1 285 33 kF_223_285_33)).trans (((f45.1.2.1.1 285 33 kF_220_285_33)).trans (((uPlace f43 285 33 (iS (show n17 = ((305 : Nat) : Int) from f32) rfl))).trans (((f42.1.2.1.1 285 33 kF_223_285_33)).trans (((f31.1.2.1.1 285 33 kF_220_285_33)).trans (((uPlace f29 285 33 (iS (show n10 = ((305 : Nat) : Int) from f20) rfl))).trans (((f28.1.2.1.1 285 33 kF_223_285_33)).trans (((f19.1.2.1.1 285 33 kF_220_285_33)).trans (((uPlace f17 285 33 (iS (show n5 = ((300 : Nat) : Int) from f10) rfl))).trans (((f16.1.2.1.1 285 33 kF_223_285_33)).trans (f8.1.2.1.1 285 33 kF_227_285_33)))))))))))
  have e89 : hV H12 285 64 = hV H0 285 64 := ((uPlace f57 285 64 (iS (show n26 = ((305 : Nat) : Int) from f46) rfl))).trans (((f56.1.2.1.1 285 64 kF_223_285_64)).trans (((f45.1.2.1.1 285 64 kF_220_285_64)).trans (((uPlace f43 285 64 (iS (show n17 = ((305 : Nat) : Int) from f32) rfl))).trans (((f42.1.2.1.1 285 64 kF_223_285_64)).trans (((f31.1.2.1.1 285 64 kF_220_285_64)).trans (((uPlace f29 285 64 (iS (show n10 = ((305 : Nat) : Int) from f20) rfl))).trans (((f28.1.2.1.1 285 64 kF_223_285_64)).trans (((f19.1.2.1.1 285 64 kF_220_285_64)).trans (((uPlace f17 285 64 (iS (show n5 = ((300 : Nat) : Int) from f10) rfl))).trans (((f16.1.2.1.1 285 64 kF_223_285_64)).trans (f8.1.2.1.1 285 64 kF_227_285_64)))))))))))
  have e111 : hV H12 294 = hV H0 294 := (uRowNe f57 294 (iS (show n26 = ((305 : Nat) : Int) from f46) rfl)).trans ((fRow f56.1.2.1 294 kR_223_294).trans ((fRow f45.1.2.1 294 kR_220_294).trans ((uRowNe f43 294 (iS (show n17 = ((305 : Nat) : Int) from f32) rfl)).trans ((fRow f42.1.2.1 294 kR_223_294).trans ((fRow f31.1.2.1 294 kR_220_294).trans ((uRowNe f29 294 (iS (show n10 = ((305 : Nat) : Int) from f20) rfl)).trans ((fRow f28.1.2.1 294 kR_223_294).trans ((fRow f19.1.2.1 294 kR_220_294).trans ((uRowNe f17 294 (iS (show n5 = ((300 : Nat) : Int) from f10) rfl)).trans ((fRow f16.1.2.1 294 kR_223_294).trans e8))))))))))
  have e132 : hV H12 296 = hV H1 296 := (uRowNe f57 296 (iS (show n26 = ((305 : Nat) : Int) from f46) rfl)).trans ((fRow f56.1.2.1 296 kR_223_296).trans ((fRow f45.1.2.1 296 kR_220_296).trans ((uRowNe f43 296 (iS (show n17 = ((305 : Nat) : Int) from f32) rfl)).trans ((fRow f42.1.2.1 296 kR_223_296).trans ((fRow f31.1.2.1 296 kR_220_296).trans ((uRowNe f29 296 (iS (show n10 = ((305 : Nat) : Int) from f20) rfl)).trans ((fRow f28.1.2.1 296 kR_223_296).trans ((fRow f19.1.2.1 296 kR_220_296).trans ((uRowNe f17 296 (iS (show n5 = ((300 : Nat) : Int) from f10) rfl)).trans (fRow f16.1.2.1 296 kR_223_296))))))))))
  have e153 : hV H12 297 = hV H1 297 := (uRowNe f57 297 (iS (show n26 = ((305 : Nat) : Int) from f46) rfl)).trans ((fRow f56.1.2.1 297 kR_223_297).trans ((fRow f45.1.2.1 297 kR_220_297).trans ((uRowNe f43 297 (iS (show n17 = ((305 : Nat) : Int) from f32) rfl)).trans ((fRow f42.1.2.1 297 kR_223_297).trans ((fRow f31.1.2.1 297 kR_220_297).trans ((uRowNe f29 297 (iS (show n10 = ((305 : Nat) : Int) from f20) rfl)).trans ((fRow f28.1.2.1 297 kR_223_297).trans ((fRow f19.1.2.1 297 kR_220_297).trans ((uRowNe f17 297 (iS (show n5 = ((300 : Nat) : Int) from f10) rfl)).trans (fRow f16.1.2.1 297 kR_223_297))))))))))
  have e174 : hV H12 298 = hV H1 298 := (uRowNe f57 298 (iS (show n26 = ((305 : Nat) : Int) from f46) rfl)).trans ((fRow f56.1.2.1 298 kR_223_298).trans ((fRow f45.1.2.1 298 kR_220_298).trans ((uRowNe f43 298 (iS (show n17 = ((305 : Nat) : Int) from f32) rfl)).trans ((fRow f42.1.2.1 298 kR_223_298).trans ((fRow f31.1.2.1 298 kR_220_298).trans ((uRowNe f29 298 (iS (show n10 = ((305 : Nat) : Int) from f20) rfl)).trans ((fRow f28.1.2.1 298 kR_223_298).trans ((fRow f19.1.2.1 298 kR_220_298).trans ((uRowNe f17 298 (iS (show n5 = ((300 : Nat) : Int) from f10) rfl)).trans (fRow f16.1.2.1 298 kR_223_298))))))))))
  have e195 : hV H12 300 = (uF (hV H1 300) n1 n8) := (uRowNe f57 300 (iS (show n26 = ((305 : Nat) : Int) from f46) rfl)).trans ((fRow f56.1.2.1 300 kR_223_300).trans ((fRow f45.1.2.1 300 kR_220_300).trans ((uRowNe f43 300 (iS (show n17 = ((305 : Nat) : Int) from f32) rfl)).trans ((fRow f42.1.2.1 300 kR_223_300).trans ((fRow f31.1.2.1 300 kR_220_300).trans ((uRowNe f29 300 (iS (show n10 = ((305 : Nat) : Int) from f20) rfl)).trans ((fRow f28.1.2.1 300 kR_223_300).trans ((fRow f19.1.2.1 300 kR_220_300).trans ((uRow f17 300 f10.symm).trans (congrArg (fun z => uF z n1 n8) (fRow f16.1.2.1 300 kR_223_300)))))))))))
  have e216 : hV H12 301 = hV H1 301 := (uRowNe f57 301 (iS (show n26 = ((305 : Nat) : Int) from f46) rfl)).trans ((fRow f56.1.2.1 301 kR_223_301).trans ((fRow f45.1.2.1 301 kR_220_301).trans ((uRowNe f43 301 (iS (show n17 = ((305 : Nat) : Int) from f32) rfl)).trans ((fRow f42.1.2.1 301 kR_223_301).trans ((fRow f31.1.2.1 301 kR_220_301).trans ((uRowNe f29 301 (iS (show n10 = ((305 : Nat) : Int) from f20) rfl)).trans ((fRow f28.1.2.1 301 kR_223_301).trans ((fRow f19.1.2.1 301 kR_220_301).trans ((uRowNe f17 301 (iS (show n5 = ((300 : Nat) : Int) from f10) rfl)).trans (fRow f16.1.2.1 301 kR_223_301))))))))))
  have e237 : hV H12 302 = hV H1 302 := (uRowNe f57 302 (iS (show n26 = ((305 : Nat) : Int) from f46) rfl)).trans ((fRow f56.1.2.1 302 kR_223_302).trans ((fRow f45.1.2.1 302 kR_220_302).trans ((uRowNe f43 302 (iS (show n17 = ((305 : Nat) : Int) from f32) rfl)).trans ((fRow f42.1.2.1 302 kR_223_302).trans ((fRow f31.1.2.1 302 kR_220_302).trans ((uRowNe f29 302 (iS (show n10 = ((305 : Nat) : Int) from f20) rfl)).trans ((fRow f28.1.2.1 302 kR_223_302).trans ((fRow f19.1.2.1 302 kR_220_302).trans ((uRowNe f17 302 (iS (show n5 = ((300 : Nat) : Int) from f10) rfl)).trans (fRow f16.1.2.1 302 kR_223_302))))))))))
  have e258 : hV H12 303 = hV H1 303 := (uRowNe f57 303 (iS (show n26 = ((305 : Nat) : Int) from f46) rfl)).trans ((fRow f56.1.2.1 303 kR_223_303).trans ((fRow f45.1.2.1 303 kR_220_303).trans ((uRowNe f43 303 (iS (show n17 = ((305 : Nat) : Int) from f32) rfl)).trans ((fRow f42.1.2.1 303 kR_223_303).trans ((fRow f31.1.2.1 303 kR_220_303).trans ((uRowNe f29 303 (iS (show n10 = ((305 : Nat) : Int) from f20) rfl)).trans ((fRow f28.1.2.1 303 kR_223_303).trans ((fRow f19.1.2.1 303 kR_220_303).trans ((uRowNe f17 303 (iS (show n5 = ((300 : Nat) : Int) from f10) rfl)).trans (fRow f16.1.2.1 303 kR_223_303))))))))))
  have e279 : hV H12 305 = (uF (uF (uF (hV H1 305) n12 n15) n21 n24) n30 n33) := (uRow f57 305 f46.symm).trans (congrArg (fun z => uF z n30 n33) ((fRow f56.1.2.1 305 kR_223_305).trans ((fRow f45.1.2.1 305 kR_220_305).trans ((uRow f43 305 f32.symm).trans (congrArg (fun z => uF z n21 n24) ((fRow f42.1.2.1 305 kR_223_305).trans ((fRow f31.1.2.1 305 kR_220_305).trans ((uRow f29 305 f20.symm).trans (congrArg (fun z => uF z n12 n15) ((fRow f28.1.2.1 305 kR_223_305).trans ((fRow f19.1.2.1 305 kR_220_305).trans ((uRowNe f17 305 (iS (show n5 = ((300 : Nat) : Int) from f10) rfl)).trans (fRow f16.1.2.1 305 kR_223_305)))))))))))))
  have e301 : hV H12 328 = hV H0 328 := (uRowNe f57 328 (iS (show n26 = ((305 : Nat) : Int) from f46) rfl)).trans ((fRow f56.1.2.1 328 kR_223_328).trans ((fRow f45.1.2.1 328 kR_220_328).trans ((uRowNe f43 328 (iS (show n17 = ((305 : Nat) : Int) from f32) rfl)).trans ((fRow f42.1.2.1 328 kR_223_328).trans ((fRow f31.1.2.1 328 kR_220_328).trans ((uRowNe f29 328 (iS (show n10 = ((305 : Nat) : Int) from f20) rfl)).trans ((fRow f28.1.2.1 328 kR_223_328).trans ((fRow f19.1.2.1 328 kR_220_328).trans ((uRowNe f17 328 (iS (show n5 = ((300 : Nat) : Int) from f10) rfl)).trans ((fRow f16.1.2.1 328 kR_223_328).trans e9))))))))))
  have e323 : hV H12 332 = hV H0 332 := (uRowNe f57 332 (iS (show n26 = ((305 : Nat) : Int) from f46) rfl)).trans ((fRow f56.1.2.1 332 kR_223_332).trans ((fRow f45.1.2.1 332 kR_220_332).trans ((uRowNe f43 332 (iS (show n17 = ((305 : Nat) : Int) from f32) rfl)).trans ((fRow f42.1.2.1 332 kR_223_332).trans ((fRow f31.1.2.1 332 kR_220_332).trans ((uRowNe f29 332 (iS (show n10 = ((305 : Nat) : Int) from f20) rfl)).trans ((fRow f28.1.2.1 332 kR_223_332).trans ((fRow f19.1.2.1 332 kR_220_332).trans ((uRowNe f17 332 (iS (show n5 = ((300 : Nat) : Int) from f10) rfl)).trans ((fRow f16.1.2.1 332 kR_223_332).trans e10))))))))))
  have e345 : hV H12 335 = hV H0 335 := (uRowNe f57 335 (iS (show n26 = ((305 : Nat) : Int) from f46) rfl)).trans ((fRow f56.1.2.1 335 kR_223_335).trans ((fRow f45.1.2.1 335 kR_220_335).trans ((uRowNe f43 335 (iS (show n17 = ((305 : Nat) : Int) from f32) rfl)).trans ((fRow f42.1.2.1 335 kR_223_335).trans ((fRow f31.1.2.1 335 kR_220_335).trans ((uRowNe f29 335 (iS (show n10 = ((305 : Nat) : Int) from f20) rfl)).trans ((fRow f28.1.2.1 335 kR_223_335).trans ((fRow f19.1.2.1 335 kR_220_335).trans ((uRowNe f17 335 (iS (show n5 = ((300 : Nat) : Int) from f10) rfl)).trans ((fRow f16.1.2.1 335 kR_223_335).trans e11))))))))))
  have e347 : hV H3 285 11 = hV H2 285 11 := (uPlace f17 285 11 (iS (show n5 = ((300 : Nat) : Int) from f10) rfl))
  have e349 : hV H3 285 13 = hV H2 285 13 := (uPlace f17 285 13 (iS (show n5 = ((300 : Nat) : Int) from f10) rfl))
  have e352 : hV H4 285 15 = hV H2 285 15 := ((f19.1.2.1.1 285 15 kF_220_285_15)).trans (uPlace f17 285 15 (iS (show n5 = ((300 : Nat) : Int) from f10) rfl))
  have e354 : hV H6 285 11 = hV H5 285 11 := (uPlace f29 285 11 (iS (show n10 = ((305 : Nat) : Int) from f20) rfl))
  have e356 : hV H6 285 13 = hV H5 285 13 := (uPlace f29 285 13 (iS (show n10 = ((305 : Nat) : Int) from f20) rfl))
  have e359 : hV H7 285 15 = hV H5 285 15 := ((f31.1.2.1.1 285 15 kF_220_285_15)).trans (uPlace f29 285 15 (iS (show n10 = ((305 : Nat) : Int) from f20) rfl))
  have e361 : hV H9 285 11 = hV H8 285 11 := (uPlace f43 285 11 (iS (show n17 = ((305 : Nat) : Int) from f32) rfl))
  have e363 : hV H9 285 13 = hV H8 285 13 := (uPlace f43 285 13 (iS (show n17 = ((305 : Nat) : Int) from f32) rfl))
  have e364 : PQ H2 = PQ H1 := PQ_fr f16.1.2.1 (by decide +kernel)
  have e365 : PQ H3 = PQ H2 := PQ_upR f17 (show n5 = ((300 : Nat) : Int) from f10) (by decide)
  have e366 : PQ H3 = PQ H1 := e365.trans e364
  have e367 : PQ H4 = PQ H3 := PQ_fr f19.1.2.1 (by decide +kernel)
  have e368 : PQ H4 = PQ H1 := e367.trans e366
  have e369 : PQ H5 = PQ H4 := PQ_fr f28.1.2.1 (by decide +kernel)
  have e370 : PQ H5 = PQ H1 := e369.trans e368
  have e371 : PQ H6 = PQ H5 := PQ_upR f29 (show n10 = ((305 : Nat) : Int) from f20) (by decide)
  have e372 : PQ H6 = PQ H1 := e371.trans e370
  have e373 : PQ H7 = PQ H6 := PQ_fr f31.1.2.1 (by decide +kernel)
  have e374 : PQ H7 = PQ H1 := e373.trans e372
  have e375 : PQ H8 = PQ H7 := PQ_fr f42.1.2.1 (by decide +kernel)
  have e376 : PQ H8 = PQ H1 := e375.trans e374
  have e377 : PQ H9 = PQ H8 := PQ_upR f43 (show n17 = ((305 : Nat) : Int) from f32) (by decide)
  have e378 : PQ H9 = PQ H1 := e377.trans e376
  have e379 : PQ H10 = PQ H9 := PQ_fr f45.1.2.1 (by decide +kernel)
  have e380 : PQ H10 = PQ H1 := e379.trans e378
  have e381 : PQ H11 = PQ H10 := PQ_fr f56.1.2.1 (by decide +kernel)
  have e382 : PQ H11 = PQ H1 := e381.trans e380
  have e383 : PQ H12 = PQ H11 := PQ_upR f57 (show n26 = ((305 : Nat) : Int) from f46) (by decide)
  have e384 : PQ H12 = PQ H1 := e383.trans e382
  have e385 : (0 : Int) ≤ hV H1 285 11 ∧ hV H1 285 11 ≤ 500 := f8.1.2.2 285 11 _ _ kW_285_11
  have e386 : (0 : Int) ≤ hV H1 285 13 ∧ hV H1 285 13 ≤ 2 := f8.1.2.2 285 13 _ _ kW_285_13
  have e387 : (0 : Int) ≤ hV H1 285 15 ∧ hV H1 285 15 ≤ 6 := f8.1.2.2 285 15 _ _ kW_285_15
  have e388 : (0 : Int) ≤ hV H0 285 18 ∧ hV H0 285 18 ≤ 8 := bTo e1 (f8.1.2.2 285 18 _ _ kW_285_18)
  have e389 : (0 : Int) ≤ hV H0 285 32 ∧ hV H0 285 32 ≤ 7 := bTo e3 (f8.1.2.2 285 32 _ _ kW_285_32)
  have e390 : (0 : Int) ≤ hV H0 285 33 ∧ hV H0 285 33 ≤ 62 := bTo e5 (f8.1.2.2 285 33 _ _ kW_285_33)
  have e391 : (0 : Int) ≤ hV H0 285 64 ∧ hV H0 285 64 ≤ 20 := bTo e7 (f8.1.2.2 285 64 _ _ kW_285_64)
  have e392 : (0 : Int) ≤ hV H10 285 11 ∧ hV H10 285 11 ≤ 500 := f45.1.2.2.2 285 11 _ _ kW_285_11
  have e393 : (0 : Int) ≤ hV H10 285 13 ∧ hV H10 285 13 ≤ 2 := f45.1.2.2.2 285 13 _ _ kW_285_13
  have e394 : (0 : Int) ≤ hV H8 285 15 ∧ hV H8 285 15 ≤ 6 := bTo e14 (f45.1.2.2.2 285 15 _ _ kW_285_15)
  have e396 : (0 : Int) ≤ hV H11 285 11 ∧ hV H11 285 11 ≤ 500 := f56.1.2.2.2 285 11 _ _ kW_285_11
  have e397 : (0 : Int) ≤ hV H11 285 13 ∧ hV H11 285 13 ≤ 2 := f56.1.2.2.2 285 13 _ _ kW_285_13
  have e398 : (0 : Int) ≤ hV H11 285 15 ∧ hV H11 285 15 ≤ 6 := f56.1.2.2.2 285 15 _ _ kW_285_15
  have e399 : (0 : Int) ≤ hV H2 285 11 ∧ hV H2 285 11 ≤ 500 := f16.1.2.2.2 285 11 _ _ kW_285_11
  have e400 : (0 : Int) ≤ hV H2 285 13 ∧ hV H2 285 13 ≤ 2 := f16.1.2.2.2 285 13 _ _ kW_285_13
  have e401 : (0 : Int) ≤ hV H2 285 15 ∧ hV H2 285 15 ≤ 6 := f16.1.2.2.2 285 15 _ _ kW_285_15
  have e402 : (0 : Int) ≤ hV H4 285 11 ∧ hV H4 285 11 ≤ 500 := f19.1.2.2.2 285 11 _ _ kW_285_11
  have e403 : (0 : Int) ≤ hV H4 285 13 ∧ hV H4 285 13 ≤ 2 := f19.1.2.2.2 285 13 _ _ kW_285_13
  have e405 : (0 : Int) ≤ hV H5 285 11 ∧ hV H5 285 11 ≤ 500 := f28.1.2.2.2 285 11 _ _ kW_285_11
  have e406 : (0 : Int) ≤ hV H5 285 13 ∧ hV H5 285 13 ≤ 2 := f28.1.2.2.2 285 13 _ _ kW_285_13
  have e407 : (0 : Int) ≤ hV H5 285 15 ∧ hV H5 285 15 ≤ 6 := f28.1.2.2.2 285 15 _ _ kW_285_15
  have e408 : (0 : Int) ≤ hV H7 285 11 ∧ hV H7 285 11 ≤ 500 := f31.1.2.2.2 285 11 _ _ kW_285_11
  have e409 : (0 : Int) ≤ hV H7 285 13 ∧ hV H7 285 13 ≤ 2 := f31.1.2.2.2 285 13 _ _ kW_285_13
  have e411 : (0 : Int) ≤ hV H8 285 11 ∧ hV H8 285 11 ≤ 500 := f42.1.2.2.2 285 11 _ _ kW_285_11
  have e412 : (0 : Int) ≤ hV H8 285 13 ∧ hV H8 285 13 ≤ 2 := f42.1.2.2.2 285 13 _ _ kW_285_13
  try simp only [PA, PW]
  try simp only [e37, e39, e41, e53, e65, e77, e89, e111, e132, e153, e174, e195, e216, e237, e258, e279, e301, e323, e345, e384]
  have y0 := g4.1
  have y1 := g4.2.1
  have y2 := g4.2.2.1
  have y3 := g4.2.2.2.1
  have y4 := g4.2.2.2.2.1
  have y5 := g4.2.2.2.2.2.1
  have y6 := g4.2.2.2.2.2.2.1
  have y7 := g4.2.2.2.2.2.2.2.1
  have y8 := g4.2.2.2.2.2.2.2.2.1
  have y9 := g4.2.2.2.2.2.2.2.2.2.1
  have y10 := g4.2.2.2.2.2.2.2.2.2.2.1
  have y11 := g4.2.2.2.2.2.2.2.2.2.2.2.1
  have y12 := g4.2.2.2.2.2.2.2.2.2.2.2.2.1
  have y13 := g4.2.2.2.2.2.2.2.2.2.2.2.2.2
  have p0 := g3.1
  have p1 := g3.2.1
  have p2 := g3.2.2.1
  have p3 := g3.2.2.2.1
  have p4 := g3.2.2.2.2.1
  have p5 := g3.2.2.2.2.2.1
  have p6 := g3.2.2.2.2.2.2
  have r0_0 := f16.2.1
  have r0_1 := f16.2.2.1
  have r0_2 := f16.2.2.2.1
  have r0_3 := f16.2.2.2.2.1
  have r0_4 := f16.2.2.2.2.2.1
  have r0_5 := f16.2.2.2.2.2.2.1
  have r0_6 := f16.2.2.2.2.2.2.2.1
  have r1_0 := f19.2.1
  have r1_1 := f19.2.2.1
  have r1_2 := f19.2.2.2.1
  have r1_3 := f19.2.2.2.2.1
  have r2_0 := f28.2.1
  have r2_1 := f28.2.2.1
  have r2_2 := f28.2.2.2.1
  have r2_3 := f28.2.2.2.2.1
  have r2_4 := f28.2.2.2.2.2.1
  have r2_5 := f28.2.2.2.2.2.2.1
  have r2_6 := f28.2.2.2.2.2.2.2.1
  have r3_0 := f31.2.1
  have r3_1 := f31.2.2.1
  have r3_2 := f31.2.2.2.1
  have r3_3 := f31.2.2.2.2.1
  have r4_0 := f42.2.1
  have r4_1 := f42.2.2.1
  have r4_2 := f42.2.2.2.1
  have r4_3 := f42.2.2.2.2.1
  have r4_4 := f42.2.2.2.2.2.1
  have r4_5 := f42.2.2.2.2.2.2.1
  have r4_6 := f42.2.2.2.2.2.2.2.1
  have r5_0 := f45.2.1
  have r5_1 := f45.2.2.1
  have r5_2 := f45.2.2.2.1
  have r5_3 := f45.2.2.2.2.1
  have r6_0 := f56.2.1
  have r6_1 := f56.2.2.1
  have r6_2 := f56.2.2.2.1
  have r6_3 := f56.2.2.2.2.1
  have r6_4 := f56.2.2.2.2.2.1
  have r6_5 := f56.2.2.2.2.2.2.1
  have r6_6 := f56.2.2.2.2.2.2.2.1
  try simp only [PA] at y0
  try simp only [PW] at y1
  try simp only [PA] at p0
  try simp only [PW] at p5
  try simp only [e1, e7, e8, e9, e10, e11] at y0
  try simp only [e3, e5, e8] at y1
  try simp only [e5] at y8
  try simp only [e5] at y9
  try simp only [e347] at r1_0
  try simp only [e347] at r1_1
  try simp only [e349] at r1_2
  try simp only [e347] at r1_3
  try simp only [e352] at r2_4
  try simp only [e354] at r3_0
  try simp only [e354] at r3_1
  try simp only [e356] at r3_2
  try simp only [e354] at r3_3
  try simp only [e359] at r4_4
  try simp only [e361] at r5_0
  try simp only [e361] at r5_1
  try simp only [e363] at r5_2
  try simp only [e361] at r5_3
  try simp only [e14] at r6_4
  clear g3
  clear g4
  have wb0 := (y2 (hV H0 285 32).toNat).1
  have wp0 := (y2 (hV H0 285 33).toNat).2
  try simp only [e1, e3, e5, e7, e8, e9, e10, e11] at wb0
  try simp only [e1, e3, e5, e7, e8, e9, e10, e11] at wp0
  clear f11 f21 f33 f47 e1 e3 e5 e7 e8 e9 e10 e11 e14 e37 e39 e41 e53 e65 e77 e89 e111 e132 e153 e174 e195 e216 e237 e258 e279 e301 e323 e345 e347 e349 e352 e354 e356 e359 e361 e363 e364 e365 e366 e367 e368 e369 e370 e371 e372 e373 e374 e375 e376 e377 e378 e379 e380 e381 e382 e383 e384
  clear f8 f16 f19 f28 f31 f42 f45 f56
  rw [f22] at f23
  rw [f34] at f35
  rw [f48] at f49
  first
  | (have ix0 : n12 = 6 * n1 := Eq.trans f23 (w32_iv (Iml 6 rfl (Iat f3 f2)) (by decide)); subst ix0; clear f23)
  | (have ix0 : n12 = 6 * n1 := Eq.trans f23 (w32_id (by omega) (by omega)); subst ix0; clear f23)
  | (unfold w32 at f23; have ix0 : n12 = 6 * n1 := (by omega); subst ix0)
  | skip
  first
  | (have ix1 : n19 = 6 * n1 := Eq.trans f35 (w32_iv (Iml 6 rfl (Iat f3 f2)) (by decide)); subst ix1; clear f35)
  | (have ix1 : n19 = 6 * n1 := Eq.trans f35 (w32_id (by omega) (by omega)); subst ix1; clear f35)
  | (unfold w32 at f35; have ix1 : n19 = 6 * n1 := (by omega); subst ix1)
  | skip
  first
  | (have ix2 : n21 = (6 * n1) + 1 := Eq.trans f37 (w32_iv (Iad (Iml 6 rfl (Iat f3 f2)) (IC 1)) (by decide)); subst ix2; clear f37)
  | (have ix2 : n21 = (6 * n1) + 1 := Eq.trans f37 (w32_id (by omega) (by omega)); subst ix2; clear f37)
  | (unfold w32 at f37; have ix2 : n21 = (6 * n1) + 1 := (by omega); subst ix2)
  | skip
  first
  | (have ix3 : n28 = 6 * n1 := Eq.trans f49 (w32_iv (Iml 6 rfl (Iat f3 f2)) (by decide)); subst ix3; clear f49)
  | (have ix3 : n28 = 6 * n1 := Eq.trans f49 (w32_id (by omega) (by omega)); subst ix3; clear f49)
  | (unfold w32 at f49; have ix3 : n28 = 6 * n1 := (by omega); subst ix3)
  | skip
  first
  | (have ix4 : n30 = (6 * n1) + 2 := Eq.trans f51 (w32_iv (Iad (Iml 6 rfl (Iat f3 f2)) (IC 2)) (by decide)); subst ix4; clear f51)
  | (have ix4 : n30 = (6 * n1) + 2 := Eq.trans f51 (w32_id (by omega) (by omega)); subst ix4; clear f51)
  | (unfold w32 at f51; have ix4 : n30 = (6 * n1) + 2 := (by omega); subst ix4)
  | skip
  try unfold w32 at f23
  try unfold w32 at f35
  try unfold w32 at f37
  try unfold w32 at f49
  try unfold w32 at f51

  refine ⟨⟨?_, ?_, ?_, ?_, ?_⟩, fun q hq => ?_⟩
  · refine PA_cn ?_ (by omega)
    refine PA_cn ?_ (by omega)
    refine PA_cn ?_ (by omega)
    refine PA_cw ?_ (by omega)
    exact y0
  · intro z1 z2
    refine PW_cn ?_ (by omega) (by omega) (by omega) (by omega)
    refine PW_cn ?_ (by omega) (by omega) (by omega) (by omega)
    refine PW_cn ?_ (by omega) (by omega) (by omega) (by omega)
    refine PW_cw ?_ (by omega) (by omega) (by omega) (by omega)
    exact y1 (by omega) (by omega)
  · exact y2
  · intro z1 z2
    (try clear y0 y1 y2 p0 p5 p6)
    refine WN_dip (by omega) ?_ ?_ ?_ ?_ ?_ (by omega) <;> first | (simp only [uF_at]; omega) | omega
  · (try clear y0 y1 y2 p0 p5 p6)
    first
    | omega
    | (refine ⟨?_, ?_, ?_, ?_, ?_, ?_, ?_⟩ <;> first | exact True.intro | omega)
  · (try clear y0 y1 y2 p0 p5 p6)
    have g6 := Option.some.inj hq
    subst g6
    omega
def g_227_180_20 : vG := ([(80, [26, 30, 33], [12, 11], 0), (1223, [33, 1, 31, 32], [10, 11], 0), (90, [33], [], 0), (91, [33], [], 9999), (0, [32], [], 60), (0, [31], [], 0), (1, [30, 28, 29], [], 0), (0, [29], [], 2), (3, [28, 27, 3], [], 0), (0, [27], [], 6), (20, [26, 1], [10], 31), (0, [26], [], 305), (1220, [1, 25], [9, 10], 0), (0, [25], [], 36), (80, [17, 21, 24], [9, 8], 0), (1223, [24, 1, 22, 23], [7, 8], 0), (90, [24], [], 0), (91, [24], [], 9999), (0, [23], [], 400), (0, [22], [], 0), (1, [21, 19, 20], [], 0), (0, [20], [], 1), (3, [19, 18, 3], [], 0), (0, [18], [], 6), (20, [17, 1], [7], 31), (0, [17], [], 305), (1220, [1, 16], [6, 7], 0), (0, [16], [], 35), (80, [10, 12, 15], [6, 5], 0), (1223, [15, 1, 13, 14], [4, 5], 0), (90, [15], [], 0), (91, [15], [], 9999), (0, [14], [], 2), (0, [13], [], 0), (3, [12, 11, 3], [], 0), (0, [11], [], 6), (20, [10, 1], [4], 31), (0, [10], [], 305), (1220, [1, 9], [3, 4], 0), (0, [9], [], 34), (80, [5, 3, 8], [3, 2], 0), (1223, [8, 1, 6, 7], [1, 2], 0), (90, [8], [], 0), (91, [8], [], 9999), (0, [7], [], 2), (0, [6], [], 0), (20, [5, 1], [1], 26), (0, [5], [], 300), (0, [2], [], 2), (5000, [0, 1, 2, 3, 4], [0, 1], 180), (0, [0], [], 285), (0, [1], [], 285), (90, [2], [], 0), (91, [2], [], 5), (90, [3], [], 0), (91, [3], [], 1007), (90, [4], [], 1), (91, [4], [], 1)], (4000, [1, 2, 3, 4], [12], 567))
theorem c_227_180_20 {q0 : Nat} : vOkm T0 (eP e_227 L_227 A_227 mu_227 (some q0)) 1 g_227_180_20 := vOk_inI fun ρ η f0 f1 f2 f3 f4 f5 f6 f7 f8 f9 f10 f11 f12 f13 f14 f15 f16 f17 f18 f19 f20 f21 f22 f23 f24 f25 f26 f27 f28 f29 f30 f31 f32 f33 f34 f35 f36 f37 f38 f39 f40 f41 f42 f43 f44 f45 f46 f47 f48 f49 f50 f51 f52 f53 f54 f55 f56 f57 => q_227_41 (q0 := q0) (n0 := ρ 4) (n1 := ρ 3) (n2 := ρ 2) (n3 := ρ 1) (n4 := ρ 0) (n5 := ρ 5) (n6 := ρ 6) (n7 := ρ 7) (n8 := ρ 8) (n9 := ρ 9) (n10 := ρ 10) (n11 := ρ 11) (n12 := ρ 12) (n13 := ρ 13) (n14 := ρ 14) (n15 := ρ 15) (n16 := ρ 16) (n17 := ρ 17) (n18 := ρ 18) (n19 := ρ 19) (n20 := ρ 20) (n21 := ρ 21) (n22 := ρ 22) (n23 := ρ 23) (n24 := ρ 24) (n25 := ρ 25) (n26 := ρ 26) (n27 := ρ 27) (n28 := ρ 28) (n29 := ρ 29) (n30 := ρ 30) (n31 := ρ 31) (n32 := ρ 32) (n33 := ρ 33) (H0 := η 0) (H1 := η 1) (H2 := η 2) (H3 := η 3) (H4 := η 4) (H5 := η 5) (H6 := η 6) (H7 := η 7) (H8 := η 8) (H9 := η 9) (H10 := η 10) (H11 := η 11) (H12 := η 12) f57 f56 f55 f54 f53 f52 f51 f50 f49 f48 f47 f46 f45 f44 f43 f42 f41 f40 f39 f38 f37 f36 f35 f34 f33 f32 f31 f30 f29 f28 f27 f26 f25 f24 f23 f22 f21 f20 f19 f18 f17 f16 f15 f14 f13 f12 f11 f10 f9 f8 f7 f6 f5 f4 f3 f2 f1 f0
set_option maxHeartbeats 20000000 in
theorem q_227_42 {q0 : Nat} {n0 n1 n2 n3 n4 : Int} {H0 H1 : gH} (f0 : n0 ≤ 1) (f1 : 1 ≤ n0) (f2 : n1 ≤ 1007) (f3 : 0 ≤ n1) (f4 : n2 ≤ 5) (f5 : 0 ≤ n2) (f6 : n3 = 285) (f7 : n4 = 285) (f8 : (hLe T0 H0 H1 ∧ hFr s_227.2.2.2.2 H0 H1 ∧ hWt T0 H1) ∧ (Ab_227_180 n4 n3 n2 n1 n0 H0 H1 ∧ preb_227 n4 H0) ∧ some q0 = some (mub_227_180 n4 n3 n2 n1 n0 H0 H1)) (f9 : n2 = 3) : preb_230 n3 n1 H1 := by
  have g4 := f8.2.1.1
  unfold Ab_227_180 at g4
  have g3 := f8.2.1.2
  unfold preb_227 at g3
  unfold preb_230
  have e1 : hV H1 285 18 = hV H0 285 18 := (f8.1.2.1.1 285 18 kF_227_285_18)
  have e3 : hV H1 285 32 = hV H0 285 32 := (f8.1.2.1.1 285 32 kF_227_285_32)
  have e5 : hV H1 285 33 = hV H0 285 33 := (f8.1.2.1.1 285 33 kF_227_285_33)
  have e6 : hV H1 294 = hV H0 294 := fRow f8.1.2.1 294 kR_227_294
  have e7 : (0 : Int) ≤ hV H1 285 11 ∧ hV H1 285 11 ≤ 500 := f8.1.2.2 285 11 _ _ kW_285_11
  have e8 : (0 : Int) ≤ hV H1 285 13 ∧ hV H1 285 13 ≤ 2 := f8.1.2.2 285 13 _ _ kW_285_13
  have e9 : (0 : Int) ≤ hV H1 285 15 ∧ hV H1 285 15 ≤ 6 := f8.1.2.2 285 15 _ _ kW_285_15
  have e10 : (0 : Int) ≤ hV H0 285 18 ∧ hV H0 285 18 ≤ 8 := bTo e1 (f8.1.2.2 285 18 _ _ kW_285_18)
  have e11 : (0 : Int) ≤ hV H0 285 32 ∧ hV H0 285 32 ≤ 7 := bTo e3 (f8.1.2.2 285 32 _ _ kW_285_32)
  have e12 : (0 : Int) ≤ hV H0 285 33 ∧ hV H0 285 33 ≤ 62 := bTo e5 (f8.1.2.2 285 33 _ _ kW_285_33)
  try simp only [e1, e3, e5, e6]
  have y0 := g4.1
  have y1 := g4.2.1
  have y2 := g4.2.2.1
  have y3 := g4.2.2.2.1
  have y4 := g4.2.2.2.2.1
  have y5 := g4.2.2.2.2.2.1
  have y6 := g4.2.2.2.2.2.2.1
  have y7 := g4.2.2.2.2.2.2.2.1
  have y8 := g4.2.2.2.2.2.2.2.2.1
  have y9 := g4.2.2.2.2.2.2.2.2.2.1
  have y10 := g4.2.2.2.2.2.2.2.2.2.2.1
  have y11 := g4.2.2.2.2.2.2.2.2.2.2.2.1
  have y12 := g4.2.2.2.2.2.2.2.2.2.2.2.2.1
  have y13 := g4.2.2.2.2.2.2.2.2.2.2.2.2.2
  have p0 := g3.1
  have p1 := g3.2.1
  have p2 := g3.2.2.1
  have p3 := g3.2.2.2.1
  have p4 := g3.2.2.2.2.1
  have p5 := g3.2.2.2.2.2.1
  have p6 := g3.2.2.2.2.2.2
  try simp only [e5] at y8
  try simp only [e5] at y9
  clear g3
  clear g4
  have wb0 := (y2 (hV H0 285 32).toNat).1
  have wp0 := (y2 (hV H0 285 33).toNat).2
  try simp only [e1, e3, e5, e6] at wb0
  try simp only [e1, e3, e5, e6] at wp0
  clear e1 e3 e5 e6
  clear f8

  refine ⟨?_, ?_, ?_, ?_, ?_, ?_, ?_, ?_⟩
  · exact y0
  · (try clear y0 y1 y2 p0 p5 p6)
    first | exact True.intro | omega
  · (try clear y0 y1 y2 p0 p5 p6)
    first | exact True.intro | omega
  · (try clear y0 y1 y2 p0 p5 p6)
    first | exact True.intro | omega
  · (try clear y0 y1 y2 p0 p5 p6)
    first | exact True.intro | omega
  · intro z1 z2
    exact y1 (by omega) (by omega)
  · (try clear y0 y1 y2 p0 p5 p6)
    first | exact True.intro | omega
  · exact y2

def g_227_180_21 : vG := ([(0, [2], [], 3), (5000, [0, 1, 2, 3, 4], [0, 1], 180), (0, [0], [], 285), (0, [1], [], 285), (90, [2], [], 0), (91, [2], [], 5), (90, [3], [], 0), (91, [3], [], 1007), (90, [4], [], 1), (91, [4], [], 1)], (2230, [1, 3], [1], 0))
theorem c_227_180_21 {q0 : Nat} : vOkm T0 (eP e_227 L_227 A_227 mu_227 (some q0)) 1 g_227_180_21 := vOk_inI fun ρ η f0 f1 f2 f3 f4 f5 f6 f7 f8 f9 => q_227_42 (q0 := q0) (n0 := ρ 4) (n1 := ρ 3) (n2 := ρ 2) (n3 := ρ 1) (n4 := ρ 0) (H0 := η 0) (H1 := η 1) f9 f8 f7 f6 f5 f4 f3 f2 f1 f0
set_option maxHeartbeats 20000000 in
theorem q_227_43 {q0 : Nat} {n0 n1 n2 n3 n4 : Int} {H0 H1 H2 : gH} (f0 : n0 ≤ 1) (f1 : 1 ≤ n0) (f2 : n1 ≤ 1007) (f3 : 0 ≤ n1) (f4 : n2 ≤ 5) (f5 : 0 ≤ n2) (f6 : n3 = 285) (f7 : n4 = 285) (f8 : (hLe T0 H0 H1 ∧ hFr s_227.2.2.2.2 H0 H1 ∧ hWt T0 H1) ∧ (Ab_227_180 n4 n3 n2 n1 n0 H0 H1 ∧ preb_227 n4 H0) ∧ some q0 = some (mub_227_180 n4 n3 n2 n1 n0 H0 H1)) (f9 : n2 = 3) (f10 : (hLe T0 H1 H2 ∧ hFr s_230.2.2.2.2 H1 H2 ∧ ((0 : Int) = 0 → H2.length = H1.length) ∧ hWt T0 H2) ∧ postb_230 n3 n1 H1 H2) : Ab_227_567 n4 n3 n2 n1 n0 H0 H2 ∧ ∀ q, some q0 = some q → mub_227_567 n4 n3 n2 n1 n0 H0 H2 < q := by
  have g4 := f8.2.1.1
  unfold Ab_227_180 at g4
  have g3 := f8.2.1.2
  unfold preb_227 at g3
  have g5 := Option.some.inj f8.2.2
  unfold mub_227_180 at g5
  unfold postb_230 at f10
  unfold Ab_227_567
  unfold mub_227_567
  have e1 : hV H1 285 18 = hV H0 285 18 := (f8.1.2.1.1 285 18 kF_227_285_18)
  have e3 : hV H1 285 32 = hV H0 285 32 := (f8.1.2.1.1 285 32 kF_227_285_32)
  have e5 : hV H1 285 33 = hV H0 285 33 := (f8.1.2.1.1 285 33 kF_227_285_33)
  have e7 : hV H2 285 32 = hV H0 285 32 := ((f10.1.2.1.1 285 32 kF_230_285_32)).trans (f8.1.2.1.1 285 32 kF_227_285_32)
  have e9 : hV H2 285 33 = hV H0 285 33 := ((f10.1.2.1.1 285 33 kF_230_285_33)).trans (f8.1.2.1.1 285 33 kF_227_285_33)
  have e12 : hV H2 294 = hV H0 294 := (fRow f10.1.2.1 294 kR_230_294).trans (fRow f8.1.2.1 294 kR_227_294)
  have e13 : hV H2 296 = hV H1 296 := fRow f10.1.2.1 296 kR_230_296
  have e14 : hV H2 297 = hV H1 297 := fRow f10.1.2.1 297 kR_230_297
  have e15 : hV H2 298 = hV H1 298 := fRow f10.1.2.1 298 kR_230_298
  have e16 : hV H2 301 = hV H1 301 := fRow f10.1.2.1 301 kR_230_301
  have e17 : hV H2 302 = hV H1 302 := fRow f10.1.2.1 302 kR_230_302
  have e18 : hV H2 303 = hV H1 303 := fRow f10.1.2.1 303 kR_230_303
  have e19 : PQ H2 = PQ H1 := PQ_fr f10.1.2.1 (by decide +kernel)
  have e20 : (0 : Int) ≤ hV H1 285 11 ∧ hV H1 285 11 ≤ 500 := f8.1.2.2 285 11 _ _ kW_285_11
  have e21 : (0 : Int) ≤ hV H1 285 13 ∧ hV H1 285 13 ≤ 2 := f8.1.2.2 285 13 _ _ kW_285_13
  have e22 : (0 : Int) ≤ hV H1 285 15 ∧ hV H1 285 15 ≤ 6 := f8.1.2.2 285 15 _ _ kW_285_15
  have e23 : (0 : Int) ≤ hV H0 285 18 ∧ hV H0 285 18 ≤ 8 := bTo e1 (f8.1.2.2 285 18 _ _ kW_285_18)
  have e24 : (0 : Int) ≤ hV H0 285 32 ∧ hV H0 285 32 ≤ 7 := bTo e3 (f8.1.2.2 285 32 _ _ kW_285_32)
  have e25 : (0 : Int) ≤ hV H0 285 33 ∧ hV H0 285 33 ≤ 62 := bTo e5 (f8.1.2.2 285 33 _ _ kW_285_33)
  have e26 : (0 : Int) ≤ hV H2 285 11 ∧ hV H2 285 11 ≤ 500 := f10.1.2.2.2 285 11 _ _ kW_285_11
  have e27 : (0 : Int) ≤ hV H2 285 13 ∧ hV H2 285 13 ≤ 2 := f10.1.2.2.2 285 13 _ _ kW_285_13
  have e28 : (0 : Int) ≤ hV H2 285 15 ∧ hV H2 285 15 ≤ 6 := f10.1.2.2.2 285 15 _ _ kW_285_15
  try simp only [e7, e9, e12, e13, e14, e15, e16, e17, e18, e19]
  have y0 := g4.1
  have y1 := g4.2.1
  have y2 := g4.2.2.1
  have y3 := g4.2.2.2.1
  have y4 := g4.2.2.2.2.1
  have y5 := g4.2.2.2.2.2.1
  have y6 := g4.2.2.2.2.2.2.1
  have y7 := g4.2.2.2.2.2.2.2.1
  have y8 := g4.2.2.2.2.2.2.2.2.1
  have y9 := g4.2.2.2.2.2.2.2.2.2.1
  have y10 := g4.2.2.2.2.2.2.2.2.2.2.1
  have y11 := g4.2.2.2.2.2.2.2.2.2.2.2.1
  have y12 := g4.2.2.2.2.2.2.2.2.2.2.2.2.1
  have y13 := g4.2.2.2.2.2.2.2.2.2.2.2.2.2
  have p0 := g3.1
  have p1 := g3.2.1
  have p2 := g3.2.2.1
  have p3 := g3.2.2.2.1
  have p4 := g3.2.2.2.2.1
  have p5 := g3.2.2.2.2.2.1
  have p6 := g3.2.2.2.2.2.2
  have r0_0 := f10.2.1
  have r0_1 := f10.2.2.1
  have r0_2 := f10.2.2.2.1
  have r0_3 := f10.2.2.2.2.1
  have r0_4 := f10.2.2.2.2.2.1
  have r0_5 := f10.2.2.2.2.2.2.1
  have r0_6 := f10.2.2.2.2.2.2.2.1
  have r0_7 := f10.2.2.2.2.2.2.2.2.1
  have r0_8 := f10.2.2.2.2.2.2.2.2.2.1
  have r0_9 := f10.2.2.2.2.2.2.2.2.2.2.1
  have r0_10 := f10.2.2.2.2.2.2.2.2.2.2.2
  try simp only [e5] at y8
  try simp only [e5] at y9
  clear g3
  clear g4
  have wb0 := (y2 (hV H0 285 32).toNat).1
  have wp0 := (y2 (hV H0 285 33).toNat).2
  try simp only [e1, e3, e5] at wb0
  try simp only [e1, e3, e5] at wp0
  clear e1 e3 e5 e7 e9 e12 e13 e14 e15 e16 e17 e18 e19
  clear f8 f10

  refine ⟨⟨?_, ?_, ?_, ?_, ?_⟩, fun q hq => ?_⟩
  · exact r0_0
  · intro z1 z2
    exact r0_1 (by omega) (by omega)
  · exact y2
  · intro z1 z2
    (try clear y0 y1 y2 p0 p5 p6 r0_0 r0_1)
    refine WN_taps (by omega) ?_ ?_ ?_ ?_ (by omega) <;> first | (simp only [uF_at]; omega) | omega
  · (try clear y0 y1 y2 p0 p5 p6 r0_0 r0_1)
    first
    | omega
    | (refine ⟨?_, ?_, ?_, ?_, ?_, ?_, ?_⟩ <;> first | exact True.intro | omega)
  · (try clear y0 y1 y2 p0 p5 p6 r0_0 r0_1)
    have g6 := Option.some.inj hq
    subst g6
    omega
def g_227_180_22 : vG := ([(1230, [1, 3], [1, 2], 0), (0, [2], [], 3), (5000, [0, 1, 2, 3, 4], [0, 1], 180), (0, [0], [], 285), (0, [1], [], 285), (90, [2], [], 0), (91, [2], [], 5), (90, [3], [], 0), (91, [3], [], 1007), (90, [4], [], 1), (91, [4], [], 1)], (4000, [1, 2, 3, 4], [2], 567))
theorem c_227_180_22 {q0 : Nat} : vOkm T0 (eP e_227 L_227 A_227 mu_227 (some q0)) 1 g_227_180_22 := vOk_inI fun ρ η f0 f1 f2 f3 f4 f5 f6 f7 f8 f9 f10 => q_227_43 (q0 := q0) (n0 := ρ 4) (n1 := ρ 3) (n2 := ρ 2) (n3 := ρ 1) (n4 := ρ 0) (H0 := η 0) (H1 := η 1) (H2 := η 2) f10 f9 f8 f7 f6 f5 f4 f3 f2 f1 f0
set_option maxHeartbeats 20000000 in
theorem q_227_44 {q0 : Nat} {n0 n1 n2 n3 n4 n5 n6 n7 n8 : Int} {H0 H1 H2 H3 : gH} (f0 : n0 ≤ 1) (f1 : 1 ≤ n0) (f2 : n1 ≤ 1007) (f3 : 0 ≤ n1) (f4 : n2 ≤ 5) (f5 : 0 ≤ n2) (f6 : n3 = 285) (f7 : n4 = 285) (f8 : (hLe T0 H0 H1 ∧ hFr s_227.2.2.2.2 H0 H1 ∧ hWt T0 H1) ∧ (Ab_227_180 n4 n3 n2 n1 n0 H0 H1 ∧ preb_227 n4 H0) ∧ some q0 = some (mub_227_180 n4 n3 n2 n1 n0 H0 H1)) (f9 : n2 = 4) (f10 : n5 = 300) (f11 : n5 = hV H1 (n3).toNat 26) (f12 : n6 = 0) (f13 : n7 = 9999) (f14 : n8 ≤ 9999) (f15 : 0 ≤ n8) (f16 : (hLe T0 H1 H2 ∧ hFr s_223.2.2.2.2 H1 H2 ∧ ((0 : Int) = 0 → H2.length = H1.length) ∧ hWt T0 H2) ∧ postb_223 n8 n3 n6 n7 H1 H2) (f17 : hUpd H3 H2 n5 n1 n8) : Ab_227_567 n4 n3 n2 n1 n0 H0 H3 ∧ ∀ q, some q0 = some q → mub_227_567 n4 n3 n2 n1 n0 H0 H3 < q := by
  have g4 := f8.2.1.1
  unfold Ab_227_180 at g4
  have g3 := f8.2.1.2
  unfold preb_227 at g3
  have g5 := Option.some.inj f8.2.2
  unfold mub_227_180 at g5
  unfold postb_223 at f16
  unfold Ab_227_567
  unfold mub_227_567
  have e1 : hV H1 285 18 = hV H0 285 18 := (f8.1.2.1.1 285 18 kF_227_285_18)
  have e3 : hV H1 285 32 = hV H0 285 32 := (f8.1.2.1.1 285 32 kF_227_285_32)
  have e5 : hV H1 285 33 = hV H0 285 33 := (f8.1.2.1.1 285 33 kF_227_285_33)
  have e7 : hV H1 285 64 = hV H0 285 64 := (f8.1.2.1.1 285 64 kF_227_285_64)
  have e8 : hV H1 294 = hV H0 294 := fRow f8.1.2.1 294 kR_227_294
  have e9 : hV H1 328 = hV H0 328 := fRow f8.1.2.1 328 kR_227_328
  have e10 : hV H1 332 = hV H0 332 := fRow f8.1.2.1 332 kR_227_332
  have e11 : hV H1 335 = hV H0 335 := fRow f8.1.2.1 335 kR_227_335
  have e16 : hV H3 285 11 = hV H2 285 11 := (uPlace f17 285 11 (iS (show n5 = ((300 : Nat) : Int) from f10) rfl))
  have e18 : hV H3 285 13 = hV H2 285 13 := (uPlace f17 285 13 (iS (show n5 = ((300 : Nat) : Int) from f10) rfl))
  have e20 : hV H3 285 15 = hV H2 285 15 := (uPlace f17 285 15 (iS (show n5 = ((300 : Nat) : Int) from f10) rfl))
  have e23 : hV H3 285 18 = hV H0 285 18 := ((uPlace f17 285 18 (iS (show n5 = ((300 : Nat) : Int) from f10) rfl))).trans (((f16.1.2.1.1 285 18 kF_223_285_18)).trans (f8.1.2.1.1 285 18 kF_227_285_18))
  have e26 : hV H3 285 32 = hV H0 285 32 := ((uPlace f17 285 32 (iS (show n5 = ((300 : Nat) : Int) from f10) rfl))).trans (((f16.1.2.1.1 285 32 kF_223_285_32)).trans (f8.1.2.1.1 285 32 kF_227_285_32))
  have e29 : hV H3 285 33 = hV H0 285 33 := ((uPlace f17 285 33 (iS (show n5 = ((300 : Nat) : Int) from f10) rfl))).trans (((f16.1.2.1.1 285 33 kF_223_285_33)).trans (f8.1.2.1.1 285 33 kF_227_285_33))
  have e32 : hV H3 285 64 = hV H0 285 64 := ((uPlace f17 285 64 (iS (show n5 = ((300 : Nat) : Int) from f10) rfl))).trans (((f16.1.2.1.1 285 64 kF_223_285_64)).trans (f8.1.2.1.1 285 64 kF_227_285_64))
  have e36 : hV H3 294 = hV H0 294 := (uRowNe f17 294 (iS (show n5 = ((300 : Nat) : Int) from f10) rfl)).trans ((fRow f16.1.2.1 294 kR_223_294).trans e8)
  have e39 : hV H3 296 = hV H1 296 := (uRowNe f17 296 (iS (show n5 = ((300 : Nat) : Int) from f10) rfl)).trans (fRow f16.1.2.1 296 kR_223_296)
  have e42 : hV H3 297 = hV H1 297 := (uRowNe f17 297 (iS (show n5 = ((300 : Nat) : Int) from f10) rfl)).trans (fRow f16.1.2.1 297 kR_223_297)
  have e45 : hV H3 298 = hV H1 298 := (uRowNe f17 298 (iS (show n5 = ((300 : Nat) : Int) from f10) rfl)).trans (fRow f16.1.2.1 298 kR_223_298)
  have e48 : hV H3 300 = (uF (hV H1 300) n1 n8) := (uRow f17 300 f10.symm).trans (congrArg (fun z => uF z n1 n8) (fRow f16.1.2.1 300 kR_223_300))
  have e51 : hV H3 301 = hV H1 301 := (uRowNe f17 301 (iS (show n5 = ((300 : Nat) : Int) from f10) rfl)).trans (fRow f16.1.2.1 301 kR_223_301)
  have e54 : hV H3 302 = hV H1 302 := (uRowNe f17 302 (iS (show n5 = ((300 : Nat) : Int) from f10) rfl)).trans (fRow f16.1.2.1 302 kR_223_302)
  have e57 : hV H3 303 = hV H1 303 := (uRowNe f17 303 (iS (show n5 = ((300 : Nat) : Int) from f10) rfl)).trans (fRow f16.1.2.1 303 kR_223_303)
  have e60 : hV H3 305 = hV H1 305 := (uRowNe f17 305 (iS (show n5 = ((300 : Nat) : Int) from f10) rfl)).trans (fRow f16.1.2.1 305 kR_223_305)
  have e64 : hV H3 328 = hV H0 328 := (uRowNe f17 328 (iS (show n5 = ((300 : Nat) : Int) from f10) rfl)).trans ((fRow f16.1.2.1 328 kR_223_328).trans e9)
  have e68 : hV H3 332 = hV H0 332 := (uRowNe f17 332 (iS (show n5 = ((300 : Nat) : Int) from f10) rfl)).trans ((fRow f16.1.2.1 332 kR_223_332).trans e10)
  have e72 : hV H3 335 = hV H0 335 := (uRowNe f17 335 (iS (show n5 = ((300 : Nat) : Int) from f10) rfl)).trans ((fRow f16.1.2.1 335 kR_223_335).trans e11)
  have e73 : PQ H2 = PQ H1 := PQ_fr f16.1.2.1 (by decide +kernel)
  have e74 : PQ H3 = PQ H2 := PQ_upR f17 (show n5 = ((300 : Nat) : Int) from f10) (by decide)
  have e75 : PQ H3 = PQ H1 := e74.trans e73
  have e76 : (0 : Int) ≤ hV H1 285 11 ∧ hV H1 285 11 ≤ 500 := f8.1.2.2 285 11 _ _ kW_285_11
  have e77 : (0 : Int) ≤ hV H1 285 13 ∧ hV H1 285 13 ≤ 2 := f8.1.2.2 285 13 _ _ kW_285_13
  have e78 : (0 : Int) ≤ hV H1 285 15 ∧ hV H1 285 15 ≤ 6 := f8.1.2.2 285 15 _ _ kW_285_15
  have e79 : (0 : Int) ≤ hV H0 285 18 ∧ hV H0 285 18 ≤ 8 := bTo e1 (f8.1.2.2 285 18 _ _ kW_285_18)
  have e80 : (0 : Int) ≤ hV H0 285 32 ∧ hV H0 285 32 ≤ 7 := bTo e3 (f8.1.2.2 285 32 _ _ kW_285_32)
  have e81 : (0 : Int) ≤ hV H0 285 33 ∧ hV H0 285 33 ≤ 62 := bTo e5 (f8.1.2.2 285 33 _ _ kW_285_33)
  have e82 : (0 : Int) ≤ hV H0 285 64 ∧ hV H0 285 64 ≤ 20 := bTo e7 (f8.1.2.2 285 64 _ _ kW_285_64)
  have e83 : (0 : Int) ≤ hV H2 285 11 ∧ hV H2 285 11 ≤ 500 := f16.1.2.2.2 285 11 _ _ kW_285_11
  have e84 : (0 : Int) ≤ hV H2 285 13 ∧ hV H2 285 13 ≤ 2 := f16.1.2.2.2 285 13 _ _ kW_285_13
  have e85 : (0 : Int) ≤ hV H2 285 15 ∧ hV H2 285 15 ≤ 6 := f16.1.2.2.2 285 15 _ _ kW_285_15
  try simp only [PA, PW]
  try simp only [e16, e18, e20, e23, e26, e29, e32, e36, e39, e42, e45, e48, e51, e54, e57, e60, e64, e68, e72, e75]
  have y0 := g4.1
  have y1 := g4.2.1
  have y2 := g4.2.2.1
  have y3 := g4.2.2.2.1
  have y4 := g4.2.2.2.2.1
  have y5 := g4.2.2.2.2.2.1
  have y6 := g4.2.2.2.2.2.2.1
  have y7 := g4.2.2.2.2.2.2.2.1
  have y8 := g4.2.2.2.2.2.2.2.2.1
  have y9 := g4.2.2.2.2.2.2.2.2.2.1
  have y10 := g4.2.2.2.2.2.2.2.2.2.2.1
  have y11 := g4.2.2.2.2.2.2.2.2.2.2.2.1
  have y12 := g4.2.2.2.2.2.2.2.2.2.2.2.2.1
  have y13 := g4.2.2.2.2.2.2.2.2.2.2.2.2.2
  have p0 := g3.1
  have p1 := g3.2.1
  have p2 := g3.2.2.1
  have p3 := g3.2.2.2.1
  have p4 := g3.2.2.2.2.1
  have p5 := g3.2.2.2.2.2.1
  have p6 := g3.2.2.2.2.2.2
  have r0_0 := f16.2.1
  have r0_1 := f16.2.2.1
  have r0_2 := f16.2.2.2.1
  have r0_3 := f16.2.2.2.2.1
  have r0_4 := f16.2.2.2.2.2.1
  have r0_5 := f16.2.2.2.2.2.2.1
  have r0_6 := f16.2.2.2.2.2.2.2.1
  try simp only [PA] at y0
  try simp only [PW] at y1
  try simp only [PA] at p0
  try simp only [PW] at p5
  try simp only [e1, e7, e8, e9, e10, e11] at y0
  try simp only [e3, e5, e8] at y1
  try simp only [e5] at y8
  try simp only [e5] at y9
  clear g3
  clear g4
  have wb0 := (y2 (hV H0 285 32).toNat).1
  have wp0 := (y2 (hV H0 285 33).toNat).2
  try simp only [e1, e3, e5, e7, e8, e9, e10, e11] at wb0
  try simp only [e1, e3, e5, e7, e8, e9, e10, e11] at wp0
  clear f11 e1 e3 e5 e7 e8 e9 e10 e11 e16 e18 e20 e23 e26 e29 e32 e36 e39 e42 e45 e48 e51 e54 e57 e60 e64 e68 e72 e73 e74 e75
  clear f8 f16

  refine ⟨⟨?_, ?_, ?_, ?_, ?_⟩, fun q hq => ?_⟩
  · refine PA_cw ?_ (by omega)
    exact y0
  · intro z1 z2
    refine PW_cw ?_ (by omega) (by omega) (by omega) (by omega)
    exact y1 (by omega) (by omega)
  · exact y2
  · intro z1 z2
    (try clear y0 y1 y2 p0 p5 p6)
    refine WN_clip ?_ (by omega) <;> first | (simp only [uF_at]; omega) | omega
  · (try clear y0 y1 y2 p0 p5 p6)
    first
    | omega
    | (refine ⟨?_, ?_, ?_, ?_, ?_, ?_, ?_⟩ <;> first | exact True.intro | omega)
  · (try clear y0 y1 y2 p0 p5 p6)
    have g6 := Option.some.inj hq
    subst g6
    omega
def g_227_180_23 : vG := ([(80, [5, 3, 8], [3, 2], 0), (1223, [8, 1, 6, 7], [1, 2], 0), (90, [8], [], 0), (91, [8], [], 9999), (0, [7], [], 9999), (0, [6], [], 0), (20, [5, 1], [1], 26), (0, [5], [], 300), (0, [2], [], 4), (5000, [0, 1, 2, 3, 4], [0, 1], 180), (0, [0], [], 285), (0, [1], [], 285), (90, [2], [], 0), (91, [2], [], 5), (90, [3], [], 0), (91, [3], [], 1007), (90, [4], [], 1), (91, [4], [], 1)], (4000, [1, 2, 3, 4], [3], 567))
theorem c_227_180_23 {q0 : Nat} : vOkm T0 (eP e_227 L_227 A_227 mu_227 (some q0)) 1 g_227_180_23 := vOk_inI fun ρ η f0 f1 f2 f3 f4 f5 f6 f7 f8 f9 f10 f11 f12 f13 f14 f15 f16 f17 => q_227_44 (q0 := q0) (n0 := ρ 4) (n1 := ρ 3) (n2 := ρ 2) (n3 := ρ 1) (n4 := ρ 0) (n5 := ρ 5) (n6 := ρ 6) (n7 := ρ 7) (n8 := ρ 8) (H0 := η 0) (H1 := η 1) (H2 := η 2) (H3 := η 3) f17 f16 f15 f14 f13 f12 f11 f10 f9 f8 f7 f6 f5 f4 f3 f2 f1 f0
def p_227_180 : List vG := [g_227_180_0,
  g_227_180_1,
  g_227_180_2,
  g_227_180_3,
  g_227_180_4,
  g_227_180_5,
  g_227_180_6,
  g_227_180_7,
  g_227_180_8,
  g_227_180_9,
  g_227_180_10,
  g_227_180_11,
  g_227_180_12,
  g_227_180_13,
  g_227_180_14,
  g_227_180_15,
  g_227_180_16,
  g_227_180_17,
  g_227_180_18,
  g_227_180_19,
  g_227_180_20,
  g_227_180_21,
  g_227_180_22,
  g_227_180_23]
theorem r_227_180 : vCovO false (eRc e_227 L_227 cs_227 2000 (180, [(0, (3, 12, 285, 0)), (1, (0, 0, 5, 0)), (2, (0, 0, 1007, 0)), (3, (0, 1, 1, 0))])) p_227_180 = true := by decide +kernel
set_option maxHeartbeats 20000000 in
theorem q_227_45 {q0 : Nat} {n0 n1 n2 n3 n4 n5 n6 n7 n8 n9 n10 n11 n12 n13 n14 n15 n16 n17 n18 : Int} {H0 H1 : gH} (f0 : n0 ≤ 5) (f1 : (-1) ≤ n0) (f2 : n1 ≤ 500) (f3 : 0 ≤ n1) (f4 : n2 ≤ 1) (f5 : 1 ≤ n2) (f6 : n3 ≤ 1007) (f7 : 0 ≤ n3) (f8 : n4 ≤ 5) (f9 : 0 ≤ n4) (f10 : n5 = 285) (f11 : n6 = 285) (f12 : (hLe T0 H0 H1 ∧ hFr s_227.2.2.2.2 H0 H1 ∧ hWt T0 H1) ∧ (Ab_227_471 n6 n5 n4 n3 n2 n1 n0 H0 H1 ∧ preb_227 n6 H0) ∧ some q0 = some (mub_227_471 n6 n5 n4 n3 n2 n1 n0 H0 H1)) (f13 : n0 < 0) (f14 : n7 = 300) (f15 : n7 = hV H1 (n5).toNat 26) (f16 : n8 ≤ 9999) (f17 : (-1) ≤ n8) (f18 : n8 = hV H1 (n7).toNat (n3).toNat) (f19 : n9 = (-1)) (f20 : n8 ≠ n9) (f21 : n10 = 300) (f22 : n10 = hV H1 (n5).toNat 26) (f23 : n11 ≤ 9999) (f24 : (-1) ≤ n11) (f25 : n11 = hV H1 (n10).toNat (n3).toNat) (f26 : n12 = (-1)) (f27 : n11 ≠ n12) (f28 : n13 = 7) (f29 : n14 ≤ 7) (f30 : 0 ≤ n14) (f31 : n14 = hV H1 (n5).toNat 32) (f32 : n15 = w32 (n13 * n14)) (f33 : n16 = 300) (f34 : n16 = hV H1 (n5).toNat 26) (f35 : n17 ≤ 9999) (f36 : (-1) ≤ n17) (f37 : n17 = hV H1 (n16).toNat (n3).toNat) (f38 : n18 = w32 (n15 + n17)) : 0 ≤ n18 ∧ n18 < 63 := by
  have g4 := f12.2.1.1
  unfold Ab_227_471 at g4
  have g3 := f12.2.1.2
  unfold preb_227 at g3
  have e0 : n8 = hV H1 300 (n3).toNat := (by rw [f14] at f18; exact f18 : n8 = hV H1 300 (n3).toNat)
  have e1 : n11 = hV H1 300 (n3).toNat := (by rw [f21] at f25; exact f25 : n11 = hV H1 300 (n3).toNat)
  have e3 : n14 = hV H0 285 32 := (by rw [f10] at f31; exact f31 : n14 = hV H1 285 32).trans ((f12.1.2.1.1 285 32 kF_227_285_32))
  have e4 : n17 = hV H1 300 (n3).toNat := (by rw [f33] at f37; exact f37 : n17 = hV H1 300 (n3).toNat)
  have e6 : hV H1 285 18 = hV H0 285 18 := (f12.1.2.1.1 285 18 kF_227_285_18)
  have e7 : hV H1 285 32 = hV H0 285 32 := (f12.1.2.1.1 285 32 kF_227_285_32)
  have e9 : hV H1 285 33 = hV H0 285 33 := (f12.1.2.1.1 285 33 kF_227_285_33)
  have e10 : hV H1 294 = hV H0 294 := fRow f12.1.2.1 294 kR_227_294
  have e11 : (0 : Int) ≤ hV H1 285 11 ∧ hV H1 285 11 ≤ 500 := f12.1.2.2 285 11 _ _ kW_285_11
  have e12 : (0 : Int) ≤ hV H1 285 13 ∧ hV H1 285 13 ≤ 2 := f12.1.2.2 285 13 _ _ kW_285_13
  have e13 : (0 : Int) ≤ hV H1 285 15 ∧ hV H1 285 15 ≤ 6 := f12.1.2.2 285 15 _ _ kW_285_15
  have e14 : (0 : Int) ≤ hV H0 285 18 ∧ hV H0 285 18 ≤ 8 := bTo e6 (f12.1.2.2 285 18 _ _ kW_285_18)
  have e15 : (0 : Int) ≤ hV H0 285 32 ∧ hV H0 285 32 ≤ 7 := bTo e7 (f12.1.2.2 285 32 _ _ kW_285_32)
  have e16 : (0 : Int) ≤ hV H0 285 33 ∧ hV H0 285 33 ≤ 62 := bTo e9 (f12.1.2.2 285 33 _ _ kW_285_33)
  have y0 := g4.1
  have y1 := g4.2.1
  have y2 := g4.2.2.1
  have y3 := g4.2.2.2.1
  have y4 := g4.2.2.2.2.1
  have y5 := g4.2.2.2.2.2.1
  have y6 := g4.2.2.2.2.2.2.1
  have y7 := g4.2.2.2.2.2.2.2.1
  have y8 := g4.2.2.2.2.2.2.2.2.1
  have y9 := g4.2.2.2.2.2.2.2.2.2.1
  have y10 := g4.2.2.2.2.2.2.2.2.2.2.1
  have y11 := g4.2.2.2.2.2.2.2.2.2.2.2.1
  have y12 := g4.2.2.2.2.2.2.2.2.2.2.2.2.1
  have y13 := g4.2.2.2.2.2.2.2.2.2.2.2.2.2.1
  have y14 := g4.2.2.2.2.2.2.2.2.2.2.2.2.2.2.1
  have y15 := g4.2.2.2.2.2.2.2.2.2.2.2.2.2.2.2.1
  have y16 := g4.2.2.2.2.2.2.2.2.2.2.2.2.2.2.2.2.1
  have y17 := g4.2.2.2.2.2.2.2.2.2.2.2.2.2.2.2.2.2.1
  have y18 := g4.2.2.2.2.2.2.2.2.2.2.2.2.2.2.2.2.2.2
  have p0 := g3.1
  have p1 := g3.2.1
  have p2 := g3.2.2.1
  have p3 := g3.2.2.2.1
  have p4 := g3.2.2.2.2.1
  have p5 := g3.2.2.2.2.2.1
  have p6 := g3.2.2.2.2.2.2
  try simp only [e7, e10] at y9
  try simp only [e9] at y10
  try simp only [e9] at y11
  try simp only [e7, e10] at y18
  clear g3
  clear g4
  have wb0 := (y2 (hV H0 285 32).toNat).1
  have wp0 := (y2 (hV H0 285 33).toNat).2
  try simp only [e6, e7, e9, e10] at wb0
  try simp only [e6, e7, e9, e10] at wp0
  clear f15 f18 f22 f25 f31 f34 f37 e6 e7 e9 e10
  clear f12
  subst e0
  subst e1
  subst e3
  subst e4
  rw [f28] at f32
  first
  | (have ix0 : n15 = 7 * (hV H0 285 32) := Eq.trans f32 (w32_iv (Iml 7 rfl (Iat f30 f29)) (by decide)); subst ix0; clear f32)
  | (have ix0 : n15 = 7 * (hV H0 285 32) := Eq.trans f32 (w32_id (by omega) (by omega)); subst ix0; clear f32)
  | (unfold w32 at f32; have ix0 : n15 = 7 * (hV H0 285 32) := (by omega); subst ix0)
  | skip
  first
  | (have ix1 : n18 = (7 * (hV H0 285 32)) + hV H1 300 (n3).toNat := Eq.trans f38 (w32_iv (Iad (Iml 7 rfl (Iat f30 f29)) (Iat f17 f16)) (by decide)); subst ix1; clear f38)
  | (have ix1 : n18 = (7 * (hV H0 285 32)) + hV H1 300 (n3).toNat := Eq.trans f38 (w32_id (by omega) (by omega)); subst ix1; clear f38)
  | (unfold w32 at f38; have ix1 : n18 = (7 * (hV H0 285 32)) + hV H1 300 (n3).toNat := (by omega); subst ix1)
  | skip
  try unfold w32 at f32
  try unfold w32 at f38

  (try clear y0 y1 y2 p0 p5 p6)
  omega
def g_227_471_0 : vG := ([(1, [19, 16, 18], [], 0), (22, [18, 17, 3], [1], 0), (90, [18], [], -1), (91, [18], [], 9999), (20, [17, 1], [1], 26), (0, [17], [], 300), (3, [16, 14, 15], [], 0), (20, [15, 1], [1], 32), (90, [15], [], 0), (91, [15], [], 7), (0, [14], [], 7), (41, [11, 12], [], 0), (0, [12], [], -1), (22, [11, 10, 3], [1], 0), (90, [11], [], -1), (91, [11], [], 9999), (20, [10, 1], [1], 26), (0, [10], [], 300), (41, [8, 9], [], 0), (0, [9], [], -1), (22, [8, 7, 3], [1], 0), (90, [8], [], -1), (91, [8], [], 9999), (20, [7, 1], [1], 26), (0, [7], [], 300), (32, [6], [], 0), (5000, [0, 1, 2, 3, 4, 5, 6], [0, 1], 471), (0, [0], [], 285), (0, [1], [], 285), (90, [2], [], 0), (91, [2], [], 5), (90, [3], [], 0), (91, [3], [], 1007), (90, [4], [], 1), (91, [4], [], 1), (90, [5], [], 0), (91, [5], [], 500), (90, [6], [], -1), (91, [6], [], 5)], (70, [19], [], 63))
theorem c_227_471_0 {q0 : Nat} : vOkm T0 (eP e_227 L_227 A_227 mu_227 (some q0)) 1 g_227_471_0 := vOk_inI fun ρ η f0 f1 f2 f3 f4 f5 f6 f7 f8 f9 f10 f11 f12 f13 f14 f15 f16 f17 f18 f19 f20 f21 f22 f23 f24 f25 f26 f27 f28 f29 f30 f31 f32 f33 f34 f35 f36 f37 f38 => q_227_45 (q0 := q0) (n0 := ρ 6) (n1 := ρ 5) (n2 := ρ 4) (n3 := ρ 3) (n4 := ρ 2) (n5 := ρ 1) (n6 := ρ 0) (n7 := ρ 7) (n8 := ρ 8) (n9 := ρ 9) (n10 := ρ 10) (n11 := ρ 11) (n12 := ρ 12) (n13 := ρ 14) (n14 := ρ 15) (n15 := ρ 16) (n16 := ρ 17) (n17 := ρ 18) (n18 := ρ 19) (H0 := η 0) (H1 := η 1) f38 f37 f36 f35 f34 f33 f32 f31 f30 f29 f28 f27 f26 f25 f24 f23 f22 f21 f20 f19 f18 f17 f16 f15 f14 f13 f12 f11 f10 f9 f8 f7 f6 f5 f4 f3 f2 f1 f0
set_option maxHeartbeats 20000000 in
theorem q_227_46 {q0 : Nat} {n0 n1 n2 n3 n4 n5 n6 n7 n8 n9 n10 n11 n12 n13 n14 n15 n16 n17 n18 n19 n20 : Int} {H0 H1 : gH} (f0 : n0 ≤ 5) (f1 : (-1) ≤ n0) (f2 : n1 ≤ 500) (f3 : 0 ≤ n1) (f4 : n2 ≤ 1) (f5 : 1 ≤ n2) (f6 : n3 ≤ 1007) (f7 : 0 ≤ n3) (f8 : n4 ≤ 5) (f9 : 0 ≤ n4) (f10 : n5 = 285) (f11 : n6 = 285) (f12 : (hLe T0 H0 H1 ∧ hFr s_227.2.2.2.2 H0 H1 ∧ hWt T0 H1) ∧ (Ab_227_471 n6 n5 n4 n3 n2 n1 n0 H0 H1 ∧ preb_227 n6 H0) ∧ some q0 = some (mub_227_471 n6 n5 n4 n3 n2 n1 n0 H0 H1)) (f13 : n0 < 0) (f14 : n7 = 300) (f15 : n7 = hV H1 (n5).toNat 26) (f16 : n8 ≤ 9999) (f17 : (-1) ≤ n8) (f18 : n8 = hV H1 (n7).toNat (n3).toNat) (f19 : n9 = (-1)) (f20 : n8 ≠ n9) (f21 : n10 = 300) (f22 : n10 = hV H1 (n5).toNat 26) (f23 : n11 ≤ 9999) (f24 : (-1) ≤ n11) (f25 : n11 = hV H1 (n10).toNat (n3).toNat) (f26 : n12 = (-1)) (f27 : n11 ≠ n12) (f28 : n13 = 297) (f29 : n13 = hV H1 (n5).toNat 23) (f30 : n14 = 7) (f31 : n15 ≤ 7) (f32 : 0 ≤ n15) (f33 : n15 = hV H1 (n5).toNat 32) (f34 : n16 = w32 (n14 * n15)) (f35 : n17 = 300) (f36 : n17 = hV H1 (n5).toNat 26) (f37 : n18 ≤ 9999) (f38 : (-1) ≤ n18) (f39 : n18 = hV H1 (n17).toNat (n3).toNat) (f40 : n19 = w32 (n16 + n18)) (f41 : n20 ≤ 2000) (f42 : 0 ≤ n20) (f43 : n20 = hV H1 (n13).toNat (n19).toNat) : n20 ≤ 1000 := by
  have g4 := f12.2.1.1
  unfold Ab_227_471 at g4
  have g3 := f12.2.1.2
  unfold preb_227 at g3
  have e0 : n8 = hV H1 300 (n3).toNat := (by rw [f14] at f18; exact f18 : n8 = hV H1 300 (n3).toNat)
  have e1 : n11 = hV H1 300 (n3).toNat := (by rw [f21] at f25; exact f25 : n11 = hV H1 300 (n3).toNat)
  have e3 : n15 = hV H0 285 32 := (by rw [f10] at f33; exact f33 : n15 = hV H1 285 32).trans ((f12.1.2.1.1 285 32 kF_227_285_32))
  have e4 : n18 = hV H1 300 (n3).toNat := (by rw [f35] at f39; exact f39 : n18 = hV H1 300 (n3).toNat)
  have e5 : n20 = hV H1 297 (n19).toNat := (by rw [f28] at f43; exact f43 : n20 = hV H1 297 (n19).toNat)
  have e7 : hV H1 285 18 = hV H0 285 18 := (f12.1.2.1.1 285 18 kF_227_285_18)
  have e8 : hV H1 285 32 = hV H0 285 32 := (f12.1.2.1.1 285 32 kF_227_285_32)
  have e10 : hV H1 285 33 = hV H0 285 33 := (f12.1.2.1.1 285 33 kF_227_285_33)
  have e11 : hV H1 294 = hV H0 294 := fRow f12.1.2.1 294 kR_227_294
  have e12 : (0 : Int) ≤ hV H1 285 11 ∧ hV H1 285 11 ≤ 500 := f12.1.2.2 285 11 _ _ kW_285_11
  have e13 : (0 : Int) ≤ hV H1 285 13 ∧ hV H1 285 13 ≤ 2 := f12.1.2.2 285 13 _ _ kW_285_13
  have e14 : (0 : Int) ≤ hV H1 285 15 ∧ hV H1 285 15 ≤ 6 := f12.1.2.2 285 15 _ _ kW_285_15
  have e15 : (0 : Int) ≤ hV H0 285 18 ∧ hV H0 285 18 ≤ 8 := bTo e7 (f12.1.2.2 285 18 _ _ kW_285_18)
  have e16 : (0 : Int) ≤ hV H0 285 32 ∧ hV H0 285 32 ≤ 7 := bTo e8 (f12.1.2.2 285 32 _ _ kW_285_32)
  have e17 : (0 : Int) ≤ hV H0 285 33 ∧ hV H0 285 33 ≤ 62 := bTo e10 (f12.1.2.2 285 33 _ _ kW_285_33)
  have y0 := g4.1
  have y1 := g4.2.1
  have y2 := g4.2.2.1
  have y3 := g4.2.2.2.1
  have y4 := g4.2.2.2.2.1
  have y5 := g4.2.2.2.2.2.1
  have y6 := g4.2.2.2.2.2.2.1
  have y7 := g4.2.2.2.2.2.2.2.1
  have y8 := g4.2.2.2.2.2.2.2.2.1
  have y9 := g4.2.2.2.2.2.2.2.2.2.1
  have y10 := g4.2.2.2.2.2.2.2.2.2.2.1
  have y11 := g4.2.2.2.2.2.2.2.2.2.2.2.1
  have y12 := g4.2.2.2.2.2.2.2.2.2.2.2.2.1
  have y13 := g4.2.2.2.2.2.2.2.2.2.2.2.2.2.1
  have y14 := g4.2.2.2.2.2.2.2.2.2.2.2.2.2.2.1
  have y15 := g4.2.2.2.2.2.2.2.2.2.2.2.2.2.2.2.1
  have y16 := g4.2.2.2.2.2.2.2.2.2.2.2.2.2.2.2.2.1
  have y17 := g4.2.2.2.2.2.2.2.2.2.2.2.2.2.2.2.2.2.1
  have y18 := g4.2.2.2.2.2.2.2.2.2.2.2.2.2.2.2.2.2.2
  have p0 := g3.1
  have p1 := g3.2.1
  have p2 := g3.2.2.1
  have p3 := g3.2.2.2.1
  have p4 := g3.2.2.2.2.1
  have p5 := g3.2.2.2.2.2.1
  have p6 := g3.2.2.2.2.2.2
  try simp only [e8, e11] at y9
  try simp only [e10] at y10
  try simp only [e10] at y11
  try simp only [e8, e11] at y18
  clear g3
  clear g4
  have wb0 := (y2 (hV H0 285 32).toNat).1
  have wp0 := (y2 (hV H0 285 33).toNat).2
  have wi43 := (y2 (n19).toNat).2.2
  try simp only [e7, e8, e10, e11] at wb0
  try simp only [e7, e8, e10, e11] at wp0
  try simp only [e7, e8, e10, e11] at wi43
  clear f15 f18 f22 f25 f29 f33 f36 f39 f43 e7 e8 e10 e11
  clear f12
  subst e0
  subst e1
  subst e3
  subst e4
  subst e5
  rw [f30] at f34
  first
  | (have ix0 : n16 = 7 * (hV H0 285 32) := Eq.trans f34 (w32_iv (Iml 7 rfl (Iat f32 f31)) (by decide)); subst ix0; clear f34)
  | (have ix0 : n16 = 7 * (hV H0 285 32) := Eq.trans f34 (w32_id (by omega) (by omega)); subst ix0; clear f34)
  | (unfold w32 at f34; have ix0 : n16 = 7 * (hV H0 285 32) := (by omega); subst ix0)
  | skip
  first
  | (have ix1 : n19 = (7 * (hV H0 285 32)) + hV H1 300 (n3).toNat := Eq.trans f40 (w32_iv (Iad (Iml 7 rfl (Iat f32 f31)) (Iat f17 f16)) (by decide)); subst ix1; clear f40)
  | (have ix1 : n19 = (7 * (hV H0 285 32)) + hV H1 300 (n3).toNat := Eq.trans f40 (w32_id (by omega) (by omega)); subst ix1; clear f40)
  | (unfold w32 at f40; have ix1 : n19 = (7 * (hV H0 285 32)) + hV H1 300 (n3).toNat := (by omega); subst ix1)
  | skip
  try unfold w32 at f34
  try unfold w32 at f40

  (try clear y0 y1 y2 p0 p5 p6)
  omega
def g_227_471_1 : vG := ([(22, [20, 13, 19], [1], 0), (90, [20], [], 0), (91, [20], [], 2000), (1, [19, 16, 18], [], 0), (22, [18, 17, 3], [1], 0), (90, [18], [], -1), (91, [18], [], 9999), (20, [17, 1], [1], 26), (0, [17], [], 300), (3, [16, 14, 15], [], 0), (20, [15, 1], [1], 32), (90, [15], [], 0), (91, [15], [], 7), (0, [14], [], 7), (20, [13, 1], [1], 23), (0, [13], [], 297), (41, [11, 12], [], 0), (0, [12], [], -1), (22, [11, 10, 3], [1], 0), (90, [11], [], -1), (91, [11], [], 9999), (20, [10, 1], [1], 26), (0, [10], [], 300), (41, [8, 9], [], 0), (0, [9], [], -1), (22, [8, 7, 3], [1], 0), (90, [8], [], -1), (91, [8], [], 9999), (20, [7, 1], [1], 26), (0, [7], [], 300), (32, [6], [], 0), (5000, [0, 1, 2, 3, 4, 5, 6], [0, 1], 471), (0, [0], [], 285), (0, [1], [], 285), (90, [2], [], 0), (91, [2], [], 5), (90, [3], [], 0), (91, [3], [], 1007), (90, [4], [], 1), (91, [4], [], 1), (90, [5], [], 0), (91, [5], [], 500), (90, [6], [], -1), (91, [6], [], 5)], (91, [20], [], 1000))
theorem c_227_471_1 {q0 : Nat} : vOkm T0 (eP e_227 L_227 A_227 mu_227 (some q0)) 1 g_227_471_1 := vOk_inI fun ρ η f0 f1 f2 f3 f4 f5 f6 f7 f8 f9 f10 f11 f12 f13 f14 f15 f16 f17 f18 f19 f20 f21 f22 f23 f24 f25 f26 f27 f28 f29 f30 f31 f32 f33 f34 f35 f36 f37 f38 f39 f40 f41 f42 f43 => q_227_46 (q0 := q0) (n0 := ρ 6) (n1 := ρ 5) (n2 := ρ 4) (n3 := ρ 3) (n4 := ρ 2) (n5 := ρ 1) (n6 := ρ 0) (n7 := ρ 7) (n8 := ρ 8) (n9 := ρ 9) (n10 := ρ 10) (n11 := ρ 11) (n12 := ρ 12) (n13 := ρ 13) (n14 := ρ 14) (n15 := ρ 15) (n16 := ρ 16) (n17 := ρ 17) (n18 := ρ 18) (n19 := ρ 19) (n20 := ρ 20) (H0 := η 0) (H1 := η 1) f43 f42 f41 f40 f39 f38 f37 f36 f35 f34 f33 f32 f31 f30 f29 f28 f27 f26 f25 f24 f23 f22 f21 f20 f19 f18 f17 f16 f15 f14 f13 f12 f11 f10 f9 f8 f7 f6 f5 f4 f3 f2 f1 f0
set_option maxHeartbeats 20000000 in
theorem q_227_47 {q0 : Nat} {n0 n1 n2 n3 n4 n5 n6 n7 n8 n9 n10 n11 n12 n13 n14 n15 n16 n17 n18 n19 n20 : Int} {H0 H1 : gH} (f0 : n0 ≤ 5) (f1 : (-1) ≤ n0) (f2 : n1 ≤ 500) (f3 : 0 ≤ n1) (f4 : n2 ≤ 1) (f5 : 1 ≤ n2) (f6 : n3 ≤ 1007) (f7 : 0 ≤ n3) (f8 : n4 ≤ 5) (f9 : 0 ≤ n4) (f10 : n5 = 285) (f11 : n6 = 285) (f12 : (hLe T0 H0 H1 ∧ hFr s_227.2.2.2.2 H0 H1 ∧ hWt T0 H1) ∧ (Ab_227_471 n6 n5 n4 n3 n2 n1 n0 H0 H1 ∧ preb_227 n6 H0) ∧ some q0 = some (mub_227_471 n6 n5 n4 n3 n2 n1 n0 H0 H1)) (f13 : n0 < 0) (f14 : n7 = 300) (f15 : n7 = hV H1 (n5).toNat 26) (f16 : n8 ≤ 9999) (f17 : (-1) ≤ n8) (f18 : n8 = hV H1 (n7).toNat (n3).toNat) (f19 : n9 = (-1)) (f20 : n8 ≠ n9) (f21 : n10 = 300) (f22 : n10 = hV H1 (n5).toNat 26) (f23 : n11 ≤ 9999) (f24 : (-1) ≤ n11) (f25 : n11 = hV H1 (n10).toNat (n3).toNat) (f26 : n12 = (-1)) (f27 : n11 ≠ n12) (f28 : n13 = 297) (f29 : n13 = hV H1 (n5).toNat 23) (f30 : n14 = 7) (f31 : n15 ≤ 7) (f32 : 0 ≤ n15) (f33 : n15 = hV H1 (n5).toNat 32) (f34 : n16 = w32 (n14 * n15)) (f35 : n17 = 300) (f36 : n17 = hV H1 (n5).toNat 26) (f37 : n18 ≤ 9999) (f38 : (-1) ≤ n18) (f39 : n18 = hV H1 (n17).toNat (n3).toNat) (f40 : n19 = w32 (n16 + n18)) (f41 : n20 ≤ 2000) (f42 : 0 ≤ n20) (f43 : n20 = hV H1 (n13).toNat (n19).toNat) : Ab_227_567 n6 n5 n4 n3 n20 H0 H1 ∧ ∀ q, some q0 = some q → mub_227_567 n6 n5 n4 n3 n20 H0 H1 < q := by
  have g4 := f12.2.1.1
  unfold Ab_227_471 at g4
  have g3 := f12.2.1.2
  unfold preb_227 at g3
  have g5 := Option.some.inj f12.2.2
  unfold mub_227_471 at g5
  unfold Ab_227_567
  unfold mub_227_567
  have e0 : n8 = hV H1 300 (n3).toNat := (by rw [f14] at f18; exact f18 : n8 = hV H1 300 (n3).toNat)
  have e1 : n11 = hV H1 300 (n3).toNat := (by rw [f21] at f25; exact f25 : n11 = hV H1 300 (n3).toNat)
  have e3 : n15 = hV H0 285 32 := (by rw [f10] at f33; exact f33 : n15 = hV H1 285 32).trans ((f12.1.2.1.1 285 32 kF_227_285_32))
  have e4 : n18 = hV H1 300 (n3).toNat := (by rw [f35] at f39; exact f39 : n18 = hV H1 300 (n3).toNat)
  have e5 : n20 = hV H1 297 (n19).toNat := (by rw [f28] at f43; exact f43 : n20 = hV H1 297 (n19).toNat)
  have e7 : hV H1 285 18 = hV H0 285 18 := (f12.1.2.1.1 285 18 kF_227_285_18)
  have e8 : hV H1 285 32 = hV H0 285 32 := (f12.1.2.1.1 285 32 kF_227_285_32)
  have e10 : hV H1 285 33 = hV H0 285 33 := (f12.1.2.1.1 285 33 kF_227_285_33)
  have e11 : hV H1 294 = hV H0 294 := fRow f12.1.2.1 294 kR_227_294
  have e12 : (0 : Int) ≤ hV H1 285 11 ∧ hV H1 285 11 ≤ 500 := f12.1.2.2 285 11 _ _ kW_285_11
  have e13 : (0 : Int) ≤ hV H1 285 13 ∧ hV H1 285 13 ≤ 2 := f12.1.2.2 285 13 _ _ kW_285_13
  have e14 : (0 : Int) ≤ hV H1 285 15 ∧ hV H1 285 15 ≤ 6 := f12.1.2.2 285 15 _ _ kW_285_15
  have e15 : (0 : Int) ≤ hV H0 285 18 ∧ hV H0 285 18 ≤ 8 := bTo e7 (f12.1.2.2 285 18 _ _ kW_285_18)
  have e16 : (0 : Int) ≤ hV H0 285 32 ∧ hV H0 285 32 ≤ 7 := bTo e8 (f12.1.2.2 285 32 _ _ kW_285_32)
  have e17 : (0 : Int) ≤ hV H0 285 33 ∧ hV H0 285 33 ≤ 62 := bTo e10 (f12.1.2.2 285 33 _ _ kW_285_33)
  try simp only [e8, e10, e11]
  have y0 := g4.1
  have y1 := g4.2.1
  have y2 := g4.2.2.1
  have y3 := g4.2.2.2.1
  have y4 := g4.2.2.2.2.1
  have y5 := g4.2.2.2.2.2.1
  have y6 := g4.2.2.2.2.2.2.1
  have y7 := g4.2.2.2.2.2.2.2.1
  have y8 := g4.2.2.2.2.2.2.2.2.1
  have y9 := g4.2.2.2.2.2.2.2.2.2.1
  have y10 := g4.2.2.2.2.2.2.2.2.2.2.1
  have y11 := g4.2.2.2.2.2.2.2.2.2.2.2.1
  have y12 := g4.2.2.2.2.2.2.2.2.2.2.2.2.1
  have y13 := g4.2.2.2.2.2.2.2.2.2.2.2.2.2.1
  have y14 := g4.2.2.2.2.2.2.2.2.2.2.2.2.2.2.1
  have y15 := g4.2.2.2.2.2.2.2.2.2.2.2.2.2.2.2.1
  have y16 := g4.2.2.2.2.2.2.2.2.2.2.2.2.2.2.2.2.1
  have y17 := g4.2.2.2.2.2.2.2.2.2.2.2.2.2.2.2.2.2.1
  have y18 := g4.2.2.2.2.2.2.2.2.2.2.2.2.2.2.2.2.2.2
  have p0 := g3.1
  have p1 := g3.2.1
  have p2 := g3.2.2.1
  have p3 := g3.2.2.2.1
  have p4 := g3.2.2.2.2.1
  have p5 := g3.2.2.2.2.2.1
  have p6 := g3.2.2.2.2.2.2
  try simp only [e8, e11] at y9
  try simp only [e10] at y10
  try simp only [e10] at y11
  try simp only [e8, e11] at y18
  clear g3
  clear g4
  have wb0 := (y2 (hV H0 285 32).toNat).1
  have wp0 := (y2 (hV H0 285 33).toNat).2
  have wi43 := (y2 (n19).toNat).2.2
  try simp only [e7, e8, e10, e11] at wb0
  try simp only [e7, e8, e10, e11] at wp0
  try simp only [e7, e8, e10, e11] at wi43
  clear f15 f18 f22 f25 f29 f33 f36 f39 f43 e7 e8 e10 e11
  clear f12
  subst e0
  subst e1
  subst e3
  subst e4
  subst e5
  rw [f30] at f34
  first
  | (have ix0 : n16 = 7 * (hV H0 285 32) := Eq.trans f34 (w32_iv (Iml 7 rfl (Iat f32 f31)) (by decide)); subst ix0; clear f34)
  | (have ix0 : n16 = 7 * (hV H0 285 32) := Eq.trans f34 (w32_id (by omega) (by omega)); subst ix0; clear f34)
  | (unfold w32 at f34; have ix0 : n16 = 7 * (hV H0 285 32) := (by omega); subst ix0)
  | skip
  first
  | (have ix1 : n19 = (7 * (hV H0 285 32)) + hV H1 300 (n3).toNat := Eq.trans f40 (w32_iv (Iad (Iml 7 rfl (Iat f32 f31)) (Iat f17 f16)) (by decide)); subst ix1; clear f40)
  | (have ix1 : n19 = (7 * (hV H0 285 32)) + hV H1 300 (n3).toNat := Eq.trans f40 (w32_id (by omega) (by omega)); subst ix1; clear f40)
  | (unfold w32 at f40; have ix1 : n19 = (7 * (hV H0 285 32)) + hV H1 300 (n3).toNat := (by omega); subst ix1)
  | skip
  try unfold w32 at f34
  try unfold w32 at f40

  refine ⟨⟨?_, ?_, ?_, ?_, ?_⟩, fun q hq => ?_⟩
  · exact y0
  · intro z1 z2
    exact y1 (by omega) (by omega)
  · exact y2
  · intro z1 z2
    (try clear y0 y1 y2 p0 p5 p6)
    refine WN_use ?_ ?_ ?_ ?_ ?_ ?_ (by omega) ?_ <;> first | (simp only [uF_at]; omega) | omega
  · (try clear y0 y1 y2 p0 p5 p6)
    first
    | omega
    | (refine ⟨?_, ?_, ?_, ?_, ?_, ?_, ?_⟩ <;> first | exact True.intro | omega)
  · (try clear y0 y1 y2 p0 p5 p6)
    have g6 := Option.some.inj hq
    subst g6
    omega
def g_227_471_2 : vG := ([(22, [20, 13, 19], [1], 0), (90, [20], [], 0), (91, [20], [], 2000), (1, [19, 16, 18], [], 0), (22, [18, 17, 3], [1], 0), (90, [18], [], -1), (91, [18], [], 9999), (20, [17, 1], [1], 26), (0, [17], [], 300), (3, [16, 14, 15], [], 0), (20, [15, 1], [1], 32), (90, [15], [], 0), (91, [15], [], 7), (0, [14], [], 7), (20, [13, 1], [1], 23), (0, [13], [], 297), (41, [11, 12], [], 0), (0, [12], [], -1), (22, [11, 10, 3], [1], 0), (90, [11], [], -1), (91, [11], [], 9999), (20, [10, 1], [1], 26), (0, [10], [], 300), (41, [8, 9], [], 0), (0, [9], [], -1), (22, [8, 7, 3], [1], 0), (90, [8], [], -1), (91, [8], [], 9999), (20, [7, 1], [1], 26), (0, [7], [], 300), (32, [6], [], 0), (5000, [0, 1, 2, 3, 4, 5, 6], [0, 1], 471), (0, [0], [], 285), (0, [1], [], 285), (90, [2], [], 0), (91, [2], [], 5), (90, [3], [], 0), (91, [3], [], 1007), (90, [4], [], 1), (91, [4], [], 1), (90, [5], [], 0), (91, [5], [], 500), (90, [6], [], -1), (91, [6], [], 5)], (4000, [1, 2, 3, 20], [1], 567))
theorem c_227_471_2 {q0 : Nat} : vOkm T0 (eP e_227 L_227 A_227 mu_227 (some q0)) 1 g_227_471_2 := vOk_inI fun ρ η f0 f1 f2 f3 f4 f5 f6 f7 f8 f9 f10 f11 f12 f13 f14 f15 f16 f17 f18 f19 f20 f21 f22 f23 f24 f25 f26 f27 f28 f29 f30 f31 f32 f33 f34 f35 f36 f37 f38 f39 f40 f41 f42 f43 => q_227_47 (q0 := q0) (n0 := ρ 6) (n1 := ρ 5) (n2 := ρ 4) (n3 := ρ 3) (n4 := ρ 2) (n5 := ρ 1) (n6 := ρ 0) (n7 := ρ 7) (n8 := ρ 8) (n9 := ρ 9) (n10 := ρ 10) (n11 := ρ 11) (n12 := ρ 12) (n13 := ρ 13) (n14 := ρ 14) (n15 := ρ 15) (n16 := ρ 16) (n17 := ρ 17) (n18 := ρ 18) (n19 := ρ 19) (n20 := ρ 20) (H0 := η 0) (H1 := η 1) f43 f42 f41 f40 f39 f38 f37 f36 f35 f34 f33 f32 f31 f30 f29 f28 f27 f26 f25 f24 f23 f22 f21 f20 f19 f18 f17 f16 f15 f14 f13 f12 f11 f10 f9 f8 f7 f6 f5 f4 f3 f2 f1 f0
set_option maxHeartbeats 20000000 in
theorem q_227_48 {q0 : Nat} {n0 n1 n2 n3 n4 n5 n6 n7 n8 n9 n10 n11 n12 n13 : Int} {H0 H1 : gH} (f0 : n0 ≤ 5) (f1 : (-1) ≤ n0) (f2 : n1 ≤ 500) (f3 : 0 ≤ n1) (f4 : n2 ≤ 1) (f5 : 1 ≤ n2) (f6 : n3 ≤ 1007) (f7 : 0 ≤ n3) (f8 : n4 ≤ 5) (f9 : 0 ≤ n4) (f10 : n5 = 285) (f11 : n6 = 285) (f12 : (hLe T0 H0 H1 ∧ hFr s_227.2.2.2.2 H0 H1 ∧ hWt T0 H1) ∧ (Ab_227_471 n6 n5 n4 n3 n2 n1 n0 H0 H1 ∧ preb_227 n6 H0) ∧ some q0 = some (mub_227_471 n6 n5 n4 n3 n2 n1 n0 H0 H1)) (f13 : n0 < 0) (f14 : n7 = 300) (f15 : n7 = hV H1 (n5).toNat 26) (f16 : n8 ≤ 9999) (f17 : (-1) ≤ n8) (f18 : n8 = hV H1 (n7).toNat (n3).toNat) (f19 : n9 = (-1)) (f20 : n8 ≠ n9) (f21 : n10 = 300) (f22 : n10 = hV H1 (n5).toNat 26) (f23 : n11 ≤ 9999) (f24 : (-1) ≤ n11) (f25 : n11 = hV H1 (n10).toNat (n3).toNat) (f26 : n12 = (-1)) (f27 : n11 = n12) (f28 : n13 = 0) : Ab_227_567 n6 n5 n4 n3 n13 H0 H1 ∧ ∀ q, some q0 = some q → mub_227_567 n6 n5 n4 n3 n13 H0 H1 < q := by
  have g4 := f12.2.1.1
  unfold Ab_227_471 at g4
  have g3 := f12.2.1.2
  unfold preb_227 at g3
  have g5 := Option.some.inj f12.2.2
  unfold mub_227_471 at g5
  unfold Ab_227_567
  unfold mub_227_567
  have e0 : n8 = hV H1 300 (n3).toNat := (by rw [f14] at f18; exact f18 : n8 = hV H1 300 (n3).toNat)
  have e1 : n11 = hV H1 300 (n3).toNat := (by rw [f21] at f25; exact f25 : n11 = hV H1 300 (n3).toNat)
  have e3 : hV H1 285 18 = hV H0 285 18 := (f12.1.2.1.1 285 18 kF_227_285_18)
  have e5 : hV H1 285 32 = hV H0 285 32 := (f12.1.2.1.1 285 32 kF_227_285_32)
  have e7 : hV H1 285 33 = hV H0 285 33 := (f12.1.2.1.1 285 33 kF_227_285_33)
  have e8 : hV H1 294 = hV H0 294 := fRow f12.1.2.1 294 kR_227_294
  have e9 : (0 : Int) ≤ hV H1 285 11 ∧ hV H1 285 11 ≤ 500 := f12.1.2.2 285 11 _ _ kW_285_11
  have e10 : (0 : Int) ≤ hV H1 285 13 ∧ hV H1 285 13 ≤ 2 := f12.1.2.2 285 13 _ _ kW_285_13
  have e11 : (0 : Int) ≤ hV H1 285 15 ∧ hV H1 285 15 ≤ 6 := f12.1.2.2 285 15 _ _ kW_285_15
  have e12 : (0 : Int) ≤ hV H0 285 18 ∧ hV H0 285 18 ≤ 8 := bTo e3 (f12.1.2.2 285 18 _ _ kW_285_18)
  have e13 : (0 : Int) ≤ hV H0 285 32 ∧ hV H0 285 32 ≤ 7 := bTo e5 (f12.1.2.2 285 32 _ _ kW_285_32)
  have e14 : (0 : Int) ≤ hV H0 285 33 ∧ hV H0 285 33 ≤ 62 := bTo e7 (f12.1.2.2 285 33 _ _ kW_285_33)
  try simp only [e5, e7, e8]
  have y0 := g4.1
  have y1 := g4.2.1
  have y2 := g4.2.2.1
  have y3 := g4.2.2.2.1
  have y4 := g4.2.2.2.2.1
  have y5 := g4.2.2.2.2.2.1
  have y6 := g4.2.2.2.2.2.2.1
  have y7 := g4.2.2.2.2.2.2.2.1
  have y8 := g4.2.2.2.2.2.2.2.2.1
  have y9 := g4.2.2.2.2.2.2.2.2.2.1
  have y10 := g4.2.2.2.2.2.2.2.2.2.2.1
  have y11 := g4.2.2.2.2.2.2.2.2.2.2.2.1
  have y12 := g4.2.2.2.2.2.2.2.2.2.2.2.2.1
  have y13 := g4.2.2.2.2.2.2.2.2.2.2.2.2.2.1
  have y14 := g4.2.2.2.2.2.2.2.2.2.2.2.2.2.2.1
  have y15 := g4.2.2.2.2.2.2.2.2.2.2.2.2.2.2.2.1
  have y16 := g4.2.2.2.2.2.2.2.2.2.2.2.2.2.2.2.2.1
  have y17 := g4.2.2.2.2.2.2.2.2.2.2.2.2.2.2.2.2.2.1
  have y18 := g4.2.2.2.2.2.2.2.2.2.2.2.2.2.2.2.2.2.2
  have p0 := g3.1
  have p1 := g3.2.1
  have p2 := g3.2.2.1
  have p3 := g3.2.2.2.1
  have p4 := g3.2.2.2.2.1
  have p5 := g3.2.2.2.2.2.1
  have p6 := g3.2.2.2.2.2.2
  try simp only [e5, e8] at y9
  try simp only [e7] at y10
  try simp only [e7] at y11
  try simp only [e5, e8] at y18
  clear g3
  clear g4
  have wb0 := (y2 (hV H0 285 32).toNat).1
  have wp0 := (y2 (hV H0 285 33).toNat).2
  try simp only [e3, e5, e7, e8] at wb0
  try simp only [e3, e5, e7, e8] at wp0
  clear f15 f18 f22 f25 e3 e5 e7 e8
  clear f12
  subst e0
  subst e1

  refine ⟨⟨?_, ?_, ?_, ?_, ?_⟩, fun q hq => ?_⟩
  · exact y0
  · intro z1 z2
    exact y1 (by omega) (by omega)
  · exact y2
  · intro z1 z2
    (try clear y0 y1 y2 p0 p5 p6)
    refine WN_use ?_ ?_ ?_ ?_ ?_ ?_ (by omega) ?_ <;> first | (simp only [uF_at]; omega) | omega
  · (try clear y0 y1 y2 p0 p5 p6)
    first
    | omega
    | (refine ⟨?_, ?_, ?_, ?_, ?_, ?_, ?_⟩ <;> first | exact True.intro | omega)
  · (try clear y0 y1 y2 p0 p5 p6)
    have g6 := Option.some.inj hq
    subst g6
    omega
def g_227_471_3 : vG := ([(0, [13], [], 0), (40, [11, 12], [], 0), (0, [12], [], -1), (22, [11, 10, 3], [1], 0), (90, [11], [], -1), (91, [11], [], 9999), (20, [10, 1], [1], 26), (0, [10], [], 300), (41, [8, 9], [], 0), (0, [9], [], -1), (22, [8, 7, 3], [1], 0), (90, [8], [], -1), (91, [8], [], 9999), (20, [7, 1], [1], 26), (0, [7], [], 300), (32, [6], [], 0), (5000, [0, 1, 2, 3, 4, 5, 6], [0, 1], 471), (0, [0], [], 285), (0, [1], [], 285), (90, [2], [], 0), (91, [2], [], 5), (90, [3], [], 0), (91, [3], [], 1007), (90, [4], [], 1), (91, [4], [], 1), (90, [5], [], 0), (91, [5], [], 500), (90, [6], [], -1), (91, [6], [], 5)], (4000, [1, 2, 3, 13], [1], 567))
theorem c_227_471_3 {q0 : Nat} : vOkm T0 (eP e_227 L_227 A_227 mu_227 (some q0)) 1 g_227_471_3 := vOk_inI fun ρ η f0 f1 f2 f3 f4 f5 f6 f7 f8 f9 f10 f11 f12 f13 f14 f15 f16 f17 f18 f19 f20 f21 f22 f23 f24 f25 f26 f27 f28 => q_227_48 (q0 := q0) (n0 := ρ 6) (n1 := ρ 5) (n2 := ρ 4) (n3 := ρ 3) (n4 := ρ 2) (n5 := ρ 1) (n6 := ρ 0) (n7 := ρ 7) (n8 := ρ 8) (n9 := ρ 9) (n10 := ρ 10) (n11 := ρ 11) (n12 := ρ 12) (n13 := ρ 13) (H0 := η 0) (H1 := η 1) f28 f27 f26 f25 f24 f23 f22 f21 f20 f19 f18 f17 f16 f15 f14 f13 f12 f11 f10 f9 f8 f7 f6 f5 f4 f3 f2 f1 f0
set_option maxHeartbeats 20000000 in
theorem kR_218_300 : vFreeR s_218.2.2.2.2 300 = true := by decide +kernel
theorem kF_218_285_32 : vFree s_218.2.2.2.2 285 32 = true := by decide +kernel
theorem q_227_49 {q0 : Nat} {n0 n1 n2 n3 n4 n5 n6 n7 n8 n9 n10 n11 n12 n13 n14 n15 n16 n17 n18 n19 : Int} {H0 H1 H2 : gH} (f0 : n0 ≤ 5) (f1 : (-1) ≤ n0) (f2 : n1 ≤ 500) (f3 : 0 ≤ n1) (f4 : n2 ≤ 1) (f5 : 1 ≤ n2) (f6 : n3 ≤ 1007) (f7 : 0 ≤ n3) (f8 : n4 ≤ 5) (f9 : 0 ≤ n4) (f10 : n5 = 285) (f11 : n6 = 285) (f12 : (hLe T0 H0 H1 ∧ hFr s_227.2.2.2.2 H0 H1 ∧ hWt T0 H1) ∧ (Ab_227_471 n6 n5 n4 n3 n2 n1 n0 H0 H1 ∧ preb_227 n6 H0) ∧ some q0 = some (mub_227_471 n6 n5 n4 n3 n2 n1 n0 H0 H1)) (f13 : n0 < 0) (f14 : n7 = 300) (f15 : n7 = hV H1 (n5).toNat 26) (f16 : n8 ≤ 9999) (f17 : (-1) ≤ n8) (f18 : n8 = hV H1 (n7).toNat (n3).toNat) (f19 : n9 = (-1)) (f20 : n8 = n9) (f21 : n10 = 4) (f22 : (hLe T0 H1 H2 ∧ hFr s_218.2.2.2.2 H1 H2 ∧ ((0 : Int) = 0 → H2.length = H1.length) ∧ hWt T0 H2) ∧ postb_218 n5 n10 n1 H1 H2) (f23 : n11 = 300) (f24 : n11 = hV H2 (n5).toNat 26) (f25 : n12 ≤ 9999) (f26 : (-1) ≤ n12) (f27 : n12 = hV H2 (n11).toNat (n3).toNat) (f28 : n13 = (-1)) (f29 : n12 ≠ n13) (f30 : n14 = 7) (f31 : n15 ≤ 7) (f32 : 0 ≤ n15) (f33 : n15 = hV H2 (n5).toNat 32) (f34 : n16 = w32 (n14 * n15)) (f35 : n17 = 300) (f36 : n17 = hV H2 (n5).toNat 26) (f37 : n18 ≤ 9999) (f38 : (-1) ≤ n18) (f39 : n18 = hV H2 (n17).toNat (n3).toNat) (f40 : n19 = w32 (n16 + n18)) : 0 ≤ n19 ∧ n19 < 63 := by
  have g4 := f12.2.1.1
  unfold Ab_227_471 at g4
  have g3 := f12.2.1.2
  unfold preb_227 at g3
  unfold postb_218 at f22
  have e0 : n8 = hV H1 300 (n3).toNat := (by rw [f14] at f18; exact f18 : n8 = hV H1 300 (n3).toNat)
  have e2 : n12 = hV H1 300 (n3).toNat := (by rw [f23] at f27; exact f27 : n12 = hV H2 300 (n3).toNat).trans ((congrFun (fRow f22.1.2.1 300 kR_218_300) _))
  have e5 : n15 = hV H0 285 32 := (by rw [f10] at f33; exact f33 : n15 = hV H2 285 32).trans (((f22.1.2.1.1 285 32 kF_218_285_32)).trans (f12.1.2.1.1 285 32 kF_227_285_32))
  have e6 : n18 = hV H1 300 (n3).toNat := (by rw [f35] at f39; exact f39 : n18 = hV H2 300 (n3).toNat).trans ((congrFun (fRow f22.1.2.1 300 kR_218_300) _))
  have e8 : hV H1 285 18 = hV H0 285 18 := (f12.1.2.1.1 285 18 kF_227_285_18)
  have e9 : hV H1 285 32 = hV H0 285 32 := (f12.1.2.1.1 285 32 kF_227_285_32)
  have e11 : hV H1 285 33 = hV H0 285 33 := (f12.1.2.1.1 285 33 kF_227_285_33)
  have e12 : hV H1 294 = hV H0 294 := fRow f12.1.2.1 294 kR_227_294
  have e14 : hV H2 285 13 = hV H1 285 13 := (f22.1.2.1.1 285 13 kF_218_285_13)
  have e15 : (0 : Int) ≤ hV H1 285 11 ∧ hV H1 285 11 ≤ 500 := f12.1.2.2 285 11 _ _ kW_285_11
  have e16 : (0 : Int) ≤ hV H1 285 13 ∧ hV H1 285 13 ≤ 2 := f12.1.2.2 285 13 _ _ kW_285_13
  have e17 : (0 : Int) ≤ hV H1 285 15 ∧ hV H1 285 15 ≤ 6 := f12.1.2.2 285 15 _ _ kW_285_15
  have e18 : (0 : Int) ≤ hV H0 285 18 ∧ hV H0 285 18 ≤ 8 := bTo e8 (f12.1.2.2 285 18 _ _ kW_285_18)
  have e19 : (0 : Int) ≤ hV H0 285 32 ∧ hV H0 285 32 ≤ 7 := bTo e9 (f12.1.2.2 285 32 _ _ kW_285_32)
  have e20 : (0 : Int) ≤ hV H0 285 33 ∧ hV H0 285 33 ≤ 62 := bTo e11 (f12.1.2.2 285 33 _ _ kW_285_33)
  have e22 : (0 : Int) ≤ hV H2 285 15 ∧ hV H2 285 15 ≤ 6 := f22.1.2.2.2 285 15 _ _ kW_285_15
  have y0 := g4.1
  have y1 := g4.2.1
  have y2 := g4.2.2.1
  have y3 := g4.2.2.2.1
  have y4 := g4.2.2.2.2.1
  have y5 := g4.2.2.2.2.2.1
  have y6 := g4.2.2.2.2.2.2.1
  have y7 := g4.2.2.2.2.2.2.2.1
  have y8 := g4.2.2.2.2.2.2.2.2.1
  have y9 := g4.2.2.2.2.2.2.2.2.2.1
  have y10 := g4.2.2.2.2.2.2.2.2.2.2.1
  have y11 := g4.2.2.2.2.2.2.2.2.2.2.2.1
  have y12 := g4.2.2.2.2.2.2.2.2.2.2.2.2.1
  have y13 := g4.2.2.2.2.2.2.2.2.2.2.2.2.2.1
  have y14 := g4.2.2.2.2.2.2.2.2.2.2.2.2.2.2.1
  have y15 := g4.2.2.2.2.2.2.2.2.2.2.2.2.2.2.2.1
  have y16 := g4.2.2.2.2.2.2.2.2.2.2.2.2.2.2.2.2.1
  have y17 := g4.2.2.2.2.2.2.2.2.2.2.2.2.2.2.2.2.2.1
  have y18 := g4.2.2.2.2.2.2.2.2.2.2.2.2.2.2.2.2.2.2
  have p0 := g3.1
  have p1 := g3.2.1
  have p2 := g3.2.2.1
  have p3 := g3.2.2.2.1
  have p4 := g3.2.2.2.2.1
  have p5 := g3.2.2.2.2.2.1
  have p6 := g3.2.2.2.2.2.2
  have r0_0 := f22.2.1
  have r0_1 := f22.2.2
  try simp only [e9, e12] at y9
  try simp only [e11] at y10
  try simp only [e11] at y11
  try simp only [e9, e12] at y18
  try simp only [e14] at r0_1
  clear g3
  clear g4
  have wb0 := (y2 (hV H0 285 32).toNat).1
  have wp0 := (y2 (hV H0 285 33).toNat).2
  try simp only [e8, e9, e11, e12] at wb0
  try simp only [e8, e9, e11, e12] at wp0
  clear f15 f18 f24 f27 f33 f36 f39 e8 e9 e11 e12 e14
  clear f12 f22
  subst e0
  subst e2
  subst e5
  subst e6
  rw [f30] at f34
  first
  | (have ix0 : n16 = 7 * (hV H0 285 32) := Eq.trans f34 (w32_iv (Iml 7 rfl (Iat f32 f31)) (by decide)); subst ix0; clear f34)
  | (have ix0 : n16 = 7 * (hV H0 285 32) := Eq.trans f34 (w32_id (by omega) (by omega)); subst ix0; clear f34)
  | (unfold w32 at f34; have ix0 : n16 = 7 * (hV H0 285 32) := (by omega); subst ix0)
  | skip
  first
  | (have ix1 : n19 = (7 * (hV H0 285 32)) + hV H1 300 (n3).toNat := Eq.trans f40 (w32_iv (Iad (Iml 7 rfl (Iat f32 f31)) (Iat f17 f16)) (by decide)); subst ix1; clear f40)
  | (have ix1 : n19 = (7 * (hV H0 285 32)) + hV H1 300 (n3).toNat := Eq.trans f40 (w32_id (by omega) (by omega)); subst ix1; clear f40)
  | (unfold w32 at f40; have ix1 : n19 = (7 * (hV H0 285 32)) + hV H1 300 (n3).toNat := (by omega); subst ix1)
  | skip
  try unfold w32 at f34
  try unfold w32 at f40

  (try clear y0 y1 y2 p0 p5 p6)
  omega
def g_227_471_4 : vG := ([(1, [20, 17, 19], [], 0), (22, [19, 18, 3], [2], 0), (90, [19], [], -1), (91, [19], [], 9999), (20, [18, 1], [2], 26), (0, [18], [], 300), (3, [17, 15, 16], [], 0), (20, [16, 1], [2], 32), (90, [16], [], 0), (91, [16], [], 7), (0, [15], [], 7), (41, [12, 13], [], 0), (0, [13], [], -1), (22, [12, 11, 3], [2], 0), (90, [12], [], -1), (91, [12], [], 9999), (20, [11, 1], [2], 26), (0, [11], [], 300), (1218, [1, 10, 5], [1, 2], 0), (0, [10], [], 4), (40, [8, 9], [], 0), (0, [9], [], -1), (22, [8, 7, 3], [1], 0), (90, [8], [], -1), (91, [8], [], 9999), (20, [7, 1], [1], 26), (0, [7], [], 300), (32, [6], [], 0), (5000, [0, 1, 2, 3, 4, 5, 6], [0, 1], 471), (0, [0], [], 285), (0, [1], [], 285), (90, [2], [], 0), (91, [2], [], 5), (90, [3], [], 0), (91, [3], [], 1007), (90, [4], [], 1), (91, [4], [], 1), (90, [5], [], 0), (91, [5], [], 500), (90, [6], [], -1), (91, [6], [], 5)], (70, [20], [], 63))
theorem c_227_471_4 {q0 : Nat} : vOkm T0 (eP e_227 L_227 A_227 mu_227 (some q0)) 1 g_227_471_4 := vOk_inI fun ρ η f0 f1 f2 f3 f4 f5 f6 f7 f8 f9 f10 f11 f12 f13 f14 f15 f16 f17 f18 f19 f20 f21 f22 f23 f24 f25 f26 f27 f28 f29 f30 f31 f32 f33 f34 f35 f36 f37 f38 f39 f40 => q_227_49 (q0 := q0) (n0 := ρ 6) (n1 := ρ 5) (n2 := ρ 4) (n3 := ρ 3) (n4 := ρ 2) (n5 := ρ 1) (n6 := ρ 0) (n7 := ρ 7) (n8 := ρ 8) (n9 := ρ 9) (n10 := ρ 10) (n11 := ρ 11) (n12 := ρ 12) (n13 := ρ 13) (n14 := ρ 15) (n15 := ρ 16) (n16 := ρ 17) (n17 := ρ 18) (n18 := ρ 19) (n19 := ρ 20) (H0 := η 0) (H1 := η 1) (H2 := η 2) f40 f39 f38 f37 f36 f35 f34 f33 f32 f31 f30 f29 f28 f27 f26 f25 f24 f23 f22 f21 f20 f19 f18 f17 f16 f15 f14 f13 f12 f11 f10 f9 f8 f7 f6 f5 f4 f3 f2 f1 f0
set_option maxHeartbeats 20000000 in
theorem kR_218_297 : vFreeR s_218.2.2.2.2 297 = true := by decide +kernel
theorem q_227_50 {q0 : Nat} {n0 n1 n2 n3 n4 n5 n6 n7 n8 n9 n10 n11 n12 n13 n14 n15 n16 n17 n18 n19 n20 n21 : Int} {H0 H1 H2 : gH} (f0 : n0 ≤ 5) (f1 : (-1) ≤ n0) (f2 : n1 ≤ 500) (f3 : 0 ≤ n1) (f4 : n2 ≤ 1) (f5 : 1 ≤ n2) (f6 : n3 ≤ 1007) (f7 : 0 ≤ n3) (f8 : n4 ≤ 5) (f9 : 0 ≤ n4) (f10 : n5 = 285) (f11 : n6 = 285) (f12 : (hLe T0 H0 H1 ∧ hFr s_227.2.2.2.2 H0 H1 ∧ hWt T0 H1) ∧ (Ab_227_471 n6 n5 n4 n3 n2 n1 n0 H0 H1 ∧ preb_227 n6 H0) ∧ some q0 = some (mub_227_471 n6 n5 n4 n3 n2 n1 n0 H0 H1)) (f13 : n0 < 0) (f14 : n7 = 300) (f15 : n7 = hV H1 (n5).toNat 26) (f16 : n8 ≤ 9999) (f17 : (-1) ≤ n8) (f18 : n8 = hV H1 (n7).toNat (n3).toNat) (f19 : n9 = (-1)) (f20 : n8 = n9) (f21 : n10 = 4) (f22 : (hLe T0 H1 H2 ∧ hFr s_218.2.2.2.2 H1 H2 ∧ ((0 : Int) = 0 → H2.length = H1.length) ∧ hWt T0 H2) ∧ postb_218 n5 n10 n1 H1 H2) (f23 : n11 = 300) (f24 : n11 = hV H2 (n5).toNat 26) (f25 : n12 ≤ 9999) (f26 : (-1) ≤ n12) (f27 : n12 = hV H2 (n11).toNat (n3).toNat) (f28 : n13 = (-1)) (f29 : n12 ≠ n13) (f30 : n14 = 297) (f31 : n14 = hV H2 (n5).toNat 23) (f32 : n15 = 7) (f33 : n16 ≤ 7) (f34 : 0 ≤ n16) (f35 : n16 = hV H2 (n5).toNat 32) (f36 : n17 = w32 (n15 * n16)) (f37 : n18 = 300) (f38 : n18 = hV H2 (n5).toNat 26) (f39 : n19 ≤ 9999) (f40 : (-1) ≤ n19) (f41 : n19 = hV H2 (n18).toNat (n3).toNat) (f42 : n20 = w32 (n17 + n19)) (f43 : n21 ≤ 2000) (f44 : 0 ≤ n21) (f45 : n21 = hV H2 (n14).toNat (n20).toNat) : n21 ≤ 1000 := by
  have g4 := f12.2.1.1
  unfold Ab_227_471 at g4
  have g3 := f12.2.1.2
  unfold preb_227 at g3
  unfold postb_218 at f22
  have e0 : n8 = hV H1 300 (n3).toNat := (by rw [f14] at f18; exact f18 : n8 = hV H1 300 (n3).toNat)
  have e2 : n12 = hV H1 300 (n3).toNat := (by rw [f23] at f27; exact f27 : n12 = hV H2 300 (n3).toNat).trans ((congrFun (fRow f22.1.2.1 300 kR_218_300) _))
  have e5 : n16 = hV H0 285 32 := (by rw [f10] at f35; exact f35 : n16 = hV H2 285 32).trans (((f22.1.2.1.1 285 32 kF_218_285_32)).trans (f12.1.2.1.1 285 32 kF_227_285_32))
  have e6 : n19 = hV H1 300 (n3).toNat := (by rw [f37] at f41; exact f41 : n19 = hV H2 300 (n3).toNat).trans ((congrFun (fRow f22.1.2.1 300 kR_218_300) _))
  have e8 : n21 = hV H1 297 (n20).toNat := (by rw [f30] at f45; exact f45 : n21 = hV H2 297 (n20).toNat).trans ((congrFun (fRow f22.1.2.1 297 kR_218_297) _))
  have e10 : hV H1 285 18 = hV H0 285 18 := (f12.1.2.1.1 285 18 kF_227_285_18)
  have e11 : hV H1 285 32 = hV H0 285 32 := (f12.1.2.1.1 285 32 kF_227_285_32)
  have e13 : hV H1 285 33 = hV H0 285 33 := (f12.1.2.1.1 285 33 kF_227_285_33)
  have e14 : hV H1 294 = hV H0 294 := fRow f12.1.2.1 294 kR_227_294
  have e16 : hV H2 285 13 = hV H1 285 13 := (f22.1.2.1.1 285 13 kF_218_285_13)
  have e17 : (0 : Int) ≤ hV H1 285 11 ∧ hV H1 285 11 ≤ 500 := f12.1.2.2 285 11 _ _ kW_285_11
  have e18 : (0 : Int) ≤ hV H1 285 13 ∧ hV H1 285 13 ≤ 2 := f12.1.2.2 285 13 _ _ kW_285_13
  have e19 : (0 : Int) ≤ hV H1 285 15 ∧ hV H1 285 15 ≤ 6 := f12.1.2.2 285 15 _ _ kW_285_15
  have e20 : (0 : Int) ≤ hV H0 285 18 ∧ hV H0 285 18 ≤ 8 := bTo e10 (f12.1.2.2 285 18 _ _ kW_285_18)
  have e21 : (0 : Int) ≤ hV H0 285 32 ∧ hV H0 285 32 ≤ 7 := bTo e11 (f12.1.2.2 285 32 _ _ kW_285_32)
  have e22 : (0 : Int) ≤ hV H0 285 33 ∧ hV H0 285 33 ≤ 62 := bTo e13 (f12.1.2.2 285 33 _ _ kW_285_33)
  have e24 : (0 : Int) ≤ hV H2 285 15 ∧ hV H2 285 15 ≤ 6 := f22.1.2.2.2 285 15 _ _ kW_285_15
  have y0 := g4.1
  have y1 := g4.2.1
  have y2 := g4.2.2.1
  have y3 := g4.2.2.2.1
  have y4 := g4.2.2.2.2.1
  have y5 := g4.2.2.2.2.2.1
  have y6 := g4.2.2.2.2.2.2.1
  have y7 := g4.2.2.2.2.2.2.2.1
  have y8 := g4.2.2.2.2.2.2.2.2.1
  have y9 := g4.2.2.2.2.2.2.2.2.2.1
  have y10 := g4.2.2.2.2.2.2.2.2.2.2.1
  have y11 := g4.2.2.2.2.2.2.2.2.2.2.2.1
  have y12 := g4.2.2.2.2.2.2.2.2.2.2.2.2.1
  have y13 := g4.2.2.2.2.2.2.2.2.2.2.2.2.2.1
  have y14 := g4.2.2.2.2.2.2.2.2.2.2.2.2.2.2.1
  have y15 := g4.2.2.2.2.2.2.2.2.2.2.2.2.2.2.2.1
  have y16 := g4.2.2.2.2.2.2.2.2.2.2.2.2.2.2.2.2.1
  have y17 := g4.2.2.2.2.2.2.2.2.2.2.2.2.2.2.2.2.2.1
  have y18 := g4.2.2.2.2.2.2.2.2.2.2.2.2.2.2.2.2.2.2
  have p0 := g3.1
  have p1 := g3.2.1
  have p2 := g3.2.2.1
  have p3 := g3.2.2.2.1
  have p4 := g3.2.2.2.2.1
  have p5 := g3.2.2.2.2.2.1
  have p6 := g3.2.2.2.2.2.2
  have r0_0 := f22.2.1
  have r0_1 := f22.2.2
  try simp only [e11, e14] at y9
  try simp only [e13] at y10
  try simp only [e13] at y11
  try simp only [e11, e14] at y18
  try simp only [e16] at r0_1
  clear g3
  clear g4
  have wb0 := (y2 (hV H0 285 32).toNat).1
  have wp0 := (y2 (hV H0 285 33).toNat).2
  have wi45 := (y2 (n20).toNat).2.2
  try simp only [e10, e11, e13, e14] at wb0
  try simp only [e10, e11, e13, e14] at wp0
  try simp only [e10, e11, e13, e14] at wi45
  clear f15 f18 f24 f27 f31 f35 f38 f41 f45 e10 e11 e13 e14 e16
  clear f12 f22
  subst e0
  subst e2
  subst e5
  subst e6
  subst e8
  rw [f32] at f36
  first
  | (have ix0 : n17 = 7 * (hV H0 285 32) := Eq.trans f36 (w32_iv (Iml 7 rfl (Iat f34 f33)) (by decide)); subst ix0; clear f36)
  | (have ix0 : n17 = 7 * (hV H0 285 32) := Eq.trans f36 (w32_id (by omega) (by omega)); subst ix0; clear f36)
  | (unfold w32 at f36; have ix0 : n17 = 7 * (hV H0 285 32) := (by omega); subst ix0)
  | skip
  first
  | (have ix1 : n20 = (7 * (hV H0 285 32)) + hV H1 300 (n3).toNat := Eq.trans f42 (w32_iv (Iad (Iml 7 rfl (Iat f34 f33)) (Iat f17 f16)) (by decide)); subst ix1; clear f42)
  | (have ix1 : n20 = (7 * (hV H0 285 32)) + hV H1 300 (n3).toNat := Eq.trans f42 (w32_id (by omega) (by omega)); subst ix1; clear f42)
  | (unfold w32 at f42; have ix1 : n20 = (7 * (hV H0 285 32)) + hV H1 300 (n3).toNat := (by omega); subst ix1)
  | skip
  try unfold w32 at f36
  try unfold w32 at f42

  (try clear y0 y1 y2 p0 p5 p6)
  omega
def g_227_471_5 : vG := ([(22, [21, 14, 20], [2], 0), (90, [21], [], 0), (91, [21], [], 2000), (1, [20, 17, 19], [], 0), (22, [19, 18, 3], [2], 0), (90, [19], [], -1), (91, [19], [], 9999), (20, [18, 1], [2], 26), (0, [18], [], 300), (3, [17, 15, 16], [], 0), (20, [16, 1], [2], 32), (90, [16], [], 0), (91, [16], [], 7), (0, [15], [], 7), (20, [14, 1], [2], 23), (0, [14], [], 297), (41, [12, 13], [], 0), (0, [13], [], -1), (22, [12, 11, 3], [2], 0), (90, [12], [], -1), (91, [12], [], 9999), (20, [11, 1], [2], 26), (0, [11], [], 300), (1218, [1, 10, 5], [1, 2], 0), (0, [10], [], 4), (40, [8, 9], [], 0), (0, [9], [], -1), (22, [8, 7, 3], [1], 0), (90, [8], [], -1), (91, [8], [], 9999), (20, [7, 1], [1], 26), (0, [7], [], 300), (32, [6], [], 0), (5000, [0, 1, 2, 3, 4, 5, 6], [0, 1], 471), (0, [0], [], 285), (0, [1], [], 285), (90, [2], [], 0), (91, [2], [], 5), (90, [3], [], 0), (91, [3], [], 1007), (90, [4], [], 1), (91, [4], [], 1), (90, [5], [], 0), (91, [5], [], 500), (90, [6], [], -1), (91, [6], [], 5)], (91, [21], [], 1000))
theorem c_227_471_5 {q0 : Nat} : vOkm T0 (eP e_227 L_227 A_227 mu_227 (some q0)) 1 g_227_471_5 := vOk_inI fun ρ η f0 f1 f2 f3 f4 f5 f6 f7 f8 f9 f10 f11 f12 f13 f14 f15 f16 f17 f18 f19 f20 f21 f22 f23 f24 f25 f26 f27 f28 f29 f30 f31 f32 f33 f34 f35 f36 f37 f38 f39 f40 f41 f42 f43 f44 f45 => q_227_50 (q0 := q0) (n0 := ρ 6) (n1 := ρ 5) (n2 := ρ 4) (n3 := ρ 3) (n4 := ρ 2) (n5 := ρ 1) (n6 := ρ 0) (n7 := ρ 7) (n8 := ρ 8) (n9 := ρ 9) (n10 := ρ 10) (n11 := ρ 11) (n12 := ρ 12) (n13 := ρ 13) (n14 := ρ 14) (n15 := ρ 15) (n16 := ρ 16) (n17 := ρ 17) (n18 := ρ 18) (n19 := ρ 19) (n20 := ρ 20) (n21 := ρ 21) (H0 := η 0) (H1 := η 1) (H2 := η 2) f45 f44 f43 f42 f41 f40 f39 f38 f37 f36 f35 f34 f33 f32 f31 f30 f29 f28 f27 f26 f25 f24 f23 f22 f21 f20 f19 f18 f17 f16 f15 f14 f13 f12 f11 f10 f9 f8 f7 f6 f5 f4 f3 f2 f1 f0
set_option maxHeartbeats 20000000 in
theorem kR_218_294 : vFreeR s_218.2.2.2.2 294 = true := by decide +kernel
theorem kR_218_296 : vFreeR s_218.2.2.2.2 296 = true := by decide +kernel
theorem kR_218_298 : vFreeR s_218.2.2.2.2 298 = true := by decide +kernel
theorem kR_218_301 : vFreeR s_218.2.2.2.2 301 = true := by decide +kernel
theorem kR_218_302 : vFreeR s_218.2.2.2.2 302 = true := by decide +kernel
theorem kR_218_303 : vFreeR s_218.2.2.2.2 303 = true := by decide +kernel
theorem kR_218_305 : vFreeR s_218.2.2.2.2 305 = true := by decide +kernel
theorem kF_218_285_33 : vFree s_218.2.2.2.2 285 33 = true := by decide +kernel
theorem q_227_51 {q0 : Nat} {n0 n1 n2 n3 n4 n5 n6 n7 n8 n9 n10 n11 n12 n13 n14 n15 n16 n17 n18 n19 n20 n21 : Int} {H0 H1 H2 : gH} (f0 : n0 ≤ 5) (f1 : (-1) ≤ n0) (f2 : n1 ≤ 500) (f3 : 0 ≤ n1) (f4 : n2 ≤ 1) (f5 : 1 ≤ n2) (f6 : n3 ≤ 1007) (f7 : 0 ≤ n3) (f8 : n4 ≤ 5) (f9 : 0 ≤ n4) (f10 : n5 = 285) (f11 : n6 = 285) (f12 : (hLe T0 H0 H1 ∧ hFr s_227.2.2.2.2 H0 H1 ∧ hWt T0 H1) ∧ (Ab_227_471 n6 n5 n4 n3 n2 n1 n0 H0 H1 ∧ preb_227 n6 H0) ∧ some q0 = some (mub_227_471 n6 n5 n4 n3 n2 n1 n0 H0 H1)) (f13 : n0 < 0) (f14 : n7 = 300) (f15 : n7 = hV H1 (n5).toNat 26) (f16 : n8 ≤ 9999) (f17 : (-1) ≤ n8) (f18 : n8 = hV H1 (n7).toNat (n3).toNat) (f19 : n9 = (-1)) (f20 : n8 = n9) (f21 : n10 = 4) (f22 : (hLe T0 H1 H2 ∧ hFr s_218.2.2.2.2 H1 H2 ∧ ((0 : Int) = 0 → H2.length = H1.length) ∧ hWt T0 H2) ∧ postb_218 n5 n10 n1 H1 H2) (f23 : n11 = 300) (f24 : n11 = hV H2 (n5).toNat 26) (f25 : n12 ≤ 9999) (f26 : (-1) ≤ n12) (f27 : n12 = hV H2 (n11).toNat (n3).toNat) (f28 : n13 = (-1)) (f29 : n12 ≠ n13) (f30 : n14 = 297) (f31 : n14 = hV H2 (n5).toNat 23) (f32 : n15 = 7) (f33 : n16 ≤ 7) (f34 : 0 ≤ n16) (f35 : n16 = hV H2 (n5).toNat 32) (f36 : n17 = w32 (n15 * n16)) (f37 : n18 = 300) (f38 : n18 = hV H2 (n5).toNat 26) (f39 : n19 ≤ 9999) (f40 : (-1) ≤ n19) (f41 : n19 = hV H2 (n18).toNat (n3).toNat) (f42 : n20 = w32 (n17 + n19)) (f43 : n21 ≤ 2000) (f44 : 0 ≤ n21) (f45 : n21 = hV H2 (n14).toNat (n20).toNat) : Ab_227_567 n6 n5 n4 n3 n21 H0 H2 ∧ ∀ q, some q0 = some q → mub_227_567 n6 n5 n4 n3 n21 H0 H2 < q := by
  have g4 := f12.2.1.1
  unfold Ab_227_471 at g4
  have g3 := f12.2.1.2
  unfold preb_227 at g3
  have g5 := Option.some.inj f12.2.2
  unfold mub_227_471 at g5
  unfold postb_218 at f22
  unfold Ab_227_567
  unfold mub_227_567
  have e0 : n8 = hV H1 300 (n3).toNat := (by rw [f14] at f18; exact f18 : n8 = hV H1 300 (n3).toNat)
  have e1 : hV H2 300 = hV H1 300 := fRow f22.1.2.1 300 kR_218_300
  have e2 : n12 = hV H1 300 (n3).toNat := (by rw [f23] at f27; exact f27 : n12 = hV H2 300 (n3).toNat).trans ((congrFun e1 _))
  have e5 : n16 = hV H0 285 32 := (by rw [f10] at f35; exact f35 : n16 = hV H2 285 32).trans (((f22.1.2.1.1 285 32 kF_218_285_32)).trans (f12.1.2.1.1 285 32 kF_227_285_32))
  have e6 : n19 = hV H1 300 (n3).toNat := (by rw [f37] at f41; exact f41 : n19 = hV H2 300 (n3).toNat).trans ((congrFun e1 _))
  have e7 : hV H2 297 = hV H1 297 := fRow f22.1.2.1 297 kR_218_297
  have e8 : n21 = hV H1 297 (n20).toNat := (by rw [f30] at f45; exact f45 : n21 = hV H2 297 (n20).toNat).trans ((congrFun e7 _))
  have e10 : hV H1 285 18 = hV H0 285 18 := (f12.1.2.1.1 285 18 kF_227_285_18)
  have e11 : hV H1 285 32 = hV H0 285 32 := (f12.1.2.1.1 285 32 kF_227_285_32)
  have e13 : hV H1 285 33 = hV H0 285 33 := (f12.1.2.1.1 285 33 kF_227_285_33)
  have e14 : hV H1 294 = hV H0 294 := fRow f12.1.2.1 294 kR_227_294
  have e16 : hV H2 285 11 = hV H1 285 11 := (f22.1.2.1.1 285 11 kF_218_285_11)
  have e18 : hV H2 285 13 = hV H1 285 13 := (f22.1.2.1.1 285 13 kF_218_285_13)
  have e19 : hV H2 285 32 = hV H0 285 32 := ((f22.1.2.1.1 285 32 kF_218_285_32)).trans (f12.1.2.1.1 285 32 kF_227_285_32)
  have e21 : hV H2 285 33 = hV H0 285 33 := ((f22.1.2.1.1 285 33 kF_218_285_33)).trans (f12.1.2.1.1 285 33 kF_227_285_33)
  have e23 : hV H2 294 = hV H0 294 := (fRow f22.1.2.1 294 kR_218_294).trans e14
  have e24 : hV H2 296 = hV H1 296 := fRow f22.1.2.1 296 kR_218_296
  have e25 : hV H2 298 = hV H1 298 := fRow f22.1.2.1 298 kR_218_298
  have e26 : hV H2 301 = hV H1 301 := fRow f22.1.2.1 301 kR_218_301
  have e27 : hV H2 302 = hV H1 302 := fRow f22.1.2.1 302 kR_218_302
  have e28 : hV H2 303 = hV H1 303 := fRow f22.1.2.1 303 kR_218_303
  have e29 : hV H2 305 = hV H1 305 := fRow f22.1.2.1 305 kR_218_305
  have e30 : PA H2 = PA H1 := PA_fr f22.1.2.1 (by decide +kernel)
  have e31 : PQ H2 = PQ H1 := PQ_fr f22.1.2.1 (by decide +kernel)
  have e32 : PW H2 = PW H1 := PW_fr f22.1.2.1 (by decide +kernel)
  have e33 : (0 : Int) ≤ hV H1 285 11 ∧ hV H1 285 11 ≤ 500 := f12.1.2.2 285 11 _ _ kW_285_11
  have e34 : (0 : Int) ≤ hV H1 285 13 ∧ hV H1 285 13 ≤ 2 := f12.1.2.2 285 13 _ _ kW_285_13
  have e35 : (0 : Int) ≤ hV H1 285 15 ∧ hV H1 285 15 ≤ 6 := f12.1.2.2 285 15 _ _ kW_285_15
  have e36 : (0 : Int) ≤ hV H0 285 18 ∧ hV H0 285 18 ≤ 8 := bTo e10 (f12.1.2.2 285 18 _ _ kW_285_18)
  have e37 : (0 : Int) ≤ hV H0 285 32 ∧ hV H0 285 32 ≤ 7 := bTo e11 (f12.1.2.2 285 32 _ _ kW_285_32)
  have e38 : (0 : Int) ≤ hV H0 285 33 ∧ hV H0 285 33 ≤ 62 := bTo e13 (f12.1.2.2 285 33 _ _ kW_285_33)
  have e41 : (0 : Int) ≤ hV H2 285 15 ∧ hV H2 285 15 ≤ 6 := f22.1.2.2.2 285 15 _ _ kW_285_15
  try simp only [e16, e18, e19, e21, e23, e24, e7, e25, e1, e26, e27, e28, e29, e30, e31, e32]
  have y0 := g4.1
  have y1 := g4.2.1
  have y2 := g4.2.2.1
  have y3 := g4.2.2.2.1
  have y4 := g4.2.2.2.2.1
  have y5 := g4.2.2.2.2.2.1
  have y6 := g4.2.2.2.2.2.2.1
  have y7 := g4.2.2.2.2.2.2.2.1
  have y8 := g4.2.2.2.2.2.2.2.2.1
  have y9 := g4.2.2.2.2.2.2.2.2.2.1
  have y10 := g4.2.2.2.2.2.2.2.2.2.2.1
  have y11 := g4.2.2.2.2.2.2.2.2.2.2.2.1
  have y12 := g4.2.2.2.2.2.2.2.2.2.2.2.2.1
  have y13 := g4.2.2.2.2.2.2.2.2.2.2.2.2.2.1
  have y14 := g4.2.2.2.2.2.2.2.2.2.2.2.2.2.2.1
  have y15 := g4.2.2.2.2.2.2.2.2.2.2.2.2.2.2.2.1
  have y16 := g4.2.2.2.2.2.2.2.2.2.2.2.2.2.2.2.2.1
  have y17 := g4.2.2.2.2.2.2.2.2.2.2.2.2.2.2.2.2.2.1
  have y18 := g4.2.2.2.2.2.2.2.2.2.2.2.2.2.2.2.2.2.2
  have p0 := g3.1
  have p1 := g3.2.1
  have p2 := g3.2.2.1
  have p3 := g3.2.2.2.1
  have p4 := g3.2.2.2.2.1
  have p5 := g3.2.2.2.2.2.1
  have p6 := g3.2.2.2.2.2.2
  have r0_0 := f22.2.1
  have r0_1 := f22.2.2
  try simp only [e11, e14] at y9
  try simp only [e13] at y10
  try simp only [e13] at y11
  try simp only [e11, e14] at y18
  try simp only [e18] at r0_1
  clear g3
  clear g4
  have wb0 := (y2 (hV H0 285 32).toNat).1
  have wp0 := (y2 (hV H0 285 33).toNat).2
  have wi45 := (y2 (n20).toNat).2.2
  try simp only [e10, e11, e13, e14] at wb0
  try simp only [e10, e11, e13, e14] at wp0
  try simp only [e10, e11, e13, e14] at wi45
  clear f15 f18 f24 f27 f31 f35 f38 f41 f45 e1 e7 e10 e11 e13 e14 e16 e18 e19 e21 e23 e24 e25 e26 e27 e28 e29 e30 e31 e32
  clear f12 f22
  subst e0
  subst e2
  subst e5
  subst e6
  subst e8
  rw [f32] at f36
  first
  | (have ix0 : n17 = 7 * (hV H0 285 32) := Eq.trans f36 (w32_iv (Iml 7 rfl (Iat f34 f33)) (by decide)); subst ix0; clear f36)
  | (have ix0 : n17 = 7 * (hV H0 285 32) := Eq.trans f36 (w32_id (by omega) (by omega)); subst ix0; clear f36)
  | (unfold w32 at f36; have ix0 : n17 = 7 * (hV H0 285 32) := (by omega); subst ix0)
  | skip
  first
  | (have ix1 : n20 = (7 * (hV H0 285 32)) + hV H1 300 (n3).toNat := Eq.trans f42 (w32_iv (Iad (Iml 7 rfl (Iat f34 f33)) (Iat f17 f16)) (by decide)); subst ix1; clear f42)
  | (have ix1 : n20 = (7 * (hV H0 285 32)) + hV H1 300 (n3).toNat := Eq.trans f42 (w32_id (by omega) (by omega)); subst ix1; clear f42)
  | (unfold w32 at f42; have ix1 : n20 = (7 * (hV H0 285 32)) + hV H1 300 (n3).toNat := (by omega); subst ix1)
  | skip
  try unfold w32 at f36
  try unfold w32 at f42

  refine ⟨⟨?_, ?_, ?_, ?_, ?_⟩, fun q hq => ?_⟩
  · exact y0
  · intro z1 z2
    exact y1 (by omega) (by omega)
  · exact y2
  · intro z1 z2
    omega
  · (try clear y0 y1 y2 p0 p5 p6)
    first
    | omega
    | (refine ⟨?_, ?_, ?_, ?_, ?_, ?_, ?_⟩ <;> first | exact True.intro | omega)
  · (try clear y0 y1 y2 p0 p5 p6)
    have g6 := Option.some.inj hq
    subst g6
    omega
def g_227_471_6 : vG := ([(22, [21, 14, 20], [2], 0), (90, [21], [], 0), (91, [21], [], 2000), (1, [20, 17, 19], [], 0), (22, [19, 18, 3], [2], 0), (90, [19], [], -1), (91, [19], [], 9999), (20, [18, 1], [2], 26), (0, [18], [], 300), (3, [17, 15, 16], [], 0), (20, [16, 1], [2], 32), (90, [16], [], 0), (91, [16], [], 7), (0, [15], [], 7), (20, [14, 1], [2], 23), (0, [14], [], 297), (41, [12, 13], [], 0), (0, [13], [], -1), (22, [12, 11, 3], [2], 0), (90, [12], [], -1), (91, [12], [], 9999), (20, [11, 1], [2], 26), (0, [11], [], 300), (1218, [1, 10, 5], [1, 2], 0), (0, [10], [], 4), (40, [8, 9], [], 0), (0, [9], [], -1), (22, [8, 7, 3], [1], 0), (90, [8], [], -1), (91, [8], [], 9999), (20, [7, 1], [1], 26), (0, [7], [], 300), (32, [6], [], 0), (5000, [0, 1, 2, 3, 4, 5, 6], [0, 1], 471), (0, [0], [], 285), (0, [1], [], 285), (90, [2], [], 0), (91, [2], [], 5), (90, [3], [], 0), (91, [3], [], 1007), (90, [4], [], 1), (91, [4], [], 1), (90, [5], [], 0), (91, [5], [], 500), (90, [6], [], -1), (91, [6], [], 5)], (4000, [1, 2, 3, 21], [2], 567))
theorem c_227_471_6 {q0 : Nat} : vOkm T0 (eP e_227 L_227 A_227 mu_227 (some q0)) 1 g_227_471_6 := vOk_inI fun ρ η f0 f1 f2 f3 f4 f5 f6 f7 f8 f9 f10 f11 f12 f13 f14 f15 f16 f17 f18 f19 f20 f21 f22 f23 f24 f25 f26 f27 f28 f29 f30 f31 f32 f33 f34 f35 f36 f37 f38 f39 f40 f41 f42 f43 f44 f45 => q_227_51 (q0 := q0) (n0 := ρ 6) (n1 := ρ 5) (n2 := ρ 4) (n3 := ρ 3) (n4 := ρ 2) (n5 := ρ 1) (n6 := ρ 0) (n7 := ρ 7) (n8 := ρ 8) (n9 := ρ 9) (n10 := ρ 10) (n11 := ρ 11) (n12 := ρ 12) (n13 := ρ 13) (n14 := ρ 14) (n15 := ρ 15) (n16 := ρ 16) (n17 := ρ 17) (n18 := ρ 18) (n19 := ρ 19) (n20 := ρ 20) (n21 := ρ 21) (H0 := η 0) (H1 := η 1) (H2 := η 2) f45 f44 f43 f42 f41 f40 f39 f38 f37 f36 f35 f34 f33 f32 f31 f30 f29 f28 f27 f26 f25 f24 f23 f22 f21 f20 f19 f18 f17 f16 f15 f14 f13 f12 f11 f10 f9 f8 f7 f6 f5 f4 f3 f2 f1 f0
set_option maxHeartbeats 20000000 in
theorem q_227_52 {q0 : Nat} {n0 n1 n2 n3 n4 n5 n6 n7 n8 n9 n10 n11 n12 n13 n14 : Int} {H0 H1 H2 : gH} (f0 : n0 ≤ 5) (f1 : (-1) ≤ n0) (f2 : n1 ≤ 500) (f3 : 0 ≤ n1) (f4 : n2 ≤ 1) (f5 : 1 ≤ n2) (f6 : n3 ≤ 1007) (f7 : 0 ≤ n3) (f8 : n4 ≤ 5) (f9 : 0 ≤ n4) (f10 : n5 = 285) (f11 : n6 = 285) (f12 : (hLe T0 H0 H1 ∧ hFr s_227.2.2.2.2 H0 H1 ∧ hWt T0 H1) ∧ (Ab_227_471 n6 n5 n4 n3 n2 n1 n0 H0 H1 ∧ preb_227 n6 H0) ∧ some q0 = some (mub_227_471 n6 n5 n4 n3 n2 n1 n0 H0 H1)) (f13 : n0 < 0) (f14 : n7 = 300) (f15 : n7 = hV H1 (n5).toNat 26) (f16 : n8 ≤ 9999) (f17 : (-1) ≤ n8) (f18 : n8 = hV H1 (n7).toNat (n3).toNat) (f19 : n9 = (-1)) (f20 : n8 = n9) (f21 : n10 = 4) (f22 : (hLe T0 H1 H2 ∧ hFr s_218.2.2.2.2 H1 H2 ∧ ((0 : Int) = 0 → H2.length = H1.length) ∧ hWt T0 H2) ∧ postb_218 n5 n10 n1 H1 H2) (f23 : n11 = 300) (f24 : n11 = hV H2 (n5).toNat 26) (f25 : n12 ≤ 9999) (f26 : (-1) ≤ n12) (f27 : n12 = hV H2 (n11).toNat (n3).toNat) (f28 : n13 = (-1)) (f29 : n12 = n13) (f30 : n14 = 0) : Ab_227_567 n6 n5 n4 n3 n14 H0 H2 ∧ ∀ q, some q0 = some q → mub_227_567 n6 n5 n4 n3 n14 H0 H2 < q := by
  have g4 := f12.2.1.1
  unfold Ab_227_471 at g4
  have g3 := f12.2.1.2
  unfold preb_227 at g3
  have g5 := Option.some.inj f12.2.2
  unfold mub_227_471 at g5
  unfold postb_218 at f22
  unfold Ab_227_567
  unfold mub_227_567
  have e0 : n8 = hV H1 300 (n3).toNat := (by rw [f14] at f18; exact f18 : n8 = hV H1 300 (n3).toNat)
  have e1 : hV H2 300 = hV H1 300 := fRow f22.1.2.1 300 kR_218_300
  have e2 : n12 = hV H1 300 (n3).toNat := (by rw [f23] at f27; exact f27 : n12 = hV H2 300 (n3).toNat).trans ((congrFun e1 _))
  have e4 : hV H1 285 18 = hV H0 285 18 := (f12.1.2.1.1 285 18 kF_227_285_18)
  have e6 : hV H1 285 32 = hV H0 285 32 := (f12.1.2.1.1 285 32 kF_227_285_32)
  have e8 : hV H1 285 33 = hV H0 285 33 := (f12.1.2.1.1 285 33 kF_227_285_33)
  have e9 : hV H1 294 = hV H0 294 := fRow f12.1.2.1 294 kR_227_294
  have e11 : hV H2 285 11 = hV H1 285 11 := (f22.1.2.1.1 285 11 kF_218_285_11)
  have e13 : hV H2 285 13 = hV H1 285 13 := (f22.1.2.1.1 285 13 kF_218_285_13)
  have e15 : hV H2 285 32 = hV H0 285 32 := ((f22.1.2.1.1 285 32 kF_218_285_32)).trans (f12.1.2.1.1 285 32 kF_227_285_32)
  have e17 : hV H2 285 33 = hV H0 285 33 := ((f22.1.2.1.1 285 33 kF_218_285_33)).trans (f12.1.2.1.1 285 33 kF_227_285_33)
  have e19 : hV H2 294 = hV H0 294 := (fRow f22.1.2.1 294 kR_218_294).trans e9
  have e20 : hV H2 296 = hV H1 296 := fRow f22.1.2.1 296 kR_218_296
  have e21 : hV H2 297 = hV H1 297 := fRow f22.1.2.1 297 kR_218_297
  have e22 : hV H2 298 = hV H1 298 := fRow f22.1.2.1 298 kR_218_298
  have e23 : hV H2 301 = hV H1 301 := fRow f22.1.2.1 301 kR_218_301
  have e24 : hV H2 302 = hV H1 302 := fRow f22.1.2.1 302 kR_218_302
  have e25 : hV H2 303 = hV H1 303 := fRow f22.1.2.1 303 kR_218_303
  have e26 : hV H2 305 = hV H1 305 := fRow f22.1.2.1 305 kR_218_305
  have e27 : PA H2 = PA H1 := PA_fr f22.1.2.1 (by decide +kernel)
  have e28 : PQ H2 = PQ H1 := PQ_fr f22.1.2.1 (by decide +kernel)
  have e29 : PW H2 = PW H1 := PW_fr f22.1.2.1 (by decide +kernel)
  have e30 : (0 : Int) ≤ hV H1 285 11 ∧ hV H1 285 11 ≤ 500 := f12.1.2.2 285 11 _ _ kW_285_11
  have e31 : (0 : Int) ≤ hV H1 285 13 ∧ hV H1 285 13 ≤ 2 := f12.1.2.2 285 13 _ _ kW_285_13
  have e32 : (0 : Int) ≤ hV H1 285 15 ∧ hV H1 285 15 ≤ 6 := f12.1.2.2 285 15 _ _ kW_285_15
  have e33 : (0 : Int) ≤ hV H0 285 18 ∧ hV H0 285 18 ≤ 8 := bTo e4 (f12.1.2.2 285 18 _ _ kW_285_18)
  have e34 : (0 : Int) ≤ hV H0 285 32 ∧ hV H0 285 32 ≤ 7 := bTo e6 (f12.1.2.2 285 32 _ _ kW_285_32)
  have e35 : (0 : Int) ≤ hV H0 285 33 ∧ hV H0 285 33 ≤ 62 := bTo e8 (f12.1.2.2 285 33 _ _ kW_285_33)
  have e38 : (0 : Int) ≤ hV H2 285 15 ∧ hV H2 285 15 ≤ 6 := f22.1.2.2.2 285 15 _ _ kW_285_15
  try simp only [e11, e13, e15, e17, e19, e20, e21, e22, e1, e23, e24, e25, e26, e27, e28, e29]
  have y0 := g4.1
  have y1 := g4.2.1
  have y2 := g4.2.2.1
  have y3 := g4.2.2.2.1
  have y4 := g4.2.2.2.2.1
  have y5 := g4.2.2.2.2.2.1
  have y6 := g4.2.2.2.2.2.2.1
  have y7 := g4.2.2.2.2.2.2.2.1
  have y8 := g4.2.2.2.2.2.2.2.2.1
  have y9 := g4.2.2.2.2.2.2.2.2.2.1
  have y10 := g4.2.2.2.2.2.2.2.2.2.2.1
  have y11 := g4.2.2.2.2.2.2.2.2.2.2.2.1
  have y12 := g4.2.2.2.2.2.2.2.2.2.2.2.2.1
  have y13 := g4.2.2.2.2.2.2.2.2.2.2.2.2.2.1
  have y14 := g4.2.2.2.2.2.2.2.2.2.2.2.2.2.2.1
  have y15 := g4.2.2.2.2.2.2.2.2.2.2.2.2.2.2.2.1
  have y16 := g4.2.2.2.2.2.2.2.2.2.2.2.2.2.2.2.2.1
  have y17 := g4.2.2.2.2.2.2.2.2.2.2.2.2.2.2.2.2.2.1
  have y18 := g4.2.2.2.2.2.2.2.2.2.2.2.2.2.2.2.2.2.2
  have p0 := g3.1
  have p1 := g3.2.1
  have p2 := g3.2.2.1
  have p3 := g3.2.2.2.1
  have p4 := g3.2.2.2.2.1
  have p5 := g3.2.2.2.2.2.1
  have p6 := g3.2.2.2.2.2.2
  have r0_0 := f22.2.1
  have r0_1 := f22.2.2
  try simp only [e6, e9] at y9
  try simp only [e8] at y10
  try simp only [e8] at y11
  try simp only [e6, e9] at y18
  try simp only [e13] at r0_1
  clear g3
  clear g4
  have wb0 := (y2 (hV H0 285 32).toNat).1
  have wp0 := (y2 (hV H0 285 33).toNat).2
  try simp only [e4, e6, e8, e9] at wb0
  try simp only [e4, e6, e8, e9] at wp0
  clear f15 f18 f24 f27 e1 e4 e6 e8 e9 e11 e13 e15 e17 e19 e20 e21 e22 e23 e24 e25 e26 e27 e28 e29
  clear f12 f22
  subst e0
  subst e2

  refine ⟨⟨?_, ?_, ?_, ?_, ?_⟩, fun q hq => ?_⟩
  · exact y0
  · intro z1 z2
    exact y1 (by omega) (by omega)
  · exact y2
  · intro z1 z2
    omega
  · (try clear y0 y1 y2 p0 p5 p6)
    first
    | omega
    | (refine ⟨?_, ?_, ?_, ?_, ?_, ?_, ?_⟩ <;> first | exact True.intro | omega)
  · (try clear y0 y1 y2 p0 p5 p6)
    have g6 := Option.some.inj hq
    subst g6
    omega
def g_227_471_7 : vG := ([(0, [14], [], 0), (40, [12, 13], [], 0), (0, [13], [], -1), (22, [12, 11, 3], [2], 0), (90, [12], [], -1), (91, [12], [], 9999), (20, [11, 1], [2], 26), (0, [11], [], 300), (1218, [1, 10, 5], [1, 2], 0), (0, [10], [], 4), (40, [8, 9], [], 0), (0, [9], [], -1), (22, [8, 7, 3], [1], 0), (90, [8], [], -1), (91, [8], [], 9999), (20, [7, 1], [1], 26), (0, [7], [], 300), (32, [6], [], 0), (5000, [0, 1, 2, 3, 4, 5, 6], [0, 1], 471), (0, [0], [], 285), (0, [1], [], 285), (90, [2], [], 0), (91, [2], [], 5), (90, [3], [], 0), (91, [3], [], 1007), (90, [4], [], 1), (91, [4], [], 1), (90, [5], [], 0), (91, [5], [], 500), (90, [6], [], -1), (91, [6], [], 5)], (4000, [1, 2, 3, 14], [2], 567))
theorem c_227_471_7 {q0 : Nat} : vOkm T0 (eP e_227 L_227 A_227 mu_227 (some q0)) 1 g_227_471_7 := vOk_inI fun ρ η f0 f1 f2 f3 f4 f5 f6 f7 f8 f9 f10 f11 f12 f13 f14 f15 f16 f17 f18 f19 f20 f21 f22 f23 f24 f25 f26 f27 f28 f29 f30 => q_227_52 (q0 := q0) (n0 := ρ 6) (n1 := ρ 5) (n2 := ρ 4) (n3 := ρ 3) (n4 := ρ 2) (n5 := ρ 1) (n6 := ρ 0) (n7 := ρ 7) (n8 := ρ 8) (n9 := ρ 9) (n10 := ρ 10) (n11 := ρ 11) (n12 := ρ 12) (n13 := ρ 13) (n14 := ρ 14) (H0 := η 0) (H1 := η 1) (H2 := η 2) f30 f29 f28 f27 f26 f25 f24 f23 f22 f21 f20 f19 f18 f17 f16 f15 f14 f13 f12 f11 f10 f9 f8 f7 f6 f5 f4 f3 f2 f1 f0
set_option maxHeartbeats 20000000 in
theorem q_227_53 {q0 : Nat} {n0 n1 n2 n3 n4 n5 n6 n7 n8 n9 n10 : Int} {H0 H1 : gH} (f0 : n0 ≤ 5) (f1 : (-1) ≤ n0) (f2 : n1 ≤ 500) (f3 : 0 ≤ n1) (f4 : n2 ≤ 1) (f5 : 1 ≤ n2) (f6 : n3 ≤ 1007) (f7 : 0 ≤ n3) (f8 : n4 ≤ 5) (f9 : 0 ≤ n4) (f10 : n5 = 285) (f11 : n6 = 285) (f12 : (hLe T0 H0 H1 ∧ hFr s_227.2.2.2.2 H0 H1 ∧ hWt T0 H1) ∧ (Ab_227_471 n6 n5 n4 n3 n2 n1 n0 H0 H1 ∧ preb_227 n6 H0) ∧ some q0 = some (mub_227_471 n6 n5 n4 n3 n2 n1 n0 H0 H1)) (f13 : 0 ≤ n0) (f14 : n7 = 6) (f15 : n8 ≤ 7) (f16 : 0 ≤ n8) (f17 : n8 = hV H1 (n5).toNat 32) (f18 : n9 = w32 (n7 * n8)) (f19 : n10 = w32 (n9 + n0)) : 0 ≤ n10 ∧ n10 < 54 := by
  have g4 := f12.2.1.1
  unfold Ab_227_471 at g4
  have g3 := f12.2.1.2
  unfold preb_227 at g3
  have e1 : n8 = hV H0 285 32 := (by rw [f10] at f17; exact f17 : n8 = hV H1 285 32).trans ((f12.1.2.1.1 285 32 kF_227_285_32))
  have e3 : hV H1 285 18 = hV H0 285 18 := (f12.1.2.1.1 285 18 kF_227_285_18)
  have e4 : hV H1 285 32 = hV H0 285 32 := (f12.1.2.1.1 285 32 kF_227_285_32)
  have e6 : hV H1 285 33 = hV H0 285 33 := (f12.1.2.1.1 285 33 kF_227_285_33)
  have e7 : hV H1 294 = hV H0 294 := fRow f12.1.2.1 294 kR_227_294
  have e8 : (0 : Int) ≤ hV H1 285 11 ∧ hV H1 285 11 ≤ 500 := f12.1.2.2 285 11 _ _ kW_285_11
  have e9 : (0 : Int) ≤ hV H1 285 13 ∧ hV H1 285 13 ≤ 2 := f12.1.2.2 285 13 _ _ kW_285_13
  have e10 : (0 : Int) ≤ hV H1 285 15 ∧ hV H1 285 15 ≤ 6 := f12.1.2.2 285 15 _ _ kW_285_15
  have e11 : (0 : Int) ≤ hV H0 285 18 ∧ hV H0 285 18 ≤ 8 := bTo e3 (f12.1.2.2 285 18 _ _ kW_285_18)
  have e12 : (0 : Int) ≤ hV H0 285 32 ∧ hV H0 285 32 ≤ 7 := bTo e4 (f12.1.2.2 285 32 _ _ kW_285_32)
  have e13 : (0 : Int) ≤ hV H0 285 33 ∧ hV H0 285 33 ≤ 62 := bTo e6 (f12.1.2.2 285 33 _ _ kW_285_33)
  have y0 := g4.1
  have y1 := g4.2.1
  have y2 := g4.2.2.1
  have y3 := g4.2.2.2.1
  have y4 := g4.2.2.2.2.1
  have y5 := g4.2.2.2.2.2.1
  have y6 := g4.2.2.2.2.2.2.1
  have y7 := g4.2.2.2.2.2.2.2.1
  have y8 := g4.2.2.2.2.2.2.2.2.1
  have y9 := g4.2.2.2.2.2.2.2.2.2.1
  have y10 := g4.2.2.2.2.2.2.2.2.2.2.1
  have y11 := g4.2.2.2.2.2.2.2.2.2.2.2.1
  have y12 := g4.2.2.2.2.2.2.2.2.2.2.2.2.1
  have y13 := g4.2.2.2.2.2.2.2.2.2.2.2.2.2.1
  have y14 := g4.2.2.2.2.2.2.2.2.2.2.2.2.2.2.1
  have y15 := g4.2.2.2.2.2.2.2.2.2.2.2.2.2.2.2.1
  have y16 := g4.2.2.2.2.2.2.2.2.2.2.2.2.2.2.2.2.1
  have y17 := g4.2.2.2.2.2.2.2.2.2.2.2.2.2.2.2.2.2.1
  have y18 := g4.2.2.2.2.2.2.2.2.2.2.2.2.2.2.2.2.2.2
  have p0 := g3.1
  have p1 := g3.2.1
  have p2 := g3.2.2.1
  have p3 := g3.2.2.2.1
  have p4 := g3.2.2.2.2.1
  have p5 := g3.2.2.2.2.2.1
  have p6 := g3.2.2.2.2.2.2
  try simp only [e4, e7] at y9
  try simp only [e6] at y10
  try simp only [e6] at y11
  try simp only [e4, e7] at y18
  clear g3
  clear g4
  have wb0 := (y2 (hV H0 285 32).toNat).1
  have wp0 := (y2 (hV H0 285 33).toNat).2
  try simp only [e3, e4, e6, e7] at wb0
  try simp only [e3, e4, e6, e7] at wp0
  clear f17 e3 e4 e6 e7
  clear f12
  subst e1
  rw [f14] at f18
  first
  | (have ix0 : n9 = 6 * (hV H0 285 32) := Eq.trans f18 (w32_iv (Iml 6 rfl (Iat f16 f15)) (by decide)); subst ix0; clear f18)
  | (have ix0 : n9 = 6 * (hV H0 285 32) := Eq.trans f18 (w32_id (by omega) (by omega)); subst ix0; clear f18)
  | (unfold w32 at f18; have ix0 : n9 = 6 * (hV H0 285 32) := (by omega); subst ix0)
  | skip
  first
  | (have ix1 : n10 = (6 * (hV H0 285 32)) + n0 := Eq.trans f19 (w32_iv (Iad (Iml 6 rfl (Iat f16 f15)) (Iat f1 f0)) (by decide)); subst ix1; clear f19)
  | (have ix1 : n10 = (6 * (hV H0 285 32)) + n0 := Eq.trans f19 (w32_id (by omega) (by omega)); subst ix1; clear f19)
  | (unfold w32 at f19; have ix1 : n10 = (6 * (hV H0 285 32)) + n0 := (by omega); subst ix1)
  | skip
  try unfold w32 at f18
  try unfold w32 at f19

  (try clear y0 y1 y2 p0 p5 p6)
  omega
def g_227_471_8 : vG := ([(1, [11, 10, 6], [], 0), (3, [10, 8, 9], [], 0), (20, [9, 1], [1], 32), (90, [9], [], 0), (91, [9], [], 7), (0, [8], [], 6), (33, [6], [], 0), (5000, [0, 1, 2, 3, 4, 5, 6], [0, 1], 471), (0, [0], [], 285), (0, [1], [], 285), (90, [2], [], 0), (91, [2], [], 5), (90, [3], [], 0), (91, [3], [], 1007), (90, [4], [], 1), (91, [4], [], 1), (90, [5], [], 0), (91, [5], [], 500), (90, [6], [], -1), (91, [6], [], 5)], (70, [11], [], 54))
theorem c_227_471_8 {q0 : Nat} : vOkm T0 (eP e_227 L_227 A_227 mu_227 (some q0)) 1 g_227_471_8 := vOk_inI fun ρ η f0 f1 f2 f3 f4 f5 f6 f7 f8 f9 f10 f11 f12 f13 f14 f15 f16 f17 f18 f19 => q_227_53 (q0 := q0) (n0 := ρ 6) (n1 := ρ 5) (n2 := ρ 4) (n3 := ρ 3) (n4 := ρ 2) (n5 := ρ 1) (n6 := ρ 0) (n7 := ρ 8) (n8 := ρ 9) (n9 := ρ 10) (n10 := ρ 11) (H0 := η 0) (H1 := η 1) f19 f18 f17 f16 f15 f14 f13 f12 f11 f10 f9 f8 f7 f6 f5 f4 f3 f2 f1 f0
set_option maxHeartbeats 20000000 in
theorem q_227_54 {q0 : Nat} {n0 n1 n2 n3 n4 n5 n6 n7 n8 n9 n10 n11 : Int} {H0 H1 : gH} (f0 : n0 ≤ 5) (f1 : (-1) ≤ n0) (f2 : n1 ≤ 500) (f3 : 0 ≤ n1) (f4 : n2 ≤ 1) (f5 : 1 ≤ n2) (f6 : n3 ≤ 1007) (f7 : 0 ≤ n3) (f8 : n4 ≤ 5) (f9 : 0 ≤ n4) (f10 : n5 = 285) (f11 : n6 = 285) (f12 : (hLe T0 H0 H1 ∧ hFr s_227.2.2.2.2 H0 H1 ∧ hWt T0 H1) ∧ (Ab_227_471 n6 n5 n4 n3 n2 n1 n0 H0 H1 ∧ preb_227 n6 H0) ∧ some q0 = some (mub_227_471 n6 n5 n4 n3 n2 n1 n0 H0 H1)) (f13 : 0 ≤ n0) (f14 : n7 = 6) (f15 : n8 ≤ 7) (f16 : 0 ≤ n8) (f17 : n8 = hV H1 (n5).toNat 32) (f18 : n9 = w32 (n7 * n8)) (f19 : n10 = w32 (n9 + n0)) (f20 : n11 = w32 (n0 + (-1))) : (-1) ≤ n11 := by
  have g4 := f12.2.1.1
  unfold Ab_227_471 at g4
  have g3 := f12.2.1.2
  unfold preb_227 at g3
  have e1 : n8 = hV H0 285 32 := (by rw [f10] at f17; exact f17 : n8 = hV H1 285 32).trans ((f12.1.2.1.1 285 32 kF_227_285_32))
  have e3 : hV H1 285 18 = hV H0 285 18 := (f12.1.2.1.1 285 18 kF_227_285_18)
  have e4 : hV H1 285 32 = hV H0 285 32 := (f12.1.2.1.1 285 32 kF_227_285_32)
  have e6 : hV H1 285 33 = hV H0 285 33 := (f12.1.2.1.1 285 33 kF_227_285_33)
  have e7 : hV H1 294 = hV H0 294 := fRow f12.1.2.1 294 kR_227_294
  have e8 : (0 : Int) ≤ hV H1 285 11 ∧ hV H1 285 11 ≤ 500 := f12.1.2.2 285 11 _ _ kW_285_11
  have e9 : (0 : Int) ≤ hV H1 285 13 ∧ hV H1 285 13 ≤ 2 := f12.1.2.2 285 13 _ _ kW_285_13
  have e10 : (0 : Int) ≤ hV H1 285 15 ∧ hV H1 285 15 ≤ 6 := f12.1.2.2 285 15 _ _ kW_285_15
  have e11 : (0 : Int) ≤ hV H0 285 18 ∧ hV H0 285 18 ≤ 8 := bTo e3 (f12.1.2.2 285 18 _ _ kW_285_18)
  have e12 : (0 : Int) ≤ hV H0 285 32 ∧ hV H0 285 32 ≤ 7 := bTo e4 (f12.1.2.2 285 32 _ _ kW_285_32)
  have e13 : (0 : Int) ≤ hV H0 285 33 ∧ hV H0 285 33 ≤ 62 := bTo e6 (f12.1.2.2 285 33 _ _ kW_285_33)
  have y0 := g4.1
  have y1 := g4.2.1
  have y2 := g4.2.2.1
  have y3 := g4.2.2.2.1
  have y4 := g4.2.2.2.2.1
  have y5 := g4.2.2.2.2.2.1
  have y6 := g4.2.2.2.2.2.2.1
  have y7 := g4.2.2.2.2.2.2.2.1
  have y8 := g4.2.2.2.2.2.2.2.2.1
  have y9 := g4.2.2.2.2.2.2.2.2.2.1
  have y10 := g4.2.2.2.2.2.2.2.2.2.2.1
  have y11 := g4.2.2.2.2.2.2.2.2.2.2.2.1
  have y12 := g4.2.2.2.2.2.2.2.2.2.2.2.2.1
  have y13 := g4.2.2.2.2.2.2.2.2.2.2.2.2.2.1
  have y14 := g4.2.2.2.2.2.2.2.2.2.2.2.2.2.2.1
  have y15 := g4.2.2.2.2.2.2.2.2.2.2.2.2.2.2.2.1
  have y16 := g4.2.2.2.2.2.2.2.2.2.2.2.2.2.2.2.2.1
  have y17 := g4.2.2.2.2.2.2.2.2.2.2.2.2.2.2.2.2.2.1
  have y18 := g4.2.2.2.2.2.2.2.2.2.2.2.2.2.2.2.2.2.2
  have p0 := g3.1
  have p1 := g3.2.1
  have p2 := g3.2.2.1
  have p3 := g3.2.2.2.1
  have p4 := g3.2.2.2.2.1
  have p5 := g3.2.2.2.2.2.1
  have p6 := g3.2.2.2.2.2.2
  try simp only [e4, e7] at y9
  try simp only [e6] at y10
  try simp only [e6] at y11
  try simp only [e4, e7] at y18
  clear g3
  clear g4
  have wb0 := (y2 (hV H0 285 32).toNat).1
  have wp0 := (y2 (hV H0 285 33).toNat).2
  try simp only [e3, e4, e6, e7] at wb0
  try simp only [e3, e4, e6, e7] at wp0
  clear f17 e3 e4 e6 e7
  clear f12
  subst e1
  rw [f14] at f18
  first
  | (have ix0 : n11 = n0 + -1 := Eq.trans f20 (w32_iv (Iad (Iat f1 f0) (IC (-1))) (by decide)); subst ix0; clear f20)
  | (have ix0 : n11 = n0 + -1 := Eq.trans f20 (w32_id (by omega) (by omega)); subst ix0; clear f20)
  | (unfold w32 at f20; have ix0 : n11 = n0 + -1 := (by omega); subst ix0)
  | skip
  try unfold w32 at f18
  try unfold w32 at f19
  try unfold w32 at f20

  (try clear y0 y1 y2 p0 p5 p6)
  omega
def g_227_471_9 : vG := ([(10, [16, 6], [], -1), (1, [11, 10, 6], [], 0), (3, [10, 8, 9], [], 0), (20, [9, 1], [1], 32), (90, [9], [], 0), (91, [9], [], 7), (0, [8], [], 6), (33, [6], [], 0), (5000, [0, 1, 2, 3, 4, 5, 6], [0, 1], 471), (0, [0], [], 285), (0, [1], [], 285), (90, [2], [], 0), (91, [2], [], 5), (90, [3], [], 0), (91, [3], [], 1007), (90, [4], [], 1), (91, [4], [], 1), (90, [5], [], 0), (91, [5], [], 500), (90, [6], [], -1), (91, [6], [], 5)], (90, [16], [], -1))
theorem c_227_471_9 {q0 : Nat} : vOkm T0 (eP e_227 L_227 A_227 mu_227 (some q0)) 1 g_227_471_9 := vOk_inI fun ρ η f0 f1 f2 f3 f4 f5 f6 f7 f8 f9 f10 f11 f12 f13 f14 f15 f16 f17 f18 f19 f20 => q_227_54 (q0 := q0) (n0 := ρ 6) (n1 := ρ 5) (n2 := ρ 4) (n3 := ρ 3) (n4 := ρ 2) (n5 := ρ 1) (n6 := ρ 0) (n7 := ρ 8) (n8 := ρ 9) (n9 := ρ 10) (n10 := ρ 11) (n11 := ρ 16) (H0 := η 0) (H1 := η 1) f20 f19 f18 f17 f16 f15 f14 f13 f12 f11 f10 f9 f8 f7 f6 f5 f4 f3 f2 f1 f0
set_option maxHeartbeats 20000000 in
theorem q_227_55 {q0 : Nat} {n0 n1 n2 n3 n4 n5 n6 n7 n8 n9 n10 n11 : Int} {H0 H1 : gH} (f0 : n0 ≤ 5) (f1 : (-1) ≤ n0) (f2 : n1 ≤ 500) (f3 : 0 ≤ n1) (f4 : n2 ≤ 1) (f5 : 1 ≤ n2) (f6 : n3 ≤ 1007) (f7 : 0 ≤ n3) (f8 : n4 ≤ 5) (f9 : 0 ≤ n4) (f10 : n5 = 285) (f11 : n6 = 285) (f12 : (hLe T0 H0 H1 ∧ hFr s_227.2.2.2.2 H0 H1 ∧ hWt T0 H1) ∧ (Ab_227_471 n6 n5 n4 n3 n2 n1 n0 H0 H1 ∧ preb_227 n6 H0) ∧ some q0 = some (mub_227_471 n6 n5 n4 n3 n2 n1 n0 H0 H1)) (f13 : 0 ≤ n0) (f14 : n7 = 6) (f15 : n8 ≤ 7) (f16 : 0 ≤ n8) (f17 : n8 = hV H1 (n5).toNat 32) (f18 : n9 = w32 (n7 * n8)) (f19 : n10 = w32 (n9 + n0)) (f20 : n11 = w32 (n0 + (-1))) : n11 ≤ 5 := by
  have g4 := f12.2.1.1
  unfold Ab_227_471 at g4
  have g3 := f12.2.1.2
  unfold preb_227 at g3
  have e1 : n8 = hV H0 285 32 := (by rw [f10] at f17; exact f17 : n8 = hV H1 285 32).trans ((f12.1.2.1.1 285 32 kF_227_285_32))
  have e3 : hV H1 285 18 = hV H0 285 18 := (f12.1.2.1.1 285 18 kF_227_285_18)
  have e4 : hV H1 285 32 = hV H0 285 32 := (f12.1.2.1.1 285 32 kF_227_285_32)
  have e6 : hV H1 285 33 = hV H0 285 33 := (f12.1.2.1.1 285 33 kF_227_285_33)
  have e7 : hV H1 294 = hV H0 294 := fRow f12.1.2.1 294 kR_227_294
  have e8 : (0 : Int) ≤ hV H1 285 11 ∧ hV H1 285 11 ≤ 500 := f12.1.2.2 285 11 _ _ kW_285_11
  have e9 : (0 : Int) ≤ hV H1 285 13 ∧ hV H1 285 13 ≤ 2 := f12.1.2.2 285 13 _ _ kW_285_13
  have e10 : (0 : Int) ≤ hV H1 285 15 ∧ hV H1 285 15 ≤ 6 := f12.1.2.2 285 15 _ _ kW_285_15
  have e11 : (0 : Int) ≤ hV H0 285 18 ∧ hV H0 285 18 ≤ 8 := bTo e3 (f12.1.2.2 285 18 _ _ kW_285_18)
  have e12 : (0 : Int) ≤ hV H0 285 32 ∧ hV H0 285 32 ≤ 7 := bTo e4 (f12.1.2.2 285 32 _ _ kW_285_32)
  have e13 : (0 : Int) ≤ hV H0 285 33 ∧ hV H0 285 33 ≤ 62 := bTo e6 (f12.1.2.2 285 33 _ _ kW_285_33)
  have y0 := g4.1
  have y1 := g4.2.1
  have y2 := g4.2.2.1
  have y3 := g4.2.2.2.1
  have y4 := g4.2.2.2.2.1
  have y5 := g4.2.2.2.2.2.1
  have y6 := g4.2.2.2.2.2.2.1
  have y7 := g4.2.2.2.2.2.2.2.1
  have y8 := g4.2.2.2.2.2.2.2.2.1
  have y9 := g4.2.2.2.2.2.2.2.2.2.1
  have y10 := g4.2.2.2.2.2.2.2.2.2.2.1
  have y11 := g4.2.2.2.2.2.2.2.2.2.2.2.1
  have y12 := g4.2.2.2.2.2.2.2.2.2.2.2.2.1
  have y13 := g4.2.2.2.2.2.2.2.2.2.2.2.2.2.1
  have y14 := g4.2.2.2.2.2.2.2.2.2.2.2.2.2.2.1
  have y15 := g4.2.2.2.2.2.2.2.2.2.2.2.2.2.2.2.1
  have y16 := g4.2.2.2.2.2.2.2.2.2.2.2.2.2.2.2.2.1
  have y17 := g4.2.2.2.2.2.2.2.2.2.2.2.2.2.2.2.2.2.1
  have y18 := g4.2.2.2.2.2.2.2.2.2.2.2.2.2.2.2.2.2.2
  have p0 := g3.1
  have p1 := g3.2.1
  have p2 := g3.2.2.1
  have p3 := g3.2.2.2.1
  have p4 := g3.2.2.2.2.1
  have p5 := g3.2.2.2.2.2.1
  have p6 := g3.2.2.2.2.2.2
  try simp only [e4, e7] at y9
  try simp only [e6] at y10
  try simp only [e6] at y11
  try simp only [e4, e7] at y18
  clear g3
  clear g4
  have wb0 := (y2 (hV H0 285 32).toNat).1
  have wp0 := (y2 (hV H0 285 33).toNat).2
  try simp only [e3, e4, e6, e7] at wb0
  try simp only [e3, e4, e6, e7] at wp0
  clear f17 e3 e4 e6 e7
  clear f12
  subst e1
  rw [f14] at f18
  first
  | (have ix0 : n11 = n0 + -1 := Eq.trans f20 (w32_iv (Iad (Iat f1 f0) (IC (-1))) (by decide)); subst ix0; clear f20)
  | (have ix0 : n11 = n0 + -1 := Eq.trans f20 (w32_id (by omega) (by omega)); subst ix0; clear f20)
  | (unfold w32 at f20; have ix0 : n11 = n0 + -1 := (by omega); subst ix0)
  | skip
  try unfold w32 at f18
  try unfold w32 at f19
  try unfold w32 at f20

  (try clear y0 y1 y2 p0 p5 p6)
  omega
def g_227_471_10 : vG := ([(10, [16, 6], [], -1), (1, [11, 10, 6], [], 0), (3, [10, 8, 9], [], 0), (20, [9, 1], [1], 32), (90, [9], [], 0), (91, [9], [], 7), (0, [8], [], 6), (33, [6], [], 0), (5000, [0, 1, 2, 3, 4, 5, 6], [0, 1], 471), (0, [0], [], 285), (0, [1], [], 285), (90, [2], [], 0), (91, [2], [], 5), (90, [3], [], 0), (91, [3], [], 1007), (90, [4], [], 1), (91, [4], [], 1), (90, [5], [], 0), (91, [5], [], 500), (90, [6], [], -1), (91, [6], [], 5)], (91, [16], [], 5))
theorem c_227_471_10 {q0 : Nat} : vOkm T0 (eP e_227 L_227 A_227 mu_227 (some q0)) 1 g_227_471_10 := vOk_inI fun ρ η f0 f1 f2 f3 f4 f5 f6 f7 f8 f9 f10 f11 f12 f13 f14 f15 f16 f17 f18 f19 f20 => q_227_55 (q0 := q0) (n0 := ρ 6) (n1 := ρ 5) (n2 := ρ 4) (n3 := ρ 3) (n4 := ρ 2) (n5 := ρ 1) (n6 := ρ 0) (n7 := ρ 8) (n8 := ρ 9) (n9 := ρ 10) (n10 := ρ 11) (n11 := ρ 16) (H0 := η 0) (H1 := η 1) f20 f19 f18 f17 f16 f15 f14 f13 f12 f11 f10 f9 f8 f7 f6 f5 f4 f3 f2 f1 f0
set_option maxHeartbeats 20000000 in
theorem q_227_56 {q0 : Nat} {n0 n1 n2 n3 n4 n5 n6 n7 n8 n9 n10 n11 : Int} {H0 H1 : gH} (f0 : n0 ≤ 5) (f1 : (-1) ≤ n0) (f2 : n1 ≤ 500) (f3 : 0 ≤ n1) (f4 : n2 ≤ 1) (f5 : 1 ≤ n2) (f6 : n3 ≤ 1007) (f7 : 0 ≤ n3) (f8 : n4 ≤ 5) (f9 : 0 ≤ n4) (f10 : n5 = 285) (f11 : n6 = 285) (f12 : (hLe T0 H0 H1 ∧ hFr s_227.2.2.2.2 H0 H1 ∧ hWt T0 H1) ∧ (Ab_227_471 n6 n5 n4 n3 n2 n1 n0 H0 H1 ∧ preb_227 n6 H0) ∧ some q0 = some (mub_227_471 n6 n5 n4 n3 n2 n1 n0 H0 H1)) (f13 : 0 ≤ n0) (f14 : n7 = 6) (f15 : n8 ≤ 7) (f16 : 0 ≤ n8) (f17 : n8 = hV H1 (n5).toNat 32) (f18 : n9 = w32 (n7 * n8)) (f19 : n10 = w32 (n9 + n0)) (f20 : n11 = w32 (n0 + (-1))) : Ab_227_471 n6 n5 n4 n3 n2 n1 n11 H0 H1 ∧ ∀ q, some q0 = some q → mub_227_471 n6 n5 n4 n3 n2 n1 n11 H0 H1 < q := by
  have g4 := f12.2.1.1
  unfold Ab_227_471 at g4
  have g3 := f12.2.1.2
  unfold preb_227 at g3
  have g5 := Option.some.inj f12.2.2
  unfold mub_227_471 at g5
  unfold Ab_227_471
  unfold mub_227_471
  have e1 : n8 = hV H0 285 32 := (by rw [f10] at f17; exact f17 : n8 = hV H1 285 32).trans ((f12.1.2.1.1 285 32 kF_227_285_32))
  have e3 : hV H1 285 18 = hV H0 285 18 := (f12.1.2.1.1 285 18 kF_227_285_18)
  have e4 : hV H1 285 32 = hV H0 285 32 := (f12.1.2.1.1 285 32 kF_227_285_32)
  have e6 : hV H1 285 33 = hV H0 285 33 := (f12.1.2.1.1 285 33 kF_227_285_33)
  have e7 : hV H1 294 = hV H0 294 := fRow f12.1.2.1 294 kR_227_294
  have e8 : (0 : Int) ≤ hV H1 285 11 ∧ hV H1 285 11 ≤ 500 := f12.1.2.2 285 11 _ _ kW_285_11
  have e9 : (0 : Int) ≤ hV H1 285 13 ∧ hV H1 285 13 ≤ 2 := f12.1.2.2 285 13 _ _ kW_285_13
  have e10 : (0 : Int) ≤ hV H1 285 15 ∧ hV H1 285 15 ≤ 6 := f12.1.2.2 285 15 _ _ kW_285_15
  have e11 : (0 : Int) ≤ hV H0 285 18 ∧ hV H0 285 18 ≤ 8 := bTo e3 (f12.1.2.2 285 18 _ _ kW_285_18)
  have e12 : (0 : Int) ≤ hV H0 285 32 ∧ hV H0 285 32 ≤ 7 := bTo e4 (f12.1.2.2 285 32 _ _ kW_285_32)
  have e13 : (0 : Int) ≤ hV H0 285 33 ∧ hV H0 285 33 ≤ 62 := bTo e6 (f12.1.2.2 285 33 _ _ kW_285_33)
  try simp only [e4, e6, e7]
  have y0 := g4.1
  have y1 := g4.2.1
  have y2 := g4.2.2.1
  have y3 := g4.2.2.2.1
  have y4 := g4.2.2.2.2.1
  have y5 := g4.2.2.2.2.2.1
  have y6 := g4.2.2.2.2.2.2.1
  have y7 := g4.2.2.2.2.2.2.2.1
  have y8 := g4.2.2.2.2.2.2.2.2.1
  have y9 := g4.2.2.2.2.2.2.2.2.2.1
  have y10 := g4.2.2.2.2.2.2.2.2.2.2.1
  have y11 := g4.2.2.2.2.2.2.2.2.2.2.2.1
  have y12 := g4.2.2.2.2.2.2.2.2.2.2.2.2.1
  have y13 := g4.2.2.2.2.2.2.2.2.2.2.2.2.2.1
  have y14 := g4.2.2.2.2.2.2.2.2.2.2.2.2.2.2.1
  have y15 := g4.2.2.2.2.2.2.2.2.2.2.2.2.2.2.2.1
  have y16 := g4.2.2.2.2.2.2.2.2.2.2.2.2.2.2.2.2.1
  have y17 := g4.2.2.2.2.2.2.2.2.2.2.2.2.2.2.2.2.2.1
  have y18 := g4.2.2.2.2.2.2.2.2.2.2.2.2.2.2.2.2.2.2
  have p0 := g3.1
  have p1 := g3.2.1
  have p2 := g3.2.2.1
  have p3 := g3.2.2.2.1
  have p4 := g3.2.2.2.2.1
  have p5 := g3.2.2.2.2.2.1
  have p6 := g3.2.2.2.2.2.2
  try simp only [e4, e7] at y9
  try simp only [e6] at y10
  try simp only [e6] at y11
  try simp only [e4, e7] at y18
  clear g3
  clear g4
  have wb0 := (y2 (hV H0 285 32).toNat).1
  have wp0 := (y2 (hV H0 285 33).toNat).2
  try simp only [e3, e4, e6, e7] at wb0
  try simp only [e3, e4, e6, e7] at wp0
  clear f17 e3 e4 e6 e7
  clear f12
  subst e1
  rw [f14] at f18
  first
  | (have ix0 : n11 = n0 + -1 := Eq.trans f20 (w32_iv (Iad (Iat f1 f0) (IC (-1))) (by decide)); subst ix0; clear f20)
  | (have ix0 : n11 = n0 + -1 := Eq.trans f20 (w32_id (by omega) (by omega)); subst ix0; clear f20)
  | (unfold w32 at f20; have ix0 : n11 = n0 + -1 := (by omega); subst ix0)
  | skip
  try unfold w32 at f18
  try unfold w32 at f19
  try unfold w32 at f20

  refine ⟨⟨?_, ?_, ?_, ?_⟩, fun q hq => ?_⟩
  · exact y0
  · intro z1 z2
    exact y1 (by omega) (by omega)
  · exact y2
  · (try clear y0 y1 y2 p0 p5 p6)
    first
    | omega
    | (refine ⟨?_, ?_, ?_, ?_, ?_, ?_, ?_, ?_, ?_, ?_, ?_, ?_, ?_, ?_, ?_, ?_⟩ <;> first | exact True.intro | omega)
  · (try clear y0 y1 y2 p0 p5 p6)
    have g6 := Option.some.inj hq
    subst g6
    omega
def g_227_471_11 : vG := ([(10, [16, 6], [], -1), (1, [11, 10, 6], [], 0), (3, [10, 8, 9], [], 0), (20, [9, 1], [1], 32), (90, [9], [], 0), (91, [9], [], 7), (0, [8], [], 6), (33, [6], [], 0), (5000, [0, 1, 2, 3, 4, 5, 6], [0, 1], 471), (0, [0], [], 285), (0, [1], [], 285), (90, [2], [], 0), (91, [2], [], 5), (90, [3], [], 0), (91, [3], [], 1007), (90, [4], [], 1), (91, [4], [], 1), (90, [5], [], 0), (91, [5], [], 500), (90, [6], [], -1), (91, [6], [], 5)], (4000, [1, 2, 3, 4, 5, 16], [1], 471))
theorem c_227_471_11 {q0 : Nat} : vOkm T0 (eP e_227 L_227 A_227 mu_227 (some q0)) 1 g_227_471_11 := vOk_inI fun ρ η f0 f1 f2 f3 f4 f5 f6 f7 f8 f9 f10 f11 f12 f13 f14 f15 f16 f17 f18 f19 f20 => q_227_56 (q0 := q0) (n0 := ρ 6) (n1 := ρ 5) (n2 := ρ 4) (n3 := ρ 3) (n4 := ρ 2) (n5 := ρ 1) (n6 := ρ 0) (n7 := ρ 8) (n8 := ρ 9) (n9 := ρ 10) (n10 := ρ 11) (n11 := ρ 16) (H0 := η 0) (H1 := η 1) f20 f19 f18 f17 f16 f15 f14 f13 f12 f11 f10 f9 f8 f7 f6 f5 f4 f3 f2 f1 f0
def g_227_471_12 : vG := ([(10, [17, 6], [], -1), (1, [11, 10, 6], [], 0), (3, [10, 8, 9], [], 0), (20, [9, 1], [1], 32), (90, [9], [], 0), (91, [9], [], 7), (0, [8], [], 6), (33, [6], [], 0), (5000, [0, 1, 2, 3, 4, 5, 6], [0, 1], 471), (0, [0], [], 285), (0, [1], [], 285), (90, [2], [], 0), (91, [2], [], 5), (90, [3], [], 0), (91, [3], [], 1007), (90, [4], [], 1), (91, [4], [], 1), (90, [5], [], 0), (91, [5], [], 500), (90, [6], [], -1), (91, [6], [], 5)], (90, [17], [], -1))
theorem c_227_471_12 {q0 : Nat} : vOkm T0 (eP e_227 L_227 A_227 mu_227 (some q0)) 1 g_227_471_12 := vOk_inI fun ρ η f0 f1 f2 f3 f4 f5 f6 f7 f8 f9 f10 f11 f12 f13 f14 f15 f16 f17 f18 f19 f20 => q_227_54 (q0 := q0) (n0 := ρ 6) (n1 := ρ 5) (n2 := ρ 4) (n3 := ρ 3) (n4 := ρ 2) (n5 := ρ 1) (n6 := ρ 0) (n7 := ρ 8) (n8 := ρ 9) (n9 := ρ 10) (n10 := ρ 11) (n11 := ρ 17) (H0 := η 0) (H1 := η 1) f20 f19 f18 f17 f16 f15 f14 f13 f12 f11 f10 f9 f8 f7 f6 f5 f4 f3 f2 f1 f0
def g_227_471_13 : vG := ([(10, [17, 6], [], -1), (1, [11, 10, 6], [], 0), (3, [10, 8, 9], [], 0), (20, [9, 1], [1], 32), (90, [9], [], 0), (91, [9], [], 7), (0, [8], [], 6), (33, [6], [], 0), (5000, [0, 1, 2, 3, 4, 5, 6], [0, 1], 471), (0, [0], [], 285), (0, [1], [], 285), (90, [2], [], 0), (91, [2], [], 5), (90, [3], [], 0), (91, [3], [], 1007), (90, [4], [], 1), (91, [4], [], 1), (90, [5], [], 0), (91, [5], [], 500), (90, [6], [], -1), (91, [6], [], 5)], (91, [17], [], 5))
theorem c_227_471_13 {q0 : Nat} : vOkm T0 (eP e_227 L_227 A_227 mu_227 (some q0)) 1 g_227_471_13 := vOk_inI fun ρ η f0 f1 f2 f3 f4 f5 f6 f7 f8 f9 f10 f11 f12 f13 f14 f15 f16 f17 f18 f19 f20 => q_227_55 (q0 := q0) (n0 := ρ 6) (n1 := ρ 5) (n2 := ρ 4) (n3 := ρ 3) (n4 := ρ 2) (n5 := ρ 1) (n6 := ρ 0) (n7 := ρ 8) (n8 := ρ 9) (n9 := ρ 10) (n10 := ρ 11) (n11 := ρ 17) (H0 := η 0) (H1 := η 1) f20 f19 f18 f17 f16 f15 f14 f13 f12 f11 f10 f9 f8 f7 f6 f5 f4 f3 f2 f1 f0
set_option maxHeartbeats 20000000 in
theorem q_227_57 {q0 : Nat} {n0 n1 n2 n3 n4 n5 n6 n7 n8 n9 n10 n11 n12 : Int} {H0 H1 H2 : gH} (f0 : n0 ≤ 5) (f1 : (-1) ≤ n0) (f2 : n1 ≤ 500) (f3 : 0 ≤ n1) (f4 : n2 ≤ 1) (f5 : 1 ≤ n2) (f6 : n3 ≤ 1007) (f7 : 0 ≤ n3) (f8 : n4 ≤ 5) (f9 : 0 ≤ n4) (f10 : n5 = 285) (f11 : n6 = 285) (f12 : (hLe T0 H0 H1 ∧ hFr s_227.2.2.2.2 H0 H1 ∧ hWt T0 H1) ∧ (Ab_227_471 n6 n5 n4 n3 n2 n1 n0 H0 H1 ∧ preb_227 n6 H0) ∧ some q0 = some (mub_227_471 n6 n5 n4 n3 n2 n1 n0 H0 H1)) (f13 : 0 ≤ n0) (f14 : n7 = 6) (f15 : n8 ≤ 7) (f16 : 0 ≤ n8) (f17 : n8 = hV H1 (n5).toNat 32) (f18 : n9 = w32 (n7 * n8)) (f19 : n10 = w32 (n9 + n0)) (f20 : n11 = 300) (f21 : n11 = hV H1 (n5).toNat 26) (f22 : hUpd H2 H1 n11 n3 n0) (f23 : n12 = w32 (n0 + (-1))) : Ab_227_471 n6 n5 n4 n3 n2 n1 n12 H0 H2 ∧ ∀ q, some q0 = some q → mub_227_471 n6 n5 n4 n3 n2 n1 n12 H0 H2 < q := by
  have g4 := f12.2.1.1
  unfold Ab_227_471 at g4
  have g3 := f12.2.1.2
  unfold preb_227 at g3
  have g5 := Option.some.inj f12.2.2
  unfold mub_227_471 at g5
  unfold Ab_227_471
  unfold mub_227_471
  have e1 : n8 = hV H0 285 32 := (by rw [f10] at f17; exact f17 : n8 = hV H1 285 32).trans ((f12.1.2.1.1 285 32 kF_227_285_32))
  have e3 : hV H1 285 18 = hV H0 285 18 := (f12.1.2.1.1 285 18 kF_227_285_18)
  have e4 : hV H1 285 32 = hV H0 285 32 := (f12.1.2.1.1 285 32 kF_227_285_32)
  have e6 : hV H1 285 33 = hV H0 285 33 := (f12.1.2.1.1 285 33 kF_227_285_33)
  have e8 : hV H1 285 64 = hV H0 285 64 := (f12.1.2.1.1 285 64 kF_227_285_64)
  have e9 : hV H1 294 = hV H0 294 := fRow f12.1.2.1 294 kR_227_294
  have e10 : hV H1 328 = hV H0 328 := fRow f12.1.2.1 328 kR_227_328
  have e11 : hV H1 332 = hV H0 332 := fRow f12.1.2.1 332 kR_227_332
  have e12 : hV H1 335 = hV H0 335 := fRow f12.1.2.1 335 kR_227_335
  have e14 : hV H2 285 11 = hV H1 285 11 := (uPlace f22 285 11 (iS (show n11 = ((300 : Nat) : Int) from f20) rfl))
  have e16 : hV H2 285 13 = hV H1 285 13 := (uPlace f22 285 13 (iS (show n11 = ((300 : Nat) : Int) from f20) rfl))
  have e18 : hV H2 285 15 = hV H1 285 15 := (uPlace f22 285 15 (iS (show n11 = ((300 : Nat) : Int) from f20) rfl))
  have e20 : hV H2 285 18 = hV H0 285 18 := ((uPlace f22 285 18 (iS (show n11 = ((300 : Nat) : Int) from f20) rfl))).trans (f12.1.2.1.1 285 18 kF_227_285_18)
  have e22 : hV H2 285 32 = hV H0 285 32 := ((uPlace f22 285 32 (iS (show n11 = ((300 : Nat) : Int) from f20) rfl))).trans (f12.1.2.1.1 285 32 kF_227_285_32)
  have e24 : hV H2 285 33 = hV H0 285 33 := ((uPlace f22 285 33 (iS (show n11 = ((300 : Nat) : Int) from f20) rfl))).trans (f12.1.2.1.1 285 33 kF_227_285_33)
  have e26 : hV H2 285 64 = hV H0 285 64 := ((uPlace f22 285 64 (iS (show n11 = ((300 : Nat) : Int) from f20) rfl))).trans (f12.1.2.1.1 285 64 kF_227_285_64)
  have e28 : hV H2 294 = hV H0 294 := (uRowNe f22 294 (iS (show n11 = ((300 : Nat) : Int) from f20) rfl)).trans e9
  have e29 : hV H2 296 = hV H1 296 := uRowNe f22 296 (iS (show n11 = ((300 : Nat) : Int) from f20) rfl)
  have e30 : hV H2 297 = hV H1 297 := uRowNe f22 297 (iS (show n11 = ((300 : Nat) : Int) from f20) rfl)
  have e31 : hV H2 298 = hV H1 298 := uRowNe f22 298 (iS (show n11 = ((300 : Nat) : Int) from f20) rfl)
  have e32 : hV H2 300 = uF (hV H1 300) n3 n0 := uRow f22 300 f20.symm
  have e33 : hV H2 301 = hV H1 301 := uRowNe f22 301 (iS (show n11 = ((300 : Nat) : Int) from f20) rfl)
  have e34 : hV H2 302 = hV H1 302 := uRowNe f22 302 (iS (show n11 = ((300 : Nat) : Int) from f20) rfl)
  have e35 : hV H2 303 = hV H1 303 := uRowNe f22 303 (iS (show n11 = ((300 : Nat) : Int) from f20) rfl)
  have e36 : hV H2 305 = hV H1 305 := uRowNe f22 305 (iS (show n11 = ((300 : Nat) : Int) from f20) rfl)
  have e38 : hV H2 328 = hV H0 328 := (uRowNe f22 328 (iS (show n11 = ((300 : Nat) : Int) from f20) rfl)).trans e10
  have e40 : hV H2 332 = hV H0 332 := (uRowNe f22 332 (iS (show n11 = ((300 : Nat) : Int) from f20) rfl)).trans e11
  have e42 : hV H2 335 = hV H0 335 := (uRowNe f22 335 (iS (show n11 = ((300 : Nat) : Int) from f20) rfl)).trans e12
  have e43 : PQ H2 = PQ H1 := PQ_upR f22 (show n11 = ((300 : Nat) : Int) from f20) (by decide)
  have e44 : (0 : Int) ≤ hV H1 285 11 ∧ hV H1 285 11 ≤ 500 := f12.1.2.2 285 11 _ _ kW_285_11
  have e45 : (0 : Int) ≤ hV H1 285 13 ∧ hV H1 285 13 ≤ 2 := f12.1.2.2 285 13 _ _ kW_285_13
  have e46 : (0 : Int) ≤ hV H1 285 15 ∧ hV H1 285 15 ≤ 6 := f12.1.2.2 285 15 _ _ kW_285_15
  have e47 : (0 : Int) ≤ hV H0 285 18 ∧ hV H0 285 18 ≤ 8 := bTo e3 (f12.1.2.2 285 18 _ _ kW_285_18)
  have e48 : (0 : Int) ≤ hV H0 285 32 ∧ hV H0 285 32 ≤ 7 := bTo e4 (f12.1.2.2 285 32 _ _ kW_285_32)
  have e49 : (0 : Int) ≤ hV H0 285 33 ∧ hV H0 285 33 ≤ 62 := bTo e6 (f12.1.2.2 285 33 _ _ kW_285_33)
  have e50 : (0 : Int) ≤ hV H0 285 64 ∧ hV H0 285 64 ≤ 20 := bTo e8 (f12.1.2.2 285 64 _ _ kW_285_64)
  try simp only [PA, PW]
  try simp only [e14, e16, e18, e20, e22, e24, e26, e28, e29, e30, e31, e32, e33, e34, e35, e36, e38, e40, e42, e43]
  have y0 := g4.1
  have y1 := g4.2.1
  have y2 := g4.2.2.1
  have y3 := g4.2.2.2.1
  have y4 := g4.2.2.2.2.1
  have y5 := g4.2.2.2.2.2.1
  have y6 := g4.2.2.2.2.2.2.1
  have y7 := g4.2.2.2.2.2.2.2.1
  have y8 := g4.2.2.2.2.2.2.2.2.1
  have y9 := g4.2.2.2.2.2.2.2.2.2.1
  have y10 := g4.2.2.2.2.2.2.2.2.2.2.1
  have y11 := g4.2.2.2.2.2.2.2.2.2.2.2.1
  have y12 := g4.2.2.2.2.2.2.2.2.2.2.2.2.1
  have y13 := g4.2.2.2.2.2.2.2.2.2.2.2.2.2.1
  have y14 := g4.2.2.2.2.2.2.2.2.2.2.2.2.2.2.1
  have y15 := g4.2.2.2.2.2.2.2.2.2.2.2.2.2.2.2.1
  have y16 := g4.2.2.2.2.2.2.2.2.2.2.2.2.2.2.2.2.1
  have y17 := g4.2.2.2.2.2.2.2.2.2.2.2.2.2.2.2.2.2.1
  have y18 := g4.2.2.2.2.2.2.2.2.2.2.2.2.2.2.2.2.2.2
  have p0 := g3.1
  have p1 := g3.2.1
  have p2 := g3.2.2.1
  have p3 := g3.2.2.2.1
  have p4 := g3.2.2.2.2.1
  have p5 := g3.2.2.2.2.2.1
  have p6 := g3.2.2.2.2.2.2
  try simp only [PA] at y0
  try simp only [PW] at y1
  try simp only [PA] at p0
  try simp only [PW] at p5
  try simp only [e3, e8, e9, e10, e11, e12] at y0
  try simp only [e4, e6, e9] at y1
  try simp only [e4, e9] at y9
  try simp only [e6] at y10
  try simp only [e6] at y11
  try simp only [e4, e9] at y18
  clear g3
  clear g4
  have wb0 := (y2 (hV H0 285 32).toNat).1
  have wp0 := (y2 (hV H0 285 33).toNat).2
  try simp only [e3, e4, e6, e8, e9, e10, e11, e12] at wb0
  try simp only [e3, e4, e6, e8, e9, e10, e11, e12] at wp0
  clear f17 f21 e3 e4 e6 e8 e9 e10 e11 e12 e14 e16 e18 e20 e22 e24 e26 e28 e29 e30 e31 e33 e34 e35 e36 e38 e40 e42 e43
  clear f12
  subst e1
  rw [f14] at f18
  first
  | (have ix0 : n12 = n0 + -1 := Eq.trans f23 (w32_iv (Iad (Iat f1 f0) (IC (-1))) (by decide)); subst ix0; clear f23)
  | (have ix0 : n12 = n0 + -1 := Eq.trans f23 (w32_id (by omega) (by omega)); subst ix0; clear f23)
  | (unfold w32 at f23; have ix0 : n12 = n0 + -1 := (by omega); subst ix0)
  | skip
  try unfold w32 at f18
  try unfold w32 at f19
  try unfold w32 at f23

  refine ⟨⟨?_, ?_, ?_, ?_, ?_, ?_, ?_, ?_, ?_, ?_, ?_, ?_, ?_, ?_, ?_, ?_, ?_, ?_, ?_⟩, fun q hq => ?_⟩
  · refine PA_cw ?_ (by omega)
    exact y0
  · intro z1 z2
    refine PW_cw ?_ (by omega) (by omega) (by omega) (by omega)
    exact y1 (by omega) (by omega)
  · exact y2
  · (try clear y0 y1 y2 p0 p5 p6)
    first | exact True.intro | omega
  · (try clear y0 y1 y2 p0 p5 p6)
    first | exact True.intro | omega
  · (try clear y0 y1 y2 p0 p5 p6)
    first | exact True.intro | omega
  · (try clear y0 y1 y2 p0 p5 p6)
    first | exact True.intro | omega
  · (try clear y0 y1 y2 p0 p5 p6)
    first | exact True.intro | omega
  · (try clear y0 y1 y2 p0 p5 p6)
    first | exact True.intro | omega
  · (try clear y0 y1 y2 p0 p5 p6)
    first | exact True.intro | omega
  · (try clear y0 y1 y2 p0 p5 p6)
    first | exact True.intro | omega
  · (try clear y0 y1 y2 p0 p5 p6)
    first | exact True.intro | omega
  · (try clear y0 y1 y2 p0 p5 p6)
    first | exact True.intro | omega
  · (try clear y0 y1 y2 p0 p5 p6)
    first | exact True.intro | omega
  · (try clear y0 y1 y2 p0 p5 p6)
    first | exact True.intro | omega
  · (try clear y0 y1 y2 p0 p5 p6)
    first | exact True.intro | omega
  · (try clear y0 y1 y2 p0 p5 p6)
    first | exact True.intro | omega
  · (try clear y0 y1 y2 p0 p5 p6)
    first | (simp only [uF_at]; omega) | omega
  · (try clear y0 y1 y2 p0 p5 p6)
    first | (simp only [uF_at]; omega) | omega
  · (try clear y0 y1 y2 p0 p5 p6)
    have g6 := Option.some.inj hq
    subst g6
    omega
def g_227_471_14 : vG := ([(10, [17, 6], [], -1), (80, [16, 3, 6], [2, 1], 0), (20, [16, 1], [1], 26), (0, [16], [], 300), (1, [11, 10, 6], [], 0), (3, [10, 8, 9], [], 0), (20, [9, 1], [1], 32), (90, [9], [], 0), (91, [9], [], 7), (0, [8], [], 6), (33, [6], [], 0), (5000, [0, 1, 2, 3, 4, 5, 6], [0, 1], 471), (0, [0], [], 285), (0, [1], [], 285), (90, [2], [], 0), (91, [2], [], 5), (90, [3], [], 0), (91, [3], [], 1007), (90, [4], [], 1), (91, [4], [], 1), (90, [5], [], 0), (91, [5], [], 500), (90, [6], [], -1), (91, [6], [], 5)], (4000, [1, 2, 3, 4, 5, 17], [2], 471))
theorem c_227_471_14 {q0 : Nat} : vOkm T0 (eP e_227 L_227 A_227 mu_227 (some q0)) 1 g_227_471_14 := vOk_inI fun ρ η f0 f1 f2 f3 f4 f5 f6 f7 f8 f9 f10 f11 f12 f13 f14 f15 f16 f17 f18 f19 f20 f21 f22 f23 => q_227_57 (q0 := q0) (n0 := ρ 6) (n1 := ρ 5) (n2 := ρ 4) (n3 := ρ 3) (n4 := ρ 2) (n5 := ρ 1) (n6 := ρ 0) (n7 := ρ 8) (n8 := ρ 9) (n9 := ρ 10) (n10 := ρ 11) (n11 := ρ 16) (n12 := ρ 17) (H0 := η 0) (H1 := η 1) (H2 := η 2) f23 f22 f21 f20 f19 f18 f17 f16 f15 f14 f13 f12 f11 f10 f9 f8 f7 f6 f5 f4 f3 f2 f1 f0
def p_227_471 : List vG := [g_227_471_0,
  g_227_471_1,
  g_227_471_2,
  g_227_471_3,
  g_227_471_4,
  g_227_471_5,
  g_227_471_6,
  g_227_471_7,
  g_227_471_8,
  g_227_471_9,
  g_227_471_10,
  g_227_471_11,
  g_227_471_12,
  g_227_471_13,
  g_227_471_14]
theorem r_227_471 : vCovO false (eRc e_227 L_227 cs_227 2000 (471, [(0, (3, 12, 285, 0)), (1, (0, 0, 5, 0)), (2, (0, 0, 1007, 0)), (3, (0, 1, 1, 0)), (4, (0, 0, 500, 0)), (5, (0, -1, 5, 0))])) p_227_471 = true := by decide +kernel
set_option maxHeartbeats 20000000 in
theorem q_227_58 {q0 : Nat} {n0 n1 n2 n3 n4 n5 n6 n7 n8 n9 n10 n11 : Int} {H0 H1 H2 : gH} (f0 : n0 ≤ 1000) (f1 : 0 ≤ n0) (f2 : n1 ≤ 1007) (f3 : 0 ≤ n1) (f4 : n2 ≤ 2147483647) (f5 : (-2147483648) ≤ n2) (f6 : n3 = 285) (f7 : n4 = 285) (f8 : (hLe T0 H0 H1 ∧ hFr s_227.2.2.2.2 H0 H1 ∧ hWt T0 H1) ∧ (Ab_227_567 n4 n3 n2 n1 n0 H0 H1 ∧ preb_227 n4 H0) ∧ some q0 = some (mub_227_567 n4 n3 n2 n1 n0 H0 H1)) (f9 : n5 = 4) (f10 : (hLe T0 H1 H2 ∧ hFr s_220.2.2.2.2 H1 H2 ∧ ((0 : Int) = 0 → H2.length = H1.length) ∧ hWt T0 H2) ∧ postb_220 n3 n5 H1 H2) (f11 : n6 ≤ 2) (f12 : 0 ≤ n6) (f13 : n6 = hV H2 (n3).toNat 13) (f14 : n6 ≤ 0) (f15 : n7 = 296) (f16 : n7 = hV H2 (n3).toNat 22) (f17 : n8 ≤ 62) (f18 : 0 ≤ n8) (f19 : n8 = hV H2 (n3).toNat 33) (f20 : n9 ≤ 16) (f21 : 0 ≤ n9) (f22 : n9 = hV H2 (n7).toNat (n8).toNat) (f23 : n10 = 1) (f24 : n11 = w32 (n9 + n10)) : 0 ≤ n11 := by
  have g4 := f8.2.1.1
  unfold Ab_227_567 at g4
  have g3 := f8.2.1.2
  unfold preb_227 at g3
  unfold postb_220 at f10
  have e0 : n6 = hV H2 285 13 := (by rw [f6] at f13; exact f13 : n6 = hV H2 285 13)
  have e3 : n8 = hV H0 285 33 := (by rw [f6] at f19; exact f19 : n8 = hV H2 285 33).trans (((f10.1.2.1.1 285 33 kF_220_285_33)).trans (f8.1.2.1.1 285 33 kF_227_285_33))
  have e5 : n9 = hV H1 296 (n8).toNat := (by rw [f15] at f22; exact f22 : n9 = hV H2 296 (n8).toNat).trans ((congrFun (fRow f10.1.2.1 296 kR_220_296) _))
  have e7 : hV H1 285 18 = hV H0 285 18 := (f8.1.2.1.1 285 18 kF_227_285_18)
  have e9 : hV H1 285 32 = hV H0 285 32 := (f8.1.2.1.1 285 32 kF_227_285_32)
  have e10 : hV H1 285 33 = hV H0 285 33 := (f8.1.2.1.1 285 33 kF_227_285_33)
  have e11 : hV H1 294 = hV H0 294 := fRow f8.1.2.1 294 kR_227_294
  have e15 : (0 : Int) ≤ hV H1 285 11 ∧ hV H1 285 11 ≤ 500 := f8.1.2.2 285 11 _ _ kW_285_11
  have e16 : (0 : Int) ≤ hV H1 285 13 ∧ hV H1 285 13 ≤ 2 := f8.1.2.2 285 13 _ _ kW_285_13
  have e17 : (0 : Int) ≤ hV H1 285 15 ∧ hV H1 285 15 ≤ 6 := f8.1.2.2 285 15 _ _ kW_285_15
  have e18 : (0 : Int) ≤ hV H0 285 18 ∧ hV H0 285 18 ≤ 8 := bTo e7 (f8.1.2.2 285 18 _ _ kW_285_18)
  have e19 : (0 : Int) ≤ hV H0 285 32 ∧ hV H0 285 32 ≤ 7 := bTo e9 (f8.1.2.2 285 32 _ _ kW_285_32)
  have e20 : (0 : Int) ≤ hV H0 285 33 ∧ hV H0 285 33 ≤ 62 := bTo e10 (f8.1.2.2 285 33 _ _ kW_285_33)
  have e21 : (0 : Int) ≤ hV H2 285 11 ∧ hV H2 285 11 ≤ 500 := f10.1.2.2.2 285 11 _ _ kW_285_11
  have e22 : (0 : Int) ≤ hV H2 285 13 ∧ hV H2 285 13 ≤ 2 := f10.1.2.2.2 285 13 _ _ kW_285_13
  have y0 := g4.1
  have y1 := g4.2.1
  have y2 := g4.2.2.1
  have y3 := g4.2.2.2.1
  have y4 := g4.2.2.2.2.1
  have y5 := g4.2.2.2.2.2.1
  have y6 := g4.2.2.2.2.2.2.1
  have y7 := g4.2.2.2.2.2.2.2.1
  have y8 := g4.2.2.2.2.2.2.2.2.1
  have y9 := g4.2.2.2.2.2.2.2.2.2.1
  have y10 := g4.2.2.2.2.2.2.2.2.2.2
  have p0 := g3.1
  have p1 := g3.2.1
  have p2 := g3.2.2.1
  have p3 := g3.2.2.2.1
  have p4 := g3.2.2.2.2.1
  have p5 := g3.2.2.2.2.2.1
  have p6 := g3.2.2.2.2.2.2
  have r0_0 := f10.2.1
  have r0_1 := f10.2.2.1
  have r0_2 := f10.2.2.2.1
  have r0_3 := f10.2.2.2.2.1
  try simp only [e9, e11] at y3
  try simp only [e10] at y9
  try simp only [e10] at y10
  clear g3
  clear g4
  have wb0 := (y2 (hV H0 285 32).toNat).1
  have wp0 := (y2 (hV H0 285 33).toNat).2
  try simp only [e7, e9, e10, e11] at wb0
  try simp only [e7, e9, e10, e11] at wp0
  clear f13 f16 f19 f22 e7 e9 e10 e11
  clear f8 f10
  subst e0
  subst e3
  subst e5
  first
  | (have ix0 : n11 = hV H1 296 (hV H0 285 33).toNat + 1 := Eq.trans f24 (w32_iv (Iad (Iat f21 f20) (IC 1)) (by decide)); subst ix0; clear f24)
  | (have ix0 : n11 = hV H1 296 (hV H0 285 33).toNat + 1 := Eq.trans f24 (w32_id (by omega) (by omega)); subst ix0; clear f24)
  | (unfold w32 at f24; have ix0 : n11 = hV H1 296 (hV H0 285 33).toNat + 1 := (by omega); subst ix0)
  | skip
  try unfold w32 at f24

  (try clear y0 y1 y2 y3 p0 p5 p6)
  omega
def g_227_567_0 : vG := ([(1, [11, 9, 10], [], 0), (0, [10], [], 1), (22, [9, 7, 8], [2], 0), (90, [9], [], 0), (91, [9], [], 16), (20, [8, 1], [2], 33), (90, [8], [], 0), (91, [8], [], 62), (20, [7, 1], [2], 22), (0, [7], [], 296), (35, [6], [], 0), (20, [6, 1], [2], 13), (90, [6], [], 0), (91, [6], [], 2), (1220, [1, 5], [1, 2], 0), (0, [5], [], 4), (5000, [0, 1, 2, 3, 4], [0, 1], 567), (0, [0], [], 285), (0, [1], [], 285), (90, [2], [], -2147483648), (91, [2], [], 2147483647), (90, [3], [], 0), (91, [3], [], 1007), (90, [4], [], 0), (91, [4], [], 1000)], (90, [11], [], 0))
theorem c_227_567_0 {q0 : Nat} : vOkm T0 (eP e_227 L_227 A_227 mu_227 (some q0)) 1 g_227_567_0 := vOk_inI fun ρ η f0 f1 f2 f3 f4 f5 f6 f7 f8 f9 f10 f11 f12 f13 f14 f15 f16 f17 f18 f19 f20 f21 f22 f23 f24 => q_227_58 (q0 := q0) (n0 := ρ 4) (n1 := ρ 3) (n2 := ρ 2) (n3 := ρ 1) (n4 := ρ 0) (n5 := ρ 5) (n6 := ρ 6) (n7 := ρ 7) (n8 := ρ 8) (n9 := ρ 9) (n10 := ρ 10) (n11 := ρ 11) (H0 := η 0) (H1 := η 1) (H2 := η 2) f24 f23 f22 f21 f20 f19 f18 f17 f16 f15 f14 f13 f12 f11 f10 f9 f8 f7 f6 f5 f4 f3 f2 f1 f0
set_option maxHeartbeats 20000000 in
theorem q_227_59 {q0 : Nat} {n0 n1 n2 n3 n4 n5 n6 n7 n8 n9 n10 n11 : Int} {H0 H1 H2 : gH} (f0 : n0 ≤ 1000) (f1 : 0 ≤ n0) (f2 : n1 ≤ 1007) (f3 : 0 ≤ n1) (f4 : n2 ≤ 2147483647) (f5 : (-2147483648) ≤ n2) (f6 : n3 = 285) (f7 : n4 = 285) (f8 : (hLe T0 H0 H1 ∧ hFr s_227.2.2.2.2 H0 H1 ∧ hWt T0 H1) ∧ (Ab_227_567 n4 n3 n2 n1 n0 H0 H1 ∧ preb_227 n4 H0) ∧ some q0 = some (mub_227_567 n4 n3 n2 n1 n0 H0 H1)) (f9 : n5 = 4) (f10 : (hLe T0 H1 H2 ∧ hFr s_220.2.2.2.2 H1 H2 ∧ ((0 : Int) = 0 → H2.length = H1.length) ∧ hWt T0 H2) ∧ postb_220 n3 n5 H1 H2) (f11 : n6 ≤ 2) (f12 : 0 ≤ n6) (f13 : n6 = hV H2 (n3).toNat 13) (f14 : n6 ≤ 0) (f15 : n7 = 296) (f16 : n7 = hV H2 (n3).toNat 22) (f17 : n8 ≤ 62) (f18 : 0 ≤ n8) (f19 : n8 = hV H2 (n3).toNat 33) (f20 : n9 ≤ 16) (f21 : 0 ≤ n9) (f22 : n9 = hV H2 (n7).toNat (n8).toNat) (f23 : n10 = 1) (f24 : n11 = w32 (n9 + n10)) : n11 ≤ 16 := by
  have g4 := f8.2.1.1
  unfold Ab_227_567 at g4
  have g3 := f8.2.1.2
  unfold preb_227 at g3
  unfold postb_220 at f10
  have e0 : n6 = hV H2 285 13 := (by rw [f6] at f13; exact f13 : n6 = hV H2 285 13)
  have e3 : n8 = hV H0 285 33 := (by rw [f6] at f19; exact f19 : n8 = hV H2 285 33).trans (((f10.1.2.1.1 285 33 kF_220_285_33)).trans (f8.1.2.1.1 285 33 kF_227_285_33))
  have e5 : n9 = hV H1 296 (n8).toNat := (by rw [f15] at f22; exact f22 : n9 = hV H2 296 (n8).toNat).trans ((congrFun (fRow f10.1.2.1 296 kR_220_296) _))
  have e7 : hV H1 285 18 = hV H0 285 18 := (f8.1.2.1.1 285 18 kF_227_285_18)
  have e9 : hV H1 285 32 = hV H0 285 32 := (f8.1.2.1.1 285 32 kF_227_285_32)
  have e10 : hV H1 285 33 = hV H0 285 33 := (f8.1.2.1.1 285 33 kF_227_285_33)
  have e11 : hV H1 294 = hV H0 294 := fRow f8.1.2.1 294 kR_227_294
  have e15 : (0 : Int) ≤ hV H1 285 11 ∧ hV H1 285 11 ≤ 500 := f8.1.2.2 285 11 _ _ kW_285_11
  have e16 : (0 : Int) ≤ hV H1 285 13 ∧ hV H1 285 13 ≤ 2 := f8.1.2.2 285 13 _ _ kW_285_13
  have e17 : (0 : Int) ≤ hV H1 285 15 ∧ hV H1 285 15 ≤ 6 := f8.1.2.2 285 15 _ _ kW_285_15
  have e18 : (0 : Int) ≤ hV H0 285 18 ∧ hV H0 285 18 ≤ 8 := bTo e7 (f8.1.2.2 285 18 _ _ kW_285_18)
  have e19 : (0 : Int) ≤ hV H0 285 32 ∧ hV H0 285 32 ≤ 7 := bTo e9 (f8.1.2.2 285 32 _ _ kW_285_32)
  have e20 : (0 : Int) ≤ hV H0 285 33 ∧ hV H0 285 33 ≤ 62 := bTo e10 (f8.1.2.2 285 33 _ _ kW_285_33)
  have e21 : (0 : Int) ≤ hV H2 285 11 ∧ hV H2 285 11 ≤ 500 := f10.1.2.2.2 285 11 _ _ kW_285_11
  have e22 : (0 : Int) ≤ hV H2 285 13 ∧ hV H2 285 13 ≤ 2 := f10.1.2.2.2 285 13 _ _ kW_285_13
  have y0 := g4.1
  have y1 := g4.2.1
  have y2 := g4.2.2.1
  have y3 := g4.2.2.2.1
  have y4 := g4.2.2.2.2.1
  have y5 := g4.2.2.2.2.2.1
  have y6 := g4.2.2.2.2.2.2.1
  have y7 := g4.2.2.2.2.2.2.2.1
  have y8 := g4.2.2.2.2.2.2.2.2.1
  have y9 := g4.2.2.2.2.2.2.2.2.2.1
  have y10 := g4.2.2.2.2.2.2.2.2.2.2
  have p0 := g3.1
  have p1 := g3.2.1
  have p2 := g3.2.2.1
  have p3 := g3.2.2.2.1
  have p4 := g3.2.2.2.2.1
  have p5 := g3.2.2.2.2.2.1
  have p6 := g3.2.2.2.2.2.2
  have r0_0 := f10.2.1
  have r0_1 := f10.2.2.1
  have r0_2 := f10.2.2.2.1
  have r0_3 := f10.2.2.2.2.1
  try simp only [e9, e11] at y3
  try simp only [e10] at y9
  try simp only [e10] at y10
  clear g3
  clear g4
  have wb0 := (y2 (hV H0 285 32).toNat).1
  have wp0 := (y2 (hV H0 285 33).toNat).2
  try simp only [e7, e9, e10, e11] at wb0
  try simp only [e7, e9, e10, e11] at wp0
  clear f13 f16 f19 f22 e7 e9 e10 e11
  clear f8 f10
  subst e0
  subst e3
  subst e5
  first
  | (have ix0 : n11 = hV H1 296 (hV H0 285 33).toNat + 1 := Eq.trans f24 (w32_iv (Iad (Iat f21 f20) (IC 1)) (by decide)); subst ix0; clear f24)
  | (have ix0 : n11 = hV H1 296 (hV H0 285 33).toNat + 1 := Eq.trans f24 (w32_id (by omega) (by omega)); subst ix0; clear f24)
  | (unfold w32 at f24; have ix0 : n11 = hV H1 296 (hV H0 285 33).toNat + 1 := (by omega); subst ix0)
  | skip
  try unfold w32 at f24

  (try clear y0 y1 y2 y3 p0 p5 p6)
  omega
def g_227_567_1 : vG := ([(1, [11, 9, 10], [], 0), (0, [10], [], 1), (22, [9, 7, 8], [2], 0), (90, [9], [], 0), (91, [9], [], 16), (20, [8, 1], [2], 33), (90, [8], [], 0), (91, [8], [], 62), (20, [7, 1], [2], 22), (0, [7], [], 296), (35, [6], [], 0), (20, [6, 1], [2], 13), (90, [6], [], 0), (91, [6], [], 2), (1220, [1, 5], [1, 2], 0), (0, [5], [], 4), (5000, [0, 1, 2, 3, 4], [0, 1], 567), (0, [0], [], 285), (0, [1], [], 285), (90, [2], [], -2147483648), (91, [2], [], 2147483647), (90, [3], [], 0), (91, [3], [], 1007), (90, [4], [], 0), (91, [4], [], 1000)], (91, [11], [], 16))
theorem c_227_567_1 {q0 : Nat} : vOkm T0 (eP e_227 L_227 A_227 mu_227 (some q0)) 1 g_227_567_1 := vOk_inI fun ρ η f0 f1 f2 f3 f4 f5 f6 f7 f8 f9 f10 f11 f12 f13 f14 f15 f16 f17 f18 f19 f20 f21 f22 f23 f24 => q_227_59 (q0 := q0) (n0 := ρ 4) (n1 := ρ 3) (n2 := ρ 2) (n3 := ρ 1) (n4 := ρ 0) (n5 := ρ 5) (n6 := ρ 6) (n7 := ρ 7) (n8 := ρ 8) (n9 := ρ 9) (n10 := ρ 10) (n11 := ρ 11) (H0 := η 0) (H1 := η 1) (H2 := η 2) f24 f23 f22 f21 f20 f19 f18 f17 f16 f15 f14 f13 f12 f11 f10 f9 f8 f7 f6 f5 f4 f3 f2 f1 f0
set_option maxHeartbeats 20000000 in
theorem q_227_60 {q0 : Nat} {n0 n1 n2 n3 n4 n5 n6 n7 n8 n9 n10 n11 n12 n13 n14 n15 : Int} {H0 H1 H2 H3 : gH} (f0 : n0 ≤ 1000) (f1 : 0 ≤ n0) (f2 : n1 ≤ 1007) (f3 : 0 ≤ n1) (f4 : n2 ≤ 2147483647) (f5 : (-2147483648) ≤ n2) (f6 : n3 = 285) (f7 : n4 = 285) (f8 : (hLe T0 H0 H1 ∧ hFr s_227.2.2.2.2 H0 H1 ∧ hWt T0 H1) ∧ (Ab_227_567 n4 n3 n2 n1 n0 H0 H1 ∧ preb_227 n4 H0) ∧ some q0 = some (mub_227_567 n4 n3 n2 n1 n0 H0 H1)) (f9 : n5 = 4) (f10 : (hLe T0 H1 H2 ∧ hFr s_220.2.2.2.2 H1 H2 ∧ ((0 : Int) = 0 → H2.length = H1.length) ∧ hWt T0 H2) ∧ postb_220 n3 n5 H1 H2) (f11 : n6 ≤ 2) (f12 : 0 ≤ n6) (f13 : n6 = hV H2 (n3).toNat 13) (f14 : n6 ≤ 0) (f15 : n7 = 296) (f16 : n7 = hV H2 (n3).toNat 22) (f17 : n8 ≤ 62) (f18 : 0 ≤ n8) (f19 : n8 = hV H2 (n3).toNat 33) (f20 : n9 ≤ 16) (f21 : 0 ≤ n9) (f22 : n9 = hV H2 (n7).toNat (n8).toNat) (f23 : n10 = 1) (f24 : n11 = w32 (n9 + n10)) (f25 : hUpd H3 H2 n7 n8 n11) (f26 : n12 = 297) (f27 : n12 = hV H3 (n3).toNat 23) (f28 : n13 ≤ 62) (f29 : 0 ≤ n13) (f30 : n13 = hV H3 (n3).toNat 33) (f31 : n14 ≤ 2000) (f32 : 0 ≤ n14) (f33 : n14 = hV H3 (n12).toNat (n13).toNat) (f34 : n15 = w32 (n14 + n0)) : 0 ≤ n15 := by
  have g4 := f8.2.1.1
  unfold Ab_227_567 at g4
  have g3 := f8.2.1.2
  unfold preb_227 at g3
  unfold postb_220 at f10
  have e0 : n6 = hV H2 285 13 := (by rw [f6] at f13; exact f13 : n6 = hV H2 285 13)
  have e3 : n8 = hV H0 285 33 := (by rw [f6] at f19; exact f19 : n8 = hV H2 285 33).trans (((f10.1.2.1.1 285 33 kF_220_285_33)).trans (f8.1.2.1.1 285 33 kF_227_285_33))
  have e5 : n9 = hV H1 296 (n8).toNat := (by rw [f15] at f22; exact f22 : n9 = hV H2 296 (n8).toNat).trans ((congrFun (fRow f10.1.2.1 296 kR_220_296) _))
  have e7 : n13 = hV H0 285 33 := (by rw [f6] at f30; exact f30 : n13 = hV H3 285 33).trans (((uPlace f25 285 33 (iS (show n7 = ((296 : Nat) : Int) from f15) rfl))).trans (((f10.1.2.1.1 285 33 kF_220_285_33)).trans (f8.1.2.1.1 285 33 kF_227_285_33)))
  have e10 : n14 = hV H1 297 (n13).toNat := (by rw [f26] at f33; exact f33 : n14 = hV H3 297 (n13).toNat).trans (((congrFun (uRowNe f25 297 (iS (show n7 = ((296 : Nat) : Int) from f15) rfl)) _)).trans ((congrFun (fRow f10.1.2.1 297 kR_220_297) _)))
  have e12 : hV H1 285 18 = hV H0 285 18 := (f8.1.2.1.1 285 18 kF_227_285_18)
  have e14 : hV H1 285 32 = hV H0 285 32 := (f8.1.2.1.1 285 32 kF_227_285_32)
  have e15 : hV H1 285 33 = hV H0 285 33 := (f8.1.2.1.1 285 33 kF_227_285_33)
  have e17 : hV H1 285 64 = hV H0 285 64 := (f8.1.2.1.1 285 64 kF_227_285_64)
  have e18 : hV H1 294 = hV H0 294 := fRow f8.1.2.1 294 kR_227_294
  have e19 : hV H1 328 = hV H0 328 := fRow f8.1.2.1 328 kR_227_328
  have e20 : hV H1 332 = hV H0 332 := fRow f8.1.2.1 332 kR_227_332
  have e21 : hV H1 335 = hV H0 335 := fRow f8.1.2.1 335 kR_227_335
  have e25 : (0 : Int) ≤ hV H1 285 11 ∧ hV H1 285 11 ≤ 500 := f8.1.2.2 285 11 _ _ kW_285_11
  have e26 : (0 : Int) ≤ hV H1 285 13 ∧ hV H1 285 13 ≤ 2 := f8.1.2.2 285 13 _ _ kW_285_13
  have e27 : (0 : Int) ≤ hV H1 285 15 ∧ hV H1 285 15 ≤ 6 := f8.1.2.2 285 15 _ _ kW_285_15
  have e28 : (0 : Int) ≤ hV H0 285 18 ∧ hV H0 285 18 ≤ 8 := bTo e12 (f8.1.2.2 285 18 _ _ kW_285_18)
  have e29 : (0 : Int) ≤ hV H0 285 32 ∧ hV H0 285 32 ≤ 7 := bTo e14 (f8.1.2.2 285 32 _ _ kW_285_32)
  have e30 : (0 : Int) ≤ hV H0 285 33 ∧ hV H0 285 33 ≤ 62 := bTo e15 (f8.1.2.2 285 33 _ _ kW_285_33)
  have e31 : (0 : Int) ≤ hV H0 285 64 ∧ hV H0 285 64 ≤ 20 := bTo e17 (f8.1.2.2 285 64 _ _ kW_285_64)
  have e32 : (0 : Int) ≤ hV H2 285 11 ∧ hV H2 285 11 ≤ 500 := f10.1.2.2.2 285 11 _ _ kW_285_11
  have e33 : (0 : Int) ≤ hV H2 285 13 ∧ hV H2 285 13 ≤ 2 := f10.1.2.2.2 285 13 _ _ kW_285_13
  try simp only [PA, PW, PQ]
  have y0 := g4.1
  have y1 := g4.2.1
  have y2 := g4.2.2.1
  have y3 := g4.2.2.2.1
  have y4 := g4.2.2.2.2.1
  have y5 := g4.2.2.2.2.2.1
  have y6 := g4.2.2.2.2.2.2.1
  have y7 := g4.2.2.2.2.2.2.2.1
  have y8 := g4.2.2.2.2.2.2.2.2.1
  have y9 := g4.2.2.2.2.2.2.2.2.2.1
  have y10 := g4.2.2.2.2.2.2.2.2.2.2
  have p0 := g3.1
  have p1 := g3.2.1
  have p2 := g3.2.2.1
  have p3 := g3.2.2.2.1
  have p4 := g3.2.2.2.2.1
  have p5 := g3.2.2.2.2.2.1
  have p6 := g3.2.2.2.2.2.2
  have r0_0 := f10.2.1
  have r0_1 := f10.2.2.1
  have r0_2 := f10.2.2.2.1
  have r0_3 := f10.2.2.2.2.1
  try simp only [PA] at y0
  try simp only [PW] at y1
  try simp only [PQ] at y2
  try simp only [PA] at p0
  try simp only [PW] at p5
  try simp only [PQ] at p6
  try simp only [e12, e17, e18, e19, e20, e21] at y0
  try simp only [e14, e15, e18] at y1
  try simp only [e18] at y2
  try simp only [e14, e18] at y3
  try simp only [e15] at y9
  try simp only [e15] at y10
  clear g3
  clear g4
  have wb0 := (y2 (hV H0 285 32).toNat).1
  have wp0 := (y2 (hV H0 285 33).toNat).2
  have wi33 := (y2 (n13).toNat).2.2
  try simp only [e12, e14, e15, e17, e18, e19, e20, e21] at wb0
  try simp only [e12, e14, e15, e17, e18, e19, e20, e21] at wp0
  try simp only [e12, e14, e15, e17, e18, e19, e20, e21] at wi33
  clear f13 f16 f19 f22 f27 f30 f33 e12 e14 e15 e17 e18 e19 e20 e21
  clear f8 f10
  subst e0
  subst e3
  subst e5
  subst e7
  subst e10
  first
  | (have ix0 : n11 = hV H1 296 (hV H0 285 33).toNat + 1 := Eq.trans f24 (w32_iv (Iad (Iat f21 f20) (IC 1)) (by decide)); subst ix0; clear f24)
  | (have ix0 : n11 = hV H1 296 (hV H0 285 33).toNat + 1 := Eq.trans f24 (w32_id (by omega) (by omega)); subst ix0; clear f24)
  | (unfold w32 at f24; have ix0 : n11 = hV H1 296 (hV H0 285 33).toNat + 1 := (by omega); subst ix0)
  | skip
  first
  | (have ix1 : n15 = hV H1 297 (hV H0 285 33).toNat + n0 := Eq.trans f34 (w32_iv (Iad (Iat f32 f31) (Iat f1 f0)) (by decide)); subst ix1; clear f34)
  | (have ix1 : n15 = hV H1 297 (hV H0 285 33).toNat + n0 := Eq.trans f34 (w32_id (by omega) (by omega)); subst ix1; clear f34)
  | (unfold w32 at f34; have ix1 : n15 = hV H1 297 (hV H0 285 33).toNat + n0 := (by omega); subst ix1)
  | skip
  try unfold w32 at f24
  try unfold w32 at f34

  (try clear y0 y1 y2 y3 p0 p5 p6)
  omega
def g_227_567_2 : vG := ([(1, [15, 14, 4], [], 0), (22, [14, 12, 13], [3], 0), (90, [14], [], 0), (91, [14], [], 2000), (20, [13, 1], [3], 33), (90, [13], [], 0), (91, [13], [], 62), (20, [12, 1], [3], 23), (0, [12], [], 297), (80, [7, 8, 11], [3, 2], 0), (1, [11, 9, 10], [], 0), (0, [10], [], 1), (22, [9, 7, 8], [2], 0), (90, [9], [], 0), (91, [9], [], 16), (20, [8, 1], [2], 33), (90, [8], [], 0), (91, [8], [], 62), (20, [7, 1], [2], 22), (0, [7], [], 296), (35, [6], [], 0), (20, [6, 1], [2], 13), (90, [6], [], 0), (91, [6], [], 2), (1220, [1, 5], [1, 2], 0), (0, [5], [], 4), (5000, [0, 1, 2, 3, 4], [0, 1], 567), (0, [0], [], 285), (0, [1], [], 285), (90, [2], [], -2147483648), (91, [2], [], 2147483647), (90, [3], [], 0), (91, [3], [], 1007), (90, [4], [], 0), (91, [4], [], 1000)], (90, [15], [], 0))
theorem c_227_567_2 {q0 : Nat} : vOkm T0 (eP e_227 L_227 A_227 mu_227 (some q0)) 1 g_227_567_2 := vOk_inI fun ρ η f0 f1 f2 f3 f4 f5 f6 f7 f8 f9 f10 f11 f12 f13 f14 f15 f16 f17 f18 f19 f20 f21 f22 f23 f24 f25 f26 f27 f28 f29 f30 f31 f32 f33 f34 => q_227_60 (q0 := q0) (n0 := ρ 4) (n1 := ρ 3) (n2 := ρ 2) (n3 := ρ 1) (n4 := ρ 0) (n5 := ρ 5) (n6 := ρ 6) (n7 := ρ 7) (n8 := ρ 8) (n9 := ρ 9) (n10 := ρ 10) (n11 := ρ 11) (n12 := ρ 12) (n13 := ρ 13) (n14 := ρ 14) (n15 := ρ 15) (H0 := η 0) (H1 := η 1) (H2 := η 2) (H3 := η 3) f34 f33 f32 f31 f30 f29 f28 f27 f26 f25 f24 f23 f22 f21 f20 f19 f18 f17 f16 f15 f14 f13 f12 f11 f10 f9 f8 f7 f6 f5 f4 f3 f2 f1 f0
set_option maxHeartbeats 20000000 in
theorem q_227_61 {q0 : Nat} {n0 n1 n2 n3 n4 n5 n6 n7 n8 n9 n10 n11 n12 n13 n14 n15 : Int} {H0 H1 H2 H3 : gH} (f0 : n0 ≤ 1000) (f1 : 0 ≤ n0) (f2 : n1 ≤ 1007) (f3 : 0 ≤ n1) (f4 : n2 ≤ 2147483647) (f5 : (-2147483648) ≤ n2) (f6 : n3 = 285) (f7 : n4 = 285) (f8 : (hLe T0 H0 H1 ∧ hFr s_227.2.2.2.2 H0 H1 ∧ hWt T0 H1) ∧ (Ab_227_567 n4 n3 n2 n1 n0 H0 H1 ∧ preb_227 n4 H0) ∧ some q0 = some (mub_227_567 n4 n3 n2 n1 n0 H0 H1)) (f9 : n5 = 4) (f10 : (hLe T0 H1 H2 ∧ hFr s_220.2.2.2.2 H1 H2 ∧ ((0 : Int) = 0 → H2.length = H1.length) ∧ hWt T0 H2) ∧ postb_220 n3 n5 H1 H2) (f11 : n6 ≤ 2) (f12 : 0 ≤ n6) (f13 : n6 = hV H2 (n3).toNat 13) (f14 : n6 ≤ 0) (f15 : n7 = 296) (f16 : n7 = hV H2 (n3).toNat 22) (f17 : n8 ≤ 62) (f18 : 0 ≤ n8) (f19 : n8 = hV H2 (n3).toNat 33) (f20 : n9 ≤ 16) (f21 : 0 ≤ n9) (f22 : n9 = hV H2 (n7).toNat (n8).toNat) (f23 : n10 = 1) (f24 : n11 = w32 (n9 + n10)) (f25 : hUpd H3 H2 n7 n8 n11) (f26 : n12 = 297) (f27 : n12 = hV H3 (n3).toNat 23) (f28 : n13 ≤ 62) (f29 : 0 ≤ n13) (f30 : n13 = hV H3 (n3).toNat 33) (f31 : n14 ≤ 2000) (f32 : 0 ≤ n14) (f33 : n14 = hV H3 (n12).toNat (n13).toNat) (f34 : n15 = w32 (n14 + n0)) : n15 ≤ 2000 := by
  have g4 := f8.2.1.1
  unfold Ab_227_567 at g4
  have g3 := f8.2.1.2
  unfold preb_227 at g3
  unfold postb_220 at f10
  have e0 : n6 = hV H2 285 13 := (by rw [f6] at f13; exact f13 : n6 = hV H2 285 13)
  have e3 : n8 = hV H0 285 33 := (by rw [f6] at f19; exact f19 : n8 = hV H2 285 33).trans (((f10.1.2.1.1 285 33 kF_220_285_33)).trans (f8.1.2.1.1 285 33 kF_227_285_33))
  have e5 : n9 = hV H1 296 (n8).toNat := (by rw [f15] at f22; exact f22 : n9 = hV H2 296 (n8).toNat).trans ((congrFun (fRow f10.1.2.1 296 kR_220_296) _))
  have e7 : n13 = hV H0 285 33 := (by rw [f6] at f30; exact f30 : n13 = hV H3 285 33).trans (((uPlace f25 285 33 (iS (show n7 = ((296 : Nat) : Int) from f15) rfl))).trans (((f10.1.2.1.1 285 33 kF_220_285_33)).trans (f8.1.2.1.1 285 33 kF_227_285_33)))
  have e10 : n14 = hV H1 297 (n13).toNat := (by rw [f26] at f33; exact f33 : n14 = hV H3 297 (n13).toNat).trans (((congrFun (uRowNe f25 297 (iS (show n7 = ((296 : Nat) : Int) from f15) rfl)) _)).trans ((congrFun (fRow f10.1.2.1 297 kR_220_297) _)))
  have e12 : hV H1 285 18 = hV H0 285 18 := (f8.1.2.1.1 285 18 kF_227_285_18)
  have e14 : hV H1 285 32 = hV H0 285 32 := (f8.1.2.1.1 285 32 kF_227_285_32)
  have e15 : hV H1 285 33 = hV H0 285 33 := (f8.1.2.1.1 285 33 kF_227_285_33)
  have e17 : hV H1 285 64 = hV H0 285 64 := (f8.1.2.1.1 285 64 kF_227_285_64)
  have e18 : hV H1 294 = hV H0 294 := fRow f8.1.2.1 294 kR_227_294
  have e19 : hV H1 328 = hV H0 328 := fRow f8.1.2.1 328 kR_227_328
  have e20 : hV H1 332 = hV H0 332 := fRow f8.1.2.1 332 kR_227_332
  have e21 : hV H1 335 = hV H0 335 := fRow f8.1.2.1 335 kR_227_335
  have e25 : (0 : Int) ≤ hV H1 285 11 ∧ hV H1 285 11 ≤ 500 := f8.1.2.2 285 11 _ _ kW_285_11
  have e26 : (0 : Int) ≤ hV H1 285 13 ∧ hV H1 285 13 ≤ 2 := f8.1.2.2 285 13 _ _ kW_285_13
  have e27 : (0 : Int) ≤ hV H1 285 15 ∧ hV H1 285 15 ≤ 6 := f8.1.2.2 285 15 _ _ kW_285_15
  have e28 : (0 : Int) ≤ hV H0 285 18 ∧ hV H0 285 18 ≤ 8 := bTo e12 (f8.1.2.2 285 18 _ _ kW_285_18)
  have e29 : (0 : Int) ≤ hV H0 285 32 ∧ hV H0 285 32 ≤ 7 := bTo e14 (f8.1.2.2 285 32 _ _ kW_285_32)
  have e30 : (0 : Int) ≤ hV H0 285 33 ∧ hV H0 285 33 ≤ 62 := bTo e15 (f8.1.2.2 285 33 _ _ kW_285_33)
  have e31 : (0 : Int) ≤ hV H0 285 64 ∧ hV H0 285 64 ≤ 20 := bTo e17 (f8.1.2.2 285 64 _ _ kW_285_64)
  have e32 : (0 : Int) ≤ hV H2 285 11 ∧ hV H2 285 11 ≤ 500 := f10.1.2.2.2 285 11 _ _ kW_285_11
  have e33 : (0 : Int) ≤ hV H2 285 13 ∧ hV H2 285 13 ≤ 2 := f10.1.2.2.2 285 13 _ _ kW_285_13
  try simp only [PA, PW, PQ]
  have y0 := g4.1
  have y1 := g4.2.1
  have y2 := g4.2.2.1
  have y3 := g4.2.2.2.1
  have y4 := g4.2.2.2.2.1
  have y5 := g4.2.2.2.2.2.1
  have y6 := g4.2.2.2.2.2.2.1
  have y7 := g4.2.2.2.2.2.2.2.1
  have y8 := g4.2.2.2.2.2.2.2.2.1
  have y9 := g4.2.2.2.2.2.2.2.2.2.1
  have y10 := g4.2.2.2.2.2.2.2.2.2.2
  have p0 := g3.1
  have p1 := g3.2.1
  have p2 := g3.2.2.1
  have p3 := g3.2.2.2.1
  have p4 := g3.2.2.2.2.1
  have p5 := g3.2.2.2.2.2.1
  have p6 := g3.2.2.2.2.2.2
  have r0_0 := f10.2.1
  have r0_1 := f10.2.2.1
  have r0_2 := f10.2.2.2.1
  have r0_3 := f10.2.2.2.2.1
  try simp only [PA] at y0
  try simp only [PW] at y1
  try simp only [PQ] at y2
  try simp only [PA] at p0
  try simp only [PW] at p5
  try simp only [PQ] at p6
  try simp only [e12, e17, e18, e19, e20, e21] at y0
  try simp only [e14, e15, e18] at y1
  try simp only [e18] at y2
  try simp only [e14, e18] at y3
  try simp only [e15] at y9
  try simp only [e15] at y10
  clear g3
  clear g4
  have wb0 := (y2 (hV H0 285 32).toNat).1
  have wp0 := (y2 (hV H0 285 33).toNat).2
  have wi33 := (y2 (n13).toNat).2.2
  try simp only [e12, e14, e15, e17, e18, e19, e20, e21] at wb0
  try simp only [e12, e14, e15, e17, e18, e19, e20, e21] at wp0
  try simp only [e12, e14, e15, e17, e18, e19, e20, e21] at wi33
  clear f13 f16 f19 f22 f27 f30 f33 e12 e14 e15 e17 e18 e19 e20 e21
  clear f8 f10
  subst e0
  subst e3
  subst e5
  subst e7
  subst e10
  first
  | (have ix0 : n11 = hV H1 296 (hV H0 285 33).toNat + 1 := Eq.trans f24 (w32_iv (Iad (Iat f21 f20) (IC 1)) (by decide)); subst ix0; clear f24)
  | (have ix0 : n11 = hV H1 296 (hV H0 285 33).toNat + 1 := Eq.trans f24 (w32_id (by omega) (by omega)); subst ix0; clear f24)
  | (unfold w32 at f24; have ix0 : n11 = hV H1 296 (hV H0 285 33).toNat + 1 := (by omega); subst ix0)
  | skip
  first
  | (have ix1 : n15 = hV H1 297 (hV H0 285 33).toNat + n0 := Eq.trans f34 (w32_iv (Iad (Iat f32 f31) (Iat f1 f0)) (by decide)); subst ix1; clear f34)
  | (have ix1 : n15 = hV H1 297 (hV H0 285 33).toNat + n0 := Eq.trans f34 (w32_id (by omega) (by omega)); subst ix1; clear f34)
  | (unfold w32 at f34; have ix1 : n15 = hV H1 297 (hV H0 285 33).toNat + n0 := (by omega); subst ix1)
  | skip
  try unfold w32 at f24
  try unfold w32 at f34

  (try clear y0 y1 y2 y3 p0 p5 p6)
  omega
def g_227_567_3 : vG := ([(1, [15, 14, 4], [], 0), (22, [14, 12, 13], [3], 0), (90, [14], [], 0), (91, [14], [], 2000), (20, [13, 1], [3], 33), (90, [13], [], 0), (91, [13], [], 62), (20, [12, 1], [3], 23), (0, [12], [], 297), (80, [7, 8, 11], [3, 2], 0), (1, [11, 9, 10], [], 0), (0, [10], [], 1), (22, [9, 7, 8], [2], 0), (90, [9], [], 0), (91, [9], [], 16), (20, [8, 1], [2], 33), (90, [8], [], 0), (91, [8], [], 62), (20, [7, 1], [2], 22), (0, [7], [], 296), (35, [6], [], 0), (20, [6, 1], [2], 13), (90, [6], [], 0), (91, [6], [], 2), (1220, [1, 5], [1, 2], 0), (0, [5], [], 4), (5000, [0, 1, 2, 3, 4], [0, 1], 567), (0, [0], [], 285), (0, [1], [], 285), (90, [2], [], -2147483648), (91, [2], [], 2147483647), (90, [3], [], 0), (91, [3], [], 1007), (90, [4], [], 0), (91, [4], [], 1000)], (91, [15], [], 2000))
theorem c_227_567_3 {q0 : Nat} : vOkm T0 (eP e_227 L_227 A_227 mu_227 (some q0)) 1 g_227_567_3 := vOk_inI fun ρ η f0 f1 f2 f3 f4 f5 f6 f7 f8 f9 f10 f11 f12 f13 f14 f15 f16 f17 f18 f19 f20 f21 f22 f23 f24 f25 f26 f27 f28 f29 f30 f31 f32 f33 f34 => q_227_61 (q0 := q0) (n0 := ρ 4) (n1 := ρ 3) (n2 := ρ 2) (n3 := ρ 1) (n4 := ρ 0) (n5 := ρ 5) (n6 := ρ 6) (n7 := ρ 7) (n8 := ρ 8) (n9 := ρ 9) (n10 := ρ 10) (n11 := ρ 11) (n12 := ρ 12) (n13 := ρ 13) (n14 := ρ 14) (n15 := ρ 15) (H0 := η 0) (H1 := η 1) (H2 := η 2) (H3 := η 3) f34 f33 f32 f31 f30 f29 f28 f27 f26 f25 f24 f23 f22 f21 f20 f19 f18 f17 f16 f15 f14 f13 f12 f11 f10 f9 f8 f7 f6 f5 f4 f3 f2 f1 f0
set_option maxHeartbeats 20000000 in
theorem q_227_62 {q0 : Nat} {n0 n1 n2 n3 n4 n5 n6 n7 n8 n9 n10 n11 n12 n13 n14 n15 n16 n17 n18 n19 : Int} {H0 H1 H2 H3 H4 : gH} (f0 : n0 ≤ 1000) (f1 : 0 ≤ n0) (f2 : n1 ≤ 1007) (f3 : 0 ≤ n1) (f4 : n2 ≤ 2147483647) (f5 : (-2147483648) ≤ n2) (f6 : n3 = 285) (f7 : n4 = 285) (f8 : (hLe T0 H0 H1 ∧ hFr s_227.2.2.2.2 H0 H1 ∧ hWt T0 H1) ∧ (Ab_227_567 n4 n3 n2 n1 n0 H0 H1 ∧ preb_227 n4 H0) ∧ some q0 = some (mub_227_567 n4 n3 n2 n1 n0 H0 H1)) (f9 : n5 = 4) (f10 : (hLe T0 H1 H2 ∧ hFr s_220.2.2.2.2 H1 H2 ∧ ((0 : Int) = 0 → H2.length = H1.length) ∧ hWt T0 H2) ∧ postb_220 n3 n5 H1 H2) (f11 : n6 ≤ 2) (f12 : 0 ≤ n6) (f13 : n6 = hV H2 (n3).toNat 13) (f14 : n6 ≤ 0) (f15 : n7 = 296) (f16 : n7 = hV H2 (n3).toNat 22) (f17 : n8 ≤ 62) (f18 : 0 ≤ n8) (f19 : n8 = hV H2 (n3).toNat 33) (f20 : n9 ≤ 16) (f21 : 0 ≤ n9) (f22 : n9 = hV H2 (n7).toNat (n8).toNat) (f23 : n10 = 1) (f24 : n11 = w32 (n9 + n10)) (f25 : hUpd H3 H2 n7 n8 n11) (f26 : n12 = 297) (f27 : n12 = hV H3 (n3).toNat 23) (f28 : n13 ≤ 62) (f29 : 0 ≤ n13) (f30 : n13 = hV H3 (n3).toNat 33) (f31 : n14 ≤ 2000) (f32 : 0 ≤ n14) (f33 : n14 = hV H3 (n12).toNat (n13).toNat) (f34 : n15 = w32 (n14 + n0)) (f35 : hUpd H4 H3 n12 n13 n15) (f36 : n16 = 297) (f37 : n16 = hV H4 (n3).toNat 23) (f38 : n17 ≤ 62) (f39 : 0 ≤ n17) (f40 : n17 = hV H4 (n3).toNat 33) (f41 : n18 ≤ 2000) (f42 : 0 ≤ n18) (f43 : n18 = hV H4 (n16).toNat (n17).toNat) (f44 : n19 = 1000) (f45 : n18 ≤ n19) : postb_227 n4 H0 H4 := by
  have g4 := f8.2.1.1
  unfold Ab_227_567 at g4
  have g3 := f8.2.1.2
  unfold preb_227 at g3
  unfold postb_220 at f10
  unfold postb_227
  have e0 : n6 = hV H2 285 13 := (by rw [f6] at f13; exact f13 : n6 = hV H2 285 13)
  have e3 : n8 = hV H0 285 33 := (by rw [f6] at f19; exact f19 : n8 = hV H2 285 33).trans (((f10.1.2.1.1 285 33 kF_220_285_33)).trans (f8.1.2.1.1 285 33 kF_227_285_33))
  have e5 : n9 = hV H1 296 (n8).toNat := (by rw [f15] at f22; exact f22 : n9 = hV H2 296 (n8).toNat).trans ((congrFun (fRow f10.1.2.1 296 kR_220_296) _))
  have e7 : n13 = hV H0 285 33 := (by rw [f6] at f30; exact f30 : n13 = hV H3 285 33).trans (((uPlace f25 285 33 (iS (show n7 = ((296 : Nat) : Int) from f15) rfl))).trans (((f10.1.2.1.1 285 33 kF_220_285_33)).trans (f8.1.2.1.1 285 33 kF_227_285_33)))
  have e10 : n14 = hV H1 297 (n13).toNat := (by rw [f26] at f33; exact f33 : n14 = hV H3 297 (n13).toNat).trans (((congrFun (uRowNe f25 297 (iS (show n7 = ((296 : Nat) : Int) from f15) rfl)) _)).trans ((congrFun (fRow f10.1.2.1 297 kR_220_297) _)))
  have e12 : n17 = hV H0 285 33 := (by rw [f6] at f40; exact f40 : n17 = hV H4 285 33).trans (((uPlace f35 285 33 (iS (show n12 = ((297 : Nat) : Int) from f26) rfl))).trans (((uPlace f25 285 33 (iS (show n7 = ((296 : Nat) : Int) from f15) rfl))).trans (((f10.1.2.1.1 285 33 kF_220_285_33)).trans (f8.1.2.1.1 285 33 kF_227_285_33))))
  have e14 : ((((n17).toNat : Nat) : Int) = n13 ∧ hV H4 297 (n17).toNat = n15) ∨ (¬ (((n17).toNat : Nat) : Int) = n13 ∧ hV H4 297 (n17).toNat = hV H3 297 (n17).toNat) := uOr f35 _ _ f26.symm
  have e15 : n18 = hV H4 297 (n17).toNat := (by rw [f36] at f43; exact f43 : n18 = hV H4 297 (n17).toNat)
  have e17 : hV H1 285 18 = hV H0 285 18 := (f8.1.2.1.1 285 18 kF_227_285_18)
  have e19 : hV H1 285 32 = hV H0 285 32 := (f8.1.2.1.1 285 32 kF_227_285_32)
  have e20 : hV H1 285 33 = hV H0 285 33 := (f8.1.2.1.1 285 33 kF_227_285_33)
  have e22 : hV H1 285 64 = hV H0 285 64 := (f8.1.2.1.1 285 64 kF_227_285_64)
  have e23 : hV H1 294 = hV H0 294 := fRow f8.1.2.1 294 kR_227_294
  have e24 : hV H1 328 = hV H0 328 := fRow f8.1.2.1 328 kR_227_328
  have e25 : hV H1 332 = hV H0 332 := fRow f8.1.2.1 332 kR_227_332
  have e26 : hV H1 335 = hV H0 335 := fRow f8.1.2.1 335 kR_227_335
  have e32 : hV H4 285 11 = hV H2 285 11 := ((uPlace f35 285 11 (iS (show n12 = ((297 : Nat) : Int) from f26) rfl))).trans (uPlace f25 285 11 (iS (show n7 = ((296 : Nat) : Int) from f15) rfl))
  have e35 : hV H4 285 13 = hV H2 285 13 := ((uPlace f35 285 13 (iS (show n12 = ((297 : Nat) : Int) from f26) rfl))).trans (uPlace f25 285 13 (iS (show n7 = ((296 : Nat) : Int) from f15) rfl))
  have e39 : hV H4 285 15 = hV H1 285 15 := ((uPlace f35 285 15 (iS (show n12 = ((297 : Nat) : Int) from f26) rfl))).trans (((uPlace f25 285 15 (iS (show n7 = ((296 : Nat) : Int) from f15) rfl))).trans (f10.1.2.1.1 285 15 kF_220_285_15))
  have e43 : hV H4 285 18 = hV H0 285 18 := ((uPlace f35 285 18 (iS (show n12 = ((297 : Nat) : Int) from f26) rfl))).trans (((uPlace f25 285 18 (iS (show n7 = ((296 : Nat) : Int) from f15) rfl))).trans (((f10.1.2.1.1 285 18 kF_220_285_18)).trans (f8.1.2.1.1 285 18 kF_227_285_18)))
  have e47 : hV H4 285 32 = hV H0 285 32 := ((uPlace f35 285 32 (iS (show n12 = ((297 : Nat) : Int) from f26) rfl))).trans (((uPlace f25 285 32 (iS (show n7 = ((296 : Nat) : Int) from f15) rfl))).trans (((f10.1.2.1.1 285 32 kF_220_285_32)).trans (f8.1.2.1.1 285 32 kF_227_285_32)))
  have e48 : hV H4 285 33 = hV H0 285 33 := ((uPlace f35 285 33 (iS (show n12 = ((297 : Nat) : Int) from f26) rfl))).trans (((uPlace f25 285 33 (iS (show n7 = ((296 : Nat) : Int) from f15) rfl))).trans (((f10.1.2.1.1 285 33 kF_220_285_33)).trans (f8.1.2.1.1 285 33 kF_227_285_33)))
  have e52 : hV H4 285 64 = hV H0 285 64 := ((uPlace f35 285 64 (iS (show n12 = ((297 : Nat) : Int) from f26) rfl))).trans (((uPlace f25 285 64 (iS (show n7 = ((296 : Nat) : Int) from f15) rfl))).trans (((f10.1.2.1.1 285 64 kF_220_285_64)).trans (f8.1.2.1.1 285 64 kF_227_285_64)))
  have e58 : hV H4 294 = hV H0 294 := (uRowNe f35 294 (iS (show n12 = ((297 : Nat) : Int) from f26) rfl)).trans ((uRowNe f25 294 (iS (show n7 = ((296 : Nat) : Int) from f15) rfl)).trans ((fRow f10.1.2.1 294 kR_220_294).trans e23))
  have e62 : hV H4 296 = (uF (hV H1 296) n8 n11) := (uRowNe f35 296 (iS (show n12 = ((297 : Nat) : Int) from f26) rfl)).trans ((uRow f25 296 f15.symm).trans (congrArg (fun z => uF z n8 n11) (fRow f10.1.2.1 296 kR_220_296)))
  have e64 : hV H4 297 = (uF (hV H1 297) n13 n15) := (uRow f35 297 f26.symm).trans (congrArg (fun z => uF z n13 n15) ((uRowNe f25 297 (iS (show n7 = ((296 : Nat) : Int) from f15) rfl)).trans (fRow f10.1.2.1 297 kR_220_297)))
  have e69 : hV H4 298 = hV H1 298 := (uRowNe f35 298 (iS (show n12 = ((297 : Nat) : Int) from f26) rfl)).trans ((uRowNe f25 298 (iS (show n7 = ((296 : Nat) : Int) from f15) rfl)).trans (fRow f10.1.2.1 298 kR_220_298))
  have e74 : hV H4 300 = hV H1 300 := (uRowNe f35 300 (iS (show n12 = ((297 : Nat) : Int) from f26) rfl)).trans ((uRowNe f25 300 (iS (show n7 = ((296 : Nat) : Int) from f15) rfl)).trans (fRow f10.1.2.1 300 kR_220_300))
  have e79 : hV H4 301 = hV H1 301 := (uRowNe f35 301 (iS (show n12 = ((297 : Nat) : Int) from f26) rfl)).trans ((uRowNe f25 301 (iS (show n7 = ((296 : Nat) : Int) from f15) rfl)).trans (fRow f10.1.2.1 301 kR_220_301))
  have e84 : hV H4 302 = hV H1 302 := (uRowNe f35 302 (iS (show n12 = ((297 : Nat) : Int) from f26) rfl)).trans ((uRowNe f25 302 (iS (show n7 = ((296 : Nat) : Int) from f15) rfl)).trans (fRow f10.1.2.1 302 kR_220_302))
  have e89 : hV H4 303 = hV H1 303 := (uRowNe f35 303 (iS (show n12 = ((297 : Nat) : Int) from f26) rfl)).trans ((uRowNe f25 303 (iS (show n7 = ((296 : Nat) : Int) from f15) rfl)).trans (fRow f10.1.2.1 303 kR_220_303))
  have e94 : hV H4 305 = hV H1 305 := (uRowNe f35 305 (iS (show n12 = ((297 : Nat) : Int) from f26) rfl)).trans ((uRowNe f25 305 (iS (show n7 = ((296 : Nat) : Int) from f15) rfl)).trans (fRow f10.1.2.1 305 kR_220_305))
  have e100 : hV H4 328 = hV H0 328 := (uRowNe f35 328 (iS (show n12 = ((297 : Nat) : Int) from f26) rfl)).trans ((uRowNe f25 328 (iS (show n7 = ((296 : Nat) : Int) from f15) rfl)).trans ((fRow f10.1.2.1 328 kR_220_328).trans e24))
  have e106 : hV H4 332 = hV H0 332 := (uRowNe f35 332 (iS (show n12 = ((297 : Nat) : Int) from f26) rfl)).trans ((uRowNe f25 332 (iS (show n7 = ((296 : Nat) : Int) from f15) rfl)).trans ((fRow f10.1.2.1 332 kR_220_332).trans e25))
  have e112 : hV H4 335 = hV H0 335 := (uRowNe f35 335 (iS (show n12 = ((297 : Nat) : Int) from f26) rfl)).trans ((uRowNe f25 335 (iS (show n7 = ((296 : Nat) : Int) from f15) rfl)).trans ((fRow f10.1.2.1 335 kR_220_335).trans e26))
  have e113 : (0 : Int) ≤ hV H1 285 11 ∧ hV H1 285 11 ≤ 500 := f8.1.2.2 285 11 _ _ kW_285_11
  have e114 : (0 : Int) ≤ hV H1 285 13 ∧ hV H1 285 13 ≤ 2 := f8.1.2.2 285 13 _ _ kW_285_13
  have e115 : (0 : Int) ≤ hV H1 285 15 ∧ hV H1 285 15 ≤ 6 := f8.1.2.2 285 15 _ _ kW_285_15
  have e116 : (0 : Int) ≤ hV H0 285 18 ∧ hV H0 285 18 ≤ 8 := bTo e17 (f8.1.2.2 285 18 _ _ kW_285_18)
  have e117 : (0 : Int) ≤ hV H0 285 32 ∧ hV H0 285 32 ≤ 7 := bTo e19 (f8.1.2.2 285 32 _ _ kW_285_32)
  have e118 : (0 : Int) ≤ hV H0 285 33 ∧ hV H0 285 33 ≤ 62 := bTo e20 (f8.1.2.2 285 33 _ _ kW_285_33)
  have e119 : (0 : Int) ≤ hV H0 285 64 ∧ hV H0 285 64 ≤ 20 := bTo e22 (f8.1.2.2 285 64 _ _ kW_285_64)
  have e120 : (0 : Int) ≤ hV H2 285 11 ∧ hV H2 285 11 ≤ 500 := f10.1.2.2.2 285 11 _ _ kW_285_11
  have e121 : (0 : Int) ≤ hV H2 285 13 ∧ hV H2 285 13 ≤ 2 := f10.1.2.2.2 285 13 _ _ kW_285_13
  try simp only [PA, PW, PQ]
  try simp only [e32, e35, e39, e43, e47, e48, e52, e58, e62, e64, e69, e74, e79, e84, e89, e94, e100, e106, e112]
  have y0 := g4.1
  have y1 := g4.2.1
  have y2 := g4.2.2.1
  have y3 := g4.2.2.2.1
  have y4 := g4.2.2.2.2.1
  have y5 := g4.2.2.2.2.2.1
  have y6 := g4.2.2.2.2.2.2.1
  have y7 := g4.2.2.2.2.2.2.2.1
  have y8 := g4.2.2.2.2.2.2.2.2.1
  have y9 := g4.2.2.2.2.2.2.2.2.2.1
  have y10 := g4.2.2.2.2.2.2.2.2.2.2
  have p0 := g3.1
  have p1 := g3.2.1
  have p2 := g3.2.2.1
  have p3 := g3.2.2.2.1
  have p4 := g3.2.2.2.2.1
  have p5 := g3.2.2.2.2.2.1
  have p6 := g3.2.2.2.2.2.2
  have r0_0 := f10.2.1
  have r0_1 := f10.2.2.1
  have r0_2 := f10.2.2.2.1
  have r0_3 := f10.2.2.2.2.1
  try simp only [PA] at y0
  try simp only [PW] at y1
  try simp only [PQ] at y2
  try simp only [PA] at p0
  try simp only [PW] at p5
  try simp only [PQ] at p6
  try simp only [e17, e22, e23, e24, e25, e26] at y0
  try simp only [e19, e20, e23] at y1
  try simp only [e23] at y2
  try simp only [e19, e23] at y3
  try simp only [e20] at y9
  try simp only [e20] at y10
  clear g3
  clear g4
  have wb0 := (y2 (hV H0 285 32).toNat).1
  have wp0 := (y2 (hV H0 285 33).toNat).2
  have wi33 := (y2 (n13).toNat).2.2
  have wi43 := (y2 (n17).toNat).2.2
  try simp only [e17, e19, e20, e22, e23, e24, e25, e26] at wb0
  try simp only [e17, e19, e20, e22, e23, e24, e25, e26] at wp0
  try simp only [e17, e19, e20, e22, e23, e24, e25, e26] at wi33
  try simp only [e17, e19, e20, e22, e23, e24, e25, e26] at wi43
  clear f13 f16 f19 f22 f27 f30 f33 f37 f40 f43 e17 e19 e20 e22 e23 e24 e25 e26 e32 e35 e39 e43 e47 e48 e52 e58 e62 e64 e69 e74 e79 e84 e89 e94 e100 e106 e112
  clear f8 f10
  subst e0
  subst e3
  subst e5
  subst e7
  subst e10
  subst e12
  subst e15
  first
  | (have ix0 : n11 = hV H1 296 (hV H0 285 33).toNat + 1 := Eq.trans f24 (w32_iv (Iad (Iat f21 f20) (IC 1)) (by decide)); subst ix0; clear f24)
  | (have ix0 : n11 = hV H1 296 (hV H0 285 33).toNat + 1 := Eq.trans f24 (w32_id (by omega) (by omega)); subst ix0; clear f24)
  | (unfold w32 at f24; have ix0 : n11 = hV H1 296 (hV H0 285 33).toNat + 1 := (by omega); subst ix0)
  | skip
  first
  | (have ix1 : n15 = hV H1 297 (hV H0 285 33).toNat + n0 := Eq.trans f34 (w32_iv (Iad (Iat f32 f31) (Iat f1 f0)) (by decide)); subst ix1; clear f34)
  | (have ix1 : n15 = hV H1 297 (hV H0 285 33).toNat + n0 := Eq.trans f34 (w32_id (by omega) (by omega)); subst ix1; clear f34)
  | (unfold w32 at f34; have ix1 : n15 = hV H1 297 (hV H0 285 33).toNat + n0 := (by omega); subst ix1)
  | skip
  try unfold w32 at f24
  try unfold w32 at f34

  refine ⟨?_, ?_, ?_, ?_⟩
  · refine PA_pm ?_ (by omega)
    exact y0
  · intro z1 z2
    exact PWp_add (y1 (by omega) (by omega)) (y3 (by omega) (by omega)) (by omega) (by omega) (by omega) (by omega) (by omega) (by omega) (by omega) (by omega) (by omega) (by omega) (fun x => (y2 x).2.2.1)
  · refine PQ_up ?_ (by omega) (by omega)
    refine PQ_pm ?_ (by omega)
    exact y2
  · (try clear y0 y1 y2 y3 p0 p5 p6)
    first
    | omega
    | (refine ⟨?_, ?_, ?_, ?_, ?_⟩ <;> first | exact True.intro | omega)
def g_227_567_4 : vG := ([(45, [18, 19], [], 0), (0, [19], [], 1000), (22, [18, 16, 17], [4], 0), (90, [18], [], 0), (91, [18], [], 2000), (20, [17, 1], [4], 33), (90, [17], [], 0), (91, [17], [], 62), (20, [16, 1], [4], 23), (0, [16], [], 297), (80, [12, 13, 15], [4, 3], 0), (1, [15, 14, 4], [], 0), (22, [14, 12, 13], [3], 0), (90, [14], [], 0), (91, [14], [], 2000), (20, [13, 1], [3], 33), (90, [13], [], 0), (91, [13], [], 62), (20, [12, 1], [3], 23), (0, [12], [], 297), (80, [7, 8, 11], [3, 2], 0), (1, [11, 9, 10], [], 0), (0, [10], [], 1), (22, [9, 7, 8], [2], 0), (90, [9], [], 0), (91, [9], [], 16), (20, [8, 1], [2], 33), (90, [8], [], 0), (91, [8], [], 62), (20, [7, 1], [2], 22), (0, [7], [], 296), (35, [6], [], 0), (20, [6, 1], [2], 13), (90, [6], [], 0), (91, [6], [], 2), (1220, [1, 5], [1, 2], 0), (0, [5], [], 4), (5000, [0, 1, 2, 3, 4], [0, 1], 567), (0, [0], [], 285), (0, [1], [], 285), (90, [2], [], -2147483648), (91, [2], [], 2147483647), (90, [3], [], 0), (91, [3], [], 1007), (90, [4], [], 0), (91, [4], [], 1000)], (3000, [], [4], 633))
theorem c_227_567_4 {q0 : Nat} : vOkm T0 (eP e_227 L_227 A_227 mu_227 (some q0)) 1 g_227_567_4 := vOk_inI fun ρ η f0 f1 f2 f3 f4 f5 f6 f7 f8 f9 f10 f11 f12 f13 f14 f15 f16 f17 f18 f19 f20 f21 f22 f23 f24 f25 f26 f27 f28 f29 f30 f31 f32 f33 f34 f35 f36 f37 f38 f39 f40 f41 f42 f43 f44 f45 => q_227_62 (q0 := q0) (n0 := ρ 4) (n1 := ρ 3) (n2 := ρ 2) (n3 := ρ 1) (n4 := ρ 0) (n5 := ρ 5) (n6 := ρ 6) (n7 := ρ 7) (n8 := ρ 8) (n9 := ρ 9) (n10 := ρ 10) (n11 := ρ 11) (n12 := ρ 12) (n13 := ρ 13) (n14 := ρ 14) (n15 := ρ 15) (n16 := ρ 16) (n17 := ρ 17) (n18 := ρ 18) (n19 := ρ 19) (H0 := η 0) (H1 := η 1) (H2 := η 2) (H3 := η 3) (H4 := η 4) f45 f44 f43 f42 f41 f40 f39 f38 f37 f36 f35 f34 f33 f32 f31 f30 f29 f28 f27 f26 f25 f24 f23 f22 f21 f20 f19 f18 f17 f16 f15 f14 f13 f12 f11 f10 f9 f8 f7 f6 f5 f4 f3 f2 f1 f0
set_option maxHeartbeats 20000000 in
theorem q_227_63 {q0 : Nat} {n0 n1 n2 n3 n4 n5 n6 n7 n8 n9 n10 n11 n12 n13 n14 n15 n16 n17 n18 n19 n20 n21 n22 : Int} {H0 H1 H2 H3 H4 H5 : gH} (f0 : n0 ≤ 1000) (f1 : 0 ≤ n0) (f2 : n1 ≤ 1007) (f3 : 0 ≤ n1) (f4 : n2 ≤ 2147483647) (f5 : (-2147483648) ≤ n2) (f6 : n3 = 285) (f7 : n4 = 285) (f8 : (hLe T0 H0 H1 ∧ hFr s_227.2.2.2.2 H0 H1 ∧ hWt T0 H1) ∧ (Ab_227_567 n4 n3 n2 n1 n0 H0 H1 ∧ preb_227 n4 H0) ∧ some q0 = some (mub_227_567 n4 n3 n2 n1 n0 H0 H1)) (f9 : n5 = 4) (f10 : (hLe T0 H1 H2 ∧ hFr s_220.2.2.2.2 H1 H2 ∧ ((0 : Int) = 0 → H2.length = H1.length) ∧ hWt T0 H2) ∧ postb_220 n3 n5 H1 H2) (f11 : n6 ≤ 2) (f12 : 0 ≤ n6) (f13 : n6 = hV H2 (n3).toNat 13) (f14 : n6 ≤ 0) (f15 : n7 = 296) (f16 : n7 = hV H2 (n3).toNat 22) (f17 : n8 ≤ 62) (f18 : 0 ≤ n8) (f19 : n8 = hV H2 (n3).toNat 33) (f20 : n9 ≤ 16) (f21 : 0 ≤ n9) (f22 : n9 = hV H2 (n7).toNat (n8).toNat) (f23 : n10 = 1) (f24 : n11 = w32 (n9 + n10)) (f25 : hUpd H3 H2 n7 n8 n11) (f26 : n12 = 297) (f27 : n12 = hV H3 (n3).toNat 23) (f28 : n13 ≤ 62) (f29 : 0 ≤ n13) (f30 : n13 = hV H3 (n3).toNat 33) (f31 : n14 ≤ 2000) (f32 : 0 ≤ n14) (f33 : n14 = hV H3 (n12).toNat (n13).toNat) (f34 : n15 = w32 (n14 + n0)) (f35 : hUpd H4 H3 n12 n13 n15) (f36 : n16 = 297) (f37 : n16 = hV H4 (n3).toNat 23) (f38 : n17 ≤ 62) (f39 : 0 ≤ n17) (f40 : n17 = hV H4 (n3).toNat 33) (f41 : n18 ≤ 2000) (f42 : 0 ≤ n18) (f43 : n18 = hV H4 (n16).toNat (n17).toNat) (f44 : n19 = 1000) (f45 : n19 < n18) (f46 : n20 = 297) (f47 : n20 = hV H4 (n3).toNat 23) (f48 : n21 ≤ 62) (f49 : 0 ≤ n21) (f50 : n21 = hV H4 (n3).toNat 33) (f51 : n22 = 1000) (f52 : hUpd H5 H4 n20 n21 n22) : postb_227 n4 H0 H5 := by
  have g4 := f8.2.1.1
  unfold Ab_227_567 at g4
  have g3 := f8.2.1.2
  unfold preb_227 at g3
  unfold postb_220 at f10
  unfold postb_227
  have e0 : n6 = hV H2 285 13 := (by rw [f6] at f13; exact f13 : n6 = hV H2 285 13)
  have e3 : n8 = hV H0 285 33 := (by rw [f6] at f19; exact f19 : n8 = hV H2 285 33).trans (((f10.1.2.1.1 285 33 kF_220_285_33)).trans (f8.1.2.1.1 285 33 kF_227_285_33))
  have e5 : n9 = hV H1 296 (n8).toNat := (by rw [f15] at f22; exact f22 : n9 = hV H2 296 (n8).toNat).trans ((congrFun (fRow f10.1.2.1 296 kR_220_296) _))
  have e7 : n13 = hV H0 285 33 := (by rw [f6] at f30; exact f30 : n13 = hV H3 285 33).trans (((uPlace f25 285 33 (iS (show n7 = ((296 : Nat) : Int) from f15) rfl))).trans (((f10.1.2.1.1 285 33 kF_220_285_33)).trans (f8.1.2.1.1 285 33 kF_227_285_33)))
  have e10 : n14 = hV H1 297 (n13).toNat := (by rw [f26] at f33; exact f33 : n14 = hV H3 297 (n13).toNat).trans (((congrFun (uRowNe f25 297 (iS (show n7 = ((296 : Nat) : Int) from f15) rfl)) _)).trans ((congrFun (fRow f10.1.2.1 297 kR_220_297) _)))
  have e12 : n17 = hV H0 285 33 := (by rw [f6] at f40; exact f40 : n17 = hV H4 285 33).trans (((uPlace f35 285 33 (iS (show n12 = ((297 : Nat) : Int) from f26) rfl))).trans (((uPlace f25 285 33 (iS (show n7 = ((296 : Nat) : Int) from f15) rfl))).trans (((f10.1.2.1.1 285 33 kF_220_285_33)).trans (f8.1.2.1.1 285 33 kF_227_285_33))))
  have e14 : ((((n17).toNat : Nat) : Int) = n13 ∧ hV H4 297 (n17).toNat = n15) ∨ (¬ (((n17).toNat : Nat) : Int) = n13 ∧ hV H4 297 (n17).toNat = hV H3 297 (n17).toNat) := uOr f35 _ _ f26.symm
  have e15 : n18 = hV H4 297 (n17).toNat := (by rw [f36] at f43; exact f43 : n18 = hV H4 297 (n17).toNat)
  have e16 : n21 = hV H0 285 33 := (by rw [f6] at f50; exact f50 : n21 = hV H4 285 33).trans (((uPlace f35 285 33 (iS (show n12 = ((297 : Nat) : Int) from f26) rfl))).trans (((uPlace f25 285 33 (iS (show n7 = ((296 : Nat) : Int) from f15) rfl))).trans (((f10.1.2.1.1 285 33 kF_220_285_33)).trans (f8.1.2.1.1 285 33 kF_227_285_33))))
  have e18 : hV H1 285 18 = hV H0 285 18 := (f8.1.2.1.1 285 18 kF_227_285_18)
  have e20 : hV H1 285 32 = hV H0 285 32 := (f8.1.2.1.1 285 32 kF_227_285_32)
  have e21 : hV H1 285 33 = hV H0 285 33 := (f8.1.2.1.1 285 33 kF_227_285_33)
  have e23 : hV H1 285 64 = hV H0 285 64 := (f8.1.2.1.1 285 64 kF_227_285_64)
  have e24 : hV H1 294 = hV H0 294 := fRow f8.1.2.1 294 kR_227_294
  have e25 : hV H1 328 = hV H0 328 := fRow f8.1.2.1 328 kR_227_328
  have e26 : hV H1 332 = hV H0 332 := fRow f8.1.2.1 332 kR_227_332
  have e27 : hV H1 335 = hV H0 335 := fRow f8.1.2.1 335 kR_227_335
  have e34 : hV H5 285 11 = hV H2 285 11 := ((uPlace f52 285 11 (iS (show n20 = ((297 : Nat) : Int) from f46) rfl))).trans (((uPlace f35 285 11 (iS (show n12 = ((297 : Nat) : Int) from f26) rfl))).trans (uPlace f25 285 11 (iS (show n7 = ((296 : Nat) : Int) from f15) rfl)))
  have e38 : hV H5 285 13 = hV H2 285 13 := ((uPlace f52 285 13 (iS (show n20 = ((297 : Nat) : Int) from f46) rfl))).trans (((uPlace f35 285 13 (iS (show n12 = ((297 : Nat) : Int) from f26) rfl))).trans (uPlace f25 285 13 (iS (show n7 = ((296 : Nat) : Int) from f15) rfl)))
  have e43 : hV H5 285 15 = hV H1 285 15 := ((uPlace f52 285 15 (iS (show n20 = ((297 : Nat) : Int) from f46) rfl))).trans (((uPlace f35 285 15 (iS (show n12 = ((297 : Nat) : Int) from f26) rfl))).trans (((uPlace f25 285 15 (iS (show n7 = ((296 : Nat) : Int) from f15) rfl))).trans (f10.1.2.1.1 285 15 kF_220_285_15)))
  have e48 : hV H5 285 18 = hV H0 285 18 := ((uPlace f52 285 18 (iS (show n20 = ((297 : Nat) : Int) from f46) rfl))).trans (((uPlace f35 285 18 (iS (show n12 = ((297 : Nat) : Int) from f26) rfl))).trans (((uPlace f25 285 18 (iS (show n7 = ((296 : Nat) : Int) from f15) rfl))).trans (((f10.1.2.1.1 285 18 kF_220_285_18)).trans (f8.1.2.1.1 285 18 kF_227_285_18))))
  have e53 : hV H5 285 32 = hV H0 285 32 := ((uPlace f52 285 32 (iS (show n20 = ((297 : Nat) : Int) from f46) rfl))).trans (((uPlace f35 285 32 (iS (show n12 = ((297 : Nat) : Int) from f26) rfl))).trans (((uPlace f25 285 32 (iS (show n7 = ((296 : Nat) : Int) from f15) rfl))).trans (((f10.1.2.1.1 285 32 kF_220_285_32)).trans (f8.1.2.1.1 285 32 kF_227_285_32))))
  have e55 : hV H5 285 33 = hV H0 285 33 := ((uPlace f52 285 33 (iS (show n20 = ((297 : Nat) : Int) from f46) rfl))).trans (((uPlace f35 285 33 (iS (show n12 = ((297 : Nat) : Int) from f26) rfl))).trans (((uPlace f25 285 33 (iS (show n7 = ((296 : Nat) : Int) from f15) rfl))).trans (((f10.1.2.1.1 285 33 kF_220_285_33)).trans (f8.1.2.1.1 285 33 kF_227_285_33))))
  have e60 : hV H5 285 64 = hV H0 285 64 := ((uPlace f52 285 64 (iS (show n20 = ((297 : Nat) : Int) from f46) rfl))).trans (((uPlace f35 285 64 (iS (show n12 = ((297 : Nat) : Int) from f26) rfl))).trans (((uPlace f25 285 64 (iS (show n7 = ((296 : Nat) : Int) from f15) rfl))).trans (((f10.1.2.1.1 285 64 kF_220_285_64)).trans (f8.1.2.1.1 285 64 kF_227_285_64))))
  have e68 : hV H5 294 = hV H0 294 := (uRowNe f52 294 (iS (show n20 = ((297 : Nat) : Int) from f46) rfl)).trans ((uRowNe f35 294 (iS (show n12 = ((297 : Nat) : Int) from f26) rfl)).trans ((uRowNe f25 294 (iS (show n7 = ((296 : Nat) : Int) from f15) rfl)).trans ((fRow f10.1.2.1 294 kR_220_294).trans e24)))
  have e74 : hV H5 296 = (uF (hV H1 296) n8 n11) := (uRowNe f52 296 (iS (show n20 = ((297 : Nat) : Int) from f46) rfl)).trans ((uRowNe f35 296 (iS (show n12 = ((297 : Nat) : Int) from f26) rfl)).trans ((uRow f25 296 f15.symm).trans (congrArg (fun z => uF z n8 n11) (fRow f10.1.2.1 296 kR_220_296))))
  have e78 : hV H5 297 = (uF (uF (hV H1 297) n13 n15) n21 n22) := (uRow f52 297 f46.symm).trans (congrArg (fun z => uF z n21 n22) ((uRow f35 297 f26.symm).trans (congrArg (fun z => uF z n13 n15) ((uRowNe f25 297 (iS (show n7 = ((296 : Nat) : Int) from f15) rfl)).trans (fRow f10.1.2.1 297 kR_220_297)))))
  have e85 : hV H5 298 = hV H1 298 := (uRowNe f52 298 (iS (show n20 = ((297 : Nat) : Int) from f46) rfl)).trans ((uRowNe f35 298 (iS (show n12 = ((297 : Nat) : Int) from f26) rfl)).trans ((uRowNe f25 298 (iS (show n7 = ((296 : Nat) : Int) from f15) rfl)).trans (fRow f10.1.2.1 298 kR_220_298)))
  have e92 : hV H5 300 = hV H1 300 := (uRowNe f52 300 (iS (show n20 = ((297 : Nat) : Int) from f46) rfl)).trans ((uRowNe f35 300 (iS (show n12 = ((297 : Nat) : Int) from f26) rfl)).trans ((uRowNe f25 300 (iS (show n7 = ((296 : Nat) : Int) from f15) rfl)).trans (fRow f10.1.2.1 300 kR_220_300)))
  have e99 : hV H5 301 = hV H1 301 := (uRowNe f52 301 (iS (show n20 = ((297 : Nat) : Int) from f46) rfl)).trans ((uRowNe f35 301 (iS (show n12 = ((297 : Nat) : Int) from f26) rfl)).trans ((uRowNe f25 301 (iS (show n7 = ((296 : Nat) : Int) from f15) rfl)).trans (fRow f10.1.2.1 301 kR_220_301)))
  have e106 : hV H5 302 = hV H1 302 := (uRowNe f52 302 (iS (show n20 = ((297 : Nat) : Int) from f46) rfl)).trans ((uRowNe f35 302 (iS (show n12 = ((297 : Nat) : Int) from f26) rfl)).trans ((uRowNe f25 302 (iS (show n7 = ((296 : Nat) : Int) from f15) rfl)).trans (fRow f10.1.2.1 302 kR_220_302)))
  have e113 : hV H5 303 = hV H1 303 := (uRowNe f52 303 (iS (show n20 = ((297 : Nat) : Int) from f46) rfl)).trans ((uRowNe f35 303 (iS (show n12 = ((297 : Nat) : Int) from f26) rfl)).trans ((uRowNe f25 303 (iS (show n7 = ((296 : Nat) : Int) from f15) rfl)).trans (fRow f10.1.2.1 303 kR_220_303)))
  have e120 : hV H5 305 = hV H1 305 := (uRowNe f52 305 (iS (show n20 = ((297 : Nat) : Int) from f46) rfl)).trans ((uRowNe f35 305 (iS (show n12 = ((297 : Nat) : Int) from f26) rfl)).trans ((uRowNe f25 305 (iS (show n7 = ((296 : Nat) : Int) from f15) rfl)).trans (fRow f10.1.2.1 305 kR_220_305)))
  have e128 : hV H5 328 = hV H0 328 := (uRowNe f52 328 (iS (show n20 = ((297 : Nat) : Int) from f46) rfl)).trans ((uRowNe f35 328 (iS (show n12 = ((297 : Nat) : Int) from f26) rfl)).trans ((uRowNe f25 328 (iS (show n7 = ((296 : Nat) : Int) from f15) rfl)).trans ((fRow f10.1.2.1 328 kR_220_328).trans e25)))
  have e136 : hV H5 332 = hV H0 332 := (uRowNe f52 332 (iS (show n20 = ((297 : Nat) : Int) from f46) rfl)).trans ((uRowNe f35 332 (iS (show n12 = ((297 : Nat) : Int) from f26) rfl)).trans ((uRowNe f25 332 (iS (show n7 = ((296 : Nat) : Int) from f15) rfl)).trans ((fRow f10.1.2.1 332 kR_220_332).trans e26)))
  have e144 : hV H5 335 = hV H0 335 := (uRowNe f52 335 (iS (show n20 = ((297 : Nat) : Int) from f46) rfl)).trans ((uRowNe f35 335 (iS (show n12 = ((297 : Nat) : Int) from f26) rfl)).trans ((uRowNe f25 335 (iS (show n7 = ((296 : Nat) : Int) from f15) rfl)).trans ((fRow f10.1.2.1 335 kR_220_335).trans e27)))
  have e145 : (0 : Int) ≤ hV H1 285 11 ∧ hV H1 285 11 ≤ 500 := f8.1.2.2 285 11 _ _ kW_285_11
  have e146 : (0 : Int) ≤ hV H1 285 13 ∧ hV H1 285 13 ≤ 2 := f8.1.2.2 285 13 _ _ kW_285_13
  have e147 : (0 : Int) ≤ hV H1 285 15 ∧ hV H1 285 15 ≤ 6 := f8.1.2.2 285 15 _ _ kW_285_15
  have e148 : (0 : Int) ≤ hV H0 285 18 ∧ hV H0 285 18 ≤ 8 := bTo e18 (f8.1.2.2 285 18 _ _ kW_285_18)
  have e149 : (0 : Int) ≤ hV H0 285 32 ∧ hV H0 285 32 ≤ 7 := bTo e20 (f8.1.2.2 285 32 _ _ kW_285_32)
  have e150 : (0 : Int) ≤ hV H0 285 33 ∧ hV H0 285 33 ≤ 62 := bTo e21 (f8.1.2.2 285 33 _ _ kW_285_33)
  have e151 : (0 : Int) ≤ hV H0 285 64 ∧ hV H0 285 64 ≤ 20 := bTo e23 (f8.1.2.2 285 64 _ _ kW_285_64)
  have e152 : (0 : Int) ≤ hV H2 285 11 ∧ hV H2 285 11 ≤ 500 := f10.1.2.2.2 285 11 _ _ kW_285_11
  have e153 : (0 : Int) ≤ hV H2 285 13 ∧ hV H2 285 13 ≤ 2 := f10.1.2.2.2 285 13 _ _ kW_285_13
  try simp only [PA, PW, PQ]
  try simp only [e34, e38, e43, e48, e53, e55, e60, e68, e74, e78, e85, e92, e99, e106, e113, e120, e128, e136, e144]
  have y0 := g4.1
  have y1 := g4.2.1
  have y2 := g4.2.2.1
  have y3 := g4.2.2.2.1
  have y4 := g4.2.2.2.2.1
  have y5 := g4.2.2.2.2.2.1
  have y6 := g4.2.2.2.2.2.2.1
  have y7 := g4.2.2.2.2.2.2.2.1
  have y8 := g4.2.2.2.2.2.2.2.2.1
  have y9 := g4.2.2.2.2.2.2.2.2.2.1
  have y10 := g4.2.2.2.2.2.2.2.2.2.2
  have p0 := g3.1
  have p1 := g3.2.1
  have p2 := g3.2.2.1
  have p3 := g3.2.2.2.1
  have p4 := g3.2.2.2.2.1
  have p5 := g3.2.2.2.2.2.1
  have p6 := g3.2.2.2.2.2.2
  have r0_0 := f10.2.1
  have r0_1 := f10.2.2.1
  have r0_2 := f10.2.2.2.1
  have r0_3 := f10.2.2.2.2.1
  try simp only [PA] at y0
  try simp only [PW] at y1
  try simp only [PQ] at y2
  try simp only [PA] at p0
  try simp only [PW] at p5
  try simp only [PQ] at p6
  try simp only [e18, e23, e24, e25, e26, e27] at y0
  try simp only [e20, e21, e24] at y1
  try simp only [e24] at y2
  try simp only [e20, e24] at y3
  try simp only [e21] at y9
  try simp only [e21] at y10
  clear g3
  clear g4
  have wb0 := (y2 (hV H0 285 32).toNat).1
  have wp0 := (y2 (hV H0 285 33).toNat).2
  have wi33 := (y2 (n13).toNat).2.2
  have wi43 := (y2 (n17).toNat).2.2
  try simp only [e18, e20, e21, e23, e24, e25, e26, e27] at wb0
  try simp only [e18, e20, e21, e23, e24, e25, e26, e27] at wp0
  try simp only [e18, e20, e21, e23, e24, e25, e26, e27] at wi33
  try simp only [e18, e20, e21, e23, e24, e25, e26, e27] at wi43
  clear f13 f16 f19 f22 f27 f30 f33 f37 f40 f43 f47 f50 e18 e20 e21 e23 e24 e25 e26 e27 e34 e38 e43 e48 e53 e55 e60 e68 e74 e78 e85 e92 e99 e106 e113 e120 e128 e136 e144
  clear f8 f10
  subst e0
  subst e3
  subst e5
  subst e7
  subst e10
  subst e12
  subst e15
  subst e16
  first
  | (have ix0 : n11 = hV H1 296 (hV H0 285 33).toNat + 1 := Eq.trans f24 (w32_iv (Iad (Iat f21 f20) (IC 1)) (by decide)); subst ix0; clear f24)
  | (have ix0 : n11 = hV H1 296 (hV H0 285 33).toNat + 1 := Eq.trans f24 (w32_id (by omega) (by omega)); subst ix0; clear f24)
  | (unfold w32 at f24; have ix0 : n11 = hV H1 296 (hV H0 285 33).toNat + 1 := (by omega); subst ix0)
  | skip
  first
  | (have ix1 : n15 = hV H1 297 (hV H0 285 33).toNat + n0 := Eq.trans f34 (w32_iv (Iad (Iat f32 f31) (Iat f1 f0)) (by decide)); subst ix1; clear f34)
  | (have ix1 : n15 = hV H1 297 (hV H0 285 33).toNat + n0 := Eq.trans f34 (w32_id (by omega) (by omega)); subst ix1; clear f34)
  | (unfold w32 at f34; have ix1 : n15 = hV H1 297 (hV H0 285 33).toNat + n0 := (by omega); subst ix1)
  | skip
  try unfold w32 at f24
  try unfold w32 at f34

  refine ⟨?_, ?_, ?_, ?_⟩
  · refine PA_pm ?_ (by omega)
    exact y0
  · intro z1 z2
    exact PWp_cap (y1 (by omega) (by omega)) (y3 (by omega) (by omega)) (by omega) (by omega) (by omega) (by omega) (by omega) (by omega) (by omega) (by omega) (by omega) (by omega) (by omega) (fun x => (y2 x).2.2.1)
  · refine PQ_cap ?_ (by omega) (by omega) (by omega)
    refine PQ_pm ?_ (by omega)
    exact y2
  · (try clear y0 y1 y2 y3 p0 p5 p6)
    first
    | omega
    | (refine ⟨?_, ?_, ?_, ?_, ?_⟩ <;> first | exact True.intro | omega)
def g_227_567_5 : vG := ([(80, [20, 21, 22], [5, 4], 0), (0, [22], [], 1000), (20, [21, 1], [4], 33), (90, [21], [], 0), (91, [21], [], 62), (20, [20, 1], [4], 23), (0, [20], [], 297), (44, [18, 19], [], 0), (0, [19], [], 1000), (22, [18, 16, 17], [4], 0), (90, [18], [], 0), (91, [18], [], 2000), (20, [17, 1], [4], 33), (90, [17], [], 0), (91, [17], [], 62), (20, [16, 1], [4], 23), (0, [16], [], 297), (80, [12, 13, 15], [4, 3], 0), (1, [15, 14, 4], [], 0), (22, [14, 12, 13], [3], 0), (90, [14], [], 0), (91, [14], [], 2000), (20, [13, 1], [3], 33), (90, [13], [], 0), (91, [13], [], 62), (20, [12, 1], [3], 23), (0, [12], [], 297), (80, [7, 8, 11], [3, 2], 0), (1, [11, 9, 10], [], 0), (0, [10], [], 1), (22, [9, 7, 8], [2], 0), (90, [9], [], 0), (91, [9], [], 16), (20, [8, 1], [2], 33), (90, [8], [], 0), (91, [8], [], 62), (20, [7, 1], [2], 22), (0, [7], [], 296), (35, [6], [], 0), (20, [6, 1], [2], 13), (90, [6], [], 0), (91, [6], [], 2), (1220, [1, 5], [1, 2], 0), (0, [5], [], 4), (5000, [0, 1, 2, 3, 4], [0, 1], 567), (0, [0], [], 285), (0, [1], [], 285), (90, [2], [], -2147483648), (91, [2], [], 2147483647), (90, [3], [], 0), (91, [3], [], 1007), (90, [4], [], 0), (91, [4], [], 1000)], (3000, [], [5], 633))
theorem c_227_567_5 {q0 : Nat} : vOkm T0 (eP e_227 L_227 A_227 mu_227 (some q0)) 1 g_227_567_5 := vOk_inI fun ρ η f0 f1 f2 f3 f4 f5 f6 f7 f8 f9 f10 f11 f12 f13 f14 f15 f16 f17 f18 f19 f20 f21 f22 f23 f24 f25 f26 f27 f28 f29 f30 f31 f32 f33 f34 f35 f36 f37 f38 f39 f40 f41 f42 f43 f44 f45 f46 f47 f48 f49 f50 f51 f52 => q_227_63 (q0 := q0) (n0 := ρ 4) (n1 := ρ 3) (n2 := ρ 2) (n3 := ρ 1) (n4 := ρ 0) (n5 := ρ 5) (n6 := ρ 6) (n7 := ρ 7) (n8 := ρ 8) (n9 := ρ 9) (n10 := ρ 10) (n11 := ρ 11) (n12 := ρ 12) (n13 := ρ 13) (n14 := ρ 14) (n15 := ρ 15) (n16 := ρ 16) (n17 := ρ 17) (n18 := ρ 18) (n19 := ρ 19) (n20 := ρ 20) (n21 := ρ 21) (n22 := ρ 22) (H0 := η 0) (H1 := η 1) (H2 := η 2) (H3 := η 3) (H4 := η 4) (H5 := η 5) f52 f51 f50 f49 f48 f47 f46 f45 f44 f43 f42 f41 f40 f39 f38 f37 f36 f35 f34 f33 f32 f31 f30 f29 f28 f27 f26 f25 f24 f23 f22 f21 f20 f19 f18 f17 f16 f15 f14 f13 f12 f11 f10 f9 f8 f7 f6 f5 f4 f3 f2 f1 f0
set_option maxHeartbeats 20000000 in
theorem q_227_64 {q0 : Nat} {n0 n1 n2 n3 n4 n5 n6 : Int} {H0 H1 H2 : gH} (f0 : n0 ≤ 1000) (f1 : 0 ≤ n0) (f2 : n1 ≤ 1007) (f3 : 0 ≤ n1) (f4 : n2 ≤ 2147483647) (f5 : (-2147483648) ≤ n2) (f6 : n3 = 285) (f7 : n4 = 285) (f8 : (hLe T0 H0 H1 ∧ hFr s_227.2.2.2.2 H0 H1 ∧ hWt T0 H1) ∧ (Ab_227_567 n4 n3 n2 n1 n0 H0 H1 ∧ preb_227 n4 H0) ∧ some q0 = some (mub_227_567 n4 n3 n2 n1 n0 H0 H1)) (f9 : n5 = 4) (f10 : (hLe T0 H1 H2 ∧ hFr s_220.2.2.2.2 H1 H2 ∧ ((0 : Int) = 0 → H2.length = H1.length) ∧ hWt T0 H2) ∧ postb_220 n3 n5 H1 H2) (f11 : n6 ≤ 2) (f12 : 0 ≤ n6) (f13 : n6 = hV H2 (n3).toNat 13) (f14 : 0 < n6) : postb_227 n4 H0 H2 := by
  have g4 := f8.2.1.1
  unfold Ab_227_567 at g4
  have g3 := f8.2.1.2
  unfold preb_227 at g3
  unfold postb_220 at f10
  unfold postb_227
  have e0 : n6 = hV H2 285 13 := (by rw [f6] at f13; exact f13 : n6 = hV H2 285 13)
  have e2 : hV H1 285 18 = hV H0 285 18 := (f8.1.2.1.1 285 18 kF_227_285_18)
  have e4 : hV H1 285 32 = hV H0 285 32 := (f8.1.2.1.1 285 32 kF_227_285_32)
  have e6 : hV H1 285 33 = hV H0 285 33 := (f8.1.2.1.1 285 33 kF_227_285_33)
  have e7 : hV H1 294 = hV H0 294 := fRow f8.1.2.1 294 kR_227_294
  have e9 : hV H2 285 15 = hV H1 285 15 := (f10.1.2.1.1 285 15 kF_220_285_15)
  have e13 : PA H2 = PA H1 := PA_fr f10.1.2.1 (by decide +kernel)
  have e14 : PQ H2 = PQ H1 := PQ_fr f10.1.2.1 (by decide +kernel)
  have e15 : PW H2 = PW H1 := PW_fr f10.1.2.1 (by decide +kernel)
  have e16 : (0 : Int) ≤ hV H1 285 11 ∧ hV H1 285 11 ≤ 500 := f8.1.2.2 285 11 _ _ kW_285_11
  have e17 : (0 : Int) ≤ hV H1 285 13 ∧ hV H1 285 13 ≤ 2 := f8.1.2.2 285 13 _ _ kW_285_13
  have e18 : (0 : Int) ≤ hV H1 285 15 ∧ hV H1 285 15 ≤ 6 := f8.1.2.2 285 15 _ _ kW_285_15
  have e19 : (0 : Int) ≤ hV H0 285 18 ∧ hV H0 285 18 ≤ 8 := bTo e2 (f8.1.2.2 285 18 _ _ kW_285_18)
  have e20 : (0 : Int) ≤ hV H0 285 32 ∧ hV H0 285 32 ≤ 7 := bTo e4 (f8.1.2.2 285 32 _ _ kW_285_32)
  have e21 : (0 : Int) ≤ hV H0 285 33 ∧ hV H0 285 33 ≤ 62 := bTo e6 (f8.1.2.2 285 33 _ _ kW_285_33)
  have e22 : (0 : Int) ≤ hV H2 285 11 ∧ hV H2 285 11 ≤ 500 := f10.1.2.2.2 285 11 _ _ kW_285_11
  have e23 : (0 : Int) ≤ hV H2 285 13 ∧ hV H2 285 13 ≤ 2 := f10.1.2.2.2 285 13 _ _ kW_285_13
  try simp only [e9, e13, e14, e15]
  have y0 := g4.1
  have y1 := g4.2.1
  have y2 := g4.2.2.1
  have y3 := g4.2.2.2.1
  have y4 := g4.2.2.2.2.1
  have y5 := g4.2.2.2.2.2.1
  have y6 := g4.2.2.2.2.2.2.1
  have y7 := g4.2.2.2.2.2.2.2.1
  have y8 := g4.2.2.2.2.2.2.2.2.1
  have y9 := g4.2.2.2.2.2.2.2.2.2.1
  have y10 := g4.2.2.2.2.2.2.2.2.2.2
  have p0 := g3.1
  have p1 := g3.2.1
  have p2 := g3.2.2.1
  have p3 := g3.2.2.2.1
  have p4 := g3.2.2.2.2.1
  have p5 := g3.2.2.2.2.2.1
  have p6 := g3.2.2.2.2.2.2
  have r0_0 := f10.2.1
  have r0_1 := f10.2.2.1
  have r0_2 := f10.2.2.2.1
  have r0_3 := f10.2.2.2.2.1
  try simp only [e4, e7] at y3
  try simp only [e6] at y9
  try simp only [e6] at y10
  clear g3
  clear g4
  have wb0 := (y2 (hV H0 285 32).toNat).1
  have wp0 := (y2 (hV H0 285 33).toNat).2
  try simp only [e2, e4, e6, e7] at wb0
  try simp only [e2, e4, e6, e7] at wp0
  clear f13 e2 e4 e6 e7 e9 e13 e14 e15
  clear f8 f10
  subst e0

  refine ⟨?_, ?_, ?_, ?_⟩
  · exact y0
  · intro z1 z2
    exact y1 (by omega) (by omega)
  · exact y2
  · (try clear y0 y1 y2 y3 p0 p5 p6)
    first
    | omega
    | (refine ⟨?_, ?_, ?_, ?_, ?_⟩ <;> first | exact True.intro | omega)
def g_227_567_6 : vG := ([(34, [6], [], 0), (20, [6, 1], [2], 13), (90, [6], [], 0), (91, [6], [], 2), (1220, [1, 5], [1, 2], 0), (0, [5], [], 4), (5000, [0, 1, 2, 3, 4], [0, 1], 567), (0, [0], [], 285), (0, [1], [], 285), (90, [2], [], -2147483648), (91, [2], [], 2147483647), (90, [3], [], 0), (91, [3], [], 1007), (90, [4], [], 0), (91, [4], [], 1000)], (3000, [], [2], 579))
theorem c_227_567_6 {q0 : Nat} : vOkm T0 (eP e_227 L_227 A_227 mu_227 (some q0)) 1 g_227_567_6 := vOk_inI fun ρ η f0 f1 f2 f3 f4 f5 f6 f7 f8 f9 f10 f11 f12 f13 f14 => q_227_64 (q0 := q0) (n0 := ρ 4) (n1 := ρ 3) (n2 := ρ 2) (n3 := ρ 1) (n4 := ρ 0) (n5 := ρ 5) (n6 := ρ 6) (H0 := η 0) (H1 := η 1) (H2 := η 2) f14 f13 f12 f11 f10 f9 f8 f7 f6 f5 f4 f3 f2 f1 f0
def p_227_567 : List vG := [g_227_567_0,
  g_227_567_1,
  g_227_567_2,
  g_227_567_3,
  g_227_567_4,
  g_227_567_5,
  g_227_567_6]
theorem r_227_567 : vCovO false (eRc e_227 L_227 cs_227 2000 (567, [(0, (3, 12, 285, 0)), (1, (0, -2147483648, 2147483647, 0)), (2, (0, 0, 1007, 0)), (3, (0, 0, 1000, 0))])) p_227_567 = true := by decide +kernel
theorem m_227 (d : Nat) : eC e_227 (d + 7) := eC_ok (e := e_227) (L := L_227) (cs := cs_227) (n := 2000) (d := d + 6) (A := A_227) (μ := mu_227) (tp := false) (p0 := p_227_s) rfl ⟨m_216 (d + 5), ⟨m_217 (d + 5), ⟨m_218 (d + 5), ⟨m_219 (d + 4), ⟨m_220 (d + 3), ⟨m_223 (d + 2), ⟨m_228 d, ⟨m_229 (d + 1), ⟨m_230 (d + 1), trivial⟩⟩⟩⟩⟩⟩⟩⟩⟩ rfl (.inl rfl) (by decide +kernel) (fun z => nomatch z) r_227_s (allC c_227_s_0 (allC c_227_s_1 (allC c_227_s_2 (allC c_227_s_3 (allC c_227_s_4 (allC c_227_s_5 (allC c_227_s_6 allN))))))) (allC (.inl ⟨p_227_80, r_227_80, fun q0 => (allC c_227_80_0 (allC c_227_80_1 (allC c_227_80_2 (allC c_227_80_3 (allC c_227_80_4 (allC c_227_80_5 (allC c_227_80_6 (allC c_227_80_7 (allC c_227_80_8 allN)))))))))⟩) (allC (.inl ⟨p_227_120, r_227_120, fun q0 => (allC c_227_120_0 (allC c_227_120_1 (allC c_227_120_2 (allC c_227_120_3 (allC c_227_120_4 (allC c_227_120_5 (allC c_227_120_6 allN)))))))⟩) (allC (.inl ⟨p_227_180, r_227_180, fun q0 => (allC c_227_180_0 (allC c_227_180_1 (allC c_227_180_2 (allC c_227_180_3 (allC c_227_180_4 (allC c_227_180_5 (allC c_227_180_6 (allC c_227_180_7 (allC c_227_180_8 (allC c_227_180_9 (allC c_227_180_10 (allC c_227_180_11 (allC c_227_180_12 (allC c_227_180_13 (allC c_227_180_14 (allC c_227_180_15 (allC c_227_180_16 (allC c_227_180_17 (allC c_227_180_18 (allC c_227_180_19 (allC c_227_180_20 (allC c_227_180_21 (allC c_227_180_22 (allC c_227_180_23 allN))))))))))))))))))))))))⟩) (allC (.inl ⟨p_227_471, r_227_471, fun q0 => (allC c_227_471_0 (allC c_227_471_1 (allC c_227_471_2 (allC c_227_471_3 (allC c_227_471_4 (allC c_227_471_5 (allC c_227_471_6 (allC c_227_471_7 (allC c_227_471_8 (allC c_227_471_9 (allC c_227_471_10 (allC c_227_471_11 (allC c_227_471_12 (allC c_227_471_13 (allC c_227_471_14 allN)))))))))))))))⟩) (allC (.inl ⟨p_227_567, r_227_567, fun q0 => (allC c_227_567_0 (allC c_227_567_1 (allC c_227_567_2 (allC c_227_567_3 (allC c_227_567_4 (allC c_227_567_5 (allC c_227_567_6 allN)))))))⟩) allN)))))
