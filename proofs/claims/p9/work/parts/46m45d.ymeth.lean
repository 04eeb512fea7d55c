/-! CONTRACTS of methods (printed by wip/gen/emit.py). -/
/- MixStageModel.mixes (I)V -/
noncomputable def s_274 : vM := ([(3, 12, 285, 0), (0, 0, 7, 0)], (9, 0, 0, 0), 1, 0, [(12, 82), (12, 88), (12, 93), (572, 0), (580, 0), (588, 0), (596, 0), (604, 0), (612, 0), (621, 0), (631, 0), (637, 0), (644, 0)])
def preb_274 (a0 a1 : Int) (h : gH) : Prop := a1 < hV h 285 18 ∧ PG h ∧ SO h
def pre_274 : List Int → gH → Prop := fun xs h => match xs with
  | [a0, a1] => preb_274 a0 a1 h
  | _ => False
def postb_274 (a0 a1 : Int) (h0 h : gH) : Prop := XQ h
def post_274 : List Int → gH → gH → Prop := fun xs h0 h => match xs with
  | [a0, a1] => postb_274 a0 a1 h0 h
  | _ => True
noncomputable def e_274 : vE := (274, s_274, pre_274, post_274)
noncomputable def L_274 : List vE := [e_266, e_270, e_273, e_275, e_276, e_277]
def cs_274 : List vC := [(24, [(0, (3, 12, 285, 0)), (1, (0, 0, 7, 0)), (2, (0, 0, 720, 0))]), (55, [(0, (3, 12, 285, 0)), (1, (0, 0, 7, 0)), (2, (0, -2147483648, 2147483647, 0)), (3, (0, 0, 40, 0))]), (153, [(0, (3, 12, 285, 0)), (1, (0, 0, 7, 0)), (2, (0, -2147483648, 2147483647, 0)), (3, (0, 0, 39, 0)), (4, (0, 0, 1007, 0)), (5, (0, -2147483648, 2147483647, 0)), (6, (0, 0, 2, 0)), (7, (0, 0, 240, 0))]), (243, [(0, (3, 12, 285, 0)), (1, (0, 0, 7, 0)), (2, (0, -2147483648, 2147483647, 0)), (3, (0, 0, 3, 0))]), (251, [(0, (3, 12, 285, 0)), (1, (0, 0, 7, 0)), (2, (0, -2147483648, 2147483647, 0)), (3, (0, 0, 2, 0)), (4, (0, 0, 240, 0))]), (313, [(0, (3, 12, 285, 0)), (1, (0, 0, 7, 0)), (2, (0, -2147483648, 2147483647, 0)), (3, (0, 0, 40, 0))]), (354, [(0, (3, 12, 285, 0)), (1, (0, 0, 7, 0)), (2, (0, -2147483648, 2147483647, 0)), (3, (0, 0, 40, 0))]), (400, [(0, (3, 12, 285, 0)), (1, (0, 0, 7, 0)), (2, (0, -2147483648, 2147483647, 0)), (3, (0, -2147483648, 2147483647, 0)), (4, (0, 0, 40, 0))]), (447, [(0, (3, 12, 285, 0)), (1, (0, 0, 7, 0)), (2, (0, -2147483648, 2147483647, 0)), (3, (0, -2147483648, 2147483647, 0)), (4, (0, 0, 240, 0))])]
def Ab_274_24 (a0 a1 x0 x1 x2 : Int) (h0 h : gH) : Prop := x1 = a1 ∧ XQ h
def mub_274_24 (a0 a1 x0 x1 x2 : Int) (h0 h : gH) : Nat := (60129542144 + (2147483648 - x2).toNat) * 1099511627776 + 1099511627775
def Ab_274_55 (a0 a1 x0 x1 x2 x3 : Int) (h0 h : gH) : Prop := x1 = a1 ∧ XQ h
def mub_274_55 (a0 a1 x0 x1 x2 x3 : Int) (h0 h : gH) : Nat := (51539607552 + (2147483648 - x3).toNat) * 1099511627776 + 1099511627775
def Ab_274_153 (a0 a1 x0 x1 x2 x3 x4 x5 x6 x7 : Int) (h0 h : gH) : Prop := x1 = a1 ∧ x4 = hV h 344 ((x3).toNat) ∧ hV h 298 ((x4).toNat) = 0 ∧ x3 < hV h 285 82 ∧ XQ h
def mub_274_153 (a0 a1 x0 x1 x2 x3 x4 x5 x6 x7 : Int) (h0 h : gH) : Nat := (51539607552 + (2147483648 - x3).toNat) * 1099511627776 + (8589934592 + (2147483648 - x7).toNat) * 1
def Ab_274_243 (a0 a1 x0 x1 x2 x3 : Int) (h0 h : gH) : Prop := x1 = a1 ∧ XQ h
def mub_274_243 (a0 a1 x0 x1 x2 x3 : Int) (h0 h : gH) : Nat := (42949672960 + (2147483648 - x3).toNat) * 1099511627776 + 1099511627775
def Ab_274_251 (a0 a1 x0 x1 x2 x3 x4 : Int) (h0 h : gH) : Prop := x1 = a1 ∧ XQ h
def mub_274_251 (a0 a1 x0 x1 x2 x3 x4 : Int) (h0 h : gH) : Nat := (42949672960 + (2147483648 - x3).toNat) * 1099511627776 + (8589934592 + (2147483648 - x4).toNat) * 1
def Ab_274_313 (a0 a1 x0 x1 x2 x3 : Int) (h0 h : gH) : Prop := x1 = a1 ∧ XQ h
def mub_274_313 (a0 a1 x0 x1 x2 x3 : Int) (h0 h : gH) : Nat := (34359738368 + (2147483648 - x3).toNat) * 1099511627776 + 1099511627775
def Ab_274_354 (a0 a1 x0 x1 x2 x3 : Int) (h0 h : gH) : Prop := x1 = a1 ∧ XQ h
def mub_274_354 (a0 a1 x0 x1 x2 x3 : Int) (h0 h : gH) : Nat := (25769803776 + (2147483648 - x3).toNat) * 1099511627776 + 1099511627775
def Ab_274_400 (a0 a1 x0 x1 x2 x3 x4 : Int) (h0 h : gH) : Prop := x1 = a1 ∧ XQ h
def mub_274_400 (a0 a1 x0 x1 x2 x3 x4 : Int) (h0 h : gH) : Nat := (17179869184 + (2147483648 - x4).toNat) * 1099511627776 + 1099511627775
def Ab_274_447 (a0 a1 x0 x1 x2 x3 x4 : Int) (h0 h : gH) : Prop := x1 = a1 ∧ XQ h
def mub_274_447 (a0 a1 x0 x1 x2 x3 x4 : Int) (h0 h : gH) : Nat := (8589934592 + (2147483648 - x4).toNat) * 1099511627776 + 1099511627775
def A_274 : Int → List Int → gH → gH → Prop := fun c xs h0 h => match c.toNat with
  | 24 => (match xs with
    | [a0, a1, x0, x1, x2] => Ab_274_24 a0 a1 x0 x1 x2 h0 h
    | _ => False)
  | 55 => (match xs with
    | [a0, a1, x0, x1, x2, x3] => Ab_274_55 a0 a1 x0 x1 x2 x3 h0 h
    | _ => False)
  | 153 => (match xs with
    | [a0, a1, x0, x1, x2, x3, x4, x5, x6, x7] => Ab_274_153 a0 a1 x0 x1 x2 x3 x4 x5 x6 x7 h0 h
    | _ => False)
  | 243 => (match xs with
    | [a0, a1, x0, x1, x2, x3] => Ab_274_243 a0 a1 x0 x1 x2 x3 h0 h
    | _ => False)
  | 251 => (match xs with
    | [a0, a1, x0, x1, x2, x3, x4] => Ab_274_251 a0 a1 x0 x1 x2 x3 x4 h0 h
    | _ => False)
  | 313 => (match xs with
    | [a0, a1, x0, x1, x2, x3] => Ab_274_313 a0 a1 x0 x1 x2 x3 h0 h
    | _ => False)
  | 354 => (match xs with
    | [a0, a1, x0, x1, x2, x3] => Ab_274_354 a0 a1 x0 x1 x2 x3 h0 h
    | _ => False)
  | 400 => (match xs with
    | [a0, a1, x0, x1, x2, x3, x4] => Ab_274_400 a0 a1 x0 x1 x2 x3 x4 h0 h
    | _ => False)
  | 447 => (match xs with
    | [a0, a1, x0, x1, x2, x3, x4] => Ab_274_447 a0 a1 x0 x1 x2 x3 x4 h0 h
    | _ => False)
  | _ => True
def mu_274 : Int → List Int → gH → gH → Nat := fun c xs h0 h => match c.toNat with
  | 24 => (match xs with
    | [a0, a1, x0, x1, x2] => mub_274_24 a0 a1 x0 x1 x2 h0 h
    | _ => 0)
  | 55 => (match xs with
    | [a0, a1, x0, x1, x2, x3] => mub_274_55 a0 a1 x0 x1 x2 x3 h0 h
    | _ => 0)
  | 153 => (match xs with
    | [a0, a1, x0, x1, x2, x3, x4, x5, x6, x7] => mub_274_153 a0 a1 x0 x1 x2 x3 x4 x5 x6 x7 h0 h
    | _ => 0)
  | 243 => (match xs with
    | [a0, a1, x0, x1, x2, x3] => mub_274_243 a0 a1 x0 x1 x2 x3 h0 h
    | _ => 0)
  | 251 => (match xs with
    | [a0, a1, x0, x1, x2, x3, x4] => mub_274_251 a0 a1 x0 x1 x2 x3 x4 h0 h
    | _ => 0)
  | 313 => (match xs with
    | [a0, a1, x0, x1, x2, x3] => mub_274_313 a0 a1 x0 x1 x2 x3 h0 h
    | _ => 0)
  | 354 => (match xs with
    | [a0, a1, x0, x1, x2, x3] => mub_274_354 a0 a1 x0 x1 x2 x3 h0 h
    | _ => 0)
  | 400 => (match xs with
    | [a0, a1, x0, x1, x2, x3, x4] => mub_274_400 a0 a1 x0 x1 x2 x3 x4 h0 h
    | _ => 0)
  | 447 => (match xs with
    | [a0, a1, x0, x1, x2, x3, x4] => mub_274_447 a0 a1 x0 x1 x2 x3 x4 h0 h
    | _ => 0)
  | _ => 0
theorem q_274_0 {n0 n1 : Int} {H0 : gH} (f0 : n0 ≤ 7) (f1 : 0 ≤ n0) (f2 : n1 = 285) (f3 : hWt T0 H0 ∧ preb_274 n1 n0 H0) : preb_270 n1 n0 H0 := by
  unfold preb_274 at f3
  unfold preb_270
  have e0 : (0 : Int) ≤ hV H0 285 18 ∧ hV H0 285 18 ≤ 8 := f3.1 285 18 _ _ kW_285_18
  try simp only [XQ] at *
  have p0 := f3.2.1
  have p1 := f3.2.2.1
  have p2 := f3.2.2.2
  refine ⟨?_, ?_⟩ <;> first | assumption | omega | trivial
theorem c_274_s_0 : vOkm T0 (eP e_274 L_274 A_274 mu_274 none) 2 ([(6000, [0, 1], [0], 0), (0, [0], [], 285), (90, [1], [], 0), (91, [1], [], 7)], (2270, [0, 1], [0], 0)) := vOk_inI fun ρ η f0 f1 f2 f3 => q_274_0 (n0 := ρ 1) (n1 := ρ 0) (H0 := η 0) f3 f2 f1 f0
theorem kR_270_293 : vFreeR s_270.2.2.2.2 293 = true := by decide +kernel
theorem kR_270_325 : vFreeR s_270.2.2.2.2 325 = true := by decide +kernel
theorem q_274_1 {n0 n1 n2 n3 n4 n5 n6 n7 : Int} {H0 H1 : gH} (f0 : n0 ≤ 7) (f1 : 0 ≤ n0) (f2 : n1 = 285) (f3 : hWt T0 H0 ∧ preb_274 n1 n0 H0) (f4 : (hLe T0 H0 H1 ∧ hFr s_270.2.2.2.2 H0 H1 ∧ ((0 : Int) = 0 → H1.length = H0.length) ∧ hWt T0 H1) ∧ postb_270 n1 n0 H0 H1) (f5 : n2 = 4) (f6 : n3 = 325) (f7 : n3 = hV H1 (n1).toNat 61) (f8 : n4 = 293) (f9 : n4 = hV H1 (n1).toNat 19) (f10 : n5 ≤ 5) (f11 : 0 ≤ n5) (f12 : n5 = hV H1 (n4).toNat (n0).toNat) (f13 : n6 ≤ 60) (f14 : 0 ≤ n6) (f15 : n6 = hV H1 (n3).toNat (n5).toNat) (f16 : n7 = w32 (n2 * n6)) : 0 ≤ n7 := by
  unfold preb_274 at f3
  unfold postb_270 at f4
  have e1 : n5 = hV H0 293 (n0).toNat := (by rw [f8] at f12; exact f12 : n5 = hV H1 293 (n0).toNat).trans ((congrFun (fRow f4.1.2.1 293 kR_270_293) _))
  have e3 : n6 = hV H0 325 (n5).toNat := (by rw [f6] at f15; exact f15 : n6 = hV H1 325 (n5).toNat).trans ((congrFun (fRow f4.1.2.1 325 kR_270_325) _))
  have e4 : hV H1 296 = hV H0 296 := fRow f4.1.2.1 296 kR_270_296
  have e5 : hV H1 298 = hV H0 298 := fRow f4.1.2.1 298 kR_270_298
  have e6 : hV H1 300 = hV H0 300 := fRow f4.1.2.1 300 kR_270_300
  have e7 : hV H1 301 = hV H0 301 := fRow f4.1.2.1 301 kR_270_301
  have e8 : hV H1 302 = hV H0 302 := fRow f4.1.2.1 302 kR_270_302
  have e9 : hV H1 303 = hV H0 303 := fRow f4.1.2.1 303 kR_270_303
  have e10 : hV H1 305 = hV H0 305 := fRow f4.1.2.1 305 kR_270_305
  have e11 : (0 : Int) ≤ hV H0 285 18 ∧ hV H0 285 18 ≤ 8 := f3.1 285 18 _ _ kW_285_18
  have e12 : (0 : Int) ≤ hV H1 285 82 ∧ hV H1 285 82 ≤ 40 := f4.1.2.2.2 285 82 _ _ kW_285_82
  try simp only [XQ] at *
  try simp only [e4, e5, e6, e7, e8, e9, e10] at f4
  have p0 := f3.2.1
  have p1 := f3.2.2.1
  have p2 := f3.2.2.2
  have r0_0 := f4.2.1
  have r0_1 := f4.2.2
  clear f7 f9 f12 f15 e4 e5 e6 e7 e8 e9 e10
  subst e1
  subst e3
  rw [f5] at f16
  first
  | (have ix0 : n7 = 4 * (hV H0 325 (hV H0 293 (n0).toNat).toNat) := Eq.trans f16 (w32_iv (Iml 4 rfl (Iat f14 f13)) (by decide)); subst ix0; clear f16)
  | (have ix0 : n7 = 4 * (hV H0 325 (hV H0 293 (n0).toNat).toNat) := Eq.trans f16 (w32_id (by omega) (by omega)); subst ix0; clear f16)
  | (unfold w32 at f16; have ix0 : n7 = 4 * (hV H0 325 (hV H0 293 (n0).toNat).toNat) := (by omega); subst ix0)
  | skip
  try unfold w32 at f16
  omega
theorem c_274_s_1 : vOkm T0 (eP e_274 L_274 A_274 mu_274 none) 2 ([(3, [7, 2, 6], [], 0), (22, [6, 3, 5], [1], 0), (90, [6], [], 0), (91, [6], [], 60), (22, [5, 4, 1], [1], 0), (90, [5], [], 0), (91, [5], [], 5), (20, [4, 0], [1], 19), (0, [4], [], 293), (20, [3, 0], [1], 61), (0, [3], [], 325), (0, [2], [], 4), (1270, [0, 1], [0, 1], 0), (6000, [0, 1], [0], 0), (0, [0], [], 285), (90, [1], [], 0), (91, [1], [], 7)], (90, [7], [], 0)) := vOk_inI fun ρ η f0 f1 f2 f3 f4 f5 f6 f7 f8 f9 f10 f11 f12 f13 f14 f15 f16 => q_274_1 (n0 := ρ 1) (n1 := ρ 0) (n2 := ρ 2) (n3 := ρ 3) (n4 := ρ 4) (n5 := ρ 5) (n6 := ρ 6) (n7 := ρ 7) (H0 := η 0) (H1 := η 1) f16 f15 f14 f13 f12 f11 f10 f9 f8 f7 f6 f5 f4 f3 f2 f1 f0
theorem q_274_2 {n0 n1 n2 n3 n4 n5 n6 n7 : Int} {H0 H1 : gH} (f0 : n0 ≤ 7) (f1 : 0 ≤ n0) (f2 : n1 = 285) (f3 : hWt T0 H0 ∧ preb_274 n1 n0 H0) (f4 : (hLe T0 H0 H1 ∧ hFr s_270.2.2.2.2 H0 H1 ∧ ((0 : Int) = 0 → H1.length = H0.length) ∧ hWt T0 H1) ∧ postb_270 n1 n0 H0 H1) (f5 : n2 = 4) (f6 : n3 = 325) (f7 : n3 = hV H1 (n1).toNat 61) (f8 : n4 = 293) (f9 : n4 = hV H1 (n1).toNat 19) (f10 : n5 ≤ 5) (f11 : 0 ≤ n5) (f12 : n5 = hV H1 (n4).toNat (n0).toNat) (f13 : n6 ≤ 60) (f14 : 0 ≤ n6) (f15 : n6 = hV H1 (n3).toNat (n5).toNat) (f16 : n7 = w32 (n2 * n6)) : n7 ≤ 240 := by
  unfold preb_274 at f3
  unfold postb_270 at f4
  have e1 : n5 = hV H0 293 (n0).toNat := (by rw [f8] at f12; exact f12 : n5 = hV H1 293 (n0).toNat).trans ((congrFun (fRow f4.1.2.1 293 kR_270_293) _))
  have e3 : n6 = hV H0 325 (n5).toNat := (by rw [f6] at f15; exact f15 : n6 = hV H1 325 (n5).toNat).trans ((congrFun (fRow f4.1.2.1 325 kR_270_325) _))
  have e4 : hV H1 296 = hV H0 296 := fRow f4.1.2.1 296 kR_270_296
  have e5 : hV H1 298 = hV H0 298 := fRow f4.1.2.1 298 kR_270_298
  have e6 : hV H1 300 = hV H0 300 := fRow f4.1.2.1 300 kR_270_300
  have e7 : hV H1 301 = hV H0 301 := fRow f4.1.2.1 301 kR_270_301
  have e8 : hV H1 302 = hV H0 302 := fRow f4.1.2.1 302 kR_270_302
  have e9 : hV H1 303 = hV H0 303 := fRow f4.1.2.1 303 kR_270_303
  have e10 : hV H1 305 = hV H0 305 := fRow f4.1.2.1 305 kR_270_305
  have e11 : (0 : Int) ≤ hV H0 285 18 ∧ hV H0 285 18 ≤ 8 := f3.1 285 18 _ _ kW_285_18
  have e12 : (0 : Int) ≤ hV H1 285 82 ∧ hV H1 285 82 ≤ 40 := f4.1.2.2.2 285 82 _ _ kW_285_82
  try simp only [XQ] at *
  try simp only [e4, e5, e6, e7, e8, e9, e10] at f4
  have p0 := f3.2.1
  have p1 := f3.2.2.1
  have p2 := f3.2.2.2
  have r0_0 := f4.2.1
  have r0_1 := f4.2.2
  clear f7 f9 f12 f15 e4 e5 e6 e7 e8 e9 e10
  subst e1
  subst e3
  rw [f5] at f16
  first
  | (have ix0 : n7 = 4 * (hV H0 325 (hV H0 293 (n0).toNat).toNat) := Eq.trans f16 (w32_iv (Iml 4 rfl (Iat f14 f13)) (by decide)); subst ix0; clear f16)
  | (have ix0 : n7 = 4 * (hV H0 325 (hV H0 293 (n0).toNat).toNat) := Eq.trans f16 (w32_id (by omega) (by omega)); subst ix0; clear f16)
  | (unfold w32 at f16; have ix0 : n7 = 4 * (hV H0 325 (hV H0 293 (n0).toNat).toNat) := (by omega); subst ix0)
  | skip
  try unfold w32 at f16
  omega
theorem c_274_s_2 : vOkm T0 (eP e_274 L_274 A_274 mu_274 none) 2 ([(3, [7, 2, 6], [], 0), (22, [6, 3, 5], [1], 0), (90, [6], [], 0), (91, [6], [], 60), (22, [5, 4, 1], [1], 0), (90, [5], [], 0), (91, [5], [], 5), (20, [4, 0], [1], 19), (0, [4], [], 293), (20, [3, 0], [1], 61), (0, [3], [], 325), (0, [2], [], 4), (1270, [0, 1], [0, 1], 0), (6000, [0, 1], [0], 0), (0, [0], [], 285), (90, [1], [], 0), (91, [1], [], 7)], (91, [7], [], 240)) := vOk_inI fun ρ η f0 f1 f2 f3 f4 f5 f6 f7 f8 f9 f10 f11 f12 f13 f14 f15 f16 => q_274_2 (n0 := ρ 1) (n1 := ρ 0) (n2 := ρ 2) (n3 := ρ 3) (n4 := ρ 4) (n5 := ρ 5) (n6 := ρ 6) (n7 := ρ 7) (H0 := η 0) (H1 := η 1) f16 f15 f14 f13 f12 f11 f10 f9 f8 f7 f6 f5 f4 f3 f2 f1 f0
theorem q_274_3 {n0 n1 n2 n3 n4 n5 n6 n7 n8 n9 : Int} {H0 H1 H2 : gH} (f0 : n0 ≤ 7) (f1 : 0 ≤ n0) (f2 : n1 = 285) (f3 : hWt T0 H0 ∧ preb_274 n1 n0 H0) (f4 : (hLe T0 H0 H1 ∧ hFr s_270.2.2.2.2 H0 H1 ∧ ((0 : Int) = 0 → H1.length = H0.length) ∧ hWt T0 H1) ∧ postb_270 n1 n0 H0 H1) (f5 : n2 = 4) (f6 : n3 = 325) (f7 : n3 = hV H1 (n1).toNat 61) (f8 : n4 = 293) (f9 : n4 = hV H1 (n1).toNat 19) (f10 : n5 ≤ 5) (f11 : 0 ≤ n5) (f12 : n5 = hV H1 (n4).toNat (n0).toNat) (f13 : n6 ≤ 60) (f14 : 0 ≤ n6) (f15 : n6 = hV H1 (n3).toNat (n5).toNat) (f16 : n7 = w32 (n2 * n6)) (f17 : n8 = 93) (f18 : hUpd H2 H1 n1 n8 n7) (f19 : n9 = 0) : Ab_274_24 n1 n0 n1 n0 n9 H0 H2 ∧ ∀ q, none = some q → mub_274_24 n1 n0 n1 n0 n9 H0 H2 < q := by
  unfold preb_274 at f3
  unfold postb_270 at f4
  unfold Ab_274_24
  have e1 : n5 = hV H0 293 (n0).toNat := (by rw [f8] at f12; exact f12 : n5 = hV H1 293 (n0).toNat).trans ((congrFun (fRow f4.1.2.1 293 kR_270_293) _))
  have e3 : n6 = hV H0 325 (n5).toNat := (by rw [f6] at f15; exact f15 : n6 = hV H1 325 (n5).toNat).trans ((congrFun (fRow f4.1.2.1 325 kR_270_325) _))
  have e4 : hV H1 296 = hV H0 296 := fRow f4.1.2.1 296 kR_270_296
  have e5 : hV H1 298 = hV H0 298 := fRow f4.1.2.1 298 kR_270_298
  have e6 : hV H1 300 = hV H0 300 := fRow f4.1.2.1 300 kR_270_300
  have e7 : hV H1 301 = hV H0 301 := fRow f4.1.2.1 301 kR_270_301
  have e8 : hV H1 302 = hV H0 302 := fRow f4.1.2.1 302 kR_270_302
  have e9 : hV H1 303 = hV H0 303 := fRow f4.1.2.1 303 kR_270_303
  have e10 : hV H1 305 = hV H0 305 := fRow f4.1.2.1 305 kR_270_305
  have e12 : hV H2 285 82 = hV H1 285 82 := (uSlot f18 285 82 (iS (show n8 = ((93 : Nat) : Int) from f17) rfl))
  have e14 : hV H2 298 = hV H0 298 := (uRowNe f18 298 (iS (show n1 = ((285 : Nat) : Int) from f2) rfl)).trans e5
  have e16 : hV H2 300 = hV H0 300 := (uRowNe f18 300 (iS (show n1 = ((285 : Nat) : Int) from f2) rfl)).trans e6
  have e18 : hV H2 301 = hV H0 301 := (uRowNe f18 301 (iS (show n1 = ((285 : Nat) : Int) from f2) rfl)).trans e7
  have e20 : hV H2 302 = hV H0 302 := (uRowNe f18 302 (iS (show n1 = ((285 : Nat) : Int) from f2) rfl)).trans e8
  have e22 : hV H2 303 = hV H0 303 := (uRowNe f18 303 (iS (show n1 = ((285 : Nat) : Int) from f2) rfl)).trans e9
  have e24 : hV H2 305 = hV H0 305 := (uRowNe f18 305 (iS (show n1 = ((285 : Nat) : Int) from f2) rfl)).trans e10
  have e25 : hV H2 344 = hV H1 344 := uRowNe f18 344 (iS (show n1 = ((285 : Nat) : Int) from f2) rfl)
  have e26 : (0 : Int) ≤ hV H0 285 18 ∧ hV H0 285 18 ≤ 8 := f3.1 285 18 _ _ kW_285_18
  have e27 : (0 : Int) ≤ hV H1 285 82 ∧ hV H1 285 82 ≤ 40 := f4.1.2.2.2 285 82 _ _ kW_285_82
  try simp only [XQ] at *
  try simp only [e4, e5, e6, e7, e8, e9, e10] at f4
  try simp only [e12, e14, e16, e18, e20, e22, e24, e25]
  have p0 := f3.2.1
  have p1 := f3.2.2.1
  have p2 := f3.2.2.2
  have r0_0 := f4.2.1
  have r0_1 := f4.2.2
  clear f7 f9 f12 f15 e4 e5 e6 e7 e8 e9 e10 e12 e14 e16 e18 e20 e22 e24 e25
  subst e1
  subst e3
  rw [f5] at f16
  first
  | (have ix0 : n7 = 4 * (hV H0 325 (hV H0 293 (n0).toNat).toNat) := Eq.trans f16 (w32_iv (Iml 4 rfl (Iat f14 f13)) (by decide)); subst ix0; clear f16)
  | (have ix0 : n7 = 4 * (hV H0 325 (hV H0 293 (n0).toNat).toNat) := Eq.trans f16 (w32_id (by omega) (by omega)); subst ix0; clear f16)
  | (unfold w32 at f16; have ix0 : n7 = 4 * (hV H0 325 (hV H0 293 (n0).toNat).toNat) := (by omega); subst ix0)
  | skip
  try unfold w32 at f16
  refine ⟨?_, fun q hq => ?_⟩
  · refine ⟨?_, ?_⟩ <;> first | assumption | omega | trivial
  · exact nomatch hq
theorem c_274_s_3 : vOkm T0 (eP e_274 L_274 A_274 mu_274 none) 2 ([(0, [9], [], 0), (80, [0, 8, 7], [2, 1], 0), (0, [8], [], 93), (3, [7, 2, 6], [], 0), (22, [6, 3, 5], [1], 0), (90, [6], [], 0), (91, [6], [], 60), (22, [5, 4, 1], [1], 0), (90, [5], [], 0), (91, [5], [], 5), (20, [4, 0], [1], 19), (0, [4], [], 293), (20, [3, 0], [1], 61), (0, [3], [], 325), (0, [2], [], 4), (1270, [0, 1], [0, 1], 0), (6000, [0, 1], [0], 0), (0, [0], [], 285), (90, [1], [], 0), (91, [1], [], 7)], (4000, [0, 1, 9], [2], 24)) := vOk_inI fun ρ η f0 f1 f2 f3 f4 f5 f6 f7 f8 f9 f10 f11 f12 f13 f14 f15 f16 f17 f18 f19 => q_274_3 (n0 := ρ 1) (n1 := ρ 0) (n2 := ρ 2) (n3 := ρ 3) (n4 := ρ 4) (n5 := ρ 5) (n6 := ρ 6) (n7 := ρ 7) (n8 := ρ 8) (n9 := ρ 9) (H0 := η 0) (H1 := η 1) (H2 := η 2) f19 f18 f17 f16 f15 f14 f13 f12 f11 f10 f9 f8 f7 f6 f5 f4 f3 f2 f1 f0
def p_274_s : List vG := [([(6000, [0, 1], [0], 0), (0, [0], [], 285), (90, [1], [], 0), (91, [1], [], 7)], (2270, [0, 1], [0], 0)),
  ([(3, [7, 2, 6], [], 0), (22, [6, 3, 5], [1], 0), (90, [6], [], 0), (91, [6], [], 60), (22, [5, 4, 1], [1], 0), (90, [5], [], 0), (91, [5], [], 5), (20, [4, 0], [1], 19), (0, [4], [], 293), (20, [3, 0], [1], 61), (0, [3], [], 325), (0, [2], [], 4), (1270, [0, 1], [0, 1], 0), (6000, [0, 1], [0], 0), (0, [0], [], 285), (90, [1], [], 0), (91, [1], [], 7)], (90, [7], [], 0)),
  ([(3, [7, 2, 6], [], 0), (22, [6, 3, 5], [1], 0), (90, [6], [], 0), (91, [6], [], 60), (22, [5, 4, 1], [1], 0), (90, [5], [], 0), (91, [5], [], 5), (20, [4, 0], [1], 19), (0, [4], [], 293), (20, [3, 0], [1], 61), (0, [3], [], 325), (0, [2], [], 4), (1270, [0, 1], [0, 1], 0), (6000, [0, 1], [0], 0), (0, [0], [], 285), (90, [1], [], 0), (91, [1], [], 7)], (91, [7], [], 240)),
  ([(0, [9], [], 0), (80, [0, 8, 7], [2, 1], 0), (0, [8], [], 93), (3, [7, 2, 6], [], 0), (22, [6, 3, 5], [1], 0), (90, [6], [], 0), (91, [6], [], 60), (22, [5, 4, 1], [1], 0), (90, [5], [], 0), (91, [5], [], 5), (20, [4, 0], [1], 19), (0, [4], [], 293), (20, [3, 0], [1], 61), (0, [3], [], 325), (0, [2], [], 4), (1270, [0, 1], [0, 1], 0), (6000, [0, 1], [0], 0), (0, [0], [], 285), (90, [1], [], 0), (91, [1], [], 7)], (4000, [0, 1, 9], [2], 24))]
theorem r_274_s : vCovO false (eR0 e_274 L_274 cs_274 2000) p_274_s = true := by decide +kernel
theorem kR_274_298 : vFreeR s_274.2.2.2.2 298 = true := by decide +kernel
theorem kR_274_300 : vFreeR s_274.2.2.2.2 300 = true := by decide +kernel
theorem kR_274_301 : vFreeR s_274.2.2.2.2 301 = true := by decide +kernel
theorem kR_274_302 : vFreeR s_274.2.2.2.2 302 = true := by decide +kernel
theorem kR_274_303 : vFreeR s_274.2.2.2.2 303 = true := by decide +kernel
theorem kR_274_305 : vFreeR s_274.2.2.2.2 305 = true := by decide +kernel
theorem kF_274_285_18 : vFree s_274.2.2.2.2 285 18 = true := by decide +kernel
theorem q_274_4 {q0 : Nat} {n0 n1 n2 n3 n4 n5 n6 n7 : Int} {H0 H1 : gH} (f0 : n0 ≤ 720) (f1 : 0 ≤ n0) (f2 : n1 ≤ 7) (f3 : 0 ≤ n1) (f4 : n2 = 285) (f5 : n3 ≤ 7) (f6 : 0 ≤ n3) (f7 : n4 = 285) (f8 : (hLe T0 H0 H1 ∧ hFr s_274.2.2.2.2 H0 H1 ∧ hWt T0 H1) ∧ (Ab_274_24 n4 n3 n2 n1 n0 H0 H1 ∧ preb_274 n4 n3 H0) ∧ some q0 = some (mub_274_24 n4 n3 n2 n1 n0 H0 H1)) (f9 : n5 = 720) (f10 : n5 ≤ n0) (f11 : n6 = 0) (f12 : n7 = 0) : Ab_274_55 n4 n3 n2 n1 n6 n7 H0 H1 ∧ ∀ q, some q0 = some q → mub_274_55 n4 n3 n2 n1 n6 n7 H0 H1 < q := by
  have g4 := f8.2.1.1
  unfold Ab_274_24 at g4
  have g3 := f8.2.1.2
  unfold preb_274 at g3
  have g5 := Option.some.inj f8.2.2
  unfold mub_274_24 at g5
  unfold Ab_274_55
  unfold mub_274_55
  have e2 : hV H1 298 = hV H0 298 := fRow f8.1.2.1 298 kR_274_298
  have e3 : hV H1 300 = hV H0 300 := fRow f8.1.2.1 300 kR_274_300
  have e4 : hV H1 301 = hV H0 301 := fRow f8.1.2.1 301 kR_274_301
  have e5 : hV H1 302 = hV H0 302 := fRow f8.1.2.1 302 kR_274_302
  have e6 : hV H1 303 = hV H0 303 := fRow f8.1.2.1 303 kR_274_303
  have e7 : hV H1 305 = hV H0 305 := fRow f8.1.2.1 305 kR_274_305
  have e8 : (0 : Int) ≤ hV H0 285 18 ∧ hV H0 285 18 ≤ 8 := bTo ((f8.1.2.1.1 285 18 kF_274_285_18)) (f8.1.2.2 285 18 _ _ kW_285_18)
  have e9 : (0 : Int) ≤ hV H1 285 82 ∧ hV H1 285 82 ≤ 40 := f8.1.2.2 285 82 _ _ kW_285_82
  try simp only [XQ] at *
  try simp only [e2, e3, e4, e5, e6, e7] at g4
  try simp only [e2, e3, e4, e5, e6, e7]
  have k0 := g4.1
  have y0 := g4.2
  have p0 := g3.1
  have p1 := g3.2.1
  have p2 := g3.2.2
  clear g3
  clear g4
  clear e2 e3 e4 e5 e6 e7
  try subst k0
  refine ⟨?_, fun q hq => ?_⟩
  · refine ⟨?_, ?_⟩ <;> first | assumption | omega | trivial
  · have g6 := Option.some.inj hq
    subst g6
    omega
theorem c_274_24_0 {q0 : Nat} : vOkm T0 (eP e_274 L_274 A_274 mu_274 (some q0)) 2 ([(0, [7], [], 0), (0, [6], [], 0), (43, [4, 5], [], 0), (0, [5], [], 720), (5000, [0, 1, 2, 3, 4], [0, 1], 24), (0, [0], [], 285), (90, [1], [], 0), (91, [1], [], 7), (0, [2], [], 285), (90, [3], [], 0), (91, [3], [], 7), (90, [4], [], 0), (91, [4], [], 720)], (4000, [2, 3, 6, 7], [1], 55)) := vOk_inI fun ρ η f0 f1 f2 f3 f4 f5 f6 f7 f8 f9 f10 f11 f12 => q_274_4 (q0 := q0) (n0 := ρ 4) (n1 := ρ 3) (n2 := ρ 2) (n3 := ρ 1) (n4 := ρ 0) (n5 := ρ 5) (n6 := ρ 6) (n7 := ρ 7) (H0 := η 0) (H1 := η 1) f12 f11 f10 f9 f8 f7 f6 f5 f4 f3 f2 f1 f0
theorem q_274_5 {q0 : Nat} {n0 n1 n2 n3 n4 n5 : Int} {H0 H1 : gH} (f0 : n0 ≤ 720) (f1 : 0 ≤ n0) (f2 : n1 ≤ 7) (f3 : 0 ≤ n1) (f4 : n2 = 285) (f5 : n3 ≤ 7) (f6 : 0 ≤ n3) (f7 : n4 = 285) (f8 : (hLe T0 H0 H1 ∧ hFr s_274.2.2.2.2 H0 H1 ∧ hWt T0 H1) ∧ (Ab_274_24 n4 n3 n2 n1 n0 H0 H1 ∧ preb_274 n4 n3 H0) ∧ some q0 = some (mub_274_24 n4 n3 n2 n1 n0 H0 H1)) (f9 : n5 = 720) (f10 : n0 < n5) : 0 ≤ n0 ∧ n0 < 720 := by
  have g4 := f8.2.1.1
  unfold Ab_274_24 at g4
  have g3 := f8.2.1.2
  unfold preb_274 at g3
  have e2 : hV H1 298 = hV H0 298 := fRow f8.1.2.1 298 kR_274_298
  have e3 : hV H1 300 = hV H0 300 := fRow f8.1.2.1 300 kR_274_300
  have e4 : hV H1 301 = hV H0 301 := fRow f8.1.2.1 301 kR_274_301
  have e5 : hV H1 302 = hV H0 302 := fRow f8.1.2.1 302 kR_274_302
  have e6 : hV H1 303 = hV H0 303 := fRow f8.1.2.1 303 kR_274_303
  have e7 : hV H1 305 = hV H0 305 := fRow f8.1.2.1 305 kR_274_305
  have e8 : (0 : Int) ≤ hV H0 285 18 ∧ hV H0 285 18 ≤ 8 := bTo ((f8.1.2.1.1 285 18 kF_274_285_18)) (f8.1.2.2 285 18 _ _ kW_285_18)
  have e9 : (0 : Int) ≤ hV H1 285 82 ∧ hV H1 285 82 ≤ 40 := f8.1.2.2 285 82 _ _ kW_285_82
  try simp only [XQ] at *
  try simp only [e2, e3, e4, e5, e6, e7] at g4
  have k0 := g4.1
  have y0 := g4.2
  have p0 := g3.1
  have p1 := g3.2.1
  have p2 := g3.2.2
  clear g3
  clear g4
  clear e2 e3 e4 e5 e6 e7
  try subst k0
  omega
theorem c_274_24_1 {q0 : Nat} : vOkm T0 (eP e_274 L_274 A_274 mu_274 (some q0)) 2 ([(42, [4, 5], [], 0), (0, [5], [], 720), (5000, [0, 1, 2, 3, 4], [0, 1], 24), (0, [0], [], 285), (90, [1], [], 0), (91, [1], [], 7), (0, [2], [], 285), (90, [3], [], 0), (91, [3], [], 7), (90, [4], [], 0), (91, [4], [], 720)], (70, [4], [], 720)) := vOk_inI fun ρ η f0 f1 f2 f3 f4 f5 f6 f7 f8 f9 f10 => q_274_5 (q0 := q0) (n0 := ρ 4) (n1 := ρ 3) (n2 := ρ 2) (n3 := ρ 1) (n4 := ρ 0) (n5 := ρ 5) (H0 := η 0) (H1 := η 1) f10 f9 f8 f7 f6 f5 f4 f3 f2 f1 f0
theorem c_274_24_2 {q0 : Nat} : vOkm T0 (eP e_274 L_274 A_274 mu_274 (some q0)) 2 ([(42, [4, 5], [], 0), (0, [5], [], 720), (5000, [0, 1, 2, 3, 4], [0, 1], 24), (0, [0], [], 285), (90, [1], [], 0), (91, [1], [], 7), (0, [2], [], 285), (90, [3], [], 0), (91, [3], [], 7), (90, [4], [], 0), (91, [4], [], 720)], (70, [4], [], 720)) := vOk_inI fun ρ η f0 f1 f2 f3 f4 f5 f6 f7 f8 f9 f10 => q_274_5 (q0 := q0) (n0 := ρ 4) (n1 := ρ 3) (n2 := ρ 2) (n3 := ρ 1) (n4 := ρ 0) (n5 := ρ 5) (H0 := η 0) (H1 := η 1) f10 f9 f8 f7 f6 f5 f4 f3 f2 f1 f0
theorem q_274_6 {q0 : Nat} {n0 n1 n2 n3 n4 n5 n6 : Int} {H0 H1 : gH} (f0 : n0 ≤ 720) (f1 : 0 ≤ n0) (f2 : n1 ≤ 7) (f3 : 0 ≤ n1) (f4 : n2 = 285) (f5 : n3 ≤ 7) (f6 : 0 ≤ n3) (f7 : n4 = 285) (f8 : (hLe T0 H0 H1 ∧ hFr s_274.2.2.2.2 H0 H1 ∧ hWt T0 H1) ∧ (Ab_274_24 n4 n3 n2 n1 n0 H0 H1 ∧ preb_274 n4 n3 H0) ∧ some q0 = some (mub_274_24 n4 n3 n2 n1 n0 H0 H1)) (f9 : n5 = 720) (f10 : n0 < n5) (f11 : n6 = w32 (n0 + 1)) : 0 ≤ n6 := by
  have g4 := f8.2.1.1
  unfold Ab_274_24 at g4
  have g3 := f8.2.1.2
  unfold preb_274 at g3
  have e2 : hV H1 298 = hV H0 298 := fRow f8.1.2.1 298 kR_274_298
  have e3 : hV H1 300 = hV H0 300 := fRow f8.1.2.1 300 kR_274_300
  have e4 : hV H1 301 = hV H0 301 := fRow f8.1.2.1 301 kR_274_301
  have e5 : hV H1 302 = hV H0 302 := fRow f8.1.2.1 302 kR_274_302
  have e6 : hV H1 303 = hV H0 303 := fRow f8.1.2.1 303 kR_274_303
  have e7 : hV H1 305 = hV H0 305 := fRow f8.1.2.1 305 kR_274_305
  have e8 : (0 : Int) ≤ hV H0 285 18 ∧ hV H0 285 18 ≤ 8 := bTo ((f8.1.2.1.1 285 18 kF_274_285_18)) (f8.1.2.2 285 18 _ _ kW_285_18)
  have e9 : (0 : Int) ≤ hV H1 285 82 ∧ hV H1 285 82 ≤ 40 := f8.1.2.2 285 82 _ _ kW_285_82
  try simp only [XQ] at *
  try simp only [e2, e3, e4, e5, e6, e7] at g4
  have k0 := g4.1
  have y0 := g4.2
  have p0 := g3.1
  have p1 := g3.2.1
  have p2 := g3.2.2
  clear g3
  clear g4
  clear e2 e3 e4 e5 e6 e7
  first
  | (have ix0 : n6 = n0 + 1 := Eq.trans f11 (w32_iv (Iad (Iat f1 f0) (IC 1)) (by decide)); subst ix0; clear f11)
  | (have ix0 : n6 = n0 + 1 := Eq.trans f11 (w32_id (by omega) (by omega)); subst ix0; clear f11)
  | (unfold w32 at f11; have ix0 : n6 = n0 + 1 := (by omega); subst ix0)
  | skip
  try unfold w32 at f11
  try subst k0
  omega
theorem c_274_24_3 {q0 : Nat} : vOkm T0 (eP e_274 L_274 A_274 mu_274 (some q0)) 2 ([(10, [11, 4], [], 1), (42, [4, 5], [], 0), (0, [5], [], 720), (5000, [0, 1, 2, 3, 4], [0, 1], 24), (0, [0], [], 285), (90, [1], [], 0), (91, [1], [], 7), (0, [2], [], 285), (90, [3], [], 0), (91, [3], [], 7), (90, [4], [], 0), (91, [4], [], 720)], (90, [11], [], 0)) := vOk_inI fun ρ η f0 f1 f2 f3 f4 f5 f6 f7 f8 f9 f10 f11 => q_274_6 (q0 := q0) (n0 := ρ 4) (n1 := ρ 3) (n2 := ρ 2) (n3 := ρ 1) (n4 := ρ 0) (n5 := ρ 5) (n6 := ρ 11) (H0 := η 0) (H1 := η 1) f11 f10 f9 f8 f7 f6 f5 f4 f3 f2 f1 f0
theorem q_274_7 {q0 : Nat} {n0 n1 n2 n3 n4 n5 n6 : Int} {H0 H1 : gH} (f0 : n0 ≤ 720) (f1 : 0 ≤ n0) (f2 : n1 ≤ 7) (f3 : 0 ≤ n1) (f4 : n2 = 285) (f5 : n3 ≤ 7) (f6 : 0 ≤ n3) (f7 : n4 = 285) (f8 : (hLe T0 H0 H1 ∧ hFr s_274.2.2.2.2 H0 H1 ∧ hWt T0 H1) ∧ (Ab_274_24 n4 n3 n2 n1 n0 H0 H1 ∧ preb_274 n4 n3 H0) ∧ some q0 = some (mub_274_24 n4 n3 n2 n1 n0 H0 H1)) (f9 : n5 = 720) (f10 : n0 < n5) (f11 : n6 = w32 (n0 + 1)) : n6 ≤ 720 := by
  have g4 := f8.2.1.1
  unfold Ab_274_24 at g4
  have g3 := f8.2.1.2
  unfold preb_274 at g3
  have e2 : hV H1 298 = hV H0 298 := fRow f8.1.2.1 298 kR_274_298
  have e3 : hV H1 300 = hV H0 300 := fRow f8.1.2.1 300 kR_274_300
  have e4 : hV H1 301 = hV H0 301 := fRow f8.1.2.1 301 kR_274_301
  have e5 : hV H1 302 = hV H0 302 := fRow f8.1.2.1 302 kR_274_302
  have e6 : hV H1 303 = hV H0 303 := fRow f8.1.2.1 303 kR_274_303
  have e7 : hV H1 305 = hV H0 305 := fRow f8.1.2.1 305 kR_274_305
  have e8 : (0 : Int) ≤ hV H0 285 18 ∧ hV H0 285 18 ≤ 8 := bTo ((f8.1.2.1.1 285 18 kF_274_285_18)) (f8.1.2.2 285 18 _ _ kW_285_18)
  have e9 : (0 : Int) ≤ hV H1 285 82 ∧ hV H1 285 82 ≤ 40 := f8.1.2.2 285 82 _ _ kW_285_82
  try simp only [XQ] at *
  try simp only [e2, e3, e4, e5, e6, e7] at g4
  have k0 := g4.1
  have y0 := g4.2
  have p0 := g3.1
  have p1 := g3.2.1
  have p2 := g3.2.2
  clear g3
  clear g4
  clear e2 e3 e4 e5 e6 e7
  first
  | (have ix0 : n6 = n0 + 1 := Eq.trans f11 (w32_iv (Iad (Iat f1 f0) (IC 1)) (by decide)); subst ix0; clear f11)
  | (have ix0 : n6 = n0 + 1 := Eq.trans f11 (w32_id (by omega) (by omega)); subst ix0; clear f11)
  | (unfold w32 at f11; have ix0 : n6 = n0 + 1 := (by omega); subst ix0)
  | skip
  try unfold w32 at f11
  try subst k0
  omega
theorem c_274_24_4 {q0 : Nat} : vOkm T0 (eP e_274 L_274 A_274 mu_274 (some q0)) 2 ([(10, [11, 4], [], 1), (42, [4, 5], [], 0), (0, [5], [], 720), (5000, [0, 1, 2, 3, 4], [0, 1], 24), (0, [0], [], 285), (90, [1], [], 0), (91, [1], [], 7), (0, [2], [], 285), (90, [3], [], 0), (91, [3], [], 7), (90, [4], [], 0), (91, [4], [], 720)], (91, [11], [], 720)) := vOk_inI fun ρ η f0 f1 f2 f3 f4 f5 f6 f7 f8 f9 f10 f11 => q_274_7 (q0 := q0) (n0 := ρ 4) (n1 := ρ 3) (n2 := ρ 2) (n3 := ρ 1) (n4 := ρ 0) (n5 := ρ 5) (n6 := ρ 11) (H0 := η 0) (H1 := η 1) f11 f10 f9 f8 f7 f6 f5 f4 f3 f2 f1 f0
theorem q_274_8 {q0 : Nat} {n0 n1 n2 n3 n4 n5 n6 n7 n8 n9 n10 n11 : Int} {H0 H1 H2 H3 : gH} (f0 : n0 ≤ 720) (f1 : 0 ≤ n0) (f2 : n1 ≤ 7) (f3 : 0 ≤ n1) (f4 : n2 = 285) (f5 : n3 ≤ 7) (f6 : 0 ≤ n3) (f7 : n4 = 285) (f8 : (hLe T0 H0 H1 ∧ hFr s_274.2.2.2.2 H0 H1 ∧ hWt T0 H1) ∧ (Ab_274_24 n4 n3 n2 n1 n0 H0 H1 ∧ preb_274 n4 n3 H0) ∧ some q0 = some (mub_274_24 n4 n3 n2 n1 n0 H0 H1)) (f9 : n5 = 720) (f10 : n0 < n5) (f11 : n6 = 349) (f12 : n6 = hV H1 (n2).toNat 89) (f13 : n7 = 0) (f14 : hUpd H2 H1 n6 n0 n7) (f15 : n8 = 350) (f16 : n8 = hV H2 (n2).toNat 90) (f17 : n9 = 0) (f18 : n10 = o32 (fun x _ => x &&& 1) n9 0) (f19 : hUpd H3 H2 n8 n0 n10) (f20 : n11 = w32 (n0 + 1)) : Ab_274_24 n4 n3 n2 n1 n11 H0 H3 ∧ ∀ q, some q0 = some q → mub_274_24 n4 n3 n2 n1 n11 H0 H3 < q := by
  have g4 := f8.2.1.1
  unfold Ab_274_24 at g4
  have g3 := f8.2.1.2
  unfold preb_274 at g3
  have g5 := Option.some.inj f8.2.2
  unfold mub_274_24 at g5
  unfold Ab_274_24
  unfold mub_274_24
  have e2 : hV H1 298 = hV H0 298 := fRow f8.1.2.1 298 kR_274_298
  have e3 : hV H1 300 = hV H0 300 := fRow f8.1.2.1 300 kR_274_300
  have e4 : hV H1 301 = hV H0 301 := fRow f8.1.2.1 301 kR_274_301
  have e5 : hV H1 302 = hV H0 302 := fRow f8.1.2.1 302 kR_274_302
  have e6 : hV H1 303 = hV H0 303 := fRow f8.1.2.1 303 kR_274_303
  have e7 : hV H1 305 = hV H0 305 := fRow f8.1.2.1 305 kR_274_305
  have e10 : hV H3 285 82 = hV H1 285 82 := ((uPlace f19 285 82 (iS (show n8 = ((350 : Nat) : Int) from f15) rfl))).trans (uPlace f14 285 82 (iS (show n6 = ((349 : Nat) : Int) from f11) rfl))
  have e14 : hV H3 298 = hV H0 298 := (uRowNe f19 298 (iS (show n8 = ((350 : Nat) : Int) from f15) rfl)).trans ((uRowNe f14 298 (iS (show n6 = ((349 : Nat) : Int) from f11) rfl)).trans e2)
  have e18 : hV H3 300 = hV H0 300 := (uRowNe f19 300 (iS (show n8 = ((350 : Nat) : Int) from f15) rfl)).trans ((uRowNe f14 300 (iS (show n6 = ((349 : Nat) : Int) from f11) rfl)).trans e3)
  have e22 : hV H3 301 = hV H0 301 := (uRowNe f19 301 (iS (show n8 = ((350 : Nat) : Int) from f15) rfl)).trans ((uRowNe f14 301 (iS (show n6 = ((349 : Nat) : Int) from f11) rfl)).trans e4)
  have e26 : hV H3 302 = hV H0 302 := (uRowNe f19 302 (iS (show n8 = ((350 : Nat) : Int) from f15) rfl)).trans ((uRowNe f14 302 (iS (show n6 = ((349 : Nat) : Int) from f11) rfl)).trans e5)
  have e30 : hV H3 303 = hV H0 303 := (uRowNe f19 303 (iS (show n8 = ((350 : Nat) : Int) from f15) rfl)).trans ((uRowNe f14 303 (iS (show n6 = ((349 : Nat) : Int) from f11) rfl)).trans e6)
  have e34 : hV H3 305 = hV H0 305 := (uRowNe f19 305 (iS (show n8 = ((350 : Nat) : Int) from f15) rfl)).trans ((uRowNe f14 305 (iS (show n6 = ((349 : Nat) : Int) from f11) rfl)).trans e7)
  have e37 : hV H3 344 = hV H1 344 := (uRowNe f19 344 (iS (show n8 = ((350 : Nat) : Int) from f15) rfl)).trans (uRowNe f14 344 (iS (show n6 = ((349 : Nat) : Int) from f11) rfl))
  have e38 : (0 : Int) ≤ hV H0 285 18 ∧ hV H0 285 18 ≤ 8 := bTo ((f8.1.2.1.1 285 18 kF_274_285_18)) (f8.1.2.2 285 18 _ _ kW_285_18)
  have e39 : (0 : Int) ≤ hV H1 285 82 ∧ hV H1 285 82 ≤ 40 := f8.1.2.2 285 82 _ _ kW_285_82
  try simp only [XQ] at *
  try simp only [e2, e3, e4, e5, e6, e7] at g4
  try simp only [e10, e14, e18, e22, e26, e30, e34, e37]
  have k0 := g4.1
  have y0 := g4.2
  have p0 := g3.1
  have p1 := g3.2.1
  have p2 := g3.2.2
  clear g3
  clear g4
  clear f12 f16 e2 e3 e4 e5 e6 e7 e10 e14 e18 e22 e26 e30 e34 e37
  first
  | (have ix0 : n11 = n0 + 1 := Eq.trans f20 (w32_iv (Iad (Iat f1 f0) (IC 1)) (by decide)); subst ix0; clear f20)
  | (have ix0 : n11 = n0 + 1 := Eq.trans f20 (w32_id (by omega) (by omega)); subst ix0; clear f20)
  | (unfold w32 at f20; have ix0 : n11 = n0 + 1 := (by omega); subst ix0)
  | skip
  try unfold w32 at f20
  try subst k0
  refine ⟨?_, fun q hq => ?_⟩
  · refine ⟨?_, ?_⟩ <;> first | assumption | omega | trivial
  · have g6 := Option.some.inj hq
    subst g6
    omega
theorem c_274_24_5 {q0 : Nat} : vOkm T0 (eP e_274 L_274 A_274 mu_274 (some q0)) 2 ([(10, [11, 4], [], 1), (80, [8, 4, 10], [3, 2], 0), (16, [10, 9], [], 0), (0, [9], [], 0), (20, [8, 2], [2], 90), (0, [8], [], 350), (80, [6, 4, 7], [2, 1], 1), (0, [7], [], 0), (20, [6, 2], [1], 89), (0, [6], [], 349), (42, [4, 5], [], 0), (0, [5], [], 720), (5000, [0, 1, 2, 3, 4], [0, 1], 24), (0, [0], [], 285), (90, [1], [], 0), (91, [1], [], 7), (0, [2], [], 285), (90, [3], [], 0), (91, [3], [], 7), (90, [4], [], 0), (91, [4], [], 720)], (4000, [2, 3, 11], [3], 24)) := vOk_inI fun ρ η f0 f1 f2 f3 f4 f5 f6 f7 f8 f9 f10 f11 f12 f13 f14 f15 f16 f17 f18 f19 f20 => q_274_8 (q0 := q0) (n0 := ρ 4) (n1 := ρ 3) (n2 := ρ 2) (n3 := ρ 1) (n4 := ρ 0) (n5 := ρ 5) (n6 := ρ 6) (n7 := ρ 7) (n8 := ρ 8) (n9 := ρ 9) (n10 := ρ 10) (n11 := ρ 11) (H0 := η 0) (H1 := η 1) (H2 := η 2) (H3 := η 3) f20 f19 f18 f17 f16 f15 f14 f13 f12 f11 f10 f9 f8 f7 f6 f5 f4 f3 f2 f1 f0
def p_274_24 : List vG := [([(0, [7], [], 0), (0, [6], [], 0), (43, [4, 5], [], 0), (0, [5], [], 720), (5000, [0, 1, 2, 3, 4], [0, 1], 24), (0, [0], [], 285), (90, [1], [], 0), (91, [1], [], 7), (0, [2], [], 285), (90, [3], [], 0), (91, [3], [], 7), (90, [4], [], 0), (91, [4], [], 720)], (4000, [2, 3, 6, 7], [1], 55)),
  ([(42, [4, 5], [], 0), (0, [5], [], 720), (5000, [0, 1, 2, 3, 4], [0, 1], 24), (0, [0], [], 285), (90, [1], [], 0), (91, [1], [], 7), (0, [2], [], 285), (90, [3], [], 0), (91, [3], [], 7), (90, [4], [], 0), (91, [4], [], 720)], (70, [4], [], 720)),
  ([(42, [4, 5], [], 0), (0, [5], [], 720), (5000, [0, 1, 2, 3, 4], [0, 1], 24), (0, [0], [], 285), (90, [1], [], 0), (91, [1], [], 7), (0, [2], [], 285), (90, [3], [], 0), (91, [3], [], 7), (90, [4], [], 0), (91, [4], [], 720)], (70, [4], [], 720)),
  ([(10, [11, 4], [], 1), (42, [4, 5], [], 0), (0, [5], [], 720), (5000, [0, 1, 2, 3, 4], [0, 1], 24), (0, [0], [], 285), (90, [1], [], 0), (91, [1], [], 7), (0, [2], [], 285), (90, [3], [], 0), (91, [3], [], 7), (90, [4], [], 0), (91, [4], [], 720)], (90, [11], [], 0)),
  ([(10, [11, 4], [], 1), (42, [4, 5], [], 0), (0, [5], [], 720), (5000, [0, 1, 2, 3, 4], [0, 1], 24), (0, [0], [], 285), (90, [1], [], 0), (91, [1], [], 7), (0, [2], [], 285), (90, [3], [], 0), (91, [3], [], 7), (90, [4], [], 0), (91, [4], [], 720)], (91, [11], [], 720)),
  ([(10, [11, 4], [], 1), (80, [8, 4, 10], [3, 2], 0), (16, [10, 9], [], 0), (0, [9], [], 0), (20, [8, 2], [2], 90), (0, [8], [], 350), (80, [6, 4, 7], [2, 1], 1), (0, [7], [], 0), (20, [6, 2], [1], 89), (0, [6], [], 349), (42, [4, 5], [], 0), (0, [5], [], 720), (5000, [0, 1, 2, 3, 4], [0, 1], 24), (0, [0], [], 285), (90, [1], [], 0), (91, [1], [], 7), (0, [2], [], 285), (90, [3], [], 0), (91, [3], [], 7), (90, [4], [], 0), (91, [4], [], 720)], (4000, [2, 3, 11], [3], 24))]
theorem r_274_24 : vCovO false (eRc e_274 L_274 cs_274 2000 (24, [(0, (3, 12, 285, 0)), (1, (0, 0, 7, 0)), (2, (0, 0, 720, 0))])) p_274_24 = true := by decide +kernel
theorem q_274_9 {q0 : Nat} {n0 n1 n2 n3 n4 n5 n6 n7 : Int} {H0 H1 : gH} (f0 : n0 ≤ 40) (f1 : 0 ≤ n0) (f2 : n1 ≤ 2147483647) (f3 : (-2147483648) ≤ n1) (f4 : n2 ≤ 7) (f5 : 0 ≤ n2) (f6 : n3 = 285) (f7 : n4 ≤ 7) (f8 : 0 ≤ n4) (f9 : n5 = 285) (f10 : (hLe T0 H0 H1 ∧ hFr s_274.2.2.2.2 H0 H1 ∧ hWt T0 H1) ∧ (Ab_274_55 n5 n4 n3 n2 n1 n0 H0 H1 ∧ preb_274 n5 n4 H0) ∧ some q0 = some (mub_274_55 n5 n4 n3 n2 n1 n0 H0 H1)) (f11 : n6 ≤ 40) (f12 : 0 ≤ n6) (f13 : n6 = hV H1 (n3).toNat 82) (f14 : n6 ≤ n0) (f15 : n7 = 0) : Ab_274_243 n5 n4 n3 n2 n1 n7 H0 H1 ∧ ∀ q, some q0 = some q → mub_274_243 n5 n4 n3 n2 n1 n7 H0 H1 < q := by
  have g4 := f10.2.1.1
  unfold Ab_274_55 at g4
  have g3 := f10.2.1.2
  unfold preb_274 at g3
  have g5 := Option.some.inj f10.2.2
  unfold mub_274_55 at g5
  unfold Ab_274_243
  unfold mub_274_243
  have e0 : n6 = hV H1 285 82 := (by rw [f6] at f13; exact f13 : n6 = hV H1 285 82)
  have e3 : hV H1 298 = hV H0 298 := fRow f10.1.2.1 298 kR_274_298
  have e4 : hV H1 300 = hV H0 300 := fRow f10.1.2.1 300 kR_274_300
  have e5 : hV H1 301 = hV H0 301 := fRow f10.1.2.1 301 kR_274_301
  have e6 : hV H1 302 = hV H0 302 := fRow f10.1.2.1 302 kR_274_302
  have e7 : hV H1 303 = hV H0 303 := fRow f10.1.2.1 303 kR_274_303
  have e8 : hV H1 305 = hV H0 305 := fRow f10.1.2.1 305 kR_274_305
  have e9 : (0 : Int) ≤ hV H0 285 18 ∧ hV H0 285 18 ≤ 8 := bTo ((f10.1.2.1.1 285 18 kF_274_285_18)) (f10.1.2.2 285 18 _ _ kW_285_18)
  have e10 : (0 : Int) ≤ hV H1 285 82 ∧ hV H1 285 82 ≤ 40 := f10.1.2.2 285 82 _ _ kW_285_82
  try simp only [XQ] at *
  try simp only [e3, e4, e5, e6, e7, e8] at g4
  try simp only [e3, e4, e5, e6, e7, e8]
  have k0 := g4.1
  have y0 := g4.2
  have p0 := g3.1
  have p1 := g3.2.1
  have p2 := g3.2.2
  clear g3
  clear g4
  clear f13 e3 e4 e5 e6 e7 e8
  subst e0
  try have x5 := XQp_s y0 (s := (n0).toNat) (by omega) (by omega) (by omega)
  try subst k0
  refine ⟨?_, fun q hq => ?_⟩
  · refine ⟨?_, ?_⟩ <;> first | assumption | omega | trivial
  · have g6 := Option.some.inj hq
    subst g6
    omega
theorem c_274_55_0 {q0 : Nat} : vOkm T0 (eP e_274 L_274 A_274 mu_274 (some q0)) 2 ([(0, [7], [], 0), (43, [5, 6], [], 0), (20, [6, 2], [1], 82), (90, [6], [], 0), (91, [6], [], 40), (5000, [0, 1, 2, 3, 4, 5], [0, 1], 55), (0, [0], [], 285), (90, [1], [], 0), (91, [1], [], 7), (0, [2], [], 285), (90, [3], [], 0), (91, [3], [], 7), (90, [4], [], -2147483648), (91, [4], [], 2147483647), (90, [5], [], 0), (91, [5], [], 40)], (4000, [2, 3, 4, 7], [1], 243)) := vOk_inI fun ρ η f0 f1 f2 f3 f4 f5 f6 f7 f8 f9 f10 f11 f12 f13 f14 f15 => q_274_9 (q0 := q0) (n0 := ρ 5) (n1 := ρ 4) (n2 := ρ 3) (n3 := ρ 2) (n4 := ρ 1) (n5 := ρ 0) (n6 := ρ 6) (n7 := ρ 7) (H0 := η 0) (H1 := η 1) f15 f14 f13 f12 f11 f10 f9 f8 f7 f6 f5 f4 f3 f2 f1 f0
theorem q_274_10 {q0 : Nat} {n0 n1 n2 n3 n4 n5 n6 : Int} {H0 H1 : gH} (f0 : n0 ≤ 40) (f1 : 0 ≤ n0) (f2 : n1 ≤ 2147483647) (f3 : (-2147483648) ≤ n1) (f4 : n2 ≤ 7) (f5 : 0 ≤ n2) (f6 : n3 = 285) (f7 : n4 ≤ 7) (f8 : 0 ≤ n4) (f9 : n5 = 285) (f10 : (hLe T0 H0 H1 ∧ hFr s_274.2.2.2.2 H0 H1 ∧ hWt T0 H1) ∧ (Ab_274_55 n5 n4 n3 n2 n1 n0 H0 H1 ∧ preb_274 n5 n4 H0) ∧ some q0 = some (mub_274_55 n5 n4 n3 n2 n1 n0 H0 H1)) (f11 : n6 ≤ 40) (f12 : 0 ≤ n6) (f13 : n6 = hV H1 (n3).toNat 82) (f14 : n0 < n6) : 0 ≤ n0 ∧ n0 < 40 := by
  have g4 := f10.2.1.1
  unfold Ab_274_55 at g4
  have g3 := f10.2.1.2
  unfold preb_274 at g3
  have e0 : n6 = hV H1 285 82 := (by rw [f6] at f13; exact f13 : n6 = hV H1 285 82)
  have e3 : hV H1 298 = hV H0 298 := fRow f10.1.2.1 298 kR_274_298
  have e4 : hV H1 300 = hV H0 300 := fRow f10.1.2.1 300 kR_274_300
  have e5 : hV H1 301 = hV H0 301 := fRow f10.1.2.1 301 kR_274_301
  have e6 : hV H1 302 = hV H0 302 := fRow f10.1.2.1 302 kR_274_302
  have e7 : hV H1 303 = hV H0 303 := fRow f10.1.2.1 303 kR_274_303
  have e8 : hV H1 305 = hV H0 305 := fRow f10.1.2.1 305 kR_274_305
  have e9 : (0 : Int) ≤ hV H0 285 18 ∧ hV H0 285 18 ≤ 8 := bTo ((f10.1.2.1.1 285 18 kF_274_285_18)) (f10.1.2.2 285 18 _ _ kW_285_18)
  have e10 : (0 : Int) ≤ hV H1 285 82 ∧ hV H1 285 82 ≤ 40 := f10.1.2.2 285 82 _ _ kW_285_82
  try simp only [XQ] at *
  try simp only [e3, e4, e5, e6, e7, e8] at g4
  have k0 := g4.1
  have y0 := g4.2
  have p0 := g3.1
  have p1 := g3.2.1
  have p2 := g3.2.2
  clear g3
  clear g4
  clear f13 e3 e4 e5 e6 e7 e8
  subst e0
  try have x5 := XQp_s y0 (s := (n0).toNat) (by omega) (by omega) (by omega)
  try subst k0
  omega
theorem c_274_55_1 {q0 : Nat} : vOkm T0 (eP e_274 L_274 A_274 mu_274 (some q0)) 2 ([(42, [5, 6], [], 0), (20, [6, 2], [1], 82), (90, [6], [], 0), (91, [6], [], 40), (5000, [0, 1, 2, 3, 4, 5], [0, 1], 55), (0, [0], [], 285), (90, [1], [], 0), (91, [1], [], 7), (0, [2], [], 285), (90, [3], [], 0), (91, [3], [], 7), (90, [4], [], -2147483648), (91, [4], [], 2147483647), (90, [5], [], 0), (91, [5], [], 40)], (70, [5], [], 40)) := vOk_inI fun ρ η f0 f1 f2 f3 f4 f5 f6 f7 f8 f9 f10 f11 f12 f13 f14 => q_274_10 (q0 := q0) (n0 := ρ 5) (n1 := ρ 4) (n2 := ρ 3) (n3 := ρ 2) (n4 := ρ 1) (n5 := ρ 0) (n6 := ρ 6) (H0 := η 0) (H1 := η 1) f14 f13 f12 f11 f10 f9 f8 f7 f6 f5 f4 f3 f2 f1 f0
theorem q_274_11 {q0 : Nat} {n0 n1 n2 n3 n4 n5 n6 n7 n8 n9 n10 n11 n12 n13 n14 n15 : Int} {H0 H1 : gH} (f0 : n0 ≤ 40) (f1 : 0 ≤ n0) (f2 : n1 ≤ 2147483647) (f3 : (-2147483648) ≤ n1) (f4 : n2 ≤ 7) (f5 : 0 ≤ n2) (f6 : n3 = 285) (f7 : n4 ≤ 7) (f8 : 0 ≤ n4) (f9 : n5 = 285) (f10 : (hLe T0 H0 H1 ∧ hFr s_274.2.2.2.2 H0 H1 ∧ hWt T0 H1) ∧ (Ab_274_55 n5 n4 n3 n2 n1 n0 H0 H1 ∧ preb_274 n5 n4 H0) ∧ some q0 = some (mub_274_55 n5 n4 n3 n2 n1 n0 H0 H1)) (f11 : n6 ≤ 40) (f12 : 0 ≤ n6) (f13 : n6 = hV H1 (n3).toNat 82) (f14 : n0 < n6) (f15 : n7 = 344) (f16 : n7 = hV H1 (n3).toNat 83) (f17 : n8 ≤ 1007) (f18 : 0 ≤ n8) (f19 : n8 = hV H1 (n7).toNat (n0).toNat) (f20 : n9 = 298) (f21 : n9 = hV H1 (n3).toNat 24) (f22 : n10 ≤ 5) (f23 : 0 ≤ n10) (f24 : n10 = hV H1 (n9).toNat (n8).toNat) (f25 : n10 = 0) (f26 : n11 = 8) (f27 : n11 ≤ n1) (f28 : n12 = 6) (f29 : n13 = w32 (n12 * n8)) (f30 : n14 = 2) (f31 : n15 = w32 (n13 + n14)) : 0 ≤ n15 ∧ n15 < 6048 := by
  have g4 := f10.2.1.1
  unfold Ab_274_55 at g4
  have g3 := f10.2.1.2
  unfold preb_274 at g3
  have e0 : n6 = hV H1 285 82 := (by rw [f6] at f13; exact f13 : n6 = hV H1 285 82)
  have e1 : n8 = hV H1 344 (n0).toNat := (by rw [f15] at f19; exact f19 : n8 = hV H1 344 (n0).toNat)
  have e2 : hV H1 298 = hV H0 298 := fRow f10.1.2.1 298 kR_274_298
  have e3 : n10 = hV H0 298 (n8).toNat := (by rw [f20] at f24; exact f24 : n10 = hV H1 298 (n8).toNat).trans ((congrFun e2 _))
  have e6 : hV H1 300 = hV H0 300 := fRow f10.1.2.1 300 kR_274_300
  have e7 : hV H1 301 = hV H0 301 := fRow f10.1.2.1 301 kR_274_301
  have e8 : hV H1 302 = hV H0 302 := fRow f10.1.2.1 302 kR_274_302
  have e9 : hV H1 303 = hV H0 303 := fRow f10.1.2.1 303 kR_274_303
  have e10 : hV H1 305 = hV H0 305 := fRow f10.1.2.1 305 kR_274_305
  have e11 : (0 : Int) ≤ hV H0 285 18 ∧ hV H0 285 18 ≤ 8 := bTo ((f10.1.2.1.1 285 18 kF_274_285_18)) (f10.1.2.2 285 18 _ _ kW_285_18)
  have e12 : (0 : Int) ≤ hV H1 285 82 ∧ hV H1 285 82 ≤ 40 := f10.1.2.2 285 82 _ _ kW_285_82
  try simp only [XQ] at *
  try simp only [e2, e6, e7, e8, e9, e10] at g4
  have k0 := g4.1
  have y0 := g4.2
  have p0 := g3.1
  have p1 := g3.2.1
  have p2 := g3.2.2
  clear g3
  clear g4
  clear f13 f16 f19 f21 f24 e2 e6 e7 e8 e9 e10
  subst e0
  subst e1
  subst e3
  rw [f28] at f29
  try have x5 := XQp_s y0 (s := (n0).toNat) (by omega) (by omega) (by omega)
  first
  | (have ix0 : n13 = 6 * (hV H1 344 (n0).toNat) := Eq.trans f29 (w32_iv (Iml 6 rfl (Iat f18 f17)) (by decide)); subst ix0; clear f29)
  | (have ix0 : n13 = 6 * (hV H1 344 (n0).toNat) := Eq.trans f29 (w32_id (by omega) (by omega)); subst ix0; clear f29)
  | (unfold w32 at f29; have ix0 : n13 = 6 * (hV H1 344 (n0).toNat) := (by omega); subst ix0)
  | skip
  first
  | (have ix1 : n15 = (6 * (hV H1 344 (n0).toNat)) + 2 := Eq.trans f31 (w32_iv (Iad (Iml 6 rfl (Iat f18 f17)) (IC 2)) (by decide)); subst ix1; clear f31)
  | (have ix1 : n15 = (6 * (hV H1 344 (n0).toNat)) + 2 := Eq.trans f31 (w32_id (by omega) (by omega)); subst ix1; clear f31)
  | (unfold w32 at f31; have ix1 : n15 = (6 * (hV H1 344 (n0).toNat)) + 2 := (by omega); subst ix1)
  | skip
  try unfold w32 at f29
  try unfold w32 at f31
  try subst k0
  omega
theorem c_274_55_2 {q0 : Nat} : vOkm T0 (eP e_274 L_274 A_274 mu_274 (some q0)) 2 ([(1, [16, 14, 15], [], 0), (0, [15], [], 2), (3, [14, 13, 8], [], 0), (0, [13], [], 6), (43, [4, 11], [], 0), (0, [11], [], 8), (30, [10], [], 0), (22, [10, 9, 8], [1], 0), (90, [10], [], 0), (91, [10], [], 5), (20, [9, 2], [1], 24), (0, [9], [], 298), (22, [8, 7, 5], [1], 0), (90, [8], [], 0), (91, [8], [], 1007), (20, [7, 2], [1], 83), (0, [7], [], 344), (42, [5, 6], [], 0), (20, [6, 2], [1], 82), (90, [6], [], 0), (91, [6], [], 40), (5000, [0, 1, 2, 3, 4, 5], [0, 1], 55), (0, [0], [], 285), (90, [1], [], 0), (91, [1], [], 7), (0, [2], [], 285), (90, [3], [], 0), (91, [3], [], 7), (90, [4], [], -2147483648), (91, [4], [], 2147483647), (90, [5], [], 0), (91, [5], [], 40)], (70, [16], [], 6048)) := vOk_inI fun ρ η f0 f1 f2 f3 f4 f5 f6 f7 f8 f9 f10 f11 f12 f13 f14 f15 f16 f17 f18 f19 f20 f21 f22 f23 f24 f25 f26 f27 f28 f29 f30 f31 => q_274_11 (q0 := q0) (n0 := ρ 5) (n1 := ρ 4) (n2 := ρ 3) (n3 := ρ 2) (n4 := ρ 1) (n5 := ρ 0) (n6 := ρ 6) (n7 := ρ 7) (n8 := ρ 8) (n9 := ρ 9) (n10 := ρ 10) (n11 := ρ 11) (n12 := ρ 13) (n13 := ρ 14) (n14 := ρ 15) (n15 := ρ 16) (H0 := η 0) (H1 := η 1) f31 f30 f29 f28 f27 f26 f25 f24 f23 f22 f21 f20 f19 f18 f17 f16 f15 f14 f13 f12 f11 f10 f9 f8 f7 f6 f5 f4 f3 f2 f1 f0
theorem q_274_12 {q0 : Nat} {n0 n1 n2 n3 n4 n5 n6 n7 n8 n9 n10 n11 n12 n13 n14 n15 n16 n17 n18 n19 n20 n21 n22 : Int} {H0 H1 : gH} (f0 : n0 ≤ 40) (f1 : 0 ≤ n0) (f2 : n1 ≤ 2147483647) (f3 : (-2147483648) ≤ n1) (f4 : n2 ≤ 7) (f5 : 0 ≤ n2) (f6 : n3 = 285) (f7 : n4 ≤ 7) (f8 : 0 ≤ n4) (f9 : n5 = 285) (f10 : (hLe T0 H0 H1 ∧ hFr s_274.2.2.2.2 H0 H1 ∧ hWt T0 H1) ∧ (Ab_274_55 n5 n4 n3 n2 n1 n0 H0 H1 ∧ preb_274 n5 n4 H0) ∧ some q0 = some (mub_274_55 n5 n4 n3 n2 n1 n0 H0 H1)) (f11 : n6 ≤ 40) (f12 : 0 ≤ n6) (f13 : n6 = hV H1 (n3).toNat 82) (f14 : n0 < n6) (f15 : n7 = 344) (f16 : n7 = hV H1 (n3).toNat 83) (f17 : n8 ≤ 1007) (f18 : 0 ≤ n8) (f19 : n8 = hV H1 (n7).toNat (n0).toNat) (f20 : n9 = 298) (f21 : n9 = hV H1 (n3).toNat 24) (f22 : n10 ≤ 5) (f23 : 0 ≤ n10) (f24 : n10 = hV H1 (n9).toNat (n8).toNat) (f25 : n10 = 0) (f26 : n11 = 8) (f27 : n11 ≤ n1) (f28 : n12 = 305) (f29 : n12 = hV H1 (n3).toNat 31) (f30 : n13 = 6) (f31 : n14 = w32 (n13 * n8)) (f32 : n15 = 2) (f33 : n16 = w32 (n14 + n15)) (f34 : n17 ≤ 9999) (f35 : (-1) ≤ n17) (f36 : n17 = hV H1 (n12).toNat (n16).toNat) (f37 : n18 = 305) (f38 : n18 = hV H1 (n3).toNat 31) (f39 : n19 = 6) (f40 : n20 = w32 (n19 * n8)) (f41 : n21 = 5) (f42 : n22 = w32 (n20 + n21)) : 0 ≤ n22 ∧ n22 < 6048 := by
  have g4 := f10.2.1.1
  unfold Ab_274_55 at g4
  have g3 := f10.2.1.2
  unfold preb_274 at g3
  have e0 : n6 = hV H1 285 82 := (by rw [f6] at f13; exact f13 : n6 = hV H1 285 82)
  have e1 : n8 = hV H1 344 (n0).toNat := (by rw [f15] at f19; exact f19 : n8 = hV H1 344 (n0).toNat)
  have e2 : hV H1 298 = hV H0 298 := fRow f10.1.2.1 298 kR_274_298
  have e3 : n10 = hV H0 298 (n8).toNat := (by rw [f20] at f24; exact f24 : n10 = hV H1 298 (n8).toNat).trans ((congrFun e2 _))
  have e4 : hV H1 305 = hV H0 305 := fRow f10.1.2.1 305 kR_274_305
  have e5 : n17 = hV H0 305 (n16).toNat := (by rw [f28] at f36; exact f36 : n17 = hV H1 305 (n16).toNat).trans ((congrFun e4 _))
  have e8 : hV H1 300 = hV H0 300 := fRow f10.1.2.1 300 kR_274_300
  have e9 : hV H1 301 = hV H0 301 := fRow f10.1.2.1 301 kR_274_301
  have e10 : hV H1 302 = hV H0 302 := fRow f10.1.2.1 302 kR_274_302
  have e11 : hV H1 303 = hV H0 303 := fRow f10.1.2.1 303 kR_274_303
  have e12 : (0 : Int) ≤ hV H0 285 18 ∧ hV H0 285 18 ≤ 8 := bTo ((f10.1.2.1.1 285 18 kF_274_285_18)) (f10.1.2.2 285 18 _ _ kW_285_18)
  have e13 : (0 : Int) ≤ hV H1 285 82 ∧ hV H1 285 82 ≤ 40 := f10.1.2.2 285 82 _ _ kW_285_82
  try simp only [XQ] at *
  try simp only [e2, e8, e9, e10, e11, e4] at g4
  have k0 := g4.1
  have y0 := g4.2
  have p0 := g3.1
  have p1 := g3.2.1
  have p2 := g3.2.2
  clear g3
  clear g4
  clear f13 f16 f19 f21 f24 f29 f36 f38 e2 e4 e8 e9 e10 e11
  subst e0
  subst e1
  subst e3
  subst e5
  rw [f30] at f31
  rw [f39] at f40
  try have x5 := XQp_s y0 (s := (n0).toNat) (by omega) (by omega) (by omega)
  first
  | (have ix0 : n14 = 6 * (hV H1 344 (n0).toNat) := Eq.trans f31 (w32_iv (Iml 6 rfl (Iat f18 f17)) (by decide)); subst ix0; clear f31)
  | (have ix0 : n14 = 6 * (hV H1 344 (n0).toNat) := Eq.trans f31 (w32_id (by omega) (by omega)); subst ix0; clear f31)
  | (unfold w32 at f31; have ix0 : n14 = 6 * (hV H1 344 (n0).toNat) := (by omega); subst ix0)
  | skip
  first
  | (have ix1 : n16 = (6 * (hV H1 344 (n0).toNat)) + 2 := Eq.trans f33 (w32_iv (Iad (Iml 6 rfl (Iat f18 f17)) (IC 2)) (by decide)); subst ix1; clear f33)
  | (have ix1 : n16 = (6 * (hV H1 344 (n0).toNat)) + 2 := Eq.trans f33 (w32_id (by omega) (by omega)); subst ix1; clear f33)
  | (unfold w32 at f33; have ix1 : n16 = (6 * (hV H1 344 (n0).toNat)) + 2 := (by omega); subst ix1)
  | skip
  first
  | (have ix2 : n20 = 6 * (hV H1 344 (n0).toNat) := Eq.trans f40 (w32_iv (Iml 6 rfl (Iat f18 f17)) (by decide)); subst ix2; clear f40)
  | (have ix2 : n20 = 6 * (hV H1 344 (n0).toNat) := Eq.trans f40 (w32_id (by omega) (by omega)); subst ix2; clear f40)
  | (unfold w32 at f40; have ix2 : n20 = 6 * (hV H1 344 (n0).toNat) := (by omega); subst ix2)
  | skip
  first
  | (have ix3 : n22 = (6 * (hV H1 344 (n0).toNat)) + 5 := Eq.trans f42 (w32_iv (Iad (Iml 6 rfl (Iat f18 f17)) (IC 5)) (by decide)); subst ix3; clear f42)
  | (have ix3 : n22 = (6 * (hV H1 344 (n0).toNat)) + 5 := Eq.trans f42 (w32_id (by omega) (by omega)); subst ix3; clear f42)
  | (unfold w32 at f42; have ix3 : n22 = (6 * (hV H1 344 (n0).toNat)) + 5 := (by omega); subst ix3)
  | skip
  try unfold w32 at f31
  try unfold w32 at f33
  try unfold w32 at f40
  try unfold w32 at f42
  try subst k0
  omega
theorem c_274_55_3 {q0 : Nat} : vOkm T0 (eP e_274 L_274 A_274 mu_274 (some q0)) 2 ([(1, [22, 20, 21], [], 0), (0, [21], [], 5), (3, [20, 19, 8], [], 0), (0, [19], [], 6), (20, [18, 2], [1], 31), (0, [18], [], 305), (22, [17, 12, 16], [1], 0), (90, [17], [], -1), (91, [17], [], 9999), (1, [16, 14, 15], [], 0), (0, [15], [], 2), (3, [14, 13, 8], [], 0), (0, [13], [], 6), (20, [12, 2], [1], 31), (0, [12], [], 305), (43, [4, 11], [], 0), (0, [11], [], 8), (30, [10], [], 0), (22, [10, 9, 8], [1], 0), (90, [10], [], 0), (91, [10], [], 5), (20, [9, 2], [1], 24), (0, [9], [], 298), (22, [8, 7, 5], [1], 0), (90, [8], [], 0), (91, [8], [], 1007), (20, [7, 2], [1], 83), (0, [7], [], 344), (42, [5, 6], [], 0), (20, [6, 2], [1], 82), (90, [6], [], 0), (91, [6], [], 40), (5000, [0, 1, 2, 3, 4, 5], [0, 1], 55), (0, [0], [], 285), (90, [1], [], 0), (91, [1], [], 7), (0, [2], [], 285), (90, [3], [], 0), (91, [3], [], 7), (90, [4], [], -2147483648), (91, [4], [], 2147483647), (90, [5], [], 0), (91, [5], [], 40)], (70, [22], [], 6048)) := vOk_inI fun ρ η f0 f1 f2 f3 f4 f5 f6 f7 f8 f9 f10 f11 f12 f13 f14 f15 f16 f17 f18 f19 f20 f21 f22 f23 f24 f25 f26 f27 f28 f29 f30 f31 f32 f33 f34 f35 f36 f37 f38 f39 f40 f41 f42 => q_274_12 (q0 := q0) (n0 := ρ 5) (n1 := ρ 4) (n2 := ρ 3) (n3 := ρ 2) (n4 := ρ 1) (n5 := ρ 0) (n6 := ρ 6) (n7 := ρ 7) (n8 := ρ 8) (n9 := ρ 9) (n10 := ρ 10) (n11 := ρ 11) (n12 := ρ 12) (n13 := ρ 13) (n14 := ρ 14) (n15 := ρ 15) (n16 := ρ 16) (n17 := ρ 17) (n18 := ρ 18) (n19 := ρ 19) (n20 := ρ 20) (n21 := ρ 21) (n22 := ρ 22) (H0 := η 0) (H1 := η 1) f42 f41 f40 f39 f38 f37 f36 f35 f34 f33 f32 f31 f30 f29 f28 f27 f26 f25 f24 f23 f22 f21 f20 f19 f18 f17 f16 f15 f14 f13 f12 f11 f10 f9 f8 f7 f6 f5 f4 f3 f2 f1 f0
theorem q_274_13 {q0 : Nat} {n0 n1 n2 n3 n4 n5 n6 n7 n8 n9 n10 n11 n12 n13 n14 n15 n16 n17 n18 n19 n20 n21 n22 n23 n24 : Int} {H0 H1 : gH} (f0 : n0 ≤ 40) (f1 : 0 ≤ n0) (f2 : n1 ≤ 2147483647) (f3 : (-2147483648) ≤ n1) (f4 : n2 ≤ 7) (f5 : 0 ≤ n2) (f6 : n3 = 285) (f7 : n4 ≤ 7) (f8 : 0 ≤ n4) (f9 : n5 = 285) (f10 : (hLe T0 H0 H1 ∧ hFr s_274.2.2.2.2 H0 H1 ∧ hWt T0 H1) ∧ (Ab_274_55 n5 n4 n3 n2 n1 n0 H0 H1 ∧ preb_274 n5 n4 H0) ∧ some q0 = some (mub_274_55 n5 n4 n3 n2 n1 n0 H0 H1)) (f11 : n6 ≤ 40) (f12 : 0 ≤ n6) (f13 : n6 = hV H1 (n3).toNat 82) (f14 : n0 < n6) (f15 : n7 = 344) (f16 : n7 = hV H1 (n3).toNat 83) (f17 : n8 ≤ 1007) (f18 : 0 ≤ n8) (f19 : n8 = hV H1 (n7).toNat (n0).toNat) (f20 : n9 = 298) (f21 : n9 = hV H1 (n3).toNat 24) (f22 : n10 ≤ 5) (f23 : 0 ≤ n10) (f24 : n10 = hV H1 (n9).toNat (n8).toNat) (f25 : n10 = 0) (f26 : n11 = 8) (f27 : n11 ≤ n1) (f28 : n12 = 305) (f29 : n12 = hV H1 (n3).toNat 31) (f30 : n13 = 6) (f31 : n14 = w32 (n13 * n8)) (f32 : n15 = 2) (f33 : n16 = w32 (n14 + n15)) (f34 : n17 ≤ 9999) (f35 : (-1) ≤ n17) (f36 : n17 = hV H1 (n12).toNat (n16).toNat) (f37 : n18 = 305) (f38 : n18 = hV H1 (n3).toNat 31) (f39 : n19 = 6) (f40 : n20 = w32 (n19 * n8)) (f41 : n21 = 5) (f42 : n22 = w32 (n20 + n21)) (f43 : n23 ≤ 9999) (f44 : (-1) ≤ n23) (f45 : n23 = hV H1 (n18).toNat (n22).toNat) (f46 : n24 = w32 (n1 + 1)) : n0 ≤ 39 := by
  have g4 := f10.2.1.1
  unfold Ab_274_55 at g4
  have g3 := f10.2.1.2
  unfold preb_274 at g3
  have e0 : n6 = hV H1 285 82 := (by rw [f6] at f13; exact f13 : n6 = hV H1 285 82)
  have e1 : n8 = hV H1 344 (n0).toNat := (by rw [f15] at f19; exact f19 : n8 = hV H1 344 (n0).toNat)
  have e2 : hV H1 298 = hV H0 298 := fRow f10.1.2.1 298 kR_274_298
  have e3 : n10 = hV H0 298 (n8).toNat := (by rw [f20] at f24; exact f24 : n10 = hV H1 298 (n8).toNat).trans ((congrFun e2 _))
  have e4 : hV H1 305 = hV H0 305 := fRow f10.1.2.1 305 kR_274_305
  have e5 : n17 = hV H0 305 (n16).toNat := (by rw [f28] at f36; exact f36 : n17 = hV H1 305 (n16).toNat).trans ((congrFun e4 _))
  have e6 : n23 = hV H0 305 (n22).toNat := (by rw [f37] at f45; exact f45 : n23 = hV H1 305 (n22).toNat).trans ((congrFun e4 _))
  have e9 : hV H1 300 = hV H0 300 := fRow f10.1.2.1 300 kR_274_300
  have e10 : hV H1 301 = hV H0 301 := fRow f10.1.2.1 301 kR_274_301
  have e11 : hV H1 302 = hV H0 302 := fRow f10.1.2.1 302 kR_274_302
  have e12 : hV H1 303 = hV H0 303 := fRow f10.1.2.1 303 kR_274_303
  have e13 : (0 : Int) ≤ hV H0 285 18 ∧ hV H0 285 18 ≤ 8 := bTo ((f10.1.2.1.1 285 18 kF_274_285_18)) (f10.1.2.2 285 18 _ _ kW_285_18)
  have e14 : (0 : Int) ≤ hV H1 285 82 ∧ hV H1 285 82 ≤ 40 := f10.1.2.2 285 82 _ _ kW_285_82
  try simp only [XQ] at *
  try simp only [e2, e9, e10, e11, e12, e4] at g4
  have k0 := g4.1
  have y0 := g4.2
  have p0 := g3.1
  have p1 := g3.2.1
  have p2 := g3.2.2
  clear g3
  clear g4
  clear f13 f16 f19 f21 f24 f29 f36 f38 f45 e2 e4 e9 e10 e11 e12
  subst e0
  subst e1
  subst e3
  subst e5
  subst e6
  rw [f30] at f31
  rw [f39] at f40
  try have x5 := XQp_s y0 (s := (n0).toNat) (by omega) (by omega) (by omega)
  first
  | (have ix0 : n14 = 6 * (hV H1 344 (n0).toNat) := Eq.trans f31 (w32_iv (Iml 6 rfl (Iat f18 f17)) (by decide)); subst ix0; clear f31)
  | (have ix0 : n14 = 6 * (hV H1 344 (n0).toNat) := Eq.trans f31 (w32_id (by omega) (by omega)); subst ix0; clear f31)
  | (unfold w32 at f31; have ix0 : n14 = 6 * (hV H1 344 (n0).toNat) := (by omega); subst ix0)
  | skip
  first
  | (have ix1 : n16 = (6 * (hV H1 344 (n0).toNat)) + 2 := Eq.trans f33 (w32_iv (Iad (Iml 6 rfl (Iat f18 f17)) (IC 2)) (by decide)); subst ix1; clear f33)
  | (have ix1 : n16 = (6 * (hV H1 344 (n0).toNat)) + 2 := Eq.trans f33 (w32_id (by omega) (by omega)); subst ix1; clear f33)
  | (unfold w32 at f33; have ix1 : n16 = (6 * (hV H1 344 (n0).toNat)) + 2 := (by omega); subst ix1)
  | skip
  first
  | (have ix2 : n20 = 6 * (hV H1 344 (n0).toNat) := Eq.trans f40 (w32_iv (Iml 6 rfl (Iat f18 f17)) (by decide)); subst ix2; clear f40)
  | (have ix2 : n20 = 6 * (hV H1 344 (n0).toNat) := Eq.trans f40 (w32_id (by omega) (by omega)); subst ix2; clear f40)
  | (unfold w32 at f40; have ix2 : n20 = 6 * (hV H1 344 (n0).toNat) := (by omega); subst ix2)
  | skip
  first
  | (have ix3 : n22 = (6 * (hV H1 344 (n0).toNat)) + 5 := Eq.trans f42 (w32_iv (Iad (Iml 6 rfl (Iat f18 f17)) (IC 5)) (by decide)); subst ix3; clear f42)
  | (have ix3 : n22 = (6 * (hV H1 344 (n0).toNat)) + 5 := Eq.trans f42 (w32_id (by omega) (by omega)); subst ix3; clear f42)
  | (unfold w32 at f42; have ix3 : n22 = (6 * (hV H1 344 (n0).toNat)) + 5 := (by omega); subst ix3)
  | skip
  try unfold w32 at f31
  try unfold w32 at f33
  try unfold w32 at f40
  try unfold w32 at f42
  try unfold w32 at f46
  try subst k0
  omega
theorem c_274_55_4 {q0 : Nat} : vOkm T0 (eP e_274 L_274 A_274 mu_274 (some q0)) 2 ([(10, [24, 4], [], 1), (22, [23, 18, 22], [1], 0), (90, [23], [], -1), (91, [23], [], 9999), (1, [22, 20, 21], [], 0), (0, [21], [], 5), (3, [20, 19, 8], [], 0), (0, [19], [], 6), (20, [18, 2], [1], 31), (0, [18], [], 305), (22, [17, 12, 16], [1], 0), (90, [17], [], -1), (91, [17], [], 9999), (1, [16, 14, 15], [], 0), (0, [15], [], 2), (3, [14, 13, 8], [], 0), (0, [13], [], 6), (20, [12, 2], [1], 31), (0, [12], [], 305), (43, [4, 11], [], 0), (0, [11], [], 8), (30, [10], [], 0), (22, [10, 9, 8], [1], 0), (90, [10], [], 0), (91, [10], [], 5), (20, [9, 2], [1], 24), (0, [9], [], 298), (22, [8, 7, 5], [1], 0), (90, [8], [], 0), (91, [8], [], 1007), (20, [7, 2], [1], 83), (0, [7], [], 344), (42, [5, 6], [], 0), (20, [6, 2], [1], 82), (90, [6], [], 0), (91, [6], [], 40), (5000, [0, 1, 2, 3, 4, 5], [0, 1], 55), (0, [0], [], 285), (90, [1], [], 0), (91, [1], [], 7), (0, [2], [], 285), (90, [3], [], 0), (91, [3], [], 7), (90, [4], [], -2147483648), (91, [4], [], 2147483647), (90, [5], [], 0), (91, [5], [], 40)], (91, [5], [], 39)) := vOk_inI fun ρ η f0 f1 f2 f3 f4 f5 f6 f7 f8 f9 f10 f11 f12 f13 f14 f15 f16 f17 f18 f19 f20 f21 f22 f23 f24 f25 f26 f27 f28 f29 f30 f31 f32 f33 f34 f35 f36 f37 f38 f39 f40 f41 f42 f43 f44 f45 f46 => q_274_13 (q0 := q0) (n0 := ρ 5) (n1 := ρ 4) (n2 := ρ 3) (n3 := ρ 2) (n4 := ρ 1) (n5 := ρ 0) (n6 := ρ 6) (n7 := ρ 7) (n8 := ρ 8) (n9 := ρ 9) (n10 := ρ 10) (n11 := ρ 11) (n12 := ρ 12) (n13 := ρ 13) (n14 := ρ 14) (n15 := ρ 15) (n16 := ρ 16) (n17 := ρ 17) (n18 := ρ 18) (n19 := ρ 19) (n20 := ρ 20) (n21 := ρ 21) (n22 := ρ 22) (n23 := ρ 23) (n24 := ρ 24) (H0 := η 0) (H1 := η 1) f46 f45 f44 f43 f42 f41 f40 f39 f38 f37 f36 f35 f34 f33 f32 f31 f30 f29 f28 f27 f26 f25 f24 f23 f22 f21 f20 f19 f18 f17 f16 f15 f14 f13 f12 f11 f10 f9 f8 f7 f6 f5 f4 f3 f2 f1 f0
theorem q_274_14 {q0 : Nat} {n0 n1 n2 n3 n4 n5 n6 n7 n8 n9 n10 n11 n12 n13 n14 n15 n16 n17 n18 n19 n20 n21 n22 n23 n24 : Int} {H0 H1 : gH} (f0 : n0 ≤ 40) (f1 : 0 ≤ n0) (f2 : n1 ≤ 2147483647) (f3 : (-2147483648) ≤ n1) (f4 : n2 ≤ 7) (f5 : 0 ≤ n2) (f6 : n3 = 285) (f7 : n4 ≤ 7) (f8 : 0 ≤ n4) (f9 : n5 = 285) (f10 : (hLe T0 H0 H1 ∧ hFr s_274.2.2.2.2 H0 H1 ∧ hWt T0 H1) ∧ (Ab_274_55 n5 n4 n3 n2 n1 n0 H0 H1 ∧ preb_274 n5 n4 H0) ∧ some q0 = some (mub_274_55 n5 n4 n3 n2 n1 n0 H0 H1)) (f11 : n6 ≤ 40) (f12 : 0 ≤ n6) (f13 : n6 = hV H1 (n3).toNat 82) (f14 : n0 < n6) (f15 : n7 = 344) (f16 : n7 = hV H1 (n3).toNat 83) (f17 : n8 ≤ 1007) (f18 : 0 ≤ n8) (f19 : n8 = hV H1 (n7).toNat (n0).toNat) (f20 : n9 = 298) (f21 : n9 = hV H1 (n3).toNat 24) (f22 : n10 ≤ 5) (f23 : 0 ≤ n10) (f24 : n10 = hV H1 (n9).toNat (n8).toNat) (f25 : n10 = 0) (f26 : n11 = 8) (f27 : n11 ≤ n1) (f28 : n12 = 305) (f29 : n12 = hV H1 (n3).toNat 31) (f30 : n13 = 6) (f31 : n14 = w32 (n13 * n8)) (f32 : n15 = 2) (f33 : n16 = w32 (n14 + n15)) (f34 : n17 ≤ 9999) (f35 : (-1) ≤ n17) (f36 : n17 = hV H1 (n12).toNat (n16).toNat) (f37 : n18 = 305) (f38 : n18 = hV H1 (n3).toNat 31) (f39 : n19 = 6) (f40 : n20 = w32 (n19 * n8)) (f41 : n21 = 5) (f42 : n22 = w32 (n20 + n21)) (f43 : n23 ≤ 9999) (f44 : (-1) ≤ n23) (f45 : n23 = hV H1 (n18).toNat (n22).toNat) (f46 : n24 = w32 (n1 + 1)) : 0 ≤ n23 := by
  have g4 := f10.2.1.1
  unfold Ab_274_55 at g4
  have g3 := f10.2.1.2
  unfold preb_274 at g3
  have e0 : n6 = hV H1 285 82 := (by rw [f6] at f13; exact f13 : n6 = hV H1 285 82)
  have e1 : n8 = hV H1 344 (n0).toNat := (by rw [f15] at f19; exact f19 : n8 = hV H1 344 (n0).toNat)
  have e2 : hV H1 298 = hV H0 298 := fRow f10.1.2.1 298 kR_274_298
  have e3 : n10 = hV H0 298 (n8).toNat := (by rw [f20] at f24; exact f24 : n10 = hV H1 298 (n8).toNat).trans ((congrFun e2 _))
  have e4 : hV H1 305 = hV H0 305 := fRow f10.1.2.1 305 kR_274_305
  have e5 : n17 = hV H0 305 (n16).toNat := (by rw [f28] at f36; exact f36 : n17 = hV H1 305 (n16).toNat).trans ((congrFun e4 _))
  have e6 : n23 = hV H0 305 (n22).toNat := (by rw [f37] at f45; exact f45 : n23 = hV H1 305 (n22).toNat).trans ((congrFun e4 _))
  have e9 : hV H1 300 = hV H0 300 := fRow f10.1.2.1 300 kR_274_300
  have e10 : hV H1 301 = hV H0 301 := fRow f10.1.2.1 301 kR_274_301
  have e11 : hV H1 302 = hV H0 302 := fRow f10.1.2.1 302 kR_274_302
  have e12 : hV H1 303 = hV H0 303 := fRow f10.1.2.1 303 kR_274_303
  have e13 : (0 : Int) ≤ hV H0 285 18 ∧ hV H0 285 18 ≤ 8 := bTo ((f10.1.2.1.1 285 18 kF_274_285_18)) (f10.1.2.2 285 18 _ _ kW_285_18)
  have e14 : (0 : Int) ≤ hV H1 285 82 ∧ hV H1 285 82 ≤ 40 := f10.1.2.2 285 82 _ _ kW_285_82
  try simp only [XQ] at *
  try simp only [e2, e9, e10, e11, e12, e4] at g4
  have k0 := g4.1
  have y0 := g4.2
  have p0 := g3.1
  have p1 := g3.2.1
  have p2 := g3.2.2
  clear g3
  clear g4
  clear f13 f16 f19 f21 f24 f29 f36 f38 f45 e2 e4 e9 e10 e11 e12
  subst e0
  subst e1
  subst e3
  subst e5
  subst e6
  rw [f30] at f31
  rw [f39] at f40
  try have x5 := XQp_s y0 (s := (n0).toNat) (by omega) (by omega) (by omega)
  first
  | (have ix0 : n14 = 6 * (hV H1 344 (n0).toNat) := Eq.trans f31 (w32_iv (Iml 6 rfl (Iat f18 f17)) (by decide)); subst ix0; clear f31)
  | (have ix0 : n14 = 6 * (hV H1 344 (n0).toNat) := Eq.trans f31 (w32_id (by omega) (by omega)); subst ix0; clear f31)
  | (unfold w32 at f31; have ix0 : n14 = 6 * (hV H1 344 (n0).toNat) := (by omega); subst ix0)
  | skip
  first
  | (have ix1 : n16 = (6 * (hV H1 344 (n0).toNat)) + 2 := Eq.trans f33 (w32_iv (Iad (Iml 6 rfl (Iat f18 f17)) (IC 2)) (by decide)); subst ix1; clear f33)
  | (have ix1 : n16 = (6 * (hV H1 344 (n0).toNat)) + 2 := Eq.trans f33 (w32_id (by omega) (by omega)); subst ix1; clear f33)
  | (unfold w32 at f33; have ix1 : n16 = (6 * (hV H1 344 (n0).toNat)) + 2 := (by omega); subst ix1)
  | skip
  first
  | (have ix2 : n20 = 6 * (hV H1 344 (n0).toNat) := Eq.trans f40 (w32_iv (Iml 6 rfl (Iat f18 f17)) (by decide)); subst ix2; clear f40)
  | (have ix2 : n20 = 6 * (hV H1 344 (n0).toNat) := Eq.trans f40 (w32_id (by omega) (by omega)); subst ix2; clear f40)
  | (unfold w32 at f40; have ix2 : n20 = 6 * (hV H1 344 (n0).toNat) := (by omega); subst ix2)
  | skip
  first
  | (have ix3 : n22 = (6 * (hV H1 344 (n0).toNat)) + 5 := Eq.trans f42 (w32_iv (Iad (Iml 6 rfl (Iat f18 f17)) (IC 5)) (by decide)); subst ix3; clear f42)
  | (have ix3 : n22 = (6 * (hV H1 344 (n0).toNat)) + 5 := Eq.trans f42 (w32_id (by omega) (by omega)); subst ix3; clear f42)
  | (unfold w32 at f42; have ix3 : n22 = (6 * (hV H1 344 (n0).toNat)) + 5 := (by omega); subst ix3)
  | skip
  try unfold w32 at f31
  try unfold w32 at f33
  try unfold w32 at f40
  try unfold w32 at f42
  try unfold w32 at f46
  try subst k0
  omega
theorem c_274_55_5 {q0 : Nat} : vOkm T0 (eP e_274 L_274 A_274 mu_274 (some q0)) 2 ([(10, [24, 4], [], 1), (22, [23, 18, 22], [1], 0), (90, [23], [], -1), (91, [23], [], 9999), (1, [22, 20, 21], [], 0), (0, [21], [], 5), (3, [20, 19, 8], [], 0), (0, [19], [], 6), (20, [18, 2], [1], 31), (0, [18], [], 305), (22, [17, 12, 16], [1], 0), (90, [17], [], -1), (91, [17], [], 9999), (1, [16, 14, 15], [], 0), (0, [15], [], 2), (3, [14, 13, 8], [], 0), (0, [13], [], 6), (20, [12, 2], [1], 31), (0, [12], [], 305), (43, [4, 11], [], 0), (0, [11], [], 8), (30, [10], [], 0), (22, [10, 9, 8], [1], 0), (90, [10], [], 0), (91, [10], [], 5), (20, [9, 2], [1], 24), (0, [9], [], 298), (22, [8, 7, 5], [1], 0), (90, [8], [], 0), (91, [8], [], 1007), (20, [7, 2], [1], 83), (0, [7], [], 344), (42, [5, 6], [], 0), (20, [6, 2], [1], 82), (90, [6], [], 0), (91, [6], [], 40), (5000, [0, 1, 2, 3, 4, 5], [0, 1], 55), (0, [0], [], 285), (90, [1], [], 0), (91, [1], [], 7), (0, [2], [], 285), (90, [3], [], 0), (91, [3], [], 7), (90, [4], [], -2147483648), (91, [4], [], 2147483647), (90, [5], [], 0), (91, [5], [], 40)], (90, [23], [], 0)) := vOk_inI fun ρ η f0 f1 f2 f3 f4 f5 f6 f7 f8 f9 f10 f11 f12 f13 f14 f15 f16 f17 f18 f19 f20 f21 f22 f23 f24 f25 f26 f27 f28 f29 f30 f31 f32 f33 f34 f35 f36 f37 f38 f39 f40 f41 f42 f43 f44 f45 f46 => q_274_14 (q0 := q0) (n0 := ρ 5) (n1 := ρ 4) (n2 := ρ 3) (n3 := ρ 2) (n4 := ρ 1) (n5 := ρ 0) (n6 := ρ 6) (n7 := ρ 7) (n8 := ρ 8) (n9 := ρ 9) (n10 := ρ 10) (n11 := ρ 11) (n12 := ρ 12) (n13 := ρ 13) (n14 := ρ 14) (n15 := ρ 15) (n16 := ρ 16) (n17 := ρ 17) (n18 := ρ 18) (n19 := ρ 19) (n20 := ρ 20) (n21 := ρ 21) (n22 := ρ 22) (n23 := ρ 23) (n24 := ρ 24) (H0 := η 0) (H1 := η 1) f46 f45 f44 f43 f42 f41 f40 f39 f38 f37 f36 f35 f34 f33 f32 f31 f30 f29 f28 f27 f26 f25 f24 f23 f22 f21 f20 f19 f18 f17 f16 f15 f14 f13 f12 f11 f10 f9 f8 f7 f6 f5 f4 f3 f2 f1 f0
theorem q_274_15 {q0 : Nat} {n0 n1 n2 n3 n4 n5 n6 n7 n8 n9 n10 n11 n12 n13 n14 n15 n16 n17 n18 n19 n20 n21 n22 n23 n24 : Int} {H0 H1 : gH} (f0 : n0 ≤ 40) (f1 : 0 ≤ n0) (f2 : n1 ≤ 2147483647) (f3 : (-2147483648) ≤ n1) (f4 : n2 ≤ 7) (f5 : 0 ≤ n2) (f6 : n3 = 285) (f7 : n4 ≤ 7) (f8 : 0 ≤ n4) (f9 : n5 = 285) (f10 : (hLe T0 H0 H1 ∧ hFr s_274.2.2.2.2 H0 H1 ∧ hWt T0 H1) ∧ (Ab_274_55 n5 n4 n3 n2 n1 n0 H0 H1 ∧ preb_274 n5 n4 H0) ∧ some q0 = some (mub_274_55 n5 n4 n3 n2 n1 n0 H0 H1)) (f11 : n6 ≤ 40) (f12 : 0 ≤ n6) (f13 : n6 = hV H1 (n3).toNat 82) (f14 : n0 < n6) (f15 : n7 = 344) (f16 : n7 = hV H1 (n3).toNat 83) (f17 : n8 ≤ 1007) (f18 : 0 ≤ n8) (f19 : n8 = hV H1 (n7).toNat (n0).toNat) (f20 : n9 = 298) (f21 : n9 = hV H1 (n3).toNat 24) (f22 : n10 ≤ 5) (f23 : 0 ≤ n10) (f24 : n10 = hV H1 (n9).toNat (n8).toNat) (f25 : n10 = 0) (f26 : n11 = 8) (f27 : n11 ≤ n1) (f28 : n12 = 305) (f29 : n12 = hV H1 (n3).toNat 31) (f30 : n13 = 6) (f31 : n14 = w32 (n13 * n8)) (f32 : n15 = 2) (f33 : n16 = w32 (n14 + n15)) (f34 : n17 ≤ 9999) (f35 : (-1) ≤ n17) (f36 : n17 = hV H1 (n12).toNat (n16).toNat) (f37 : n18 = 305) (f38 : n18 = hV H1 (n3).toNat 31) (f39 : n19 = 6) (f40 : n20 = w32 (n19 * n8)) (f41 : n21 = 5) (f42 : n22 = w32 (n20 + n21)) (f43 : n23 ≤ 9999) (f44 : (-1) ≤ n23) (f45 : n23 = hV H1 (n18).toNat (n22).toNat) (f46 : n24 = w32 (n1 + 1)) : n23 ≤ 2 := by
  have g4 := f10.2.1.1
  unfold Ab_274_55 at g4
  have g3 := f10.2.1.2
  unfold preb_274 at g3
  have e0 : n6 = hV H1 285 82 := (by rw [f6] at f13; exact f13 : n6 = hV H1 285 82)
  have e1 : n8 = hV H1 344 (n0).toNat := (by rw [f15] at f19; exact f19 : n8 = hV H1 344 (n0).toNat)
  have e2 : hV H1 298 = hV H0 298 := fRow f10.1.2.1 298 kR_274_298
  have e3 : n10 = hV H0 298 (n8).toNat := (by rw [f20] at f24; exact f24 : n10 = hV H1 298 (n8).toNat).trans ((congrFun e2 _))
  have e4 : hV H1 305 = hV H0 305 := fRow f10.1.2.1 305 kR_274_305
  have e5 : n17 = hV H0 305 (n16).toNat := (by rw [f28] at f36; exact f36 : n17 = hV H1 305 (n16).toNat).trans ((congrFun e4 _))
  have e6 : n23 = hV H0 305 (n22).toNat := (by rw [f37] at f45; exact f45 : n23 = hV H1 305 (n22).toNat).trans ((congrFun e4 _))
  have e9 : hV H1 300 = hV H0 300 := fRow f10.1.2.1 300 kR_274_300
  have e10 : hV H1 301 = hV H0 301 := fRow f10.1.2.1 301 kR_274_301
  have e11 : hV H1 302 = hV H0 302 := fRow f10.1.2.1 302 kR_274_302
  have e12 : hV H1 303 = hV H0 303 := fRow f10.1.2.1 303 kR_274_303
  have e13 : (0 : Int) ≤ hV H0 285 18 ∧ hV H0 285 18 ≤ 8 := bTo ((f10.1.2.1.1 285 18 kF_274_285_18)) (f10.1.2.2 285 18 _ _ kW_285_18)
  have e14 : (0 : Int) ≤ hV H1 285 82 ∧ hV H1 285 82 ≤ 40 := f10.1.2.2 285 82 _ _ kW_285_82
  try simp only [XQ] at *
  try simp only [e2, e9, e10, e11, e12, e4] at g4
  have k0 := g4.1
  have y0 := g4.2
  have p0 := g3.1
  have p1 := g3.2.1
  have p2 := g3.2.2
  clear g3
  clear g4
  clear f13 f16 f19 f21 f24 f29 f36 f38 f45 e2 e4 e9 e10 e11 e12
  subst e0
  subst e1
  subst e3
  subst e5
  subst e6
  rw [f30] at f31
  rw [f39] at f40
  try have x5 := XQp_s y0 (s := (n0).toNat) (by omega) (by omega) (by omega)
  first
  | (have ix0 : n14 = 6 * (hV H1 344 (n0).toNat) := Eq.trans f31 (w32_iv (Iml 6 rfl (Iat f18 f17)) (by decide)); subst ix0; clear f31)
  | (have ix0 : n14 = 6 * (hV H1 344 (n0).toNat) := Eq.trans f31 (w32_id (by omega) (by omega)); subst ix0; clear f31)
  | (unfold w32 at f31; have ix0 : n14 = 6 * (hV H1 344 (n0).toNat) := (by omega); subst ix0)
  | skip
  first
  | (have ix1 : n16 = (6 * (hV H1 344 (n0).toNat)) + 2 := Eq.trans f33 (w32_iv (Iad (Iml 6 rfl (Iat f18 f17)) (IC 2)) (by decide)); subst ix1; clear f33)
  | (have ix1 : n16 = (6 * (hV H1 344 (n0).toNat)) + 2 := Eq.trans f33 (w32_id (by omega) (by omega)); subst ix1; clear f33)
  | (unfold w32 at f33; have ix1 : n16 = (6 * (hV H1 344 (n0).toNat)) + 2 := (by omega); subst ix1)
  | skip
  first
  | (have ix2 : n20 = 6 * (hV H1 344 (n0).toNat) := Eq.trans f40 (w32_iv (Iml 6 rfl (Iat f18 f17)) (by decide)); subst ix2; clear f40)
  | (have ix2 : n20 = 6 * (hV H1 344 (n0).toNat) := Eq.trans f40 (w32_id (by omega) (by omega)); subst ix2; clear f40)
  | (unfold w32 at f40; have ix2 : n20 = 6 * (hV H1 344 (n0).toNat) := (by omega); subst ix2)
  | skip
  first
  | (have ix3 : n22 = (6 * (hV H1 344 (n0).toNat)) + 5 := Eq.trans f42 (w32_iv (Iad (Iml 6 rfl (Iat f18 f17)) (IC 5)) (by decide)); subst ix3; clear f42)
  | (have ix3 : n22 = (6 * (hV H1 344 (n0).toNat)) + 5 := Eq.trans f42 (w32_id (by omega) (by omega)); subst ix3; clear f42)
  | (unfold w32 at f42; have ix3 : n22 = (6 * (hV H1 344 (n0).toNat)) + 5 := (by omega); subst ix3)
  | skip
  try unfold w32 at f31
  try unfold w32 at f33
  try unfold w32 at f40
  try unfold w32 at f42
  try unfold w32 at f46
  try subst k0
  omega
theorem c_274_55_6 {q0 : Nat} : vOkm T0 (eP e_274 L_274 A_274 mu_274 (some q0)) 2 ([(10, [24, 4], [], 1), (22, [23, 18, 22], [1], 0), (90, [23], [], -1), (91, [23], [], 9999), (1, [22, 20, 21], [], 0), (0, [21], [], 5), (3, [20, 19, 8], [], 0), (0, [19], [], 6), (20, [18, 2], [1], 31), (0, [18], [], 305), (22, [17, 12, 16], [1], 0), (90, [17], [], -1), (91, [17], [], 9999), (1, [16, 14, 15], [], 0), (0, [15], [], 2), (3, [14, 13, 8], [], 0), (0, [13], [], 6), (20, [12, 2], [1], 31), (0, [12], [], 305), (43, [4, 11], [], 0), (0, [11], [], 8), (30, [10], [], 0), (22, [10, 9, 8], [1], 0), (90, [10], [], 0), (91, [10], [], 5), (20, [9, 2], [1], 24), (0, [9], [], 298), (22, [8, 7, 5], [1], 0), (90, [8], [], 0), (91, [8], [], 1007), (20, [7, 2], [1], 83), (0, [7], [], 344), (42, [5, 6], [], 0), (20, [6, 2], [1], 82), (90, [6], [], 0), (91, [6], [], 40), (5000, [0, 1, 2, 3, 4, 5], [0, 1], 55), (0, [0], [], 285), (90, [1], [], 0), (91, [1], [], 7), (0, [2], [], 285), (90, [3], [], 0), (91, [3], [], 7), (90, [4], [], -2147483648), (91, [4], [], 2147483647), (90, [5], [], 0), (91, [5], [], 40)], (91, [23], [], 2)) := vOk_inI fun ρ η f0 f1 f2 f3 f4 f5 f6 f7 f8 f9 f10 f11 f12 f13 f14 f15 f16 f17 f18 f19 f20 f21 f22 f23 f24 f25 f26 f27 f28 f29 f30 f31 f32 f33 f34 f35 f36 f37 f38 f39 f40 f41 f42 f43 f44 f45 f46 => q_274_15 (q0 := q0) (n0 := ρ 5) (n1 := ρ 4) (n2 := ρ 3) (n3 := ρ 2) (n4 := ρ 1) (n5 := ρ 0) (n6 := ρ 6) (n7 := ρ 7) (n8 := ρ 8) (n9 := ρ 9) (n10 := ρ 10) (n11 := ρ 11) (n12 := ρ 12) (n13 := ρ 13) (n14 := ρ 14) (n15 := ρ 15) (n16 := ρ 16) (n17 := ρ 17) (n18 := ρ 18) (n19 := ρ 19) (n20 := ρ 20) (n21 := ρ 21) (n22 := ρ 22) (n23 := ρ 23) (n24 := ρ 24) (H0 := η 0) (H1 := η 1) f46 f45 f44 f43 f42 f41 f40 f39 f38 f37 f36 f35 f34 f33 f32 f31 f30 f29 f28 f27 f26 f25 f24 f23 f22 f21 f20 f19 f18 f17 f16 f15 f14 f13 f12 f11 f10 f9 f8 f7 f6 f5 f4 f3 f2 f1 f0
theorem q_274_16 {q0 : Nat} {n0 n1 n2 n3 n4 n5 n6 n7 n8 n9 n10 n11 n12 n13 n14 n15 n16 n17 n18 n19 n20 n21 n22 n23 n24 n25 : Int} {H0 H1 : gH} (f0 : n0 ≤ 40) (f1 : 0 ≤ n0) (f2 : n1 ≤ 2147483647) (f3 : (-2147483648) ≤ n1) (f4 : n2 ≤ 7) (f5 : 0 ≤ n2) (f6 : n3 = 285) (f7 : n4 ≤ 7) (f8 : 0 ≤ n4) (f9 : n5 = 285) (f10 : (hLe T0 H0 H1 ∧ hFr s_274.2.2.2.2 H0 H1 ∧ hWt T0 H1) ∧ (Ab_274_55 n5 n4 n3 n2 n1 n0 H0 H1 ∧ preb_274 n5 n4 H0) ∧ some q0 = some (mub_274_55 n5 n4 n3 n2 n1 n0 H0 H1)) (f11 : n6 ≤ 40) (f12 : 0 ≤ n6) (f13 : n6 = hV H1 (n3).toNat 82) (f14 : n0 < n6) (f15 : n7 = 344) (f16 : n7 = hV H1 (n3).toNat 83) (f17 : n8 ≤ 1007) (f18 : 0 ≤ n8) (f19 : n8 = hV H1 (n7).toNat (n0).toNat) (f20 : n9 = 298) (f21 : n9 = hV H1 (n3).toNat 24) (f22 : n10 ≤ 5) (f23 : 0 ≤ n10) (f24 : n10 = hV H1 (n9).toNat (n8).toNat) (f25 : n10 = 0) (f26 : n11 = 8) (f27 : n11 ≤ n1) (f28 : n12 = 305) (f29 : n12 = hV H1 (n3).toNat 31) (f30 : n13 = 6) (f31 : n14 = w32 (n13 * n8)) (f32 : n15 = 2) (f33 : n16 = w32 (n14 + n15)) (f34 : n17 ≤ 9999) (f35 : (-1) ≤ n17) (f36 : n17 = hV H1 (n12).toNat (n16).toNat) (f37 : n18 = 305) (f38 : n18 = hV H1 (n3).toNat 31) (f39 : n19 = 6) (f40 : n20 = w32 (n19 * n8)) (f41 : n21 = 5) (f42 : n22 = w32 (n20 + n21)) (f43 : n23 ≤ 9999) (f44 : (-1) ≤ n23) (f45 : n23 = hV H1 (n18).toNat (n22).toNat) (f46 : n24 = w32 (n1 + 1)) (f47 : n25 = 0) : Ab_274_153 n5 n4 n3 n2 n24 n0 n8 n17 n23 n25 H0 H1 ∧ ∀ q, some q0 = some q → mub_274_153 n5 n4 n3 n2 n24 n0 n8 n17 n23 n25 H0 H1 < q := by
  have g4 := f10.2.1.1
  unfold Ab_274_55 at g4
  have g3 := f10.2.1.2
  unfold preb_274 at g3
  have g5 := Option.some.inj f10.2.2
  unfold mub_274_55 at g5
  unfold Ab_274_153
  unfold mub_274_153
  have e0 : n6 = hV H1 285 82 := (by rw [f6] at f13; exact f13 : n6 = hV H1 285 82)
  have e1 : n8 = hV H1 344 (n0).toNat := (by rw [f15] at f19; exact f19 : n8 = hV H1 344 (n0).toNat)
  have e2 : hV H1 298 = hV H0 298 := fRow f10.1.2.1 298 kR_274_298
  have e3 : n10 = hV H0 298 (n8).toNat := (by rw [f20] at f24; exact f24 : n10 = hV H1 298 (n8).toNat).trans ((congrFun e2 _))
  have e4 : hV H1 305 = hV H0 305 := fRow f10.1.2.1 305 kR_274_305
  have e5 : n17 = hV H0 305 (n16).toNat := (by rw [f28] at f36; exact f36 : n17 = hV H1 305 (n16).toNat).trans ((congrFun e4 _))
  have e6 : n23 = hV H0 305 (n22).toNat := (by rw [f37] at f45; exact f45 : n23 = hV H1 305 (n22).toNat).trans ((congrFun e4 _))
  have e9 : hV H1 300 = hV H0 300 := fRow f10.1.2.1 300 kR_274_300
  have e10 : hV H1 301 = hV H0 301 := fRow f10.1.2.1 301 kR_274_301
  have e11 : hV H1 302 = hV H0 302 := fRow f10.1.2.1 302 kR_274_302
  have e12 : hV H1 303 = hV H0 303 := fRow f10.1.2.1 303 kR_274_303
  have e13 : (0 : Int) ≤ hV H0 285 18 ∧ hV H0 285 18 ≤ 8 := bTo ((f10.1.2.1.1 285 18 kF_274_285_18)) (f10.1.2.2 285 18 _ _ kW_285_18)
  have e14 : (0 : Int) ≤ hV H1 285 82 ∧ hV H1 285 82 ≤ 40 := f10.1.2.2 285 82 _ _ kW_285_82
  try simp only [XQ] at *
  try simp only [e2, e9, e10, e11, e12, e4] at g4
  try simp only [e2, e9, e10, e11, e12, e4]
  have k0 := g4.1
  have y0 := g4.2
  have p0 := g3.1
  have p1 := g3.2.1
  have p2 := g3.2.2
  clear g3
  clear g4
  clear f13 f16 f19 f21 f24 f29 f36 f38 f45 e2 e4 e9 e10 e11 e12
  subst e0
  subst e1
  subst e3
  subst e5
  subst e6
  rw [f30] at f31
  rw [f39] at f40
  try have x5 := XQp_s y0 (s := (n0).toNat) (by omega) (by omega) (by omega)
  first
  | (have ix0 : n14 = 6 * (hV H1 344 (n0).toNat) := Eq.trans f31 (w32_iv (Iml 6 rfl (Iat f18 f17)) (by decide)); subst ix0; clear f31)
  | (have ix0 : n14 = 6 * (hV H1 344 (n0).toNat) := Eq.trans f31 (w32_id (by omega) (by omega)); subst ix0; clear f31)
  | (unfold w32 at f31; have ix0 : n14 = 6 * (hV H1 344 (n0).toNat) := (by omega); subst ix0)
  | skip
  first
  | (have ix1 : n16 = (6 * (hV H1 344 (n0).toNat)) + 2 := Eq.trans f33 (w32_iv (Iad (Iml 6 rfl (Iat f18 f17)) (IC 2)) (by decide)); subst ix1; clear f33)
  | (have ix1 : n16 = (6 * (hV H1 344 (n0).toNat)) + 2 := Eq.trans f33 (w32_id (by omega) (by omega)); subst ix1; clear f33)
  | (unfold w32 at f33; have ix1 : n16 = (6 * (hV H1 344 (n0).toNat)) + 2 := (by omega); subst ix1)
  | skip
  first
  | (have ix2 : n20 = 6 * (hV H1 344 (n0).toNat) := Eq.trans f40 (w32_iv (Iml 6 rfl (Iat f18 f17)) (by decide)); subst ix2; clear f40)
  | (have ix2 : n20 = 6 * (hV H1 344 (n0).toNat) := Eq.trans f40 (w32_id (by omega) (by omega)); subst ix2; clear f40)
  | (unfold w32 at f40; have ix2 : n20 = 6 * (hV H1 344 (n0).toNat) := (by omega); subst ix2)
  | skip
  first
  | (have ix3 : n22 = (6 * (hV H1 344 (n0).toNat)) + 5 := Eq.trans f42 (w32_iv (Iad (Iml 6 rfl (Iat f18 f17)) (IC 5)) (by decide)); subst ix3; clear f42)
  | (have ix3 : n22 = (6 * (hV H1 344 (n0).toNat)) + 5 := Eq.trans f42 (w32_id (by omega) (by omega)); subst ix3; clear f42)
  | (unfold w32 at f42; have ix3 : n22 = (6 * (hV H1 344 (n0).toNat)) + 5 := (by omega); subst ix3)
  | skip
  first
  | (have ix4 : n24 = n1 + 1 := Eq.trans f46 (w32_id (by omega) (by omega)); subst ix4; clear f46)
  | (unfold w32 at f46; have ix4 : n24 = n1 + 1 := (by omega); subst ix4)
  | skip
  try unfold w32 at f31
  try unfold w32 at f33
  try unfold w32 at f40
  try unfold w32 at f42
  try unfold w32 at f46
  try subst k0
  refine ⟨?_, fun q hq => ?_⟩
  · refine ⟨?_, ?_, ?_, ?_, ?_⟩ <;> first | assumption | omega | trivial
  · have g6 := Option.some.inj hq
    subst g6
    omega
theorem c_274_55_7 {q0 : Nat} : vOkm T0 (eP e_274 L_274 A_274 mu_274 (some q0)) 2 ([(0, [25], [], 0), (10, [24, 4], [], 1), (22, [23, 18, 22], [1], 0), (90, [23], [], -1), (91, [23], [], 9999), (1, [22, 20, 21], [], 0), (0, [21], [], 5), (3, [20, 19, 8], [], 0), (0, [19], [], 6), (20, [18, 2], [1], 31), (0, [18], [], 305), (22, [17, 12, 16], [1], 0), (90, [17], [], -1), (91, [17], [], 9999), (1, [16, 14, 15], [], 0), (0, [15], [], 2), (3, [14, 13, 8], [], 0), (0, [13], [], 6), (20, [12, 2], [1], 31), (0, [12], [], 305), (43, [4, 11], [], 0), (0, [11], [], 8), (30, [10], [], 0), (22, [10, 9, 8], [1], 0), (90, [10], [], 0), (91, [10], [], 5), (20, [9, 2], [1], 24), (0, [9], [], 298), (22, [8, 7, 5], [1], 0), (90, [8], [], 0), (91, [8], [], 1007), (20, [7, 2], [1], 83), (0, [7], [], 344), (42, [5, 6], [], 0), (20, [6, 2], [1], 82), (90, [6], [], 0), (91, [6], [], 40), (5000, [0, 1, 2, 3, 4, 5], [0, 1], 55), (0, [0], [], 285), (90, [1], [], 0), (91, [1], [], 7), (0, [2], [], 285), (90, [3], [], 0), (91, [3], [], 7), (90, [4], [], -2147483648), (91, [4], [], 2147483647), (90, [5], [], 0), (91, [5], [], 40)], (4000, [2, 3, 24, 5, 8, 17, 23, 25], [1], 153)) := vOk_inI fun ρ η f0 f1 f2 f3 f4 f5 f6 f7 f8 f9 f10 f11 f12 f13 f14 f15 f16 f17 f18 f19 f20 f21 f22 f23 f24 f25 f26 f27 f28 f29 f30 f31 f32 f33 f34 f35 f36 f37 f38 f39 f40 f41 f42 f43 f44 f45 f46 f47 => q_274_16 (q0 := q0) (n0 := ρ 5) (n1 := ρ 4) (n2 := ρ 3) (n3 := ρ 2) (n4 := ρ 1) (n5 := ρ 0) (n6 := ρ 6) (n7 := ρ 7) (n8 := ρ 8) (n9 := ρ 9) (n10 := ρ 10) (n11 := ρ 11) (n12 := ρ 12) (n13 := ρ 13) (n14 := ρ 14) (n15 := ρ 15) (n16 := ρ 16) (n17 := ρ 17) (n18 := ρ 18) (n19 := ρ 19) (n20 := ρ 20) (n21 := ρ 21) (n22 := ρ 22) (n23 := ρ 23) (n24 := ρ 24) (n25 := ρ 25) (H0 := η 0) (H1 := η 1) f47 f46 f45 f44 f43 f42 f41 f40 f39 f38 f37 f36 f35 f34 f33 f32 f31 f30 f29 f28 f27 f26 f25 f24 f23 f22 f21 f20 f19 f18 f17 f16 f15 f14 f13 f12 f11 f10 f9 f8 f7 f6 f5 f4 f3 f2 f1 f0
theorem q_274_17 {q0 : Nat} {n0 n1 n2 n3 n4 n5 n6 n7 n8 n9 n10 n11 n12 n13 n14 n15 : Int} {H0 H1 : gH} (f0 : n0 ≤ 40) (f1 : 0 ≤ n0) (f2 : n1 ≤ 2147483647) (f3 : (-2147483648) ≤ n1) (f4 : n2 ≤ 7) (f5 : 0 ≤ n2) (f6 : n3 = 285) (f7 : n4 ≤ 7) (f8 : 0 ≤ n4) (f9 : n5 = 285) (f10 : (hLe T0 H0 H1 ∧ hFr s_274.2.2.2.2 H0 H1 ∧ hWt T0 H1) ∧ (Ab_274_55 n5 n4 n3 n2 n1 n0 H0 H1 ∧ preb_274 n5 n4 H0) ∧ some q0 = some (mub_274_55 n5 n4 n3 n2 n1 n0 H0 H1)) (f11 : n6 ≤ 40) (f12 : 0 ≤ n6) (f13 : n6 = hV H1 (n3).toNat 82) (f14 : n0 < n6) (f15 : n7 = 344) (f16 : n7 = hV H1 (n3).toNat 83) (f17 : n8 ≤ 1007) (f18 : 0 ≤ n8) (f19 : n8 = hV H1 (n7).toNat (n0).toNat) (f20 : n9 = 298) (f21 : n9 = hV H1 (n3).toNat 24) (f22 : n10 ≤ 5) (f23 : 0 ≤ n10) (f24 : n10 = hV H1 (n9).toNat (n8).toNat) (f25 : n10 = 0) (f26 : n11 = 8) (f27 : n1 < n11) (f28 : n12 = 6) (f29 : n13 = w32 (n12 * n8)) (f30 : n14 = 2) (f31 : n15 = w32 (n13 + n14)) : 0 ≤ n15 ∧ n15 < 6048 := by
  have g4 := f10.2.1.1
  unfold Ab_274_55 at g4
  have g3 := f10.2.1.2
  unfold preb_274 at g3
  have e0 : n6 = hV H1 285 82 := (by rw [f6] at f13; exact f13 : n6 = hV H1 285 82)
  have e1 : n8 = hV H1 344 (n0).toNat := (by rw [f15] at f19; exact f19 : n8 = hV H1 344 (n0).toNat)
  have e2 : hV H1 298 = hV H0 298 := fRow f10.1.2.1 298 kR_274_298
  have e3 : n10 = hV H0 298 (n8).toNat := (by rw [f20] at f24; exact f24 : n10 = hV H1 298 (n8).toNat).trans ((congrFun e2 _))
  have e6 : hV H1 300 = hV H0 300 := fRow f10.1.2.1 300 kR_274_300
  have e7 : hV H1 301 = hV H0 301 := fRow f10.1.2.1 301 kR_274_301
  have e8 : hV H1 302 = hV H0 302 := fRow f10.1.2.1 302 kR_274_302
  have e9 : hV H1 303 = hV H0 303 := fRow f10.1.2.1 303 kR_274_303
  have e10 : hV H1 305 = hV H0 305 := fRow f10.1.2.1 305 kR_274_305
  have e11 : (0 : Int) ≤ hV H0 285 18 ∧ hV H0 285 18 ≤ 8 := bTo ((f10.1.2.1.1 285 18 kF_274_285_18)) (f10.1.2.2 285 18 _ _ kW_285_18)
  have e12 : (0 : Int) ≤ hV H1 285 82 ∧ hV H1 285 82 ≤ 40 := f10.1.2.2 285 82 _ _ kW_285_82
  try simp only [XQ] at *
  try simp only [e2, e6, e7, e8, e9, e10] at g4
  have k0 := g4.1
  have y0 := g4.2
  have p0 := g3.1
  have p1 := g3.2.1
  have p2 := g3.2.2
  clear g3
  clear g4
  clear f13 f16 f19 f21 f24 e2 e6 e7 e8 e9 e10
  subst e0
  subst e1
  subst e3
  rw [f28] at f29
  try have x5 := XQp_s y0 (s := (n0).toNat) (by omega) (by omega) (by omega)
  first
  | (have ix0 : n13 = 6 * (hV H1 344 (n0).toNat) := Eq.trans f29 (w32_iv (Iml 6 rfl (Iat f18 f17)) (by decide)); subst ix0; clear f29)
  | (have ix0 : n13 = 6 * (hV H1 344 (n0).toNat) := Eq.trans f29 (w32_id (by omega) (by omega)); subst ix0; clear f29)
  | (unfold w32 at f29; have ix0 : n13 = 6 * (hV H1 344 (n0).toNat) := (by omega); subst ix0)
  | skip
  first
  | (have ix1 : n15 = (6 * (hV H1 344 (n0).toNat)) + 2 := Eq.trans f31 (w32_iv (Iad (Iml 6 rfl (Iat f18 f17)) (IC 2)) (by decide)); subst ix1; clear f31)
  | (have ix1 : n15 = (6 * (hV H1 344 (n0).toNat)) + 2 := Eq.trans f31 (w32_id (by omega) (by omega)); subst ix1; clear f31)
  | (unfold w32 at f31; have ix1 : n15 = (6 * (hV H1 344 (n0).toNat)) + 2 := (by omega); subst ix1)
  | skip
  try unfold w32 at f29
  try unfold w32 at f31
  try subst k0
  omega
theorem c_274_55_8 {q0 : Nat} : vOkm T0 (eP e_274 L_274 A_274 mu_274 (some q0)) 2 ([(1, [21, 19, 20], [], 0), (0, [20], [], 2), (3, [19, 18, 8], [], 0), (0, [18], [], 6), (42, [4, 11], [], 0), (0, [11], [], 8), (30, [10], [], 0), (22, [10, 9, 8], [1], 0), (90, [10], [], 0), (91, [10], [], 5), (20, [9, 2], [1], 24), (0, [9], [], 298), (22, [8, 7, 5], [1], 0), (90, [8], [], 0), (91, [8], [], 1007), (20, [7, 2], [1], 83), (0, [7], [], 344), (42, [5, 6], [], 0), (20, [6, 2], [1], 82), (90, [6], [], 0), (91, [6], [], 40), (5000, [0, 1, 2, 3, 4, 5], [0, 1], 55), (0, [0], [], 285), (90, [1], [], 0), (91, [1], [], 7), (0, [2], [], 285), (90, [3], [], 0), (91, [3], [], 7), (90, [4], [], -2147483648), (91, [4], [], 2147483647), (90, [5], [], 0), (91, [5], [], 40)], (70, [21], [], 6048)) := vOk_inI fun ρ η f0 f1 f2 f3 f4 f5 f6 f7 f8 f9 f10 f11 f12 f13 f14 f15 f16 f17 f18 f19 f20 f21 f22 f23 f24 f25 f26 f27 f28 f29 f30 f31 => q_274_17 (q0 := q0) (n0 := ρ 5) (n1 := ρ 4) (n2 := ρ 3) (n3 := ρ 2) (n4 := ρ 1) (n5 := ρ 0) (n6 := ρ 6) (n7 := ρ 7) (n8 := ρ 8) (n9 := ρ 9) (n10 := ρ 10) (n11 := ρ 11) (n12 := ρ 18) (n13 := ρ 19) (n14 := ρ 20) (n15 := ρ 21) (H0 := η 0) (H1 := η 1) f31 f30 f29 f28 f27 f26 f25 f24 f23 f22 f21 f20 f19 f18 f17 f16 f15 f14 f13 f12 f11 f10 f9 f8 f7 f6 f5 f4 f3 f2 f1 f0
theorem q_274_18 {q0 : Nat} {n0 n1 n2 n3 n4 n5 n6 n7 n8 n9 n10 n11 n12 n13 n14 n15 n16 n17 n18 n19 n20 n21 n22 : Int} {H0 H1 : gH} (f0 : n0 ≤ 40) (f1 : 0 ≤ n0) (f2 : n1 ≤ 2147483647) (f3 : (-2147483648) ≤ n1) (f4 : n2 ≤ 7) (f5 : 0 ≤ n2) (f6 : n3 = 285) (f7 : n4 ≤ 7) (f8 : 0 ≤ n4) (f9 : n5 = 285) (f10 : (hLe T0 H0 H1 ∧ hFr s_274.2.2.2.2 H0 H1 ∧ hWt T0 H1) ∧ (Ab_274_55 n5 n4 n3 n2 n1 n0 H0 H1 ∧ preb_274 n5 n4 H0) ∧ some q0 = some (mub_274_55 n5 n4 n3 n2 n1 n0 H0 H1)) (f11 : n6 ≤ 40) (f12 : 0 ≤ n6) (f13 : n6 = hV H1 (n3).toNat 82) (f14 : n0 < n6) (f15 : n7 = 344) (f16 : n7 = hV H1 (n3).toNat 83) (f17 : n8 ≤ 1007) (f18 : 0 ≤ n8) (f19 : n8 = hV H1 (n7).toNat (n0).toNat) (f20 : n9 = 298) (f21 : n9 = hV H1 (n3).toNat 24) (f22 : n10 ≤ 5) (f23 : 0 ≤ n10) (f24 : n10 = hV H1 (n9).toNat (n8).toNat) (f25 : n10 = 0) (f26 : n11 = 8) (f27 : n1 < n11) (f28 : n12 = 305) (f29 : n12 = hV H1 (n3).toNat 31) (f30 : n13 = 6) (f31 : n14 = w32 (n13 * n8)) (f32 : n15 = 2) (f33 : n16 = w32 (n14 + n15)) (f34 : n17 ≤ 9999) (f35 : (-1) ≤ n17) (f36 : n17 = hV H1 (n12).toNat (n16).toNat) (f37 : n18 = 305) (f38 : n18 = hV H1 (n3).toNat 31) (f39 : n19 = 6) (f40 : n20 = w32 (n19 * n8)) (f41 : n21 = 5) (f42 : n22 = w32 (n20 + n21)) : 0 ≤ n22 ∧ n22 < 6048 := by
  have g4 := f10.2.1.1
  unfold Ab_274_55 at g4
  have g3 := f10.2.1.2
  unfold preb_274 at g3
  have e0 : n6 = hV H1 285 82 := (by rw [f6] at f13; exact f13 : n6 = hV H1 285 82)
  have e1 : n8 = hV H1 344 (n0).toNat := (by rw [f15] at f19; exact f19 : n8 = hV H1 344 (n0).toNat)
  have e2 : hV H1 298 = hV H0 298 := fRow f10.1.2.1 298 kR_274_298
  have e3 : n10 = hV H0 298 (n8).toNat := (by rw [f20] at f24; exact f24 : n10 = hV H1 298 (n8).toNat).trans ((congrFun e2 _))
  have e4 : hV H1 305 = hV H0 305 := fRow f10.1.2.1 305 kR_274_305
  have e5 : n17 = hV H0 305 (n16).toNat := (by rw [f28] at f36; exact f36 : n17 = hV H1 305 (n16).toNat).trans ((congrFun e4 _))
  have e8 : hV H1 300 = hV H0 300 := fRow f10.1.2.1 300 kR_274_300
  have e9 : hV H1 301 = hV H0 301 := fRow f10.1.2.1 301 kR_274_301
  have e10 : hV H1 302 = hV H0 302 := fRow f10.1.2.1 302 kR_274_302
  have e11 : hV H1 303 = hV H0 303 := fRow f10.1.2.1 303 kR_274_303
  have e12 : (0 : Int) ≤ hV H0 285 18 ∧ hV H0 285 18 ≤ 8 := bTo ((f10.1.2.1.1 285 18 kF_274_285_18)) (f10.1.2.2 285 18 _ _ kW_285_18)
  have e13 : (0 : Int) ≤ hV H1 285 82 ∧ hV H1 285 82 ≤ 40 := f10.1.2.2 285 82 _ _ kW_285_82
  try simp only [XQ] at *
  try simp only [e2, e8, e9, e10, e11, e4] at g4
  have k0 := g4.1
  have y0 := g4.2
  have p0 := g3.1
  have p1 := g3.2.1
  have p2 := g3.2.2
  clear g3
  clear g4
  clear f13 f16 f19 f21 f24 f29 f36 f38 e2 e4 e8 e9 e10 e11
  subst e0
  subst e1
  subst e3
  subst e5
  rw [f30] at f31
  rw [f39] at f40
  try have x5 := XQp_s y0 (s := (n0).toNat) (by omega) (by omega) (by omega)
  first
  | (have ix0 : n14 = 6 * (hV H1 344 (n0).toNat) := Eq.trans f31 (w32_iv (Iml 6 rfl (Iat f18 f17)) (by decide)); subst ix0; clear f31)
  | (have ix0 : n14 = 6 * (hV H1 344 (n0).toNat) := Eq.trans f31 (w32_id (by omega) (by omega)); subst ix0; clear f31)
  | (unfold w32 at f31; have ix0 : n14 = 6 * (hV H1 344 (n0).toNat) := (by omega); subst ix0)
  | skip
  first
  | (have ix1 : n16 = (6 * (hV H1 344 (n0).toNat)) + 2 := Eq.trans f33 (w32_iv (Iad (Iml 6 rfl (Iat f18 f17)) (IC 2)) (by decide)); subst ix1; clear f33)
  | (have ix1 : n16 = (6 * (hV H1 344 (n0).toNat)) + 2 := Eq.trans f33 (w32_id (by omega) (by omega)); subst ix1; clear f33)
  | (unfold w32 at f33; have ix1 : n16 = (6 * (hV H1 344 (n0).toNat)) + 2 := (by omega); subst ix1)
  | skip
  first
  | (have ix2 : n20 = 6 * (hV H1 344 (n0).toNat) := Eq.trans f40 (w32_iv (Iml 6 rfl (Iat f18 f17)) (by decide)); subst ix2; clear f40)
  | (have ix2 : n20 = 6 * (hV H1 344 (n0).toNat) := Eq.trans f40 (w32_id (by omega) (by omega)); subst ix2; clear f40)
  | (unfold w32 at f40; have ix2 : n20 = 6 * (hV H1 344 (n0).toNat) := (by omega); subst ix2)
  | skip
  first
  | (have ix3 : n22 = (6 * (hV H1 344 (n0).toNat)) + 5 := Eq.trans f42 (w32_iv (Iad (Iml 6 rfl (Iat f18 f17)) (IC 5)) (by decide)); subst ix3; clear f42)
  | (have ix3 : n22 = (6 * (hV H1 344 (n0).toNat)) + 5 := Eq.trans f42 (w32_id (by omega) (by omega)); subst ix3; clear f42)
  | (unfold w32 at f42; have ix3 : n22 = (6 * (hV H1 344 (n0).toNat)) + 5 := (by omega); subst ix3)
  | skip
  try unfold w32 at f31
  try unfold w32 at f33
  try unfold w32 at f40
  try unfold w32 at f42
  try subst k0
  omega
theorem c_274_55_9 {q0 : Nat} : vOkm T0 (eP e_274 L_274 A_274 mu_274 (some q0)) 2 ([(1, [27, 25, 26], [], 0), (0, [26], [], 5), (3, [25, 24, 8], [], 0), (0, [24], [], 6), (20, [23, 2], [1], 31), (0, [23], [], 305), (22, [22, 17, 21], [1], 0), (90, [22], [], -1), (91, [22], [], 9999), (1, [21, 19, 20], [], 0), (0, [20], [], 2), (3, [19, 18, 8], [], 0), (0, [18], [], 6), (20, [17, 2], [1], 31), (0, [17], [], 305), (42, [4, 11], [], 0), (0, [11], [], 8), (30, [10], [], 0), (22, [10, 9, 8], [1], 0), (90, [10], [], 0), (91, [10], [], 5), (20, [9, 2], [1], 24), (0, [9], [], 298), (22, [8, 7, 5], [1], 0), (90, [8], [], 0), (91, [8], [], 1007), (20, [7, 2], [1], 83), (0, [7], [], 344), (42, [5, 6], [], 0), (20, [6, 2], [1], 82), (90, [6], [], 0), (91, [6], [], 40), (5000, [0, 1, 2, 3, 4, 5], [0, 1], 55), (0, [0], [], 285), (90, [1], [], 0), (91, [1], [], 7), (0, [2], [], 285), (90, [3], [], 0), (91, [3], [], 7), (90, [4], [], -2147483648), (91, [4], [], 2147483647), (90, [5], [], 0), (91, [5], [], 40)], (70, [27], [], 6048)) := vOk_inI fun ρ η f0 f1 f2 f3 f4 f5 f6 f7 f8 f9 f10 f11 f12 f13 f14 f15 f16 f17 f18 f19 f20 f21 f22 f23 f24 f25 f26 f27 f28 f29 f30 f31 f32 f33 f34 f35 f36 f37 f38 f39 f40 f41 f42 => q_274_18 (q0 := q0) (n0 := ρ 5) (n1 := ρ 4) (n2 := ρ 3) (n3 := ρ 2) (n4 := ρ 1) (n5 := ρ 0) (n6 := ρ 6) (n7 := ρ 7) (n8 := ρ 8) (n9 := ρ 9) (n10 := ρ 10) (n11 := ρ 11) (n12 := ρ 17) (n13 := ρ 18) (n14 := ρ 19) (n15 := ρ 20) (n16 := ρ 21) (n17 := ρ 22) (n18 := ρ 23) (n19 := ρ 24) (n20 := ρ 25) (n21 := ρ 26) (n22 := ρ 27) (H0 := η 0) (H1 := η 1) f42 f41 f40 f39 f38 f37 f36 f35 f34 f33 f32 f31 f30 f29 f28 f27 f26 f25 f24 f23 f22 f21 f20 f19 f18 f17 f16 f15 f14 f13 f12 f11 f10 f9 f8 f7 f6 f5 f4 f3 f2 f1 f0
theorem q_274_19 {q0 : Nat} {n0 n1 n2 n3 n4 n5 n6 n7 n8 n9 n10 n11 n12 n13 n14 n15 n16 n17 n18 n19 n20 n21 n22 n23 n24 : Int} {H0 H1 : gH} (f0 : n0 ≤ 40) (f1 : 0 ≤ n0) (f2 : n1 ≤ 2147483647) (f3 : (-2147483648) ≤ n1) (f4 : n2 ≤ 7) (f5 : 0 ≤ n2) (f6 : n3 = 285) (f7 : n4 ≤ 7) (f8 : 0 ≤ n4) (f9 : n5 = 285) (f10 : (hLe T0 H0 H1 ∧ hFr s_274.2.2.2.2 H0 H1 ∧ hWt T0 H1) ∧ (Ab_274_55 n5 n4 n3 n2 n1 n0 H0 H1 ∧ preb_274 n5 n4 H0) ∧ some q0 = some (mub_274_55 n5 n4 n3 n2 n1 n0 H0 H1)) (f11 : n6 ≤ 40) (f12 : 0 ≤ n6) (f13 : n6 = hV H1 (n3).toNat 82) (f14 : n0 < n6) (f15 : n7 = 344) (f16 : n7 = hV H1 (n3).toNat 83) (f17 : n8 ≤ 1007) (f18 : 0 ≤ n8) (f19 : n8 = hV H1 (n7).toNat (n0).toNat) (f20 : n9 = 298) (f21 : n9 = hV H1 (n3).toNat 24) (f22 : n10 ≤ 5) (f23 : 0 ≤ n10) (f24 : n10 = hV H1 (n9).toNat (n8).toNat) (f25 : n10 = 0) (f26 : n11 = 8) (f27 : n1 < n11) (f28 : n12 = 305) (f29 : n12 = hV H1 (n3).toNat 31) (f30 : n13 = 6) (f31 : n14 = w32 (n13 * n8)) (f32 : n15 = 2) (f33 : n16 = w32 (n14 + n15)) (f34 : n17 ≤ 9999) (f35 : (-1) ≤ n17) (f36 : n17 = hV H1 (n12).toNat (n16).toNat) (f37 : n18 = 305) (f38 : n18 = hV H1 (n3).toNat 31) (f39 : n19 = 6) (f40 : n20 = w32 (n19 * n8)) (f41 : n21 = 5) (f42 : n22 = w32 (n20 + n21)) (f43 : n23 ≤ 9999) (f44 : (-1) ≤ n23) (f45 : n23 = hV H1 (n18).toNat (n22).toNat) (f46 : n24 = w32 (n1 + 1)) : n0 ≤ 39 := by
  have g4 := f10.2.1.1
  unfold Ab_274_55 at g4
  have g3 := f10.2.1.2
  unfold preb_274 at g3
  have e0 : n6 = hV H1 285 82 := (by rw [f6] at f13; exact f13 : n6 = hV H1 285 82)
  have e1 : n8 = hV H1 344 (n0).toNat := (by rw [f15] at f19; exact f19 : n8 = hV H1 344 (n0).toNat)
  have e2 : hV H1 298 = hV H0 298 := fRow f10.1.2.1 298 kR_274_298
  have e3 : n10 = hV H0 298 (n8).toNat := (by rw [f20] at f24; exact f24 : n10 = hV H1 298 (n8).toNat).trans ((congrFun e2 _))
  have e4 : hV H1 305 = hV H0 305 := fRow f10.1.2.1 305 kR_274_305
  have e5 : n17 = hV H0 305 (n16).toNat := (by rw [f28] at f36; exact f36 : n17 = hV H1 305 (n16).toNat).trans ((congrFun e4 _))
  have e6 : n23 = hV H0 305 (n22).toNat := (by rw [f37] at f45; exact f45 : n23 = hV H1 305 (n22).toNat).trans ((congrFun e4 _))
  have e9 : hV H1 300 = hV H0 300 := fRow f10.1.2.1 300 kR_274_300
  have e10 : hV H1 301 = hV H0 301 := fRow f10.1.2.1 301 kR_274_301
  have e11 : hV H1 302 = hV H0 302 := fRow f10.1.2.1 302 kR_274_302
  have e12 : hV H1 303 = hV H0 303 := fRow f10.1.2.1 303 kR_274_303
  have e13 : (0 : Int) ≤ hV H0 285 18 ∧ hV H0 285 18 ≤ 8 := bTo ((f10.1.2.1.1 285 18 kF_274_285_18)) (f10.1.2.2 285 18 _ _ kW_285_18)
  have e14 : (0 : Int) ≤ hV H1 285 82 ∧ hV H1 285 82 ≤ 40 := f10.1.2.2 285 82 _ _ kW_285_82
  try simp only [XQ] at *
  try simp only [e2, e9, e10, e11, e12, e4] at g4
  have k0 := g4.1
  have y0 := g4.2
  have p0 := g3.1
  have p1 := g3.2.1
  have p2 := g3.2.2
  clear g3
  clear g4
  clear f13 f16 f19 f21 f24 f29 f36 f38 f45 e2 e4 e9 e10 e11 e12
  subst e0
  subst e1
  subst e3
  subst e5
  subst e6
  rw [f30] at f31
  rw [f39] at f40
  try have x5 := XQp_s y0 (s := (n0).toNat) (by omega) (by omega) (by omega)
  first
  | (have ix0 : n14 = 6 * (hV H1 344 (n0).toNat) := Eq.trans f31 (w32_iv (Iml 6 rfl (Iat f18 f17)) (by decide)); subst ix0; clear f31)
  | (have ix0 : n14 = 6 * (hV H1 344 (n0).toNat) := Eq.trans f31 (w32_id (by omega) (by omega)); subst ix0; clear f31)
  | (unfold w32 at f31; have ix0 : n14 = 6 * (hV H1 344 (n0).toNat) := (by omega); subst ix0)
  | skip
  first
  | (have ix1 : n16 = (6 * (hV H1 344 (n0).toNat)) + 2 := Eq.trans f33 (w32_iv (Iad (Iml 6 rfl (Iat f18 f17)) (IC 2)) (by decide)); subst ix1; clear f33)
  | (have ix1 : n16 = (6 * (hV H1 344 (n0).toNat)) + 2 := Eq.trans f33 (w32_id (by omega) (by omega)); subst ix1; clear f33)
  | (unfold w32 at f33; have ix1 : n16 = (6 * (hV H1 344 (n0).toNat)) + 2 := (by omega); subst ix1)
  | skip
  first
  | (have ix2 : n20 = 6 * (hV H1 344 (n0).toNat) := Eq.trans f40 (w32_iv (Iml 6 rfl (Iat f18 f17)) (by decide)); subst ix2; clear f40)
  | (have ix2 : n20 = 6 * (hV H1 344 (n0).toNat) := Eq.trans f40 (w32_id (by omega) (by omega)); subst ix2; clear f40)
  | (unfold w32 at f40; have ix2 : n20 = 6 * (hV H1 344 (n0).toNat) := (by omega); subst ix2)
  | skip
  first
  | (have ix3 : n22 = (6 * (hV H1 344 (n0).toNat)) + 5 := Eq.trans f42 (w32_iv (Iad (Iml 6 rfl (Iat f18 f17)) (IC 5)) (by decide)); subst ix3; clear f42)
  | (have ix3 : n22 = (6 * (hV H1 344 (n0).toNat)) + 5 := Eq.trans f42 (w32_id (by omega) (by omega)); subst ix3; clear f42)
  | (unfold w32 at f42; have ix3 : n22 = (6 * (hV H1 344 (n0).toNat)) + 5 := (by omega); subst ix3)
  | skip
  try unfold w32 at f31
  try unfold w32 at f33
  try unfold w32 at f40
  try unfold w32 at f42
  try unfold w32 at f46
  try subst k0
  omega
theorem c_274_55_10 {q0 : Nat} : vOkm T0 (eP e_274 L_274 A_274 mu_274 (some q0)) 2 ([(10, [29, 4], [], 1), (22, [28, 23, 27], [1], 0), (90, [28], [], -1), (91, [28], [], 9999), (1, [27, 25, 26], [], 0), (0, [26], [], 5), (3, [25, 24, 8], [], 0), (0, [24], [], 6), (20, [23, 2], [1], 31), (0, [23], [], 305), (22, [22, 17, 21], [1], 0), (90, [22], [], -1), (91, [22], [], 9999), (1, [21, 19, 20], [], 0), (0, [20], [], 2), (3, [19, 18, 8], [], 0), (0, [18], [], 6), (20, [17, 2], [1], 31), (0, [17], [], 305), (42, [4, 11], [], 0), (0, [11], [], 8), (30, [10], [], 0), (22, [10, 9, 8], [1], 0), (90, [10], [], 0), (91, [10], [], 5), (20, [9, 2], [1], 24), (0, [9], [], 298), (22, [8, 7, 5], [1], 0), (90, [8], [], 0), (91, [8], [], 1007), (20, [7, 2], [1], 83), (0, [7], [], 344), (42, [5, 6], [], 0), (20, [6, 2], [1], 82), (90, [6], [], 0), (91, [6], [], 40), (5000, [0, 1, 2, 3, 4, 5], [0, 1], 55), (0, [0], [], 285), (90, [1], [], 0), (91, [1], [], 7), (0, [2], [], 285), (90, [3], [], 0), (91, [3], [], 7), (90, [4], [], -2147483648), (91, [4], [], 2147483647), (90, [5], [], 0), (91, [5], [], 40)], (91, [5], [], 39)) := vOk_inI fun ρ η f0 f1 f2 f3 f4 f5 f6 f7 f8 f9 f10 f11 f12 f13 f14 f15 f16 f17 f18 f19 f20 f21 f22 f23 f24 f25 f26 f27 f28 f29 f30 f31 f32 f33 f34 f35 f36 f37 f38 f39 f40 f41 f42 f43 f44 f45 f46 => q_274_19 (q0 := q0) (n0 := ρ 5) (n1 := ρ 4) (n2 := ρ 3) (n3 := ρ 2) (n4 := ρ 1) (n5 := ρ 0) (n6 := ρ 6) (n7 := ρ 7) (n8 := ρ 8) (n9 := ρ 9) (n10 := ρ 10) (n11 := ρ 11) (n12 := ρ 17) (n13 := ρ 18) (n14 := ρ 19) (n15 := ρ 20) (n16 := ρ 21) (n17 := ρ 22) (n18 := ρ 23) (n19 := ρ 24) (n20 := ρ 25) (n21 := ρ 26) (n22 := ρ 27) (n23 := ρ 28) (n24 := ρ 29) (H0 := η 0) (H1 := η 1) f46 f45 f44 f43 f42 f41 f40 f39 f38 f37 f36 f35 f34 f33 f32 f31 f30 f29 f28 f27 f26 f25 f24 f23 f22 f21 f20 f19 f18 f17 f16 f15 f14 f13 f12 f11 f10 f9 f8 f7 f6 f5 f4 f3 f2 f1 f0
theorem q_274_20 {q0 : Nat} {n0 n1 n2 n3 n4 n5 n6 n7 n8 n9 n10 n11 n12 n13 n14 n15 n16 n17 n18 n19 n20 n21 n22 n23 n24 : Int} {H0 H1 : gH} (f0 : n0 ≤ 40) (f1 : 0 ≤ n0) (f2 : n1 ≤ 2147483647) (f3 : (-2147483648) ≤ n1) (f4 : n2 ≤ 7) (f5 : 0 ≤ n2) (f6 : n3 = 285) (f7 : n4 ≤ 7) (f8 : 0 ≤ n4) (f9 : n5 = 285) (f10 : (hLe T0 H0 H1 ∧ hFr s_274.2.2.2.2 H0 H1 ∧ hWt T0 H1) ∧ (Ab_274_55 n5 n4 n3 n2 n1 n0 H0 H1 ∧ preb_274 n5 n4 H0) ∧ some q0 = some (mub_274_55 n5 n4 n3 n2 n1 n0 H0 H1)) (f11 : n6 ≤ 40) (f12 : 0 ≤ n6) (f13 : n6 = hV H1 (n3).toNat 82) (f14 : n0 < n6) (f15 : n7 = 344) (f16 : n7 = hV H1 (n3).toNat 83) (f17 : n8 ≤ 1007) (f18 : 0 ≤ n8) (f19 : n8 = hV H1 (n7).toNat (n0).toNat) (f20 : n9 = 298) (f21 : n9 = hV H1 (n3).toNat 24) (f22 : n10 ≤ 5) (f23 : 0 ≤ n10) (f24 : n10 = hV H1 (n9).toNat (n8).toNat) (f25 : n10 = 0) (f26 : n11 = 8) (f27 : n1 < n11) (f28 : n12 = 305) (f29 : n12 = hV H1 (n3).toNat 31) (f30 : n13 = 6) (f31 : n14 = w32 (n13 * n8)) (f32 : n15 = 2) (f33 : n16 = w32 (n14 + n15)) (f34 : n17 ≤ 9999) (f35 : (-1) ≤ n17) (f36 : n17 = hV H1 (n12).toNat (n16).toNat) (f37 : n18 = 305) (f38 : n18 = hV H1 (n3).toNat 31) (f39 : n19 = 6) (f40 : n20 = w32 (n19 * n8)) (f41 : n21 = 5) (f42 : n22 = w32 (n20 + n21)) (f43 : n23 ≤ 9999) (f44 : (-1) ≤ n23) (f45 : n23 = hV H1 (n18).toNat (n22).toNat) (f46 : n24 = w32 (n1 + 1)) : 0 ≤ n23 := by
  have g4 := f10.2.1.1
  unfold Ab_274_55 at g4
  have g3 := f10.2.1.2
  unfold preb_274 at g3
  have e0 : n6 = hV H1 285 82 := (by rw [f6] at f13; exact f13 : n6 = hV H1 285 82)
  have e1 : n8 = hV H1 344 (n0).toNat := (by rw [f15] at f19; exact f19 : n8 = hV H1 344 (n0).toNat)
  have e2 : hV H1 298 = hV H0 298 := fRow f10.1.2.1 298 kR_274_298
  have e3 : n10 = hV H0 298 (n8).toNat := (by rw [f20] at f24; exact f24 : n10 = hV H1 298 (n8).toNat).trans ((congrFun e2 _))
  have e4 : hV H1 305 = hV H0 305 := fRow f10.1.2.1 305 kR_274_305
  have e5 : n17 = hV H0 305 (n16).toNat := (by rw [f28] at f36; exact f36 : n17 = hV H1 305 (n16).toNat).trans ((congrFun e4 _))
  have e6 : n23 = hV H0 305 (n22).toNat := (by rw [f37] at f45; exact f45 : n23 = hV H1 305 (n22).toNat).trans ((congrFun e4 _))
  have e9 : hV H1 300 = hV H0 300 := fRow f10.1.2.1 300 kR_274_300
  have e10 : hV H1 301 = hV H0 301 := fRow f10.1.2.1 301 kR_274_301
  have e11 : hV H1 302 = hV H0 302 := fRow f10.1.2.1 302 kR_274_302
  have e12 : hV H1 303 = hV H0 303 := fRow f10.1.2.1 303 kR_274_303
  have e13 : (0 : Int) ≤ hV H0 285 18 ∧ hV H0 285 18 ≤ 8 := bTo ((f10.1.2.1.1 285 18 kF_274_285_18)) (f10.1.2.2 285 18 _ _ kW_285_18)
  have e14 : (0 : Int) ≤ hV H1 285 82 ∧ hV H1 285 82 ≤ 40 := f10.1.2.2 285 82 _ _ kW_285_82
  try simp only [XQ] at *
  try simp only [e2, e9, e10, e11, e12, e4] at g4
  have k0 := g4.1
  have y0 := g4.2
  have p0 := g3.1
  have p1 := g3.2.1
  have p2 := g3.2.2
  clear g3
  clear g4
  clear f13 f16 f19 f21 f24 f29 f36 f38 f45 e2 e4 e9 e10 e11 e12
  subst e0
  subst e1
  subst e3
  subst e5
  subst e6
  rw [f30] at f31
  rw [f39] at f40
  try have x5 := XQp_s y0 (s := (n0).toNat) (by omega) (by omega) (by omega)
  first
  | (have ix0 : n14 = 6 * (hV H1 344 (n0).toNat) := Eq.trans f31 (w32_iv (Iml 6 rfl (Iat f18 f17)) (by decide)); subst ix0; clear f31)
  | (have ix0 : n14 = 6 * (hV H1 344 (n0).toNat) := Eq.trans f31 (w32_id (by omega) (by omega)); subst ix0; clear f31)
  | (unfold w32 at f31; have ix0 : n14 = 6 * (hV H1 344 (n0).toNat) := (by omega); subst ix0)
  | skip
  first
  | (have ix1 : n16 = (6 * (hV H1 344 (n0).toNat)) + 2 := Eq.trans f33 (w32_iv (Iad (Iml 6 rfl (Iat f18 f17)) (IC 2)) (by decide)); subst ix1; clear f33)
  | (have ix1 : n16 = (6 * (hV H1 344 (n0).toNat)) + 2 := Eq.trans f33 (w32_id (by omega) (by omega)); subst ix1; clear f33)
  | (unfold w32 at f33; have ix1 : n16 = (6 * (hV H1 344 (n0).toNat)) + 2 := (by omega); subst ix1)
  | skip
  first
  | (have ix2 : n20 = 6 * (hV H1 344 (n0).toNat) := Eq.trans f40 (w32_iv (Iml 6 rfl (Iat f18 f17)) (by decide)); subst ix2; clear f40)
  | (have ix2 : n20 = 6 * (hV H1 344 (n0).toNat) := Eq.trans f40 (w32_id (by omega) (by omega)); subst ix2; clear f40)
  | (unfold w32 at f40; have ix2 : n20 = 6 * (hV H1 344 (n0).toNat) := (by omega); subst ix2)
  | skip
  first
  | (have ix3 : n22 = (6 * (hV H1 344 (n0).toNat)) + 5 := Eq.trans f42 (w32_iv (Iad (Iml 6 rfl (Iat f18 f17)) (IC 5)) (by decide)); subst ix3; clear f42)
  | (have ix3 : n22 = (6 * (hV H1 344 (n0).toNat)) + 5 := Eq.trans f42 (w32_id (by omega) (by omega)); subst ix3; clear f42)
  | (unfold w32 at f42; have ix3 : n22 = (6 * (hV H1 344 (n0).toNat)) + 5 := (by omega); subst ix3)
  | skip
  try unfold w32 at f31
  try unfold w32 at f33
  try unfold w32 at f40
  try unfold w32 at f42
  try unfold w32 at f46
  try subst k0
  omega
theorem c_274_55_11 {q0 : Nat} : vOkm T0 (eP e_274 L_274 A_274 mu_274 (some q0)) 2 ([(10, [29, 4], [], 1), (22, [28, 23, 27], [1], 0), (90, [28], [], -1), (91, [28], [], 9999), (1, [27, 25, 26], [], 0), (0, [26], [], 5), (3, [25, 24, 8], [], 0), (0, [24], [], 6), (20, [23, 2], [1], 31), (0, [23], [], 305), (22, [22, 17, 21], [1], 0), (90, [22], [], -1), (91, [22], [], 9999), (1, [21, 19, 20], [], 0), (0, [20], [], 2), (3, [19, 18, 8], [], 0), (0, [18], [], 6), (20, [17, 2], [1], 31), (0, [17], [], 305), (42, [4, 11], [], 0), (0, [11], [], 8), (30, [10], [], 0), (22, [10, 9, 8], [1], 0), (90, [10], [], 0), (91, [10], [], 5), (20, [9, 2], [1], 24), (0, [9], [], 298), (22, [8, 7, 5], [1], 0), (90, [8], [], 0), (91, [8], [], 1007), (20, [7, 2], [1], 83), (0, [7], [], 344), (42, [5, 6], [], 0), (20, [6, 2], [1], 82), (90, [6], [], 0), (91, [6], [], 40), (5000, [0, 1, 2, 3, 4, 5], [0, 1], 55), (0, [0], [], 285), (90, [1], [], 0), (91, [1], [], 7), (0, [2], [], 285), (90, [3], [], 0), (91, [3], [], 7), (90, [4], [], -2147483648), (91, [4], [], 2147483647), (90, [5], [], 0), (91, [5], [], 40)], (90, [28], [], 0)) := vOk_inI fun ρ η f0 f1 f2 f3 f4 f5 f6 f7 f8 f9 f10 f11 f12 f13 f14 f15 f16 f17 f18 f19 f20 f21 f22 f23 f24 f25 f26 f27 f28 f29 f30 f31 f32 f33 f34 f35 f36 f37 f38 f39 f40 f41 f42 f43 f44 f45 f46 => q_274_20 (q0 := q0) (n0 := ρ 5) (n1 := ρ 4) (n2 := ρ 3) (n3 := ρ 2) (n4 := ρ 1) (n5 := ρ 0) (n6 := ρ 6) (n7 := ρ 7) (n8 := ρ 8) (n9 := ρ 9) (n10 := ρ 10) (n11 := ρ 11) (n12 := ρ 17) (n13 := ρ 18) (n14 := ρ 19) (n15 := ρ 20) (n16 := ρ 21) (n17 := ρ 22) (n18 := ρ 23) (n19 := ρ 24) (n20 := ρ 25) (n21 := ρ 26) (n22 := ρ 27) (n23 := ρ 28) (n24 := ρ 29) (H0 := η 0) (H1 := η 1) f46 f45 f44 f43 f42 f41 f40 f39 f38 f37 f36 f35 f34 f33 f32 f31 f30 f29 f28 f27 f26 f25 f24 f23 f22 f21 f20 f19 f18 f17 f16 f15 f14 f13 f12 f11 f10 f9 f8 f7 f6 f5 f4 f3 f2 f1 f0
theorem q_274_21 {q0 : Nat} {n0 n1 n2 n3 n4 n5 n6 n7 n8 n9 n10 n11 n12 n13 n14 n15 n16 n17 n18 n19 n20 n21 n22 n23 n24 : Int} {H0 H1 : gH} (f0 : n0 ≤ 40) (f1 : 0 ≤ n0) (f2 : n1 ≤ 2147483647) (f3 : (-2147483648) ≤ n1) (f4 : n2 ≤ 7) (f5 : 0 ≤ n2) (f6 : n3 = 285) (f7 : n4 ≤ 7) (f8 : 0 ≤ n4) (f9 : n5 = 285) (f10 : (hLe T0 H0 H1 ∧ hFr s_274.2.2.2.2 H0 H1 ∧ hWt T0 H1) ∧ (Ab_274_55 n5 n4 n3 n2 n1 n0 H0 H1 ∧ preb_274 n5 n4 H0) ∧ some q0 = some (mub_274_55 n5 n4 n3 n2 n1 n0 H0 H1)) (f11 : n6 ≤ 40) (f12 : 0 ≤ n6) (f13 : n6 = hV H1 (n3).toNat 82) (f14 : n0 < n6) (f15 : n7 = 344) (f16 : n7 = hV H1 (n3).toNat 83) (f17 : n8 ≤ 1007) (f18 : 0 ≤ n8) (f19 : n8 = hV H1 (n7).toNat (n0).toNat) (f20 : n9 = 298) (f21 : n9 = hV H1 (n3).toNat 24) (f22 : n10 ≤ 5) (f23 : 0 ≤ n10) (f24 : n10 = hV H1 (n9).toNat (n8).toNat) (f25 : n10 = 0) (f26 : n11 = 8) (f27 : n1 < n11) (f28 : n12 = 305) (f29 : n12 = hV H1 (n3).toNat 31) (f30 : n13 = 6) (f31 : n14 = w32 (n13 * n8)) (f32 : n15 = 2) (f33 : n16 = w32 (n14 + n15)) (f34 : n17 ≤ 9999) (f35 : (-1) ≤ n17) (f36 : n17 = hV H1 (n12).toNat (n16).toNat) (f37 : n18 = 305) (f38 : n18 = hV H1 (n3).toNat 31) (f39 : n19 = 6) (f40 : n20 = w32 (n19 * n8)) (f41 : n21 = 5) (f42 : n22 = w32 (n20 + n21)) (f43 : n23 ≤ 9999) (f44 : (-1) ≤ n23) (f45 : n23 = hV H1 (n18).toNat (n22).toNat) (f46 : n24 = w32 (n1 + 1)) : n23 ≤ 2 := by
  have g4 := f10.2.1.1
  unfold Ab_274_55 at g4
  have g3 := f10.2.1.2
  unfold preb_274 at g3
  have e0 : n6 = hV H1 285 82 := (by rw [f6] at f13; exact f13 : n6 = hV H1 285 82)
  have e1 : n8 = hV H1 344 (n0).toNat := (by rw [f15] at f19; exact f19 : n8 = hV H1 344 (n0).toNat)
  have e2 : hV H1 298 = hV H0 298 := fRow f10.1.2.1 298 kR_274_298
  have e3 : n10 = hV H0 298 (n8).toNat := (by rw [f20] at f24; exact f24 : n10 = hV H1 298 (n8).toNat).trans ((congrFun e2 _))
  have e4 : hV H1 305 = hV H0 305 := fRow f10.1.2.1 305 kR_274_305
  have e5 : n17 = hV H0 305 (n16).toNat := (by rw [f28] at f36; exact f36 : n17 = hV H1 305 (n16).toNat).trans ((congrFun e4 _))
  have e6 : n23 = hV H0 305 (n22).toNat := (by rw [f37] at f45; exact f45 : n23 = hV H1 305 (n22).toNat).trans ((congrFun e4 _))
  have e9 : hV H1 300 = hV H0 300 := fRow f10.1.2.1 300 kR_274_300
  have e10 : hV H1 301 = hV H0 301 := fRow f10.1.2.1 301 kR_274_301
  have e11 : hV H1 302 = hV H0 302 := fRow f10.1.2.1 302 kR_274_302
  have e12 : hV H1 303 = hV H0 303 := fRow f10.1.2.1 303 kR_274_303
  have e13 : (0 : Int) ≤ hV H0 285 18 ∧ hV H0 285 18 ≤ 8 := bTo ((f10.1.2.1.1 285 18 kF_274_285_18)) (f10.1.2.2 285 18 _ _ kW_285_18)
  have e14 : (0 : Int) ≤ hV H1 285 82 ∧ hV H1 285 82 ≤ 40 := f10.1.2.2 285 82 _ _ kW_285_82
  try simp only [XQ] at *
  try simp only [e2, e9, e10, e11, e12, e4] at g4
  have k0 := g4.1
  have y0 := g4.2
  have p0 := g3.1
  have p1 := g3.2.1
  have p2 := g3.2.2
  clear g3
  clear g4
  clear f13 f16 f19 f21 f24 f29 f36 f38 f45 e2 e4 e9 e10 e11 e12
  subst e0
  subst e1
  subst e3
  subst e5
  subst e6
  rw [f30] at f31
  rw [f39] at f40
  try have x5 := XQp_s y0 (s := (n0).toNat) (by omega) (by omega) (by omega)
  first
  | (have ix0 : n14 = 6 * (hV H1 344 (n0).toNat) := Eq.trans f31 (w32_iv (Iml 6 rfl (Iat f18 f17)) (by decide)); subst ix0; clear f31)
  | (have ix0 : n14 = 6 * (hV H1 344 (n0).toNat) := Eq.trans f31 (w32_id (by omega) (by omega)); subst ix0; clear f31)
  | (unfold w32 at f31; have ix0 : n14 = 6 * (hV H1 344 (n0).toNat) := (by omega); subst ix0)
  | skip
  first
  | (have ix1 : n16 = (6 * (hV H1 344 (n0).toNat)) + 2 := Eq.trans f33 (w32_iv (Iad (Iml 6 rfl (Iat f18 f17)) (IC 2)) (by decide)); subst ix1; clear f33)
  | (have ix1 : n16 = (6 * (hV H1 344 (n0).toNat)) + 2 := Eq.trans f33 (w32_id (by omega) (by omega)); subst ix1; clear f33)
  | (unfold w32 at f33; have ix1 : n16 = (6 * (hV H1 344 (n0).toNat)) + 2 := (by omega); subst ix1)
  | skip
  first
  | (have ix2 : n20 = 6 * (hV H1 344 (n0).toNat) := Eq.trans f40 (w32_iv (Iml 6 rfl (Iat f18 f17)) (by decide)); subst ix2; clear f40)
  | (have ix2 : n20 = 6 * (hV H1 344 (n0).toNat) := Eq.trans f40 (w32_id (by omega) (by omega)); subst ix2; clear f40)
  | (unfold w32 at f40; have ix2 : n20 = 6 * (hV H1 344 (n0).toNat) := (by omega); subst ix2)
  | skip
  first
  | (have ix3 : n22 = (6 * (hV H1 344 (n0).toNat)) + 5 := Eq.trans f42 (w32_iv (Iad (Iml 6 rfl (Iat f18 f17)) (IC 5)) (by decide)); subst ix3; clear f42)
  | (have ix3 : n22 = (6 * (hV H1 344 (n0).toNat)) + 5 := Eq.trans f42 (w32_id (by omega) (by omega)); subst ix3; clear f42)
  | (unfold w32 at f42; have ix3 : n22 = (6 * (hV H1 344 (n0).toNat)) + 5 := (by omega); subst ix3)
  | skip
  try unfold w32 at f31
  try unfold w32 at f33
  try unfold w32 at f40
  try unfold w32 at f42
  try unfold w32 at f46
  try subst k0
  omega
theorem c_274_55_12 {q0 : Nat} : vOkm T0 (eP e_274 L_274 A_274 mu_274 (some q0)) 2 ([(10, [29, 4], [], 1), (22, [28, 23, 27], [1], 0), (90, [28], [], -1), (91, [28], [], 9999), (1, [27, 25, 26], [], 0), (0, [26], [], 5), (3, [25, 24, 8], [], 0), (0, [24], [], 6), (20, [23, 2], [1], 31), (0, [23], [], 305), (22, [22, 17, 21], [1], 0), (90, [22], [], -1), (91, [22], [], 9999), (1, [21, 19, 20], [], 0), (0, [20], [], 2), (3, [19, 18, 8], [], 0), (0, [18], [], 6), (20, [17, 2], [1], 31), (0, [17], [], 305), (42, [4, 11], [], 0), (0, [11], [], 8), (30, [10], [], 0), (22, [10, 9, 8], [1], 0), (90, [10], [], 0), (91, [10], [], 5), (20, [9, 2], [1], 24), (0, [9], [], 298), (22, [8, 7, 5], [1], 0), (90, [8], [], 0), (91, [8], [], 1007), (20, [7, 2], [1], 83), (0, [7], [], 344), (42, [5, 6], [], 0), (20, [6, 2], [1], 82), (90, [6], [], 0), (91, [6], [], 40), (5000, [0, 1, 2, 3, 4, 5], [0, 1], 55), (0, [0], [], 285), (90, [1], [], 0), (91, [1], [], 7), (0, [2], [], 285), (90, [3], [], 0), (91, [3], [], 7), (90, [4], [], -2147483648), (91, [4], [], 2147483647), (90, [5], [], 0), (91, [5], [], 40)], (91, [28], [], 2)) := vOk_inI fun ρ η f0 f1 f2 f3 f4 f5 f6 f7 f8 f9 f10 f11 f12 f13 f14 f15 f16 f17 f18 f19 f20 f21 f22 f23 f24 f25 f26 f27 f28 f29 f30 f31 f32 f33 f34 f35 f36 f37 f38 f39 f40 f41 f42 f43 f44 f45 f46 => q_274_21 (q0 := q0) (n0 := ρ 5) (n1 := ρ 4) (n2 := ρ 3) (n3 := ρ 2) (n4 := ρ 1) (n5 := ρ 0) (n6 := ρ 6) (n7 := ρ 7) (n8 := ρ 8) (n9 := ρ 9) (n10 := ρ 10) (n11 := ρ 11) (n12 := ρ 17) (n13 := ρ 18) (n14 := ρ 19) (n15 := ρ 20) (n16 := ρ 21) (n17 := ρ 22) (n18 := ρ 23) (n19 := ρ 24) (n20 := ρ 25) (n21 := ρ 26) (n22 := ρ 27) (n23 := ρ 28) (n24 := ρ 29) (H0 := η 0) (H1 := η 1) f46 f45 f44 f43 f42 f41 f40 f39 f38 f37 f36 f35 f34 f33 f32 f31 f30 f29 f28 f27 f26 f25 f24 f23 f22 f21 f20 f19 f18 f17 f16 f15 f14 f13 f12 f11 f10 f9 f8 f7 f6 f5 f4 f3 f2 f1 f0
theorem q_274_22 {q0 : Nat} {n0 n1 n2 n3 n4 n5 n6 n7 n8 n9 n10 n11 n12 n13 n14 n15 n16 n17 n18 n19 n20 n21 n22 n23 n24 n25 : Int} {H0 H1 : gH} (f0 : n0 ≤ 40) (f1 : 0 ≤ n0) (f2 : n1 ≤ 2147483647) (f3 : (-2147483648) ≤ n1) (f4 : n2 ≤ 7) (f5 : 0 ≤ n2) (f6 : n3 = 285) (f7 : n4 ≤ 7) (f8 : 0 ≤ n4) (f9 : n5 = 285) (f10 : (hLe T0 H0 H1 ∧ hFr s_274.2.2.2.2 H0 H1 ∧ hWt T0 H1) ∧ (Ab_274_55 n5 n4 n3 n2 n1 n0 H0 H1 ∧ preb_274 n5 n4 H0) ∧ some q0 = some (mub_274_55 n5 n4 n3 n2 n1 n0 H0 H1)) (f11 : n6 ≤ 40) (f12 : 0 ≤ n6) (f13 : n6 = hV H1 (n3).toNat 82) (f14 : n0 < n6) (f15 : n7 = 344) (f16 : n7 = hV H1 (n3).toNat 83) (f17 : n8 ≤ 1007) (f18 : 0 ≤ n8) (f19 : n8 = hV H1 (n7).toNat (n0).toNat) (f20 : n9 = 298) (f21 : n9 = hV H1 (n3).toNat 24) (f22 : n10 ≤ 5) (f23 : 0 ≤ n10) (f24 : n10 = hV H1 (n9).toNat (n8).toNat) (f25 : n10 = 0) (f26 : n11 = 8) (f27 : n1 < n11) (f28 : n12 = 305) (f29 : n12 = hV H1 (n3).toNat 31) (f30 : n13 = 6) (f31 : n14 = w32 (n13 * n8)) (f32 : n15 = 2) (f33 : n16 = w32 (n14 + n15)) (f34 : n17 ≤ 9999) (f35 : (-1) ≤ n17) (f36 : n17 = hV H1 (n12).toNat (n16).toNat) (f37 : n18 = 305) (f38 : n18 = hV H1 (n3).toNat 31) (f39 : n19 = 6) (f40 : n20 = w32 (n19 * n8)) (f41 : n21 = 5) (f42 : n22 = w32 (n20 + n21)) (f43 : n23 ≤ 9999) (f44 : (-1) ≤ n23) (f45 : n23 = hV H1 (n18).toNat (n22).toNat) (f46 : n24 = w32 (n1 + 1)) (f47 : n25 = 0) : Ab_274_153 n5 n4 n3 n2 n24 n0 n8 n17 n23 n25 H0 H1 ∧ ∀ q, some q0 = some q → mub_274_153 n5 n4 n3 n2 n24 n0 n8 n17 n23 n25 H0 H1 < q := by
  have g4 := f10.2.1.1
  unfold Ab_274_55 at g4
  have g3 := f10.2.1.2
  unfold preb_274 at g3
  have g5 := Option.some.inj f10.2.2
  unfold mub_274_55 at g5
  unfold Ab_274_153
  unfold mub_274_153
  have e0 : n6 = hV H1 285 82 := (by rw [f6] at f13; exact f13 : n6 = hV H1 285 82)
  have e1 : n8 = hV H1 344 (n0).toNat := (by rw [f15] at f19; exact f19 : n8 = hV H1 344 (n0).toNat)
  have e2 : hV H1 298 = hV H0 298 := fRow f10.1.2.1 298 kR_274_298
  have e3 : n10 = hV H0 298 (n8).toNat := (by rw [f20] at f24; exact f24 : n10 = hV H1 298 (n8).toNat).trans ((congrFun e2 _))
  have e4 : hV H1 305 = hV H0 305 := fRow f10.1.2.1 305 kR_274_305
  have e5 : n17 = hV H0 305 (n16).toNat := (by rw [f28] at f36; exact f36 : n17 = hV H1 305 (n16).toNat).trans ((congrFun e4 _))
  have e6 : n23 = hV H0 305 (n22).toNat := (by rw [f37] at f45; exact f45 : n23 = hV H1 305 (n22).toNat).trans ((congrFun e4 _))
  have e9 : hV H1 300 = hV H0 300 := fRow f10.1.2.1 300 kR_274_300
  have e10 : hV H1 301 = hV H0 301 := fRow f10.1.2.1 301 kR_274_301
  have e11 : hV H1 302 = hV H0 302 := fRow f10.1.2.1 302 kR_274_302
  have e12 : hV H1 303 = hV H0 303 := fRow f10.1.2.1 303 kR_274_303
  have e13 : (0 : Int) ≤ hV H0 285 18 ∧ hV H0 285 18 ≤ 8 := bTo ((f10.1.2.1.1 285 18 kF_274_285_18)) (f10.1.2.2 285 18 _ _ kW_285_18)
  have e14 : (0 : Int) ≤ hV H1 285 82 ∧ hV H1 285 82 ≤ 40 := f10.1.2.2 285 82 _ _ kW_285_82
  try simp only [XQ] at *
  try simp only [e2, e9, e10, e11, e12, e4] at g4
  try simp only [e2, e9, e10, e11, e12, e4]
  have k0 := g4.1
  have y0 := g4.2
  have p0 := g3.1
  have p1 := g3.2.1
  have p2 := g3.2.2
  clear g3
  clear g4
  clear f13 f16 f19 f21 f24 f29 f36 f38 f45 e2 e4 e9 e10 e11 e12
  subst e0
  subst e1
  subst e3
  subst e5
  subst e6
  rw [f30] at f31
  rw [f39] at f40
  try have x5 := XQp_s y0 (s := (n0).toNat) (by omega) (by omega) (by omega)
  first
  | (have ix0 : n14 = 6 * (hV H1 344 (n0).toNat) := Eq.trans f31 (w32_iv (Iml 6 rfl (Iat f18 f17)) (by decide)); subst ix0; clear f31)
  | (have ix0 : n14 = 6 * (hV H1 344 (n0).toNat) := Eq.trans f31 (w32_id (by omega) (by omega)); subst ix0; clear f31)
  | (unfold w32 at f31; have ix0 : n14 = 6 * (hV H1 344 (n0).toNat) := (by omega); subst ix0)
  | skip
  first
  | (have ix1 : n16 = (6 * (hV H1 344 (n0).toNat)) + 2 := Eq.trans f33 (w32_iv (Iad (Iml 6 rfl (Iat f18 f17)) (IC 2)) (by decide)); subst ix1; clear f33)
  | (have ix1 : n16 = (6 * (hV H1 344 (n0).toNat)) + 2 := Eq.trans f33 (w32_id (by omega) (by omega)); subst ix1; clear f33)
  | (unfold w32 at f33; have ix1 : n16 = (6 * (hV H1 344 (n0).toNat)) + 2 := (by omega); subst ix1)
  | skip
  first
  | (have ix2 : n20 = 6 * (hV H1 344 (n0).toNat) := Eq.trans f40 (w32_iv (Iml 6 rfl (Iat f18 f17)) (by decide)); subst ix2; clear f40)
  | (have ix2 : n20 = 6 * (hV H1 344 (n0).toNat) := Eq.trans f40 (w32_id (by omega) (by omega)); subst ix2; clear f40)
  | (unfold w32 at f40; have ix2 : n20 = 6 * (hV H1 344 (n0).toNat) := (by omega); subst ix2)
  | skip
  first
  | (have ix3 : n22 = (6 * (hV H1 344 (n0).toNat)) + 5 := Eq.trans f42 (w32_iv (Iad (Iml 6 rfl (Iat f18 f17)) (IC 5)) (by decide)); subst ix3; clear f42)
  | (have ix3 : n22 = (6 * (hV H1 344 (n0).toNat)) + 5 := Eq.trans f42 (w32_id (by omega) (by omega)); subst ix3; clear f42)
  | (unfold w32 at f42; have ix3 : n22 = (6 * (hV H1 344 (n0).toNat)) + 5 := (by omega); subst ix3)
  | skip
  first
  | (have ix4 : n24 = n1 + 1 := Eq.trans f46 (w32_id (by omega) (by omega)); subst ix4; clear f46)
  | (unfold w32 at f46; have ix4 : n24 = n1 + 1 := (by omega); subst ix4)
  | skip
  try unfold w32 at f31
  try unfold w32 at f33
  try unfold w32 at f40
  try unfold w32 at f42
  try unfold w32 at f46
  try subst k0
  refine ⟨?_, fun q hq => ?_⟩
  · refine ⟨?_, ?_, ?_, ?_, ?_⟩ <;> first | assumption | omega | trivial
  · have g6 := Option.some.inj hq
    subst g6
    omega
theorem c_274_55_13 {q0 : Nat} : vOkm T0 (eP e_274 L_274 A_274 mu_274 (some q0)) 2 ([(0, [30], [], 0), (10, [29, 4], [], 1), (22, [28, 23, 27], [1], 0), (90, [28], [], -1), (91, [28], [], 9999), (1, [27, 25, 26], [], 0), (0, [26], [], 5), (3, [25, 24, 8], [], 0), (0, [24], [], 6), (20, [23, 2], [1], 31), (0, [23], [], 305), (22, [22, 17, 21], [1], 0), (90, [22], [], -1), (91, [22], [], 9999), (1, [21, 19, 20], [], 0), (0, [20], [], 2), (3, [19, 18, 8], [], 0), (0, [18], [], 6), (20, [17, 2], [1], 31), (0, [17], [], 305), (42, [4, 11], [], 0), (0, [11], [], 8), (30, [10], [], 0), (22, [10, 9, 8], [1], 0), (90, [10], [], 0), (91, [10], [], 5), (20, [9, 2], [1], 24), (0, [9], [], 298), (22, [8, 7, 5], [1], 0), (90, [8], [], 0), (91, [8], [], 1007), (20, [7, 2], [1], 83), (0, [7], [], 344), (42, [5, 6], [], 0), (20, [6, 2], [1], 82), (90, [6], [], 0), (91, [6], [], 40), (5000, [0, 1, 2, 3, 4, 5], [0, 1], 55), (0, [0], [], 285), (90, [1], [], 0), (91, [1], [], 7), (0, [2], [], 285), (90, [3], [], 0), (91, [3], [], 7), (90, [4], [], -2147483648), (91, [4], [], 2147483647), (90, [5], [], 0), (91, [5], [], 40)], (4000, [2, 3, 29, 5, 8, 22, 28, 30], [1], 153)) := vOk_inI fun ρ η f0 f1 f2 f3 f4 f5 f6 f7 f8 f9 f10 f11 f12 f13 f14 f15 f16 f17 f18 f19 f20 f21 f22 f23 f24 f25 f26 f27 f28 f29 f30 f31 f32 f33 f34 f35 f36 f37 f38 f39 f40 f41 f42 f43 f44 f45 f46 f47 => q_274_22 (q0 := q0) (n0 := ρ 5) (n1 := ρ 4) (n2 := ρ 3) (n3 := ρ 2) (n4 := ρ 1) (n5 := ρ 0) (n6 := ρ 6) (n7 := ρ 7) (n8 := ρ 8) (n9 := ρ 9) (n10 := ρ 10) (n11 := ρ 11) (n12 := ρ 17) (n13 := ρ 18) (n14 := ρ 19) (n15 := ρ 20) (n16 := ρ 21) (n17 := ρ 22) (n18 := ρ 23) (n19 := ρ 24) (n20 := ρ 25) (n21 := ρ 26) (n22 := ρ 27) (n23 := ρ 28) (n24 := ρ 29) (n25 := ρ 30) (H0 := η 0) (H1 := η 1) f47 f46 f45 f44 f43 f42 f41 f40 f39 f38 f37 f36 f35 f34 f33 f32 f31 f30 f29 f28 f27 f26 f25 f24 f23 f22 f21 f20 f19 f18 f17 f16 f15 f14 f13 f12 f11 f10 f9 f8 f7 f6 f5 f4 f3 f2 f1 f0
theorem c_274_55_14 {q0 : Nat} : vOkm T0 (eP e_274 L_274 A_274 mu_274 (some q0)) 2 ([(1, [21, 19, 20], [], 0), (0, [20], [], 2), (3, [19, 18, 8], [], 0), (0, [18], [], 6), (42, [4, 11], [], 0), (0, [11], [], 8), (30, [10], [], 0), (22, [10, 9, 8], [1], 0), (90, [10], [], 0), (91, [10], [], 5), (20, [9, 2], [1], 24), (0, [9], [], 298), (22, [8, 7, 5], [1], 0), (90, [8], [], 0), (91, [8], [], 1007), (20, [7, 2], [1], 83), (0, [7], [], 344), (42, [5, 6], [], 0), (20, [6, 2], [1], 82), (90, [6], [], 0), (91, [6], [], 40), (5000, [0, 1, 2, 3, 4, 5], [0, 1], 55), (0, [0], [], 285), (90, [1], [], 0), (91, [1], [], 7), (0, [2], [], 285), (90, [3], [], 0), (91, [3], [], 7), (90, [4], [], -2147483648), (91, [4], [], 2147483647), (90, [5], [], 0), (91, [5], [], 40)], (70, [21], [], 6048)) := vOk_inI fun ρ η f0 f1 f2 f3 f4 f5 f6 f7 f8 f9 f10 f11 f12 f13 f14 f15 f16 f17 f18 f19 f20 f21 f22 f23 f24 f25 f26 f27 f28 f29 f30 f31 => q_274_17 (q0 := q0) (n0 := ρ 5) (n1 := ρ 4) (n2 := ρ 3) (n3 := ρ 2) (n4 := ρ 1) (n5 := ρ 0) (n6 := ρ 6) (n7 := ρ 7) (n8 := ρ 8) (n9 := ρ 9) (n10 := ρ 10) (n11 := ρ 11) (n12 := ρ 18) (n13 := ρ 19) (n14 := ρ 20) (n15 := ρ 21) (H0 := η 0) (H1 := η 1) f31 f30 f29 f28 f27 f26 f25 f24 f23 f22 f21 f20 f19 f18 f17 f16 f15 f14 f13 f12 f11 f10 f9 f8 f7 f6 f5 f4 f3 f2 f1 f0
theorem q_274_23 {q0 : Nat} {n0 n1 n2 n3 n4 n5 n6 n7 n8 n9 n10 n11 n12 n13 n14 n15 n16 n17 n18 n19 n20 n21 n22 n23 n24 : Int} {H0 H1 : gH} (f0 : n0 ≤ 40) (f1 : 0 ≤ n0) (f2 : n1 ≤ 2147483647) (f3 : (-2147483648) ≤ n1) (f4 : n2 ≤ 7) (f5 : 0 ≤ n2) (f6 : n3 = 285) (f7 : n4 ≤ 7) (f8 : 0 ≤ n4) (f9 : n5 = 285) (f10 : (hLe T0 H0 H1 ∧ hFr s_274.2.2.2.2 H0 H1 ∧ hWt T0 H1) ∧ (Ab_274_55 n5 n4 n3 n2 n1 n0 H0 H1 ∧ preb_274 n5 n4 H0) ∧ some q0 = some (mub_274_55 n5 n4 n3 n2 n1 n0 H0 H1)) (f11 : n6 ≤ 40) (f12 : 0 ≤ n6) (f13 : n6 = hV H1 (n3).toNat 82) (f14 : n0 < n6) (f15 : n7 = 344) (f16 : n7 = hV H1 (n3).toNat 83) (f17 : n8 ≤ 1007) (f18 : 0 ≤ n8) (f19 : n8 = hV H1 (n7).toNat (n0).toNat) (f20 : n9 = 298) (f21 : n9 = hV H1 (n3).toNat 24) (f22 : n10 ≤ 5) (f23 : 0 ≤ n10) (f24 : n10 = hV H1 (n9).toNat (n8).toNat) (f25 : n10 = 0) (f26 : n11 = 8) (f27 : n1 < n11) (f28 : n12 = 305) (f29 : n12 = hV H1 (n3).toNat 31) (f30 : n13 = 6) (f31 : n14 = w32 (n13 * n8)) (f32 : n15 = 2) (f33 : n16 = w32 (n14 + n15)) (f34 : n17 ≤ 9999) (f35 : (-1) ≤ n17) (f36 : n17 = hV H1 (n12).toNat (n16).toNat) (f37 : n18 = 2) (f38 : n19 = o32 (fun x y => x / y) n17 n18) (f39 : n20 = 305) (f40 : n20 = hV H1 (n3).toNat 31) (f41 : n21 = 6) (f42 : n22 = w32 (n21 * n8)) (f43 : n23 = 5) (f44 : n24 = w32 (n22 + n23)) : 0 ≤ n24 ∧ n24 < 6048 := by
  have g4 := f10.2.1.1
  unfold Ab_274_55 at g4
  have g3 := f10.2.1.2
  unfold preb_274 at g3
  have e0 : n6 = hV H1 285 82 := (by rw [f6] at f13; exact f13 : n6 = hV H1 285 82)
  have e1 : n8 = hV H1 344 (n0).toNat := (by rw [f15] at f19; exact f19 : n8 = hV H1 344 (n0).toNat)
  have e2 : hV H1 298 = hV H0 298 := fRow f10.1.2.1 298 kR_274_298
  have e3 : n10 = hV H0 298 (n8).toNat := (by rw [f20] at f24; exact f24 : n10 = hV H1 298 (n8).toNat).trans ((congrFun e2 _))
  have e4 : hV H1 305 = hV H0 305 := fRow f10.1.2.1 305 kR_274_305
  have e5 : n17 = hV H0 305 (n16).toNat := (by rw [f28] at f36; exact f36 : n17 = hV H1 305 (n16).toNat).trans ((congrFun e4 _))
  have e8 : hV H1 300 = hV H0 300 := fRow f10.1.2.1 300 kR_274_300
  have e9 : hV H1 301 = hV H0 301 := fRow f10.1.2.1 301 kR_274_301
  have e10 : hV H1 302 = hV H0 302 := fRow f10.1.2.1 302 kR_274_302
  have e11 : hV H1 303 = hV H0 303 := fRow f10.1.2.1 303 kR_274_303
  have e12 : (0 : Int) ≤ hV H0 285 18 ∧ hV H0 285 18 ≤ 8 := bTo ((f10.1.2.1.1 285 18 kF_274_285_18)) (f10.1.2.2 285 18 _ _ kW_285_18)
  have e13 : (0 : Int) ≤ hV H1 285 82 ∧ hV H1 285 82 ≤ 40 := f10.1.2.2 285 82 _ _ kW_285_82
  try simp only [XQ] at *
  try simp only [e2, e8, e9, e10, e11, e4] at g4
  have k0 := g4.1
  have y0 := g4.2
  have p0 := g3.1
  have p1 := g3.2.1
  have p2 := g3.2.2
  clear g3
  clear g4
  clear f13 f16 f19 f21 f24 f29 f36 f40 e2 e4 e8 e9 e10 e11
  subst e0
  subst e1
  subst e3
  subst e5
  first | have b38 := o32_div_pos f38 (by omega) (by omega) (by omega) (by omega) | skip
  rw [f30] at f31
  rw [f41] at f42
  try have x5 := XQp_s y0 (s := (n0).toNat) (by omega) (by omega) (by omega)
  first
  | (have ix0 : n14 = 6 * (hV H1 344 (n0).toNat) := Eq.trans f31 (w32_iv (Iml 6 rfl (Iat f18 f17)) (by decide)); subst ix0; clear f31)
  | (have ix0 : n14 = 6 * (hV H1 344 (n0).toNat) := Eq.trans f31 (w32_id (by omega) (by omega)); subst ix0; clear f31)
  | (unfold w32 at f31; have ix0 : n14 = 6 * (hV H1 344 (n0).toNat) := (by omega); subst ix0)
  | skip
  first
  | (have ix1 : n16 = (6 * (hV H1 344 (n0).toNat)) + 2 := Eq.trans f33 (w32_iv (Iad (Iml 6 rfl (Iat f18 f17)) (IC 2)) (by decide)); subst ix1; clear f33)
  | (have ix1 : n16 = (6 * (hV H1 344 (n0).toNat)) + 2 := Eq.trans f33 (w32_id (by omega) (by omega)); subst ix1; clear f33)
  | (unfold w32 at f33; have ix1 : n16 = (6 * (hV H1 344 (n0).toNat)) + 2 := (by omega); subst ix1)
  | skip
  first
  | (have ix2 : n22 = 6 * (hV H1 344 (n0).toNat) := Eq.trans f42 (w32_iv (Iml 6 rfl (Iat f18 f17)) (by decide)); subst ix2; clear f42)
  | (have ix2 : n22 = 6 * (hV H1 344 (n0).toNat) := Eq.trans f42 (w32_id (by omega) (by omega)); subst ix2; clear f42)
  | (unfold w32 at f42; have ix2 : n22 = 6 * (hV H1 344 (n0).toNat) := (by omega); subst ix2)
  | skip
  first
  | (have ix3 : n24 = (6 * (hV H1 344 (n0).toNat)) + 5 := Eq.trans f44 (w32_iv (Iad (Iml 6 rfl (Iat f18 f17)) (IC 5)) (by decide)); subst ix3; clear f44)
  | (have ix3 : n24 = (6 * (hV H1 344 (n0).toNat)) + 5 := Eq.trans f44 (w32_id (by omega) (by omega)); subst ix3; clear f44)
  | (unfold w32 at f44; have ix3 : n24 = (6 * (hV H1 344 (n0).toNat)) + 5 := (by omega); subst ix3)
  | skip
  try unfold w32 at f31
  try unfold w32 at f33
  try unfold w32 at f42
  try unfold w32 at f44
  try subst k0
  omega
theorem c_274_55_15 {q0 : Nat} : vOkm T0 (eP e_274 L_274 A_274 mu_274 (some q0)) 2 ([(1, [29, 27, 28], [], 0), (0, [28], [], 5), (3, [27, 26, 8], [], 0), (0, [26], [], 6), (20, [25, 2], [1], 31), (0, [25], [], 305), (11, [24, 22, 23], [], 0), (0, [23], [], 2), (22, [22, 17, 21], [1], 0), (90, [22], [], -1), (91, [22], [], 9999), (1, [21, 19, 20], [], 0), (0, [20], [], 2), (3, [19, 18, 8], [], 0), (0, [18], [], 6), (20, [17, 2], [1], 31), (0, [17], [], 305), (42, [4, 11], [], 0), (0, [11], [], 8), (30, [10], [], 0), (22, [10, 9, 8], [1], 0), (90, [10], [], 0), (91, [10], [], 5), (20, [9, 2], [1], 24), (0, [9], [], 298), (22, [8, 7, 5], [1], 0), (90, [8], [], 0), (91, [8], [], 1007), (20, [7, 2], [1], 83), (0, [7], [], 344), (42, [5, 6], [], 0), (20, [6, 2], [1], 82), (90, [6], [], 0), (91, [6], [], 40), (5000, [0, 1, 2, 3, 4, 5], [0, 1], 55), (0, [0], [], 285), (90, [1], [], 0), (91, [1], [], 7), (0, [2], [], 285), (90, [3], [], 0), (91, [3], [], 7), (90, [4], [], -2147483648), (91, [4], [], 2147483647), (90, [5], [], 0), (91, [5], [], 40)], (70, [29], [], 6048)) := vOk_inI fun ρ η f0 f1 f2 f3 f4 f5 f6 f7 f8 f9 f10 f11 f12 f13 f14 f15 f16 f17 f18 f19 f20 f21 f22 f23 f24 f25 f26 f27 f28 f29 f30 f31 f32 f33 f34 f35 f36 f37 f38 f39 f40 f41 f42 f43 f44 => q_274_23 (q0 := q0) (n0 := ρ 5) (n1 := ρ 4) (n2 := ρ 3) (n3 := ρ 2) (n4 := ρ 1) (n5 := ρ 0) (n6 := ρ 6) (n7 := ρ 7) (n8 := ρ 8) (n9 := ρ 9) (n10 := ρ 10) (n11 := ρ 11) (n12 := ρ 17) (n13 := ρ 18) (n14 := ρ 19) (n15 := ρ 20) (n16 := ρ 21) (n17 := ρ 22) (n18 := ρ 23) (n19 := ρ 24) (n20 := ρ 25) (n21 := ρ 26) (n22 := ρ 27) (n23 := ρ 28) (n24 := ρ 29) (H0 := η 0) (H1 := η 1) f44 f43 f42 f41 f40 f39 f38 f37 f36 f35 f34 f33 f32 f31 f30 f29 f28 f27 f26 f25 f24 f23 f22 f21 f20 f19 f18 f17 f16 f15 f14 f13 f12 f11 f10 f9 f8 f7 f6 f5 f4 f3 f2 f1 f0
theorem q_274_24 {q0 : Nat} {n0 n1 n2 n3 n4 n5 n6 n7 n8 n9 n10 n11 n12 n13 n14 n15 n16 n17 n18 n19 n20 n21 n22 n23 n24 n25 n26 : Int} {H0 H1 : gH} (f0 : n0 ≤ 40) (f1 : 0 ≤ n0) (f2 : n1 ≤ 2147483647) (f3 : (-2147483648) ≤ n1) (f4 : n2 ≤ 7) (f5 : 0 ≤ n2) (f6 : n3 = 285) (f7 : n4 ≤ 7) (f8 : 0 ≤ n4) (f9 : n5 = 285) (f10 : (hLe T0 H0 H1 ∧ hFr s_274.2.2.2.2 H0 H1 ∧ hWt T0 H1) ∧ (Ab_274_55 n5 n4 n3 n2 n1 n0 H0 H1 ∧ preb_274 n5 n4 H0) ∧ some q0 = some (mub_274_55 n5 n4 n3 n2 n1 n0 H0 H1)) (f11 : n6 ≤ 40) (f12 : 0 ≤ n6) (f13 : n6 = hV H1 (n3).toNat 82) (f14 : n0 < n6) (f15 : n7 = 344) (f16 : n7 = hV H1 (n3).toNat 83) (f17 : n8 ≤ 1007) (f18 : 0 ≤ n8) (f19 : n8 = hV H1 (n7).toNat (n0).toNat) (f20 : n9 = 298) (f21 : n9 = hV H1 (n3).toNat 24) (f22 : n10 ≤ 5) (f23 : 0 ≤ n10) (f24 : n10 = hV H1 (n9).toNat (n8).toNat) (f25 : n10 = 0) (f26 : n11 = 8) (f27 : n1 < n11) (f28 : n12 = 305) (f29 : n12 = hV H1 (n3).toNat 31) (f30 : n13 = 6) (f31 : n14 = w32 (n13 * n8)) (f32 : n15 = 2) (f33 : n16 = w32 (n14 + n15)) (f34 : n17 ≤ 9999) (f35 : (-1) ≤ n17) (f36 : n17 = hV H1 (n12).toNat (n16).toNat) (f37 : n18 = 2) (f38 : n19 = o32 (fun x y => x / y) n17 n18) (f39 : n20 = 305) (f40 : n20 = hV H1 (n3).toNat 31) (f41 : n21 = 6) (f42 : n22 = w32 (n21 * n8)) (f43 : n23 = 5) (f44 : n24 = w32 (n22 + n23)) (f45 : n25 ≤ 9999) (f46 : (-1) ≤ n25) (f47 : n25 = hV H1 (n20).toNat (n24).toNat) (f48 : n26 = w32 (n1 + 1)) : n0 ≤ 39 := by
  have g4 := f10.2.1.1
  unfold Ab_274_55 at g4
  have g3 := f10.2.1.2
  unfold preb_274 at g3
  have e0 : n6 = hV H1 285 82 := (by rw [f6] at f13; exact f13 : n6 = hV H1 285 82)
  have e1 : n8 = hV H1 344 (n0).toNat := (by rw [f15] at f19; exact f19 : n8 = hV H1 344 (n0).toNat)
  have e2 : hV H1 298 = hV H0 298 := fRow f10.1.2.1 298 kR_274_298
  have e3 : n10 = hV H0 298 (n8).toNat := (by rw [f20] at f24; exact f24 : n10 = hV H1 298 (n8).toNat).trans ((congrFun e2 _))
  have e4 : hV H1 305 = hV H0 305 := fRow f10.1.2.1 305 kR_274_305
  have e5 : n17 = hV H0 305 (n16).toNat := (by rw [f28] at f36; exact f36 : n17 = hV H1 305 (n16).toNat).trans ((congrFun e4 _))
  have e6 : n25 = hV H0 305 (n24).toNat := (by rw [f39] at f47; exact f47 : n25 = hV H1 305 (n24).toNat).trans ((congrFun e4 _))
  have e9 : hV H1 300 = hV H0 300 := fRow f10.1.2.1 300 kR_274_300
  have e10 : hV H1 301 = hV H0 301 := fRow f10.1.2.1 301 kR_274_301
  have e11 : hV H1 302 = hV H0 302 := fRow f10.1.2.1 302 kR_274_302
  have e12 : hV H1 303 = hV H0 303 := fRow f10.1.2.1 303 kR_274_303
  have e13 : (0 : Int) ≤ hV H0 285 18 ∧ hV H0 285 18 ≤ 8 := bTo ((f10.1.2.1.1 285 18 kF_274_285_18)) (f10.1.2.2 285 18 _ _ kW_285_18)
  have e14 : (0 : Int) ≤ hV H1 285 82 ∧ hV H1 285 82 ≤ 40 := f10.1.2.2 285 82 _ _ kW_285_82
  try simp only [XQ] at *
  try simp only [e2, e9, e10, e11, e12, e4] at g4
  have k0 := g4.1
  have y0 := g4.2
  have p0 := g3.1
  have p1 := g3.2.1
  have p2 := g3.2.2
  clear g3
  clear g4
  clear f13 f16 f19 f21 f24 f29 f36 f40 f47 e2 e4 e9 e10 e11 e12
  subst e0
  subst e1
  subst e3
  subst e5
  subst e6
  first | have b38 := o32_div_pos f38 (by omega) (by omega) (by omega) (by omega) | skip
  rw [f30] at f31
  rw [f41] at f42
  try have x5 := XQp_s y0 (s := (n0).toNat) (by omega) (by omega) (by omega)
  first
  | (have ix0 : n14 = 6 * (hV H1 344 (n0).toNat) := Eq.trans f31 (w32_iv (Iml 6 rfl (Iat f18 f17)) (by decide)); subst ix0; clear f31)
  | (have ix0 : n14 = 6 * (hV H1 344 (n0).toNat) := Eq.trans f31 (w32_id (by omega) (by omega)); subst ix0; clear f31)
  | (unfold w32 at f31; have ix0 : n14 = 6 * (hV H1 344 (n0).toNat) := (by omega); subst ix0)
  | skip
  first
  | (have ix1 : n16 = (6 * (hV H1 344 (n0).toNat)) + 2 := Eq.trans f33 (w32_iv (Iad (Iml 6 rfl (Iat f18 f17)) (IC 2)) (by decide)); subst ix1; clear f33)
  | (have ix1 : n16 = (6 * (hV H1 344 (n0).toNat)) + 2 := Eq.trans f33 (w32_id (by omega) (by omega)); subst ix1; clear f33)
  | (unfold w32 at f33; have ix1 : n16 = (6 * (hV H1 344 (n0).toNat)) + 2 := (by omega); subst ix1)
  | skip
  first
  | (have ix2 : n22 = 6 * (hV H1 344 (n0).toNat) := Eq.trans f42 (w32_iv (Iml 6 rfl (Iat f18 f17)) (by decide)); subst ix2; clear f42)
  | (have ix2 : n22 = 6 * (hV H1 344 (n0).toNat) := Eq.trans f42 (w32_id (by omega) (by omega)); subst ix2; clear f42)
  | (unfold w32 at f42; have ix2 : n22 = 6 * (hV H1 344 (n0).toNat) := (by omega); subst ix2)
  | skip
  first
  | (have ix3 : n24 = (6 * (hV H1 344 (n0).toNat)) + 5 := Eq.trans f44 (w32_iv (Iad (Iml 6 rfl (Iat f18 f17)) (IC 5)) (by decide)); subst ix3; clear f44)
  | (have ix3 : n24 = (6 * (hV H1 344 (n0).toNat)) + 5 := Eq.trans f44 (w32_id (by omega) (by omega)); subst ix3; clear f44)
  | (unfold w32 at f44; have ix3 : n24 = (6 * (hV H1 344 (n0).toNat)) + 5 := (by omega); subst ix3)
  | skip
  try unfold w32 at f31
  try unfold w32 at f33
  try unfold w32 at f42
  try unfold w32 at f44
  try unfold w32 at f48
  try subst k0
  omega
theorem c_274_55_16 {q0 : Nat} : vOkm T0 (eP e_274 L_274 A_274 mu_274 (some q0)) 2 ([(10, [31, 4], [], 1), (22, [30, 25, 29], [1], 0), (90, [30], [], -1), (91, [30], [], 9999), (1, [29, 27, 28], [], 0), (0, [28], [], 5), (3, [27, 26, 8], [], 0), (0, [26], [], 6), (20, [25, 2], [1], 31), (0, [25], [], 305), (11, [24, 22, 23], [], 0), (0, [23], [], 2), (22, [22, 17, 21], [1], 0), (90, [22], [], -1), (91, [22], [], 9999), (1, [21, 19, 20], [], 0), (0, [20], [], 2), (3, [19, 18, 8], [], 0), (0, [18], [], 6), (20, [17, 2], [1], 31), (0, [17], [], 305), (42, [4, 11], [], 0), (0, [11], [], 8), (30, [10], [], 0), (22, [10, 9, 8], [1], 0), (90, [10], [], 0), (91, [10], [], 5), (20, [9, 2], [1], 24), (0, [9], [], 298), (22, [8, 7, 5], [1], 0), (90, [8], [], 0), (91, [8], [], 1007), (20, [7, 2], [1], 83), (0, [7], [], 344), (42, [5, 6], [], 0), (20, [6, 2], [1], 82), (90, [6], [], 0), (91, [6], [], 40), (5000, [0, 1, 2, 3, 4, 5], [0, 1], 55), (0, [0], [], 285), (90, [1], [], 0), (91, [1], [], 7), (0, [2], [], 285), (90, [3], [], 0), (91, [3], [], 7), (90, [4], [], -2147483648), (91, [4], [], 2147483647), (90, [5], [], 0), (91, [5], [], 40)], (91, [5], [], 39)) := vOk_inI fun ρ η f0 f1 f2 f3 f4 f5 f6 f7 f8 f9 f10 f11 f12 f13 f14 f15 f16 f17 f18 f19 f20 f21 f22 f23 f24 f25 f26 f27 f28 f29 f30 f31 f32 f33 f34 f35 f36 f37 f38 f39 f40 f41 f42 f43 f44 f45 f46 f47 f48 => q_274_24 (q0 := q0) (n0 := ρ 5) (n1 := ρ 4) (n2 := ρ 3) (n3 := ρ 2) (n4 := ρ 1) (n5 := ρ 0) (n6 := ρ 6) (n7 := ρ 7) (n8 := ρ 8) (n9 := ρ 9) (n10 := ρ 10) (n11 := ρ 11) (n12 := ρ 17) (n13 := ρ 18) (n14 := ρ 19) (n15 := ρ 20) (n16 := ρ 21) (n17 := ρ 22) (n18 := ρ 23) (n19 := ρ 24) (n20 := ρ 25) (n21 := ρ 26) (n22 := ρ 27) (n23 := ρ 28) (n24 := ρ 29) (n25 := ρ 30) (n26 := ρ 31) (H0 := η 0) (H1 := η 1) f48 f47 f46 f45 f44 f43 f42 f41 f40 f39 f38 f37 f36 f35 f34 f33 f32 f31 f30 f29 f28 f27 f26 f25 f24 f23 f22 f21 f20 f19 f18 f17 f16 f15 f14 f13 f12 f11 f10 f9 f8 f7 f6 f5 f4 f3 f2 f1 f0
theorem q_274_25 {q0 : Nat} {n0 n1 n2 n3 n4 n5 n6 n7 n8 n9 n10 n11 n12 n13 n14 n15 n16 n17 n18 n19 n20 n21 n22 n23 n24 n25 n26 : Int} {H0 H1 : gH} (f0 : n0 ≤ 40) (f1 : 0 ≤ n0) (f2 : n1 ≤ 2147483647) (f3 : (-2147483648) ≤ n1) (f4 : n2 ≤ 7) (f5 : 0 ≤ n2) (f6 : n3 = 285) (f7 : n4 ≤ 7) (f8 : 0 ≤ n4) (f9 : n5 = 285) (f10 : (hLe T0 H0 H1 ∧ hFr s_274.2.2.2.2 H0 H1 ∧ hWt T0 H1) ∧ (Ab_274_55 n5 n4 n3 n2 n1 n0 H0 H1 ∧ preb_274 n5 n4 H0) ∧ some q0 = some (mub_274_55 n5 n4 n3 n2 n1 n0 H0 H1)) (f11 : n6 ≤ 40) (f12 : 0 ≤ n6) (f13 : n6 = hV H1 (n3).toNat 82) (f14 : n0 < n6) (f15 : n7 = 344) (f16 : n7 = hV H1 (n3).toNat 83) (f17 : n8 ≤ 1007) (f18 : 0 ≤ n8) (f19 : n8 = hV H1 (n7).toNat (n0).toNat) (f20 : n9 = 298) (f21 : n9 = hV H1 (n3).toNat 24) (f22 : n10 ≤ 5) (f23 : 0 ≤ n10) (f24 : n10 = hV H1 (n9).toNat (n8).toNat) (f25 : n10 = 0) (f26 : n11 = 8) (f27 : n1 < n11) (f28 : n12 = 305) (f29 : n12 = hV H1 (n3).toNat 31) (f30 : n13 = 6) (f31 : n14 = w32 (n13 * n8)) (f32 : n15 = 2) (f33 : n16 = w32 (n14 + n15)) (f34 : n17 ≤ 9999) (f35 : (-1) ≤ n17) (f36 : n17 = hV H1 (n12).toNat (n16).toNat) (f37 : n18 = 2) (f38 : n19 = o32 (fun x y => x / y) n17 n18) (f39 : n20 = 305) (f40 : n20 = hV H1 (n3).toNat 31) (f41 : n21 = 6) (f42 : n22 = w32 (n21 * n8)) (f43 : n23 = 5) (f44 : n24 = w32 (n22 + n23)) (f45 : n25 ≤ 9999) (f46 : (-1) ≤ n25) (f47 : n25 = hV H1 (n20).toNat (n24).toNat) (f48 : n26 = w32 (n1 + 1)) : 0 ≤ n25 := by
  have g4 := f10.2.1.1
  unfold Ab_274_55 at g4
  have g3 := f10.2.1.2
  unfold preb_274 at g3
  have e0 : n6 = hV H1 285 82 := (by rw [f6] at f13; exact f13 : n6 = hV H1 285 82)
  have e1 : n8 = hV H1 344 (n0).toNat := (by rw [f15] at f19; exact f19 : n8 = hV H1 344 (n0).toNat)
  have e2 : hV H1 298 = hV H0 298 := fRow f10.1.2.1 298 kR_274_298
  have e3 : n10 = hV H0 298 (n8).toNat := (by rw [f20] at f24; exact f24 : n10 = hV H1 298 (n8).toNat).trans ((congrFun e2 _))
  have e4 : hV H1 305 = hV H0 305 := fRow f10.1.2.1 305 kR_274_305
  have e5 : n17 = hV H0 305 (n16).toNat := (by rw [f28] at f36; exact f36 : n17 = hV H1 305 (n16).toNat).trans ((congrFun e4 _))
  have e6 : n25 = hV H0 305 (n24).toNat := (by rw [f39] at f47; exact f47 : n25 = hV H1 305 (n24).toNat).trans ((congrFun e4 _))
  have e9 : hV H1 300 = hV H0 300 := fRow f10.1.2.1 300 kR_274_300
  have e10 : hV H1 301 = hV H0 301 := fRow f10.1.2.1 301 kR_274_301
  have e11 : hV H1 302 = hV H0 302 := fRow f10.1.2.1 302 kR_274_302
  have e12 : hV H1 303 = hV H0 303 := fRow f10.1.2.1 303 kR_274_303
  have e13 : (0 : Int) ≤ hV H0 285 18 ∧ hV H0 285 18 ≤ 8 := bTo ((f10.1.2.1.1 285 18 kF_274_285_18)) (f10.1.2.2 285 18 _ _ kW_285_18)
  have e14 : (0 : Int) ≤ hV H1 285 82 ∧ hV H1 285 82 ≤ 40 := f10.1.2.2 285 82 _ _ kW_285_82
  try simp only [XQ] at *
  try simp only [e2, e9, e10, e11, e12, e4] at g4
  have k0 := g4.1
  have y0 := g4.2
  have p0 := g3.1
  have p1 := g3.2.1
  have p2 := g3.2.2
  clear g3
  clear g4
  clear f13 f16 f19 f21 f24 f29 f36 f40 f47 e2 e4 e9 e10 e11 e12
  subst e0
  subst e1
  subst e3
  subst e5
  subst e6
  first | have b38 := o32_div_pos f38 (by omega) (by omega) (by omega) (by omega) | skip
  rw [f30] at f31
  rw [f41] at f42
  try have x5 := XQp_s y0 (s := (n0).toNat) (by omega) (by omega) (by omega)
  first
  | (have ix0 : n14 = 6 * (hV H1 344 (n0).toNat) := Eq.trans f31 (w32_iv (Iml 6 rfl (Iat f18 f17)) (by decide)); subst ix0; clear f31)
  | (have ix0 : n14 = 6 * (hV H1 344 (n0).toNat) := Eq.trans f31 (w32_id (by omega) (by omega)); subst ix0; clear f31)
  | (unfold w32 at f31; have ix0 : n14 = 6 * (hV H1 344 (n0).toNat) := (by omega); subst ix0)
  | skip
  first
  | (have ix1 : n16 = (6 * (hV H1 344 (n0).toNat)) + 2 := Eq.trans f33 (w32_iv (Iad (Iml 6 rfl (Iat f18 f17)) (IC 2)) (by decide)); subst ix1; clear f33)
  | (have ix1 : n16 = (6 * (hV H1 344 (n0).toNat)) + 2 := Eq.trans f33 (w32_id (by omega) (by omega)); subst ix1; clear f33)
  | (unfold w32 at f33; have ix1 : n16 = (6 * (hV H1 344 (n0).toNat)) + 2 := (by omega); subst ix1)
  | skip
  first
  | (have ix2 : n22 = 6 * (hV H1 344 (n0).toNat) := Eq.trans f42 (w32_iv (Iml 6 rfl (Iat f18 f17)) (by decide)); subst ix2; clear f42)
  | (have ix2 : n22 = 6 * (hV H1 344 (n0).toNat) := Eq.trans f42 (w32_id (by omega) (by omega)); subst ix2; clear f42)
  | (unfold w32 at f42; have ix2 : n22 = 6 * (hV H1 344 (n0).toNat) := (by omega); subst ix2)
  | skip
  first
  | (have ix3 : n24 = (6 * (hV H1 344 (n0).toNat)) + 5 := Eq.trans f44 (w32_iv (Iad (Iml 6 rfl (Iat f18 f17)) (IC 5)) (by decide)); subst ix3; clear f44)
  | (have ix3 : n24 = (6 * (hV H1 344 (n0).toNat)) + 5 := Eq.trans f44 (w32_id (by omega) (by omega)); subst ix3; clear f44)
  | (unfold w32 at f44; have ix3 : n24 = (6 * (hV H1 344 (n0).toNat)) + 5 := (by omega); subst ix3)
  | skip
  try unfold w32 at f31
  try unfold w32 at f33
  try unfold w32 at f42
  try unfold w32 at f44
  try unfold w32 at f48
  try subst k0
  omega
theorem c_274_55_17 {q0 : Nat} : vOkm T0 (eP e_274 L_274 A_274 mu_274 (some q0)) 2 ([(10, [31, 4], [], 1), (22, [30, 25, 29], [1], 0), (90, [30], [], -1), (91, [30], [], 9999), (1, [29, 27, 28], [], 0), (0, [28], [], 5), (3, [27, 26, 8], [], 0), (0, [26], [], 6), (20, [25, 2], [1], 31), (0, [25], [], 305), (11, [24, 22, 23], [], 0), (0, [23], [], 2), (22, [22, 17, 21], [1], 0), (90, [22], [], -1), (91, [22], [], 9999), (1, [21, 19, 20], [], 0), (0, [20], [], 2), (3, [19, 18, 8], [], 0), (0, [18], [], 6), (20, [17, 2], [1], 31), (0, [17], [], 305), (42, [4, 11], [], 0), (0, [11], [], 8), (30, [10], [], 0), (22, [10, 9, 8], [1], 0), (90, [10], [], 0), (91, [10], [], 5), (20, [9, 2], [1], 24), (0, [9], [], 298), (22, [8, 7, 5], [1], 0), (90, [8], [], 0), (91, [8], [], 1007), (20, [7, 2], [1], 83), (0, [7], [], 344), (42, [5, 6], [], 0), (20, [6, 2], [1], 82), (90, [6], [], 0), (91, [6], [], 40), (5000, [0, 1, 2, 3, 4, 5], [0, 1], 55), (0, [0], [], 285), (90, [1], [], 0), (91, [1], [], 7), (0, [2], [], 285), (90, [3], [], 0), (91, [3], [], 7), (90, [4], [], -2147483648), (91, [4], [], 2147483647), (90, [5], [], 0), (91, [5], [], 40)], (90, [30], [], 0)) := vOk_inI fun ρ η f0 f1 f2 f3 f4 f5 f6 f7 f8 f9 f10 f11 f12 f13 f14 f15 f16 f17 f18 f19 f20 f21 f22 f23 f24 f25 f26 f27 f28 f29 f30 f31 f32 f33 f34 f35 f36 f37 f38 f39 f40 f41 f42 f43 f44 f45 f46 f47 f48 => q_274_25 (q0 := q0) (n0 := ρ 5) (n1 := ρ 4) (n2 := ρ 3) (n3 := ρ 2) (n4 := ρ 1) (n5 := ρ 0) (n6 := ρ 6) (n7 := ρ 7) (n8 := ρ 8) (n9 := ρ 9) (n10 := ρ 10) (n11 := ρ 11) (n12 := ρ 17) (n13 := ρ 18) (n14 := ρ 19) (n15 := ρ 20) (n16 := ρ 21) (n17 := ρ 22) (n18 := ρ 23) (n19 := ρ 24) (n20 := ρ 25) (n21 := ρ 26) (n22 := ρ 27) (n23 := ρ 28) (n24 := ρ 29) (n25 := ρ 30) (n26 := ρ 31) (H0 := η 0) (H1 := η 1) f48 f47 f46 f45 f44 f43 f42 f41 f40 f39 f38 f37 f36 f35 f34 f33 f32 f31 f30 f29 f28 f27 f26 f25 f24 f23 f22 f21 f20 f19 f18 f17 f16 f15 f14 f13 f12 f11 f10 f9 f8 f7 f6 f5 f4 f3 f2 f1 f0
theorem q_274_26 {q0 : Nat} {n0 n1 n2 n3 n4 n5 n6 n7 n8 n9 n10 n11 n12 n13 n14 n15 n16 n17 n18 n19 n20 n21 n22 n23 n24 n25 n26 : Int} {H0 H1 : gH} (f0 : n0 ≤ 40) (f1 : 0 ≤ n0) (f2 : n1 ≤ 2147483647) (f3 : (-2147483648) ≤ n1) (f4 : n2 ≤ 7) (f5 : 0 ≤ n2) (f6 : n3 = 285) (f7 : n4 ≤ 7) (f8 : 0 ≤ n4) (f9 : n5 = 285) (f10 : (hLe T0 H0 H1 ∧ hFr s_274.2.2.2.2 H0 H1 ∧ hWt T0 H1) ∧ (Ab_274_55 n5 n4 n3 n2 n1 n0 H0 H1 ∧ preb_274 n5 n4 H0) ∧ some q0 = some (mub_274_55 n5 n4 n3 n2 n1 n0 H0 H1)) (f11 : n6 ≤ 40) (f12 : 0 ≤ n6) (f13 : n6 = hV H1 (n3).toNat 82) (f14 : n0 < n6) (f15 : n7 = 344) (f16 : n7 = hV H1 (n3).toNat 83) (f17 : n8 ≤ 1007) (f18 : 0 ≤ n8) (f19 : n8 = hV H1 (n7).toNat (n0).toNat) (f20 : n9 = 298) (f21 : n9 = hV H1 (n3).toNat 24) (f22 : n10 ≤ 5) (f23 : 0 ≤ n10) (f24 : n10 = hV H1 (n9).toNat (n8).toNat) (f25 : n10 = 0) (f26 : n11 = 8) (f27 : n1 < n11) (f28 : n12 = 305) (f29 : n12 = hV H1 (n3).toNat 31) (f30 : n13 = 6) (f31 : n14 = w32 (n13 * n8)) (f32 : n15 = 2) (f33 : n16 = w32 (n14 + n15)) (f34 : n17 ≤ 9999) (f35 : (-1) ≤ n17) (f36 : n17 = hV H1 (n12).toNat (n16).toNat) (f37 : n18 = 2) (f38 : n19 = o32 (fun x y => x / y) n17 n18) (f39 : n20 = 305) (f40 : n20 = hV H1 (n3).toNat 31) (f41 : n21 = 6) (f42 : n22 = w32 (n21 * n8)) (f43 : n23 = 5) (f44 : n24 = w32 (n22 + n23)) (f45 : n25 ≤ 9999) (f46 : (-1) ≤ n25) (f47 : n25 = hV H1 (n20).toNat (n24).toNat) (f48 : n26 = w32 (n1 + 1)) : n25 ≤ 2 := by
  have g4 := f10.2.1.1
  unfold Ab_274_55 at g4
  have g3 := f10.2.1.2
  unfold preb_274 at g3
  have e0 : n6 = hV H1 285 82 := (by rw [f6] at f13; exact f13 : n6 = hV H1 285 82)
  have e1 : n8 = hV H1 344 (n0).toNat := (by rw [f15] at f19; exact f19 : n8 = hV H1 344 (n0).toNat)
  have e2 : hV H1 298 = hV H0 298 := fRow f10.1.2.1 298 kR_274_298
  have e3 : n10 = hV H0 298 (n8).toNat := (by rw [f20] at f24; exact f24 : n10 = hV H1 298 (n8).toNat).trans ((congrFun e2 _))
  have e4 : hV H1 305 = hV H0 305 := fRow f10.1.2.1 305 kR_274_305
  have e5 : n17 = hV H0 305 (n16).toNat := (by rw [f28] at f36; exact f36 : n17 = hV H1 305 (n16).toNat).trans ((congrFun e4 _))
  have e6 : n25 = hV H0 305 (n24).toNat := (by rw [f39] at f47; exact f47 : n25 = hV H1 305 (n24).toNat).trans ((congrFun e4 _))
  have e9 : hV H1 300 = hV H0 300 := fRow f10.1.2.1 300 kR_274_300
  have e10 : hV H1 301 = hV H0 301 := fRow f10.1.2.1 301 kR_274_301
  have e11 : hV H1 302 = hV H0 302 := fRow f10.1.2.1 302 kR_274_302
  have e12 : hV H1 303 = hV H0 303 := fRow f10.1.2.1 303 kR_274_303
  have e13 : (0 : Int) ≤ hV H0 285 18 ∧ hV H0 285 18 ≤ 8 := bTo ((f10.1.2.1.1 285 18 kF_274_285_18)) (f10.1.2.2 285 18 _ _ kW_285_18)
  have e14 : (0 : Int) ≤ hV H1 285 82 ∧ hV H1 285 82 ≤ 40 := f10.1.2.2 285 82 _ _ kW_285_82
  try simp only [XQ] at *
  try simp only [e2, e9, e10, e11, e12, e4] at g4
  have k0 := g4.1
  have y0 := g4.2
  have p0 := g3.1
  have p1 := g3.2.1
  have p2 := g3.2.2
  clear g3
  clear g4
  clear f13 f16 f19 f21 f24 f29 f36 f40 f47 e2 e4 e9 e10 e11 e12
  subst e0
  subst e1
  subst e3
  subst e5
  subst e6
  first | have b38 := o32_div_pos f38 (by omega) (by omega) (by omega) (by omega) | skip
  rw [f30] at f31
  rw [f41] at f42
  try have x5 := XQp_s y0 (s := (n0).toNat) (by omega) (by omega) (by omega)
  first
  | (have ix0 : n14 = 6 * (hV H1 344 (n0).toNat) := Eq.trans f31 (w32_iv (Iml 6 rfl (Iat f18 f17)) (by decide)); subst ix0; clear f31)
  | (have ix0 : n14 = 6 * (hV H1 344 (n0).toNat) := Eq.trans f31 (w32_id (by omega) (by omega)); subst ix0; clear f31)
  | (unfold w32 at f31; have ix0 : n14 = 6 * (hV H1 344 (n0).toNat) := (by omega); subst ix0)
  | skip
  first
  | (have ix1 : n16 = (6 * (hV H1 344 (n0).toNat)) + 2 := Eq.trans f33 (w32_iv (Iad (Iml 6 rfl (Iat f18 f17)) (IC 2)) (by decide)); subst ix1; clear f33)
  | (have ix1 : n16 = (6 * (hV H1 344 (n0).toNat)) + 2 := Eq.trans f33 (w32_id (by omega) (by omega)); subst ix1; clear f33)
  | (unfold w32 at f33; have ix1 : n16 = (6 * (hV H1 344 (n0).toNat)) + 2 := (by omega); subst ix1)
  | skip
  first
  | (have ix2 : n22 = 6 * (hV H1 344 (n0).toNat) := Eq.trans f42 (w32_iv (Iml 6 rfl (Iat f18 f17)) (by decide)); subst ix2; clear f42)
  | (have ix2 : n22 = 6 * (hV H1 344 (n0).toNat) := Eq.trans f42 (w32_id (by omega) (by omega)); subst ix2; clear f42)
  | (unfold w32 at f42; have ix2 : n22 = 6 * (hV H1 344 (n0).toNat) := (by omega); subst ix2)
  | skip
  first
  | (have ix3 : n24 = (6 * (hV H1 344 (n0).toNat)) + 5 := Eq.trans f44 (w32_iv (Iad (Iml 6 rfl (Iat f18 f17)) (IC 5)) (by decide)); subst ix3; clear f44)
  | (have ix3 : n24 = (6 * (hV H1 344 (n0).toNat)) + 5 := Eq.trans f44 (w32_id (by omega) (by omega)); subst ix3; clear f44)
  | (unfold w32 at f44; have ix3 : n24 = (6 * (hV H1 344 (n0).toNat)) + 5 := (by omega); subst ix3)
  | skip
  try unfold w32 at f31
  try unfold w32 at f33
  try unfold w32 at f42
  try unfold w32 at f44
  try unfold w32 at f48
  try subst k0
  omega
theorem c_274_55_18 {q0 : Nat} : vOkm T0 (eP e_274 L_274 A_274 mu_274 (some q0)) 2 ([(10, [31, 4], [], 1), (22, [30, 25, 29], [1], 0), (90, [30], [], -1), (91, [30], [], 9999), (1, [29, 27, 28], [], 0), (0, [28], [], 5), (3, [27, 26, 8], [], 0), (0, [26], [], 6), (20, [25, 2], [1], 31), (0, [25], [], 305), (11, [24, 22, 23], [], 0), (0, [23], [], 2), (22, [22, 17, 21], [1], 0), (90, [22], [], -1), (91, [22], [], 9999), (1, [21, 19, 20], [], 0), (0, [20], [], 2), (3, [19, 18, 8], [], 0), (0, [18], [], 6), (20, [17, 2], [1], 31), (0, [17], [], 305), (42, [4, 11], [], 0), (0, [11], [], 8), (30, [10], [], 0), (22, [10, 9, 8], [1], 0), (90, [10], [], 0), (91, [10], [], 5), (20, [9, 2], [1], 24), (0, [9], [], 298), (22, [8, 7, 5], [1], 0), (90, [8], [], 0), (91, [8], [], 1007), (20, [7, 2], [1], 83), (0, [7], [], 344), (42, [5, 6], [], 0), (20, [6, 2], [1], 82), (90, [6], [], 0), (91, [6], [], 40), (5000, [0, 1, 2, 3, 4, 5], [0, 1], 55), (0, [0], [], 285), (90, [1], [], 0), (91, [1], [], 7), (0, [2], [], 285), (90, [3], [], 0), (91, [3], [], 7), (90, [4], [], -2147483648), (91, [4], [], 2147483647), (90, [5], [], 0), (91, [5], [], 40)], (91, [30], [], 2)) := vOk_inI fun ρ η f0 f1 f2 f3 f4 f5 f6 f7 f8 f9 f10 f11 f12 f13 f14 f15 f16 f17 f18 f19 f20 f21 f22 f23 f24 f25 f26 f27 f28 f29 f30 f31 f32 f33 f34 f35 f36 f37 f38 f39 f40 f41 f42 f43 f44 f45 f46 f47 f48 => q_274_26 (q0 := q0) (n0 := ρ 5) (n1 := ρ 4) (n2 := ρ 3) (n3 := ρ 2) (n4 := ρ 1) (n5 := ρ 0) (n6 := ρ 6) (n7 := ρ 7) (n8 := ρ 8) (n9 := ρ 9) (n10 := ρ 10) (n11 := ρ 11) (n12 := ρ 17) (n13 := ρ 18) (n14 := ρ 19) (n15 := ρ 20) (n16 := ρ 21) (n17 := ρ 22) (n18 := ρ 23) (n19 := ρ 24) (n20 := ρ 25) (n21 := ρ 26) (n22 := ρ 27) (n23 := ρ 28) (n24 := ρ 29) (n25 := ρ 30) (n26 := ρ 31) (H0 := η 0) (H1 := η 1) f48 f47 f46 f45 f44 f43 f42 f41 f40 f39 f38 f37 f36 f35 f34 f33 f32 f31 f30 f29 f28 f27 f26 f25 f24 f23 f22 f21 f20 f19 f18 f17 f16 f15 f14 f13 f12 f11 f10 f9 f8 f7 f6 f5 f4 f3 f2 f1 f0
theorem q_274_27 {q0 : Nat} {n0 n1 n2 n3 n4 n5 n6 n7 n8 n9 n10 n11 n12 n13 n14 n15 n16 n17 n18 n19 n20 n21 n22 n23 n24 n25 n26 n27 : Int} {H0 H1 : gH} (f0 : n0 ≤ 40) (f1 : 0 ≤ n0) (f2 : n1 ≤ 2147483647) (f3 : (-2147483648) ≤ n1) (f4 : n2 ≤ 7) (f5 : 0 ≤ n2) (f6 : n3 = 285) (f7 : n4 ≤ 7) (f8 : 0 ≤ n4) (f9 : n5 = 285) (f10 : (hLe T0 H0 H1 ∧ hFr s_274.2.2.2.2 H0 H1 ∧ hWt T0 H1) ∧ (Ab_274_55 n5 n4 n3 n2 n1 n0 H0 H1 ∧ preb_274 n5 n4 H0) ∧ some q0 = some (mub_274_55 n5 n4 n3 n2 n1 n0 H0 H1)) (f11 : n6 ≤ 40) (f12 : 0 ≤ n6) (f13 : n6 = hV H1 (n3).toNat 82) (f14 : n0 < n6) (f15 : n7 = 344) (f16 : n7 = hV H1 (n3).toNat 83) (f17 : n8 ≤ 1007) (f18 : 0 ≤ n8) (f19 : n8 = hV H1 (n7).toNat (n0).toNat) (f20 : n9 = 298) (f21 : n9 = hV H1 (n3).toNat 24) (f22 : n10 ≤ 5) (f23 : 0 ≤ n10) (f24 : n10 = hV H1 (n9).toNat (n8).toNat) (f25 : n10 = 0) (f26 : n11 = 8) (f27 : n1 < n11) (f28 : n12 = 305) (f29 : n12 = hV H1 (n3).toNat 31) (f30 : n13 = 6) (f31 : n14 = w32 (n13 * n8)) (f32 : n15 = 2) (f33 : n16 = w32 (n14 + n15)) (f34 : n17 ≤ 9999) (f35 : (-1) ≤ n17) (f36 : n17 = hV H1 (n12).toNat (n16).toNat) (f37 : n18 = 2) (f38 : n19 = o32 (fun x y => x / y) n17 n18) (f39 : n20 = 305) (f40 : n20 = hV H1 (n3).toNat 31) (f41 : n21 = 6) (f42 : n22 = w32 (n21 * n8)) (f43 : n23 = 5) (f44 : n24 = w32 (n22 + n23)) (f45 : n25 ≤ 9999) (f46 : (-1) ≤ n25) (f47 : n25 = hV H1 (n20).toNat (n24).toNat) (f48 : n26 = w32 (n1 + 1)) (f49 : n27 = 0) : Ab_274_153 n5 n4 n3 n2 n26 n0 n8 n19 n25 n27 H0 H1 ∧ ∀ q, some q0 = some q → mub_274_153 n5 n4 n3 n2 n26 n0 n8 n19 n25 n27 H0 H1 < q := by
  have g4 := f10.2.1.1
  unfold Ab_274_55 at g4
  have g3 := f10.2.1.2
  unfold preb_274 at g3
  have g5 := Option.some.inj f10.2.2
  unfold mub_274_55 at g5
  unfold Ab_274_153
  unfold mub_274_153
  have e0 : n6 = hV H1 285 82 := (by rw [f6] at f13; exact f13 : n6 = hV H1 285 82)
  have e1 : n8 = hV H1 344 (n0).toNat := (by rw [f15] at f19; exact f19 : n8 = hV H1 344 (n0).toNat)
  have e2 : hV H1 298 = hV H0 298 := fRow f10.1.2.1 298 kR_274_298
  have e3 : n10 = hV H0 298 (n8).toNat := (by rw [f20] at f24; exact f24 : n10 = hV H1 298 (n8).toNat).trans ((congrFun e2 _))
  have e4 : hV H1 305 = hV H0 305 := fRow f10.1.2.1 305 kR_274_305
  have e5 : n17 = hV H0 305 (n16).toNat := (by rw [f28] at f36; exact f36 : n17 = hV H1 305 (n16).toNat).trans ((congrFun e4 _))
  have e6 : n25 = hV H0 305 (n24).toNat := (by rw [f39] at f47; exact f47 : n25 = hV H1 305 (n24).toNat).trans ((congrFun e4 _))
  have e9 : hV H1 300 = hV H0 300 := fRow f10.1.2.1 300 kR_274_300
  have e10 : hV H1 301 = hV H0 301 := fRow f10.1.2.1 301 kR_274_301
  have e11 : hV H1 302 = hV H0 302 := fRow f10.1.2.1 302 kR_274_302
  have e12 : hV H1 303 = hV H0 303 := fRow f10.1.2.1 303 kR_274_303
  have e13 : (0 : Int) ≤ hV H0 285 18 ∧ hV H0 285 18 ≤ 8 := bTo ((f10.1.2.1.1 285 18 kF_274_285_18)) (f10.1.2.2 285 18 _ _ kW_285_18)
  have e14 : (0 : Int) ≤ hV H1 285 82 ∧ hV H1 285 82 ≤ 40 := f10.1.2.2 285 82 _ _ kW_285_82
  try simp only [XQ] at *
  try simp only [e2, e9, e10, e11, e12, e4] at g4
  try simp only [e2, e9, e10, e11, e12, e4]
  have k0 := g4.1
  have y0 := g4.2
  have p0 := g3.1
  have p1 := g3.2.1
  have p2 := g3.2.2
  clear g3
  clear g4
  clear f13 f16 f19 f21 f24 f29 f36 f40 f47 e2 e4 e9 e10 e11 e12
  subst e0
  subst e1
  subst e3
  subst e5
  subst e6
  first | have b38 := o32_div_pos f38 (by omega) (by omega) (by omega) (by omega) | skip
  rw [f30] at f31
  rw [f41] at f42
  try have x5 := XQp_s y0 (s := (n0).toNat) (by omega) (by omega) (by omega)
  first
  | (have ix0 : n14 = 6 * (hV H1 344 (n0).toNat) := Eq.trans f31 (w32_iv (Iml 6 rfl (Iat f18 f17)) (by decide)); subst ix0; clear f31)
  | (have ix0 : n14 = 6 * (hV H1 344 (n0).toNat) := Eq.trans f31 (w32_id (by omega) (by omega)); subst ix0; clear f31)
  | (unfold w32 at f31; have ix0 : n14 = 6 * (hV H1 344 (n0).toNat) := (by omega); subst ix0)
  | skip
  first
  | (have ix1 : n16 = (6 * (hV H1 344 (n0).toNat)) + 2 := Eq.trans f33 (w32_iv (Iad (Iml 6 rfl (Iat f18 f17)) (IC 2)) (by decide)); subst ix1; clear f33)
  | (have ix1 : n16 = (6 * (hV H1 344 (n0).toNat)) + 2 := Eq.trans f33 (w32_id (by omega) (by omega)); subst ix1; clear f33)
  | (unfold w32 at f33; have ix1 : n16 = (6 * (hV H1 344 (n0).toNat)) + 2 := (by omega); subst ix1)
  | skip
  first
  | (have ix2 : n22 = 6 * (hV H1 344 (n0).toNat) := Eq.trans f42 (w32_iv (Iml 6 rfl (Iat f18 f17)) (by decide)); subst ix2; clear f42)
  | (have ix2 : n22 = 6 * (hV H1 344 (n0).toNat) := Eq.trans f42 (w32_id (by omega) (by omega)); subst ix2; clear f42)
  | (unfold w32 at f42; have ix2 : n22 = 6 * (hV H1 344 (n0).toNat) := (by omega); subst ix2)
  | skip
  first
  | (have ix3 : n24 = (6 * (hV H1 344 (n0).toNat)) + 5 := Eq.trans f44 (w32_iv (Iad (Iml 6 rfl (Iat f18 f17)) (IC 5)) (by decide)); subst ix3; clear f44)
  | (have ix3 : n24 = (6 * (hV H1 344 (n0).toNat)) + 5 := Eq.trans f44 (w32_id (by omega) (by omega)); subst ix3; clear f44)
  | (unfold w32 at f44; have ix3 : n24 = (6 * (hV H1 344 (n0).toNat)) + 5 := (by omega); subst ix3)
  | skip
  first
  | (have ix4 : n26 = n1 + 1 := Eq.trans f48 (w32_id (by omega) (by omega)); subst ix4; clear f48)
  | (unfold w32 at f48; have ix4 : n26 = n1 + 1 := (by omega); subst ix4)
  | skip
  try unfold w32 at f31
  try unfold w32 at f33
  try unfold w32 at f42
  try unfold w32 at f44
  try unfold w32 at f48
  try subst k0
  refine ⟨?_, fun q hq => ?_⟩
  · refine ⟨?_, ?_, ?_, ?_, ?_⟩ <;> first | assumption | omega | trivial
  · have g6 := Option.some.inj hq
    subst g6
    omega
theorem c_274_55_19 {q0 : Nat} : vOkm T0 (eP e_274 L_274 A_274 mu_274 (some q0)) 2 ([(0, [32], [], 0), (10, [31, 4], [], 1), (22, [30, 25, 29], [1], 0), (90, [30], [], -1), (91, [30], [], 9999), (1, [29, 27, 28], [], 0), (0, [28], [], 5), (3, [27, 26, 8], [], 0), (0, [26], [], 6), (20, [25, 2], [1], 31), (0, [25], [], 305), (11, [24, 22, 23], [], 0), (0, [23], [], 2), (22, [22, 17, 21], [1], 0), (90, [22], [], -1), (91, [22], [], 9999), (1, [21, 19, 20], [], 0), (0, [20], [], 2), (3, [19, 18, 8], [], 0), (0, [18], [], 6), (20, [17, 2], [1], 31), (0, [17], [], 305), (42, [4, 11], [], 0), (0, [11], [], 8), (30, [10], [], 0), (22, [10, 9, 8], [1], 0), (90, [10], [], 0), (91, [10], [], 5), (20, [9, 2], [1], 24), (0, [9], [], 298), (22, [8, 7, 5], [1], 0), (90, [8], [], 0), (91, [8], [], 1007), (20, [7, 2], [1], 83), (0, [7], [], 344), (42, [5, 6], [], 0), (20, [6, 2], [1], 82), (90, [6], [], 0), (91, [6], [], 40), (5000, [0, 1, 2, 3, 4, 5], [0, 1], 55), (0, [0], [], 285), (90, [1], [], 0), (91, [1], [], 7), (0, [2], [], 285), (90, [3], [], 0), (91, [3], [], 7), (90, [4], [], -2147483648), (91, [4], [], 2147483647), (90, [5], [], 0), (91, [5], [], 40)], (4000, [2, 3, 31, 5, 8, 24, 30, 32], [1], 153)) := vOk_inI fun ρ η f0 f1 f2 f3 f4 f5 f6 f7 f8 f9 f10 f11 f12 f13 f14 f15 f16 f17 f18 f19 f20 f21 f22 f23 f24 f25 f26 f27 f28 f29 f30 f31 f32 f33 f34 f35 f36 f37 f38 f39 f40 f41 f42 f43 f44 f45 f46 f47 f48 f49 => q_274_27 (q0 := q0) (n0 := ρ 5) (n1 := ρ 4) (n2 := ρ 3) (n3 := ρ 2) (n4 := ρ 1) (n5 := ρ 0) (n6 := ρ 6) (n7 := ρ 7) (n8 := ρ 8) (n9 := ρ 9) (n10 := ρ 10) (n11 := ρ 11) (n12 := ρ 17) (n13 := ρ 18) (n14 := ρ 19) (n15 := ρ 20) (n16 := ρ 21) (n17 := ρ 22) (n18 := ρ 23) (n19 := ρ 24) (n20 := ρ 25) (n21 := ρ 26) (n22 := ρ 27) (n23 := ρ 28) (n24 := ρ 29) (n25 := ρ 30) (n26 := ρ 31) (n27 := ρ 32) (H0 := η 0) (H1 := η 1) f49 f48 f47 f46 f45 f44 f43 f42 f41 f40 f39 f38 f37 f36 f35 f34 f33 f32 f31 f30 f29 f28 f27 f26 f25 f24 f23 f22 f21 f20 f19 f18 f17 f16 f15 f14 f13 f12 f11 f10 f9 f8 f7 f6 f5 f4 f3 f2 f1 f0
theorem q_274_28 {q0 : Nat} {n0 n1 n2 n3 n4 n5 n6 n7 n8 n9 n10 n11 : Int} {H0 H1 : gH} (f0 : n0 ≤ 40) (f1 : 0 ≤ n0) (f2 : n1 ≤ 2147483647) (f3 : (-2147483648) ≤ n1) (f4 : n2 ≤ 7) (f5 : 0 ≤ n2) (f6 : n3 = 285) (f7 : n4 ≤ 7) (f8 : 0 ≤ n4) (f9 : n5 = 285) (f10 : (hLe T0 H0 H1 ∧ hFr s_274.2.2.2.2 H0 H1 ∧ hWt T0 H1) ∧ (Ab_274_55 n5 n4 n3 n2 n1 n0 H0 H1 ∧ preb_274 n5 n4 H0) ∧ some q0 = some (mub_274_55 n5 n4 n3 n2 n1 n0 H0 H1)) (f11 : n6 ≤ 40) (f12 : 0 ≤ n6) (f13 : n6 = hV H1 (n3).toNat 82) (f14 : n0 < n6) (f15 : n7 = 344) (f16 : n7 = hV H1 (n3).toNat 83) (f17 : n8 ≤ 1007) (f18 : 0 ≤ n8) (f19 : n8 = hV H1 (n7).toNat (n0).toNat) (f20 : n9 = 298) (f21 : n9 = hV H1 (n3).toNat 24) (f22 : n10 ≤ 5) (f23 : 0 ≤ n10) (f24 : n10 = hV H1 (n9).toNat (n8).toNat) (f25 : n10 ≠ 0) (f26 : n11 = w32 (n0 + 1)) : 0 ≤ n11 := by
  have g4 := f10.2.1.1
  unfold Ab_274_55 at g4
  have g3 := f10.2.1.2
  unfold preb_274 at g3
  have e0 : n6 = hV H1 285 82 := (by rw [f6] at f13; exact f13 : n6 = hV H1 285 82)
  have e1 : n8 = hV H1 344 (n0).toNat := (by rw [f15] at f19; exact f19 : n8 = hV H1 344 (n0).toNat)
  have e2 : hV H1 298 = hV H0 298 := fRow f10.1.2.1 298 kR_274_298
  have e3 : n10 = hV H0 298 (n8).toNat := (by rw [f20] at f24; exact f24 : n10 = hV H1 298 (n8).toNat).trans ((congrFun e2 _))
  have e6 : hV H1 300 = hV H0 300 := fRow f10.1.2.1 300 kR_274_300
  have e7 : hV H1 301 = hV H0 301 := fRow f10.1.2.1 301 kR_274_301
  have e8 : hV H1 302 = hV H0 302 := fRow f10.1.2.1 302 kR_274_302
  have e9 : hV H1 303 = hV H0 303 := fRow f10.1.2.1 303 kR_274_303
  have e10 : hV H1 305 = hV H0 305 := fRow f10.1.2.1 305 kR_274_305
  have e11 : (0 : Int) ≤ hV H0 285 18 ∧ hV H0 285 18 ≤ 8 := bTo ((f10.1.2.1.1 285 18 kF_274_285_18)) (f10.1.2.2 285 18 _ _ kW_285_18)
  have e12 : (0 : Int) ≤ hV H1 285 82 ∧ hV H1 285 82 ≤ 40 := f10.1.2.2 285 82 _ _ kW_285_82
  try simp only [XQ] at *
  try simp only [e2, e6, e7, e8, e9, e10] at g4
  have k0 := g4.1
  have y0 := g4.2
  have p0 := g3.1
  have p1 := g3.2.1
  have p2 := g3.2.2
  clear g3
  clear g4
  clear f13 f16 f19 f21 f24 e2 e6 e7 e8 e9 e10
  subst e0
  subst e1
  subst e3
  try have x5 := XQp_s y0 (s := (n0).toNat) (by omega) (by omega) (by omega)
  first
  | (have ix0 : n11 = n0 + 1 := Eq.trans f26 (w32_iv (Iad (Iat f1 f0) (IC 1)) (by decide)); subst ix0; clear f26)
  | (have ix0 : n11 = n0 + 1 := Eq.trans f26 (w32_id (by omega) (by omega)); subst ix0; clear f26)
  | (unfold w32 at f26; have ix0 : n11 = n0 + 1 := (by omega); subst ix0)
  | skip
  try unfold w32 at f26
  try subst k0
  omega
theorem c_274_55_20 {q0 : Nat} : vOkm T0 (eP e_274 L_274 A_274 mu_274 (some q0)) 2 ([(10, [11, 5], [], 1), (31, [10], [], 0), (22, [10, 9, 8], [1], 0), (90, [10], [], 0), (91, [10], [], 5), (20, [9, 2], [1], 24), (0, [9], [], 298), (22, [8, 7, 5], [1], 0), (90, [8], [], 0), (91, [8], [], 1007), (20, [7, 2], [1], 83), (0, [7], [], 344), (42, [5, 6], [], 0), (20, [6, 2], [1], 82), (90, [6], [], 0), (91, [6], [], 40), (5000, [0, 1, 2, 3, 4, 5], [0, 1], 55), (0, [0], [], 285), (90, [1], [], 0), (91, [1], [], 7), (0, [2], [], 285), (90, [3], [], 0), (91, [3], [], 7), (90, [4], [], -2147483648), (91, [4], [], 2147483647), (90, [5], [], 0), (91, [5], [], 40)], (90, [11], [], 0)) := vOk_inI fun ρ η f0 f1 f2 f3 f4 f5 f6 f7 f8 f9 f10 f11 f12 f13 f14 f15 f16 f17 f18 f19 f20 f21 f22 f23 f24 f25 f26 => q_274_28 (q0 := q0) (n0 := ρ 5) (n1 := ρ 4) (n2 := ρ 3) (n3 := ρ 2) (n4 := ρ 1) (n5 := ρ 0) (n6 := ρ 6) (n7 := ρ 7) (n8 := ρ 8) (n9 := ρ 9) (n10 := ρ 10) (n11 := ρ 11) (H0 := η 0) (H1 := η 1) f26 f25 f24 f23 f22 f21 f20 f19 f18 f17 f16 f15 f14 f13 f12 f11 f10 f9 f8 f7 f6 f5 f4 f3 f2 f1 f0
theorem q_274_29 {q0 : Nat} {n0 n1 n2 n3 n4 n5 n6 n7 n8 n9 n10 n11 : Int} {H0 H1 : gH} (f0 : n0 ≤ 40) (f1 : 0 ≤ n0) (f2 : n1 ≤ 2147483647) (f3 : (-2147483648) ≤ n1) (f4 : n2 ≤ 7) (f5 : 0 ≤ n2) (f6 : n3 = 285) (f7 : n4 ≤ 7) (f8 : 0 ≤ n4) (f9 : n5 = 285) (f10 : (hLe T0 H0 H1 ∧ hFr s_274.2.2.2.2 H0 H1 ∧ hWt T0 H1) ∧ (Ab_274_55 n5 n4 n3 n2 n1 n0 H0 H1 ∧ preb_274 n5 n4 H0) ∧ some q0 = some (mub_274_55 n5 n4 n3 n2 n1 n0 H0 H1)) (f11 : n6 ≤ 40) (f12 : 0 ≤ n6) (f13 : n6 = hV H1 (n3).toNat 82) (f14 : n0 < n6) (f15 : n7 = 344) (f16 : n7 = hV H1 (n3).toNat 83) (f17 : n8 ≤ 1007) (f18 : 0 ≤ n8) (f19 : n8 = hV H1 (n7).toNat (n0).toNat) (f20 : n9 = 298) (f21 : n9 = hV H1 (n3).toNat 24) (f22 : n10 ≤ 5) (f23 : 0 ≤ n10) (f24 : n10 = hV H1 (n9).toNat (n8).toNat) (f25 : n10 ≠ 0) (f26 : n11 = w32 (n0 + 1)) : n11 ≤ 40 := by
  have g4 := f10.2.1.1
  unfold Ab_274_55 at g4
  have g3 := f10.2.1.2
  unfold preb_274 at g3
  have e0 : n6 = hV H1 285 82 := (by rw [f6] at f13; exact f13 : n6 = hV H1 285 82)
  have e1 : n8 = hV H1 344 (n0).toNat := (by rw [f15] at f19; exact f19 : n8 = hV H1 344 (n0).toNat)
  have e2 : hV H1 298 = hV H0 298 := fRow f10.1.2.1 298 kR_274_298
  have e3 : n10 = hV H0 298 (n8).toNat := (by rw [f20] at f24; exact f24 : n10 = hV H1 298 (n8).toNat).trans ((congrFun e2 _))
  have e6 : hV H1 300 = hV H0 300 := fRow f10.1.2.1 300 kR_274_300
  have e7 : hV H1 301 = hV H0 301 := fRow f10.1.2.1 301 kR_274_301
  have e8 : hV H1 302 = hV H0 302 := fRow f10.1.2.1 302 kR_274_302
  have e9 : hV H1 303 = hV H0 303 := fRow f10.1.2.1 303 kR_274_303
  have e10 : hV H1 305 = hV H0 305 := fRow f10.1.2.1 305 kR_274_305
  have e11 : (0 : Int) ≤ hV H0 285 18 ∧ hV H0 285 18 ≤ 8 := bTo ((f10.1.2.1.1 285 18 kF_274_285_18)) (f10.1.2.2 285 18 _ _ kW_285_18)
  have e12 : (0 : Int) ≤ hV H1 285 82 ∧ hV H1 285 82 ≤ 40 := f10.1.2.2 285 82 _ _ kW_285_82
  try simp only [XQ] at *
  try simp only [e2, e6, e7, e8, e9, e10] at g4
  have k0 := g4.1
  have y0 := g4.2
  have p0 := g3.1
  have p1 := g3.2.1
  have p2 := g3.2.2
  clear g3
  clear g4
  clear f13 f16 f19 f21 f24 e2 e6 e7 e8 e9 e10
  subst e0
  subst e1
  subst e3
  try have x5 := XQp_s y0 (s := (n0).toNat) (by omega) (by omega) (by omega)
  first
  | (have ix0 : n11 = n0 + 1 := Eq.trans f26 (w32_iv (Iad (Iat f1 f0) (IC 1)) (by decide)); subst ix0; clear f26)
  | (have ix0 : n11 = n0 + 1 := Eq.trans f26 (w32_id (by omega) (by omega)); subst ix0; clear f26)
  | (unfold w32 at f26; have ix0 : n11 = n0 + 1 := (by omega); subst ix0)
  | skip
  try unfold w32 at f26
  try subst k0
  omega
theorem c_274_55_21 {q0 : Nat} : vOkm T0 (eP e_274 L_274 A_274 mu_274 (some q0)) 2 ([(10, [11, 5], [], 1), (31, [10], [], 0), (22, [10, 9, 8], [1], 0), (90, [10], [], 0), (91, [10], [], 5), (20, [9, 2], [1], 24), (0, [9], [], 298), (22, [8, 7, 5], [1], 0), (90, [8], [], 0), (91, [8], [], 1007), (20, [7, 2], [1], 83), (0, [7], [], 344), (42, [5, 6], [], 0), (20, [6, 2], [1], 82), (90, [6], [], 0), (91, [6], [], 40), (5000, [0, 1, 2, 3, 4, 5], [0, 1], 55), (0, [0], [], 285), (90, [1], [], 0), (91, [1], [], 7), (0, [2], [], 285), (90, [3], [], 0), (91, [3], [], 7), (90, [4], [], -2147483648), (91, [4], [], 2147483647), (90, [5], [], 0), (91, [5], [], 40)], (91, [11], [], 40)) := vOk_inI fun ρ η f0 f1 f2 f3 f4 f5 f6 f7 f8 f9 f10 f11 f12 f13 f14 f15 f16 f17 f18 f19 f20 f21 f22 f23 f24 f25 f26 => q_274_29 (q0 := q0) (n0 := ρ 5) (n1 := ρ 4) (n2 := ρ 3) (n3 := ρ 2) (n4 := ρ 1) (n5 := ρ 0) (n6 := ρ 6) (n7 := ρ 7) (n8 := ρ 8) (n9 := ρ 9) (n10 := ρ 10) (n11 := ρ 11) (H0 := η 0) (H1 := η 1) f26 f25 f24 f23 f22 f21 f20 f19 f18 f17 f16 f15 f14 f13 f12 f11 f10 f9 f8 f7 f6 f5 f4 f3 f2 f1 f0
theorem q_274_30 {q0 : Nat} {n0 n1 n2 n3 n4 n5 n6 n7 n8 n9 n10 n11 : Int} {H0 H1 : gH} (f0 : n0 ≤ 40) (f1 : 0 ≤ n0) (f2 : n1 ≤ 2147483647) (f3 : (-2147483648) ≤ n1) (f4 : n2 ≤ 7) (f5 : 0 ≤ n2) (f6 : n3 = 285) (f7 : n4 ≤ 7) (f8 : 0 ≤ n4) (f9 : n5 = 285) (f10 : (hLe T0 H0 H1 ∧ hFr s_274.2.2.2.2 H0 H1 ∧ hWt T0 H1) ∧ (Ab_274_55 n5 n4 n3 n2 n1 n0 H0 H1 ∧ preb_274 n5 n4 H0) ∧ some q0 = some (mub_274_55 n5 n4 n3 n2 n1 n0 H0 H1)) (f11 : n6 ≤ 40) (f12 : 0 ≤ n6) (f13 : n6 = hV H1 (n3).toNat 82) (f14 : n0 < n6) (f15 : n7 = 344) (f16 : n7 = hV H1 (n3).toNat 83) (f17 : n8 ≤ 1007) (f18 : 0 ≤ n8) (f19 : n8 = hV H1 (n7).toNat (n0).toNat) (f20 : n9 = 298) (f21 : n9 = hV H1 (n3).toNat 24) (f22 : n10 ≤ 5) (f23 : 0 ≤ n10) (f24 : n10 = hV H1 (n9).toNat (n8).toNat) (f25 : n10 ≠ 0) (f26 : n11 = w32 (n0 + 1)) : Ab_274_55 n5 n4 n3 n2 n1 n11 H0 H1 ∧ ∀ q, some q0 = some q → mub_274_55 n5 n4 n3 n2 n1 n11 H0 H1 < q := by
  have g4 := f10.2.1.1
  unfold Ab_274_55 at g4
  have g3 := f10.2.1.2
  unfold preb_274 at g3
  have g5 := Option.some.inj f10.2.2
  unfold mub_274_55 at g5
  unfold Ab_274_55
  unfold mub_274_55
  have e0 : n6 = hV H1 285 82 := (by rw [f6] at f13; exact f13 : n6 = hV H1 285 82)
  have e1 : n8 = hV H1 344 (n0).toNat := (by rw [f15] at f19; exact f19 : n8 = hV H1 344 (n0).toNat)
  have e2 : hV H1 298 = hV H0 298 := fRow f10.1.2.1 298 kR_274_298
  have e3 : n10 = hV H0 298 (n8).toNat := (by rw [f20] at f24; exact f24 : n10 = hV H1 298 (n8).toNat).trans ((congrFun e2 _))
  have e6 : hV H1 300 = hV H0 300 := fRow f10.1.2.1 300 kR_274_300
  have e7 : hV H1 301 = hV H0 301 := fRow f10.1.2.1 301 kR_274_301
  have e8 : hV H1 302 = hV H0 302 := fRow f10.1.2.1 302 kR_274_302
  have e9 : hV H1 303 = hV H0 303 := fRow f10.1.2.1 303 kR_274_303
  have e10 : hV H1 305 = hV H0 305 := fRow f10.1.2.1 305 kR_274_305
  have e11 : (0 : Int) ≤ hV H0 285 18 ∧ hV H0 285 18 ≤ 8 := bTo ((f10.1.2.1.1 285 18 kF_274_285_18)) (f10.1.2.2 285 18 _ _ kW_285_18)
  have e12 : (0 : Int) ≤ hV H1 285 82 ∧ hV H1 285 82 ≤ 40 := f10.1.2.2 285 82 _ _ kW_285_82
  try simp only [XQ] at *
  try simp only [e2, e6, e7, e8, e9, e10] at g4
  try simp only [e2, e6, e7, e8, e9, e10]
  have k0 := g4.1
  have y0 := g4.2
  have p0 := g3.1
  have p1 := g3.2.1
  have p2 := g3.2.2
  clear g3
  clear g4
  clear f13 f16 f19 f21 f24 e2 e6 e7 e8 e9 e10
  subst e0
  subst e1
  subst e3
  try have x5 := XQp_s y0 (s := (n0).toNat) (by omega) (by omega) (by omega)
  first
  | (have ix0 : n11 = n0 + 1 := Eq.trans f26 (w32_iv (Iad (Iat f1 f0) (IC 1)) (by decide)); subst ix0; clear f26)
  | (have ix0 : n11 = n0 + 1 := Eq.trans f26 (w32_id (by omega) (by omega)); subst ix0; clear f26)
  | (unfold w32 at f26; have ix0 : n11 = n0 + 1 := (by omega); subst ix0)
  | skip
  try unfold w32 at f26
  try subst k0
  refine ⟨?_, fun q hq => ?_⟩
  · refine ⟨?_, ?_⟩ <;> first | assumption | omega | trivial
  · have g6 := Option.some.inj hq
    subst g6
    omega
theorem c_274_55_22 {q0 : Nat} : vOkm T0 (eP e_274 L_274 A_274 mu_274 (some q0)) 2 ([(10, [11, 5], [], 1), (31, [10], [], 0), (22, [10, 9, 8], [1], 0), (90, [10], [], 0), (91, [10], [], 5), (20, [9, 2], [1], 24), (0, [9], [], 298), (22, [8, 7, 5], [1], 0), (90, [8], [], 0), (91, [8], [], 1007), (20, [7, 2], [1], 83), (0, [7], [], 344), (42, [5, 6], [], 0), (20, [6, 2], [1], 82), (90, [6], [], 0), (91, [6], [], 40), (5000, [0, 1, 2, 3, 4, 5], [0, 1], 55), (0, [0], [], 285), (90, [1], [], 0), (91, [1], [], 7), (0, [2], [], 285), (90, [3], [], 0), (91, [3], [], 7), (90, [4], [], -2147483648), (91, [4], [], 2147483647), (90, [5], [], 0), (91, [5], [], 40)], (4000, [2, 3, 4, 11], [1], 55)) := vOk_inI fun ρ η f0 f1 f2 f3 f4 f5 f6 f7 f8 f9 f10 f11 f12 f13 f14 f15 f16 f17 f18 f19 f20 f21 f22 f23 f24 f25 f26 => q_274_30 (q0 := q0) (n0 := ρ 5) (n1 := ρ 4) (n2 := ρ 3) (n3 := ρ 2) (n4 := ρ 1) (n5 := ρ 0) (n6 := ρ 6) (n7 := ρ 7) (n8 := ρ 8) (n9 := ρ 9) (n10 := ρ 10) (n11 := ρ 11) (H0 := η 0) (H1 := η 1) f26 f25 f24 f23 f22 f21 f20 f19 f18 f17 f16 f15 f14 f13 f12 f11 f10 f9 f8 f7 f6 f5 f4 f3 f2 f1 f0
def p_274_55 : List vG := [([(0, [7], [], 0), (43, [5, 6], [], 0), (20, [6, 2], [1], 82), (90, [6], [], 0), (91, [6], [], 40), (5000, [0, 1, 2, 3, 4, 5], [0, 1], 55), (0, [0], [], 285), (90, [1], [], 0), (91, [1], [], 7), (0, [2], [], 285), (90, [3], [], 0), (91, [3], [], 7), (90, [4], [], -2147483648), (91, [4], [], 2147483647), (90, [5], [], 0), (91, [5], [], 40)], (4000, [2, 3, 4, 7], [1], 243)),
  ([(42, [5, 6], [], 0), (20, [6, 2], [1], 82), (90, [6], [], 0), (91, [6], [], 40), (5000, [0, 1, 2, 3, 4, 5], [0, 1], 55), (0, [0], [], 285), (90, [1], [], 0), (91, [1], [], 7), (0, [2], [], 285), (90, [3], [], 0), (91, [3], [], 7), (90, [4], [], -2147483648), (91, [4], [], 2147483647), (90, [5], [], 0), (91, [5], [], 40)], (70, [5], [], 40)),
  ([(1, [16, 14, 15], [], 0), (0, [15], [], 2), (3, [14, 13, 8], [], 0), (0, [13], [], 6), (43, [4, 11], [], 0), (0, [11], [], 8), (30, [10], [], 0), (22, [10, 9, 8], [1], 0), (90, [10], [], 0), (91, [10], [], 5), (20, [9, 2], [1], 24), (0, [9], [], 298), (22, [8, 7, 5], [1], 0), (90, [8], [], 0), (91, [8], [], 1007), (20, [7, 2], [1], 83), (0, [7], [], 344), (42, [5, 6], [], 0), (20, [6, 2], [1], 82), (90, [6], [], 0), (91, [6], [], 40), (5000, [0, 1, 2, 3, 4, 5], [0, 1], 55), (0, [0], [], 285), (90, [1], [], 0), (91, [1], [], 7), (0, [2], [], 285), (90, [3], [], 0), (91, [3], [], 7), (90, [4], [], -2147483648), (91, [4], [], 2147483647), (90, [5], [], 0), (91, [5], [], 40)], (70, [16], [], 6048)),
  ([(1, [22, 20, 21], [], 0), (0, [21], [], 5), (3, [20, 19, 8], [], 0), (0, [19], [], 6), (20, [18, 2], [1], 31), (0, [18], [], 305), (22, [17, 12, 16], [1], 0), (90, [17], [], -1), (91, [17], [], 9999), (1, [16, 14, 15], [], 0), (0, [15], [], 2), (3, [14, 13, 8], [], 0), (0, [13], [], 6), (20, [12, 2], [1], 31), (0, [12], [], 305), (43, [4, 11], [], 0), (0, [11], [], 8), (30, [10], [], 0), (22, [10, 9, 8], [1], 0), (90, [10], [], 0), (91, [10], [], 5), (20, [9, 2], [1], 24), (0, [9], [], 298), (22, [8, 7, 5], [1], 0), (90, [8], [], 0), (91, [8], [], 1007), (20, [7, 2], [1], 83), (0, [7], [], 344), (42, [5, 6], [], 0), (20, [6, 2], [1], 82), (90, [6], [], 0), (91, [6], [], 40), (5000, [0, 1, 2, 3, 4, 5], [0, 1], 55), (0, [0], [], 285), (90, [1], [], 0), (91, [1], [], 7), (0, [2], [], 285), (90, [3], [], 0), (91, [3], [], 7), (90, [4], [], -2147483648), (91, [4], [], 2147483647), (90, [5], [], 0), (91, [5], [], 40)], (70, [22], [], 6048)),
  ([(10, [24, 4], [], 1), (22, [23, 18, 22], [1], 0), (90, [23], [], -1), (91, [23], [], 9999), (1, [22, 20, 21], [], 0), (0, [21], [], 5), (3, [20, 19, 8], [], 0), (0, [19], [], 6), (20, [18, 2], [1], 31), (0, [18], [], 305), (22, [17, 12, 16], [1], 0), (90, [17], [], -1), (91, [17], [], 9999), (1, [16, 14, 15], [], 0), (0, [15], [], 2), (3, [14, 13, 8], [], 0), (0, [13], [], 6), (20, [12, 2], [1], 31), (0, [12], [], 305), (43, [4, 11], [], 0), (0, [11], [], 8), (30, [10], [], 0), (22, [10, 9, 8], [1], 0), (90, [10], [], 0), (91, [10], [], 5), (20, [9, 2], [1], 24), (0, [9], [], 298), (22, [8, 7, 5], [1], 0), (90, [8], [], 0), (91, [8], [], 1007), (20, [7, 2], [1], 83), (0, [7], [], 344), (42, [5, 6], [], 0), (20, [6, 2], [1], 82), (90, [6], [], 0), (91, [6], [], 40), (5000, [0, 1, 2, 3, 4, 5], [0, 1], 55), (0, [0], [], 285), (90, [1], [], 0), (91, [1], [], 7), (0, [2], [], 285), (90, [3], [], 0), (91, [3], [], 7), (90, [4], [], -2147483648), (91, [4], [], 2147483647), (90, [5], [], 0), (91, [5], [], 40)], (91, [5], [], 39)),
  ([(10, [24, 4], [], 1), (22, [23, 18, 22], [1], 0), (90, [23], [], -1), (91, [23], [], 9999), (1, [22, 20, 21], [], 0), (0, [21], [], 5), (3, [20, 19, 8], [], 0), (0, [19], [], 6), (20, [18, 2], [1], 31), (0, [18], [], 305), (22, [17, 12, 16], [1], 0), (90, [17], [], -1), (91, [17], [], 9999), (1, [16, 14, 15], [], 0), (0, [15], [], 2), (3, [14, 13, 8], [], 0), (0, [13], [], 6), (20, [12, 2], [1], 31), (0, [12], [], 305), (43, [4, 11], [], 0), (0, [11], [], 8), (30, [10], [], 0), (22, [10, 9, 8], [1], 0), (90, [10], [], 0), (91, [10], [], 5), (20, [9, 2], [1], 24), (0, [9], [], 298), (22, [8, 7, 5], [1], 0), (90, [8], [], 0), (91, [8], [], 1007), (20, [7, 2], [1], 83), (0, [7], [], 344), (42, [5, 6], [], 0), (20, [6, 2], [1], 82), (90, [6], [], 0), (91, [6], [], 40), (5000, [0, 1, 2, 3, 4, 5], [0, 1], 55), (0, [0], [], 285), (90, [1], [], 0), (91, [1], [], 7), (0, [2], [], 285), (90, [3], [], 0), (91, [3], [], 7), (90, [4], [], -2147483648), (91, [4], [], 2147483647), (90, [5], [], 0), (91, [5], [], 40)], (90, [23], [], 0)),
  ([(10, [24, 4], [], 1), (22, [23, 18, 22], [1], 0), (90, [23], [], -1), (91, [23], [], 9999), (1, [22, 20, 21], [], 0), (0, [21], [], 5), (3, [20, 19, 8], [], 0), (0, [19], [], 6), (20, [18, 2], [1], 31), (0, [18], [], 305), (22, [17, 12, 16], [1], 0), (90, [17], [], -1), (91, [17], [], 9999), (1, [16, 14, 15], [], 0), (0, [15], [], 2), (3, [14, 13, 8], [], 0), (0, [13], [], 6), (20, [12, 2], [1], 31), (0, [12], [], 305), (43, [4, 11], [], 0), (0, [11], [], 8), (30, [10], [], 0), (22, [10, 9, 8], [1], 0), (90, [10], [], 0), (91, [10], [], 5), (20, [9, 2], [1], 24), (0, [9], [], 298), (22, [8, 7, 5], [1], 0), (90, [8], [], 0), (91, [8], [], 1007), (20, [7, 2], [1], 83), (0, [7], [], 344), (42, [5, 6], [], 0), (20, [6, 2], [1], 82), (90, [6], [], 0), (91, [6], [], 40), (5000, [0, 1, 2, 3, 4, 5], [0, 1], 55), (0, [0], [], 285), (90, [1], [], 0), (91, [1], [], 7), (0, [2], [], 285), (90, [3], [], 0), (91, [3], [], 7), (90, [4], [], -2147483648), (91, [4], [], 2147483647), (90, [5], [], 0), (91, [5], [], 40)], (91, [23], [], 2)),
  ([(0, [25], [], 0), (10, [24, 4], [], 1), (22, [23, 18, 22], [1], 0), (90, [23], [], -1), (91, [23], [], 9999), (1, [22, 20, 21], [], 0), (0, [21], [], 5), (3, [20, 19, 8], [], 0), (0, [19], [], 6), (20, [18, 2], [1], 31), (0, [18], [], 305), (22, [17, 12, 16], [1], 0), (90, [17], [], -1), (91, [17], [], 9999), (1, [16, 14, 15], [], 0), (0, [15], [], 2), (3, [14, 13, 8], [], 0), (0, [13], [], 6), (20, [12, 2], [1], 31), (0, [12], [], 305), (43, [4, 11], [], 0), (0, [11], [], 8), (30, [10], [], 0), (22, [10, 9, 8], [1], 0), (90, [10], [], 0), (91, [10], [], 5), (20, [9, 2], [1], 24), (0, [9], [], 298), (22, [8, 7, 5], [1], 0), (90, [8], [], 0), (91, [8], [], 1007), (20, [7, 2], [1], 83), (0, [7], [], 344), (42, [5, 6], [], 0), (20, [6, 2], [1], 82), (90, [6], [], 0), (91, [6], [], 40), (5000, [0, 1, 2, 3, 4, 5], [0, 1], 55), (0, [0], [], 285), (90, [1], [], 0), (91, [1], [], 7), (0, [2], [], 285), (90, [3], [], 0), (91, [3], [], 7), (90, [4], [], -2147483648), (91, [4], [], 2147483647), (90, [5], [], 0), (91, [5], [], 40)], (4000, [2, 3, 24, 5, 8, 17, 23, 25], [1], 153)),
  ([(1, [21, 19, 20], [], 0), (0, [20], [], 2), (3, [19, 18, 8], [], 0), (0, [18], [], 6), (42, [4, 11], [], 0), (0, [11], [], 8), (30, [10], [], 0), (22, [10, 9, 8], [1], 0), (90, [10], [], 0), (91, [10], [], 5), (20, [9, 2], [1], 24), (0, [9], [], 298), (22, [8, 7, 5], [1], 0), (90, [8], [], 0), (91, [8], [], 1007), (20, [7, 2], [1], 83), (0, [7], [], 344), (42, [5, 6], [], 0), (20, [6, 2], [1], 82), (90, [6], [], 0), (91, [6], [], 40), (5000, [0, 1, 2, 3, 4, 5], [0, 1], 55), (0, [0], [], 285), (90, [1], [], 0), (91, [1], [], 7), (0, [2], [], 285), (90, [3], [], 0), (91, [3], [], 7), (90, [4], [], -2147483648), (91, [4], [], 2147483647), (90, [5], [], 0), (91, [5], [], 40)], (70, [21], [], 6048)),
  ([(1, [27, 25, 26], [], 0), (0, [26], [], 5), (3, [25, 24, 8], [], 0), (0, [24], [], 6), (20, [23, 2], [1], 31), (0, [23], [], 305), (22, [22, 17, 21], [1], 0), (90, [22], [], -1), (91, [22], [], 9999), (1, [21, 19, 20], [], 0), (0, [20], [], 2), (3, [19, 18, 8], [], 0), (0, [18], [], 6), (20, [17, 2], [1], 31), (0, [17], [], 305), (42, [4, 11], [], 0), (0, [11], [], 8), (30, [10], [], 0), (22, [10, 9, 8], [1], 0), (90, [10], [], 0), (91, [10], [], 5), (20, [9, 2], [1], 24), (0, [9], [], 298), (22, [8, 7, 5], [1], 0), (90, [8], [], 0), (91, [8], [], 1007), (20, [7, 2], [1], 83), (0, [7], [], 344), (42, [5, 6], [], 0), (20, [6, 2], [1], 82), (90, [6], [], 0), (91, [6], [], 40), (5000, [0, 1, 2, 3, 4, 5], [0, 1], 55), (0, [0], [], 285), (90, [1], [], 0), (91, [1], [], 7), (0, [2], [], 285), (90, [3], [], 0), (91, [3], [], 7), (90, [4], [], -2147483648), (91, [4], [], 2147483647), (90, [5], [], 0), (91, [5], [], 40)], (70, [27], [], 6048)),
  ([(10, [29, 4], [], 1), (22, [28, 23, 27], [1], 0), (90, [28], [], -1), (91, [28], [], 9999), (1, [27, 25, 26], [], 0), (0, [26], [], 5), (3, [25, 24, 8], [], 0), (0, [24], [], 6), (20, [23, 2], [1], 31), (0, [23], [], 305), (22, [22, 17, 21], [1], 0), (90, [22], [], -1), (91, [22], [], 9999), (1, [21, 19, 20], [], 0), (0, [20], [], 2), (3, [19, 18, 8], [], 0), (0, [18], [], 6), (20, [17, 2], [1], 31), (0, [17], [], 305), (42, [4, 11], [], 0), (0, [11], [], 8), (30, [10], [], 0), (22, [10, 9, 8], [1], 0), (90, [10], [], 0), (91, [10], [], 5), (20, [9, 2], [1], 24), (0, [9], [], 298), (22, [8, 7, 5], [1], 0), (90, [8], [], 0), (91, [8], [], 1007), (20, [7, 2], [1], 83), (0, [7], [], 344), (42, [5, 6], [], 0), (20, [6, 2], [1], 82), (90, [6], [], 0), (91, [6], [], 40), (5000, [0, 1, 2, 3, 4, 5], [0, 1], 55), (0, [0], [], 285), (90, [1], [], 0), (91, [1], [], 7), (0, [2], [], 285), (90, [3], [], 0), (91, [3], [], 7), (90, [4], [], -2147483648), (91, [4], [], 2147483647), (90, [5], [], 0), (91, [5], [], 40)], (91, [5], [], 39)),
  ([(10, [29, 4], [], 1), (22, [28, 23, 27], [1], 0), (90, [28], [], -1), (91, [28], [], 9999), (1, [27, 25, 26], [], 0), (0, [26], [], 5), (3, [25, 24, 8], [], 0), (0, [24], [], 6), (20, [23, 2], [1], 31), (0, [23], [], 305), (22, [22, 17, 21], [1], 0), (90, [22], [], -1), (91, [22], [], 9999), (1, [21, 19, 20], [], 0), (0, [20], [], 2), (3, [19, 18, 8], [], 0), (0, [18], [], 6), (20, [17, 2], [1], 31), (0, [17], [], 305), (42, [4, 11], [], 0), (0, [11], [], 8), (30, [10], [], 0), (22, [10, 9, 8], [1], 0), (90, [10], [], 0), (91, [10], [], 5), (20, [9, 2], [1], 24), (0, [9], [], 298), (22, [8, 7, 5], [1], 0), (90, [8], [], 0), (91, [8], [], 1007), (20, [7, 2], [1], 83), (0, [7], [], 344), (42, [5, 6], [], 0), (20, [6, 2], [1], 82), (90, [6], [], 0), (91, [6], [], 40), (5000, [0, 1, 2, 3, 4, 5], [0, 1], 55), (0, [0], [], 285), (90, [1], [], 0), (91, [1], [], 7), (0, [2], [], 285), (90, [3], [], 0), (91, [3], [], 7), (90, [4], [], -2147483648), (91, [4], [], 2147483647), (90, [5], [], 0), (91, [5], [], 40)], (90, [28], [], 0)),
  ([(10, [29, 4], [], 1), (22, [28, 23, 27], [1], 0), (90, [28], [], -1), (91, [28], [], 9999), (1, [27, 25, 26], [], 0), (0, [26], [], 5), (3, [25, 24, 8], [], 0), (0, [24], [], 6), (20, [23, 2], [1], 31), (0, [23], [], 305), (22, [22, 17, 21], [1], 0), (90, [22], [], -1), (91, [22], [], 9999), (1, [21, 19, 20], [], 0), (0, [20], [], 2), (3, [19, 18, 8], [], 0), (0, [18], [], 6), (20, [17, 2], [1], 31), (0, [17], [], 305), (42, [4, 11], [], 0), (0, [11], [], 8), (30, [10], [], 0), (22, [10, 9, 8], [1], 0), (90, [10], [], 0), (91, [10], [], 5), (20, [9, 2], [1], 24), (0, [9], [], 298), (22, [8, 7, 5], [1], 0), (90, [8], [], 0), (91, [8], [], 1007), (20, [7, 2], [1], 83), (0, [7], [], 344), (42, [5, 6], [], 0), (20, [6, 2], [1], 82), (90, [6], [], 0), (91, [6], [], 40), (5000, [0, 1, 2, 3, 4, 5], [0, 1], 55), (0, [0], [], 285), (90, [1], [], 0), (91, [1], [], 7), (0, [2], [], 285), (90, [3], [], 0), (91, [3], [], 7), (90, [4], [], -2147483648), (91, [4], [], 2147483647), (90, [5], [], 0), (91, [5], [], 40)], (91, [28], [], 2)),
  ([(0, [30], [], 0), (10, [29, 4], [], 1), (22, [28, 23, 27], [1], 0), (90, [28], [], -1), (91, [28], [], 9999), (1, [27, 25, 26], [], 0), (0, [26], [], 5), (3, [25, 24, 8], [], 0), (0, [24], [], 6), (20, [23, 2], [1], 31), (0, [23], [], 305), (22, [22, 17, 21], [1], 0), (90, [22], [], -1), (91, [22], [], 9999), (1, [21, 19, 20], [], 0), (0, [20], [], 2), (3, [19, 18, 8], [], 0), (0, [18], [], 6), (20, [17, 2], [1], 31), (0, [17], [], 305), (42, [4, 11], [], 0), (0, [11], [], 8), (30, [10], [], 0), (22, [10, 9, 8], [1], 0), (90, [10], [], 0), (91, [10], [], 5), (20, [9, 2], [1], 24), (0, [9], [], 298), (22, [8, 7, 5], [1], 0), (90, [8], [], 0), (91, [8], [], 1007), (20, [7, 2], [1], 83), (0, [7], [], 344), (42, [5, 6], [], 0), (20, [6, 2], [1], 82), (90, [6], [], 0), (91, [6], [], 40), (5000, [0, 1, 2, 3, 4, 5], [0, 1], 55), (0, [0], [], 285), (90, [1], [], 0), (91, [1], [], 7), (0, [2], [], 285), (90, [3], [], 0), (91, [3], [], 7), (90, [4], [], -2147483648), (91, [4], [], 2147483647), (90, [5], [], 0), (91, [5], [], 40)], (4000, [2, 3, 29, 5, 8, 22, 28, 30], [1], 153)),
  ([(1, [21, 19, 20], [], 0), (0, [20], [], 2), (3, [19, 18, 8], [], 0), (0, [18], [], 6), (42, [4, 11], [], 0), (0, [11], [], 8), (30, [10], [], 0), (22, [10, 9, 8], [1], 0), (90, [10], [], 0), (91, [10], [], 5), (20, [9, 2], [1], 24), (0, [9], [], 298), (22, [8, 7, 5], [1], 0), (90, [8], [], 0), (91, [8], [], 1007), (20, [7, 2], [1], 83), (0, [7], [], 344), (42, [5, 6], [], 0), (20, [6, 2], [1], 82), (90, [6], [], 0), (91, [6], [], 40), (5000, [0, 1, 2, 3, 4, 5], [0, 1], 55), (0, [0], [], 285), (90, [1], [], 0), (91, [1], [], 7), (0, [2], [], 285), (90, [3], [], 0), (91, [3], [], 7), (90, [4], [], -2147483648), (91, [4], [], 2147483647), (90, [5], [], 0), (91, [5], [], 40)], (70, [21], [], 6048)),
  ([(1, [29, 27, 28], [], 0), (0, [28], [], 5), (3, [27, 26, 8], [], 0), (0, [26], [], 6), (20, [25, 2], [1], 31), (0, [25], [], 305), (11, [24, 22, 23], [], 0), (0, [23], [], 2), (22, [22, 17, 21], [1], 0), (90, [22], [], -1), (91, [22], [], 9999), (1, [21, 19, 20], [], 0), (0, [20], [], 2), (3, [19, 18, 8], [], 0), (0, [18], [], 6), (20, [17, 2], [1], 31), (0, [17], [], 305), (42, [4, 11], [], 0), (0, [11], [], 8), (30, [10], [], 0), (22, [10, 9, 8], [1], 0), (90, [10], [], 0), (91, [10], [], 5), (20, [9, 2], [1], 24), (0, [9], [], 298), (22, [8, 7, 5], [1], 0), (90, [8], [], 0), (91, [8], [], 1007), (20, [7, 2], [1], 83), (0, [7], [], 344), (42, [5, 6], [], 0), (20, [6, 2], [1], 82), (90, [6], [], 0), (91, [6], [], 40), (5000, [0, 1, 2, 3, 4, 5], [0, 1], 55), (0, [0], [], 285), (90, [1], [], 0), (91, [1], [], 7), (0, [2], [], 285), (90, [3], [], 0), (91, [3], [], 7), (90, [4], [], -2147483648), (91, [4], [], 2147483647), (90, [5], [], 0), (91, [5], [], 40)], (70, [29], [], 6048)),
  ([(10, [31, 4], [], 1), (22, [30, 25, 29], [1], 0), (90, [30], [], -1), (91, [30], [], 9999), (1, [29, 27, 28], [], 0), (0, [28], [], 5), (3, [27, 26, 8], [], 0), (0, [26], [], 6), (20, [25, 2], [1], 31), (0, [25], [], 305), (11, [24, 22, 23], [], 0), (0, [23], [], 2), (22, [22, 17, 21], [1], 0), (90, [22], [], -1), (91, [22], [], 9999), (1, [21, 19, 20], [], 0), (0, [20], [], 2), (3, [19, 18, 8], [], 0), (0, [18], [], 6), (20, [17, 2], [1], 31), (0, [17], [], 305), (42, [4, 11], [], 0), (0, [11], [], 8), (30, [10], [], 0), (22, [10, 9, 8], [1], 0), (90, [10], [], 0), (91, [10], [], 5), (20, [9, 2], [1], 24), (0, [9], [], 298), (22, [8, 7, 5], [1], 0), (90, [8], [], 0), (91, [8], [], 1007), (20, [7, 2], [1], 83), (0, [7], [], 344), (42, [5, 6], [], 0), (20, [6, 2], [1], 82), (90, [6], [], 0), (91, [6], [], 40), (5000, [0, 1, 2, 3, 4, 5], [0, 1], 55), (0, [0], [], 285), (90, [1], [], 0), (91, [1], [], 7), (0, [2], [], 285), (90, [3], [], 0), (91, [3], [], 7), (90, [4], [], -2147483648), (91, [4], [], 2147483647), (90, [5], [], 0), (91, [5], [], 40)], (91, [5], [], 39)),
  ([(10, [31, 4], [], 1), (22, [30, 25, 29], [1], 0), (90, [30], [], -1), (91, [30], [], 9999), (1, [29, 27, 28], [], 0), (0, [28], [], 5), (3, [27, 26, 8], [], 0), (0, [26], [], 6), (20, [25, 2], [1], 31), (0, [25], [], 305), (11, [24, 22, 23], [], 0), (0, [23], [], 2), (22, [22, 17, 21], [1], 0), (90, [22], [], -1), (91, [22], [], 9999), (1, [21, 19, 20], [], 0), (0, [20], [], 2), (3, [19, 18, 8], [], 0), (0, [18], [], 6), (20, [17, 2], [1], 31), (0, [17], [], 305), (42, [4, 11], [], 0), (0, [11], [], 8), (30, [10], [], 0), (22, [10, 9, 8], [1], 0), (90, [10], [], 0), (91, [10], [], 5), (20, [9, 2], [1], 24), (0, [9], [], 298), (22, [8, 7, 5], [1], 0), (90, [8], [], 0), (91, [8], [], 1007), (20, [7, 2], [1], 83), (0, [7], [], 344), (42, [5, 6], [], 0), (20, [6, 2], [1], 82), (90, [6], [], 0), (91, [6], [], 40), (5000, [0, 1, 2, 3, 4, 5], [0, 1], 55), (0, [0], [], 285), (90, [1], [], 0), (91, [1], [], 7), (0, [2], [], 285), (90, [3], [], 0), (91, [3], [], 7), (90, [4], [], -2147483648), (91, [4], [], 2147483647), (90, [5], [], 0), (91, [5], [], 40)], (90, [30], [], 0)),
  ([(10, [31, 4], [], 1), (22, [30, 25, 29], [1], 0), (90, [30], [], -1), (91, [30], [], 9999), (1, [29, 27, 28], [], 0), (0, [28], [], 5), (3, [27, 26, 8], [], 0), (0, [26], [], 6), (20, [25, 2], [1], 31), (0, [25], [], 305), (11, [24, 22, 23], [], 0), (0, [23], [], 2), (22, [22, 17, 21], [1], 0), (90, [22], [], -1), (91, [22], [], 9999), (1, [21, 19, 20], [], 0), (0, [20], [], 2), (3, [19, 18, 8], [], 0), (0, [18], [], 6), (20, [17, 2], [1], 31), (0, [17], [], 305), (42, [4, 11], [], 0), (0, [11], [], 8), (30, [10], [], 0), (22, [10, 9, 8], [1], 0), (90, [10], [], 0), (91, [10], [], 5), (20, [9, 2], [1], 24), (0, [9], [], 298), (22, [8, 7, 5], [1], 0), (90, [8], [], 0), (91, [8], [], 1007), (20, [7, 2], [1], 83), (0, [7], [], 344), (42, [5, 6], [], 0), (20, [6, 2], [1], 82), (90, [6], [], 0), (91, [6], [], 40), (5000, [0, 1, 2, 3, 4, 5], [0, 1], 55), (0, [0], [], 285), (90, [1], [], 0), (91, [1], [], 7), (0, [2], [], 285), (90, [3], [], 0), (91, [3], [], 7), (90, [4], [], -2147483648), (91, [4], [], 2147483647), (90, [5], [], 0), (91, [5], [], 40)], (91, [30], [], 2)),
  ([(0, [32], [], 0), (10, [31, 4], [], 1), (22, [30, 25, 29], [1], 0), (90, [30], [], -1), (91, [30], [], 9999), (1, [29, 27, 28], [], 0), (0, [28], [], 5), (3, [27, 26, 8], [], 0), (0, [26], [], 6), (20, [25, 2], [1], 31), (0, [25], [], 305), (11, [24, 22, 23], [], 0), (0, [23], [], 2), (22, [22, 17, 21], [1], 0), (90, [22], [], -1), (91, [22], [], 9999), (1, [21, 19, 20], [], 0), (0, [20], [], 2), (3, [19, 18, 8], [], 0), (0, [18], [], 6), (20, [17, 2], [1], 31), (0, [17], [], 305), (42, [4, 11], [], 0), (0, [11], [], 8), (30, [10], [], 0), (22, [10, 9, 8], [1], 0), (90, [10], [], 0), (91, [10], [], 5), (20, [9, 2], [1], 24), (0, [9], [], 298), (22, [8, 7, 5], [1], 0), (90, [8], [], 0), (91, [8], [], 1007), (20, [7, 2], [1], 83), (0, [7], [], 344), (42, [5, 6], [], 0), (20, [6, 2], [1], 82), (90, [6], [], 0), (91, [6], [], 40), (5000, [0, 1, 2, 3, 4, 5], [0, 1], 55), (0, [0], [], 285), (90, [1], [], 0), (91, [1], [], 7), (0, [2], [], 285), (90, [3], [], 0), (91, [3], [], 7), (90, [4], [], -2147483648), (91, [4], [], 2147483647), (90, [5], [], 0), (91, [5], [], 40)], (4000, [2, 3, 31, 5, 8, 24, 30, 32], [1], 153)),
  ([(10, [11, 5], [], 1), (31, [10], [], 0), (22, [10, 9, 8], [1], 0), (90, [10], [], 0), (91, [10], [], 5), (20, [9, 2], [1], 24), (0, [9], [], 298), (22, [8, 7, 5], [1], 0), (90, [8], [], 0), (91, [8], [], 1007), (20, [7, 2], [1], 83), (0, [7], [], 344), (42, [5, 6], [], 0), (20, [6, 2], [1], 82), (90, [6], [], 0), (91, [6], [], 40), (5000, [0, 1, 2, 3, 4, 5], [0, 1], 55), (0, [0], [], 285), (90, [1], [], 0), (91, [1], [], 7), (0, [2], [], 285), (90, [3], [], 0), (91, [3], [], 7), (90, [4], [], -2147483648), (91, [4], [], 2147483647), (90, [5], [], 0), (91, [5], [], 40)], (90, [11], [], 0)),
  ([(10, [11, 5], [], 1), (31, [10], [], 0), (22, [10, 9, 8], [1], 0), (90, [10], [], 0), (91, [10], [], 5), (20, [9, 2], [1], 24), (0, [9], [], 298), (22, [8, 7, 5], [1], 0), (90, [8], [], 0), (91, [8], [], 1007), (20, [7, 2], [1], 83), (0, [7], [], 344), (42, [5, 6], [], 0), (20, [6, 2], [1], 82), (90, [6], [], 0), (91, [6], [], 40), (5000, [0, 1, 2, 3, 4, 5], [0, 1], 55), (0, [0], [], 285), (90, [1], [], 0), (91, [1], [], 7), (0, [2], [], 285), (90, [3], [], 0), (91, [3], [], 7), (90, [4], [], -2147483648), (91, [4], [], 2147483647), (90, [5], [], 0), (91, [5], [], 40)], (91, [11], [], 40)),
  ([(10, [11, 5], [], 1), (31, [10], [], 0), (22, [10, 9, 8], [1], 0), (90, [10], [], 0), (91, [10], [], 5), (20, [9, 2], [1], 24), (0, [9], [], 298), (22, [8, 7, 5], [1], 0), (90, [8], [], 0), (91, [8], [], 1007), (20, [7, 2], [1], 83), (0, [7], [], 344), (42, [5, 6], [], 0), (20, [6, 2], [1], 82), (90, [6], [], 0), (91, [6], [], 40), (5000, [0, 1, 2, 3, 4, 5], [0, 1], 55), (0, [0], [], 285), (90, [1], [], 0), (91, [1], [], 7), (0, [2], [], 285), (90, [3], [], 0), (91, [3], [], 7), (90, [4], [], -2147483648), (91, [4], [], 2147483647), (90, [5], [], 0), (91, [5], [], 40)], (4000, [2, 3, 4, 11], [1], 55))]
theorem r_274_55 : vCovO false (eRc e_274 L_274 cs_274 2000 (55, [(0, (3, 12, 285, 0)), (1, (0, 0, 7, 0)), (2, (0, -2147483648, 2147483647, 0)), (3, (0, 0, 40, 0))])) p_274_55 = true := by decide +kernel
theorem q_274_31 {q0 : Nat} {n0 n1 n2 n3 n4 n5 n6 n7 n8 n9 n10 n11 : Int} {H0 H1 : gH} (f0 : n0 ≤ 240) (f1 : 0 ≤ n0) (f2 : n1 ≤ 2) (f3 : 0 ≤ n1) (f4 : n2 ≤ 2147483647) (f5 : (-2147483648) ≤ n2) (f6 : n3 ≤ 1007) (f7 : 0 ≤ n3) (f8 : n4 ≤ 39) (f9 : 0 ≤ n4) (f10 : n5 ≤ 2147483647) (f11 : (-2147483648) ≤ n5) (f12 : n6 ≤ 7) (f13 : 0 ≤ n6) (f14 : n7 = 285) (f15 : n8 ≤ 7) (f16 : 0 ≤ n8) (f17 : n9 = 285) (f18 : (hLe T0 H0 H1 ∧ hFr s_274.2.2.2.2 H0 H1 ∧ hWt T0 H1) ∧ (Ab_274_153 n9 n8 n7 n6 n5 n4 n3 n2 n1 n0 H0 H1 ∧ preb_274 n9 n8 H0) ∧ some q0 = some (mub_274_153 n9 n8 n7 n6 n5 n4 n3 n2 n1 n0 H0 H1)) (f19 : n10 ≤ 240) (f20 : 0 ≤ n10) (f21 : n10 = hV H1 (n7).toNat 93) (f22 : n10 ≤ n0) (f23 : n11 = w32 (n4 + 1)) : 0 ≤ n11 := by
  have g4 := f18.2.1.1
  unfold Ab_274_153 at g4
  have g3 := f18.2.1.2
  unfold preb_274 at g3
  have e0 : n10 = hV H1 285 93 := (by rw [f14] at f21; exact f21 : n10 = hV H1 285 93)
  have e3 : hV H1 298 = hV H0 298 := fRow f18.1.2.1 298 kR_274_298
  have e4 : hV H1 300 = hV H0 300 := fRow f18.1.2.1 300 kR_274_300
  have e5 : hV H1 301 = hV H0 301 := fRow f18.1.2.1 301 kR_274_301
  have e6 : hV H1 302 = hV H0 302 := fRow f18.1.2.1 302 kR_274_302
  have e7 : hV H1 303 = hV H0 303 := fRow f18.1.2.1 303 kR_274_303
  have e8 : hV H1 305 = hV H0 305 := fRow f18.1.2.1 305 kR_274_305
  have e9 : (0 : Int) ≤ hV H0 285 18 ∧ hV H0 285 18 ≤ 8 := bTo ((f18.1.2.1.1 285 18 kF_274_285_18)) (f18.1.2.2 285 18 _ _ kW_285_18)
  have e10 : (0 : Int) ≤ hV H1 285 82 ∧ hV H1 285 82 ≤ 40 := f18.1.2.2 285 82 _ _ kW_285_82
  try simp only [XQ] at *
  try simp only [e3, e4, e5, e6, e7, e8] at g4
  have k0 := g4.1
  have y0 := g4.2.1
  have y1 := g4.2.2.1
  have y2 := g4.2.2.2.1
  have y3 := g4.2.2.2.2
  have p0 := g3.1
  have p1 := g3.2.1
  have p2 := g3.2.2
  clear g3
  clear g4
  clear f21 e3 e4 e5 e6 e7 e8
  subst e0
  first
  | (have ix0 : n11 = n4 + 1 := Eq.trans f23 (w32_iv (Iad (Iat f9 f8) (IC 1)) (by decide)); subst ix0; clear f23)
  | (have ix0 : n11 = n4 + 1 := Eq.trans f23 (w32_id (by omega) (by omega)); subst ix0; clear f23)
  | (unfold w32 at f23; have ix0 : n11 = n4 + 1 := (by omega); subst ix0)
  | skip
  try unfold w32 at f23
  try subst k0
  subst y0
  omega
theorem c_274_153_0 {q0 : Nat} : vOkm T0 (eP e_274 L_274 A_274 mu_274 (some q0)) 2 ([(10, [11, 5], [], 1), (43, [9, 10], [], 0), (20, [10, 2], [1], 93), (90, [10], [], 0), (91, [10], [], 240), (5000, [0, 1, 2, 3, 4, 5, 6, 7, 8, 9], [0, 1], 153), (0, [0], [], 285), (90, [1], [], 0), (91, [1], [], 7), (0, [2], [], 285), (90, [3], [], 0), (91, [3], [], 7), (90, [4], [], -2147483648), (91, [4], [], 2147483647), (90, [5], [], 0), (91, [5], [], 39), (90, [6], [], 0), (91, [6], [], 1007), (90, [7], [], -2147483648), (91, [7], [], 2147483647), (90, [8], [], 0), (91, [8], [], 2), (90, [9], [], 0), (91, [9], [], 240)], (90, [11], [], 0)) := vOk_inI fun ρ η f0 f1 f2 f3 f4 f5 f6 f7 f8 f9 f10 f11 f12 f13 f14 f15 f16 f17 f18 f19 f20 f21 f22 f23 => q_274_31 (q0 := q0) (n0 := ρ 9) (n1 := ρ 8) (n2 := ρ 7) (n3 := ρ 6) (n4 := ρ 5) (n5 := ρ 4) (n6 := ρ 3) (n7 := ρ 2) (n8 := ρ 1) (n9 := ρ 0) (n10 := ρ 10) (n11 := ρ 11) (H0 := η 0) (H1 := η 1) f23 f22 f21 f20 f19 f18 f17 f16 f15 f14 f13 f12 f11 f10 f9 f8 f7 f6 f5 f4 f3 f2 f1 f0
theorem q_274_32 {q0 : Nat} {n0 n1 n2 n3 n4 n5 n6 n7 n8 n9 n10 n11 : Int} {H0 H1 : gH} (f0 : n0 ≤ 240) (f1 : 0 ≤ n0) (f2 : n1 ≤ 2) (f3 : 0 ≤ n1) (f4 : n2 ≤ 2147483647) (f5 : (-2147483648) ≤ n2) (f6 : n3 ≤ 1007) (f7 : 0 ≤ n3) (f8 : n4 ≤ 39) (f9 : 0 ≤ n4) (f10 : n5 ≤ 2147483647) (f11 : (-2147483648) ≤ n5) (f12 : n6 ≤ 7) (f13 : 0 ≤ n6) (f14 : n7 = 285) (f15 : n8 ≤ 7) (f16 : 0 ≤ n8) (f17 : n9 = 285) (f18 : (hLe T0 H0 H1 ∧ hFr s_274.2.2.2.2 H0 H1 ∧ hWt T0 H1) ∧ (Ab_274_153 n9 n8 n7 n6 n5 n4 n3 n2 n1 n0 H0 H1 ∧ preb_274 n9 n8 H0) ∧ some q0 = some (mub_274_153 n9 n8 n7 n6 n5 n4 n3 n2 n1 n0 H0 H1)) (f19 : n10 ≤ 240) (f20 : 0 ≤ n10) (f21 : n10 = hV H1 (n7).toNat 93) (f22 : n10 ≤ n0) (f23 : n11 = w32 (n4 + 1)) : n11 ≤ 40 := by
  have g4 := f18.2.1.1
  unfold Ab_274_153 at g4
  have g3 := f18.2.1.2
  unfold preb_274 at g3
  have e0 : n10 = hV H1 285 93 := (by rw [f14] at f21; exact f21 : n10 = hV H1 285 93)
  have e3 : hV H1 298 = hV H0 298 := fRow f18.1.2.1 298 kR_274_298
  have e4 : hV H1 300 = hV H0 300 := fRow f18.1.2.1 300 kR_274_300
  have e5 : hV H1 301 = hV H0 301 := fRow f18.1.2.1 301 kR_274_301
  have e6 : hV H1 302 = hV H0 302 := fRow f18.1.2.1 302 kR_274_302
  have e7 : hV H1 303 = hV H0 303 := fRow f18.1.2.1 303 kR_274_303
  have e8 : hV H1 305 = hV H0 305 := fRow f18.1.2.1 305 kR_274_305
  have e9 : (0 : Int) ≤ hV H0 285 18 ∧ hV H0 285 18 ≤ 8 := bTo ((f18.1.2.1.1 285 18 kF_274_285_18)) (f18.1.2.2 285 18 _ _ kW_285_18)
  have e10 : (0 : Int) ≤ hV H1 285 82 ∧ hV H1 285 82 ≤ 40 := f18.1.2.2 285 82 _ _ kW_285_82
  try simp only [XQ] at *
  try simp only [e3, e4, e5, e6, e7, e8] at g4
  have k0 := g4.1
  have y0 := g4.2.1
  have y1 := g4.2.2.1
  have y2 := g4.2.2.2.1
  have y3 := g4.2.2.2.2
  have p0 := g3.1
  have p1 := g3.2.1
  have p2 := g3.2.2
  clear g3
  clear g4
  clear f21 e3 e4 e5 e6 e7 e8
  subst e0
  first
  | (have ix0 : n11 = n4 + 1 := Eq.trans f23 (w32_iv (Iad (Iat f9 f8) (IC 1)) (by decide)); subst ix0; clear f23)
  | (have ix0 : n11 = n4 + 1 := Eq.trans f23 (w32_id (by omega) (by omega)); subst ix0; clear f23)
  | (unfold w32 at f23; have ix0 : n11 = n4 + 1 := (by omega); subst ix0)
  | skip
  try unfold w32 at f23
  try subst k0
  subst y0
  omega
theorem c_274_153_1 {q0 : Nat} : vOkm T0 (eP e_274 L_274 A_274 mu_274 (some q0)) 2 ([(10, [11, 5], [], 1), (43, [9, 10], [], 0), (20, [10, 2], [1], 93), (90, [10], [], 0), (91, [10], [], 240), (5000, [0, 1, 2, 3, 4, 5, 6, 7, 8, 9], [0, 1], 153), (0, [0], [], 285), (90, [1], [], 0), (91, [1], [], 7), (0, [2], [], 285), (90, [3], [], 0), (91, [3], [], 7), (90, [4], [], -2147483648), (91, [4], [], 2147483647), (90, [5], [], 0), (91, [5], [], 39), (90, [6], [], 0), (91, [6], [], 1007), (90, [7], [], -2147483648), (91, [7], [], 2147483647), (90, [8], [], 0), (91, [8], [], 2), (90, [9], [], 0), (91, [9], [], 240)], (91, [11], [], 40)) := vOk_inI fun ρ η f0 f1 f2 f3 f4 f5 f6 f7 f8 f9 f10 f11 f12 f13 f14 f15 f16 f17 f18 f19 f20 f21 f22 f23 => q_274_32 (q0 := q0) (n0 := ρ 9) (n1 := ρ 8) (n2 := ρ 7) (n3 := ρ 6) (n4 := ρ 5) (n5 := ρ 4) (n6 := ρ 3) (n7 := ρ 2) (n8 := ρ 1) (n9 := ρ 0) (n10 := ρ 10) (n11 := ρ 11) (H0 := η 0) (H1 := η 1) f23 f22 f21 f20 f19 f18 f17 f16 f15 f14 f13 f12 f11 f10 f9 f8 f7 f6 f5 f4 f3 f2 f1 f0
theorem q_274_33 {q0 : Nat} {n0 n1 n2 n3 n4 n5 n6 n7 n8 n9 n10 n11 : Int} {H0 H1 : gH} (f0 : n0 ≤ 240) (f1 : 0 ≤ n0) (f2 : n1 ≤ 2) (f3 : 0 ≤ n1) (f4 : n2 ≤ 2147483647) (f5 : (-2147483648) ≤ n2) (f6 : n3 ≤ 1007) (f7 : 0 ≤ n3) (f8 : n4 ≤ 39) (f9 : 0 ≤ n4) (f10 : n5 ≤ 2147483647) (f11 : (-2147483648) ≤ n5) (f12 : n6 ≤ 7) (f13 : 0 ≤ n6) (f14 : n7 = 285) (f15 : n8 ≤ 7) (f16 : 0 ≤ n8) (f17 : n9 = 285) (f18 : (hLe T0 H0 H1 ∧ hFr s_274.2.2.2.2 H0 H1 ∧ hWt T0 H1) ∧ (Ab_274_153 n9 n8 n7 n6 n5 n4 n3 n2 n1 n0 H0 H1 ∧ preb_274 n9 n8 H0) ∧ some q0 = some (mub_274_153 n9 n8 n7 n6 n5 n4 n3 n2 n1 n0 H0 H1)) (f19 : n10 ≤ 240) (f20 : 0 ≤ n10) (f21 : n10 = hV H1 (n7).toNat 93) (f22 : n10 ≤ n0) (f23 : n11 = w32 (n4 + 1)) : Ab_274_55 n9 n8 n7 n6 n5 n11 H0 H1 ∧ ∀ q, some q0 = some q → mub_274_55 n9 n8 n7 n6 n5 n11 H0 H1 < q := by
  have g4 := f18.2.1.1
  unfold Ab_274_153 at g4
  have g3 := f18.2.1.2
  unfold preb_274 at g3
  have g5 := Option.some.inj f18.2.2
  unfold mub_274_153 at g5
  unfold Ab_274_55
  unfold mub_274_55
  have e0 : n10 = hV H1 285 93 := (by rw [f14] at f21; exact f21 : n10 = hV H1 285 93)
  have e3 : hV H1 298 = hV H0 298 := fRow f18.1.2.1 298 kR_274_298
  have e4 : hV H1 300 = hV H0 300 := fRow f18.1.2.1 300 kR_274_300
  have e5 : hV H1 301 = hV H0 301 := fRow f18.1.2.1 301 kR_274_301
  have e6 : hV H1 302 = hV H0 302 := fRow f18.1.2.1 302 kR_274_302
  have e7 : hV H1 303 = hV H0 303 := fRow f18.1.2.1 303 kR_274_303
  have e8 : hV H1 305 = hV H0 305 := fRow f18.1.2.1 305 kR_274_305
  have e9 : (0 : Int) ≤ hV H0 285 18 ∧ hV H0 285 18 ≤ 8 := bTo ((f18.1.2.1.1 285 18 kF_274_285_18)) (f18.1.2.2 285 18 _ _ kW_285_18)
  have e10 : (0 : Int) ≤ hV H1 285 82 ∧ hV H1 285 82 ≤ 40 := f18.1.2.2 285 82 _ _ kW_285_82
  try simp only [XQ] at *
  try simp only [e3, e4, e5, e6, e7, e8] at g4
  try simp only [e3, e4, e5, e6, e7, e8]
  have k0 := g4.1
  have y0 := g4.2.1
  have y1 := g4.2.2.1
  have y2 := g4.2.2.2.1
  have y3 := g4.2.2.2.2
  have p0 := g3.1
  have p1 := g3.2.1
  have p2 := g3.2.2
  clear g3
  clear g4
  clear f21 e3 e4 e5 e6 e7 e8
  subst e0
  first
  | (have ix0 : n11 = n4 + 1 := Eq.trans f23 (w32_iv (Iad (Iat f9 f8) (IC 1)) (by decide)); subst ix0; clear f23)
  | (have ix0 : n11 = n4 + 1 := Eq.trans f23 (w32_id (by omega) (by omega)); subst ix0; clear f23)
  | (unfold w32 at f23; have ix0 : n11 = n4 + 1 := (by omega); subst ix0)
  | skip
  try unfold w32 at f23
  try subst k0
  subst y0
  refine ⟨?_, fun q hq => ?_⟩
  · refine ⟨?_, ?_⟩ <;> first | assumption | omega | trivial
  · have g6 := Option.some.inj hq
    subst g6
    omega
theorem c_274_153_2 {q0 : Nat} : vOkm T0 (eP e_274 L_274 A_274 mu_274 (some q0)) 2 ([(10, [11, 5], [], 1), (43, [9, 10], [], 0), (20, [10, 2], [1], 93), (90, [10], [], 0), (91, [10], [], 240), (5000, [0, 1, 2, 3, 4, 5, 6, 7, 8, 9], [0, 1], 153), (0, [0], [], 285), (90, [1], [], 0), (91, [1], [], 7), (0, [2], [], 285), (90, [3], [], 0), (91, [3], [], 7), (90, [4], [], -2147483648), (91, [4], [], 2147483647), (90, [5], [], 0), (91, [5], [], 39), (90, [6], [], 0), (91, [6], [], 1007), (90, [7], [], -2147483648), (91, [7], [], 2147483647), (90, [8], [], 0), (91, [8], [], 2), (90, [9], [], 0), (91, [9], [], 240)], (4000, [2, 3, 4, 11], [1], 55)) := vOk_inI fun ρ η f0 f1 f2 f3 f4 f5 f6 f7 f8 f9 f10 f11 f12 f13 f14 f15 f16 f17 f18 f19 f20 f21 f22 f23 => q_274_33 (q0 := q0) (n0 := ρ 9) (n1 := ρ 8) (n2 := ρ 7) (n3 := ρ 6) (n4 := ρ 5) (n5 := ρ 4) (n6 := ρ 3) (n7 := ρ 2) (n8 := ρ 1) (n9 := ρ 0) (n10 := ρ 10) (n11 := ρ 11) (H0 := η 0) (H1 := η 1) f23 f22 f21 f20 f19 f18 f17 f16 f15 f14 f13 f12 f11 f10 f9 f8 f7 f6 f5 f4 f3 f2 f1 f0
theorem q_274_34 {q0 : Nat} {n0 n1 n2 n3 n4 n5 n6 n7 n8 n9 n10 : Int} {H0 H1 : gH} (f0 : n0 ≤ 240) (f1 : 0 ≤ n0) (f2 : n1 ≤ 2) (f3 : 0 ≤ n1) (f4 : n2 ≤ 2147483647) (f5 : (-2147483648) ≤ n2) (f6 : n3 ≤ 1007) (f7 : 0 ≤ n3) (f8 : n4 ≤ 39) (f9 : 0 ≤ n4) (f10 : n5 ≤ 2147483647) (f11 : (-2147483648) ≤ n5) (f12 : n6 ≤ 7) (f13 : 0 ≤ n6) (f14 : n7 = 285) (f15 : n8 ≤ 7) (f16 : 0 ≤ n8) (f17 : n9 = 285) (f18 : (hLe T0 H0 H1 ∧ hFr s_274.2.2.2.2 H0 H1 ∧ hWt T0 H1) ∧ (Ab_274_153 n9 n8 n7 n6 n5 n4 n3 n2 n1 n0 H0 H1 ∧ preb_274 n9 n8 H0) ∧ some q0 = some (mub_274_153 n9 n8 n7 n6 n5 n4 n3 n2 n1 n0 H0 H1)) (f19 : n10 ≤ 240) (f20 : 0 ≤ n10) (f21 : n10 = hV H1 (n7).toNat 93) (f22 : n0 < n10) : preb_273 n7 n4 n0 H1 := by
  have g4 := f18.2.1.1
  unfold Ab_274_153 at g4
  have g3 := f18.2.1.2
  unfold preb_274 at g3
  unfold preb_273
  have e0 : n10 = hV H1 285 93 := (by rw [f14] at f21; exact f21 : n10 = hV H1 285 93)
  have e3 : hV H1 298 = hV H0 298 := fRow f18.1.2.1 298 kR_274_298
  have e4 : hV H1 300 = hV H0 300 := fRow f18.1.2.1 300 kR_274_300
  have e5 : hV H1 301 = hV H0 301 := fRow f18.1.2.1 301 kR_274_301
  have e6 : hV H1 302 = hV H0 302 := fRow f18.1.2.1 302 kR_274_302
  have e7 : hV H1 303 = hV H0 303 := fRow f18.1.2.1 303 kR_274_303
  have e8 : hV H1 305 = hV H0 305 := fRow f18.1.2.1 305 kR_274_305
  have e9 : SO H1 = SO H0 := SO_fr f18.1.2.1 (by decide +kernel)
  have e10 : (0 : Int) ≤ hV H0 285 18 ∧ hV H0 285 18 ≤ 8 := bTo ((f18.1.2.1.1 285 18 kF_274_285_18)) (f18.1.2.2 285 18 _ _ kW_285_18)
  have e11 : (0 : Int) ≤ hV H1 285 82 ∧ hV H1 285 82 ≤ 40 := f18.1.2.2 285 82 _ _ kW_285_82
  try simp only [XQ] at *
  try simp only [e3, e4, e5, e6, e7, e8] at g4
  try simp only [e3, e4, e5, e6, e7, e8, e9]
  have k0 := g4.1
  have y0 := g4.2.1
  have y1 := g4.2.2.1
  have y2 := g4.2.2.2.1
  have y3 := g4.2.2.2.2
  have p0 := g3.1
  have p1 := g3.2.1
  have p2 := g3.2.2
  clear g3
  clear g4
  clear f21 e3 e4 e5 e6 e7 e8 e9
  subst e0
  try subst k0
  subst y0
  refine ⟨?_, ?_, ?_, ?_⟩ <;> first | assumption | omega | trivial
theorem c_274_153_3 {q0 : Nat} : vOkm T0 (eP e_274 L_274 A_274 mu_274 (some q0)) 2 ([(42, [9, 10], [], 0), (20, [10, 2], [1], 93), (90, [10], [], 0), (91, [10], [], 240), (5000, [0, 1, 2, 3, 4, 5, 6, 7, 8, 9], [0, 1], 153), (0, [0], [], 285), (90, [1], [], 0), (91, [1], [], 7), (0, [2], [], 285), (90, [3], [], 0), (91, [3], [], 7), (90, [4], [], -2147483648), (91, [4], [], 2147483647), (90, [5], [], 0), (91, [5], [], 39), (90, [6], [], 0), (91, [6], [], 1007), (90, [7], [], -2147483648), (91, [7], [], 2147483647), (90, [8], [], 0), (91, [8], [], 2), (90, [9], [], 0), (91, [9], [], 240)], (2273, [2, 5, 9], [1], 0)) := vOk_inI fun ρ η f0 f1 f2 f3 f4 f5 f6 f7 f8 f9 f10 f11 f12 f13 f14 f15 f16 f17 f18 f19 f20 f21 f22 => q_274_34 (q0 := q0) (n0 := ρ 9) (n1 := ρ 8) (n2 := ρ 7) (n3 := ρ 6) (n4 := ρ 5) (n5 := ρ 4) (n6 := ρ 3) (n7 := ρ 2) (n8 := ρ 1) (n9 := ρ 0) (n10 := ρ 10) (H0 := η 0) (H1 := η 1) f22 f21 f20 f19 f18 f17 f16 f15 f14 f13 f12 f11 f10 f9 f8 f7 f6 f5 f4 f3 f2 f1 f0
theorem kF_274_285_64 : vFree s_274.2.2.2.2 285 64 = true := by decide +kernel
theorem q_274_35 {q0 : Nat} {n0 n1 n2 n3 n4 n5 n6 n7 n8 n9 n10 n11 n12 n13 n14 : Int} {H0 H1 H2 : gH} (f0 : n0 ≤ 240) (f1 : 0 ≤ n0) (f2 : n1 ≤ 2) (f3 : 0 ≤ n1) (f4 : n2 ≤ 2147483647) (f5 : (-2147483648) ≤ n2) (f6 : n3 ≤ 1007) (f7 : 0 ≤ n3) (f8 : n4 ≤ 39) (f9 : 0 ≤ n4) (f10 : n5 ≤ 2147483647) (f11 : (-2147483648) ≤ n5) (f12 : n6 ≤ 7) (f13 : 0 ≤ n6) (f14 : n7 = 285) (f15 : n8 ≤ 7) (f16 : 0 ≤ n8) (f17 : n9 = 285) (f18 : (hLe T0 H0 H1 ∧ hFr s_274.2.2.2.2 H0 H1 ∧ hWt T0 H1) ∧ (Ab_274_153 n9 n8 n7 n6 n5 n4 n3 n2 n1 n0 H0 H1 ∧ preb_274 n9 n8 H0) ∧ some q0 = some (mub_274_153 n9 n8 n7 n6 n5 n4 n3 n2 n1 n0 H0 H1)) (f19 : n10 ≤ 240) (f20 : 0 ≤ n10) (f21 : n10 = hV H1 (n7).toNat 93) (f22 : n0 < n10) (f23 : n11 ≤ 1) (f24 : 0 ≤ n11) (f25 : (hLe T0 H1 H2 ∧ hFr s_273.2.2.2.2 H1 H2 ∧ ((0 : Int) = 0 → H2.length = H1.length) ∧ hWt T0 H2) ∧ postb_273 n11 n7 n4 n0 H1 H2) (f26 : n11 ≠ 0) (f27 : n12 = 240) (f28 : n13 = w32 (n12 * n1)) (f29 : n14 = w32 (n13 + n0)) : 0 ≤ n14 ∧ n14 < 720 := by
  have g4 := f18.2.1.1
  unfold Ab_274_153 at g4
  have g3 := f18.2.1.2
  unfold preb_274 at g3
  unfold postb_273 at f25
  have e0 : n10 = hV H1 285 93 := (by rw [f14] at f21; exact f21 : n10 = hV H1 285 93)
  have e5 : hV H1 298 = hV H0 298 := fRow f18.1.2.1 298 kR_274_298
  have e6 : hV H1 300 = hV H0 300 := fRow f18.1.2.1 300 kR_274_300
  have e7 : hV H1 301 = hV H0 301 := fRow f18.1.2.1 301 kR_274_301
  have e8 : hV H1 302 = hV H0 302 := fRow f18.1.2.1 302 kR_274_302
  have e9 : hV H1 303 = hV H0 303 := fRow f18.1.2.1 303 kR_274_303
  have e10 : hV H1 305 = hV H0 305 := fRow f18.1.2.1 305 kR_274_305
  have e12 : hV H2 285 64 = hV H0 285 64 := ((f25.1.2.1.1 285 64 kF_273_285_64)).trans (f18.1.2.1.1 285 64 kF_274_285_64)
  have e14 : hV H2 300 = hV H0 300 := (fRow f25.1.2.1 300 kR_273_300).trans e6
  have e15 : hV H2 344 = hV H1 344 := fRow f25.1.2.1 344 kR_273_344
  have e16 : (0 : Int) ≤ hV H0 285 18 ∧ hV H0 285 18 ≤ 8 := bTo ((f18.1.2.1.1 285 18 kF_274_285_18)) (f18.1.2.2 285 18 _ _ kW_285_18)
  have e17 : (0 : Int) ≤ hV H0 285 64 ∧ hV H0 285 64 ≤ 20 := bTo ((f18.1.2.1.1 285 64 kF_274_285_64)) (f18.1.2.2 285 64 _ _ kW_285_64)
  have e18 : (0 : Int) ≤ hV H1 285 82 ∧ hV H1 285 82 ≤ 40 := f18.1.2.2 285 82 _ _ kW_285_82
  try simp only [XQ] at *
  try simp only [e12, e14, e15] at f25
  try simp only [e5, e6, e7, e8, e9, e10] at g4
  have k0 := g4.1
  have y0 := g4.2.1
  have y1 := g4.2.2.1
  have y2 := g4.2.2.2.1
  have y3 := g4.2.2.2.2
  have p0 := g3.1
  have p1 := g3.2.1
  have p2 := g3.2.2
  have r0_0 := f25.2
  clear g3
  clear g4
  clear f21 e5 e6 e7 e8 e9 e10 e12 e14 e15
  subst e0
  rw [f27] at f28
  first
  | (have ix0 : n13 = 240 * n1 := Eq.trans f28 (w32_iv (Iml 240 rfl (Iat f3 f2)) (by decide)); subst ix0; clear f28)
  | (have ix0 : n13 = 240 * n1 := Eq.trans f28 (w32_id (by omega) (by omega)); subst ix0; clear f28)
  | (unfold w32 at f28; have ix0 : n13 = 240 * n1 := (by omega); subst ix0)
  | skip
  first
  | (have ix1 : n14 = (240 * n1) + n0 := Eq.trans f29 (w32_iv (Iad (Iml 240 rfl (Iat f3 f2)) (Iat f1 f0)) (by decide)); subst ix1; clear f29)
  | (have ix1 : n14 = (240 * n1) + n0 := Eq.trans f29 (w32_id (by omega) (by omega)); subst ix1; clear f29)
  | (unfold w32 at f29; have ix1 : n14 = (240 * n1) + n0 := (by omega); subst ix1)
  | skip
  try unfold w32 at f28
  try unfold w32 at f29
  try subst k0
  subst y0
  omega
theorem c_274_153_4 {q0 : Nat} : vOkm T0 (eP e_274 L_274 A_274 mu_274 (some q0)) 2 ([(1, [15, 14, 9], [], 0), (3, [14, 13, 8], [], 0), (0, [13], [], 240), (31, [11], [], 0), (1273, [11, 2, 5, 9], [1, 2], 0), (90, [11], [], 0), (91, [11], [], 1), (42, [9, 10], [], 0), (20, [10, 2], [1], 93), (90, [10], [], 0), (91, [10], [], 240), (5000, [0, 1, 2, 3, 4, 5, 6, 7, 8, 9], [0, 1], 153), (0, [0], [], 285), (90, [1], [], 0), (91, [1], [], 7), (0, [2], [], 285), (90, [3], [], 0), (91, [3], [], 7), (90, [4], [], -2147483648), (91, [4], [], 2147483647), (90, [5], [], 0), (91, [5], [], 39), (90, [6], [], 0), (91, [6], [], 1007), (90, [7], [], -2147483648), (91, [7], [], 2147483647), (90, [8], [], 0), (91, [8], [], 2), (90, [9], [], 0), (91, [9], [], 240)], (70, [15], [], 720)) := vOk_inI fun ρ η f0 f1 f2 f3 f4 f5 f6 f7 f8 f9 f10 f11 f12 f13 f14 f15 f16 f17 f18 f19 f20 f21 f22 f23 f24 f25 f26 f27 f28 f29 => q_274_35 (q0 := q0) (n0 := ρ 9) (n1 := ρ 8) (n2 := ρ 7) (n3 := ρ 6) (n4 := ρ 5) (n5 := ρ 4) (n6 := ρ 3) (n7 := ρ 2) (n8 := ρ 1) (n9 := ρ 0) (n10 := ρ 10) (n11 := ρ 11) (n12 := ρ 13) (n13 := ρ 14) (n14 := ρ 15) (H0 := η 0) (H1 := η 1) (H2 := η 2) f29 f28 f27 f26 f25 f24 f23 f22 f21 f20 f19 f18 f17 f16 f15 f14 f13 f12 f11 f10 f9 f8 f7 f6 f5 f4 f3 f2 f1 f0
theorem q_274_36 {q0 : Nat} {n0 n1 n2 n3 n4 n5 n6 n7 n8 n9 n10 n11 n12 n13 n14 n15 n16 n17 : Int} {H0 H1 H2 : gH} (f0 : n0 ≤ 240) (f1 : 0 ≤ n0) (f2 : n1 ≤ 2) (f3 : 0 ≤ n1) (f4 : n2 ≤ 2147483647) (f5 : (-2147483648) ≤ n2) (f6 : n3 ≤ 1007) (f7 : 0 ≤ n3) (f8 : n4 ≤ 39) (f9 : 0 ≤ n4) (f10 : n5 ≤ 2147483647) (f11 : (-2147483648) ≤ n5) (f12 : n6 ≤ 7) (f13 : 0 ≤ n6) (f14 : n7 = 285) (f15 : n8 ≤ 7) (f16 : 0 ≤ n8) (f17 : n9 = 285) (f18 : (hLe T0 H0 H1 ∧ hFr s_274.2.2.2.2 H0 H1 ∧ hWt T0 H1) ∧ (Ab_274_153 n9 n8 n7 n6 n5 n4 n3 n2 n1 n0 H0 H1 ∧ preb_274 n9 n8 H0) ∧ some q0 = some (mub_274_153 n9 n8 n7 n6 n5 n4 n3 n2 n1 n0 H0 H1)) (f19 : n10 ≤ 240) (f20 : 0 ≤ n10) (f21 : n10 = hV H1 (n7).toNat 93) (f22 : n0 < n10) (f23 : n11 ≤ 1) (f24 : 0 ≤ n11) (f25 : (hLe T0 H1 H2 ∧ hFr s_273.2.2.2.2 H1 H2 ∧ ((0 : Int) = 0 → H2.length = H1.length) ∧ hWt T0 H2) ∧ postb_273 n11 n7 n4 n0 H1 H2) (f26 : n11 ≠ 0) (f27 : n12 = 240) (f28 : n13 = w32 (n12 * n1)) (f29 : n14 = w32 (n13 + n0)) (f30 : n15 = 240) (f31 : n16 = w32 (n15 * n1)) (f32 : n17 = w32 (n16 + n0)) : 0 ≤ n17 ∧ n17 < 720 := by
  have g4 := f18.2.1.1
  unfold Ab_274_153 at g4
  have g3 := f18.2.1.2
  unfold preb_274 at g3
  unfold postb_273 at f25
  have e0 : n10 = hV H1 285 93 := (by rw [f14] at f21; exact f21 : n10 = hV H1 285 93)
  have e5 : hV H1 298 = hV H0 298 := fRow f18.1.2.1 298 kR_274_298
  have e6 : hV H1 300 = hV H0 300 := fRow f18.1.2.1 300 kR_274_300
  have e7 : hV H1 301 = hV H0 301 := fRow f18.1.2.1 301 kR_274_301
  have e8 : hV H1 302 = hV H0 302 := fRow f18.1.2.1 302 kR_274_302
  have e9 : hV H1 303 = hV H0 303 := fRow f18.1.2.1 303 kR_274_303
  have e10 : hV H1 305 = hV H0 305 := fRow f18.1.2.1 305 kR_274_305
  have e12 : hV H2 285 64 = hV H0 285 64 := ((f25.1.2.1.1 285 64 kF_273_285_64)).trans (f18.1.2.1.1 285 64 kF_274_285_64)
  have e14 : hV H2 300 = hV H0 300 := (fRow f25.1.2.1 300 kR_273_300).trans e6
  have e15 : hV H2 344 = hV H1 344 := fRow f25.1.2.1 344 kR_273_344
  have e16 : (0 : Int) ≤ hV H0 285 18 ∧ hV H0 285 18 ≤ 8 := bTo ((f18.1.2.1.1 285 18 kF_274_285_18)) (f18.1.2.2 285 18 _ _ kW_285_18)
  have e17 : (0 : Int) ≤ hV H0 285 64 ∧ hV H0 285 64 ≤ 20 := bTo ((f18.1.2.1.1 285 64 kF_274_285_64)) (f18.1.2.2 285 64 _ _ kW_285_64)
  have e18 : (0 : Int) ≤ hV H1 285 82 ∧ hV H1 285 82 ≤ 40 := f18.1.2.2 285 82 _ _ kW_285_82
  try simp only [XQ] at *
  try simp only [e12, e14, e15] at f25
  try simp only [e5, e6, e7, e8, e9, e10] at g4
  have k0 := g4.1
  have y0 := g4.2.1
  have y1 := g4.2.2.1
  have y2 := g4.2.2.2.1
  have y3 := g4.2.2.2.2
  have p0 := g3.1
  have p1 := g3.2.1
  have p2 := g3.2.2
  have r0_0 := f25.2
  clear g3
  clear g4
  clear f21 e5 e6 e7 e8 e9 e10 e12 e14 e15
  subst e0
  rw [f27] at f28
  rw [f30] at f31
  first
  | (have ix0 : n16 = 240 * n1 := Eq.trans f31 (w32_iv (Iml 240 rfl (Iat f3 f2)) (by decide)); subst ix0; clear f31)
  | (have ix0 : n16 = 240 * n1 := Eq.trans f31 (w32_id (by omega) (by omega)); subst ix0; clear f31)
  | (unfold w32 at f31; have ix0 : n16 = 240 * n1 := (by omega); subst ix0)
  | skip
  first
  | (have ix1 : n17 = (240 * n1) + n0 := Eq.trans f32 (w32_iv (Iad (Iml 240 rfl (Iat f3 f2)) (Iat f1 f0)) (by decide)); subst ix1; clear f32)
  | (have ix1 : n17 = (240 * n1) + n0 := Eq.trans f32 (w32_id (by omega) (by omega)); subst ix1; clear f32)
  | (unfold w32 at f32; have ix1 : n17 = (240 * n1) + n0 := (by omega); subst ix1)
  | skip
  try unfold w32 at f28
  try unfold w32 at f29
  try unfold w32 at f31
  try unfold w32 at f32
  try subst k0
  subst y0
  omega
theorem c_274_153_5 {q0 : Nat} : vOkm T0 (eP e_274 L_274 A_274 mu_274 (some q0)) 2 ([(1, [21, 20, 9], [], 0), (3, [20, 19, 8], [], 0), (0, [19], [], 240), (1, [15, 14, 9], [], 0), (3, [14, 13, 8], [], 0), (0, [13], [], 240), (31, [11], [], 0), (1273, [11, 2, 5, 9], [1, 2], 0), (90, [11], [], 0), (91, [11], [], 1), (42, [9, 10], [], 0), (20, [10, 2], [1], 93), (90, [10], [], 0), (91, [10], [], 240), (5000, [0, 1, 2, 3, 4, 5, 6, 7, 8, 9], [0, 1], 153), (0, [0], [], 285), (90, [1], [], 0), (91, [1], [], 7), (0, [2], [], 285), (90, [3], [], 0), (91, [3], [], 7), (90, [4], [], -2147483648), (91, [4], [], 2147483647), (90, [5], [], 0), (91, [5], [], 39), (90, [6], [], 0), (91, [6], [], 1007), (90, [7], [], -2147483648), (91, [7], [], 2147483647), (90, [8], [], 0), (91, [8], [], 2), (90, [9], [], 0), (91, [9], [], 240)], (70, [21], [], 720)) := vOk_inI fun ρ η f0 f1 f2 f3 f4 f5 f6 f7 f8 f9 f10 f11 f12 f13 f14 f15 f16 f17 f18 f19 f20 f21 f22 f23 f24 f25 f26 f27 f28 f29 f30 f31 f32 => q_274_36 (q0 := q0) (n0 := ρ 9) (n1 := ρ 8) (n2 := ρ 7) (n3 := ρ 6) (n4 := ρ 5) (n5 := ρ 4) (n6 := ρ 3) (n7 := ρ 2) (n8 := ρ 1) (n9 := ρ 0) (n10 := ρ 10) (n11 := ρ 11) (n12 := ρ 13) (n13 := ρ 14) (n14 := ρ 15) (n15 := ρ 19) (n16 := ρ 20) (n17 := ρ 21) (H0 := η 0) (H1 := η 1) (H2 := η 2) f32 f31 f30 f29 f28 f27 f26 f25 f24 f23 f22 f21 f20 f19 f18 f17 f16 f15 f14 f13 f12 f11 f10 f9 f8 f7 f6 f5 f4 f3 f2 f1 f0
theorem q_274_37 {q0 : Nat} {n0 n1 n2 n3 n4 n5 n6 n7 n8 n9 n10 n11 n12 n13 n14 n15 n16 n17 n18 n19 n20 n21 n22 : Int} {H0 H1 H2 H3 : gH} (f0 : n0 ≤ 240) (f1 : 0 ≤ n0) (f2 : n1 ≤ 2) (f3 : 0 ≤ n1) (f4 : n2 ≤ 2147483647) (f5 : (-2147483648) ≤ n2) (f6 : n3 ≤ 1007) (f7 : 0 ≤ n3) (f8 : n4 ≤ 39) (f9 : 0 ≤ n4) (f10 : n5 ≤ 2147483647) (f11 : (-2147483648) ≤ n5) (f12 : n6 ≤ 7) (f13 : 0 ≤ n6) (f14 : n7 = 285) (f15 : n8 ≤ 7) (f16 : 0 ≤ n8) (f17 : n9 = 285) (f18 : (hLe T0 H0 H1 ∧ hFr s_274.2.2.2.2 H0 H1 ∧ hWt T0 H1) ∧ (Ab_274_153 n9 n8 n7 n6 n5 n4 n3 n2 n1 n0 H0 H1 ∧ preb_274 n9 n8 H0) ∧ some q0 = some (mub_274_153 n9 n8 n7 n6 n5 n4 n3 n2 n1 n0 H0 H1)) (f19 : n10 ≤ 240) (f20 : 0 ≤ n10) (f21 : n10 = hV H1 (n7).toNat 93) (f22 : n0 < n10) (f23 : n11 ≤ 1) (f24 : 0 ≤ n11) (f25 : (hLe T0 H1 H2 ∧ hFr s_273.2.2.2.2 H1 H2 ∧ ((0 : Int) = 0 → H2.length = H1.length) ∧ hWt T0 H2) ∧ postb_273 n11 n7 n4 n0 H1 H2) (f26 : n11 ≠ 0) (f27 : n12 = 350) (f28 : n12 = hV H2 (n7).toNat 90) (f29 : n13 = 240) (f30 : n14 = w32 (n13 * n1)) (f31 : n15 = w32 (n14 + n0)) (f32 : n16 = 1) (f33 : n17 = o32 (fun x _ => x &&& 1) n16 0) (f34 : hUpd H3 H2 n12 n15 n17) (f35 : n18 = 240) (f36 : n19 = w32 (n18 * n1)) (f37 : n20 = w32 (n19 + n0)) (f38 : n21 = 300) (f39 : n21 = hV H3 (n7).toNat 26) (f40 : n22 ≤ 9999) (f41 : (-1) ≤ n22) (f42 : n22 = hV H3 (n21).toNat (n3).toNat) : 0 ≤ n22 := by
  have g4 := f18.2.1.1
  unfold Ab_274_153 at g4
  have g3 := f18.2.1.2
  unfold preb_274 at g3
  unfold postb_273 at f25
  have e0 : n10 = hV H1 285 93 := (by rw [f14] at f21; exact f21 : n10 = hV H1 285 93)
  have e3 : hV H1 300 = hV H0 300 := fRow f18.1.2.1 300 kR_274_300
  have e4 : n22 = hV H0 300 (n3).toNat := (by rw [f38] at f42; exact f42 : n22 = hV H3 300 (n3).toNat).trans (((congrFun (uRowNe f34 300 (iS (show n12 = ((350 : Nat) : Int) from f27) rfl)) _)).trans (((congrFun (fRow f25.1.2.1 300 kR_273_300) _)).trans ((congrFun e3 _))))
  have e9 : hV H1 298 = hV H0 298 := fRow f18.1.2.1 298 kR_274_298
  have e10 : hV H1 301 = hV H0 301 := fRow f18.1.2.1 301 kR_274_301
  have e11 : hV H1 302 = hV H0 302 := fRow f18.1.2.1 302 kR_274_302
  have e12 : hV H1 303 = hV H0 303 := fRow f18.1.2.1 303 kR_274_303
  have e13 : hV H1 305 = hV H0 305 := fRow f18.1.2.1 305 kR_274_305
  have e15 : hV H2 285 64 = hV H0 285 64 := ((f25.1.2.1.1 285 64 kF_273_285_64)).trans (f18.1.2.1.1 285 64 kF_274_285_64)
  have e16 : hV H2 300 = hV H0 300 := (fRow f25.1.2.1 300 kR_273_300).trans e3
  have e17 : hV H2 344 = hV H1 344 := fRow f25.1.2.1 344 kR_273_344
  have e18 : (0 : Int) ≤ hV H0 285 18 ∧ hV H0 285 18 ≤ 8 := bTo ((f18.1.2.1.1 285 18 kF_274_285_18)) (f18.1.2.2 285 18 _ _ kW_285_18)
  have e19 : (0 : Int) ≤ hV H0 285 64 ∧ hV H0 285 64 ≤ 20 := bTo ((f18.1.2.1.1 285 64 kF_274_285_64)) (f18.1.2.2 285 64 _ _ kW_285_64)
  have e20 : (0 : Int) ≤ hV H1 285 82 ∧ hV H1 285 82 ≤ 40 := f18.1.2.2 285 82 _ _ kW_285_82
  try simp only [XQ] at *
  try simp only [e15, e16, e17] at f25
  try simp only [e9, e3, e10, e11, e12, e13] at g4
  have k0 := g4.1
  have y0 := g4.2.1
  have y1 := g4.2.2.1
  have y2 := g4.2.2.2.1
  have y3 := g4.2.2.2.2
  have p0 := g3.1
  have p1 := g3.2.1
  have p2 := g3.2.2
  have r0_0 := f25.2
  clear g3
  clear g4
  clear f21 f28 f39 f42 e3 e9 e10 e11 e12 e13 e15 e16 e17
  subst e0
  subst e4
  rw [f29] at f30
  rw [f35] at f36
  first
  | (have ix0 : n14 = 240 * n1 := Eq.trans f30 (w32_iv (Iml 240 rfl (Iat f3 f2)) (by decide)); subst ix0; clear f30)
  | (have ix0 : n14 = 240 * n1 := Eq.trans f30 (w32_id (by omega) (by omega)); subst ix0; clear f30)
  | (unfold w32 at f30; have ix0 : n14 = 240 * n1 := (by omega); subst ix0)
  | skip
  first
  | (have ix1 : n15 = (240 * n1) + n0 := Eq.trans f31 (w32_iv (Iad (Iml 240 rfl (Iat f3 f2)) (Iat f1 f0)) (by decide)); subst ix1; clear f31)
  | (have ix1 : n15 = (240 * n1) + n0 := Eq.trans f31 (w32_id (by omega) (by omega)); subst ix1; clear f31)
  | (unfold w32 at f31; have ix1 : n15 = (240 * n1) + n0 := (by omega); subst ix1)
  | skip
  try unfold w32 at f30
  try unfold w32 at f31
  try unfold w32 at f36
  try unfold w32 at f37
  try subst k0
  subst y0
  omega
theorem c_274_153_6 {q0 : Nat} : vOkm T0 (eP e_274 L_274 A_274 mu_274 (some q0)) 2 ([(22, [24, 23, 6], [3], 0), (90, [24], [], -1), (91, [24], [], 9999), (20, [23, 2], [3], 26), (0, [23], [], 300), (1, [21, 20, 9], [], 0), (3, [20, 19, 8], [], 0), (0, [19], [], 240), (80, [12, 15, 17], [3, 2], 0), (16, [17, 16], [], 0), (0, [16], [], 1), (1, [15, 14, 9], [], 0), (3, [14, 13, 8], [], 0), (0, [13], [], 240), (20, [12, 2], [2], 90), (0, [12], [], 350), (31, [11], [], 0), (1273, [11, 2, 5, 9], [1, 2], 0), (90, [11], [], 0), (91, [11], [], 1), (42, [9, 10], [], 0), (20, [10, 2], [1], 93), (90, [10], [], 0), (91, [10], [], 240), (5000, [0, 1, 2, 3, 4, 5, 6, 7, 8, 9], [0, 1], 153), (0, [0], [], 285), (90, [1], [], 0), (91, [1], [], 7), (0, [2], [], 285), (90, [3], [], 0), (91, [3], [], 7), (90, [4], [], -2147483648), (91, [4], [], 2147483647), (90, [5], [], 0), (91, [5], [], 39), (90, [6], [], 0), (91, [6], [], 1007), (90, [7], [], -2147483648), (91, [7], [], 2147483647), (90, [8], [], 0), (91, [8], [], 2), (90, [9], [], 0), (91, [9], [], 240)], (90, [24], [], 0)) := vOk_inI fun ρ η f0 f1 f2 f3 f4 f5 f6 f7 f8 f9 f10 f11 f12 f13 f14 f15 f16 f17 f18 f19 f20 f21 f22 f23 f24 f25 f26 f27 f28 f29 f30 f31 f32 f33 f34 f35 f36 f37 f38 f39 f40 f41 f42 => q_274_37 (q0 := q0) (n0 := ρ 9) (n1 := ρ 8) (n2 := ρ 7) (n3 := ρ 6) (n4 := ρ 5) (n5 := ρ 4) (n6 := ρ 3) (n7 := ρ 2) (n8 := ρ 1) (n9 := ρ 0) (n10 := ρ 10) (n11 := ρ 11) (n12 := ρ 12) (n13 := ρ 13) (n14 := ρ 14) (n15 := ρ 15) (n16 := ρ 16) (n17 := ρ 17) (n18 := ρ 19) (n19 := ρ 20) (n20 := ρ 21) (n21 := ρ 23) (n22 := ρ 24) (H0 := η 0) (H1 := η 1) (H2 := η 2) (H3 := η 3) f42 f41 f40 f39 f38 f37 f36 f35 f34 f33 f32 f31 f30 f29 f28 f27 f26 f25 f24 f23 f22 f21 f20 f19 f18 f17 f16 f15 f14 f13 f12 f11 f10 f9 f8 f7 f6 f5 f4 f3 f2 f1 f0
theorem q_274_38 {q0 : Nat} {n0 n1 n2 n3 n4 n5 n6 n7 n8 n9 n10 n11 n12 n13 n14 n15 n16 n17 n18 n19 n20 n21 n22 : Int} {H0 H1 H2 H3 : gH} (f0 : n0 ≤ 240) (f1 : 0 ≤ n0) (f2 : n1 ≤ 2) (f3 : 0 ≤ n1) (f4 : n2 ≤ 2147483647) (f5 : (-2147483648) ≤ n2) (f6 : n3 ≤ 1007) (f7 : 0 ≤ n3) (f8 : n4 ≤ 39) (f9 : 0 ≤ n4) (f10 : n5 ≤ 2147483647) (f11 : (-2147483648) ≤ n5) (f12 : n6 ≤ 7) (f13 : 0 ≤ n6) (f14 : n7 = 285) (f15 : n8 ≤ 7) (f16 : 0 ≤ n8) (f17 : n9 = 285) (f18 : (hLe T0 H0 H1 ∧ hFr s_274.2.2.2.2 H0 H1 ∧ hWt T0 H1) ∧ (Ab_274_153 n9 n8 n7 n6 n5 n4 n3 n2 n1 n0 H0 H1 ∧ preb_274 n9 n8 H0) ∧ some q0 = some (mub_274_153 n9 n8 n7 n6 n5 n4 n3 n2 n1 n0 H0 H1)) (f19 : n10 ≤ 240) (f20 : 0 ≤ n10) (f21 : n10 = hV H1 (n7).toNat 93) (f22 : n0 < n10) (f23 : n11 ≤ 1) (f24 : 0 ≤ n11) (f25 : (hLe T0 H1 H2 ∧ hFr s_273.2.2.2.2 H1 H2 ∧ ((0 : Int) = 0 → H2.length = H1.length) ∧ hWt T0 H2) ∧ postb_273 n11 n7 n4 n0 H1 H2) (f26 : n11 ≠ 0) (f27 : n12 = 350) (f28 : n12 = hV H2 (n7).toNat 90) (f29 : n13 = 240) (f30 : n14 = w32 (n13 * n1)) (f31 : n15 = w32 (n14 + n0)) (f32 : n16 = 1) (f33 : n17 = o32 (fun x _ => x &&& 1) n16 0) (f34 : hUpd H3 H2 n12 n15 n17) (f35 : n18 = 240) (f36 : n19 = w32 (n18 * n1)) (f37 : n20 = w32 (n19 + n0)) (f38 : n21 = 300) (f39 : n21 = hV H3 (n7).toNat 26) (f40 : n22 ≤ 9999) (f41 : (-1) ≤ n22) (f42 : n22 = hV H3 (n21).toNat (n3).toNat) : n22 ≤ 19 := by
  have g4 := f18.2.1.1
  unfold Ab_274_153 at g4
  have g3 := f18.2.1.2
  unfold preb_274 at g3
  unfold postb_273 at f25
  have e0 : n10 = hV H1 285 93 := (by rw [f14] at f21; exact f21 : n10 = hV H1 285 93)
  have e3 : hV H1 300 = hV H0 300 := fRow f18.1.2.1 300 kR_274_300
  have e4 : n22 = hV H0 300 (n3).toNat := (by rw [f38] at f42; exact f42 : n22 = hV H3 300 (n3).toNat).trans (((congrFun (uRowNe f34 300 (iS (show n12 = ((350 : Nat) : Int) from f27) rfl)) _)).trans (((congrFun (fRow f25.1.2.1 300 kR_273_300) _)).trans ((congrFun e3 _))))
  have e9 : hV H1 298 = hV H0 298 := fRow f18.1.2.1 298 kR_274_298
  have e10 : hV H1 301 = hV H0 301 := fRow f18.1.2.1 301 kR_274_301
  have e11 : hV H1 302 = hV H0 302 := fRow f18.1.2.1 302 kR_274_302
  have e12 : hV H1 303 = hV H0 303 := fRow f18.1.2.1 303 kR_274_303
  have e13 : hV H1 305 = hV H0 305 := fRow f18.1.2.1 305 kR_274_305
  have e15 : hV H2 285 64 = hV H0 285 64 := ((f25.1.2.1.1 285 64 kF_273_285_64)).trans (f18.1.2.1.1 285 64 kF_274_285_64)
  have e16 : hV H2 300 = hV H0 300 := (fRow f25.1.2.1 300 kR_273_300).trans e3
  have e17 : hV H2 344 = hV H1 344 := fRow f25.1.2.1 344 kR_273_344
  have e18 : (0 : Int) ≤ hV H0 285 18 ∧ hV H0 285 18 ≤ 8 := bTo ((f18.1.2.1.1 285 18 kF_274_285_18)) (f18.1.2.2 285 18 _ _ kW_285_18)
  have e19 : (0 : Int) ≤ hV H0 285 64 ∧ hV H0 285 64 ≤ 20 := bTo ((f18.1.2.1.1 285 64 kF_274_285_64)) (f18.1.2.2 285 64 _ _ kW_285_64)
  have e20 : (0 : Int) ≤ hV H1 285 82 ∧ hV H1 285 82 ≤ 40 := f18.1.2.2 285 82 _ _ kW_285_82
  try simp only [XQ] at *
  try simp only [e15, e16, e17] at f25
  try simp only [e9, e3, e10, e11, e12, e13] at g4
  have k0 := g4.1
  have y0 := g4.2.1
  have y1 := g4.2.2.1
  have y2 := g4.2.2.2.1
  have y3 := g4.2.2.2.2
  have p0 := g3.1
  have p1 := g3.2.1
  have p2 := g3.2.2
  have r0_0 := f25.2
  clear g3
  clear g4
  clear f21 f28 f39 f42 e3 e9 e10 e11 e12 e13 e15 e16 e17
  subst e0
  subst e4
  rw [f29] at f30
  rw [f35] at f36
  first
  | (have ix0 : n14 = 240 * n1 := Eq.trans f30 (w32_iv (Iml 240 rfl (Iat f3 f2)) (by decide)); subst ix0; clear f30)
  | (have ix0 : n14 = 240 * n1 := Eq.trans f30 (w32_id (by omega) (by omega)); subst ix0; clear f30)
  | (unfold w32 at f30; have ix0 : n14 = 240 * n1 := (by omega); subst ix0)
  | skip
  first
  | (have ix1 : n15 = (240 * n1) + n0 := Eq.trans f31 (w32_iv (Iad (Iml 240 rfl (Iat f3 f2)) (Iat f1 f0)) (by decide)); subst ix1; clear f31)
  | (have ix1 : n15 = (240 * n1) + n0 := Eq.trans f31 (w32_id (by omega) (by omega)); subst ix1; clear f31)
  | (unfold w32 at f31; have ix1 : n15 = (240 * n1) + n0 := (by omega); subst ix1)
  | skip
  try unfold w32 at f30
  try unfold w32 at f31
  try unfold w32 at f36
  try unfold w32 at f37
  try subst k0
  subst y0
  omega
theorem c_274_153_7 {q0 : Nat} : vOkm T0 (eP e_274 L_274 A_274 mu_274 (some q0)) 2 ([(22, [24, 23, 6], [3], 0), (90, [24], [], -1), (91, [24], [], 9999), (20, [23, 2], [3], 26), (0, [23], [], 300), (1, [21, 20, 9], [], 0), (3, [20, 19, 8], [], 0), (0, [19], [], 240), (80, [12, 15, 17], [3, 2], 0), (16, [17, 16], [], 0), (0, [16], [], 1), (1, [15, 14, 9], [], 0), (3, [14, 13, 8], [], 0), (0, [13], [], 240), (20, [12, 2], [2], 90), (0, [12], [], 350), (31, [11], [], 0), (1273, [11, 2, 5, 9], [1, 2], 0), (90, [11], [], 0), (91, [11], [], 1), (42, [9, 10], [], 0), (20, [10, 2], [1], 93), (90, [10], [], 0), (91, [10], [], 240), (5000, [0, 1, 2, 3, 4, 5, 6, 7, 8, 9], [0, 1], 153), (0, [0], [], 285), (90, [1], [], 0), (91, [1], [], 7), (0, [2], [], 285), (90, [3], [], 0), (91, [3], [], 7), (90, [4], [], -2147483648), (91, [4], [], 2147483647), (90, [5], [], 0), (91, [5], [], 39), (90, [6], [], 0), (91, [6], [], 1007), (90, [7], [], -2147483648), (91, [7], [], 2147483647), (90, [8], [], 0), (91, [8], [], 2), (90, [9], [], 0), (91, [9], [], 240)], (91, [24], [], 19)) := vOk_inI fun ρ η f0 f1 f2 f3 f4 f5 f6 f7 f8 f9 f10 f11 f12 f13 f14 f15 f16 f17 f18 f19 f20 f21 f22 f23 f24 f25 f26 f27 f28 f29 f30 f31 f32 f33 f34 f35 f36 f37 f38 f39 f40 f41 f42 => q_274_38 (q0 := q0) (n0 := ρ 9) (n1 := ρ 8) (n2 := ρ 7) (n3 := ρ 6) (n4 := ρ 5) (n5 := ρ 4) (n6 := ρ 3) (n7 := ρ 2) (n8 := ρ 1) (n9 := ρ 0) (n10 := ρ 10) (n11 := ρ 11) (n12 := ρ 12) (n13 := ρ 13) (n14 := ρ 14) (n15 := ρ 15) (n16 := ρ 16) (n17 := ρ 17) (n18 := ρ 19) (n19 := ρ 20) (n20 := ρ 21) (n21 := ρ 23) (n22 := ρ 24) (H0 := η 0) (H1 := η 1) (H2 := η 2) (H3 := η 3) f42 f41 f40 f39 f38 f37 f36 f35 f34 f33 f32 f31 f30 f29 f28 f27 f26 f25 f24 f23 f22 f21 f20 f19 f18 f17 f16 f15 f14 f13 f12 f11 f10 f9 f8 f7 f6 f5 f4 f3 f2 f1 f0
theorem q_274_39 {q0 : Nat} {n0 n1 n2 n3 n4 n5 n6 n7 n8 n9 n10 n11 n12 n13 n14 n15 n16 n17 n18 n19 n20 n21 n22 n23 : Int} {H0 H1 H2 H3 : gH} (f0 : n0 ≤ 240) (f1 : 0 ≤ n0) (f2 : n1 ≤ 2) (f3 : 0 ≤ n1) (f4 : n2 ≤ 2147483647) (f5 : (-2147483648) ≤ n2) (f6 : n3 ≤ 1007) (f7 : 0 ≤ n3) (f8 : n4 ≤ 39) (f9 : 0 ≤ n4) (f10 : n5 ≤ 2147483647) (f11 : (-2147483648) ≤ n5) (f12 : n6 ≤ 7) (f13 : 0 ≤ n6) (f14 : n7 = 285) (f15 : n8 ≤ 7) (f16 : 0 ≤ n8) (f17 : n9 = 285) (f18 : (hLe T0 H0 H1 ∧ hFr s_274.2.2.2.2 H0 H1 ∧ hWt T0 H1) ∧ (Ab_274_153 n9 n8 n7 n6 n5 n4 n3 n2 n1 n0 H0 H1 ∧ preb_274 n9 n8 H0) ∧ some q0 = some (mub_274_153 n9 n8 n7 n6 n5 n4 n3 n2 n1 n0 H0 H1)) (f19 : n10 ≤ 240) (f20 : 0 ≤ n10) (f21 : n10 = hV H1 (n7).toNat 93) (f22 : n0 < n10) (f23 : n11 ≤ 1) (f24 : 0 ≤ n11) (f25 : (hLe T0 H1 H2 ∧ hFr s_273.2.2.2.2 H1 H2 ∧ ((0 : Int) = 0 → H2.length = H1.length) ∧ hWt T0 H2) ∧ postb_273 n11 n7 n4 n0 H1 H2) (f26 : n11 ≠ 0) (f27 : n12 = 350) (f28 : n12 = hV H2 (n7).toNat 90) (f29 : n13 = 240) (f30 : n14 = w32 (n13 * n1)) (f31 : n15 = w32 (n14 + n0)) (f32 : n16 = 1) (f33 : n17 = o32 (fun x _ => x &&& 1) n16 0) (f34 : hUpd H3 H2 n12 n15 n17) (f35 : n18 = 240) (f36 : n19 = w32 (n18 * n1)) (f37 : n20 = w32 (n19 + n0)) (f38 : n21 = 300) (f39 : n21 = hV H3 (n7).toNat 26) (f40 : n22 ≤ 9999) (f41 : (-1) ≤ n22) (f42 : n22 = hV H3 (n21).toNat (n3).toNat) (f43 : n23 ≤ 2147483647) (f44 : (-2147483648) ≤ n23) (f45 : n23 = hV H3 (n7).toNat 88) : preb_266 n7 n22 n23 H3 := by
  have g4 := f18.2.1.1
  unfold Ab_274_153 at g4
  have g3 := f18.2.1.2
  unfold preb_274 at g3
  unfold postb_273 at f25
  unfold preb_266
  have e0 : n10 = hV H1 285 93 := (by rw [f14] at f21; exact f21 : n10 = hV H1 285 93)
  have e3 : hV H1 300 = hV H0 300 := fRow f18.1.2.1 300 kR_274_300
  have e4 : n22 = hV H0 300 (n3).toNat := (by rw [f38] at f42; exact f42 : n22 = hV H3 300 (n3).toNat).trans (((congrFun (uRowNe f34 300 (iS (show n12 = ((350 : Nat) : Int) from f27) rfl)) _)).trans (((congrFun (fRow f25.1.2.1 300 kR_273_300) _)).trans ((congrFun e3 _))))
  have e6 : n23 = hV H2 285 88 := (by rw [f14] at f45; exact f45 : n23 = hV H3 285 88).trans ((uPlace f34 285 88 (iS (show n12 = ((350 : Nat) : Int) from f27) rfl)))
  have e11 : hV H1 298 = hV H0 298 := fRow f18.1.2.1 298 kR_274_298
  have e12 : hV H1 301 = hV H0 301 := fRow f18.1.2.1 301 kR_274_301
  have e13 : hV H1 302 = hV H0 302 := fRow f18.1.2.1 302 kR_274_302
  have e14 : hV H1 303 = hV H0 303 := fRow f18.1.2.1 303 kR_274_303
  have e15 : hV H1 305 = hV H0 305 := fRow f18.1.2.1 305 kR_274_305
  have e17 : hV H2 285 64 = hV H0 285 64 := ((f25.1.2.1.1 285 64 kF_273_285_64)).trans (f18.1.2.1.1 285 64 kF_274_285_64)
  have e18 : hV H2 300 = hV H0 300 := (fRow f25.1.2.1 300 kR_273_300).trans e3
  have e19 : hV H2 344 = hV H1 344 := fRow f25.1.2.1 344 kR_273_344
  have e21 : hV H3 285 64 = hV H0 285 64 := ((uPlace f34 285 64 (iS (show n12 = ((350 : Nat) : Int) from f27) rfl))).trans (((f25.1.2.1.1 285 64 kF_273_285_64)).trans (f18.1.2.1.1 285 64 kF_274_285_64))
  have e22 : SO H1 = SO H0 := SO_fr f18.1.2.1 (by decide +kernel)
  have e23 : SO H2 = SO H1 := SO_fr f25.1.2.1 (by decide +kernel)
  have e24 : SO H2 = SO H0 := e23.trans e22
  have e25 : SO H3 = SO H2 := SO_upR f34 (show n12 = ((350 : Nat) : Int) from f27) (by decide)
  have e26 : SO H3 = SO H0 := e25.trans e24
  have e27 : (0 : Int) ≤ hV H0 285 18 ∧ hV H0 285 18 ≤ 8 := bTo ((f18.1.2.1.1 285 18 kF_274_285_18)) (f18.1.2.2 285 18 _ _ kW_285_18)
  have e28 : (0 : Int) ≤ hV H0 285 64 ∧ hV H0 285 64 ≤ 20 := bTo ((f18.1.2.1.1 285 64 kF_274_285_64)) (f18.1.2.2 285 64 _ _ kW_285_64)
  have e29 : (0 : Int) ≤ hV H1 285 82 ∧ hV H1 285 82 ≤ 40 := f18.1.2.2 285 82 _ _ kW_285_82
  try simp only [XQ] at *
  try simp only [e17, e18, e19] at f25
  try simp only [e11, e3, e12, e13, e14, e15] at g4
  try simp only [e21, e26]
  have k0 := g4.1
  have y0 := g4.2.1
  have y1 := g4.2.2.1
  have y2 := g4.2.2.2.1
  have y3 := g4.2.2.2.2
  have p0 := g3.1
  have p1 := g3.2.1
  have p2 := g3.2.2
  have r0_0 := f25.2
  clear g3
  clear g4
  clear f21 f28 f39 f42 f45 e3 e11 e12 e13 e14 e15 e17 e18 e19 e21 e22 e23 e24 e25 e26
  subst e0
  subst e4
  subst e6
  rw [f29] at f30
  rw [f35] at f36
  first
  | (have ix0 : n14 = 240 * n1 := Eq.trans f30 (w32_iv (Iml 240 rfl (Iat f3 f2)) (by decide)); subst ix0; clear f30)
  | (have ix0 : n14 = 240 * n1 := Eq.trans f30 (w32_id (by omega) (by omega)); subst ix0; clear f30)
  | (unfold w32 at f30; have ix0 : n14 = 240 * n1 := (by omega); subst ix0)
  | skip
  first
  | (have ix1 : n15 = (240 * n1) + n0 := Eq.trans f31 (w32_iv (Iad (Iml 240 rfl (Iat f3 f2)) (Iat f1 f0)) (by decide)); subst ix1; clear f31)
  | (have ix1 : n15 = (240 * n1) + n0 := Eq.trans f31 (w32_id (by omega) (by omega)); subst ix1; clear f31)
  | (unfold w32 at f31; have ix1 : n15 = (240 * n1) + n0 := (by omega); subst ix1)
  | skip
  try unfold w32 at f30
  try unfold w32 at f31
  try unfold w32 at f36
  try unfold w32 at f37
  try subst k0
  subst y0
  refine ⟨?_, ?_⟩ <;> first | assumption | omega | trivial
theorem c_274_153_8 {q0 : Nat} : vOkm T0 (eP e_274 L_274 A_274 mu_274 (some q0)) 2 ([(20, [25, 2], [3], 88), (90, [25], [], -2147483648), (91, [25], [], 2147483647), (22, [24, 23, 6], [3], 0), (90, [24], [], -1), (91, [24], [], 9999), (20, [23, 2], [3], 26), (0, [23], [], 300), (1, [21, 20, 9], [], 0), (3, [20, 19, 8], [], 0), (0, [19], [], 240), (80, [12, 15, 17], [3, 2], 0), (16, [17, 16], [], 0), (0, [16], [], 1), (1, [15, 14, 9], [], 0), (3, [14, 13, 8], [], 0), (0, [13], [], 240), (20, [12, 2], [2], 90), (0, [12], [], 350), (31, [11], [], 0), (1273, [11, 2, 5, 9], [1, 2], 0), (90, [11], [], 0), (91, [11], [], 1), (42, [9, 10], [], 0), (20, [10, 2], [1], 93), (90, [10], [], 0), (91, [10], [], 240), (5000, [0, 1, 2, 3, 4, 5, 6, 7, 8, 9], [0, 1], 153), (0, [0], [], 285), (90, [1], [], 0), (91, [1], [], 7), (0, [2], [], 285), (90, [3], [], 0), (91, [3], [], 7), (90, [4], [], -2147483648), (91, [4], [], 2147483647), (90, [5], [], 0), (91, [5], [], 39), (90, [6], [], 0), (91, [6], [], 1007), (90, [7], [], -2147483648), (91, [7], [], 2147483647), (90, [8], [], 0), (91, [8], [], 2), (90, [9], [], 0), (91, [9], [], 240)], (2266, [2, 24, 25], [3], 0)) := vOk_inI fun ρ η f0 f1 f2 f3 f4 f5 f6 f7 f8 f9 f10 f11 f12 f13 f14 f15 f16 f17 f18 f19 f20 f21 f22 f23 f24 f25 f26 f27 f28 f29 f30 f31 f32 f33 f34 f35 f36 f37 f38 f39 f40 f41 f42 f43 f44 f45 => q_274_39 (q0 := q0) (n0 := ρ 9) (n1 := ρ 8) (n2 := ρ 7) (n3 := ρ 6) (n4 := ρ 5) (n5 := ρ 4) (n6 := ρ 3) (n7 := ρ 2) (n8 := ρ 1) (n9 := ρ 0) (n10 := ρ 10) (n11 := ρ 11) (n12 := ρ 12) (n13 := ρ 13) (n14 := ρ 14) (n15 := ρ 15) (n16 := ρ 16) (n17 := ρ 17) (n18 := ρ 19) (n19 := ρ 20) (n20 := ρ 21) (n21 := ρ 23) (n22 := ρ 24) (n23 := ρ 25) (H0 := η 0) (H1 := η 1) (H2 := η 2) (H3 := η 3) f45 f44 f43 f42 f41 f40 f39 f38 f37 f36 f35 f34 f33 f32 f31 f30 f29 f28 f27 f26 f25 f24 f23 f22 f21 f20 f19 f18 f17 f16 f15 f14 f13 f12 f11 f10 f9 f8 f7 f6 f5 f4 f3 f2 f1 f0
theorem q_274_40 {q0 : Nat} {n0 n1 n2 n3 n4 n5 n6 n7 n8 n9 n10 n11 n12 n13 n14 n15 n16 n17 n18 n19 n20 n21 n22 : Int} {H0 H1 H2 H3 : gH} (f0 : n0 ≤ 240) (f1 : 0 ≤ n0) (f2 : n1 ≤ 2) (f3 : 0 ≤ n1) (f4 : n2 ≤ 2147483647) (f5 : (-2147483648) ≤ n2) (f6 : n3 ≤ 1007) (f7 : 0 ≤ n3) (f8 : n4 ≤ 39) (f9 : 0 ≤ n4) (f10 : n5 ≤ 2147483647) (f11 : (-2147483648) ≤ n5) (f12 : n6 ≤ 7) (f13 : 0 ≤ n6) (f14 : n7 = 285) (f15 : n8 ≤ 7) (f16 : 0 ≤ n8) (f17 : n9 = 285) (f18 : (hLe T0 H0 H1 ∧ hFr s_274.2.2.2.2 H0 H1 ∧ hWt T0 H1) ∧ (Ab_274_153 n9 n8 n7 n6 n5 n4 n3 n2 n1 n0 H0 H1 ∧ preb_274 n9 n8 H0) ∧ some q0 = some (mub_274_153 n9 n8 n7 n6 n5 n4 n3 n2 n1 n0 H0 H1)) (f19 : n10 ≤ 240) (f20 : 0 ≤ n10) (f21 : n10 = hV H1 (n7).toNat 93) (f22 : n0 < n10) (f23 : n11 ≤ 1) (f24 : 0 ≤ n11) (f25 : (hLe T0 H1 H2 ∧ hFr s_273.2.2.2.2 H1 H2 ∧ ((0 : Int) = 0 → H2.length = H1.length) ∧ hWt T0 H2) ∧ postb_273 n11 n7 n4 n0 H1 H2) (f26 : n11 ≠ 0) (f27 : n12 = 350) (f28 : n12 = hV H2 (n7).toNat 90) (f29 : n13 = 240) (f30 : n14 = w32 (n13 * n1)) (f31 : n15 = w32 (n14 + n0)) (f32 : n16 = 1) (f33 : n17 = o32 (fun x _ => x &&& 1) n16 0) (f34 : hUpd H3 H2 n12 n15 n17) (f35 : n18 = 240) (f36 : n19 = w32 (n18 * n1)) (f37 : n20 = w32 (n19 + n0)) (f38 : n21 = 300) (f39 : n21 = hV H3 (n7).toNat 26) (f40 : n22 ≤ 9999) (f41 : (-1) ≤ n22) (f42 : n22 = hV H3 (n21).toNat (n3).toNat) : 0 ≤ n20 ∧ n20 < 720 := by
  have g4 := f18.2.1.1
  unfold Ab_274_153 at g4
  have g3 := f18.2.1.2
  unfold preb_274 at g3
  unfold postb_273 at f25
  have e0 : n10 = hV H1 285 93 := (by rw [f14] at f21; exact f21 : n10 = hV H1 285 93)
  have e3 : hV H1 300 = hV H0 300 := fRow f18.1.2.1 300 kR_274_300
  have e4 : n22 = hV H0 300 (n3).toNat := (by rw [f38] at f42; exact f42 : n22 = hV H3 300 (n3).toNat).trans (((congrFun (uRowNe f34 300 (iS (show n12 = ((350 : Nat) : Int) from f27) rfl)) _)).trans (((congrFun (fRow f25.1.2.1 300 kR_273_300) _)).trans ((congrFun e3 _))))
  have e9 : hV H1 298 = hV H0 298 := fRow f18.1.2.1 298 kR_274_298
  have e10 : hV H1 301 = hV H0 301 := fRow f18.1.2.1 301 kR_274_301
  have e11 : hV H1 302 = hV H0 302 := fRow f18.1.2.1 302 kR_274_302
  have e12 : hV H1 303 = hV H0 303 := fRow f18.1.2.1 303 kR_274_303
  have e13 : hV H1 305 = hV H0 305 := fRow f18.1.2.1 305 kR_274_305
  have e15 : hV H2 285 64 = hV H0 285 64 := ((f25.1.2.1.1 285 64 kF_273_285_64)).trans (f18.1.2.1.1 285 64 kF_274_285_64)
  have e16 : hV H2 300 = hV H0 300 := (fRow f25.1.2.1 300 kR_273_300).trans e3
  have e17 : hV H2 344 = hV H1 344 := fRow f25.1.2.1 344 kR_273_344
  have e18 : (0 : Int) ≤ hV H0 285 18 ∧ hV H0 285 18 ≤ 8 := bTo ((f18.1.2.1.1 285 18 kF_274_285_18)) (f18.1.2.2 285 18 _ _ kW_285_18)
  have e19 : (0 : Int) ≤ hV H0 285 64 ∧ hV H0 285 64 ≤ 20 := bTo ((f18.1.2.1.1 285 64 kF_274_285_64)) (f18.1.2.2 285 64 _ _ kW_285_64)
  have e20 : (0 : Int) ≤ hV H1 285 82 ∧ hV H1 285 82 ≤ 40 := f18.1.2.2 285 82 _ _ kW_285_82
  try simp only [XQ] at *
  try simp only [e15, e16, e17] at f25
  try simp only [e9, e3, e10, e11, e12, e13] at g4
  have k0 := g4.1
  have y0 := g4.2.1
  have y1 := g4.2.2.1
  have y2 := g4.2.2.2.1
  have y3 := g4.2.2.2.2
  have p0 := g3.1
  have p1 := g3.2.1
  have p2 := g3.2.2
  have r0_0 := f25.2
  clear g3
  clear g4
  clear f21 f28 f39 f42 e3 e9 e10 e11 e12 e13 e15 e16 e17
  subst e0
  subst e4
  rw [f29] at f30
  rw [f35] at f36
  first
  | (have ix0 : n14 = 240 * n1 := Eq.trans f30 (w32_iv (Iml 240 rfl (Iat f3 f2)) (by decide)); subst ix0; clear f30)
  | (have ix0 : n14 = 240 * n1 := Eq.trans f30 (w32_id (by omega) (by omega)); subst ix0; clear f30)
  | (unfold w32 at f30; have ix0 : n14 = 240 * n1 := (by omega); subst ix0)
  | skip
  first
  | (have ix1 : n15 = (240 * n1) + n0 := Eq.trans f31 (w32_iv (Iad (Iml 240 rfl (Iat f3 f2)) (Iat f1 f0)) (by decide)); subst ix1; clear f31)
  | (have ix1 : n15 = (240 * n1) + n0 := Eq.trans f31 (w32_id (by omega) (by omega)); subst ix1; clear f31)
  | (unfold w32 at f31; have ix1 : n15 = (240 * n1) + n0 := (by omega); subst ix1)
  | skip
  first
  | (have ix2 : n19 = 240 * n1 := Eq.trans f36 (w32_iv (Iml 240 rfl (Iat f3 f2)) (by decide)); subst ix2; clear f36)
  | (have ix2 : n19 = 240 * n1 := Eq.trans f36 (w32_id (by omega) (by omega)); subst ix2; clear f36)
  | (unfold w32 at f36; have ix2 : n19 = 240 * n1 := (by omega); subst ix2)
  | skip
  first
  | (have ix3 : n20 = (240 * n1) + n0 := Eq.trans f37 (w32_iv (Iad (Iml 240 rfl (Iat f3 f2)) (Iat f1 f0)) (by decide)); subst ix3; clear f37)
  | (have ix3 : n20 = (240 * n1) + n0 := Eq.trans f37 (w32_id (by omega) (by omega)); subst ix3; clear f37)
  | (unfold w32 at f37; have ix3 : n20 = (240 * n1) + n0 := (by omega); subst ix3)
  | skip
  try unfold w32 at f30
  try unfold w32 at f31
  try unfold w32 at f36
  try unfold w32 at f37
  try subst k0
  subst y0
  omega
theorem c_274_153_9 {q0 : Nat} : vOkm T0 (eP e_274 L_274 A_274 mu_274 (some q0)) 2 ([(22, [24, 23, 6], [3], 0), (90, [24], [], -1), (91, [24], [], 9999), (20, [23, 2], [3], 26), (0, [23], [], 300), (1, [21, 20, 9], [], 0), (3, [20, 19, 8], [], 0), (0, [19], [], 240), (80, [12, 15, 17], [3, 2], 0), (16, [17, 16], [], 0), (0, [16], [], 1), (1, [15, 14, 9], [], 0), (3, [14, 13, 8], [], 0), (0, [13], [], 240), (20, [12, 2], [2], 90), (0, [12], [], 350), (31, [11], [], 0), (1273, [11, 2, 5, 9], [1, 2], 0), (90, [11], [], 0), (91, [11], [], 1), (42, [9, 10], [], 0), (20, [10, 2], [1], 93), (90, [10], [], 0), (91, [10], [], 240), (5000, [0, 1, 2, 3, 4, 5, 6, 7, 8, 9], [0, 1], 153), (0, [0], [], 285), (90, [1], [], 0), (91, [1], [], 7), (0, [2], [], 285), (90, [3], [], 0), (91, [3], [], 7), (90, [4], [], -2147483648), (91, [4], [], 2147483647), (90, [5], [], 0), (91, [5], [], 39), (90, [6], [], 0), (91, [6], [], 1007), (90, [7], [], -2147483648), (91, [7], [], 2147483647), (90, [8], [], 0), (91, [8], [], 2), (90, [9], [], 0), (91, [9], [], 240)], (70, [21], [], 720)) := vOk_inI fun ρ η f0 f1 f2 f3 f4 f5 f6 f7 f8 f9 f10 f11 f12 f13 f14 f15 f16 f17 f18 f19 f20 f21 f22 f23 f24 f25 f26 f27 f28 f29 f30 f31 f32 f33 f34 f35 f36 f37 f38 f39 f40 f41 f42 => q_274_40 (q0 := q0) (n0 := ρ 9) (n1 := ρ 8) (n2 := ρ 7) (n3 := ρ 6) (n4 := ρ 5) (n5 := ρ 4) (n6 := ρ 3) (n7 := ρ 2) (n8 := ρ 1) (n9 := ρ 0) (n10 := ρ 10) (n11 := ρ 11) (n12 := ρ 12) (n13 := ρ 13) (n14 := ρ 14) (n15 := ρ 15) (n16 := ρ 16) (n17 := ρ 17) (n18 := ρ 19) (n19 := ρ 20) (n20 := ρ 21) (n21 := ρ 23) (n22 := ρ 24) (H0 := η 0) (H1 := η 1) (H2 := η 2) (H3 := η 3) f42 f41 f40 f39 f38 f37 f36 f35 f34 f33 f32 f31 f30 f29 f28 f27 f26 f25 f24 f23 f22 f21 f20 f19 f18 f17 f16 f15 f14 f13 f12 f11 f10 f9 f8 f7 f6 f5 f4 f3 f2 f1 f0
theorem q_274_41 {q0 : Nat} {n0 n1 n2 n3 n4 n5 n6 n7 n8 n9 n10 n11 n12 n13 n14 n15 n16 n17 n18 n19 n20 n21 n22 n23 : Int} {H0 H1 H2 H3 : gH} (f0 : n0 ≤ 240) (f1 : 0 ≤ n0) (f2 : n1 ≤ 2) (f3 : 0 ≤ n1) (f4 : n2 ≤ 2147483647) (f5 : (-2147483648) ≤ n2) (f6 : n3 ≤ 1007) (f7 : 0 ≤ n3) (f8 : n4 ≤ 39) (f9 : 0 ≤ n4) (f10 : n5 ≤ 2147483647) (f11 : (-2147483648) ≤ n5) (f12 : n6 ≤ 7) (f13 : 0 ≤ n6) (f14 : n7 = 285) (f15 : n8 ≤ 7) (f16 : 0 ≤ n8) (f17 : n9 = 285) (f18 : (hLe T0 H0 H1 ∧ hFr s_274.2.2.2.2 H0 H1 ∧ hWt T0 H1) ∧ (Ab_274_153 n9 n8 n7 n6 n5 n4 n3 n2 n1 n0 H0 H1 ∧ preb_274 n9 n8 H0) ∧ some q0 = some (mub_274_153 n9 n8 n7 n6 n5 n4 n3 n2 n1 n0 H0 H1)) (f19 : n10 ≤ 240) (f20 : 0 ≤ n10) (f21 : n10 = hV H1 (n7).toNat 93) (f22 : n0 < n10) (f23 : n11 ≤ 1) (f24 : 0 ≤ n11) (f25 : (hLe T0 H1 H2 ∧ hFr s_273.2.2.2.2 H1 H2 ∧ ((0 : Int) = 0 → H2.length = H1.length) ∧ hWt T0 H2) ∧ postb_273 n11 n7 n4 n0 H1 H2) (f26 : n11 ≠ 0) (f27 : n12 = 350) (f28 : n12 = hV H2 (n7).toNat 90) (f29 : n13 = 240) (f30 : n14 = w32 (n13 * n1)) (f31 : n15 = w32 (n14 + n0)) (f32 : n16 = 1) (f33 : n17 = o32 (fun x _ => x &&& 1) n16 0) (f34 : hUpd H3 H2 n12 n15 n17) (f35 : n18 = 240) (f36 : n19 = w32 (n18 * n1)) (f37 : n20 = w32 (n19 + n0)) (f38 : n21 = 300) (f39 : n21 = hV H3 (n7).toNat 26) (f40 : n22 ≤ 9999) (f41 : (-1) ≤ n22) (f42 : n22 = hV H3 (n21).toNat (n3).toNat) (f43 : n23 = w32 (n0 + 1)) : 0 ≤ n23 := by
  have g4 := f18.2.1.1
  unfold Ab_274_153 at g4
  have g3 := f18.2.1.2
  unfold preb_274 at g3
  unfold postb_273 at f25
  have e0 : n10 = hV H1 285 93 := (by rw [f14] at f21; exact f21 : n10 = hV H1 285 93)
  have e3 : hV H1 300 = hV H0 300 := fRow f18.1.2.1 300 kR_274_300
  have e4 : n22 = hV H0 300 (n3).toNat := (by rw [f38] at f42; exact f42 : n22 = hV H3 300 (n3).toNat).trans (((congrFun (uRowNe f34 300 (iS (show n12 = ((350 : Nat) : Int) from f27) rfl)) _)).trans (((congrFun (fRow f25.1.2.1 300 kR_273_300) _)).trans ((congrFun e3 _))))
  have e9 : hV H1 298 = hV H0 298 := fRow f18.1.2.1 298 kR_274_298
  have e10 : hV H1 301 = hV H0 301 := fRow f18.1.2.1 301 kR_274_301
  have e11 : hV H1 302 = hV H0 302 := fRow f18.1.2.1 302 kR_274_302
  have e12 : hV H1 303 = hV H0 303 := fRow f18.1.2.1 303 kR_274_303
  have e13 : hV H1 305 = hV H0 305 := fRow f18.1.2.1 305 kR_274_305
  have e15 : hV H2 285 64 = hV H0 285 64 := ((f25.1.2.1.1 285 64 kF_273_285_64)).trans (f18.1.2.1.1 285 64 kF_274_285_64)
  have e16 : hV H2 300 = hV H0 300 := (fRow f25.1.2.1 300 kR_273_300).trans e3
  have e17 : hV H2 344 = hV H1 344 := fRow f25.1.2.1 344 kR_273_344
  have e18 : (0 : Int) ≤ hV H0 285 18 ∧ hV H0 285 18 ≤ 8 := bTo ((f18.1.2.1.1 285 18 kF_274_285_18)) (f18.1.2.2 285 18 _ _ kW_285_18)
  have e19 : (0 : Int) ≤ hV H0 285 64 ∧ hV H0 285 64 ≤ 20 := bTo ((f18.1.2.1.1 285 64 kF_274_285_64)) (f18.1.2.2 285 64 _ _ kW_285_64)
  have e20 : (0 : Int) ≤ hV H1 285 82 ∧ hV H1 285 82 ≤ 40 := f18.1.2.2 285 82 _ _ kW_285_82
  try simp only [XQ] at *
  try simp only [e15, e16, e17] at f25
  try simp only [e9, e3, e10, e11, e12, e13] at g4
  have k0 := g4.1
  have y0 := g4.2.1
  have y1 := g4.2.2.1
  have y2 := g4.2.2.2.1
  have y3 := g4.2.2.2.2
  have p0 := g3.1
  have p1 := g3.2.1
  have p2 := g3.2.2
  have r0_0 := f25.2
  clear g3
  clear g4
  clear f21 f28 f39 f42 e3 e9 e10 e11 e12 e13 e15 e16 e17
  subst e0
  subst e4
  rw [f29] at f30
  rw [f35] at f36
  first
  | (have ix0 : n14 = 240 * n1 := Eq.trans f30 (w32_iv (Iml 240 rfl (Iat f3 f2)) (by decide)); subst ix0; clear f30)
  | (have ix0 : n14 = 240 * n1 := Eq.trans f30 (w32_id (by omega) (by omega)); subst ix0; clear f30)
  | (unfold w32 at f30; have ix0 : n14 = 240 * n1 := (by omega); subst ix0)
  | skip
  first
  | (have ix1 : n15 = (240 * n1) + n0 := Eq.trans f31 (w32_iv (Iad (Iml 240 rfl (Iat f3 f2)) (Iat f1 f0)) (by decide)); subst ix1; clear f31)
  | (have ix1 : n15 = (240 * n1) + n0 := Eq.trans f31 (w32_id (by omega) (by omega)); subst ix1; clear f31)
  | (unfold w32 at f31; have ix1 : n15 = (240 * n1) + n0 := (by omega); subst ix1)
  | skip
  first
  | (have ix2 : n23 = n0 + 1 := Eq.trans f43 (w32_iv (Iad (Iat f1 f0) (IC 1)) (by decide)); subst ix2; clear f43)
  | (have ix2 : n23 = n0 + 1 := Eq.trans f43 (w32_id (by omega) (by omega)); subst ix2; clear f43)
  | (unfold w32 at f43; have ix2 : n23 = n0 + 1 := (by omega); subst ix2)
  | skip
  try unfold w32 at f30
  try unfold w32 at f31
  try unfold w32 at f36
  try unfold w32 at f37
  try unfold w32 at f43
  try subst k0
  subst y0
  omega
theorem c_274_153_10 {q0 : Nat} : vOkm T0 (eP e_274 L_274 A_274 mu_274 (some q0)) 2 ([(10, [32, 9], [], 1), (22, [24, 23, 6], [3], 0), (90, [24], [], -1), (91, [24], [], 9999), (20, [23, 2], [3], 26), (0, [23], [], 300), (1, [21, 20, 9], [], 0), (3, [20, 19, 8], [], 0), (0, [19], [], 240), (80, [12, 15, 17], [3, 2], 0), (16, [17, 16], [], 0), (0, [16], [], 1), (1, [15, 14, 9], [], 0), (3, [14, 13, 8], [], 0), (0, [13], [], 240), (20, [12, 2], [2], 90), (0, [12], [], 350), (31, [11], [], 0), (1273, [11, 2, 5, 9], [1, 2], 0), (90, [11], [], 0), (91, [11], [], 1), (42, [9, 10], [], 0), (20, [10, 2], [1], 93), (90, [10], [], 0), (91, [10], [], 240), (5000, [0, 1, 2, 3, 4, 5, 6, 7, 8, 9], [0, 1], 153), (0, [0], [], 285), (90, [1], [], 0), (91, [1], [], 7), (0, [2], [], 285), (90, [3], [], 0), (91, [3], [], 7), (90, [4], [], -2147483648), (91, [4], [], 2147483647), (90, [5], [], 0), (91, [5], [], 39), (90, [6], [], 0), (91, [6], [], 1007), (90, [7], [], -2147483648), (91, [7], [], 2147483647), (90, [8], [], 0), (91, [8], [], 2), (90, [9], [], 0), (91, [9], [], 240)], (90, [32], [], 0)) := vOk_inI fun ρ η f0 f1 f2 f3 f4 f5 f6 f7 f8 f9 f10 f11 f12 f13 f14 f15 f16 f17 f18 f19 f20 f21 f22 f23 f24 f25 f26 f27 f28 f29 f30 f31 f32 f33 f34 f35 f36 f37 f38 f39 f40 f41 f42 f43 => q_274_41 (q0 := q0) (n0 := ρ 9) (n1 := ρ 8) (n2 := ρ 7) (n3 := ρ 6) (n4 := ρ 5) (n5 := ρ 4) (n6 := ρ 3) (n7 := ρ 2) (n8 := ρ 1) (n9 := ρ 0) (n10 := ρ 10) (n11 := ρ 11) (n12 := ρ 12) (n13 := ρ 13) (n14 := ρ 14) (n15 := ρ 15) (n16 := ρ 16) (n17 := ρ 17) (n18 := ρ 19) (n19 := ρ 20) (n20 := ρ 21) (n21 := ρ 23) (n22 := ρ 24) (n23 := ρ 32) (H0 := η 0) (H1 := η 1) (H2 := η 2) (H3 := η 3) f43 f42 f41 f40 f39 f38 f37 f36 f35 f34 f33 f32 f31 f30 f29 f28 f27 f26 f25 f24 f23 f22 f21 f20 f19 f18 f17 f16 f15 f14 f13 f12 f11 f10 f9 f8 f7 f6 f5 f4 f3 f2 f1 f0
theorem q_274_42 {q0 : Nat} {n0 n1 n2 n3 n4 n5 n6 n7 n8 n9 n10 n11 n12 n13 n14 n15 n16 n17 n18 n19 n20 n21 n22 n23 : Int} {H0 H1 H2 H3 : gH} (f0 : n0 ≤ 240) (f1 : 0 ≤ n0) (f2 : n1 ≤ 2) (f3 : 0 ≤ n1) (f4 : n2 ≤ 2147483647) (f5 : (-2147483648) ≤ n2) (f6 : n3 ≤ 1007) (f7 : 0 ≤ n3) (f8 : n4 ≤ 39) (f9 : 0 ≤ n4) (f10 : n5 ≤ 2147483647) (f11 : (-2147483648) ≤ n5) (f12 : n6 ≤ 7) (f13 : 0 ≤ n6) (f14 : n7 = 285) (f15 : n8 ≤ 7) (f16 : 0 ≤ n8) (f17 : n9 = 285) (f18 : (hLe T0 H0 H1 ∧ hFr s_274.2.2.2.2 H0 H1 ∧ hWt T0 H1) ∧ (Ab_274_153 n9 n8 n7 n6 n5 n4 n3 n2 n1 n0 H0 H1 ∧ preb_274 n9 n8 H0) ∧ some q0 = some (mub_274_153 n9 n8 n7 n6 n5 n4 n3 n2 n1 n0 H0 H1)) (f19 : n10 ≤ 240) (f20 : 0 ≤ n10) (f21 : n10 = hV H1 (n7).toNat 93) (f22 : n0 < n10) (f23 : n11 ≤ 1) (f24 : 0 ≤ n11) (f25 : (hLe T0 H1 H2 ∧ hFr s_273.2.2.2.2 H1 H2 ∧ ((0 : Int) = 0 → H2.length = H1.length) ∧ hWt T0 H2) ∧ postb_273 n11 n7 n4 n0 H1 H2) (f26 : n11 ≠ 0) (f27 : n12 = 350) (f28 : n12 = hV H2 (n7).toNat 90) (f29 : n13 = 240) (f30 : n14 = w32 (n13 * n1)) (f31 : n15 = w32 (n14 + n0)) (f32 : n16 = 1) (f33 : n17 = o32 (fun x _ => x &&& 1) n16 0) (f34 : hUpd H3 H2 n12 n15 n17) (f35 : n18 = 240) (f36 : n19 = w32 (n18 * n1)) (f37 : n20 = w32 (n19 + n0)) (f38 : n21 = 300) (f39 : n21 = hV H3 (n7).toNat 26) (f40 : n22 ≤ 9999) (f41 : (-1) ≤ n22) (f42 : n22 = hV H3 (n21).toNat (n3).toNat) (f43 : n23 = w32 (n0 + 1)) : n23 ≤ 240 := by
  have g4 := f18.2.1.1
  unfold Ab_274_153 at g4
  have g3 := f18.2.1.2
  unfold preb_274 at g3
  unfold postb_273 at f25
  have e0 : n10 = hV H1 285 93 := (by rw [f14] at f21; exact f21 : n10 = hV H1 285 93)
  have e3 : hV H1 300 = hV H0 300 := fRow f18.1.2.1 300 kR_274_300
  have e4 : n22 = hV H0 300 (n3).toNat := (by rw [f38] at f42; exact f42 : n22 = hV H3 300 (n3).toNat).trans (((congrFun (uRowNe f34 300 (iS (show n12 = ((350 : Nat) : Int) from f27) rfl)) _)).trans (((congrFun (fRow f25.1.2.1 300 kR_273_300) _)).trans ((congrFun e3 _))))
  have e9 : hV H1 298 = hV H0 298 := fRow f18.1.2.1 298 kR_274_298
  have e10 : hV H1 301 = hV H0 301 := fRow f18.1.2.1 301 kR_274_301
  have e11 : hV H1 302 = hV H0 302 := fRow f18.1.2.1 302 kR_274_302
  have e12 : hV H1 303 = hV H0 303 := fRow f18.1.2.1 303 kR_274_303
  have e13 : hV H1 305 = hV H0 305 := fRow f18.1.2.1 305 kR_274_305
  have e15 : hV H2 285 64 = hV H0 285 64 := ((f25.1.2.1.1 285 64 kF_273_285_64)).trans (f18.1.2.1.1 285 64 kF_274_285_64)
  have e16 : hV H2 300 = hV H0 300 := (fRow f25.1.2.1 300 kR_273_300).trans e3
  have e17 : hV H2 344 = hV H1 344 := fRow f25.1.2.1 344 kR_273_344
  have e18 : (0 : Int) ≤ hV H0 285 18 ∧ hV H0 285 18 ≤ 8 := bTo ((f18.1.2.1.1 285 18 kF_274_285_18)) (f18.1.2.2 285 18 _ _ kW_285_18)
  have e19 : (0 : Int) ≤ hV H0 285 64 ∧ hV H0 285 64 ≤ 20 := bTo ((f18.1.2.1.1 285 64 kF_274_285_64)) (f18.1.2.2 285 64 _ _ kW_285_64)
  have e20 : (0 : Int) ≤ hV H1 285 82 ∧ hV H1 285 82 ≤ 40 := f18.1.2.2 285 82 _ _ kW_285_82
  try simp only [XQ] at *
  try simp only [e15, e16, e17] at f25
  try simp only [e9, e3, e10, e11, e12, e13] at g4
  have k0 := g4.1
  have y0 := g4.2.1
  have y1 := g4.2.2.1
  have y2 := g4.2.2.2.1
  have y3 := g4.2.2.2.2
  have p0 := g3.1
  have p1 := g3.2.1
  have p2 := g3.2.2
  have r0_0 := f25.2
  clear g3
  clear g4
  clear f21 f28 f39 f42 e3 e9 e10 e11 e12 e13 e15 e16 e17
  subst e0
  subst e4
  rw [f29] at f30
  rw [f35] at f36
  first
  | (have ix0 : n14 = 240 * n1 := Eq.trans f30 (w32_iv (Iml 240 rfl (Iat f3 f2)) (by decide)); subst ix0; clear f30)
  | (have ix0 : n14 = 240 * n1 := Eq.trans f30 (w32_id (by omega) (by omega)); subst ix0; clear f30)
  | (unfold w32 at f30; have ix0 : n14 = 240 * n1 := (by omega); subst ix0)
  | skip
  first
  | (have ix1 : n15 = (240 * n1) + n0 := Eq.trans f31 (w32_iv (Iad (Iml 240 rfl (Iat f3 f2)) (Iat f1 f0)) (by decide)); subst ix1; clear f31)
  | (have ix1 : n15 = (240 * n1) + n0 := Eq.trans f31 (w32_id (by omega) (by omega)); subst ix1; clear f31)
  | (unfold w32 at f31; have ix1 : n15 = (240 * n1) + n0 := (by omega); subst ix1)
  | skip
  first
  | (have ix2 : n23 = n0 + 1 := Eq.trans f43 (w32_iv (Iad (Iat f1 f0) (IC 1)) (by decide)); subst ix2; clear f43)
  | (have ix2 : n23 = n0 + 1 := Eq.trans f43 (w32_id (by omega) (by omega)); subst ix2; clear f43)
  | (unfold w32 at f43; have ix2 : n23 = n0 + 1 := (by omega); subst ix2)
  | skip
  try unfold w32 at f30
  try unfold w32 at f31
  try unfold w32 at f36
  try unfold w32 at f37
  try unfold w32 at f43
  try subst k0
  subst y0
  omega
theorem c_274_153_11 {q0 : Nat} : vOkm T0 (eP e_274 L_274 A_274 mu_274 (some q0)) 2 ([(10, [32, 9], [], 1), (22, [24, 23, 6], [3], 0), (90, [24], [], -1), (91, [24], [], 9999), (20, [23, 2], [3], 26), (0, [23], [], 300), (1, [21, 20, 9], [], 0), (3, [20, 19, 8], [], 0), (0, [19], [], 240), (80, [12, 15, 17], [3, 2], 0), (16, [17, 16], [], 0), (0, [16], [], 1), (1, [15, 14, 9], [], 0), (3, [14, 13, 8], [], 0), (0, [13], [], 240), (20, [12, 2], [2], 90), (0, [12], [], 350), (31, [11], [], 0), (1273, [11, 2, 5, 9], [1, 2], 0), (90, [11], [], 0), (91, [11], [], 1), (42, [9, 10], [], 0), (20, [10, 2], [1], 93), (90, [10], [], 0), (91, [10], [], 240), (5000, [0, 1, 2, 3, 4, 5, 6, 7, 8, 9], [0, 1], 153), (0, [0], [], 285), (90, [1], [], 0), (91, [1], [], 7), (0, [2], [], 285), (90, [3], [], 0), (91, [3], [], 7), (90, [4], [], -2147483648), (91, [4], [], 2147483647), (90, [5], [], 0), (91, [5], [], 39), (90, [6], [], 0), (91, [6], [], 1007), (90, [7], [], -2147483648), (91, [7], [], 2147483647), (90, [8], [], 0), (91, [8], [], 2), (90, [9], [], 0), (91, [9], [], 240)], (91, [32], [], 240)) := vOk_inI fun ρ η f0 f1 f2 f3 f4 f5 f6 f7 f8 f9 f10 f11 f12 f13 f14 f15 f16 f17 f18 f19 f20 f21 f22 f23 f24 f25 f26 f27 f28 f29 f30 f31 f32 f33 f34 f35 f36 f37 f38 f39 f40 f41 f42 f43 => q_274_42 (q0 := q0) (n0 := ρ 9) (n1 := ρ 8) (n2 := ρ 7) (n3 := ρ 6) (n4 := ρ 5) (n5 := ρ 4) (n6 := ρ 3) (n7 := ρ 2) (n8 := ρ 1) (n9 := ρ 0) (n10 := ρ 10) (n11 := ρ 11) (n12 := ρ 12) (n13 := ρ 13) (n14 := ρ 14) (n15 := ρ 15) (n16 := ρ 16) (n17 := ρ 17) (n18 := ρ 19) (n19 := ρ 20) (n20 := ρ 21) (n21 := ρ 23) (n22 := ρ 24) (n23 := ρ 32) (H0 := η 0) (H1 := η 1) (H2 := η 2) (H3 := η 3) f43 f42 f41 f40 f39 f38 f37 f36 f35 f34 f33 f32 f31 f30 f29 f28 f27 f26 f25 f24 f23 f22 f21 f20 f19 f18 f17 f16 f15 f14 f13 f12 f11 f10 f9 f8 f7 f6 f5 f4 f3 f2 f1 f0
theorem kR_273_349 : vFreeR s_273.2.2.2.2 349 = true := by decide +kernel
theorem kR_266_298 : vFreeR s_266.2.2.2.2 298 = true := by decide +kernel
theorem kR_273_298 : vFreeR s_273.2.2.2.2 298 = true := by decide +kernel
theorem kR_266_300 : vFreeR s_266.2.2.2.2 300 = true := by decide +kernel
theorem kR_266_301 : vFreeR s_266.2.2.2.2 301 = true := by decide +kernel
theorem kR_273_301 : vFreeR s_273.2.2.2.2 301 = true := by decide +kernel
theorem kR_266_302 : vFreeR s_266.2.2.2.2 302 = true := by decide +kernel
theorem kR_273_302 : vFreeR s_273.2.2.2.2 302 = true := by decide +kernel
theorem kR_266_303 : vFreeR s_266.2.2.2.2 303 = true := by decide +kernel
theorem kR_273_303 : vFreeR s_273.2.2.2.2 303 = true := by decide +kernel
theorem kR_266_305 : vFreeR s_266.2.2.2.2 305 = true := by decide +kernel
theorem kR_266_344 : vFreeR s_266.2.2.2.2 344 = true := by decide +kernel
theorem kF_266_285_82 : vFree s_266.2.2.2.2 285 82 = true := by decide +kernel
theorem q_274_43 {q0 : Nat} {n0 n1 n2 n3 n4 n5 n6 n7 n8 n9 n10 n11 n12 n13 n14 n15 n16 n17 n18 n19 n20 n21 n22 n23 n24 n25 n26 n27 n28 n29 n30 n31 n32 : Int} {H0 H1 H2 H3 H4 H5 : gH} (f0 : n0 ≤ 240) (f1 : 0 ≤ n0) (f2 : n1 ≤ 2) (f3 : 0 ≤ n1) (f4 : n2 ≤ 2147483647) (f5 : (-2147483648) ≤ n2) (f6 : n3 ≤ 1007) (f7 : 0 ≤ n3) (f8 : n4 ≤ 39) (f9 : 0 ≤ n4) (f10 : n5 ≤ 2147483647) (f11 : (-2147483648) ≤ n5) (f12 : n6 ≤ 7) (f13 : 0 ≤ n6) (f14 : n7 = 285) (f15 : n8 ≤ 7) (f16 : 0 ≤ n8) (f17 : n9 = 285) (f18 : (hLe T0 H0 H1 ∧ hFr s_274.2.2.2.2 H0 H1 ∧ hWt T0 H1) ∧ (Ab_274_153 n9 n8 n7 n6 n5 n4 n3 n2 n1 n0 H0 H1 ∧ preb_274 n9 n8 H0) ∧ some q0 = some (mub_274_153 n9 n8 n7 n6 n5 n4 n3 n2 n1 n0 H0 H1)) (f19 : n10 ≤ 240) (f20 : 0 ≤ n10) (f21 : n10 = hV H1 (n7).toNat 93) (f22 : n0 < n10) (f23 : n11 ≤ 1) (f24 : 0 ≤ n11) (f25 : (hLe T0 H1 H2 ∧ hFr s_273.2.2.2.2 H1 H2 ∧ ((0 : Int) = 0 → H2.length = H1.length) ∧ hWt T0 H2) ∧ postb_273 n11 n7 n4 n0 H1 H2) (f26 : n11 ≠ 0) (f27 : n12 = 350) (f28 : n12 = hV H2 (n7).toNat 90) (f29 : n13 = 240) (f30 : n14 = w32 (n13 * n1)) (f31 : n15 = w32 (n14 + n0)) (f32 : n16 = 1) (f33 : n17 = o32 (fun x _ => x &&& 1) n16 0) (f34 : hUpd H3 H2 n12 n15 n17) (f35 : n18 = 349) (f36 : n18 = hV H3 (n7).toNat 89) (f37 : n19 = 240) (f38 : n20 = w32 (n19 * n1)) (f39 : n21 = w32 (n20 + n0)) (f40 : n22 = hV H3 (n18).toNat (n21).toNat) (f41 : n23 = 300) (f42 : n23 = hV H3 (n7).toNat 26) (f43 : n24 ≤ 9999) (f44 : (-1) ≤ n24) (f45 : n24 = hV H3 (n23).toNat (n3).toNat) (f46 : n25 ≤ 2147483647) (f47 : (-2147483648) ≤ n25) (f48 : n25 = hV H3 (n7).toNat 88) (f49 : n26 ≤ 2147483647) (f50 : (-2147483648) ≤ n26) (f51 : (hLe T0 H3 H4 ∧ hFr s_266.2.2.2.2 H3 H4 ∧ ((0 : Int) = 0 → H4.length = H3.length) ∧ hWt T0 H4) ∧ True) (f52 : n27 = w32 (n26 * n2)) (f53 : n28 = 100) (f54 : n29 = o32 (fun x y => x / y) n27 n28) (f55 : n30 = n29) (f56 : n31 = o64 (fun x y => x + y) n22 n30) (f57 : hUpd H5 H4 n18 n21 n31) (f58 : n32 = w32 (n0 + 1)) : Ab_274_153 n9 n8 n7 n6 n5 n4 n3 n2 n1 n32 H0 H5 ∧ ∀ q, some q0 = some q → mub_274_153 n9 n8 n7 n6 n5 n4 n3 n2 n1 n32 H0 H5 < q := by
  have g4 := f18.2.1.1
  unfold Ab_274_153 at g4
  have g3 := f18.2.1.2
  unfold preb_274 at g3
  have g5 := Option.some.inj f18.2.2
  unfold mub_274_153 at g5
  unfold postb_273 at f25
  unfold Ab_274_153
  unfold mub_274_153
  have e0 : n10 = hV H1 285 93 := (by rw [f14] at f21; exact f21 : n10 = hV H1 285 93)
  have e3 : n22 = hV H1 349 (n21).toNat := (by rw [f35] at f40; exact f40 : n22 = hV H3 349 (n21).toNat).trans (((congrFun (uRowNe f34 349 (iS (show n12 = ((350 : Nat) : Int) from f27) rfl)) _)).trans ((congrFun (fRow f25.1.2.1 349 kR_273_349) _)))
  have e6 : hV H1 300 = hV H0 300 := fRow f18.1.2.1 300 kR_274_300
  have e7 : n24 = hV H0 300 (n3).toNat := (by rw [f41] at f45; exact f45 : n24 = hV H3 300 (n3).toNat).trans (((congrFun (uRowNe f34 300 (iS (show n12 = ((350 : Nat) : Int) from f27) rfl)) _)).trans (((congrFun (fRow f25.1.2.1 300 kR_273_300) _)).trans ((congrFun e6 _))))
  have e9 : n25 = hV H2 285 88 := (by rw [f14] at f48; exact f48 : n25 = hV H3 285 88).trans ((uPlace f34 285 88 (iS (show n12 = ((350 : Nat) : Int) from f27) rfl)))
  have e14 : hV H1 298 = hV H0 298 := fRow f18.1.2.1 298 kR_274_298
  have e15 : hV H1 301 = hV H0 301 := fRow f18.1.2.1 301 kR_274_301
  have e16 : hV H1 302 = hV H0 302 := fRow f18.1.2.1 302 kR_274_302
  have e17 : hV H1 303 = hV H0 303 := fRow f18.1.2.1 303 kR_274_303
  have e18 : hV H1 305 = hV H0 305 := fRow f18.1.2.1 305 kR_274_305
  have e20 : hV H2 285 64 = hV H0 285 64 := ((f25.1.2.1.1 285 64 kF_273_285_64)).trans (f18.1.2.1.1 285 64 kF_274_285_64)
  have e21 : hV H2 300 = hV H0 300 := (fRow f25.1.2.1 300 kR_273_300).trans e6
  have e22 : hV H2 344 = hV H1 344 := fRow f25.1.2.1 344 kR_273_344
  have e27 : hV H5 285 82 = hV H1 285 82 := ((uPlace f57 285 82 (iS (show n18 = ((349 : Nat) : Int) from f35) rfl))).trans (((f51.1.2.1.1 285 82 kF_266_285_82)).trans (((uPlace f34 285 82 (iS (show n12 = ((350 : Nat) : Int) from f27) rfl))).trans (f25.1.2.1.1 285 82 kF_273_285_82)))
  have e35 : hV H5 298 = hV H0 298 := (uRowNe f57 298 (iS (show n18 = ((349 : Nat) : Int) from f35) rfl)).trans ((fRow f51.1.2.1 298 kR_266_298).trans ((uRowNe f34 298 (iS (show n12 = ((350 : Nat) : Int) from f27) rfl)).trans ((fRow f25.1.2.1 298 kR_273_298).trans e14)))
  have e40 : hV H5 300 = hV H0 300 := (uRowNe f57 300 (iS (show n18 = ((349 : Nat) : Int) from f35) rfl)).trans ((fRow f51.1.2.1 300 kR_266_300).trans ((uRowNe f34 300 (iS (show n12 = ((350 : Nat) : Int) from f27) rfl)).trans e21))
  have e48 : hV H5 301 = hV H0 301 := (uRowNe f57 301 (iS (show n18 = ((349 : Nat) : Int) from f35) rfl)).trans ((fRow f51.1.2.1 301 kR_266_301).trans ((uRowNe f34 301 (iS (show n12 = ((350 : Nat) : Int) from f27) rfl)).trans ((fRow f25.1.2.1 301 kR_273_301).trans e15)))
  have e56 : hV H5 302 = hV H0 302 := (uRowNe f57 302 (iS (show n18 = ((349 : Nat) : Int) from f35) rfl)).trans ((fRow f51.1.2.1 302 kR_266_302).trans ((uRowNe f34 302 (iS (show n12 = ((350 : Nat) : Int) from f27) rfl)).trans ((fRow f25.1.2.1 302 kR_273_302).trans e16)))
  have e64 : hV H5 303 = hV H0 303 := (uRowNe f57 303 (iS (show n18 = ((349 : Nat) : Int) from f35) rfl)).trans ((fRow f51.1.2.1 303 kR_266_303).trans ((uRowNe f34 303 (iS (show n12 = ((350 : Nat) : Int) from f27) rfl)).trans ((fRow f25.1.2.1 303 kR_273_303).trans e17)))
  have e72 : hV H5 305 = hV H0 305 := (uRowNe f57 305 (iS (show n18 = ((349 : Nat) : Int) from f35) rfl)).trans ((fRow f51.1.2.1 305 kR_266_305).trans ((uRowNe f34 305 (iS (show n12 = ((350 : Nat) : Int) from f27) rfl)).trans ((fRow f25.1.2.1 305 kR_273_305).trans e18)))
  have e78 : hV H5 344 = hV H1 344 := (uRowNe f57 344 (iS (show n18 = ((349 : Nat) : Int) from f35) rfl)).trans ((fRow f51.1.2.1 344 kR_266_344).trans ((uRowNe f34 344 (iS (show n12 = ((350 : Nat) : Int) from f27) rfl)).trans e22))
  have e79 : (0 : Int) ≤ hV H0 285 18 ∧ hV H0 285 18 ≤ 8 := bTo ((f18.1.2.1.1 285 18 kF_274_285_18)) (f18.1.2.2 285 18 _ _ kW_285_18)
  have e80 : (0 : Int) ≤ hV H0 285 64 ∧ hV H0 285 64 ≤ 20 := bTo ((f18.1.2.1.1 285 64 kF_274_285_64)) (f18.1.2.2 285 64 _ _ kW_285_64)
  have e81 : (0 : Int) ≤ hV H1 285 82 ∧ hV H1 285 82 ≤ 40 := f18.1.2.2 285 82 _ _ kW_285_82
  try simp only [XQ] at *
  try simp only [e20, e21, e22] at f25
  try simp only [e14, e6, e15, e16, e17, e18] at g4
  try simp only [e27, e35, e40, e48, e56, e64, e72, e78]
  have k0 := g4.1
  have y0 := g4.2.1
  have y1 := g4.2.2.1
  have y2 := g4.2.2.2.1
  have y3 := g4.2.2.2.2
  have p0 := g3.1
  have p1 := g3.2.1
  have p2 := g3.2.2
  have r0_0 := f25.2
  clear g3
  clear g4
  clear f21 f28 f36 f40 f42 f45 f48 e6 e14 e15 e16 e17 e18 e20 e21 e22 e27 e35 e40 e48 e56 e64 e72 e78
  subst e0
  subst e3
  subst e7
  subst e9
  first | have b54 := o32_div_pos f54 (by omega) (by omega) (by omega) (by omega) | skip
  rw [f29] at f30
  rw [f37] at f38
  first
  | (have ix0 : n14 = 240 * n1 := Eq.trans f30 (w32_iv (Iml 240 rfl (Iat f3 f2)) (by decide)); subst ix0; clear f30)
  | (have ix0 : n14 = 240 * n1 := Eq.trans f30 (w32_id (by omega) (by omega)); subst ix0; clear f30)
  | (unfold w32 at f30; have ix0 : n14 = 240 * n1 := (by omega); subst ix0)
  | skip
  first
  | (have ix1 : n15 = (240 * n1) + n0 := Eq.trans f31 (w32_iv (Iad (Iml 240 rfl (Iat f3 f2)) (Iat f1 f0)) (by decide)); subst ix1; clear f31)
  | (have ix1 : n15 = (240 * n1) + n0 := Eq.trans f31 (w32_id (by omega) (by omega)); subst ix1; clear f31)
  | (unfold w32 at f31; have ix1 : n15 = (240 * n1) + n0 := (by omega); subst ix1)
  | skip
  first
  | (have ix2 : n20 = 240 * n1 := Eq.trans f38 (w32_iv (Iml 240 rfl (Iat f3 f2)) (by decide)); subst ix2; clear f38)
  | (have ix2 : n20 = 240 * n1 := Eq.trans f38 (w32_id (by omega) (by omega)); subst ix2; clear f38)
  | (unfold w32 at f38; have ix2 : n20 = 240 * n1 := (by omega); subst ix2)
  | skip
  first
  | (have ix3 : n21 = (240 * n1) + n0 := Eq.trans f39 (w32_iv (Iad (Iml 240 rfl (Iat f3 f2)) (Iat f1 f0)) (by decide)); subst ix3; clear f39)
  | (have ix3 : n21 = (240 * n1) + n0 := Eq.trans f39 (w32_id (by omega) (by omega)); subst ix3; clear f39)
  | (unfold w32 at f39; have ix3 : n21 = (240 * n1) + n0 := (by omega); subst ix3)
  | skip
  first
  | (have ix4 : n32 = n0 + 1 := Eq.trans f58 (w32_iv (Iad (Iat f1 f0) (IC 1)) (by decide)); subst ix4; clear f58)
  | (have ix4 : n32 = n0 + 1 := Eq.trans f58 (w32_id (by omega) (by omega)); subst ix4; clear f58)
  | (unfold w32 at f58; have ix4 : n32 = n0 + 1 := (by omega); subst ix4)
  | skip
  try unfold w32 at f30
  try unfold w32 at f31
  try unfold w32 at f38
  try unfold w32 at f39
  try unfold w32 at f52
  try unfold w32 at f58
  try subst k0
  subst y0
  refine ⟨?_, fun q hq => ?_⟩
  · refine ⟨?_, ?_, ?_, ?_, ?_⟩ <;> first | assumption | omega | trivial
  · have g6 := Option.some.inj hq
    subst g6
    omega
theorem c_274_153_12 {q0 : Nat} : vOkm T0 (eP e_274 L_274 A_274 mu_274 (some q0)) 2 ([(10, [32, 9], [], 1), (80, [18, 21, 31], [5, 4], 1), (61, [31, 22, 30], [], 0), (17, [30, 29], [], 0), (11, [29, 27, 28], [], 0), (0, [28], [], 100), (3, [27, 26, 7], [], 0), (1266, [26, 2, 24, 25], [3, 4], 0), (90, [26], [], -2147483648), (91, [26], [], 2147483647), (20, [25, 2], [3], 88), (90, [25], [], -2147483648), (91, [25], [], 2147483647), (22, [24, 23, 6], [3], 0), (90, [24], [], -1), (91, [24], [], 9999), (20, [23, 2], [3], 26), (0, [23], [], 300), (22, [22, 18, 21], [3], 0), (1, [21, 20, 9], [], 0), (3, [20, 19, 8], [], 0), (0, [19], [], 240), (20, [18, 2], [3], 89), (0, [18], [], 349), (80, [12, 15, 17], [3, 2], 0), (16, [17, 16], [], 0), (0, [16], [], 1), (1, [15, 14, 9], [], 0), (3, [14, 13, 8], [], 0), (0, [13], [], 240), (20, [12, 2], [2], 90), (0, [12], [], 350), (31, [11], [], 0), (1273, [11, 2, 5, 9], [1, 2], 0), (90, [11], [], 0), (91, [11], [], 1), (42, [9, 10], [], 0), (20, [10, 2], [1], 93), (90, [10], [], 0), (91, [10], [], 240), (5000, [0, 1, 2, 3, 4, 5, 6, 7, 8, 9], [0, 1], 153), (0, [0], [], 285), (90, [1], [], 0), (91, [1], [], 7), (0, [2], [], 285), (90, [3], [], 0), (91, [3], [], 7), (90, [4], [], -2147483648), (91, [4], [], 2147483647), (90, [5], [], 0), (91, [5], [], 39), (90, [6], [], 0), (91, [6], [], 1007), (90, [7], [], -2147483648), (91, [7], [], 2147483647), (90, [8], [], 0), (91, [8], [], 2), (90, [9], [], 0), (91, [9], [], 240)], (4000, [2, 3, 4, 5, 6, 7, 8, 32], [5], 153)) := vOk_inI fun ρ η f0 f1 f2 f3 f4 f5 f6 f7 f8 f9 f10 f11 f12 f13 f14 f15 f16 f17 f18 f19 f20 f21 f22 f23 f24 f25 f26 f27 f28 f29 f30 f31 f32 f33 f34 f35 f36 f37 f38 f39 f40 f41 f42 f43 f44 f45 f46 f47 f48 f49 f50 f51 f52 f53 f54 f55 f56 f57 f58 => q_274_43 (q0 := q0) (n0 := ρ 9) (n1 := ρ 8) (n2 := ρ 7) (n3 := ρ 6) (n4 := ρ 5) (n5 := ρ 4) (n6 := ρ 3) (n7 := ρ 2) (n8 := ρ 1) (n9 := ρ 0) (n10 := ρ 10) (n11 := ρ 11) (n12 := ρ 12) (n13 := ρ 13) (n14 := ρ 14) (n15 := ρ 15) (n16 := ρ 16) (n17 := ρ 17) (n18 := ρ 18) (n19 := ρ 19) (n20 := ρ 20) (n21 := ρ 21) (n22 := ρ 22) (n23 := ρ 23) (n24 := ρ 24) (n25 := ρ 25) (n26 := ρ 26) (n27 := ρ 27) (n28 := ρ 28) (n29 := ρ 29) (n30 := ρ 30) (n31 := ρ 31) (n32 := ρ 32) (H0 := η 0) (H1 := η 1) (H2 := η 2) (H3 := η 3) (H4 := η 4) (H5 := η 5) f58 f57 f56 f55 f54 f53 f52 f51 f50 f49 f48 f47 f46 f45 f44 f43 f42 f41 f40 f39 f38 f37 f36 f35 f34 f33 f32 f31 f30 f29 f28 f27 f26 f25 f24 f23 f22 f21 f20 f19 f18 f17 f16 f15 f14 f13 f12 f11 f10 f9 f8 f7 f6 f5 f4 f3 f2 f1 f0
theorem q_274_44 {q0 : Nat} {n0 n1 n2 n3 n4 n5 n6 n7 n8 n9 n10 n11 n12 : Int} {H0 H1 H2 : gH} (f0 : n0 ≤ 240) (f1 : 0 ≤ n0) (f2 : n1 ≤ 2) (f3 : 0 ≤ n1) (f4 : n2 ≤ 2147483647) (f5 : (-2147483648) ≤ n2) (f6 : n3 ≤ 1007) (f7 : 0 ≤ n3) (f8 : n4 ≤ 39) (f9 : 0 ≤ n4) (f10 : n5 ≤ 2147483647) (f11 : (-2147483648) ≤ n5) (f12 : n6 ≤ 7) (f13 : 0 ≤ n6) (f14 : n7 = 285) (f15 : n8 ≤ 7) (f16 : 0 ≤ n8) (f17 : n9 = 285) (f18 : (hLe T0 H0 H1 ∧ hFr s_274.2.2.2.2 H0 H1 ∧ hWt T0 H1) ∧ (Ab_274_153 n9 n8 n7 n6 n5 n4 n3 n2 n1 n0 H0 H1 ∧ preb_274 n9 n8 H0) ∧ some q0 = some (mub_274_153 n9 n8 n7 n6 n5 n4 n3 n2 n1 n0 H0 H1)) (f19 : n10 ≤ 240) (f20 : 0 ≤ n10) (f21 : n10 = hV H1 (n7).toNat 93) (f22 : n0 < n10) (f23 : n11 ≤ 1) (f24 : 0 ≤ n11) (f25 : (hLe T0 H1 H2 ∧ hFr s_273.2.2.2.2 H1 H2 ∧ ((0 : Int) = 0 → H2.length = H1.length) ∧ hWt T0 H2) ∧ postb_273 n11 n7 n4 n0 H1 H2) (f26 : n11 = 0) (f27 : n12 = w32 (n0 + 1)) : 0 ≤ n12 := by
  have g4 := f18.2.1.1
  unfold Ab_274_153 at g4
  have g3 := f18.2.1.2
  unfold preb_274 at g3
  unfold postb_273 at f25
  have e0 : n10 = hV H1 285 93 := (by rw [f14] at f21; exact f21 : n10 = hV H1 285 93)
  have e5 : hV H1 298 = hV H0 298 := fRow f18.1.2.1 298 kR_274_298
  have e6 : hV H1 300 = hV H0 300 := fRow f18.1.2.1 300 kR_274_300
  have e7 : hV H1 301 = hV H0 301 := fRow f18.1.2.1 301 kR_274_301
  have e8 : hV H1 302 = hV H0 302 := fRow f18.1.2.1 302 kR_274_302
  have e9 : hV H1 303 = hV H0 303 := fRow f18.1.2.1 303 kR_274_303
  have e10 : hV H1 305 = hV H0 305 := fRow f18.1.2.1 305 kR_274_305
  have e12 : hV H2 285 64 = hV H0 285 64 := ((f25.1.2.1.1 285 64 kF_273_285_64)).trans (f18.1.2.1.1 285 64 kF_274_285_64)
  have e14 : hV H2 300 = hV H0 300 := (fRow f25.1.2.1 300 kR_273_300).trans e6
  have e15 : hV H2 344 = hV H1 344 := fRow f25.1.2.1 344 kR_273_344
  have e16 : (0 : Int) ≤ hV H0 285 18 ∧ hV H0 285 18 ≤ 8 := bTo ((f18.1.2.1.1 285 18 kF_274_285_18)) (f18.1.2.2 285 18 _ _ kW_285_18)
  have e17 : (0 : Int) ≤ hV H0 285 64 ∧ hV H0 285 64 ≤ 20 := bTo ((f18.1.2.1.1 285 64 kF_274_285_64)) (f18.1.2.2 285 64 _ _ kW_285_64)
  have e18 : (0 : Int) ≤ hV H1 285 82 ∧ hV H1 285 82 ≤ 40 := f18.1.2.2 285 82 _ _ kW_285_82
  try simp only [XQ] at *
  try simp only [e12, e14, e15] at f25
  try simp only [e5, e6, e7, e8, e9, e10] at g4
  have k0 := g4.1
  have y0 := g4.2.1
  have y1 := g4.2.2.1
  have y2 := g4.2.2.2.1
  have y3 := g4.2.2.2.2
  have p0 := g3.1
  have p1 := g3.2.1
  have p2 := g3.2.2
  have r0_0 := f25.2
  clear g3
  clear g4
  clear f21 e5 e6 e7 e8 e9 e10 e12 e14 e15
  subst e0
  first
  | (have ix0 : n12 = n0 + 1 := Eq.trans f27 (w32_iv (Iad (Iat f1 f0) (IC 1)) (by decide)); subst ix0; clear f27)
  | (have ix0 : n12 = n0 + 1 := Eq.trans f27 (w32_id (by omega) (by omega)); subst ix0; clear f27)
  | (unfold w32 at f27; have ix0 : n12 = n0 + 1 := (by omega); subst ix0)
  | skip
  try unfold w32 at f27
  try subst k0
  subst y0
  omega
theorem c_274_153_13 {q0 : Nat} : vOkm T0 (eP e_274 L_274 A_274 mu_274 (some q0)) 2 ([(10, [12, 9], [], 1), (30, [11], [], 0), (1273, [11, 2, 5, 9], [1, 2], 0), (90, [11], [], 0), (91, [11], [], 1), (42, [9, 10], [], 0), (20, [10, 2], [1], 93), (90, [10], [], 0), (91, [10], [], 240), (5000, [0, 1, 2, 3, 4, 5, 6, 7, 8, 9], [0, 1], 153), (0, [0], [], 285), (90, [1], [], 0), (91, [1], [], 7), (0, [2], [], 285), (90, [3], [], 0), (91, [3], [], 7), (90, [4], [], -2147483648), (91, [4], [], 2147483647), (90, [5], [], 0), (91, [5], [], 39), (90, [6], [], 0), (91, [6], [], 1007), (90, [7], [], -2147483648), (91, [7], [], 2147483647), (90, [8], [], 0), (91, [8], [], 2), (90, [9], [], 0), (91, [9], [], 240)], (90, [12], [], 0)) := vOk_inI fun ρ η f0 f1 f2 f3 f4 f5 f6 f7 f8 f9 f10 f11 f12 f13 f14 f15 f16 f17 f18 f19 f20 f21 f22 f23 f24 f25 f26 f27 => q_274_44 (q0 := q0) (n0 := ρ 9) (n1 := ρ 8) (n2 := ρ 7) (n3 := ρ 6) (n4 := ρ 5) (n5 := ρ 4) (n6 := ρ 3) (n7 := ρ 2) (n8 := ρ 1) (n9 := ρ 0) (n10 := ρ 10) (n11 := ρ 11) (n12 := ρ 12) (H0 := η 0) (H1 := η 1) (H2 := η 2) f27 f26 f25 f24 f23 f22 f21 f20 f19 f18 f17 f16 f15 f14 f13 f12 f11 f10 f9 f8 f7 f6 f5 f4 f3 f2 f1 f0
theorem q_274_45 {q0 : Nat} {n0 n1 n2 n3 n4 n5 n6 n7 n8 n9 n10 n11 n12 : Int} {H0 H1 H2 : gH} (f0 : n0 ≤ 240) (f1 : 0 ≤ n0) (f2 : n1 ≤ 2) (f3 : 0 ≤ n1) (f4 : n2 ≤ 2147483647) (f5 : (-2147483648) ≤ n2) (f6 : n3 ≤ 1007) (f7 : 0 ≤ n3) (f8 : n4 ≤ 39) (f9 : 0 ≤ n4) (f10 : n5 ≤ 2147483647) (f11 : (-2147483648) ≤ n5) (f12 : n6 ≤ 7) (f13 : 0 ≤ n6) (f14 : n7 = 285) (f15 : n8 ≤ 7) (f16 : 0 ≤ n8) (f17 : n9 = 285) (f18 : (hLe T0 H0 H1 ∧ hFr s_274.2.2.2.2 H0 H1 ∧ hWt T0 H1) ∧ (Ab_274_153 n9 n8 n7 n6 n5 n4 n3 n2 n1 n0 H0 H1 ∧ preb_274 n9 n8 H0) ∧ some q0 = some (mub_274_153 n9 n8 n7 n6 n5 n4 n3 n2 n1 n0 H0 H1)) (f19 : n10 ≤ 240) (f20 : 0 ≤ n10) (f21 : n10 = hV H1 (n7).toNat 93) (f22 : n0 < n10) (f23 : n11 ≤ 1) (f24 : 0 ≤ n11) (f25 : (hLe T0 H1 H2 ∧ hFr s_273.2.2.2.2 H1 H2 ∧ ((0 : Int) = 0 → H2.length = H1.length) ∧ hWt T0 H2) ∧ postb_273 n11 n7 n4 n0 H1 H2) (f26 : n11 = 0) (f27 : n12 = w32 (n0 + 1)) : n12 ≤ 240 := by
  have g4 := f18.2.1.1
  unfold Ab_274_153 at g4
  have g3 := f18.2.1.2
  unfold preb_274 at g3
  unfold postb_273 at f25
  have e0 : n10 = hV H1 285 93 := (by rw [f14] at f21; exact f21 : n10 = hV H1 285 93)
  have e5 : hV H1 298 = hV H0 298 := fRow f18.1.2.1 298 kR_274_298
  have e6 : hV H1 300 = hV H0 300 := fRow f18.1.2.1 300 kR_274_300
  have e7 : hV H1 301 = hV H0 301 := fRow f18.1.2.1 301 kR_274_301
  have e8 : hV H1 302 = hV H0 302 := fRow f18.1.2.1 302 kR_274_302
  have e9 : hV H1 303 = hV H0 303 := fRow f18.1.2.1 303 kR_274_303
  have e10 : hV H1 305 = hV H0 305 := fRow f18.1.2.1 305 kR_274_305
  have e12 : hV H2 285 64 = hV H0 285 64 := ((f25.1.2.1.1 285 64 kF_273_285_64)).trans (f18.1.2.1.1 285 64 kF_274_285_64)
  have e14 : hV H2 300 = hV H0 300 := (fRow f25.1.2.1 300 kR_273_300).trans e6
  have e15 : hV H2 344 = hV H1 344 := fRow f25.1.2.1 344 kR_273_344
  have e16 : (0 : Int) ≤ hV H0 285 18 ∧ hV H0 285 18 ≤ 8 := bTo ((f18.1.2.1.1 285 18 kF_274_285_18)) (f18.1.2.2 285 18 _ _ kW_285_18)
  have e17 : (0 : Int) ≤ hV H0 285 64 ∧ hV H0 285 64 ≤ 20 := bTo ((f18.1.2.1.1 285 64 kF_274_285_64)) (f18.1.2.2 285 64 _ _ kW_285_64)
  have e18 : (0 : Int) ≤ hV H1 285 82 ∧ hV H1 285 82 ≤ 40 := f18.1.2.2 285 82 _ _ kW_285_82
  try simp only [XQ] at *
  try simp only [e12, e14, e15] at f25
  try simp only [e5, e6, e7, e8, e9, e10] at g4
  have k0 := g4.1
  have y0 := g4.2.1
  have y1 := g4.2.2.1
  have y2 := g4.2.2.2.1
  have y3 := g4.2.2.2.2
  have p0 := g3.1
  have p1 := g3.2.1
  have p2 := g3.2.2
  have r0_0 := f25.2
  clear g3
  clear g4
  clear f21 e5 e6 e7 e8 e9 e10 e12 e14 e15
  subst e0
  first
  | (have ix0 : n12 = n0 + 1 := Eq.trans f27 (w32_iv (Iad (Iat f1 f0) (IC 1)) (by decide)); subst ix0; clear f27)
  | (have ix0 : n12 = n0 + 1 := Eq.trans f27 (w32_id (by omega) (by omega)); subst ix0; clear f27)
  | (unfold w32 at f27; have ix0 : n12 = n0 + 1 := (by omega); subst ix0)
  | skip
  try unfold w32 at f27
  try subst k0
  subst y0
  omega
theorem c_274_153_14 {q0 : Nat} : vOkm T0 (eP e_274 L_274 A_274 mu_274 (some q0)) 2 ([(10, [12, 9], [], 1), (30, [11], [], 0), (1273, [11, 2, 5, 9], [1, 2], 0), (90, [11], [], 0), (91, [11], [], 1), (42, [9, 10], [], 0), (20, [10, 2], [1], 93), (90, [10], [], 0), (91, [10], [], 240), (5000, [0, 1, 2, 3, 4, 5, 6, 7, 8, 9], [0, 1], 153), (0, [0], [], 285), (90, [1], [], 0), (91, [1], [], 7), (0, [2], [], 285), (90, [3], [], 0), (91, [3], [], 7), (90, [4], [], -2147483648), (91, [4], [], 2147483647), (90, [5], [], 0), (91, [5], [], 39), (90, [6], [], 0), (91, [6], [], 1007), (90, [7], [], -2147483648), (91, [7], [], 2147483647), (90, [8], [], 0), (91, [8], [], 2), (90, [9], [], 0), (91, [9], [], 240)], (91, [12], [], 240)) := vOk_inI fun ρ η f0 f1 f2 f3 f4 f5 f6 f7 f8 f9 f10 f11 f12 f13 f14 f15 f16 f17 f18 f19 f20 f21 f22 f23 f24 f25 f26 f27 => q_274_45 (q0 := q0) (n0 := ρ 9) (n1 := ρ 8) (n2 := ρ 7) (n3 := ρ 6) (n4 := ρ 5) (n5 := ρ 4) (n6 := ρ 3) (n7 := ρ 2) (n8 := ρ 1) (n9 := ρ 0) (n10 := ρ 10) (n11 := ρ 11) (n12 := ρ 12) (H0 := η 0) (H1 := η 1) (H2 := η 2) f27 f26 f25 f24 f23 f22 f21 f20 f19 f18 f17 f16 f15 f14 f13 f12 f11 f10 f9 f8 f7 f6 f5 f4 f3 f2 f1 f0
theorem q_274_46 {q0 : Nat} {n0 n1 n2 n3 n4 n5 n6 n7 n8 n9 n10 n11 n12 : Int} {H0 H1 H2 : gH} (f0 : n0 ≤ 240) (f1 : 0 ≤ n0) (f2 : n1 ≤ 2) (f3 : 0 ≤ n1) (f4 : n2 ≤ 2147483647) (f5 : (-2147483648) ≤ n2) (f6 : n3 ≤ 1007) (f7 : 0 ≤ n3) (f8 : n4 ≤ 39) (f9 : 0 ≤ n4) (f10 : n5 ≤ 2147483647) (f11 : (-2147483648) ≤ n5) (f12 : n6 ≤ 7) (f13 : 0 ≤ n6) (f14 : n7 = 285) (f15 : n8 ≤ 7) (f16 : 0 ≤ n8) (f17 : n9 = 285) (f18 : (hLe T0 H0 H1 ∧ hFr s_274.2.2.2.2 H0 H1 ∧ hWt T0 H1) ∧ (Ab_274_153 n9 n8 n7 n6 n5 n4 n3 n2 n1 n0 H0 H1 ∧ preb_274 n9 n8 H0) ∧ some q0 = some (mub_274_153 n9 n8 n7 n6 n5 n4 n3 n2 n1 n0 H0 H1)) (f19 : n10 ≤ 240) (f20 : 0 ≤ n10) (f21 : n10 = hV H1 (n7).toNat 93) (f22 : n0 < n10) (f23 : n11 ≤ 1) (f24 : 0 ≤ n11) (f25 : (hLe T0 H1 H2 ∧ hFr s_273.2.2.2.2 H1 H2 ∧ ((0 : Int) = 0 → H2.length = H1.length) ∧ hWt T0 H2) ∧ postb_273 n11 n7 n4 n0 H1 H2) (f26 : n11 = 0) (f27 : n12 = w32 (n0 + 1)) : Ab_274_153 n9 n8 n7 n6 n5 n4 n3 n2 n1 n12 H0 H2 ∧ ∀ q, some q0 = some q → mub_274_153 n9 n8 n7 n6 n5 n4 n3 n2 n1 n12 H0 H2 < q := by
  have g4 := f18.2.1.1
  unfold Ab_274_153 at g4
  have g3 := f18.2.1.2
  unfold preb_274 at g3
  have g5 := Option.some.inj f18.2.2
  unfold mub_274_153 at g5
  unfold postb_273 at f25
  unfold Ab_274_153
  unfold mub_274_153
  have e0 : n10 = hV H1 285 93 := (by rw [f14] at f21; exact f21 : n10 = hV H1 285 93)
  have e5 : hV H1 298 = hV H0 298 := fRow f18.1.2.1 298 kR_274_298
  have e6 : hV H1 300 = hV H0 300 := fRow f18.1.2.1 300 kR_274_300
  have e7 : hV H1 301 = hV H0 301 := fRow f18.1.2.1 301 kR_274_301
  have e8 : hV H1 302 = hV H0 302 := fRow f18.1.2.1 302 kR_274_302
  have e9 : hV H1 303 = hV H0 303 := fRow f18.1.2.1 303 kR_274_303
  have e10 : hV H1 305 = hV H0 305 := fRow f18.1.2.1 305 kR_274_305
  have e12 : hV H2 285 64 = hV H0 285 64 := ((f25.1.2.1.1 285 64 kF_273_285_64)).trans (f18.1.2.1.1 285 64 kF_274_285_64)
  have e14 : hV H2 285 82 = hV H1 285 82 := (f25.1.2.1.1 285 82 kF_273_285_82)
  have e16 : hV H2 298 = hV H0 298 := (fRow f25.1.2.1 298 kR_273_298).trans e5
  have e18 : hV H2 300 = hV H0 300 := (fRow f25.1.2.1 300 kR_273_300).trans e6
  have e20 : hV H2 301 = hV H0 301 := (fRow f25.1.2.1 301 kR_273_301).trans e7
  have e22 : hV H2 302 = hV H0 302 := (fRow f25.1.2.1 302 kR_273_302).trans e8
  have e24 : hV H2 303 = hV H0 303 := (fRow f25.1.2.1 303 kR_273_303).trans e9
  have e26 : hV H2 305 = hV H0 305 := (fRow f25.1.2.1 305 kR_273_305).trans e10
  have e27 : hV H2 344 = hV H1 344 := fRow f25.1.2.1 344 kR_273_344
  have e28 : (0 : Int) ≤ hV H0 285 18 ∧ hV H0 285 18 ≤ 8 := bTo ((f18.1.2.1.1 285 18 kF_274_285_18)) (f18.1.2.2 285 18 _ _ kW_285_18)
  have e29 : (0 : Int) ≤ hV H0 285 64 ∧ hV H0 285 64 ≤ 20 := bTo ((f18.1.2.1.1 285 64 kF_274_285_64)) (f18.1.2.2 285 64 _ _ kW_285_64)
  have e30 : (0 : Int) ≤ hV H1 285 82 ∧ hV H1 285 82 ≤ 40 := f18.1.2.2 285 82 _ _ kW_285_82
  try simp only [XQ] at *
  try simp only [e12, e18, e27] at f25
  try simp only [e5, e6, e7, e8, e9, e10] at g4
  try simp only [e14, e16, e18, e20, e22, e24, e26, e27]
  have k0 := g4.1
  have y0 := g4.2.1
  have y1 := g4.2.2.1
  have y2 := g4.2.2.2.1
  have y3 := g4.2.2.2.2
  have p0 := g3.1
  have p1 := g3.2.1
  have p2 := g3.2.2
  have r0_0 := f25.2
  clear g3
  clear g4
  clear f21 e5 e6 e7 e8 e9 e10 e12 e14 e16 e18 e20 e22 e24 e26 e27
  subst e0
  first
  | (have ix0 : n12 = n0 + 1 := Eq.trans f27 (w32_iv (Iad (Iat f1 f0) (IC 1)) (by decide)); subst ix0; clear f27)
  | (have ix0 : n12 = n0 + 1 := Eq.trans f27 (w32_id (by omega) (by omega)); subst ix0; clear f27)
  | (unfold w32 at f27; have ix0 : n12 = n0 + 1 := (by omega); subst ix0)
  | skip
  try unfold w32 at f27
  try subst k0
  subst y0
  refine ⟨?_, fun q hq => ?_⟩
  · refine ⟨?_, ?_, ?_, ?_, ?_⟩ <;> first | assumption | omega | trivial
  · have g6 := Option.some.inj hq
    subst g6
    omega
theorem c_274_153_15 {q0 : Nat} : vOkm T0 (eP e_274 L_274 A_274 mu_274 (some q0)) 2 ([(10, [12, 9], [], 1), (30, [11], [], 0), (1273, [11, 2, 5, 9], [1, 2], 0), (90, [11], [], 0), (91, [11], [], 1), (42, [9, 10], [], 0), (20, [10, 2], [1], 93), (90, [10], [], 0), (91, [10], [], 240), (5000, [0, 1, 2, 3, 4, 5, 6, 7, 8, 9], [0, 1], 153), (0, [0], [], 285), (90, [1], [], 0), (91, [1], [], 7), (0, [2], [], 285), (90, [3], [], 0), (91, [3], [], 7), (90, [4], [], -2147483648), (91, [4], [], 2147483647), (90, [5], [], 0), (91, [5], [], 39), (90, [6], [], 0), (91, [6], [], 1007), (90, [7], [], -2147483648), (91, [7], [], 2147483647), (90, [8], [], 0), (91, [8], [], 2), (90, [9], [], 0), (91, [9], [], 240)], (4000, [2, 3, 4, 5, 6, 7, 8, 12], [2], 153)) := vOk_inI fun ρ η f0 f1 f2 f3 f4 f5 f6 f7 f8 f9 f10 f11 f12 f13 f14 f15 f16 f17 f18 f19 f20 f21 f22 f23 f24 f25 f26 f27 => q_274_46 (q0 := q0) (n0 := ρ 9) (n1 := ρ 8) (n2 := ρ 7) (n3 := ρ 6) (n4 := ρ 5) (n5 := ρ 4) (n6 := ρ 3) (n7 := ρ 2) (n8 := ρ 1) (n9 := ρ 0) (n10 := ρ 10) (n11 := ρ 11) (n12 := ρ 12) (H0 := η 0) (H1 := η 1) (H2 := η 2) f27 f26 f25 f24 f23 f22 f21 f20 f19 f18 f17 f16 f15 f14 f13 f12 f11 f10 f9 f8 f7 f6 f5 f4 f3 f2 f1 f0
def p_274_153 : List vG := [([(10, [11, 5], [], 1), (43, [9, 10], [], 0), (20, [10, 2], [1], 93), (90, [10], [], 0), (91, [10], [], 240), (5000, [0, 1, 2, 3, 4, 5, 6, 7, 8, 9], [0, 1], 153), (0, [0], [], 285), (90, [1], [], 0), (91, [1], [], 7), (0, [2], [], 285), (90, [3], [], 0), (91, [3], [], 7), (90, [4], [], -2147483648), (91, [4], [], 2147483647), (90, [5], [], 0), (91, [5], [], 39), (90, [6], [], 0), (91, [6], [], 1007), (90, [7], [], -2147483648), (91, [7], [], 2147483647), (90, [8], [], 0), (91, [8], [], 2), (90, [9], [], 0), (91, [9], [], 240)], (90, [11], [], 0)),
  ([(10, [11, 5], [], 1), (43, [9, 10], [], 0), (20, [10, 2], [1], 93), (90, [10], [], 0), (91, [10], [], 240), (5000, [0, 1, 2, 3, 4, 5, 6, 7, 8, 9], [0, 1], 153), (0, [0], [], 285), (90, [1], [], 0), (91, [1], [], 7), (0, [2], [], 285), (90, [3], [], 0), (91, [3], [], 7), (90, [4], [], -2147483648), (91, [4], [], 2147483647), (90, [5], [], 0), (91, [5], [], 39), (90, [6], [], 0), (91, [6], [], 1007), (90, [7], [], -2147483648), (91, [7], [], 2147483647), (90, [8], [], 0), (91, [8], [], 2), (90, [9], [], 0), (91, [9], [], 240)], (91, [11], [], 40)),
  ([(10, [11, 5], [], 1), (43, [9, 10], [], 0), (20, [10, 2], [1], 93), (90, [10], [], 0), (91, [10], [], 240), (5000, [0, 1, 2, 3, 4, 5, 6, 7, 8, 9], [0, 1], 153), (0, [0], [], 285), (90, [1], [], 0), (91, [1], [], 7), (0, [2], [], 285), (90, [3], [], 0), (91, [3], [], 7), (90, [4], [], -2147483648), (91, [4], [], 2147483647), (90, [5], [], 0), (91, [5], [], 39), (90, [6], [], 0), (91, [6], [], 1007), (90, [7], [], -2147483648), (91, [7], [], 2147483647), (90, [8], [], 0), (91, [8], [], 2), (90, [9], [], 0), (91, [9], [], 240)], (4000, [2, 3, 4, 11], [1], 55)),
  ([(42, [9, 10], [], 0), (20, [10, 2], [1], 93), (90, [10], [], 0), (91, [10], [], 240), (5000, [0, 1, 2, 3, 4, 5, 6, 7, 8, 9], [0, 1], 153), (0, [0], [], 285), (90, [1], [], 0), (91, [1], [], 7), (0, [2], [], 285), (90, [3], [], 0), (91, [3], [], 7), (90, [4], [], -2147483648), (91, [4], [], 2147483647), (90, [5], [], 0), (91, [5], [], 39), (90, [6], [], 0), (91, [6], [], 1007), (90, [7], [], -2147483648), (91, [7], [], 2147483647), (90, [8], [], 0), (91, [8], [], 2), (90, [9], [], 0), (91, [9], [], 240)], (2273, [2, 5, 9], [1], 0)),
  ([(1, [15, 14, 9], [], 0), (3, [14, 13, 8], [], 0), (0, [13], [], 240), (31, [11], [], 0), (1273, [11, 2, 5, 9], [1, 2], 0), (90, [11], [], 0), (91, [11], [], 1), (42, [9, 10], [], 0), (20, [10, 2], [1], 93), (90, [10], [], 0), (91, [10], [], 240), (5000, [0, 1, 2, 3, 4, 5, 6, 7, 8, 9], [0, 1], 153), (0, [0], [], 285), (90, [1], [], 0), (91, [1], [], 7), (0, [2], [], 285), (90, [3], [], 0), (91, [3], [], 7), (90, [4], [], -2147483648), (91, [4], [], 2147483647), (90, [5], [], 0), (91, [5], [], 39), (90, [6], [], 0), (91, [6], [], 1007), (90, [7], [], -2147483648), (91, [7], [], 2147483647), (90, [8], [], 0), (91, [8], [], 2), (90, [9], [], 0), (91, [9], [], 240)], (70, [15], [], 720)),
  ([(1, [21, 20, 9], [], 0), (3, [20, 19, 8], [], 0), (0, [19], [], 240), (1, [15, 14, 9], [], 0), (3, [14, 13, 8], [], 0), (0, [13], [], 240), (31, [11], [], 0), (1273, [11, 2, 5, 9], [1, 2], 0), (90, [11], [], 0), (91, [11], [], 1), (42, [9, 10], [], 0), (20, [10, 2], [1], 93), (90, [10], [], 0), (91, [10], [], 240), (5000, [0, 1, 2, 3, 4, 5, 6, 7, 8, 9], [0, 1], 153), (0, [0], [], 285), (90, [1], [], 0), (91, [1], [], 7), (0, [2], [], 285), (90, [3], [], 0), (91, [3], [], 7), (90, [4], [], -2147483648), (91, [4], [], 2147483647), (90, [5], [], 0), (91, [5], [], 39), (90, [6], [], 0), (91, [6], [], 1007), (90, [7], [], -2147483648), (91, [7], [], 2147483647), (90, [8], [], 0), (91, [8], [], 2), (90, [9], [], 0), (91, [9], [], 240)], (70, [21], [], 720)),
  ([(22, [24, 23, 6], [3], 0), (90, [24], [], -1), (91, [24], [], 9999), (20, [23, 2], [3], 26), (0, [23], [], 300), (1, [21, 20, 9], [], 0), (3, [20, 19, 8], [], 0), (0, [19], [], 240), (80, [12, 15, 17], [3, 2], 0), (16, [17, 16], [], 0), (0, [16], [], 1), (1, [15, 14, 9], [], 0), (3, [14, 13, 8], [], 0), (0, [13], [], 240), (20, [12, 2], [2], 90), (0, [12], [], 350), (31, [11], [], 0), (1273, [11, 2, 5, 9], [1, 2], 0), (90, [11], [], 0), (91, [11], [], 1), (42, [9, 10], [], 0), (20, [10, 2], [1], 93), (90, [10], [], 0), (91, [10], [], 240), (5000, [0, 1, 2, 3, 4, 5, 6, 7, 8, 9], [0, 1], 153), (0, [0], [], 285), (90, [1], [], 0), (91, [1], [], 7), (0, [2], [], 285), (90, [3], [], 0), (91, [3], [], 7), (90, [4], [], -2147483648), (91, [4], [], 2147483647), (90, [5], [], 0), (91, [5], [], 39), (90, [6], [], 0), (91, [6], [], 1007), (90, [7], [], -2147483648), (91, [7], [], 2147483647), (90, [8], [], 0), (91, [8], [], 2), (90, [9], [], 0), (91, [9], [], 240)], (90, [24], [], 0)),
  ([(22, [24, 23, 6], [3], 0), (90, [24], [], -1), (91, [24], [], 9999), (20, [23, 2], [3], 26), (0, [23], [], 300), (1, [21, 20, 9], [], 0), (3, [20, 19, 8], [], 0), (0, [19], [], 240), (80, [12, 15, 17], [3, 2], 0), (16, [17, 16], [], 0), (0, [16], [], 1), (1, [15, 14, 9], [], 0), (3, [14, 13, 8], [], 0), (0, [13], [], 240), (20, [12, 2], [2], 90), (0, [12], [], 350), (31, [11], [], 0), (1273, [11, 2, 5, 9], [1, 2], 0), (90, [11], [], 0), (91, [11], [], 1), (42, [9, 10], [], 0), (20, [10, 2], [1], 93), (90, [10], [], 0), (91, [10], [], 240), (5000, [0, 1, 2, 3, 4, 5, 6, 7, 8, 9], [0, 1], 153), (0, [0], [], 285), (90, [1], [], 0), (91, [1], [], 7), (0, [2], [], 285), (90, [3], [], 0), (91, [3], [], 7), (90, [4], [], -2147483648), (91, [4], [], 2147483647), (90, [5], [], 0), (91, [5], [], 39), (90, [6], [], 0), (91, [6], [], 1007), (90, [7], [], -2147483648), (91, [7], [], 2147483647), (90, [8], [], 0), (91, [8], [], 2), (90, [9], [], 0), (91, [9], [], 240)], (91, [24], [], 19)),
  ([(20, [25, 2], [3], 88), (90, [25], [], -2147483648), (91, [25], [], 2147483647), (22, [24, 23, 6], [3], 0), (90, [24], [], -1), (91, [24], [], 9999), (20, [23, 2], [3], 26), (0, [23], [], 300), (1, [21, 20, 9], [], 0), (3, [20, 19, 8], [], 0), (0, [19], [], 240), (80, [12, 15, 17], [3, 2], 0), (16, [17, 16], [], 0), (0, [16], [], 1), (1, [15, 14, 9], [], 0), (3, [14, 13, 8], [], 0), (0, [13], [], 240), (20, [12, 2], [2], 90), (0, [12], [], 350), (31, [11], [], 0), (1273, [11, 2, 5, 9], [1, 2], 0), (90, [11], [], 0), (91, [11], [], 1), (42, [9, 10], [], 0), (20, [10, 2], [1], 93), (90, [10], [], 0), (91, [10], [], 240), (5000, [0, 1, 2, 3, 4, 5, 6, 7, 8, 9], [0, 1], 153), (0, [0], [], 285), (90, [1], [], 0), (91, [1], [], 7), (0, [2], [], 285), (90, [3], [], 0), (91, [3], [], 7), (90, [4], [], -2147483648), (91, [4], [], 2147483647), (90, [5], [], 0), (91, [5], [], 39), (90, [6], [], 0), (91, [6], [], 1007), (90, [7], [], -2147483648), (91, [7], [], 2147483647), (90, [8], [], 0), (91, [8], [], 2), (90, [9], [], 0), (91, [9], [], 240)], (2266, [2, 24, 25], [3], 0)),
  ([(22, [24, 23, 6], [3], 0), (90, [24], [], -1), (91, [24], [], 9999), (20, [23, 2], [3], 26), (0, [23], [], 300), (1, [21, 20, 9], [], 0), (3, [20, 19, 8], [], 0), (0, [19], [], 240), (80, [12, 15, 17], [3, 2], 0), (16, [17, 16], [], 0), (0, [16], [], 1), (1, [15, 14, 9], [], 0), (3, [14, 13, 8], [], 0), (0, [13], [], 240), (20, [12, 2], [2], 90), (0, [12], [], 350), (31, [11], [], 0), (1273, [11, 2, 5, 9], [1, 2], 0), (90, [11], [], 0), (91, [11], [], 1), (42, [9, 10], [], 0), (20, [10, 2], [1], 93), (90, [10], [], 0), (91, [10], [], 240), (5000, [0, 1, 2, 3, 4, 5, 6, 7, 8, 9], [0, 1], 153), (0, [0], [], 285), (90, [1], [], 0), (91, [1], [], 7), (0, [2], [], 285), (90, [3], [], 0), (91, [3], [], 7), (90, [4], [], -2147483648), (91, [4], [], 2147483647), (90, [5], [], 0), (91, [5], [], 39), (90, [6], [], 0), (91, [6], [], 1007), (90, [7], [], -2147483648), (91, [7], [], 2147483647), (90, [8], [], 0), (91, [8], [], 2), (90, [9], [], 0), (91, [9], [], 240)], (70, [21], [], 720)),
  ([(10, [32, 9], [], 1), (22, [24, 23, 6], [3], 0), (90, [24], [], -1), (91, [24], [], 9999), (20, [23, 2], [3], 26), (0, [23], [], 300), (1, [21, 20, 9], [], 0), (3, [20, 19, 8], [], 0), (0, [19], [], 240), (80, [12, 15, 17], [3, 2], 0), (16, [17, 16], [], 0), (0, [16], [], 1), (1, [15, 14, 9], [], 0), (3, [14, 13, 8], [], 0), (0, [13], [], 240), (20, [12, 2], [2], 90), (0, [12], [], 350), (31, [11], [], 0), (1273, [11, 2, 5, 9], [1, 2], 0), (90, [11], [], 0), (91, [11], [], 1), (42, [9, 10], [], 0), (20, [10, 2], [1], 93), (90, [10], [], 0), (91, [10], [], 240), (5000, [0, 1, 2, 3, 4, 5, 6, 7, 8, 9], [0, 1], 153), (0, [0], [], 285), (90, [1], [], 0), (91, [1], [], 7), (0, [2], [], 285), (90, [3], [], 0), (91, [3], [], 7), (90, [4], [], -2147483648), (91, [4], [], 2147483647), (90, [5], [], 0), (91, [5], [], 39), (90, [6], [], 0), (91, [6], [], 1007), (90, [7], [], -2147483648), (91, [7], [], 2147483647), (90, [8], [], 0), (91, [8], [], 2), (90, [9], [], 0), (91, [9], [], 240)], (90, [32], [], 0)),
  ([(10, [32, 9], [], 1), (22, [24, 23, 6], [3], 0), (90, [24], [], -1), (91, [24], [], 9999), (20, [23, 2], [3], 26), (0, [23], [], 300), (1, [21, 20, 9], [], 0), (3, [20, 19, 8], [], 0), (0, [19], [], 240), (80, [12, 15, 17], [3, 2], 0), (16, [17, 16], [], 0), (0, [16], [], 1), (1, [15, 14, 9], [], 0), (3, [14, 13, 8], [], 0), (0, [13], [], 240), (20, [12, 2], [2], 90), (0, [12], [], 350), (31, [11], [], 0), (1273, [11, 2, 5, 9], [1, 2], 0), (90, [11], [], 0), (91, [11], [], 1), (42, [9, 10], [], 0), (20, [10, 2], [1], 93), (90, [10], [], 0), (91, [10], [], 240), (5000, [0, 1, 2, 3, 4, 5, 6, 7, 8, 9], [0, 1], 153), (0, [0], [], 285), (90, [1], [], 0), (91, [1], [], 7), (0, [2], [], 285), (90, [3], [], 0), (91, [3], [], 7), (90, [4], [], -2147483648), (91, [4], [], 2147483647), (90, [5], [], 0), (91, [5], [], 39), (90, [6], [], 0), (91, [6], [], 1007), (90, [7], [], -2147483648), (91, [7], [], 2147483647), (90, [8], [], 0), (91, [8], [], 2), (90, [9], [], 0), (91, [9], [], 240)], (91, [32], [], 240)),
  ([(10, [32, 9], [], 1), (80, [18, 21, 31], [5, 4], 1), (61, [31, 22, 30], [], 0), (17, [30, 29], [], 0), (11, [29, 27, 28], [], 0), (0, [28], [], 100), (3, [27, 26, 7], [], 0), (1266, [26, 2, 24, 25], [3, 4], 0), (90, [26], [], -2147483648), (91, [26], [], 2147483647), (20, [25, 2], [3], 88), (90, [25], [], -2147483648), (91, [25], [], 2147483647), (22, [24, 23, 6], [3], 0), (90, [24], [], -1), (91, [24], [], 9999), (20, [23, 2], [3], 26), (0, [23], [], 300), (22, [22, 18, 21], [3], 0), (1, [21, 20, 9], [], 0), (3, [20, 19, 8], [], 0), (0, [19], [], 240), (20, [18, 2], [3], 89), (0, [18], [], 349), (80, [12, 15, 17], [3, 2], 0), (16, [17, 16], [], 0), (0, [16], [], 1), (1, [15, 14, 9], [], 0), (3, [14, 13, 8], [], 0), (0, [13], [], 240), (20, [12, 2], [2], 90), (0, [12], [], 350), (31, [11], [], 0), (1273, [11, 2, 5, 9], [1, 2], 0), (90, [11], [], 0), (91, [11], [], 1), (42, [9, 10], [], 0), (20, [10, 2], [1], 93), (90, [10], [], 0), (91, [10], [], 240), (5000, [0, 1, 2, 3, 4, 5, 6, 7, 8, 9], [0, 1], 153), (0, [0], [], 285), (90, [1], [], 0), (91, [1], [], 7), (0, [2], [], 285), (90, [3], [], 0), (91, [3], [], 7), (90, [4], [], -2147483648), (91, [4], [], 2147483647), (90, [5], [], 0), (91, [5], [], 39), (90, [6], [], 0), (91, [6], [], 1007), (90, [7], [], -2147483648), (91, [7], [], 2147483647), (90, [8], [], 0), (91, [8], [], 2), (90, [9], [], 0), (91, [9], [], 240)], (4000, [2, 3, 4, 5, 6, 7, 8, 32], [5], 153)),
  ([(10, [12, 9], [], 1), (30, [11], [], 0), (1273, [11, 2, 5, 9], [1, 2], 0), (90, [11], [], 0), (91, [11], [], 1), (42, [9, 10], [], 0), (20, [10, 2], [1], 93), (90, [10], [], 0), (91, [10], [], 240), (5000, [0, 1, 2, 3, 4, 5, 6, 7, 8, 9], [0, 1], 153), (0, [0], [], 285), (90, [1], [], 0), (91, [1], [], 7), (0, [2], [], 285), (90, [3], [], 0), (91, [3], [], 7), (90, [4], [], -2147483648), (91, [4], [], 2147483647), (90, [5], [], 0), (91, [5], [], 39), (90, [6], [], 0), (91, [6], [], 1007), (90, [7], [], -2147483648), (91, [7], [], 2147483647), (90, [8], [], 0), (91, [8], [], 2), (90, [9], [], 0), (91, [9], [], 240)], (90, [12], [], 0)),
  ([(10, [12, 9], [], 1), (30, [11], [], 0), (1273, [11, 2, 5, 9], [1, 2], 0), (90, [11], [], 0), (91, [11], [], 1), (42, [9, 10], [], 0), (20, [10, 2], [1], 93), (90, [10], [], 0), (91, [10], [], 240), (5000, [0, 1, 2, 3, 4, 5, 6, 7, 8, 9], [0, 1], 153), (0, [0], [], 285), (90, [1], [], 0), (91, [1], [], 7), (0, [2], [], 285), (90, [3], [], 0), (91, [3], [], 7), (90, [4], [], -2147483648), (91, [4], [], 2147483647), (90, [5], [], 0), (91, [5], [], 39), (90, [6], [], 0), (91, [6], [], 1007), (90, [7], [], -2147483648), (91, [7], [], 2147483647), (90, [8], [], 0), (91, [8], [], 2), (90, [9], [], 0), (91, [9], [], 240)], (91, [12], [], 240)),
  ([(10, [12, 9], [], 1), (30, [11], [], 0), (1273, [11, 2, 5, 9], [1, 2], 0), (90, [11], [], 0), (91, [11], [], 1), (42, [9, 10], [], 0), (20, [10, 2], [1], 93), (90, [10], [], 0), (91, [10], [], 240), (5000, [0, 1, 2, 3, 4, 5, 6, 7, 8, 9], [0, 1], 153), (0, [0], [], 285), (90, [1], [], 0), (91, [1], [], 7), (0, [2], [], 285), (90, [3], [], 0), (91, [3], [], 7), (90, [4], [], -2147483648), (91, [4], [], 2147483647), (90, [5], [], 0), (91, [5], [], 39), (90, [6], [], 0), (91, [6], [], 1007), (90, [7], [], -2147483648), (91, [7], [], 2147483647), (90, [8], [], 0), (91, [8], [], 2), (90, [9], [], 0), (91, [9], [], 240)], (4000, [2, 3, 4, 5, 6, 7, 8, 12], [2], 153))]
theorem r_274_153 : vCovO false (eRc e_274 L_274 cs_274 2000 (153, [(0, (3, 12, 285, 0)), (1, (0, 0, 7, 0)), (2, (0, -2147483648, 2147483647, 0)), (3, (0, 0, 39, 0)), (4, (0, 0, 1007, 0)), (5, (0, -2147483648, 2147483647, 0)), (6, (0, 0, 2, 0)), (7, (0, 0, 240, 0))])) p_274_153 = true := by decide +kernel
theorem q_274_47 {q0 : Nat} {n0 n1 n2 n3 n4 n5 n6 n7 : Int} {H0 H1 : gH} (f0 : n0 ≤ 3) (f1 : 0 ≤ n0) (f2 : n1 ≤ 2147483647) (f3 : (-2147483648) ≤ n1) (f4 : n2 ≤ 7) (f5 : 0 ≤ n2) (f6 : n3 = 285) (f7 : n4 ≤ 7) (f8 : 0 ≤ n4) (f9 : n5 = 285) (f10 : (hLe T0 H0 H1 ∧ hFr s_274.2.2.2.2 H0 H1 ∧ hWt T0 H1) ∧ (Ab_274_243 n5 n4 n3 n2 n1 n0 H0 H1 ∧ preb_274 n5 n4 H0) ∧ some q0 = some (mub_274_243 n5 n4 n3 n2 n1 n0 H0 H1)) (f11 : n6 = 3) (f12 : n6 ≤ n0) (f13 : n7 = 0) : Ab_274_313 n5 n4 n3 n2 n1 n7 H0 H1 ∧ ∀ q, some q0 = some q → mub_274_313 n5 n4 n3 n2 n1 n7 H0 H1 < q := by
  have g4 := f10.2.1.1
  unfold Ab_274_243 at g4
  have g3 := f10.2.1.2
  unfold preb_274 at g3
  have g5 := Option.some.inj f10.2.2
  unfold mub_274_243 at g5
  unfold Ab_274_313
  unfold mub_274_313
  have e2 : hV H1 298 = hV H0 298 := fRow f10.1.2.1 298 kR_274_298
  have e3 : hV H1 300 = hV H0 300 := fRow f10.1.2.1 300 kR_274_300
  have e4 : hV H1 301 = hV H0 301 := fRow f10.1.2.1 301 kR_274_301
  have e5 : hV H1 302 = hV H0 302 := fRow f10.1.2.1 302 kR_274_302
  have e6 : hV H1 303 = hV H0 303 := fRow f10.1.2.1 303 kR_274_303
  have e7 : hV H1 305 = hV H0 305 := fRow f10.1.2.1 305 kR_274_305
  have e8 : (0 : Int) ≤ hV H0 285 18 ∧ hV H0 285 18 ≤ 8 := bTo ((f10.1.2.1.1 285 18 kF_274_285_18)) (f10.1.2.2 285 18 _ _ kW_285_18)
  have e9 : (0 : Int) ≤ hV H1 285 82 ∧ hV H1 285 82 ≤ 40 := f10.1.2.2 285 82 _ _ kW_285_82
  try simp only [XQ] at *
  try simp only [e2, e3, e4, e5, e6, e7] at g4
  try simp only [e2, e3, e4, e5, e6, e7]
  have k0 := g4.1
  have y0 := g4.2
  have p0 := g3.1
  have p1 := g3.2.1
  have p2 := g3.2.2
  clear g3
  clear g4
  clear e2 e3 e4 e5 e6 e7
  try subst k0
  refine ⟨?_, fun q hq => ?_⟩
  · refine ⟨?_, ?_⟩ <;> first | assumption | omega | trivial
  · have g6 := Option.some.inj hq
    subst g6
    omega
theorem c_274_243_0 {q0 : Nat} : vOkm T0 (eP e_274 L_274 A_274 mu_274 (some q0)) 2 ([(0, [7], [], 0), (43, [5, 6], [], 0), (0, [6], [], 3), (5000, [0, 1, 2, 3, 4, 5], [0, 1], 243), (0, [0], [], 285), (90, [1], [], 0), (91, [1], [], 7), (0, [2], [], 285), (90, [3], [], 0), (91, [3], [], 7), (90, [4], [], -2147483648), (91, [4], [], 2147483647), (90, [5], [], 0), (91, [5], [], 3)], (4000, [2, 3, 4, 7], [1], 313)) := vOk_inI fun ρ η f0 f1 f2 f3 f4 f5 f6 f7 f8 f9 f10 f11 f12 f13 => q_274_47 (q0 := q0) (n0 := ρ 5) (n1 := ρ 4) (n2 := ρ 3) (n3 := ρ 2) (n4 := ρ 1) (n5 := ρ 0) (n6 := ρ 6) (n7 := ρ 7) (H0 := η 0) (H1 := η 1) f13 f12 f11 f10 f9 f8 f7 f6 f5 f4 f3 f2 f1 f0
theorem q_274_48 {q0 : Nat} {n0 n1 n2 n3 n4 n5 n6 : Int} {H0 H1 : gH} (f0 : n0 ≤ 3) (f1 : 0 ≤ n0) (f2 : n1 ≤ 2147483647) (f3 : (-2147483648) ≤ n1) (f4 : n2 ≤ 7) (f5 : 0 ≤ n2) (f6 : n3 = 285) (f7 : n4 ≤ 7) (f8 : 0 ≤ n4) (f9 : n5 = 285) (f10 : (hLe T0 H0 H1 ∧ hFr s_274.2.2.2.2 H0 H1 ∧ hWt T0 H1) ∧ (Ab_274_243 n5 n4 n3 n2 n1 n0 H0 H1 ∧ preb_274 n5 n4 H0) ∧ some q0 = some (mub_274_243 n5 n4 n3 n2 n1 n0 H0 H1)) (f11 : n6 = 3) (f12 : n0 < n6) : n0 ≤ 2 := by
  have g4 := f10.2.1.1
  unfold Ab_274_243 at g4
  have g3 := f10.2.1.2
  unfold preb_274 at g3
  have e2 : hV H1 298 = hV H0 298 := fRow f10.1.2.1 298 kR_274_298
  have e3 : hV H1 300 = hV H0 300 := fRow f10.1.2.1 300 kR_274_300
  have e4 : hV H1 301 = hV H0 301 := fRow f10.1.2.1 301 kR_274_301
  have e5 : hV H1 302 = hV H0 302 := fRow f10.1.2.1 302 kR_274_302
  have e6 : hV H1 303 = hV H0 303 := fRow f10.1.2.1 303 kR_274_303
  have e7 : hV H1 305 = hV H0 305 := fRow f10.1.2.1 305 kR_274_305
  have e8 : (0 : Int) ≤ hV H0 285 18 ∧ hV H0 285 18 ≤ 8 := bTo ((f10.1.2.1.1 285 18 kF_274_285_18)) (f10.1.2.2 285 18 _ _ kW_285_18)
  have e9 : (0 : Int) ≤ hV H1 285 82 ∧ hV H1 285 82 ≤ 40 := f10.1.2.2 285 82 _ _ kW_285_82
  try simp only [XQ] at *
  try simp only [e2, e3, e4, e5, e6, e7] at g4
  have k0 := g4.1
  have y0 := g4.2
  have p0 := g3.1
  have p1 := g3.2.1
  have p2 := g3.2.2
  clear g3
  clear g4
  clear e2 e3 e4 e5 e6 e7
  try subst k0
  omega
theorem c_274_243_1 {q0 : Nat} : vOkm T0 (eP e_274 L_274 A_274 mu_274 (some q0)) 2 ([(42, [5, 6], [], 0), (0, [6], [], 3), (5000, [0, 1, 2, 3, 4, 5], [0, 1], 243), (0, [0], [], 285), (90, [1], [], 0), (91, [1], [], 7), (0, [2], [], 285), (90, [3], [], 0), (91, [3], [], 7), (90, [4], [], -2147483648), (91, [4], [], 2147483647), (90, [5], [], 0), (91, [5], [], 3)], (91, [5], [], 2)) := vOk_inI fun ρ η f0 f1 f2 f3 f4 f5 f6 f7 f8 f9 f10 f11 f12 => q_274_48 (q0 := q0) (n0 := ρ 5) (n1 := ρ 4) (n2 := ρ 3) (n3 := ρ 2) (n4 := ρ 1) (n5 := ρ 0) (n6 := ρ 6) (H0 := η 0) (H1 := η 1) f12 f11 f10 f9 f8 f7 f6 f5 f4 f3 f2 f1 f0
theorem q_274_49 {q0 : Nat} {n0 n1 n2 n3 n4 n5 n6 n7 : Int} {H0 H1 : gH} (f0 : n0 ≤ 3) (f1 : 0 ≤ n0) (f2 : n1 ≤ 2147483647) (f3 : (-2147483648) ≤ n1) (f4 : n2 ≤ 7) (f5 : 0 ≤ n2) (f6 : n3 = 285) (f7 : n4 ≤ 7) (f8 : 0 ≤ n4) (f9 : n5 = 285) (f10 : (hLe T0 H0 H1 ∧ hFr s_274.2.2.2.2 H0 H1 ∧ hWt T0 H1) ∧ (Ab_274_243 n5 n4 n3 n2 n1 n0 H0 H1 ∧ preb_274 n5 n4 H0) ∧ some q0 = some (mub_274_243 n5 n4 n3 n2 n1 n0 H0 H1)) (f11 : n6 = 3) (f12 : n0 < n6) (f13 : n7 = 0) : Ab_274_251 n5 n4 n3 n2 n1 n0 n7 H0 H1 ∧ ∀ q, some q0 = some q → mub_274_251 n5 n4 n3 n2 n1 n0 n7 H0 H1 < q := by
  have g4 := f10.2.1.1
  unfold Ab_274_243 at g4
  have g3 := f10.2.1.2
  unfold preb_274 at g3
  have g5 := Option.some.inj f10.2.2
  unfold mub_274_243 at g5
  unfold Ab_274_251
  unfold mub_274_251
  have e2 : hV H1 298 = hV H0 298 := fRow f10.1.2.1 298 kR_274_298
  have e3 : hV H1 300 = hV H0 300 := fRow f10.1.2.1 300 kR_274_300
  have e4 : hV H1 301 = hV H0 301 := fRow f10.1.2.1 301 kR_274_301
  have e5 : hV H1 302 = hV H0 302 := fRow f10.1.2.1 302 kR_274_302
  have e6 : hV H1 303 = hV H0 303 := fRow f10.1.2.1 303 kR_274_303
  have e7 : hV H1 305 = hV H0 305 := fRow f10.1.2.1 305 kR_274_305
  have e8 : (0 : Int) ≤ hV H0 285 18 ∧ hV H0 285 18 ≤ 8 := bTo ((f10.1.2.1.1 285 18 kF_274_285_18)) (f10.1.2.2 285 18 _ _ kW_285_18)
  have e9 : (0 : Int) ≤ hV H1 285 82 ∧ hV H1 285 82 ≤ 40 := f10.1.2.2 285 82 _ _ kW_285_82
  try simp only [XQ] at *
  try simp only [e2, e3, e4, e5, e6, e7] at g4
  try simp only [e2, e3, e4, e5, e6, e7]
  have k0 := g4.1
  have y0 := g4.2
  have p0 := g3.1
  have p1 := g3.2.1
  have p2 := g3.2.2
  clear g3
  clear g4
  clear e2 e3 e4 e5 e6 e7
  try subst k0
  refine ⟨?_, fun q hq => ?_⟩
  · refine ⟨?_, ?_⟩ <;> first | assumption | omega | trivial
  · have g6 := Option.some.inj hq
    subst g6
    omega
theorem c_274_243_2 {q0 : Nat} : vOkm T0 (eP e_274 L_274 A_274 mu_274 (some q0)) 2 ([(0, [7], [], 0), (42, [5, 6], [], 0), (0, [6], [], 3), (5000, [0, 1, 2, 3, 4, 5], [0, 1], 243), (0, [0], [], 285), (90, [1], [], 0), (91, [1], [], 7), (0, [2], [], 285), (90, [3], [], 0), (91, [3], [], 7), (90, [4], [], -2147483648), (91, [4], [], 2147483647), (90, [5], [], 0), (91, [5], [], 3)], (4000, [2, 3, 4, 5, 7], [1], 251)) := vOk_inI fun ρ η f0 f1 f2 f3 f4 f5 f6 f7 f8 f9 f10 f11 f12 f13 => q_274_49 (q0 := q0) (n0 := ρ 5) (n1 := ρ 4) (n2 := ρ 3) (n3 := ρ 2) (n4 := ρ 1) (n5 := ρ 0) (n6 := ρ 6) (n7 := ρ 7) (H0 := η 0) (H1 := η 1) f13 f12 f11 f10 f9 f8 f7 f6 f5 f4 f3 f2 f1 f0
def p_274_243 : List vG := [([(0, [7], [], 0), (43, [5, 6], [], 0), (0, [6], [], 3), (5000, [0, 1, 2, 3, 4, 5], [0, 1], 243), (0, [0], [], 285), (90, [1], [], 0), (91, [1], [], 7), (0, [2], [], 285), (90, [3], [], 0), (91, [3], [], 7), (90, [4], [], -2147483648), (91, [4], [], 2147483647), (90, [5], [], 0), (91, [5], [], 3)], (4000, [2, 3, 4, 7], [1], 313)),
  ([(42, [5, 6], [], 0), (0, [6], [], 3), (5000, [0, 1, 2, 3, 4, 5], [0, 1], 243), (0, [0], [], 285), (90, [1], [], 0), (91, [1], [], 7), (0, [2], [], 285), (90, [3], [], 0), (91, [3], [], 7), (90, [4], [], -2147483648), (91, [4], [], 2147483647), (90, [5], [], 0), (91, [5], [], 3)], (91, [5], [], 2)),
  ([(0, [7], [], 0), (42, [5, 6], [], 0), (0, [6], [], 3), (5000, [0, 1, 2, 3, 4, 5], [0, 1], 243), (0, [0], [], 285), (90, [1], [], 0), (91, [1], [], 7), (0, [2], [], 285), (90, [3], [], 0), (91, [3], [], 7), (90, [4], [], -2147483648), (91, [4], [], 2147483647), (90, [5], [], 0), (91, [5], [], 3)], (4000, [2, 3, 4, 5, 7], [1], 251))]
theorem r_274_243 : vCovO false (eRc e_274 L_274 cs_274 2000 (243, [(0, (3, 12, 285, 0)), (1, (0, 0, 7, 0)), (2, (0, -2147483648, 2147483647, 0)), (3, (0, 0, 3, 0))])) p_274_243 = true := by decide +kernel
theorem q_274_50 {q0 : Nat} {n0 n1 n2 n3 n4 n5 n6 n7 n8 : Int} {H0 H1 : gH} (f0 : n0 ≤ 240) (f1 : 0 ≤ n0) (f2 : n1 ≤ 2) (f3 : 0 ≤ n1) (f4 : n2 ≤ 2147483647) (f5 : (-2147483648) ≤ n2) (f6 : n3 ≤ 7) (f7 : 0 ≤ n3) (f8 : n4 = 285) (f9 : n5 ≤ 7) (f10 : 0 ≤ n5) (f11 : n6 = 285) (f12 : (hLe T0 H0 H1 ∧ hFr s_274.2.2.2.2 H0 H1 ∧ hWt T0 H1) ∧ (Ab_274_251 n6 n5 n4 n3 n2 n1 n0 H0 H1 ∧ preb_274 n6 n5 H0) ∧ some q0 = some (mub_274_251 n6 n5 n4 n3 n2 n1 n0 H0 H1)) (f13 : n7 ≤ 240) (f14 : 0 ≤ n7) (f15 : n7 = hV H1 (n4).toNat 93) (f16 : n7 ≤ n0) (f17 : n8 = w32 (n1 + 1)) : 0 ≤ n8 := by
  have g4 := f12.2.1.1
  unfold Ab_274_251 at g4
  have g3 := f12.2.1.2
  unfold preb_274 at g3
  have e0 : n7 = hV H1 285 93 := (by rw [f8] at f15; exact f15 : n7 = hV H1 285 93)
  have e3 : hV H1 298 = hV H0 298 := fRow f12.1.2.1 298 kR_274_298
  have e4 : hV H1 300 = hV H0 300 := fRow f12.1.2.1 300 kR_274_300
  have e5 : hV H1 301 = hV H0 301 := fRow f12.1.2.1 301 kR_274_301
  have e6 : hV H1 302 = hV H0 302 := fRow f12.1.2.1 302 kR_274_302
  have e7 : hV H1 303 = hV H0 303 := fRow f12.1.2.1 303 kR_274_303
  have e8 : hV H1 305 = hV H0 305 := fRow f12.1.2.1 305 kR_274_305
  have e9 : (0 : Int) ≤ hV H0 285 18 ∧ hV H0 285 18 ≤ 8 := bTo ((f12.1.2.1.1 285 18 kF_274_285_18)) (f12.1.2.2 285 18 _ _ kW_285_18)
  have e10 : (0 : Int) ≤ hV H1 285 82 ∧ hV H1 285 82 ≤ 40 := f12.1.2.2 285 82 _ _ kW_285_82
  try simp only [XQ] at *
  try simp only [e3, e4, e5, e6, e7, e8] at g4
  have k0 := g4.1
  have y0 := g4.2
  have p0 := g3.1
  have p1 := g3.2.1
  have p2 := g3.2.2
  clear g3
  clear g4
  clear f15 e3 e4 e5 e6 e7 e8
  subst e0
  first
  | (have ix0 : n8 = n1 + 1 := Eq.trans f17 (w32_iv (Iad (Iat f3 f2) (IC 1)) (by decide)); subst ix0; clear f17)
  | (have ix0 : n8 = n1 + 1 := Eq.trans f17 (w32_id (by omega) (by omega)); subst ix0; clear f17)
  | (unfold w32 at f17; have ix0 : n8 = n1 + 1 := (by omega); subst ix0)
  | skip
  try unfold w32 at f17
  try subst k0
  omega
theorem c_274_251_0 {q0 : Nat} : vOkm T0 (eP e_274 L_274 A_274 mu_274 (some q0)) 2 ([(10, [8, 5], [], 1), (43, [6, 7], [], 0), (20, [7, 2], [1], 93), (90, [7], [], 0), (91, [7], [], 240), (5000, [0, 1, 2, 3, 4, 5, 6], [0, 1], 251), (0, [0], [], 285), (90, [1], [], 0), (91, [1], [], 7), (0, [2], [], 285), (90, [3], [], 0), (91, [3], [], 7), (90, [4], [], -2147483648), (91, [4], [], 2147483647), (90, [5], [], 0), (91, [5], [], 2), (90, [6], [], 0), (91, [6], [], 240)], (90, [8], [], 0)) := vOk_inI fun ρ η f0 f1 f2 f3 f4 f5 f6 f7 f8 f9 f10 f11 f12 f13 f14 f15 f16 f17 => q_274_50 (q0 := q0) (n0 := ρ 6) (n1 := ρ 5) (n2 := ρ 4) (n3 := ρ 3) (n4 := ρ 2) (n5 := ρ 1) (n6 := ρ 0) (n7 := ρ 7) (n8 := ρ 8) (H0 := η 0) (H1 := η 1) f17 f16 f15 f14 f13 f12 f11 f10 f9 f8 f7 f6 f5 f4 f3 f2 f1 f0
theorem q_274_51 {q0 : Nat} {n0 n1 n2 n3 n4 n5 n6 n7 n8 : Int} {H0 H1 : gH} (f0 : n0 ≤ 240) (f1 : 0 ≤ n0) (f2 : n1 ≤ 2) (f3 : 0 ≤ n1) (f4 : n2 ≤ 2147483647) (f5 : (-2147483648) ≤ n2) (f6 : n3 ≤ 7) (f7 : 0 ≤ n3) (f8 : n4 = 285) (f9 : n5 ≤ 7) (f10 : 0 ≤ n5) (f11 : n6 = 285) (f12 : (hLe T0 H0 H1 ∧ hFr s_274.2.2.2.2 H0 H1 ∧ hWt T0 H1) ∧ (Ab_274_251 n6 n5 n4 n3 n2 n1 n0 H0 H1 ∧ preb_274 n6 n5 H0) ∧ some q0 = some (mub_274_251 n6 n5 n4 n3 n2 n1 n0 H0 H1)) (f13 : n7 ≤ 240) (f14 : 0 ≤ n7) (f15 : n7 = hV H1 (n4).toNat 93) (f16 : n7 ≤ n0) (f17 : n8 = w32 (n1 + 1)) : n8 ≤ 3 := by
  have g4 := f12.2.1.1
  unfold Ab_274_251 at g4
  have g3 := f12.2.1.2
  unfold preb_274 at g3
  have e0 : n7 = hV H1 285 93 := (by rw [f8] at f15; exact f15 : n7 = hV H1 285 93)
  have e3 : hV H1 298 = hV H0 298 := fRow f12.1.2.1 298 kR_274_298
  have e4 : hV H1 300 = hV H0 300 := fRow f12.1.2.1 300 kR_274_300
  have e5 : hV H1 301 = hV H0 301 := fRow f12.1.2.1 301 kR_274_301
  have e6 : hV H1 302 = hV H0 302 := fRow f12.1.2.1 302 kR_274_302
  have e7 : hV H1 303 = hV H0 303 := fRow f12.1.2.1 303 kR_274_303
  have e8 : hV H1 305 = hV H0 305 := fRow f12.1.2.1 305 kR_274_305
  have e9 : (0 : Int) ≤ hV H0 285 18 ∧ hV H0 285 18 ≤ 8 := bTo ((f12.1.2.1.1 285 18 kF_274_285_18)) (f12.1.2.2 285 18 _ _ kW_285_18)
  have e10 : (0 : Int) ≤ hV H1 285 82 ∧ hV H1 285 82 ≤ 40 := f12.1.2.2 285 82 _ _ kW_285_82
  try simp only [XQ] at *
  try simp only [e3, e4, e5, e6, e7, e8] at g4
  have k0 := g4.1
  have y0 := g4.2
  have p0 := g3.1
  have p1 := g3.2.1
  have p2 := g3.2.2
  clear g3
  clear g4
  clear f15 e3 e4 e5 e6 e7 e8
  subst e0
  first
  | (have ix0 : n8 = n1 + 1 := Eq.trans f17 (w32_iv (Iad (Iat f3 f2) (IC 1)) (by decide)); subst ix0; clear f17)
  | (have ix0 : n8 = n1 + 1 := Eq.trans f17 (w32_id (by omega) (by omega)); subst ix0; clear f17)
  | (unfold w32 at f17; have ix0 : n8 = n1 + 1 := (by omega); subst ix0)
  | skip
  try unfold w32 at f17
  try subst k0
  omega
theorem c_274_251_1 {q0 : Nat} : vOkm T0 (eP e_274 L_274 A_274 mu_274 (some q0)) 2 ([(10, [8, 5], [], 1), (43, [6, 7], [], 0), (20, [7, 2], [1], 93), (90, [7], [], 0), (91, [7], [], 240), (5000, [0, 1, 2, 3, 4, 5, 6], [0, 1], 251), (0, [0], [], 285), (90, [1], [], 0), (91, [1], [], 7), (0, [2], [], 285), (90, [3], [], 0), (91, [3], [], 7), (90, [4], [], -2147483648), (91, [4], [], 2147483647), (90, [5], [], 0), (91, [5], [], 2), (90, [6], [], 0), (91, [6], [], 240)], (91, [8], [], 3)) := vOk_inI fun ρ η f0 f1 f2 f3 f4 f5 f6 f7 f8 f9 f10 f11 f12 f13 f14 f15 f16 f17 => q_274_51 (q0 := q0) (n0 := ρ 6) (n1 := ρ 5) (n2 := ρ 4) (n3 := ρ 3) (n4 := ρ 2) (n5 := ρ 1) (n6 := ρ 0) (n7 := ρ 7) (n8 := ρ 8) (H0 := η 0) (H1 := η 1) f17 f16 f15 f14 f13 f12 f11 f10 f9 f8 f7 f6 f5 f4 f3 f2 f1 f0
theorem q_274_52 {q0 : Nat} {n0 n1 n2 n3 n4 n5 n6 n7 n8 : Int} {H0 H1 : gH} (f0 : n0 ≤ 240) (f1 : 0 ≤ n0) (f2 : n1 ≤ 2) (f3 : 0 ≤ n1) (f4 : n2 ≤ 2147483647) (f5 : (-2147483648) ≤ n2) (f6 : n3 ≤ 7) (f7 : 0 ≤ n3) (f8 : n4 = 285) (f9 : n5 ≤ 7) (f10 : 0 ≤ n5) (f11 : n6 = 285) (f12 : (hLe T0 H0 H1 ∧ hFr s_274.2.2.2.2 H0 H1 ∧ hWt T0 H1) ∧ (Ab_274_251 n6 n5 n4 n3 n2 n1 n0 H0 H1 ∧ preb_274 n6 n5 H0) ∧ some q0 = some (mub_274_251 n6 n5 n4 n3 n2 n1 n0 H0 H1)) (f13 : n7 ≤ 240) (f14 : 0 ≤ n7) (f15 : n7 = hV H1 (n4).toNat 93) (f16 : n7 ≤ n0) (f17 : n8 = w32 (n1 + 1)) : Ab_274_243 n6 n5 n4 n3 n2 n8 H0 H1 ∧ ∀ q, some q0 = some q → mub_274_243 n6 n5 n4 n3 n2 n8 H0 H1 < q := by
  have g4 := f12.2.1.1
  unfold Ab_274_251 at g4
  have g3 := f12.2.1.2
  unfold preb_274 at g3
  have g5 := Option.some.inj f12.2.2
  unfold mub_274_251 at g5
  unfold Ab_274_243
  unfold mub_274_243
  have e0 : n7 = hV H1 285 93 := (by rw [f8] at f15; exact f15 : n7 = hV H1 285 93)
  have e3 : hV H1 298 = hV H0 298 := fRow f12.1.2.1 298 kR_274_298
  have e4 : hV H1 300 = hV H0 300 := fRow f12.1.2.1 300 kR_274_300
  have e5 : hV H1 301 = hV H0 301 := fRow f12.1.2.1 301 kR_274_301
  have e6 : hV H1 302 = hV H0 302 := fRow f12.1.2.1 302 kR_274_302
  have e7 : hV H1 303 = hV H0 303 := fRow f12.1.2.1 303 kR_274_303
  have e8 : hV H1 305 = hV H0 305 := fRow f12.1.2.1 305 kR_274_305
  have e9 : (0 : Int) ≤ hV H0 285 18 ∧ hV H0 285 18 ≤ 8 := bTo ((f12.1.2.1.1 285 18 kF_274_285_18)) (f12.1.2.2 285 18 _ _ kW_285_18)
  have e10 : (0 : Int) ≤ hV H1 285 82 ∧ hV H1 285 82 ≤ 40 := f12.1.2.2 285 82 _ _ kW_285_82
  try simp only [XQ] at *
  try simp only [e3, e4, e5, e6, e7, e8] at g4
  try simp only [e3, e4, e5, e6, e7, e8]
  have k0 := g4.1
  have y0 := g4.2
  have p0 := g3.1
  have p1 := g3.2.1
  have p2 := g3.2.2
  clear g3
  clear g4
  clear f15 e3 e4 e5 e6 e7 e8
  subst e0
  first
  | (have ix0 : n8 = n1 + 1 := Eq.trans f17 (w32_iv (Iad (Iat f3 f2) (IC 1)) (by decide)); subst ix0; clear f17)
  | (have ix0 : n8 = n1 + 1 := Eq.trans f17 (w32_id (by omega) (by omega)); subst ix0; clear f17)
  | (unfold w32 at f17; have ix0 : n8 = n1 + 1 := (by omega); subst ix0)
  | skip
  try unfold w32 at f17
  try subst k0
  refine ⟨?_, fun q hq => ?_⟩
  · refine ⟨?_, ?_⟩ <;> first | assumption | omega | trivial
  · have g6 := Option.some.inj hq
    subst g6
    omega
theorem c_274_251_2 {q0 : Nat} : vOkm T0 (eP e_274 L_274 A_274 mu_274 (some q0)) 2 ([(10, [8, 5], [], 1), (43, [6, 7], [], 0), (20, [7, 2], [1], 93), (90, [7], [], 0), (91, [7], [], 240), (5000, [0, 1, 2, 3, 4, 5, 6], [0, 1], 251), (0, [0], [], 285), (90, [1], [], 0), (91, [1], [], 7), (0, [2], [], 285), (90, [3], [], 0), (91, [3], [], 7), (90, [4], [], -2147483648), (91, [4], [], 2147483647), (90, [5], [], 0), (91, [5], [], 2), (90, [6], [], 0), (91, [6], [], 240)], (4000, [2, 3, 4, 8], [1], 243)) := vOk_inI fun ρ η f0 f1 f2 f3 f4 f5 f6 f7 f8 f9 f10 f11 f12 f13 f14 f15 f16 f17 => q_274_52 (q0 := q0) (n0 := ρ 6) (n1 := ρ 5) (n2 := ρ 4) (n3 := ρ 3) (n4 := ρ 2) (n5 := ρ 1) (n6 := ρ 0) (n7 := ρ 7) (n8 := ρ 8) (H0 := η 0) (H1 := η 1) f17 f16 f15 f14 f13 f12 f11 f10 f9 f8 f7 f6 f5 f4 f3 f2 f1 f0
theorem q_274_53 {q0 : Nat} {n0 n1 n2 n3 n4 n5 n6 n7 n8 n9 n10 n11 n12 n13 : Int} {H0 H1 : gH} (f0 : n0 ≤ 240) (f1 : 0 ≤ n0) (f2 : n1 ≤ 2) (f3 : 0 ≤ n1) (f4 : n2 ≤ 2147483647) (f5 : (-2147483648) ≤ n2) (f6 : n3 ≤ 7) (f7 : 0 ≤ n3) (f8 : n4 = 285) (f9 : n5 ≤ 7) (f10 : 0 ≤ n5) (f11 : n6 = 285) (f12 : (hLe T0 H0 H1 ∧ hFr s_274.2.2.2.2 H0 H1 ∧ hWt T0 H1) ∧ (Ab_274_251 n6 n5 n4 n3 n2 n1 n0 H0 H1 ∧ preb_274 n6 n5 H0) ∧ some q0 = some (mub_274_251 n6 n5 n4 n3 n2 n1 n0 H0 H1)) (f13 : n7 ≤ 240) (f14 : 0 ≤ n7) (f15 : n7 = hV H1 (n4).toNat 93) (f16 : n0 < n7) (f17 : n8 = 240) (f18 : n9 = w32 (n8 * n1)) (f19 : n10 = w32 (n9 + n0)) (f20 : n11 = 240) (f21 : n12 = w32 (n11 * n1)) (f22 : n13 = w32 (n12 + n0)) : 0 ≤ n13 ∧ n13 < 720 := by
  have g4 := f12.2.1.1
  unfold Ab_274_251 at g4
  have g3 := f12.2.1.2
  unfold preb_274 at g3
  have e0 : n7 = hV H1 285 93 := (by rw [f8] at f15; exact f15 : n7 = hV H1 285 93)
  have e3 : hV H1 298 = hV H0 298 := fRow f12.1.2.1 298 kR_274_298
  have e4 : hV H1 300 = hV H0 300 := fRow f12.1.2.1 300 kR_274_300
  have e5 : hV H1 301 = hV H0 301 := fRow f12.1.2.1 301 kR_274_301
  have e6 : hV H1 302 = hV H0 302 := fRow f12.1.2.1 302 kR_274_302
  have e7 : hV H1 303 = hV H0 303 := fRow f12.1.2.1 303 kR_274_303
  have e8 : hV H1 305 = hV H0 305 := fRow f12.1.2.1 305 kR_274_305
  have e9 : (0 : Int) ≤ hV H0 285 18 ∧ hV H0 285 18 ≤ 8 := bTo ((f12.1.2.1.1 285 18 kF_274_285_18)) (f12.1.2.2 285 18 _ _ kW_285_18)
  have e10 : (0 : Int) ≤ hV H1 285 82 ∧ hV H1 285 82 ≤ 40 := f12.1.2.2 285 82 _ _ kW_285_82
  try simp only [XQ] at *
  try simp only [e3, e4, e5, e6, e7, e8] at g4
  have k0 := g4.1
  have y0 := g4.2
  have p0 := g3.1
  have p1 := g3.2.1
  have p2 := g3.2.2
  clear g3
  clear g4
  clear f15 e3 e4 e5 e6 e7 e8
  subst e0
  rw [f17] at f18
  rw [f20] at f21
  first
  | (have ix0 : n12 = 240 * n1 := Eq.trans f21 (w32_iv (Iml 240 rfl (Iat f3 f2)) (by decide)); subst ix0; clear f21)
  | (have ix0 : n12 = 240 * n1 := Eq.trans f21 (w32_id (by omega) (by omega)); subst ix0; clear f21)
  | (unfold w32 at f21; have ix0 : n12 = 240 * n1 := (by omega); subst ix0)
  | skip
  first
  | (have ix1 : n13 = (240 * n1) + n0 := Eq.trans f22 (w32_iv (Iad (Iml 240 rfl (Iat f3 f2)) (Iat f1 f0)) (by decide)); subst ix1; clear f22)
  | (have ix1 : n13 = (240 * n1) + n0 := Eq.trans f22 (w32_id (by omega) (by omega)); subst ix1; clear f22)
  | (unfold w32 at f22; have ix1 : n13 = (240 * n1) + n0 := (by omega); subst ix1)
  | skip
  try unfold w32 at f18
  try unfold w32 at f19
  try unfold w32 at f21
  try unfold w32 at f22
  try subst k0
  omega
theorem c_274_251_3 {q0 : Nat} : vOkm T0 (eP e_274 L_274 A_274 mu_274 (some q0)) 2 ([(1, [15, 14, 6], [], 0), (3, [14, 13, 5], [], 0), (0, [13], [], 240), (1, [11, 10, 6], [], 0), (3, [10, 9, 5], [], 0), (0, [9], [], 240), (42, [6, 7], [], 0), (20, [7, 2], [1], 93), (90, [7], [], 0), (91, [7], [], 240), (5000, [0, 1, 2, 3, 4, 5, 6], [0, 1], 251), (0, [0], [], 285), (90, [1], [], 0), (91, [1], [], 7), (0, [2], [], 285), (90, [3], [], 0), (91, [3], [], 7), (90, [4], [], -2147483648), (91, [4], [], 2147483647), (90, [5], [], 0), (91, [5], [], 2), (90, [6], [], 0), (91, [6], [], 240)], (70, [15], [], 720)) := vOk_inI fun ρ η f0 f1 f2 f3 f4 f5 f6 f7 f8 f9 f10 f11 f12 f13 f14 f15 f16 f17 f18 f19 f20 f21 f22 => q_274_53 (q0 := q0) (n0 := ρ 6) (n1 := ρ 5) (n2 := ρ 4) (n3 := ρ 3) (n4 := ρ 2) (n5 := ρ 1) (n6 := ρ 0) (n7 := ρ 7) (n8 := ρ 9) (n9 := ρ 10) (n10 := ρ 11) (n11 := ρ 13) (n12 := ρ 14) (n13 := ρ 15) (H0 := η 0) (H1 := η 1) f22 f21 f20 f19 f18 f17 f16 f15 f14 f13 f12 f11 f10 f9 f8 f7 f6 f5 f4 f3 f2 f1 f0
theorem q_274_54 {q0 : Nat} {n0 n1 n2 n3 n4 n5 n6 n7 n8 n9 n10 n11 n12 n13 : Int} {H0 H1 : gH} (f0 : n0 ≤ 240) (f1 : 0 ≤ n0) (f2 : n1 ≤ 2) (f3 : 0 ≤ n1) (f4 : n2 ≤ 2147483647) (f5 : (-2147483648) ≤ n2) (f6 : n3 ≤ 7) (f7 : 0 ≤ n3) (f8 : n4 = 285) (f9 : n5 ≤ 7) (f10 : 0 ≤ n5) (f11 : n6 = 285) (f12 : (hLe T0 H0 H1 ∧ hFr s_274.2.2.2.2 H0 H1 ∧ hWt T0 H1) ∧ (Ab_274_251 n6 n5 n4 n3 n2 n1 n0 H0 H1 ∧ preb_274 n6 n5 H0) ∧ some q0 = some (mub_274_251 n6 n5 n4 n3 n2 n1 n0 H0 H1)) (f13 : n7 ≤ 240) (f14 : 0 ≤ n7) (f15 : n7 = hV H1 (n4).toNat 93) (f16 : n0 < n7) (f17 : n8 = 240) (f18 : n9 = w32 (n8 * n1)) (f19 : n10 = w32 (n9 + n0)) (f20 : n11 = 240) (f21 : n12 = w32 (n11 * n1)) (f22 : n13 = w32 (n12 + n0)) : preb_275 n4 n1 n0 H1 := by
  have g4 := f12.2.1.1
  unfold Ab_274_251 at g4
  have g3 := f12.2.1.2
  unfold preb_274 at g3
  unfold preb_275
  have e0 : n7 = hV H1 285 93 := (by rw [f8] at f15; exact f15 : n7 = hV H1 285 93)
  have e3 : hV H1 298 = hV H0 298 := fRow f12.1.2.1 298 kR_274_298
  have e4 : hV H1 300 = hV H0 300 := fRow f12.1.2.1 300 kR_274_300
  have e5 : hV H1 301 = hV H0 301 := fRow f12.1.2.1 301 kR_274_301
  have e6 : hV H1 302 = hV H0 302 := fRow f12.1.2.1 302 kR_274_302
  have e7 : hV H1 303 = hV H0 303 := fRow f12.1.2.1 303 kR_274_303
  have e8 : hV H1 305 = hV H0 305 := fRow f12.1.2.1 305 kR_274_305
  have e9 : (0 : Int) ≤ hV H0 285 18 ∧ hV H0 285 18 ≤ 8 := bTo ((f12.1.2.1.1 285 18 kF_274_285_18)) (f12.1.2.2 285 18 _ _ kW_285_18)
  have e10 : (0 : Int) ≤ hV H1 285 82 ∧ hV H1 285 82 ≤ 40 := f12.1.2.2 285 82 _ _ kW_285_82
  try simp only [XQ] at *
  try simp only [e3, e4, e5, e6, e7, e8] at g4
  try simp only [e3, e4, e5, e6, e7, e8]
  have k0 := g4.1
  have y0 := g4.2
  have p0 := g3.1
  have p1 := g3.2.1
  have p2 := g3.2.2
  clear g3
  clear g4
  clear f15 e3 e4 e5 e6 e7 e8
  subst e0
  rw [f17] at f18
  rw [f20] at f21
  unfold w32 at f18 f19 f21 f22
  try subst k0
  first | assumption | omega | trivial
theorem c_274_251_4 {q0 : Nat} : vOkm T0 (eP e_274 L_274 A_274 mu_274 (some q0)) 2 ([(1, [15, 14, 6], [], 0), (3, [14, 13, 5], [], 0), (0, [13], [], 240), (1, [11, 10, 6], [], 0), (3, [10, 9, 5], [], 0), (0, [9], [], 240), (42, [6, 7], [], 0), (20, [7, 2], [1], 93), (90, [7], [], 0), (91, [7], [], 240), (5000, [0, 1, 2, 3, 4, 5, 6], [0, 1], 251), (0, [0], [], 285), (90, [1], [], 0), (91, [1], [], 7), (0, [2], [], 285), (90, [3], [], 0), (91, [3], [], 7), (90, [4], [], -2147483648), (91, [4], [], 2147483647), (90, [5], [], 0), (91, [5], [], 2), (90, [6], [], 0), (91, [6], [], 240)], (2275, [2, 5, 6], [1], 0)) := vOk_inI fun ρ η f0 f1 f2 f3 f4 f5 f6 f7 f8 f9 f10 f11 f12 f13 f14 f15 f16 f17 f18 f19 f20 f21 f22 => q_274_54 (q0 := q0) (n0 := ρ 6) (n1 := ρ 5) (n2 := ρ 4) (n3 := ρ 3) (n4 := ρ 2) (n5 := ρ 1) (n6 := ρ 0) (n7 := ρ 7) (n8 := ρ 9) (n9 := ρ 10) (n10 := ρ 11) (n11 := ρ 13) (n12 := ρ 14) (n13 := ρ 15) (H0 := η 0) (H1 := η 1) f22 f21 f20 f19 f18 f17 f16 f15 f14 f13 f12 f11 f10 f9 f8 f7 f6 f5 f4 f3 f2 f1 f0
theorem q_274_55 {q0 : Nat} {n0 n1 n2 n3 n4 n5 n6 n7 n8 n9 n10 n11 n12 n13 : Int} {H0 H1 : gH} (f0 : n0 ≤ 240) (f1 : 0 ≤ n0) (f2 : n1 ≤ 2) (f3 : 0 ≤ n1) (f4 : n2 ≤ 2147483647) (f5 : (-2147483648) ≤ n2) (f6 : n3 ≤ 7) (f7 : 0 ≤ n3) (f8 : n4 = 285) (f9 : n5 ≤ 7) (f10 : 0 ≤ n5) (f11 : n6 = 285) (f12 : (hLe T0 H0 H1 ∧ hFr s_274.2.2.2.2 H0 H1 ∧ hWt T0 H1) ∧ (Ab_274_251 n6 n5 n4 n3 n2 n1 n0 H0 H1 ∧ preb_274 n6 n5 H0) ∧ some q0 = some (mub_274_251 n6 n5 n4 n3 n2 n1 n0 H0 H1)) (f13 : n7 ≤ 240) (f14 : 0 ≤ n7) (f15 : n7 = hV H1 (n4).toNat 93) (f16 : n0 < n7) (f17 : n8 = 240) (f18 : n9 = w32 (n8 * n1)) (f19 : n10 = w32 (n9 + n0)) (f20 : n11 = 240) (f21 : n12 = w32 (n11 * n1)) (f22 : n13 = w32 (n12 + n0)) : 0 ≤ n10 ∧ n10 < 720 := by
  have g4 := f12.2.1.1
  unfold Ab_274_251 at g4
  have g3 := f12.2.1.2
  unfold preb_274 at g3
  have e0 : n7 = hV H1 285 93 := (by rw [f8] at f15; exact f15 : n7 = hV H1 285 93)
  have e3 : hV H1 298 = hV H0 298 := fRow f12.1.2.1 298 kR_274_298
  have e4 : hV H1 300 = hV H0 300 := fRow f12.1.2.1 300 kR_274_300
  have e5 : hV H1 301 = hV H0 301 := fRow f12.1.2.1 301 kR_274_301
  have e6 : hV H1 302 = hV H0 302 := fRow f12.1.2.1 302 kR_274_302
  have e7 : hV H1 303 = hV H0 303 := fRow f12.1.2.1 303 kR_274_303
  have e8 : hV H1 305 = hV H0 305 := fRow f12.1.2.1 305 kR_274_305
  have e9 : (0 : Int) ≤ hV H0 285 18 ∧ hV H0 285 18 ≤ 8 := bTo ((f12.1.2.1.1 285 18 kF_274_285_18)) (f12.1.2.2 285 18 _ _ kW_285_18)
  have e10 : (0 : Int) ≤ hV H1 285 82 ∧ hV H1 285 82 ≤ 40 := f12.1.2.2 285 82 _ _ kW_285_82
  try simp only [XQ] at *
  try simp only [e3, e4, e5, e6, e7, e8] at g4
  have k0 := g4.1
  have y0 := g4.2
  have p0 := g3.1
  have p1 := g3.2.1
  have p2 := g3.2.2
  clear g3
  clear g4
  clear f15 e3 e4 e5 e6 e7 e8
  subst e0
  rw [f17] at f18
  rw [f20] at f21
  first
  | (have ix0 : n9 = 240 * n1 := Eq.trans f18 (w32_iv (Iml 240 rfl (Iat f3 f2)) (by decide)); subst ix0; clear f18)
  | (have ix0 : n9 = 240 * n1 := Eq.trans f18 (w32_id (by omega) (by omega)); subst ix0; clear f18)
  | (unfold w32 at f18; have ix0 : n9 = 240 * n1 := (by omega); subst ix0)
  | skip
  first
  | (have ix1 : n10 = (240 * n1) + n0 := Eq.trans f19 (w32_iv (Iad (Iml 240 rfl (Iat f3 f2)) (Iat f1 f0)) (by decide)); subst ix1; clear f19)
  | (have ix1 : n10 = (240 * n1) + n0 := Eq.trans f19 (w32_id (by omega) (by omega)); subst ix1; clear f19)
  | (unfold w32 at f19; have ix1 : n10 = (240 * n1) + n0 := (by omega); subst ix1)
  | skip
  try unfold w32 at f18
  try unfold w32 at f19
  try unfold w32 at f21
  try unfold w32 at f22
  try subst k0
  omega
theorem c_274_251_5 {q0 : Nat} : vOkm T0 (eP e_274 L_274 A_274 mu_274 (some q0)) 2 ([(1, [15, 14, 6], [], 0), (3, [14, 13, 5], [], 0), (0, [13], [], 240), (1, [11, 10, 6], [], 0), (3, [10, 9, 5], [], 0), (0, [9], [], 240), (42, [6, 7], [], 0), (20, [7, 2], [1], 93), (90, [7], [], 0), (91, [7], [], 240), (5000, [0, 1, 2, 3, 4, 5, 6], [0, 1], 251), (0, [0], [], 285), (90, [1], [], 0), (91, [1], [], 7), (0, [2], [], 285), (90, [3], [], 0), (91, [3], [], 7), (90, [4], [], -2147483648), (91, [4], [], 2147483647), (90, [5], [], 0), (91, [5], [], 2), (90, [6], [], 0), (91, [6], [], 240)], (70, [11], [], 720)) := vOk_inI fun ρ η f0 f1 f2 f3 f4 f5 f6 f7 f8 f9 f10 f11 f12 f13 f14 f15 f16 f17 f18 f19 f20 f21 f22 => q_274_55 (q0 := q0) (n0 := ρ 6) (n1 := ρ 5) (n2 := ρ 4) (n3 := ρ 3) (n4 := ρ 2) (n5 := ρ 1) (n6 := ρ 0) (n7 := ρ 7) (n8 := ρ 9) (n9 := ρ 10) (n10 := ρ 11) (n11 := ρ 13) (n12 := ρ 14) (n13 := ρ 15) (H0 := η 0) (H1 := η 1) f22 f21 f20 f19 f18 f17 f16 f15 f14 f13 f12 f11 f10 f9 f8 f7 f6 f5 f4 f3 f2 f1 f0
theorem q_274_56 {q0 : Nat} {n0 n1 n2 n3 n4 n5 n6 n7 n8 n9 n10 n11 n12 n13 n14 : Int} {H0 H1 : gH} (f0 : n0 ≤ 240) (f1 : 0 ≤ n0) (f2 : n1 ≤ 2) (f3 : 0 ≤ n1) (f4 : n2 ≤ 2147483647) (f5 : (-2147483648) ≤ n2) (f6 : n3 ≤ 7) (f7 : 0 ≤ n3) (f8 : n4 = 285) (f9 : n5 ≤ 7) (f10 : 0 ≤ n5) (f11 : n6 = 285) (f12 : (hLe T0 H0 H1 ∧ hFr s_274.2.2.2.2 H0 H1 ∧ hWt T0 H1) ∧ (Ab_274_251 n6 n5 n4 n3 n2 n1 n0 H0 H1 ∧ preb_274 n6 n5 H0) ∧ some q0 = some (mub_274_251 n6 n5 n4 n3 n2 n1 n0 H0 H1)) (f13 : n7 ≤ 240) (f14 : 0 ≤ n7) (f15 : n7 = hV H1 (n4).toNat 93) (f16 : n0 < n7) (f17 : n8 = 240) (f18 : n9 = w32 (n8 * n1)) (f19 : n10 = w32 (n9 + n0)) (f20 : n11 = 240) (f21 : n12 = w32 (n11 * n1)) (f22 : n13 = w32 (n12 + n0)) (f23 : n14 = w32 (n0 + 1)) : 0 ≤ n14 := by
  have g4 := f12.2.1.1
  unfold Ab_274_251 at g4
  have g3 := f12.2.1.2
  unfold preb_274 at g3
  have e0 : n7 = hV H1 285 93 := (by rw [f8] at f15; exact f15 : n7 = hV H1 285 93)
  have e3 : hV H1 298 = hV H0 298 := fRow f12.1.2.1 298 kR_274_298
  have e4 : hV H1 300 = hV H0 300 := fRow f12.1.2.1 300 kR_274_300
  have e5 : hV H1 301 = hV H0 301 := fRow f12.1.2.1 301 kR_274_301
  have e6 : hV H1 302 = hV H0 302 := fRow f12.1.2.1 302 kR_274_302
  have e7 : hV H1 303 = hV H0 303 := fRow f12.1.2.1 303 kR_274_303
  have e8 : hV H1 305 = hV H0 305 := fRow f12.1.2.1 305 kR_274_305
  have e9 : (0 : Int) ≤ hV H0 285 18 ∧ hV H0 285 18 ≤ 8 := bTo ((f12.1.2.1.1 285 18 kF_274_285_18)) (f12.1.2.2 285 18 _ _ kW_285_18)
  have e10 : (0 : Int) ≤ hV H1 285 82 ∧ hV H1 285 82 ≤ 40 := f12.1.2.2 285 82 _ _ kW_285_82
  try simp only [XQ] at *
  try simp only [e3, e4, e5, e6, e7, e8] at g4
  have k0 := g4.1
  have y0 := g4.2
  have p0 := g3.1
  have p1 := g3.2.1
  have p2 := g3.2.2
  clear g3
  clear g4
  clear f15 e3 e4 e5 e6 e7 e8
  subst e0
  rw [f17] at f18
  rw [f20] at f21
  first
  | (have ix0 : n14 = n0 + 1 := Eq.trans f23 (w32_iv (Iad (Iat f1 f0) (IC 1)) (by decide)); subst ix0; clear f23)
  | (have ix0 : n14 = n0 + 1 := Eq.trans f23 (w32_id (by omega) (by omega)); subst ix0; clear f23)
  | (unfold w32 at f23; have ix0 : n14 = n0 + 1 := (by omega); subst ix0)
  | skip
  try unfold w32 at f18
  try unfold w32 at f19
  try unfold w32 at f21
  try unfold w32 at f22
  try unfold w32 at f23
  try subst k0
  omega
theorem c_274_251_6 {q0 : Nat} : vOkm T0 (eP e_274 L_274 A_274 mu_274 (some q0)) 2 ([(10, [22, 6], [], 1), (1, [15, 14, 6], [], 0), (3, [14, 13, 5], [], 0), (0, [13], [], 240), (1, [11, 10, 6], [], 0), (3, [10, 9, 5], [], 0), (0, [9], [], 240), (42, [6, 7], [], 0), (20, [7, 2], [1], 93), (90, [7], [], 0), (91, [7], [], 240), (5000, [0, 1, 2, 3, 4, 5, 6], [0, 1], 251), (0, [0], [], 285), (90, [1], [], 0), (91, [1], [], 7), (0, [2], [], 285), (90, [3], [], 0), (91, [3], [], 7), (90, [4], [], -2147483648), (91, [4], [], 2147483647), (90, [5], [], 0), (91, [5], [], 2), (90, [6], [], 0), (91, [6], [], 240)], (90, [22], [], 0)) := vOk_inI fun ρ η f0 f1 f2 f3 f4 f5 f6 f7 f8 f9 f10 f11 f12 f13 f14 f15 f16 f17 f18 f19 f20 f21 f22 f23 => q_274_56 (q0 := q0) (n0 := ρ 6) (n1 := ρ 5) (n2 := ρ 4) (n3 := ρ 3) (n4 := ρ 2) (n5 := ρ 1) (n6 := ρ 0) (n7 := ρ 7) (n8 := ρ 9) (n9 := ρ 10) (n10 := ρ 11) (n11 := ρ 13) (n12 := ρ 14) (n13 := ρ 15) (n14 := ρ 22) (H0 := η 0) (H1 := η 1) f23 f22 f21 f20 f19 f18 f17 f16 f15 f14 f13 f12 f11 f10 f9 f8 f7 f6 f5 f4 f3 f2 f1 f0
theorem q_274_57 {q0 : Nat} {n0 n1 n2 n3 n4 n5 n6 n7 n8 n9 n10 n11 n12 n13 n14 : Int} {H0 H1 : gH} (f0 : n0 ≤ 240) (f1 : 0 ≤ n0) (f2 : n1 ≤ 2) (f3 : 0 ≤ n1) (f4 : n2 ≤ 2147483647) (f5 : (-2147483648) ≤ n2) (f6 : n3 ≤ 7) (f7 : 0 ≤ n3) (f8 : n4 = 285) (f9 : n5 ≤ 7) (f10 : 0 ≤ n5) (f11 : n6 = 285) (f12 : (hLe T0 H0 H1 ∧ hFr s_274.2.2.2.2 H0 H1 ∧ hWt T0 H1) ∧ (Ab_274_251 n6 n5 n4 n3 n2 n1 n0 H0 H1 ∧ preb_274 n6 n5 H0) ∧ some q0 = some (mub_274_251 n6 n5 n4 n3 n2 n1 n0 H0 H1)) (f13 : n7 ≤ 240) (f14 : 0 ≤ n7) (f15 : n7 = hV H1 (n4).toNat 93) (f16 : n0 < n7) (f17 : n8 = 240) (f18 : n9 = w32 (n8 * n1)) (f19 : n10 = w32 (n9 + n0)) (f20 : n11 = 240) (f21 : n12 = w32 (n11 * n1)) (f22 : n13 = w32 (n12 + n0)) (f23 : n14 = w32 (n0 + 1)) : n14 ≤ 240 := by
  have g4 := f12.2.1.1
  unfold Ab_274_251 at g4
  have g3 := f12.2.1.2
  unfold preb_274 at g3
  have e0 : n7 = hV H1 285 93 := (by rw [f8] at f15; exact f15 : n7 = hV H1 285 93)
  have e3 : hV H1 298 = hV H0 298 := fRow f12.1.2.1 298 kR_274_298
  have e4 : hV H1 300 = hV H0 300 := fRow f12.1.2.1 300 kR_274_300
  have e5 : hV H1 301 = hV H0 301 := fRow f12.1.2.1 301 kR_274_301
  have e6 : hV H1 302 = hV H0 302 := fRow f12.1.2.1 302 kR_274_302
  have e7 : hV H1 303 = hV H0 303 := fRow f12.1.2.1 303 kR_274_303
  have e8 : hV H1 305 = hV H0 305 := fRow f12.1.2.1 305 kR_274_305
  have e9 : (0 : Int) ≤ hV H0 285 18 ∧ hV H0 285 18 ≤ 8 := bTo ((f12.1.2.1.1 285 18 kF_274_285_18)) (f12.1.2.2 285 18 _ _ kW_285_18)
  have e10 : (0 : Int) ≤ hV H1 285 82 ∧ hV H1 285 82 ≤ 40 := f12.1.2.2 285 82 _ _ kW_285_82
  try simp only [XQ] at *
  try simp only [e3, e4, e5, e6, e7, e8] at g4
  have k0 := g4.1
  have y0 := g4.2
  have p0 := g3.1
  have p1 := g3.2.1
  have p2 := g3.2.2
  clear g3
  clear g4
  clear f15 e3 e4 e5 e6 e7 e8
  subst e0
  rw [f17] at f18
  rw [f20] at f21
  first
  | (have ix0 : n14 = n0 + 1 := Eq.trans f23 (w32_iv (Iad (Iat f1 f0) (IC 1)) (by decide)); subst ix0; clear f23)
  | (have ix0 : n14 = n0 + 1 := Eq.trans f23 (w32_id (by omega) (by omega)); subst ix0; clear f23)
  | (unfold w32 at f23; have ix0 : n14 = n0 + 1 := (by omega); subst ix0)
  | skip
  try unfold w32 at f18
  try unfold w32 at f19
  try unfold w32 at f21
  try unfold w32 at f22
  try unfold w32 at f23
  try subst k0
  omega
theorem c_274_251_7 {q0 : Nat} : vOkm T0 (eP e_274 L_274 A_274 mu_274 (some q0)) 2 ([(10, [22, 6], [], 1), (1, [15, 14, 6], [], 0), (3, [14, 13, 5], [], 0), (0, [13], [], 240), (1, [11, 10, 6], [], 0), (3, [10, 9, 5], [], 0), (0, [9], [], 240), (42, [6, 7], [], 0), (20, [7, 2], [1], 93), (90, [7], [], 0), (91, [7], [], 240), (5000, [0, 1, 2, 3, 4, 5, 6], [0, 1], 251), (0, [0], [], 285), (90, [1], [], 0), (91, [1], [], 7), (0, [2], [], 285), (90, [3], [], 0), (91, [3], [], 7), (90, [4], [], -2147483648), (91, [4], [], 2147483647), (90, [5], [], 0), (91, [5], [], 2), (90, [6], [], 0), (91, [6], [], 240)], (91, [22], [], 240)) := vOk_inI fun ρ η f0 f1 f2 f3 f4 f5 f6 f7 f8 f9 f10 f11 f12 f13 f14 f15 f16 f17 f18 f19 f20 f21 f22 f23 => q_274_57 (q0 := q0) (n0 := ρ 6) (n1 := ρ 5) (n2 := ρ 4) (n3 := ρ 3) (n4 := ρ 2) (n5 := ρ 1) (n6 := ρ 0) (n7 := ρ 7) (n8 := ρ 9) (n9 := ρ 10) (n10 := ρ 11) (n11 := ρ 13) (n12 := ρ 14) (n13 := ρ 15) (n14 := ρ 22) (H0 := η 0) (H1 := η 1) f23 f22 f21 f20 f19 f18 f17 f16 f15 f14 f13 f12 f11 f10 f9 f8 f7 f6 f5 f4 f3 f2 f1 f0
theorem kR_275_301 : vFreeR s_275.2.2.2.2 301 = true := by decide +kernel
theorem kR_275_302 : vFreeR s_275.2.2.2.2 302 = true := by decide +kernel
theorem kR_275_303 : vFreeR s_275.2.2.2.2 303 = true := by decide +kernel
theorem q_274_58 {q0 : Nat} {n0 n1 n2 n3 n4 n5 n6 n7 n8 n9 n10 n11 n12 n13 n14 n15 n16 n17 n18 n19 n20 n21 n22 : Int} {H0 H1 H2 H3 : gH} (f0 : n0 ≤ 240) (f1 : 0 ≤ n0) (f2 : n1 ≤ 2) (f3 : 0 ≤ n1) (f4 : n2 ≤ 2147483647) (f5 : (-2147483648) ≤ n2) (f6 : n3 ≤ 7) (f7 : 0 ≤ n3) (f8 : n4 = 285) (f9 : n5 ≤ 7) (f10 : 0 ≤ n5) (f11 : n6 = 285) (f12 : (hLe T0 H0 H1 ∧ hFr s_274.2.2.2.2 H0 H1 ∧ hWt T0 H1) ∧ (Ab_274_251 n6 n5 n4 n3 n2 n1 n0 H0 H1 ∧ preb_274 n6 n5 H0) ∧ some q0 = some (mub_274_251 n6 n5 n4 n3 n2 n1 n0 H0 H1)) (f13 : n7 ≤ 240) (f14 : 0 ≤ n7) (f15 : n7 = hV H1 (n4).toNat 93) (f16 : n0 < n7) (f17 : n8 = 349) (f18 : n8 = hV H1 (n4).toNat 89) (f19 : n9 = 240) (f20 : n10 = w32 (n9 * n1)) (f21 : n11 = w32 (n10 + n0)) (f22 : n12 = 349) (f23 : n12 = hV H1 (n4).toNat 89) (f24 : n13 = 240) (f25 : n14 = w32 (n13 * n1)) (f26 : n15 = w32 (n14 + n0)) (f27 : n16 = hV H1 (n12).toNat (n15).toNat) (f28 : n17 ≤ 2147483647) (f29 : (-2147483648) ≤ n17) (f30 : (hLe T0 H1 H2 ∧ hFr s_275.2.2.2.2 H1 H2 ∧ ((0 : Int) = 0 → H2.length = H1.length) ∧ hWt T0 H2) ∧ True) (f31 : n18 = n17) (f32 : n19 = o64 (fun x y => x * y) n16 n18) (f33 : n20 = 100) (f34 : n21 = o64 (fun x y => x / y) n19 n20) (f35 : hUpd H3 H2 n8 n11 n21) (f36 : n22 = w32 (n0 + 1)) : Ab_274_251 n6 n5 n4 n3 n2 n1 n22 H0 H3 ∧ ∀ q, some q0 = some q → mub_274_251 n6 n5 n4 n3 n2 n1 n22 H0 H3 < q := by
  have g4 := f12.2.1.1
  unfold Ab_274_251 at g4
  have g3 := f12.2.1.2
  unfold preb_274 at g3
  have g5 := Option.some.inj f12.2.2
  unfold mub_274_251 at g5
  unfold Ab_274_251
  unfold mub_274_251
  have e0 : n7 = hV H1 285 93 := (by rw [f8] at f15; exact f15 : n7 = hV H1 285 93)
  have e1 : n16 = hV H1 349 (n15).toNat := (by rw [f22] at f27; exact f27 : n16 = hV H1 349 (n15).toNat)
  have e4 : hV H1 298 = hV H0 298 := fRow f12.1.2.1 298 kR_274_298
  have e5 : hV H1 300 = hV H0 300 := fRow f12.1.2.1 300 kR_274_300
  have e6 : hV H1 301 = hV H0 301 := fRow f12.1.2.1 301 kR_274_301
  have e7 : hV H1 302 = hV H0 302 := fRow f12.1.2.1 302 kR_274_302
  have e8 : hV H1 303 = hV H0 303 := fRow f12.1.2.1 303 kR_274_303
  have e9 : hV H1 305 = hV H0 305 := fRow f12.1.2.1 305 kR_274_305
  have e12 : hV H3 285 82 = hV H1 285 82 := ((uPlace f35 285 82 (iS (show n8 = ((349 : Nat) : Int) from f17) rfl))).trans (f30.1.2.1.1 285 82 kF_275_285_82)
  have e16 : hV H3 298 = hV H0 298 := (uRowNe f35 298 (iS (show n8 = ((349 : Nat) : Int) from f17) rfl)).trans ((fRow f30.1.2.1 298 kR_275_298).trans e4)
  have e20 : hV H3 300 = hV H0 300 := (uRowNe f35 300 (iS (show n8 = ((349 : Nat) : Int) from f17) rfl)).trans ((fRow f30.1.2.1 300 kR_275_300).trans e5)
  have e24 : hV H3 301 = hV H0 301 := (uRowNe f35 301 (iS (show n8 = ((349 : Nat) : Int) from f17) rfl)).trans ((fRow f30.1.2.1 301 kR_275_301).trans e6)
  have e28 : hV H3 302 = hV H0 302 := (uRowNe f35 302 (iS (show n8 = ((349 : Nat) : Int) from f17) rfl)).trans ((fRow f30.1.2.1 302 kR_275_302).trans e7)
  have e32 : hV H3 303 = hV H0 303 := (uRowNe f35 303 (iS (show n8 = ((349 : Nat) : Int) from f17) rfl)).trans ((fRow f30.1.2.1 303 kR_275_303).trans e8)
  have e36 : hV H3 305 = hV H0 305 := (uRowNe f35 305 (iS (show n8 = ((349 : Nat) : Int) from f17) rfl)).trans ((fRow f30.1.2.1 305 kR_275_305).trans e9)
  have e39 : hV H3 344 = hV H1 344 := (uRowNe f35 344 (iS (show n8 = ((349 : Nat) : Int) from f17) rfl)).trans (fRow f30.1.2.1 344 kR_275_344)
  have e40 : (0 : Int) ≤ hV H0 285 18 ∧ hV H0 285 18 ≤ 8 := bTo ((f12.1.2.1.1 285 18 kF_274_285_18)) (f12.1.2.2 285 18 _ _ kW_285_18)
  have e41 : (0 : Int) ≤ hV H1 285 82 ∧ hV H1 285 82 ≤ 40 := f12.1.2.2 285 82 _ _ kW_285_82
  try simp only [XQ] at *
  try simp only [e4, e5, e6, e7, e8, e9] at g4
  try simp only [e12, e16, e20, e24, e28, e32, e36, e39]
  have k0 := g4.1
  have y0 := g4.2
  have p0 := g3.1
  have p1 := g3.2.1
  have p2 := g3.2.2
  clear g3
  clear g4
  clear f15 f18 f23 f27 e4 e5 e6 e7 e8 e9 e12 e16 e20 e24 e28 e32 e36 e39
  subst e0
  subst e1
  rw [f19] at f20
  rw [f24] at f25
  first
  | (have ix0 : n10 = 240 * n1 := Eq.trans f20 (w32_iv (Iml 240 rfl (Iat f3 f2)) (by decide)); subst ix0; clear f20)
  | (have ix0 : n10 = 240 * n1 := Eq.trans f20 (w32_id (by omega) (by omega)); subst ix0; clear f20)
  | (unfold w32 at f20; have ix0 : n10 = 240 * n1 := (by omega); subst ix0)
  | skip
  first
  | (have ix1 : n11 = (240 * n1) + n0 := Eq.trans f21 (w32_iv (Iad (Iml 240 rfl (Iat f3 f2)) (Iat f1 f0)) (by decide)); subst ix1; clear f21)
  | (have ix1 : n11 = (240 * n1) + n0 := Eq.trans f21 (w32_id (by omega) (by omega)); subst ix1; clear f21)
  | (unfold w32 at f21; have ix1 : n11 = (240 * n1) + n0 := (by omega); subst ix1)
  | skip
  first
  | (have ix2 : n14 = 240 * n1 := Eq.trans f25 (w32_iv (Iml 240 rfl (Iat f3 f2)) (by decide)); subst ix2; clear f25)
  | (have ix2 : n14 = 240 * n1 := Eq.trans f25 (w32_id (by omega) (by omega)); subst ix2; clear f25)
  | (unfold w32 at f25; have ix2 : n14 = 240 * n1 := (by omega); subst ix2)
  | skip
  first
  | (have ix3 : n15 = (240 * n1) + n0 := Eq.trans f26 (w32_iv (Iad (Iml 240 rfl (Iat f3 f2)) (Iat f1 f0)) (by decide)); subst ix3; clear f26)
  | (have ix3 : n15 = (240 * n1) + n0 := Eq.trans f26 (w32_id (by omega) (by omega)); subst ix3; clear f26)
  | (unfold w32 at f26; have ix3 : n15 = (240 * n1) + n0 := (by omega); subst ix3)
  | skip
  first
  | (have ix4 : n22 = n0 + 1 := Eq.trans f36 (w32_iv (Iad (Iat f1 f0) (IC 1)) (by decide)); subst ix4; clear f36)
  | (have ix4 : n22 = n0 + 1 := Eq.trans f36 (w32_id (by omega) (by omega)); subst ix4; clear f36)
  | (unfold w32 at f36; have ix4 : n22 = n0 + 1 := (by omega); subst ix4)
  | skip
  try unfold w32 at f20
  try unfold w32 at f21
  try unfold w32 at f25
  try unfold w32 at f26
  try unfold w32 at f36
  try subst k0
  refine ⟨?_, fun q hq => ?_⟩
  · refine ⟨?_, ?_⟩ <;> first | assumption | omega | trivial
  · have g6 := Option.some.inj hq
    subst g6
    omega
theorem c_274_251_8 {q0 : Nat} : vOkm T0 (eP e_274 L_274 A_274 mu_274 (some q0)) 2 ([(10, [22, 6], [], 1), (80, [8, 11, 21], [3, 2], 1), (64, [21, 19, 20], [], 0), (0, [20], [], 100), (63, [19, 16, 18], [], 0), (17, [18, 17], [], 0), (1275, [17, 2, 5, 6], [1, 2], 0), (90, [17], [], -2147483648), (91, [17], [], 2147483647), (22, [16, 12, 15], [1], 0), (1, [15, 14, 6], [], 0), (3, [14, 13, 5], [], 0), (0, [13], [], 240), (20, [12, 2], [1], 89), (0, [12], [], 349), (1, [11, 10, 6], [], 0), (3, [10, 9, 5], [], 0), (0, [9], [], 240), (20, [8, 2], [1], 89), (0, [8], [], 349), (42, [6, 7], [], 0), (20, [7, 2], [1], 93), (90, [7], [], 0), (91, [7], [], 240), (5000, [0, 1, 2, 3, 4, 5, 6], [0, 1], 251), (0, [0], [], 285), (90, [1], [], 0), (91, [1], [], 7), (0, [2], [], 285), (90, [3], [], 0), (91, [3], [], 7), (90, [4], [], -2147483648), (91, [4], [], 2147483647), (90, [5], [], 0), (91, [5], [], 2), (90, [6], [], 0), (91, [6], [], 240)], (4000, [2, 3, 4, 5, 22], [3], 251)) := vOk_inI fun ρ η f0 f1 f2 f3 f4 f5 f6 f7 f8 f9 f10 f11 f12 f13 f14 f15 f16 f17 f18 f19 f20 f21 f22 f23 f24 f25 f26 f27 f28 f29 f30 f31 f32 f33 f34 f35 f36 => q_274_58 (q0 := q0) (n0 := ρ 6) (n1 := ρ 5) (n2 := ρ 4) (n3 := ρ 3) (n4 := ρ 2) (n5 := ρ 1) (n6 := ρ 0) (n7 := ρ 7) (n8 := ρ 8) (n9 := ρ 9) (n10 := ρ 10) (n11 := ρ 11) (n12 := ρ 12) (n13 := ρ 13) (n14 := ρ 14) (n15 := ρ 15) (n16 := ρ 16) (n17 := ρ 17) (n18 := ρ 18) (n19 := ρ 19) (n20 := ρ 20) (n21 := ρ 21) (n22 := ρ 22) (H0 := η 0) (H1 := η 1) (H2 := η 2) (H3 := η 3) f36 f35 f34 f33 f32 f31 f30 f29 f28 f27 f26 f25 f24 f23 f22 f21 f20 f19 f18 f17 f16 f15 f14 f13 f12 f11 f10 f9 f8 f7 f6 f5 f4 f3 f2 f1 f0
def p_274_251 : List vG := [([(10, [8, 5], [], 1), (43, [6, 7], [], 0), (20, [7, 2], [1], 93), (90, [7], [], 0), (91, [7], [], 240), (5000, [0, 1, 2, 3, 4, 5, 6], [0, 1], 251), (0, [0], [], 285), (90, [1], [], 0), (91, [1], [], 7), (0, [2], [], 285), (90, [3], [], 0), (91, [3], [], 7), (90, [4], [], -2147483648), (91, [4], [], 2147483647), (90, [5], [], 0), (91, [5], [], 2), (90, [6], [], 0), (91, [6], [], 240)], (90, [8], [], 0)),
  ([(10, [8, 5], [], 1), (43, [6, 7], [], 0), (20, [7, 2], [1], 93), (90, [7], [], 0), (91, [7], [], 240), (5000, [0, 1, 2, 3, 4, 5, 6], [0, 1], 251), (0, [0], [], 285), (90, [1], [], 0), (91, [1], [], 7), (0, [2], [], 285), (90, [3], [], 0), (91, [3], [], 7), (90, [4], [], -2147483648), (91, [4], [], 2147483647), (90, [5], [], 0), (91, [5], [], 2), (90, [6], [], 0), (91, [6], [], 240)], (91, [8], [], 3)),
  ([(10, [8, 5], [], 1), (43, [6, 7], [], 0), (20, [7, 2], [1], 93), (90, [7], [], 0), (91, [7], [], 240), (5000, [0, 1, 2, 3, 4, 5, 6], [0, 1], 251), (0, [0], [], 285), (90, [1], [], 0), (91, [1], [], 7), (0, [2], [], 285), (90, [3], [], 0), (91, [3], [], 7), (90, [4], [], -2147483648), (91, [4], [], 2147483647), (90, [5], [], 0), (91, [5], [], 2), (90, [6], [], 0), (91, [6], [], 240)], (4000, [2, 3, 4, 8], [1], 243)),
  ([(1, [15, 14, 6], [], 0), (3, [14, 13, 5], [], 0), (0, [13], [], 240), (1, [11, 10, 6], [], 0), (3, [10, 9, 5], [], 0), (0, [9], [], 240), (42, [6, 7], [], 0), (20, [7, 2], [1], 93), (90, [7], [], 0), (91, [7], [], 240), (5000, [0, 1, 2, 3, 4, 5, 6], [0, 1], 251), (0, [0], [], 285), (90, [1], [], 0), (91, [1], [], 7), (0, [2], [], 285), (90, [3], [], 0), (91, [3], [], 7), (90, [4], [], -2147483648), (91, [4], [], 2147483647), (90, [5], [], 0), (91, [5], [], 2), (90, [6], [], 0), (91, [6], [], 240)], (70, [15], [], 720)),
  ([(1, [15, 14, 6], [], 0), (3, [14, 13, 5], [], 0), (0, [13], [], 240), (1, [11, 10, 6], [], 0), (3, [10, 9, 5], [], 0), (0, [9], [], 240), (42, [6, 7], [], 0), (20, [7, 2], [1], 93), (90, [7], [], 0), (91, [7], [], 240), (5000, [0, 1, 2, 3, 4, 5, 6], [0, 1], 251), (0, [0], [], 285), (90, [1], [], 0), (91, [1], [], 7), (0, [2], [], 285), (90, [3], [], 0), (91, [3], [], 7), (90, [4], [], -2147483648), (91, [4], [], 2147483647), (90, [5], [], 0), (91, [5], [], 2), (90, [6], [], 0), (91, [6], [], 240)], (2275, [2, 5, 6], [1], 0)),
  ([(1, [15, 14, 6], [], 0), (3, [14, 13, 5], [], 0), (0, [13], [], 240), (1, [11, 10, 6], [], 0), (3, [10, 9, 5], [], 0), (0, [9], [], 240), (42, [6, 7], [], 0), (20, [7, 2], [1], 93), (90, [7], [], 0), (91, [7], [], 240), (5000, [0, 1, 2, 3, 4, 5, 6], [0, 1], 251), (0, [0], [], 285), (90, [1], [], 0), (91, [1], [], 7), (0, [2], [], 285), (90, [3], [], 0), (91, [3], [], 7), (90, [4], [], -2147483648), (91, [4], [], 2147483647), (90, [5], [], 0), (91, [5], [], 2), (90, [6], [], 0), (91, [6], [], 240)], (70, [11], [], 720)),
  ([(10, [22, 6], [], 1), (1, [15, 14, 6], [], 0), (3, [14, 13, 5], [], 0), (0, [13], [], 240), (1, [11, 10, 6], [], 0), (3, [10, 9, 5], [], 0), (0, [9], [], 240), (42, [6, 7], [], 0), (20, [7, 2], [1], 93), (90, [7], [], 0), (91, [7], [], 240), (5000, [0, 1, 2, 3, 4, 5, 6], [0, 1], 251), (0, [0], [], 285), (90, [1], [], 0), (91, [1], [], 7), (0, [2], [], 285), (90, [3], [], 0), (91, [3], [], 7), (90, [4], [], -2147483648), (91, [4], [], 2147483647), (90, [5], [], 0), (91, [5], [], 2), (90, [6], [], 0), (91, [6], [], 240)], (90, [22], [], 0)),
  ([(10, [22, 6], [], 1), (1, [15, 14, 6], [], 0), (3, [14, 13, 5], [], 0), (0, [13], [], 240), (1, [11, 10, 6], [], 0), (3, [10, 9, 5], [], 0), (0, [9], [], 240), (42, [6, 7], [], 0), (20, [7, 2], [1], 93), (90, [7], [], 0), (91, [7], [], 240), (5000, [0, 1, 2, 3, 4, 5, 6], [0, 1], 251), (0, [0], [], 285), (90, [1], [], 0), (91, [1], [], 7), (0, [2], [], 285), (90, [3], [], 0), (91, [3], [], 7), (90, [4], [], -2147483648), (91, [4], [], 2147483647), (90, [5], [], 0), (91, [5], [], 2), (90, [6], [], 0), (91, [6], [], 240)], (91, [22], [], 240)),
  ([(10, [22, 6], [], 1), (80, [8, 11, 21], [3, 2], 1), (64, [21, 19, 20], [], 0), (0, [20], [], 100), (63, [19, 16, 18], [], 0), (17, [18, 17], [], 0), (1275, [17, 2, 5, 6], [1, 2], 0), (90, [17], [], -2147483648), (91, [17], [], 2147483647), (22, [16, 12, 15], [1], 0), (1, [15, 14, 6], [], 0), (3, [14, 13, 5], [], 0), (0, [13], [], 240), (20, [12, 2], [1], 89), (0, [12], [], 349), (1, [11, 10, 6], [], 0), (3, [10, 9, 5], [], 0), (0, [9], [], 240), (20, [8, 2], [1], 89), (0, [8], [], 349), (42, [6, 7], [], 0), (20, [7, 2], [1], 93), (90, [7], [], 0), (91, [7], [], 240), (5000, [0, 1, 2, 3, 4, 5, 6], [0, 1], 251), (0, [0], [], 285), (90, [1], [], 0), (91, [1], [], 7), (0, [2], [], 285), (90, [3], [], 0), (91, [3], [], 7), (90, [4], [], -2147483648), (91, [4], [], 2147483647), (90, [5], [], 0), (91, [5], [], 2), (90, [6], [], 0), (91, [6], [], 240)], (4000, [2, 3, 4, 5, 22], [3], 251))]
theorem r_274_251 : vCovO false (eRc e_274 L_274 cs_274 2000 (251, [(0, (3, 12, 285, 0)), (1, (0, 0, 7, 0)), (2, (0, -2147483648, 2147483647, 0)), (3, (0, 0, 2, 0)), (4, (0, 0, 240, 0))])) p_274_251 = true := by decide +kernel
theorem q_274_59 {q0 : Nat} {n0 n1 n2 n3 n4 n5 n6 n7 : Int} {H0 H1 : gH} (f0 : n0 ≤ 40) (f1 : 0 ≤ n0) (f2 : n1 ≤ 2147483647) (f3 : (-2147483648) ≤ n1) (f4 : n2 ≤ 7) (f5 : 0 ≤ n2) (f6 : n3 = 285) (f7 : n4 ≤ 7) (f8 : 0 ≤ n4) (f9 : n5 = 285) (f10 : (hLe T0 H0 H1 ∧ hFr s_274.2.2.2.2 H0 H1 ∧ hWt T0 H1) ∧ (Ab_274_313 n5 n4 n3 n2 n1 n0 H0 H1 ∧ preb_274 n5 n4 H0) ∧ some q0 = some (mub_274_313 n5 n4 n3 n2 n1 n0 H0 H1)) (f11 : n6 ≤ 40) (f12 : 0 ≤ n6) (f13 : n6 = hV H1 (n3).toNat 82) (f14 : n6 ≤ n0) (f15 : n7 = 0) : Ab_274_354 n5 n4 n3 n2 n1 n7 H0 H1 ∧ ∀ q, some q0 = some q → mub_274_354 n5 n4 n3 n2 n1 n7 H0 H1 < q := by
  have g4 := f10.2.1.1
  unfold Ab_274_313 at g4
  have g3 := f10.2.1.2
  unfold preb_274 at g3
  have g5 := Option.some.inj f10.2.2
  unfold mub_274_313 at g5
  unfold Ab_274_354
  unfold mub_274_354
  have e0 : n6 = hV H1 285 82 := (by rw [f6] at f13; exact f13 : n6 = hV H1 285 82)
  have e3 : hV H1 298 = hV H0 298 := fRow f10.1.2.1 298 kR_274_298
  have e4 : hV H1 300 = hV H0 300 := fRow f10.1.2.1 300 kR_274_300
  have e5 : hV H1 301 = hV H0 301 := fRow f10.1.2.1 301 kR_274_301
  have e6 : hV H1 302 = hV H0 302 := fRow f10.1.2.1 302 kR_274_302
  have e7 : hV H1 303 = hV H0 303 := fRow f10.1.2.1 303 kR_274_303
  have e8 : hV H1 305 = hV H0 305 := fRow f10.1.2.1 305 kR_274_305
  have e9 : (0 : Int) ≤ hV H0 285 18 ∧ hV H0 285 18 ≤ 8 := bTo ((f10.1.2.1.1 285 18 kF_274_285_18)) (f10.1.2.2 285 18 _ _ kW_285_18)
  have e10 : (0 : Int) ≤ hV H1 285 82 ∧ hV H1 285 82 ≤ 40 := f10.1.2.2 285 82 _ _ kW_285_82
  try simp only [XQ] at *
  try simp only [e3, e4, e5, e6, e7, e8] at g4
  try simp only [e3, e4, e5, e6, e7, e8]
  have k0 := g4.1
  have y0 := g4.2
  have p0 := g3.1
  have p1 := g3.2.1
  have p2 := g3.2.2
  clear g3
  clear g4
  clear f13 e3 e4 e5 e6 e7 e8
  subst e0
  try have xd := XQp_2 y0 (s := (n0).toNat) (by omega) (by omega) (by omega)
  try subst k0
  refine ⟨?_, fun q hq => ?_⟩
  · refine ⟨?_, ?_⟩ <;> first | assumption | omega | trivial
  · have g6 := Option.some.inj hq
    subst g6
    omega
theorem c_274_313_0 {q0 : Nat} : vOkm T0 (eP e_274 L_274 A_274 mu_274 (some q0)) 2 ([(0, [7], [], 0), (43, [5, 6], [], 0), (20, [6, 2], [1], 82), (90, [6], [], 0), (91, [6], [], 40), (5000, [0, 1, 2, 3, 4, 5], [0, 1], 313), (0, [0], [], 285), (90, [1], [], 0), (91, [1], [], 7), (0, [2], [], 285), (90, [3], [], 0), (91, [3], [], 7), (90, [4], [], -2147483648), (91, [4], [], 2147483647), (90, [5], [], 0), (91, [5], [], 40)], (4000, [2, 3, 4, 7], [1], 354)) := vOk_inI fun ρ η f0 f1 f2 f3 f4 f5 f6 f7 f8 f9 f10 f11 f12 f13 f14 f15 => q_274_59 (q0 := q0) (n0 := ρ 5) (n1 := ρ 4) (n2 := ρ 3) (n3 := ρ 2) (n4 := ρ 1) (n5 := ρ 0) (n6 := ρ 6) (n7 := ρ 7) (H0 := η 0) (H1 := η 1) f15 f14 f13 f12 f11 f10 f9 f8 f7 f6 f5 f4 f3 f2 f1 f0
theorem q_274_60 {q0 : Nat} {n0 n1 n2 n3 n4 n5 n6 : Int} {H0 H1 : gH} (f0 : n0 ≤ 40) (f1 : 0 ≤ n0) (f2 : n1 ≤ 2147483647) (f3 : (-2147483648) ≤ n1) (f4 : n2 ≤ 7) (f5 : 0 ≤ n2) (f6 : n3 = 285) (f7 : n4 ≤ 7) (f8 : 0 ≤ n4) (f9 : n5 = 285) (f10 : (hLe T0 H0 H1 ∧ hFr s_274.2.2.2.2 H0 H1 ∧ hWt T0 H1) ∧ (Ab_274_313 n5 n4 n3 n2 n1 n0 H0 H1 ∧ preb_274 n5 n4 H0) ∧ some q0 = some (mub_274_313 n5 n4 n3 n2 n1 n0 H0 H1)) (f11 : n6 ≤ 40) (f12 : 0 ≤ n6) (f13 : n6 = hV H1 (n3).toNat 82) (f14 : n0 < n6) : 0 ≤ n0 ∧ n0 < 40 := by
  have g4 := f10.2.1.1
  unfold Ab_274_313 at g4
  have g3 := f10.2.1.2
  unfold preb_274 at g3
  have e0 : n6 = hV H1 285 82 := (by rw [f6] at f13; exact f13 : n6 = hV H1 285 82)
  have e3 : hV H1 298 = hV H0 298 := fRow f10.1.2.1 298 kR_274_298
  have e4 : hV H1 300 = hV H0 300 := fRow f10.1.2.1 300 kR_274_300
  have e5 : hV H1 301 = hV H0 301 := fRow f10.1.2.1 301 kR_274_301
  have e6 : hV H1 302 = hV H0 302 := fRow f10.1.2.1 302 kR_274_302
  have e7 : hV H1 303 = hV H0 303 := fRow f10.1.2.1 303 kR_274_303
  have e8 : hV H1 305 = hV H0 305 := fRow f10.1.2.1 305 kR_274_305
  have e9 : (0 : Int) ≤ hV H0 285 18 ∧ hV H0 285 18 ≤ 8 := bTo ((f10.1.2.1.1 285 18 kF_274_285_18)) (f10.1.2.2 285 18 _ _ kW_285_18)
  have e10 : (0 : Int) ≤ hV H1 285 82 ∧ hV H1 285 82 ≤ 40 := f10.1.2.2 285 82 _ _ kW_285_82
  try simp only [XQ] at *
  try simp only [e3, e4, e5, e6, e7, e8] at g4
  have k0 := g4.1
  have y0 := g4.2
  have p0 := g3.1
  have p1 := g3.2.1
  have p2 := g3.2.2
  clear g3
  clear g4
  clear f13 e3 e4 e5 e6 e7 e8
  subst e0
  try have xd := XQp_2 y0 (s := (n0).toNat) (by omega) (by omega) (by omega)
  try subst k0
  omega
theorem c_274_313_1 {q0 : Nat} : vOkm T0 (eP e_274 L_274 A_274 mu_274 (some q0)) 2 ([(42, [5, 6], [], 0), (20, [6, 2], [1], 82), (90, [6], [], 0), (91, [6], [], 40), (5000, [0, 1, 2, 3, 4, 5], [0, 1], 313), (0, [0], [], 285), (90, [1], [], 0), (91, [1], [], 7), (0, [2], [], 285), (90, [3], [], 0), (91, [3], [], 7), (90, [4], [], -2147483648), (91, [4], [], 2147483647), (90, [5], [], 0), (91, [5], [], 40)], (70, [5], [], 40)) := vOk_inI fun ρ η f0 f1 f2 f3 f4 f5 f6 f7 f8 f9 f10 f11 f12 f13 f14 => q_274_60 (q0 := q0) (n0 := ρ 5) (n1 := ρ 4) (n2 := ρ 3) (n3 := ρ 2) (n4 := ρ 1) (n5 := ρ 0) (n6 := ρ 6) (H0 := η 0) (H1 := η 1) f14 f13 f12 f11 f10 f9 f8 f7 f6 f5 f4 f3 f2 f1 f0
theorem q_274_61 {q0 : Nat} {n0 n1 n2 n3 n4 n5 n6 n7 n8 n9 n10 n11 n12 : Int} {H0 H1 : gH} (f0 : n0 ≤ 40) (f1 : 0 ≤ n0) (f2 : n1 ≤ 2147483647) (f3 : (-2147483648) ≤ n1) (f4 : n2 ≤ 7) (f5 : 0 ≤ n2) (f6 : n3 = 285) (f7 : n4 ≤ 7) (f8 : 0 ≤ n4) (f9 : n5 = 285) (f10 : (hLe T0 H0 H1 ∧ hFr s_274.2.2.2.2 H0 H1 ∧ hWt T0 H1) ∧ (Ab_274_313 n5 n4 n3 n2 n1 n0 H0 H1 ∧ preb_274 n5 n4 H0) ∧ some q0 = some (mub_274_313 n5 n4 n3 n2 n1 n0 H0 H1)) (f11 : n6 ≤ 40) (f12 : 0 ≤ n6) (f13 : n6 = hV H1 (n3).toNat 82) (f14 : n0 < n6) (f15 : n7 = 298) (f16 : n7 = hV H1 (n3).toNat 24) (f17 : n8 = 344) (f18 : n8 = hV H1 (n3).toNat 83) (f19 : n9 ≤ 1007) (f20 : 0 ≤ n9) (f21 : n9 = hV H1 (n8).toNat (n0).toNat) (f22 : n10 ≤ 5) (f23 : 0 ≤ n10) (f24 : n10 = hV H1 (n7).toNat (n9).toNat) (f25 : n11 = 2) (f26 : n10 ≠ n11) (f27 : n12 = w32 (n0 + 1)) : 0 ≤ n12 := by
  have g4 := f10.2.1.1
  unfold Ab_274_313 at g4
  have g3 := f10.2.1.2
  unfold preb_274 at g3
  have e0 : n6 = hV H1 285 82 := (by rw [f6] at f13; exact f13 : n6 = hV H1 285 82)
  have e1 : n9 = hV H1 344 (n0).toNat := (by rw [f17] at f21; exact f21 : n9 = hV H1 344 (n0).toNat)
  have e2 : hV H1 298 = hV H0 298 := fRow f10.1.2.1 298 kR_274_298
  have e3 : n10 = hV H0 298 (n9).toNat := (by rw [f15] at f24; exact f24 : n10 = hV H1 298 (n9).toNat).trans ((congrFun e2 _))
  have e6 : hV H1 300 = hV H0 300 := fRow f10.1.2.1 300 kR_274_300
  have e7 : hV H1 301 = hV H0 301 := fRow f10.1.2.1 301 kR_274_301
  have e8 : hV H1 302 = hV H0 302 := fRow f10.1.2.1 302 kR_274_302
  have e9 : hV H1 303 = hV H0 303 := fRow f10.1.2.1 303 kR_274_303
  have e10 : hV H1 305 = hV H0 305 := fRow f10.1.2.1 305 kR_274_305
  have e11 : (0 : Int) ≤ hV H0 285 18 ∧ hV H0 285 18 ≤ 8 := bTo ((f10.1.2.1.1 285 18 kF_274_285_18)) (f10.1.2.2 285 18 _ _ kW_285_18)
  have e12 : (0 : Int) ≤ hV H1 285 82 ∧ hV H1 285 82 ≤ 40 := f10.1.2.2 285 82 _ _ kW_285_82
  try simp only [XQ] at *
  try simp only [e2, e6, e7, e8, e9, e10] at g4
  have k0 := g4.1
  have y0 := g4.2
  have p0 := g3.1
  have p1 := g3.2.1
  have p2 := g3.2.2
  clear g3
  clear g4
  clear f13 f16 f18 f21 f24 e2 e6 e7 e8 e9 e10
  subst e0
  subst e1
  subst e3
  try have xd := XQp_2 y0 (s := (n0).toNat) (by omega) (by omega) (by omega)
  first
  | (have ix0 : n12 = n0 + 1 := Eq.trans f27 (w32_iv (Iad (Iat f1 f0) (IC 1)) (by decide)); subst ix0; clear f27)
  | (have ix0 : n12 = n0 + 1 := Eq.trans f27 (w32_id (by omega) (by omega)); subst ix0; clear f27)
  | (unfold w32 at f27; have ix0 : n12 = n0 + 1 := (by omega); subst ix0)
  | skip
  try unfold w32 at f27
  try subst k0
  omega
theorem c_274_313_2 {q0 : Nat} : vOkm T0 (eP e_274 L_274 A_274 mu_274 (some q0)) 2 ([(10, [12, 5], [], 1), (41, [10, 11], [], 0), (0, [11], [], 2), (22, [10, 7, 9], [1], 0), (90, [10], [], 0), (91, [10], [], 5), (22, [9, 8, 5], [1], 0), (90, [9], [], 0), (91, [9], [], 1007), (20, [8, 2], [1], 83), (0, [8], [], 344), (20, [7, 2], [1], 24), (0, [7], [], 298), (42, [5, 6], [], 0), (20, [6, 2], [1], 82), (90, [6], [], 0), (91, [6], [], 40), (5000, [0, 1, 2, 3, 4, 5], [0, 1], 313), (0, [0], [], 285), (90, [1], [], 0), (91, [1], [], 7), (0, [2], [], 285), (90, [3], [], 0), (91, [3], [], 7), (90, [4], [], -2147483648), (91, [4], [], 2147483647), (90, [5], [], 0), (91, [5], [], 40)], (90, [12], [], 0)) := vOk_inI fun ρ η f0 f1 f2 f3 f4 f5 f6 f7 f8 f9 f10 f11 f12 f13 f14 f15 f16 f17 f18 f19 f20 f21 f22 f23 f24 f25 f26 f27 => q_274_61 (q0 := q0) (n0 := ρ 5) (n1 := ρ 4) (n2 := ρ 3) (n3 := ρ 2) (n4 := ρ 1) (n5 := ρ 0) (n6 := ρ 6) (n7 := ρ 7) (n8 := ρ 8) (n9 := ρ 9) (n10 := ρ 10) (n11 := ρ 11) (n12 := ρ 12) (H0 := η 0) (H1 := η 1) f27 f26 f25 f24 f23 f22 f21 f20 f19 f18 f17 f16 f15 f14 f13 f12 f11 f10 f9 f8 f7 f6 f5 f4 f3 f2 f1 f0
theorem q_274_62 {q0 : Nat} {n0 n1 n2 n3 n4 n5 n6 n7 n8 n9 n10 n11 n12 : Int} {H0 H1 : gH} (f0 : n0 ≤ 40) (f1 : 0 ≤ n0) (f2 : n1 ≤ 2147483647) (f3 : (-2147483648) ≤ n1) (f4 : n2 ≤ 7) (f5 : 0 ≤ n2) (f6 : n3 = 285) (f7 : n4 ≤ 7) (f8 : 0 ≤ n4) (f9 : n5 = 285) (f10 : (hLe T0 H0 H1 ∧ hFr s_274.2.2.2.2 H0 H1 ∧ hWt T0 H1) ∧ (Ab_274_313 n5 n4 n3 n2 n1 n0 H0 H1 ∧ preb_274 n5 n4 H0) ∧ some q0 = some (mub_274_313 n5 n4 n3 n2 n1 n0 H0 H1)) (f11 : n6 ≤ 40) (f12 : 0 ≤ n6) (f13 : n6 = hV H1 (n3).toNat 82) (f14 : n0 < n6) (f15 : n7 = 298) (f16 : n7 = hV H1 (n3).toNat 24) (f17 : n8 = 344) (f18 : n8 = hV H1 (n3).toNat 83) (f19 : n9 ≤ 1007) (f20 : 0 ≤ n9) (f21 : n9 = hV H1 (n8).toNat (n0).toNat) (f22 : n10 ≤ 5) (f23 : 0 ≤ n10) (f24 : n10 = hV H1 (n7).toNat (n9).toNat) (f25 : n11 = 2) (f26 : n10 ≠ n11) (f27 : n12 = w32 (n0 + 1)) : n12 ≤ 40 := by
  have g4 := f10.2.1.1
  unfold Ab_274_313 at g4
  have g3 := f10.2.1.2
  unfold preb_274 at g3
  have e0 : n6 = hV H1 285 82 := (by rw [f6] at f13; exact f13 : n6 = hV H1 285 82)
  have e1 : n9 = hV H1 344 (n0).toNat := (by rw [f17] at f21; exact f21 : n9 = hV H1 344 (n0).toNat)
  have e2 : hV H1 298 = hV H0 298 := fRow f10.1.2.1 298 kR_274_298
  have e3 : n10 = hV H0 298 (n9).toNat := (by rw [f15] at f24; exact f24 : n10 = hV H1 298 (n9).toNat).trans ((congrFun e2 _))
  have e6 : hV H1 300 = hV H0 300 := fRow f10.1.2.1 300 kR_274_300
  have e7 : hV H1 301 = hV H0 301 := fRow f10.1.2.1 301 kR_274_301
  have e8 : hV H1 302 = hV H0 302 := fRow f10.1.2.1 302 kR_274_302
  have e9 : hV H1 303 = hV H0 303 := fRow f10.1.2.1 303 kR_274_303
  have e10 : hV H1 305 = hV H0 305 := fRow f10.1.2.1 305 kR_274_305
  have e11 : (0 : Int) ≤ hV H0 285 18 ∧ hV H0 285 18 ≤ 8 := bTo ((f10.1.2.1.1 285 18 kF_274_285_18)) (f10.1.2.2 285 18 _ _ kW_285_18)
  have e12 : (0 : Int) ≤ hV H1 285 82 ∧ hV H1 285 82 ≤ 40 := f10.1.2.2 285 82 _ _ kW_285_82
  try simp only [XQ] at *
  try simp only [e2, e6, e7, e8, e9, e10] at g4
  have k0 := g4.1
  have y0 := g4.2
  have p0 := g3.1
  have p1 := g3.2.1
  have p2 := g3.2.2
  clear g3
  clear g4
  clear f13 f16 f18 f21 f24 e2 e6 e7 e8 e9 e10
  subst e0
  subst e1
  subst e3
  try have xd := XQp_2 y0 (s := (n0).toNat) (by omega) (by omega) (by omega)
  first
  | (have ix0 : n12 = n0 + 1 := Eq.trans f27 (w32_iv (Iad (Iat f1 f0) (IC 1)) (by decide)); subst ix0; clear f27)
  | (have ix0 : n12 = n0 + 1 := Eq.trans f27 (w32_id (by omega) (by omega)); subst ix0; clear f27)
  | (unfold w32 at f27; have ix0 : n12 = n0 + 1 := (by omega); subst ix0)
  | skip
  try unfold w32 at f27
  try subst k0
  omega
theorem c_274_313_3 {q0 : Nat} : vOkm T0 (eP e_274 L_274 A_274 mu_274 (some q0)) 2 ([(10, [12, 5], [], 1), (41, [10, 11], [], 0), (0, [11], [], 2), (22, [10, 7, 9], [1], 0), (90, [10], [], 0), (91, [10], [], 5), (22, [9, 8, 5], [1], 0), (90, [9], [], 0), (91, [9], [], 1007), (20, [8, 2], [1], 83), (0, [8], [], 344), (20, [7, 2], [1], 24), (0, [7], [], 298), (42, [5, 6], [], 0), (20, [6, 2], [1], 82), (90, [6], [], 0), (91, [6], [], 40), (5000, [0, 1, 2, 3, 4, 5], [0, 1], 313), (0, [0], [], 285), (90, [1], [], 0), (91, [1], [], 7), (0, [2], [], 285), (90, [3], [], 0), (91, [3], [], 7), (90, [4], [], -2147483648), (91, [4], [], 2147483647), (90, [5], [], 0), (91, [5], [], 40)], (91, [12], [], 40)) := vOk_inI fun ρ η f0 f1 f2 f3 f4 f5 f6 f7 f8 f9 f10 f11 f12 f13 f14 f15 f16 f17 f18 f19 f20 f21 f22 f23 f24 f25 f26 f27 => q_274_62 (q0 := q0) (n0 := ρ 5) (n1 := ρ 4) (n2 := ρ 3) (n3 := ρ 2) (n4 := ρ 1) (n5 := ρ 0) (n6 := ρ 6) (n7 := ρ 7) (n8 := ρ 8) (n9 := ρ 9) (n10 := ρ 10) (n11 := ρ 11) (n12 := ρ 12) (H0 := η 0) (H1 := η 1) f27 f26 f25 f24 f23 f22 f21 f20 f19 f18 f17 f16 f15 f14 f13 f12 f11 f10 f9 f8 f7 f6 f5 f4 f3 f2 f1 f0
theorem q_274_63 {q0 : Nat} {n0 n1 n2 n3 n4 n5 n6 n7 n8 n9 n10 n11 n12 : Int} {H0 H1 : gH} (f0 : n0 ≤ 40) (f1 : 0 ≤ n0) (f2 : n1 ≤ 2147483647) (f3 : (-2147483648) ≤ n1) (f4 : n2 ≤ 7) (f5 : 0 ≤ n2) (f6 : n3 = 285) (f7 : n4 ≤ 7) (f8 : 0 ≤ n4) (f9 : n5 = 285) (f10 : (hLe T0 H0 H1 ∧ hFr s_274.2.2.2.2 H0 H1 ∧ hWt T0 H1) ∧ (Ab_274_313 n5 n4 n3 n2 n1 n0 H0 H1 ∧ preb_274 n5 n4 H0) ∧ some q0 = some (mub_274_313 n5 n4 n3 n2 n1 n0 H0 H1)) (f11 : n6 ≤ 40) (f12 : 0 ≤ n6) (f13 : n6 = hV H1 (n3).toNat 82) (f14 : n0 < n6) (f15 : n7 = 298) (f16 : n7 = hV H1 (n3).toNat 24) (f17 : n8 = 344) (f18 : n8 = hV H1 (n3).toNat 83) (f19 : n9 ≤ 1007) (f20 : 0 ≤ n9) (f21 : n9 = hV H1 (n8).toNat (n0).toNat) (f22 : n10 ≤ 5) (f23 : 0 ≤ n10) (f24 : n10 = hV H1 (n7).toNat (n9).toNat) (f25 : n11 = 2) (f26 : n10 ≠ n11) (f27 : n12 = w32 (n0 + 1)) : Ab_274_313 n5 n4 n3 n2 n1 n12 H0 H1 ∧ ∀ q, some q0 = some q → mub_274_313 n5 n4 n3 n2 n1 n12 H0 H1 < q := by
  have g4 := f10.2.1.1
  unfold Ab_274_313 at g4
  have g3 := f10.2.1.2
  unfold preb_274 at g3
  have g5 := Option.some.inj f10.2.2
  unfold mub_274_313 at g5
  unfold Ab_274_313
  unfold mub_274_313
  have e0 : n6 = hV H1 285 82 := (by rw [f6] at f13; exact f13 : n6 = hV H1 285 82)
  have e1 : n9 = hV H1 344 (n0).toNat := (by rw [f17] at f21; exact f21 : n9 = hV H1 344 (n0).toNat)
  have e2 : hV H1 298 = hV H0 298 := fRow f10.1.2.1 298 kR_274_298
  have e3 : n10 = hV H0 298 (n9).toNat := (by rw [f15] at f24; exact f24 : n10 = hV H1 298 (n9).toNat).trans ((congrFun e2 _))
  have e6 : hV H1 300 = hV H0 300 := fRow f10.1.2.1 300 kR_274_300
  have e7 : hV H1 301 = hV H0 301 := fRow f10.1.2.1 301 kR_274_301
  have e8 : hV H1 302 = hV H0 302 := fRow f10.1.2.1 302 kR_274_302
  have e9 : hV H1 303 = hV H0 303 := fRow f10.1.2.1 303 kR_274_303
  have e10 : hV H1 305 = hV H0 305 := fRow f10.1.2.1 305 kR_274_305
  have e11 : (0 : Int) ≤ hV H0 285 18 ∧ hV H0 285 18 ≤ 8 := bTo ((f10.1.2.1.1 285 18 kF_274_285_18)) (f10.1.2.2 285 18 _ _ kW_285_18)
  have e12 : (0 : Int) ≤ hV H1 285 82 ∧ hV H1 285 82 ≤ 40 := f10.1.2.2 285 82 _ _ kW_285_82
  try simp only [XQ] at *
  try simp only [e2, e6, e7, e8, e9, e10] at g4
  try simp only [e2, e6, e7, e8, e9, e10]
  have k0 := g4.1
  have y0 := g4.2
  have p0 := g3.1
  have p1 := g3.2.1
  have p2 := g3.2.2
  clear g3
  clear g4
  clear f13 f16 f18 f21 f24 e2 e6 e7 e8 e9 e10
  subst e0
  subst e1
  subst e3
  try have xd := XQp_2 y0 (s := (n0).toNat) (by omega) (by omega) (by omega)
  first
  | (have ix0 : n12 = n0 + 1 := Eq.trans f27 (w32_iv (Iad (Iat f1 f0) (IC 1)) (by decide)); subst ix0; clear f27)
  | (have ix0 : n12 = n0 + 1 := Eq.trans f27 (w32_id (by omega) (by omega)); subst ix0; clear f27)
  | (unfold w32 at f27; have ix0 : n12 = n0 + 1 := (by omega); subst ix0)
  | skip
  try unfold w32 at f27
  try subst k0
  refine ⟨?_, fun q hq => ?_⟩
  · refine ⟨?_, ?_⟩ <;> first | assumption | omega | trivial
  · have g6 := Option.some.inj hq
    subst g6
    omega
theorem c_274_313_4 {q0 : Nat} : vOkm T0 (eP e_274 L_274 A_274 mu_274 (some q0)) 2 ([(10, [12, 5], [], 1), (41, [10, 11], [], 0), (0, [11], [], 2), (22, [10, 7, 9], [1], 0), (90, [10], [], 0), (91, [10], [], 5), (22, [9, 8, 5], [1], 0), (90, [9], [], 0), (91, [9], [], 1007), (20, [8, 2], [1], 83), (0, [8], [], 344), (20, [7, 2], [1], 24), (0, [7], [], 298), (42, [5, 6], [], 0), (20, [6, 2], [1], 82), (90, [6], [], 0), (91, [6], [], 40), (5000, [0, 1, 2, 3, 4, 5], [0, 1], 313), (0, [0], [], 285), (90, [1], [], 0), (91, [1], [], 7), (0, [2], [], 285), (90, [3], [], 0), (91, [3], [], 7), (90, [4], [], -2147483648), (91, [4], [], 2147483647), (90, [5], [], 0), (91, [5], [], 40)], (4000, [2, 3, 4, 12], [1], 313)) := vOk_inI fun ρ η f0 f1 f2 f3 f4 f5 f6 f7 f8 f9 f10 f11 f12 f13 f14 f15 f16 f17 f18 f19 f20 f21 f22 f23 f24 f25 f26 f27 => q_274_63 (q0 := q0) (n0 := ρ 5) (n1 := ρ 4) (n2 := ρ 3) (n3 := ρ 2) (n4 := ρ 1) (n5 := ρ 0) (n6 := ρ 6) (n7 := ρ 7) (n8 := ρ 8) (n9 := ρ 9) (n10 := ρ 10) (n11 := ρ 11) (n12 := ρ 12) (H0 := η 0) (H1 := η 1) f27 f26 f25 f24 f23 f22 f21 f20 f19 f18 f17 f16 f15 f14 f13 f12 f11 f10 f9 f8 f7 f6 f5 f4 f3 f2 f1 f0
theorem q_274_64 {q0 : Nat} {n0 n1 n2 n3 n4 n5 n6 n7 n8 n9 n10 n11 n12 : Int} {H0 H1 : gH} (f0 : n0 ≤ 40) (f1 : 0 ≤ n0) (f2 : n1 ≤ 2147483647) (f3 : (-2147483648) ≤ n1) (f4 : n2 ≤ 7) (f5 : 0 ≤ n2) (f6 : n3 = 285) (f7 : n4 ≤ 7) (f8 : 0 ≤ n4) (f9 : n5 = 285) (f10 : (hLe T0 H0 H1 ∧ hFr s_274.2.2.2.2 H0 H1 ∧ hWt T0 H1) ∧ (Ab_274_313 n5 n4 n3 n2 n1 n0 H0 H1 ∧ preb_274 n5 n4 H0) ∧ some q0 = some (mub_274_313 n5 n4 n3 n2 n1 n0 H0 H1)) (f11 : n6 ≤ 40) (f12 : 0 ≤ n6) (f13 : n6 = hV H1 (n3).toNat 82) (f14 : n0 < n6) (f15 : n7 = 298) (f16 : n7 = hV H1 (n3).toNat 24) (f17 : n8 = 344) (f18 : n8 = hV H1 (n3).toNat 83) (f19 : n9 ≤ 1007) (f20 : 0 ≤ n9) (f21 : n9 = hV H1 (n8).toNat (n0).toNat) (f22 : n10 ≤ 5) (f23 : 0 ≤ n10) (f24 : n10 = hV H1 (n7).toNat (n9).toNat) (f25 : n11 = 2) (f26 : n10 = n11) (f27 : n12 = 344) (f28 : n12 = hV H1 (n3).toNat 83) : 0 ≤ n0 ∧ n0 < 40 := by
  have g4 := f10.2.1.1
  unfold Ab_274_313 at g4
  have g3 := f10.2.1.2
  unfold preb_274 at g3
  have e0 : n6 = hV H1 285 82 := (by rw [f6] at f13; exact f13 : n6 = hV H1 285 82)
  have e1 : n9 = hV H1 344 (n0).toNat := (by rw [f17] at f21; exact f21 : n9 = hV H1 344 (n0).toNat)
  have e2 : hV H1 298 = hV H0 298 := fRow f10.1.2.1 298 kR_274_298
  have e3 : n10 = hV H0 298 (n9).toNat := (by rw [f15] at f24; exact f24 : n10 = hV H1 298 (n9).toNat).trans ((congrFun e2 _))
  have e6 : hV H1 300 = hV H0 300 := fRow f10.1.2.1 300 kR_274_300
  have e7 : hV H1 301 = hV H0 301 := fRow f10.1.2.1 301 kR_274_301
  have e8 : hV H1 302 = hV H0 302 := fRow f10.1.2.1 302 kR_274_302
  have e9 : hV H1 303 = hV H0 303 := fRow f10.1.2.1 303 kR_274_303
  have e10 : hV H1 305 = hV H0 305 := fRow f10.1.2.1 305 kR_274_305
  have e11 : (0 : Int) ≤ hV H0 285 18 ∧ hV H0 285 18 ≤ 8 := bTo ((f10.1.2.1.1 285 18 kF_274_285_18)) (f10.1.2.2 285 18 _ _ kW_285_18)
  have e12 : (0 : Int) ≤ hV H1 285 82 ∧ hV H1 285 82 ≤ 40 := f10.1.2.2 285 82 _ _ kW_285_82
  try simp only [XQ] at *
  try simp only [e2, e6, e7, e8, e9, e10] at g4
  have k0 := g4.1
  have y0 := g4.2
  have p0 := g3.1
  have p1 := g3.2.1
  have p2 := g3.2.2
  clear g3
  clear g4
  clear f13 f16 f18 f21 f24 f28 e2 e6 e7 e8 e9 e10
  subst e0
  subst e1
  subst e3
  try have xd := XQp_2 y0 (s := (n0).toNat) (by omega) (by omega) (by omega)
  try subst k0
  omega
theorem c_274_313_5 {q0 : Nat} : vOkm T0 (eP e_274 L_274 A_274 mu_274 (some q0)) 2 ([(20, [12, 2], [1], 83), (0, [12], [], 344), (40, [10, 11], [], 0), (0, [11], [], 2), (22, [10, 7, 9], [1], 0), (90, [10], [], 0), (91, [10], [], 5), (22, [9, 8, 5], [1], 0), (90, [9], [], 0), (91, [9], [], 1007), (20, [8, 2], [1], 83), (0, [8], [], 344), (20, [7, 2], [1], 24), (0, [7], [], 298), (42, [5, 6], [], 0), (20, [6, 2], [1], 82), (90, [6], [], 0), (91, [6], [], 40), (5000, [0, 1, 2, 3, 4, 5], [0, 1], 313), (0, [0], [], 285), (90, [1], [], 0), (91, [1], [], 7), (0, [2], [], 285), (90, [3], [], 0), (91, [3], [], 7), (90, [4], [], -2147483648), (91, [4], [], 2147483647), (90, [5], [], 0), (91, [5], [], 40)], (70, [5], [], 40)) := vOk_inI fun ρ η f0 f1 f2 f3 f4 f5 f6 f7 f8 f9 f10 f11 f12 f13 f14 f15 f16 f17 f18 f19 f20 f21 f22 f23 f24 f25 f26 f27 f28 => q_274_64 (q0 := q0) (n0 := ρ 5) (n1 := ρ 4) (n2 := ρ 3) (n3 := ρ 2) (n4 := ρ 1) (n5 := ρ 0) (n6 := ρ 6) (n7 := ρ 7) (n8 := ρ 8) (n9 := ρ 9) (n10 := ρ 10) (n11 := ρ 11) (n12 := ρ 12) (H0 := η 0) (H1 := η 1) f28 f27 f26 f25 f24 f23 f22 f21 f20 f19 f18 f17 f16 f15 f14 f13 f12 f11 f10 f9 f8 f7 f6 f5 f4 f3 f2 f1 f0
theorem q_274_65 {q0 : Nat} {n0 n1 n2 n3 n4 n5 n6 n7 n8 n9 n10 n11 n12 n13 : Int} {H0 H1 : gH} (f0 : n0 ≤ 40) (f1 : 0 ≤ n0) (f2 : n1 ≤ 2147483647) (f3 : (-2147483648) ≤ n1) (f4 : n2 ≤ 7) (f5 : 0 ≤ n2) (f6 : n3 = 285) (f7 : n4 ≤ 7) (f8 : 0 ≤ n4) (f9 : n5 = 285) (f10 : (hLe T0 H0 H1 ∧ hFr s_274.2.2.2.2 H0 H1 ∧ hWt T0 H1) ∧ (Ab_274_313 n5 n4 n3 n2 n1 n0 H0 H1 ∧ preb_274 n5 n4 H0) ∧ some q0 = some (mub_274_313 n5 n4 n3 n2 n1 n0 H0 H1)) (f11 : n6 ≤ 40) (f12 : 0 ≤ n6) (f13 : n6 = hV H1 (n3).toNat 82) (f14 : n0 < n6) (f15 : n7 = 298) (f16 : n7 = hV H1 (n3).toNat 24) (f17 : n8 = 344) (f18 : n8 = hV H1 (n3).toNat 83) (f19 : n9 ≤ 1007) (f20 : 0 ≤ n9) (f21 : n9 = hV H1 (n8).toNat (n0).toNat) (f22 : n10 ≤ 5) (f23 : 0 ≤ n10) (f24 : n10 = hV H1 (n7).toNat (n9).toNat) (f25 : n11 = 2) (f26 : n10 = n11) (f27 : n12 = 344) (f28 : n12 = hV H1 (n3).toNat 83) (f29 : n13 ≤ 1007) (f30 : 0 ≤ n13) (f31 : n13 = hV H1 (n12).toNat (n0).toNat) : preb_276 n3 n13 H1 := by
  have g4 := f10.2.1.1
  unfold Ab_274_313 at g4
  have g3 := f10.2.1.2
  unfold preb_274 at g3
  unfold preb_276
  have e0 : n6 = hV H1 285 82 := (by rw [f6] at f13; exact f13 : n6 = hV H1 285 82)
  have e1 : n9 = hV H1 344 (n0).toNat := (by rw [f17] at f21; exact f21 : n9 = hV H1 344 (n0).toNat)
  have e2 : hV H1 298 = hV H0 298 := fRow f10.1.2.1 298 kR_274_298
  have e3 : n10 = hV H0 298 (n9).toNat := (by rw [f15] at f24; exact f24 : n10 = hV H1 298 (n9).toNat).trans ((congrFun e2 _))
  have e4 : n13 = hV H1 344 (n0).toNat := (by rw [f27] at f31; exact f31 : n13 = hV H1 344 (n0).toNat)
  have e7 : hV H1 300 = hV H0 300 := fRow f10.1.2.1 300 kR_274_300
  have e8 : hV H1 301 = hV H0 301 := fRow f10.1.2.1 301 kR_274_301
  have e9 : hV H1 302 = hV H0 302 := fRow f10.1.2.1 302 kR_274_302
  have e10 : hV H1 303 = hV H0 303 := fRow f10.1.2.1 303 kR_274_303
  have e11 : hV H1 305 = hV H0 305 := fRow f10.1.2.1 305 kR_274_305
  have e12 : (0 : Int) ≤ hV H0 285 18 ∧ hV H0 285 18 ≤ 8 := bTo ((f10.1.2.1.1 285 18 kF_274_285_18)) (f10.1.2.2 285 18 _ _ kW_285_18)
  have e13 : (0 : Int) ≤ hV H1 285 82 ∧ hV H1 285 82 ≤ 40 := f10.1.2.2 285 82 _ _ kW_285_82
  try simp only [XQ] at *
  try simp only [e2, e7, e8, e9, e10, e11] at g4
  try simp only [e7, e11]
  have k0 := g4.1
  have y0 := g4.2
  have p0 := g3.1
  have p1 := g3.2.1
  have p2 := g3.2.2
  clear g3
  clear g4
  clear f13 f16 f18 f21 f24 f28 f31 e2 e7 e8 e9 e10 e11
  subst e0
  subst e1
  subst e3
  subst e4
  try have xd := XQp_2 y0 (s := (n0).toNat) (by omega) (by omega) (by omega)
  try subst k0
  refine ⟨?_, ?_, ?_, ?_⟩ <;> first | assumption | omega | trivial
theorem c_274_313_6 {q0 : Nat} : vOkm T0 (eP e_274 L_274 A_274 mu_274 (some q0)) 2 ([(22, [13, 12, 5], [1], 0), (90, [13], [], 0), (91, [13], [], 1007), (20, [12, 2], [1], 83), (0, [12], [], 344), (40, [10, 11], [], 0), (0, [11], [], 2), (22, [10, 7, 9], [1], 0), (90, [10], [], 0), (91, [10], [], 5), (22, [9, 8, 5], [1], 0), (90, [9], [], 0), (91, [9], [], 1007), (20, [8, 2], [1], 83), (0, [8], [], 344), (20, [7, 2], [1], 24), (0, [7], [], 298), (42, [5, 6], [], 0), (20, [6, 2], [1], 82), (90, [6], [], 0), (91, [6], [], 40), (5000, [0, 1, 2, 3, 4, 5], [0, 1], 313), (0, [0], [], 285), (90, [1], [], 0), (91, [1], [], 7), (0, [2], [], 285), (90, [3], [], 0), (91, [3], [], 7), (90, [4], [], -2147483648), (91, [4], [], 2147483647), (90, [5], [], 0), (91, [5], [], 40)], (2276, [2, 13], [1], 0)) := vOk_inI fun ρ η f0 f1 f2 f3 f4 f5 f6 f7 f8 f9 f10 f11 f12 f13 f14 f15 f16 f17 f18 f19 f20 f21 f22 f23 f24 f25 f26 f27 f28 f29 f30 f31 => q_274_65 (q0 := q0) (n0 := ρ 5) (n1 := ρ 4) (n2 := ρ 3) (n3 := ρ 2) (n4 := ρ 1) (n5 := ρ 0) (n6 := ρ 6) (n7 := ρ 7) (n8 := ρ 8) (n9 := ρ 9) (n10 := ρ 10) (n11 := ρ 11) (n12 := ρ 12) (n13 := ρ 13) (H0 := η 0) (H1 := η 1) f31 f30 f29 f28 f27 f26 f25 f24 f23 f22 f21 f20 f19 f18 f17 f16 f15 f14 f13 f12 f11 f10 f9 f8 f7 f6 f5 f4 f3 f2 f1 f0
theorem q_274_66 {q0 : Nat} {n0 n1 n2 n3 n4 n5 n6 n7 n8 n9 n10 n11 n12 n13 n14 : Int} {H0 H1 : gH} (f0 : n0 ≤ 40) (f1 : 0 ≤ n0) (f2 : n1 ≤ 2147483647) (f3 : (-2147483648) ≤ n1) (f4 : n2 ≤ 7) (f5 : 0 ≤ n2) (f6 : n3 = 285) (f7 : n4 ≤ 7) (f8 : 0 ≤ n4) (f9 : n5 = 285) (f10 : (hLe T0 H0 H1 ∧ hFr s_274.2.2.2.2 H0 H1 ∧ hWt T0 H1) ∧ (Ab_274_313 n5 n4 n3 n2 n1 n0 H0 H1 ∧ preb_274 n5 n4 H0) ∧ some q0 = some (mub_274_313 n5 n4 n3 n2 n1 n0 H0 H1)) (f11 : n6 ≤ 40) (f12 : 0 ≤ n6) (f13 : n6 = hV H1 (n3).toNat 82) (f14 : n0 < n6) (f15 : n7 = 298) (f16 : n7 = hV H1 (n3).toNat 24) (f17 : n8 = 344) (f18 : n8 = hV H1 (n3).toNat 83) (f19 : n9 ≤ 1007) (f20 : 0 ≤ n9) (f21 : n9 = hV H1 (n8).toNat (n0).toNat) (f22 : n10 ≤ 5) (f23 : 0 ≤ n10) (f24 : n10 = hV H1 (n7).toNat (n9).toNat) (f25 : n11 = 2) (f26 : n10 = n11) (f27 : n12 = 344) (f28 : n12 = hV H1 (n3).toNat 83) (f29 : n13 ≤ 1007) (f30 : 0 ≤ n13) (f31 : n13 = hV H1 (n12).toNat (n0).toNat) (f32 : n14 = w32 (n0 + 1)) : 0 ≤ n14 := by
  have g4 := f10.2.1.1
  unfold Ab_274_313 at g4
  have g3 := f10.2.1.2
  unfold preb_274 at g3
  have e0 : n6 = hV H1 285 82 := (by rw [f6] at f13; exact f13 : n6 = hV H1 285 82)
  have e1 : n9 = hV H1 344 (n0).toNat := (by rw [f17] at f21; exact f21 : n9 = hV H1 344 (n0).toNat)
  have e2 : hV H1 298 = hV H0 298 := fRow f10.1.2.1 298 kR_274_298
  have e3 : n10 = hV H0 298 (n9).toNat := (by rw [f15] at f24; exact f24 : n10 = hV H1 298 (n9).toNat).trans ((congrFun e2 _))
  have e4 : n13 = hV H1 344 (n0).toNat := (by rw [f27] at f31; exact f31 : n13 = hV H1 344 (n0).toNat)
  have e7 : hV H1 300 = hV H0 300 := fRow f10.1.2.1 300 kR_274_300
  have e8 : hV H1 301 = hV H0 301 := fRow f10.1.2.1 301 kR_274_301
  have e9 : hV H1 302 = hV H0 302 := fRow f10.1.2.1 302 kR_274_302
  have e10 : hV H1 303 = hV H0 303 := fRow f10.1.2.1 303 kR_274_303
  have e11 : hV H1 305 = hV H0 305 := fRow f10.1.2.1 305 kR_274_305
  have e12 : (0 : Int) ≤ hV H0 285 18 ∧ hV H0 285 18 ≤ 8 := bTo ((f10.1.2.1.1 285 18 kF_274_285_18)) (f10.1.2.2 285 18 _ _ kW_285_18)
  have e13 : (0 : Int) ≤ hV H1 285 82 ∧ hV H1 285 82 ≤ 40 := f10.1.2.2 285 82 _ _ kW_285_82
  try simp only [XQ] at *
  try simp only [e2, e7, e8, e9, e10, e11] at g4
  have k0 := g4.1
  have y0 := g4.2
  have p0 := g3.1
  have p1 := g3.2.1
  have p2 := g3.2.2
  clear g3
  clear g4
  clear f13 f16 f18 f21 f24 f28 f31 e2 e7 e8 e9 e10 e11
  subst e0
  subst e1
  subst e3
  subst e4
  try have xd := XQp_2 y0 (s := (n0).toNat) (by omega) (by omega) (by omega)
  first
  | (have ix0 : n14 = n0 + 1 := Eq.trans f32 (w32_iv (Iad (Iat f1 f0) (IC 1)) (by decide)); subst ix0; clear f32)
  | (have ix0 : n14 = n0 + 1 := Eq.trans f32 (w32_id (by omega) (by omega)); subst ix0; clear f32)
  | (unfold w32 at f32; have ix0 : n14 = n0 + 1 := (by omega); subst ix0)
  | skip
  try unfold w32 at f32
  try subst k0
  omega
theorem c_274_313_7 {q0 : Nat} : vOkm T0 (eP e_274 L_274 A_274 mu_274 (some q0)) 2 ([(10, [14, 5], [], 1), (22, [13, 12, 5], [1], 0), (90, [13], [], 0), (91, [13], [], 1007), (20, [12, 2], [1], 83), (0, [12], [], 344), (40, [10, 11], [], 0), (0, [11], [], 2), (22, [10, 7, 9], [1], 0), (90, [10], [], 0), (91, [10], [], 5), (22, [9, 8, 5], [1], 0), (90, [9], [], 0), (91, [9], [], 1007), (20, [8, 2], [1], 83), (0, [8], [], 344), (20, [7, 2], [1], 24), (0, [7], [], 298), (42, [5, 6], [], 0), (20, [6, 2], [1], 82), (90, [6], [], 0), (91, [6], [], 40), (5000, [0, 1, 2, 3, 4, 5], [0, 1], 313), (0, [0], [], 285), (90, [1], [], 0), (91, [1], [], 7), (0, [2], [], 285), (90, [3], [], 0), (91, [3], [], 7), (90, [4], [], -2147483648), (91, [4], [], 2147483647), (90, [5], [], 0), (91, [5], [], 40)], (90, [14], [], 0)) := vOk_inI fun ρ η f0 f1 f2 f3 f4 f5 f6 f7 f8 f9 f10 f11 f12 f13 f14 f15 f16 f17 f18 f19 f20 f21 f22 f23 f24 f25 f26 f27 f28 f29 f30 f31 f32 => q_274_66 (q0 := q0) (n0 := ρ 5) (n1 := ρ 4) (n2 := ρ 3) (n3 := ρ 2) (n4 := ρ 1) (n5 := ρ 0) (n6 := ρ 6) (n7 := ρ 7) (n8 := ρ 8) (n9 := ρ 9) (n10 := ρ 10) (n11 := ρ 11) (n12 := ρ 12) (n13 := ρ 13) (n14 := ρ 14) (H0 := η 0) (H1 := η 1) f32 f31 f30 f29 f28 f27 f26 f25 f24 f23 f22 f21 f20 f19 f18 f17 f16 f15 f14 f13 f12 f11 f10 f9 f8 f7 f6 f5 f4 f3 f2 f1 f0
theorem q_274_67 {q0 : Nat} {n0 n1 n2 n3 n4 n5 n6 n7 n8 n9 n10 n11 n12 n13 n14 : Int} {H0 H1 : gH} (f0 : n0 ≤ 40) (f1 : 0 ≤ n0) (f2 : n1 ≤ 2147483647) (f3 : (-2147483648) ≤ n1) (f4 : n2 ≤ 7) (f5 : 0 ≤ n2) (f6 : n3 = 285) (f7 : n4 ≤ 7) (f8 : 0 ≤ n4) (f9 : n5 = 285) (f10 : (hLe T0 H0 H1 ∧ hFr s_274.2.2.2.2 H0 H1 ∧ hWt T0 H1) ∧ (Ab_274_313 n5 n4 n3 n2 n1 n0 H0 H1 ∧ preb_274 n5 n4 H0) ∧ some q0 = some (mub_274_313 n5 n4 n3 n2 n1 n0 H0 H1)) (f11 : n6 ≤ 40) (f12 : 0 ≤ n6) (f13 : n6 = hV H1 (n3).toNat 82) (f14 : n0 < n6) (f15 : n7 = 298) (f16 : n7 = hV H1 (n3).toNat 24) (f17 : n8 = 344) (f18 : n8 = hV H1 (n3).toNat 83) (f19 : n9 ≤ 1007) (f20 : 0 ≤ n9) (f21 : n9 = hV H1 (n8).toNat (n0).toNat) (f22 : n10 ≤ 5) (f23 : 0 ≤ n10) (f24 : n10 = hV H1 (n7).toNat (n9).toNat) (f25 : n11 = 2) (f26 : n10 = n11) (f27 : n12 = 344) (f28 : n12 = hV H1 (n3).toNat 83) (f29 : n13 ≤ 1007) (f30 : 0 ≤ n13) (f31 : n13 = hV H1 (n12).toNat (n0).toNat) (f32 : n14 = w32 (n0 + 1)) : n14 ≤ 40 := by
  have g4 := f10.2.1.1
  unfold Ab_274_313 at g4
  have g3 := f10.2.1.2
  unfold preb_274 at g3
  have e0 : n6 = hV H1 285 82 := (by rw [f6] at f13; exact f13 : n6 = hV H1 285 82)
  have e1 : n9 = hV H1 344 (n0).toNat := (by rw [f17] at f21; exact f21 : n9 = hV H1 344 (n0).toNat)
  have e2 : hV H1 298 = hV H0 298 := fRow f10.1.2.1 298 kR_274_298
  have e3 : n10 = hV H0 298 (n9).toNat := (by rw [f15] at f24; exact f24 : n10 = hV H1 298 (n9).toNat).trans ((congrFun e2 _))
  have e4 : n13 = hV H1 344 (n0).toNat := (by rw [f27] at f31; exact f31 : n13 = hV H1 344 (n0).toNat)
  have e7 : hV H1 300 = hV H0 300 := fRow f10.1.2.1 300 kR_274_300
  have e8 : hV H1 301 = hV H0 301 := fRow f10.1.2.1 301 kR_274_301
  have e9 : hV H1 302 = hV H0 302 := fRow f10.1.2.1 302 kR_274_302
  have e10 : hV H1 303 = hV H0 303 := fRow f10.1.2.1 303 kR_274_303
  have e11 : hV H1 305 = hV H0 305 := fRow f10.1.2.1 305 kR_274_305
  have e12 : (0 : Int) ≤ hV H0 285 18 ∧ hV H0 285 18 ≤ 8 := bTo ((f10.1.2.1.1 285 18 kF_274_285_18)) (f10.1.2.2 285 18 _ _ kW_285_18)
  have e13 : (0 : Int) ≤ hV H1 285 82 ∧ hV H1 285 82 ≤ 40 := f10.1.2.2 285 82 _ _ kW_285_82
  try simp only [XQ] at *
  try simp only [e2, e7, e8, e9, e10, e11] at g4
  have k0 := g4.1
  have y0 := g4.2
  have p0 := g3.1
  have p1 := g3.2.1
  have p2 := g3.2.2
  clear g3
  clear g4
  clear f13 f16 f18 f21 f24 f28 f31 e2 e7 e8 e9 e10 e11
  subst e0
  subst e1
  subst e3
  subst e4
  try have xd := XQp_2 y0 (s := (n0).toNat) (by omega) (by omega) (by omega)
  first
  | (have ix0 : n14 = n0 + 1 := Eq.trans f32 (w32_iv (Iad (Iat f1 f0) (IC 1)) (by decide)); subst ix0; clear f32)
  | (have ix0 : n14 = n0 + 1 := Eq.trans f32 (w32_id (by omega) (by omega)); subst ix0; clear f32)
  | (unfold w32 at f32; have ix0 : n14 = n0 + 1 := (by omega); subst ix0)
  | skip
  try unfold w32 at f32
  try subst k0
  omega
theorem c_274_313_8 {q0 : Nat} : vOkm T0 (eP e_274 L_274 A_274 mu_274 (some q0)) 2 ([(10, [14, 5], [], 1), (22, [13, 12, 5], [1], 0), (90, [13], [], 0), (91, [13], [], 1007), (20, [12, 2], [1], 83), (0, [12], [], 344), (40, [10, 11], [], 0), (0, [11], [], 2), (22, [10, 7, 9], [1], 0), (90, [10], [], 0), (91, [10], [], 5), (22, [9, 8, 5], [1], 0), (90, [9], [], 0), (91, [9], [], 1007), (20, [8, 2], [1], 83), (0, [8], [], 344), (20, [7, 2], [1], 24), (0, [7], [], 298), (42, [5, 6], [], 0), (20, [6, 2], [1], 82), (90, [6], [], 0), (91, [6], [], 40), (5000, [0, 1, 2, 3, 4, 5], [0, 1], 313), (0, [0], [], 285), (90, [1], [], 0), (91, [1], [], 7), (0, [2], [], 285), (90, [3], [], 0), (91, [3], [], 7), (90, [4], [], -2147483648), (91, [4], [], 2147483647), (90, [5], [], 0), (91, [5], [], 40)], (91, [14], [], 40)) := vOk_inI fun ρ η f0 f1 f2 f3 f4 f5 f6 f7 f8 f9 f10 f11 f12 f13 f14 f15 f16 f17 f18 f19 f20 f21 f22 f23 f24 f25 f26 f27 f28 f29 f30 f31 f32 => q_274_67 (q0 := q0) (n0 := ρ 5) (n1 := ρ 4) (n2 := ρ 3) (n3 := ρ 2) (n4 := ρ 1) (n5 := ρ 0) (n6 := ρ 6) (n7 := ρ 7) (n8 := ρ 8) (n9 := ρ 9) (n10 := ρ 10) (n11 := ρ 11) (n12 := ρ 12) (n13 := ρ 13) (n14 := ρ 14) (H0 := η 0) (H1 := η 1) f32 f31 f30 f29 f28 f27 f26 f25 f24 f23 f22 f21 f20 f19 f18 f17 f16 f15 f14 f13 f12 f11 f10 f9 f8 f7 f6 f5 f4 f3 f2 f1 f0
theorem kR_276_298 : vFreeR s_276.2.2.2.2 298 = true := by decide +kernel
theorem kR_276_300 : vFreeR s_276.2.2.2.2 300 = true := by decide +kernel
theorem kR_276_301 : vFreeR s_276.2.2.2.2 301 = true := by decide +kernel
theorem kR_276_302 : vFreeR s_276.2.2.2.2 302 = true := by decide +kernel
theorem kR_276_303 : vFreeR s_276.2.2.2.2 303 = true := by decide +kernel
theorem kR_276_305 : vFreeR s_276.2.2.2.2 305 = true := by decide +kernel
theorem kR_276_344 : vFreeR s_276.2.2.2.2 344 = true := by decide +kernel
theorem kF_276_285_82 : vFree s_276.2.2.2.2 285 82 = true := by decide +kernel
theorem q_274_68 {q0 : Nat} {n0 n1 n2 n3 n4 n5 n6 n7 n8 n9 n10 n11 n12 n13 n14 : Int} {H0 H1 H2 : gH} (f0 : n0 ≤ 40) (f1 : 0 ≤ n0) (f2 : n1 ≤ 2147483647) (f3 : (-2147483648) ≤ n1) (f4 : n2 ≤ 7) (f5 : 0 ≤ n2) (f6 : n3 = 285) (f7 : n4 ≤ 7) (f8 : 0 ≤ n4) (f9 : n5 = 285) (f10 : (hLe T0 H0 H1 ∧ hFr s_274.2.2.2.2 H0 H1 ∧ hWt T0 H1) ∧ (Ab_274_313 n5 n4 n3 n2 n1 n0 H0 H1 ∧ preb_274 n5 n4 H0) ∧ some q0 = some (mub_274_313 n5 n4 n3 n2 n1 n0 H0 H1)) (f11 : n6 ≤ 40) (f12 : 0 ≤ n6) (f13 : n6 = hV H1 (n3).toNat 82) (f14 : n0 < n6) (f15 : n7 = 298) (f16 : n7 = hV H1 (n3).toNat 24) (f17 : n8 = 344) (f18 : n8 = hV H1 (n3).toNat 83) (f19 : n9 ≤ 1007) (f20 : 0 ≤ n9) (f21 : n9 = hV H1 (n8).toNat (n0).toNat) (f22 : n10 ≤ 5) (f23 : 0 ≤ n10) (f24 : n10 = hV H1 (n7).toNat (n9).toNat) (f25 : n11 = 2) (f26 : n10 = n11) (f27 : n12 = 344) (f28 : n12 = hV H1 (n3).toNat 83) (f29 : n13 ≤ 1007) (f30 : 0 ≤ n13) (f31 : n13 = hV H1 (n12).toNat (n0).toNat) (f32 : (hLe T0 H1 H2 ∧ hFr s_276.2.2.2.2 H1 H2 ∧ ((0 : Int) = 0 → H2.length = H1.length) ∧ hWt T0 H2) ∧ True) (f33 : n14 = w32 (n0 + 1)) : Ab_274_313 n5 n4 n3 n2 n1 n14 H0 H2 ∧ ∀ q, some q0 = some q → mub_274_313 n5 n4 n3 n2 n1 n14 H0 H2 < q := by
  have g4 := f10.2.1.1
  unfold Ab_274_313 at g4
  have g3 := f10.2.1.2
  unfold preb_274 at g3
  have g5 := Option.some.inj f10.2.2
  unfold mub_274_313 at g5
  unfold Ab_274_313
  unfold mub_274_313
  have e0 : n6 = hV H1 285 82 := (by rw [f6] at f13; exact f13 : n6 = hV H1 285 82)
  have e1 : n9 = hV H1 344 (n0).toNat := (by rw [f17] at f21; exact f21 : n9 = hV H1 344 (n0).toNat)
  have e2 : hV H1 298 = hV H0 298 := fRow f10.1.2.1 298 kR_274_298
  have e3 : n10 = hV H0 298 (n9).toNat := (by rw [f15] at f24; exact f24 : n10 = hV H1 298 (n9).toNat).trans ((congrFun e2 _))
  have e4 : n13 = hV H1 344 (n0).toNat := (by rw [f27] at f31; exact f31 : n13 = hV H1 344 (n0).toNat)
  have e7 : hV H1 300 = hV H0 300 := fRow f10.1.2.1 300 kR_274_300
  have e8 : hV H1 301 = hV H0 301 := fRow f10.1.2.1 301 kR_274_301
  have e9 : hV H1 302 = hV H0 302 := fRow f10.1.2.1 302 kR_274_302
  have e10 : hV H1 303 = hV H0 303 := fRow f10.1.2.1 303 kR_274_303
  have e11 : hV H1 305 = hV H0 305 := fRow f10.1.2.1 305 kR_274_305
  have e13 : hV H2 285 82 = hV H1 285 82 := (f32.1.2.1.1 285 82 kF_276_285_82)
  have e15 : hV H2 298 = hV H0 298 := (fRow f32.1.2.1 298 kR_276_298).trans e2
  have e17 : hV H2 300 = hV H0 300 := (fRow f32.1.2.1 300 kR_276_300).trans e7
  have e19 : hV H2 301 = hV H0 301 := (fRow f32.1.2.1 301 kR_276_301).trans e8
  have e21 : hV H2 302 = hV H0 302 := (fRow f32.1.2.1 302 kR_276_302).trans e9
  have e23 : hV H2 303 = hV H0 303 := (fRow f32.1.2.1 303 kR_276_303).trans e10
  have e25 : hV H2 305 = hV H0 305 := (fRow f32.1.2.1 305 kR_276_305).trans e11
  have e26 : hV H2 344 = hV H1 344 := fRow f32.1.2.1 344 kR_276_344
  have e27 : (0 : Int) ≤ hV H0 285 18 ∧ hV H0 285 18 ≤ 8 := bTo ((f10.1.2.1.1 285 18 kF_274_285_18)) (f10.1.2.2 285 18 _ _ kW_285_18)
  have e28 : (0 : Int) ≤ hV H1 285 82 ∧ hV H1 285 82 ≤ 40 := f10.1.2.2 285 82 _ _ kW_285_82
  try simp only [XQ] at *
  try simp only [e2, e7, e8, e9, e10, e11] at g4
  try simp only [e13, e15, e17, e19, e21, e23, e25, e26]
  have k0 := g4.1
  have y0 := g4.2
  have p0 := g3.1
  have p1 := g3.2.1
  have p2 := g3.2.2
  clear g3
  clear g4
  clear f13 f16 f18 f21 f24 f28 f31 e2 e7 e8 e9 e10 e11 e13 e15 e17 e19 e21 e23 e25 e26
  subst e0
  subst e1
  subst e3
  subst e4
  try have xd := XQp_2 y0 (s := (n0).toNat) (by omega) (by omega) (by omega)
  first
  | (have ix0 : n14 = n0 + 1 := Eq.trans f33 (w32_iv (Iad (Iat f1 f0) (IC 1)) (by decide)); subst ix0; clear f33)
  | (have ix0 : n14 = n0 + 1 := Eq.trans f33 (w32_id (by omega) (by omega)); subst ix0; clear f33)
  | (unfold w32 at f33; have ix0 : n14 = n0 + 1 := (by omega); subst ix0)
  | skip
  try unfold w32 at f33
  try subst k0
  refine ⟨?_, fun q hq => ?_⟩
  · refine ⟨?_, ?_⟩ <;> first | assumption | omega | trivial
  · have g6 := Option.some.inj hq
    subst g6
    omega
theorem c_274_313_9 {q0 : Nat} : vOkm T0 (eP e_274 L_274 A_274 mu_274 (some q0)) 2 ([(10, [14, 5], [], 1), (1276, [2, 13], [1, 2], 0), (22, [13, 12, 5], [1], 0), (90, [13], [], 0), (91, [13], [], 1007), (20, [12, 2], [1], 83), (0, [12], [], 344), (40, [10, 11], [], 0), (0, [11], [], 2), (22, [10, 7, 9], [1], 0), (90, [10], [], 0), (91, [10], [], 5), (22, [9, 8, 5], [1], 0), (90, [9], [], 0), (91, [9], [], 1007), (20, [8, 2], [1], 83), (0, [8], [], 344), (20, [7, 2], [1], 24), (0, [7], [], 298), (42, [5, 6], [], 0), (20, [6, 2], [1], 82), (90, [6], [], 0), (91, [6], [], 40), (5000, [0, 1, 2, 3, 4, 5], [0, 1], 313), (0, [0], [], 285), (90, [1], [], 0), (91, [1], [], 7), (0, [2], [], 285), (90, [3], [], 0), (91, [3], [], 7), (90, [4], [], -2147483648), (91, [4], [], 2147483647), (90, [5], [], 0), (91, [5], [], 40)], (4000, [2, 3, 4, 14], [2], 313)) := vOk_inI fun ρ η f0 f1 f2 f3 f4 f5 f6 f7 f8 f9 f10 f11 f12 f13 f14 f15 f16 f17 f18 f19 f20 f21 f22 f23 f24 f25 f26 f27 f28 f29 f30 f31 f32 f33 => q_274_68 (q0 := q0) (n0 := ρ 5) (n1 := ρ 4) (n2 := ρ 3) (n3 := ρ 2) (n4 := ρ 1) (n5 := ρ 0) (n6 := ρ 6) (n7 := ρ 7) (n8 := ρ 8) (n9 := ρ 9) (n10 := ρ 10) (n11 := ρ 11) (n12 := ρ 12) (n13 := ρ 13) (n14 := ρ 14) (H0 := η 0) (H1 := η 1) (H2 := η 2) f33 f32 f31 f30 f29 f28 f27 f26 f25 f24 f23 f22 f21 f20 f19 f18 f17 f16 f15 f14 f13 f12 f11 f10 f9 f8 f7 f6 f5 f4 f3 f2 f1 f0
def p_274_313 : List vG := [([(0, [7], [], 0), (43, [5, 6], [], 0), (20, [6, 2], [1], 82), (90, [6], [], 0), (91, [6], [], 40), (5000, [0, 1, 2, 3, 4, 5], [0, 1], 313), (0, [0], [], 285), (90, [1], [], 0), (91, [1], [], 7), (0, [2], [], 285), (90, [3], [], 0), (91, [3], [], 7), (90, [4], [], -2147483648), (91, [4], [], 2147483647), (90, [5], [], 0), (91, [5], [], 40)], (4000, [2, 3, 4, 7], [1], 354)),
  ([(42, [5, 6], [], 0), (20, [6, 2], [1], 82), (90, [6], [], 0), (91, [6], [], 40), (5000, [0, 1, 2, 3, 4, 5], [0, 1], 313), (0, [0], [], 285), (90, [1], [], 0), (91, [1], [], 7), (0, [2], [], 285), (90, [3], [], 0), (91, [3], [], 7), (90, [4], [], -2147483648), (91, [4], [], 2147483647), (90, [5], [], 0), (91, [5], [], 40)], (70, [5], [], 40)),
  ([(10, [12, 5], [], 1), (41, [10, 11], [], 0), (0, [11], [], 2), (22, [10, 7, 9], [1], 0), (90, [10], [], 0), (91, [10], [], 5), (22, [9, 8, 5], [1], 0), (90, [9], [], 0), (91, [9], [], 1007), (20, [8, 2], [1], 83), (0, [8], [], 344), (20, [7, 2], [1], 24), (0, [7], [], 298), (42, [5, 6], [], 0), (20, [6, 2], [1], 82), (90, [6], [], 0), (91, [6], [], 40), (5000, [0, 1, 2, 3, 4, 5], [0, 1], 313), (0, [0], [], 285), (90, [1], [], 0), (91, [1], [], 7), (0, [2], [], 285), (90, [3], [], 0), (91, [3], [], 7), (90, [4], [], -2147483648), (91, [4], [], 2147483647), (90, [5], [], 0), (91, [5], [], 40)], (90, [12], [], 0)),
  ([(10, [12, 5], [], 1), (41, [10, 11], [], 0), (0, [11], [], 2), (22, [10, 7, 9], [1], 0), (90, [10], [], 0), (91, [10], [], 5), (22, [9, 8, 5], [1], 0), (90, [9], [], 0), (91, [9], [], 1007), (20, [8, 2], [1], 83), (0, [8], [], 344), (20, [7, 2], [1], 24), (0, [7], [], 298), (42, [5, 6], [], 0), (20, [6, 2], [1], 82), (90, [6], [], 0), (91, [6], [], 40), (5000, [0, 1, 2, 3, 4, 5], [0, 1], 313), (0, [0], [], 285), (90, [1], [], 0), (91, [1], [], 7), (0, [2], [], 285), (90, [3], [], 0), (91, [3], [], 7), (90, [4], [], -2147483648), (91, [4], [], 2147483647), (90, [5], [], 0), (91, [5], [], 40)], (91, [12], [], 40)),
  ([(10, [12, 5], [], 1), (41, [10, 11], [], 0), (0, [11], [], 2), (22, [10, 7, 9], [1], 0), (90, [10], [], 0), (91, [10], [], 5), (22, [9, 8, 5], [1], 0), (90, [9], [], 0), (91, [9], [], 1007), (20, [8, 2], [1], 83), (0, [8], [], 344), (20, [7, 2], [1], 24), (0, [7], [], 298), (42, [5, 6], [], 0), (20, [6, 2], [1], 82), (90, [6], [], 0), (91, [6], [], 40), (5000, [0, 1, 2, 3, 4, 5], [0, 1], 313), (0, [0], [], 285), (90, [1], [], 0), (91, [1], [], 7), (0, [2], [], 285), (90, [3], [], 0), (91, [3], [], 7), (90, [4], [], -2147483648), (91, [4], [], 2147483647), (90, [5], [], 0), (91, [5], [], 40)], (4000, [2, 3, 4, 12], [1], 313)),
  ([(20, [12, 2], [1], 83), (0, [12], [], 344), (40, [10, 11], [], 0), (0, [11], [], 2), (22, [10, 7, 9], [1], 0), (90, [10], [], 0), (91, [10], [], 5), (22, [9, 8, 5], [1], 0), (90, [9], [], 0), (91, [9], [], 1007), (20, [8, 2], [1], 83), (0, [8], [], 344), (20, [7, 2], [1], 24), (0, [7], [], 298), (42, [5, 6], [], 0), (20, [6, 2], [1], 82), (90, [6], [], 0), (91, [6], [], 40), (5000, [0, 1, 2, 3, 4, 5], [0, 1], 313), (0, [0], [], 285), (90, [1], [], 0), (91, [1], [], 7), (0, [2], [], 285), (90, [3], [], 0), (91, [3], [], 7), (90, [4], [], -2147483648), (91, [4], [], 2147483647), (90, [5], [], 0), (91, [5], [], 40)], (70, [5], [], 40)),
  ([(22, [13, 12, 5], [1], 0), (90, [13], [], 0), (91, [13], [], 1007), (20, [12, 2], [1], 83), (0, [12], [], 344), (40, [10, 11], [], 0), (0, [11], [], 2), (22, [10, 7, 9], [1], 0), (90, [10], [], 0), (91, [10], [], 5), (22, [9, 8, 5], [1], 0), (90, [9], [], 0), (91, [9], [], 1007), (20, [8, 2], [1], 83), (0, [8], [], 344), (20, [7, 2], [1], 24), (0, [7], [], 298), (42, [5, 6], [], 0), (20, [6, 2], [1], 82), (90, [6], [], 0), (91, [6], [], 40), (5000, [0, 1, 2, 3, 4, 5], [0, 1], 313), (0, [0], [], 285), (90, [1], [], 0), (91, [1], [], 7), (0, [2], [], 285), (90, [3], [], 0), (91, [3], [], 7), (90, [4], [], -2147483648), (91, [4], [], 2147483647), (90, [5], [], 0), (91, [5], [], 40)], (2276, [2, 13], [1], 0)),
  ([(10, [14, 5], [], 1), (22, [13, 12, 5], [1], 0), (90, [13], [], 0), (91, [13], [], 1007), (20, [12, 2], [1], 83), (0, [12], [], 344), (40, [10, 11], [], 0), (0, [11], [], 2), (22, [10, 7, 9], [1], 0), (90, [10], [], 0), (91, [10], [], 5), (22, [9, 8, 5], [1], 0), (90, [9], [], 0), (91, [9], [], 1007), (20, [8, 2], [1], 83), (0, [8], [], 344), (20, [7, 2], [1], 24), (0, [7], [], 298), (42, [5, 6], [], 0), (20, [6, 2], [1], 82), (90, [6], [], 0), (91, [6], [], 40), (5000, [0, 1, 2, 3, 4, 5], [0, 1], 313), (0, [0], [], 285), (90, [1], [], 0), (91, [1], [], 7), (0, [2], [], 285), (90, [3], [], 0), (91, [3], [], 7), (90, [4], [], -2147483648), (91, [4], [], 2147483647), (90, [5], [], 0), (91, [5], [], 40)], (90, [14], [], 0)),
  ([(10, [14, 5], [], 1), (22, [13, 12, 5], [1], 0), (90, [13], [], 0), (91, [13], [], 1007), (20, [12, 2], [1], 83), (0, [12], [], 344), (40, [10, 11], [], 0), (0, [11], [], 2), (22, [10, 7, 9], [1], 0), (90, [10], [], 0), (91, [10], [], 5), (22, [9, 8, 5], [1], 0), (90, [9], [], 0), (91, [9], [], 1007), (20, [8, 2], [1], 83), (0, [8], [], 344), (20, [7, 2], [1], 24), (0, [7], [], 298), (42, [5, 6], [], 0), (20, [6, 2], [1], 82), (90, [6], [], 0), (91, [6], [], 40), (5000, [0, 1, 2, 3, 4, 5], [0, 1], 313), (0, [0], [], 285), (90, [1], [], 0), (91, [1], [], 7), (0, [2], [], 285), (90, [3], [], 0), (91, [3], [], 7), (90, [4], [], -2147483648), (91, [4], [], 2147483647), (90, [5], [], 0), (91, [5], [], 40)], (91, [14], [], 40)),
  ([(10, [14, 5], [], 1), (1276, [2, 13], [1, 2], 0), (22, [13, 12, 5], [1], 0), (90, [13], [], 0), (91, [13], [], 1007), (20, [12, 2], [1], 83), (0, [12], [], 344), (40, [10, 11], [], 0), (0, [11], [], 2), (22, [10, 7, 9], [1], 0), (90, [10], [], 0), (91, [10], [], 5), (22, [9, 8, 5], [1], 0), (90, [9], [], 0), (91, [9], [], 1007), (20, [8, 2], [1], 83), (0, [8], [], 344), (20, [7, 2], [1], 24), (0, [7], [], 298), (42, [5, 6], [], 0), (20, [6, 2], [1], 82), (90, [6], [], 0), (91, [6], [], 40), (5000, [0, 1, 2, 3, 4, 5], [0, 1], 313), (0, [0], [], 285), (90, [1], [], 0), (91, [1], [], 7), (0, [2], [], 285), (90, [3], [], 0), (91, [3], [], 7), (90, [4], [], -2147483648), (91, [4], [], 2147483647), (90, [5], [], 0), (91, [5], [], 40)], (4000, [2, 3, 4, 14], [2], 313))]
theorem r_274_313 : vCovO false (eRc e_274 L_274 cs_274 2000 (313, [(0, (3, 12, 285, 0)), (1, (0, 0, 7, 0)), (2, (0, -2147483648, 2147483647, 0)), (3, (0, 0, 40, 0))])) p_274_313 = true := by decide +kernel
theorem q_274_69 {q0 : Nat} {n0 n1 n2 n3 n4 n5 n6 n7 n8 : Int} {H0 H1 : gH} (f0 : n0 ≤ 40) (f1 : 0 ≤ n0) (f2 : n1 ≤ 2147483647) (f3 : (-2147483648) ≤ n1) (f4 : n2 ≤ 7) (f5 : 0 ≤ n2) (f6 : n3 = 285) (f7 : n4 ≤ 7) (f8 : 0 ≤ n4) (f9 : n5 = 285) (f10 : (hLe T0 H0 H1 ∧ hFr s_274.2.2.2.2 H0 H1 ∧ hWt T0 H1) ∧ (Ab_274_354 n5 n4 n3 n2 n1 n0 H0 H1 ∧ preb_274 n5 n4 H0) ∧ some q0 = some (mub_274_354 n5 n4 n3 n2 n1 n0 H0 H1)) (f11 : n6 ≤ 40) (f12 : 0 ≤ n6) (f13 : n6 = hV H1 (n3).toNat 82) (f14 : n6 ≤ n0) (f15 : n7 = 9999) (f16 : n8 = 0) : Ab_274_400 n5 n4 n3 n2 n1 n7 n8 H0 H1 ∧ ∀ q, some q0 = some q → mub_274_400 n5 n4 n3 n2 n1 n7 n8 H0 H1 < q := by
  have g4 := f10.2.1.1
  unfold Ab_274_354 at g4
  have g3 := f10.2.1.2
  unfold preb_274 at g3
  have g5 := Option.some.inj f10.2.2
  unfold mub_274_354 at g5
  unfold Ab_274_400
  unfold mub_274_400
  have e0 : n6 = hV H1 285 82 := (by rw [f6] at f13; exact f13 : n6 = hV H1 285 82)
  have e3 : hV H1 298 = hV H0 298 := fRow f10.1.2.1 298 kR_274_298
  have e4 : hV H1 300 = hV H0 300 := fRow f10.1.2.1 300 kR_274_300
  have e5 : hV H1 301 = hV H0 301 := fRow f10.1.2.1 301 kR_274_301
  have e6 : hV H1 302 = hV H0 302 := fRow f10.1.2.1 302 kR_274_302
  have e7 : hV H1 303 = hV H0 303 := fRow f10.1.2.1 303 kR_274_303
  have e8 : hV H1 305 = hV H0 305 := fRow f10.1.2.1 305 kR_274_305
  have e9 : (0 : Int) ≤ hV H0 285 18 ∧ hV H0 285 18 ≤ 8 := bTo ((f10.1.2.1.1 285 18 kF_274_285_18)) (f10.1.2.2 285 18 _ _ kW_285_18)
  have e10 : (0 : Int) ≤ hV H1 285 82 ∧ hV H1 285 82 ≤ 40 := f10.1.2.2 285 82 _ _ kW_285_82
  try simp only [XQ] at *
  try simp only [e3, e4, e5, e6, e7, e8] at g4
  try simp only [e3, e4, e5, e6, e7, e8]
  have k0 := g4.1
  have y0 := g4.2
  have p0 := g3.1
  have p1 := g3.2.1
  have p2 := g3.2.2
  clear g3
  clear g4
  clear f13 e3 e4 e5 e6 e7 e8
  subst e0
  try have xd := XQp_3 y0 (s := (n0).toNat) (by omega) (by omega) (by omega)
  try subst k0
  refine ⟨?_, fun q hq => ?_⟩
  · refine ⟨?_, ?_⟩ <;> first | assumption | omega | trivial
  · have g6 := Option.some.inj hq
    subst g6
    omega
theorem c_274_354_0 {q0 : Nat} : vOkm T0 (eP e_274 L_274 A_274 mu_274 (some q0)) 2 ([(0, [8], [], 0), (0, [7], [], 9999), (43, [5, 6], [], 0), (20, [6, 2], [1], 82), (90, [6], [], 0), (91, [6], [], 40), (5000, [0, 1, 2, 3, 4, 5], [0, 1], 354), (0, [0], [], 285), (90, [1], [], 0), (91, [1], [], 7), (0, [2], [], 285), (90, [3], [], 0), (91, [3], [], 7), (90, [4], [], -2147483648), (91, [4], [], 2147483647), (90, [5], [], 0), (91, [5], [], 40)], (4000, [2, 3, 4, 7, 8], [1], 400)) := vOk_inI fun ρ η f0 f1 f2 f3 f4 f5 f6 f7 f8 f9 f10 f11 f12 f13 f14 f15 f16 => q_274_69 (q0 := q0) (n0 := ρ 5) (n1 := ρ 4) (n2 := ρ 3) (n3 := ρ 2) (n4 := ρ 1) (n5 := ρ 0) (n6 := ρ 6) (n7 := ρ 7) (n8 := ρ 8) (H0 := η 0) (H1 := η 1) f16 f15 f14 f13 f12 f11 f10 f9 f8 f7 f6 f5 f4 f3 f2 f1 f0
theorem q_274_70 {q0 : Nat} {n0 n1 n2 n3 n4 n5 n6 : Int} {H0 H1 : gH} (f0 : n0 ≤ 40) (f1 : 0 ≤ n0) (f2 : n1 ≤ 2147483647) (f3 : (-2147483648) ≤ n1) (f4 : n2 ≤ 7) (f5 : 0 ≤ n2) (f6 : n3 = 285) (f7 : n4 ≤ 7) (f8 : 0 ≤ n4) (f9 : n5 = 285) (f10 : (hLe T0 H0 H1 ∧ hFr s_274.2.2.2.2 H0 H1 ∧ hWt T0 H1) ∧ (Ab_274_354 n5 n4 n3 n2 n1 n0 H0 H1 ∧ preb_274 n5 n4 H0) ∧ some q0 = some (mub_274_354 n5 n4 n3 n2 n1 n0 H0 H1)) (f11 : n6 ≤ 40) (f12 : 0 ≤ n6) (f13 : n6 = hV H1 (n3).toNat 82) (f14 : n0 < n6) : 0 ≤ n0 ∧ n0 < 40 := by
  have g4 := f10.2.1.1
  unfold Ab_274_354 at g4
  have g3 := f10.2.1.2
  unfold preb_274 at g3
  have e0 : n6 = hV H1 285 82 := (by rw [f6] at f13; exact f13 : n6 = hV H1 285 82)
  have e3 : hV H1 298 = hV H0 298 := fRow f10.1.2.1 298 kR_274_298
  have e4 : hV H1 300 = hV H0 300 := fRow f10.1.2.1 300 kR_274_300
  have e5 : hV H1 301 = hV H0 301 := fRow f10.1.2.1 301 kR_274_301
  have e6 : hV H1 302 = hV H0 302 := fRow f10.1.2.1 302 kR_274_302
  have e7 : hV H1 303 = hV H0 303 := fRow f10.1.2.1 303 kR_274_303
  have e8 : hV H1 305 = hV H0 305 := fRow f10.1.2.1 305 kR_274_305
  have e9 : (0 : Int) ≤ hV H0 285 18 ∧ hV H0 285 18 ≤ 8 := bTo ((f10.1.2.1.1 285 18 kF_274_285_18)) (f10.1.2.2 285 18 _ _ kW_285_18)
  have e10 : (0 : Int) ≤ hV H1 285 82 ∧ hV H1 285 82 ≤ 40 := f10.1.2.2 285 82 _ _ kW_285_82
  try simp only [XQ] at *
  try simp only [e3, e4, e5, e6, e7, e8] at g4
  have k0 := g4.1
  have y0 := g4.2
  have p0 := g3.1
  have p1 := g3.2.1
  have p2 := g3.2.2
  clear g3
  clear g4
  clear f13 e3 e4 e5 e6 e7 e8
  subst e0
  try have xd := XQp_3 y0 (s := (n0).toNat) (by omega) (by omega) (by omega)
  try subst k0
  omega
theorem c_274_354_1 {q0 : Nat} : vOkm T0 (eP e_274 L_274 A_274 mu_274 (some q0)) 2 ([(42, [5, 6], [], 0), (20, [6, 2], [1], 82), (90, [6], [], 0), (91, [6], [], 40), (5000, [0, 1, 2, 3, 4, 5], [0, 1], 354), (0, [0], [], 285), (90, [1], [], 0), (91, [1], [], 7), (0, [2], [], 285), (90, [3], [], 0), (91, [3], [], 7), (90, [4], [], -2147483648), (91, [4], [], 2147483647), (90, [5], [], 0), (91, [5], [], 40)], (70, [5], [], 40)) := vOk_inI fun ρ η f0 f1 f2 f3 f4 f5 f6 f7 f8 f9 f10 f11 f12 f13 f14 => q_274_70 (q0 := q0) (n0 := ρ 5) (n1 := ρ 4) (n2 := ρ 3) (n3 := ρ 2) (n4 := ρ 1) (n5 := ρ 0) (n6 := ρ 6) (H0 := η 0) (H1 := η 1) f14 f13 f12 f11 f10 f9 f8 f7 f6 f5 f4 f3 f2 f1 f0
theorem q_274_71 {q0 : Nat} {n0 n1 n2 n3 n4 n5 n6 n7 n8 n9 n10 n11 n12 : Int} {H0 H1 : gH} (f0 : n0 ≤ 40) (f1 : 0 ≤ n0) (f2 : n1 ≤ 2147483647) (f3 : (-2147483648) ≤ n1) (f4 : n2 ≤ 7) (f5 : 0 ≤ n2) (f6 : n3 = 285) (f7 : n4 ≤ 7) (f8 : 0 ≤ n4) (f9 : n5 = 285) (f10 : (hLe T0 H0 H1 ∧ hFr s_274.2.2.2.2 H0 H1 ∧ hWt T0 H1) ∧ (Ab_274_354 n5 n4 n3 n2 n1 n0 H0 H1 ∧ preb_274 n5 n4 H0) ∧ some q0 = some (mub_274_354 n5 n4 n3 n2 n1 n0 H0 H1)) (f11 : n6 ≤ 40) (f12 : 0 ≤ n6) (f13 : n6 = hV H1 (n3).toNat 82) (f14 : n0 < n6) (f15 : n7 = 298) (f16 : n7 = hV H1 (n3).toNat 24) (f17 : n8 = 344) (f18 : n8 = hV H1 (n3).toNat 83) (f19 : n9 ≤ 1007) (f20 : 0 ≤ n9) (f21 : n9 = hV H1 (n8).toNat (n0).toNat) (f22 : n10 ≤ 5) (f23 : 0 ≤ n10) (f24 : n10 = hV H1 (n7).toNat (n9).toNat) (f25 : n11 = 3) (f26 : n10 ≠ n11) (f27 : n12 = w32 (n0 + 1)) : 0 ≤ n12 := by
  have g4 := f10.2.1.1
  unfold Ab_274_354 at g4
  have g3 := f10.2.1.2
  unfold preb_274 at g3
  have e0 : n6 = hV H1 285 82 := (by rw [f6] at f13; exact f13 : n6 = hV H1 285 82)
  have e1 : n9 = hV H1 344 (n0).toNat := (by rw [f17] at f21; exact f21 : n9 = hV H1 344 (n0).toNat)
  have e2 : hV H1 298 = hV H0 298 := fRow f10.1.2.1 298 kR_274_298
  have e3 : n10 = hV H0 298 (n9).toNat := (by rw [f15] at f24; exact f24 : n10 = hV H1 298 (n9).toNat).trans ((congrFun e2 _))
  have e6 : hV H1 300 = hV H0 300 := fRow f10.1.2.1 300 kR_274_300
  have e7 : hV H1 301 = hV H0 301 := fRow f10.1.2.1 301 kR_274_301
  have e8 : hV H1 302 = hV H0 302 := fRow f10.1.2.1 302 kR_274_302
  have e9 : hV H1 303 = hV H0 303 := fRow f10.1.2.1 303 kR_274_303
  have e10 : hV H1 305 = hV H0 305 := fRow f10.1.2.1 305 kR_274_305
  have e11 : (0 : Int) ≤ hV H0 285 18 ∧ hV H0 285 18 ≤ 8 := bTo ((f10.1.2.1.1 285 18 kF_274_285_18)) (f10.1.2.2 285 18 _ _ kW_285_18)
  have e12 : (0 : Int) ≤ hV H1 285 82 ∧ hV H1 285 82 ≤ 40 := f10.1.2.2 285 82 _ _ kW_285_82
  try simp only [XQ] at *
  try simp only [e2, e6, e7, e8, e9, e10] at g4
  have k0 := g4.1
  have y0 := g4.2
  have p0 := g3.1
  have p1 := g3.2.1
  have p2 := g3.2.2
  clear g3
  clear g4
  clear f13 f16 f18 f21 f24 e2 e6 e7 e8 e9 e10
  subst e0
  subst e1
  subst e3
  try have xd := XQp_3 y0 (s := (n0).toNat) (by omega) (by omega) (by omega)
  first
  | (have ix0 : n12 = n0 + 1 := Eq.trans f27 (w32_iv (Iad (Iat f1 f0) (IC 1)) (by decide)); subst ix0; clear f27)
  | (have ix0 : n12 = n0 + 1 := Eq.trans f27 (w32_id (by omega) (by omega)); subst ix0; clear f27)
  | (unfold w32 at f27; have ix0 : n12 = n0 + 1 := (by omega); subst ix0)
  | skip
  try unfold w32 at f27
  try subst k0
  omega
theorem c_274_354_2 {q0 : Nat} : vOkm T0 (eP e_274 L_274 A_274 mu_274 (some q0)) 2 ([(10, [12, 5], [], 1), (41, [10, 11], [], 0), (0, [11], [], 3), (22, [10, 7, 9], [1], 0), (90, [10], [], 0), (91, [10], [], 5), (22, [9, 8, 5], [1], 0), (90, [9], [], 0), (91, [9], [], 1007), (20, [8, 2], [1], 83), (0, [8], [], 344), (20, [7, 2], [1], 24), (0, [7], [], 298), (42, [5, 6], [], 0), (20, [6, 2], [1], 82), (90, [6], [], 0), (91, [6], [], 40), (5000, [0, 1, 2, 3, 4, 5], [0, 1], 354), (0, [0], [], 285), (90, [1], [], 0), (91, [1], [], 7), (0, [2], [], 285), (90, [3], [], 0), (91, [3], [], 7), (90, [4], [], -2147483648), (91, [4], [], 2147483647), (90, [5], [], 0), (91, [5], [], 40)], (90, [12], [], 0)) := vOk_inI fun ρ η f0 f1 f2 f3 f4 f5 f6 f7 f8 f9 f10 f11 f12 f13 f14 f15 f16 f17 f18 f19 f20 f21 f22 f23 f24 f25 f26 f27 => q_274_71 (q0 := q0) (n0 := ρ 5) (n1 := ρ 4) (n2 := ρ 3) (n3 := ρ 2) (n4 := ρ 1) (n5 := ρ 0) (n6 := ρ 6) (n7 := ρ 7) (n8 := ρ 8) (n9 := ρ 9) (n10 := ρ 10) (n11 := ρ 11) (n12 := ρ 12) (H0 := η 0) (H1 := η 1) f27 f26 f25 f24 f23 f22 f21 f20 f19 f18 f17 f16 f15 f14 f13 f12 f11 f10 f9 f8 f7 f6 f5 f4 f3 f2 f1 f0
theorem q_274_72 {q0 : Nat} {n0 n1 n2 n3 n4 n5 n6 n7 n8 n9 n10 n11 n12 : Int} {H0 H1 : gH} (f0 : n0 ≤ 40) (f1 : 0 ≤ n0) (f2 : n1 ≤ 2147483647) (f3 : (-2147483648) ≤ n1) (f4 : n2 ≤ 7) (f5 : 0 ≤ n2) (f6 : n3 = 285) (f7 : n4 ≤ 7) (f8 : 0 ≤ n4) (f9 : n5 = 285) (f10 : (hLe T0 H0 H1 ∧ hFr s_274.2.2.2.2 H0 H1 ∧ hWt T0 H1) ∧ (Ab_274_354 n5 n4 n3 n2 n1 n0 H0 H1 ∧ preb_274 n5 n4 H0) ∧ some q0 = some (mub_274_354 n5 n4 n3 n2 n1 n0 H0 H1)) (f11 : n6 ≤ 40) (f12 : 0 ≤ n6) (f13 : n6 = hV H1 (n3).toNat 82) (f14 : n0 < n6) (f15 : n7 = 298) (f16 : n7 = hV H1 (n3).toNat 24) (f17 : n8 = 344) (f18 : n8 = hV H1 (n3).toNat 83) (f19 : n9 ≤ 1007) (f20 : 0 ≤ n9) (f21 : n9 = hV H1 (n8).toNat (n0).toNat) (f22 : n10 ≤ 5) (f23 : 0 ≤ n10) (f24 : n10 = hV H1 (n7).toNat (n9).toNat) (f25 : n11 = 3) (f26 : n10 ≠ n11) (f27 : n12 = w32 (n0 + 1)) : n12 ≤ 40 := by
  have g4 := f10.2.1.1
  unfold Ab_274_354 at g4
  have g3 := f10.2.1.2
  unfold preb_274 at g3
  have e0 : n6 = hV H1 285 82 := (by rw [f6] at f13; exact f13 : n6 = hV H1 285 82)
  have e1 : n9 = hV H1 344 (n0).toNat := (by rw [f17] at f21; exact f21 : n9 = hV H1 344 (n0).toNat)
  have e2 : hV H1 298 = hV H0 298 := fRow f10.1.2.1 298 kR_274_298
  have e3 : n10 = hV H0 298 (n9).toNat := (by rw [f15] at f24; exact f24 : n10 = hV H1 298 (n9).toNat).trans ((congrFun e2 _))
  have e6 : hV H1 300 = hV H0 300 := fRow f10.1.2.1 300 kR_274_300
  have e7 : hV H1 301 = hV H0 301 := fRow f10.1.2.1 301 kR_274_301
  have e8 : hV H1 302 = hV H0 302 := fRow f10.1.2.1 302 kR_274_302
  have e9 : hV H1 303 = hV H0 303 := fRow f10.1.2.1 303 kR_274_303
  have e10 : hV H1 305 = hV H0 305 := fRow f10.1.2.1 305 kR_274_305
  have e11 : (0 : Int) ≤ hV H0 285 18 ∧ hV H0 285 18 ≤ 8 := bTo ((f10.1.2.1.1 285 18 kF_274_285_18)) (f10.1.2.2 285 18 _ _ kW_285_18)
  have e12 : (0 : Int) ≤ hV H1 285 82 ∧ hV H1 285 82 ≤ 40 := f10.1.2.2 285 82 _ _ kW_285_82
  try simp only [XQ] at *
  try simp only [e2, e6, e7, e8, e9, e10] at g4
  have k0 := g4.1
  have y0 := g4.2
  have p0 := g3.1
  have p1 := g3.2.1
  have p2 := g3.2.2
  clear g3
  clear g4
  clear f13 f16 f18 f21 f24 e2 e6 e7 e8 e9 e10
  subst e0
  subst e1
  subst e3
  try have xd := XQp_3 y0 (s := (n0).toNat) (by omega) (by omega) (by omega)
  first
  | (have ix0 : n12 = n0 + 1 := Eq.trans f27 (w32_iv (Iad (Iat f1 f0) (IC 1)) (by decide)); subst ix0; clear f27)
  | (have ix0 : n12 = n0 + 1 := Eq.trans f27 (w32_id (by omega) (by omega)); subst ix0; clear f27)
  | (unfold w32 at f27; have ix0 : n12 = n0 + 1 := (by omega); subst ix0)
  | skip
  try unfold w32 at f27
  try subst k0
  omega
theorem c_274_354_3 {q0 : Nat} : vOkm T0 (eP e_274 L_274 A_274 mu_274 (some q0)) 2 ([(10, [12, 5], [], 1), (41, [10, 11], [], 0), (0, [11], [], 3), (22, [10, 7, 9], [1], 0), (90, [10], [], 0), (91, [10], [], 5), (22, [9, 8, 5], [1], 0), (90, [9], [], 0), (91, [9], [], 1007), (20, [8, 2], [1], 83), (0, [8], [], 344), (20, [7, 2], [1], 24), (0, [7], [], 298), (42, [5, 6], [], 0), (20, [6, 2], [1], 82), (90, [6], [], 0), (91, [6], [], 40), (5000, [0, 1, 2, 3, 4, 5], [0, 1], 354), (0, [0], [], 285), (90, [1], [], 0), (91, [1], [], 7), (0, [2], [], 285), (90, [3], [], 0), (91, [3], [], 7), (90, [4], [], -2147483648), (91, [4], [], 2147483647), (90, [5], [], 0), (91, [5], [], 40)], (91, [12], [], 40)) := vOk_inI fun ρ η f0 f1 f2 f3 f4 f5 f6 f7 f8 f9 f10 f11 f12 f13 f14 f15 f16 f17 f18 f19 f20 f21 f22 f23 f24 f25 f26 f27 => q_274_72 (q0 := q0) (n0 := ρ 5) (n1 := ρ 4) (n2 := ρ 3) (n3 := ρ 2) (n4 := ρ 1) (n5 := ρ 0) (n6 := ρ 6) (n7 := ρ 7) (n8 := ρ 8) (n9 := ρ 9) (n10 := ρ 10) (n11 := ρ 11) (n12 := ρ 12) (H0 := η 0) (H1 := η 1) f27 f26 f25 f24 f23 f22 f21 f20 f19 f18 f17 f16 f15 f14 f13 f12 f11 f10 f9 f8 f7 f6 f5 f4 f3 f2 f1 f0
theorem q_274_73 {q0 : Nat} {n0 n1 n2 n3 n4 n5 n6 n7 n8 n9 n10 n11 n12 : Int} {H0 H1 : gH} (f0 : n0 ≤ 40) (f1 : 0 ≤ n0) (f2 : n1 ≤ 2147483647) (f3 : (-2147483648) ≤ n1) (f4 : n2 ≤ 7) (f5 : 0 ≤ n2) (f6 : n3 = 285) (f7 : n4 ≤ 7) (f8 : 0 ≤ n4) (f9 : n5 = 285) (f10 : (hLe T0 H0 H1 ∧ hFr s_274.2.2.2.2 H0 H1 ∧ hWt T0 H1) ∧ (Ab_274_354 n5 n4 n3 n2 n1 n0 H0 H1 ∧ preb_274 n5 n4 H0) ∧ some q0 = some (mub_274_354 n5 n4 n3 n2 n1 n0 H0 H1)) (f11 : n6 ≤ 40) (f12 : 0 ≤ n6) (f13 : n6 = hV H1 (n3).toNat 82) (f14 : n0 < n6) (f15 : n7 = 298) (f16 : n7 = hV H1 (n3).toNat 24) (f17 : n8 = 344) (f18 : n8 = hV H1 (n3).toNat 83) (f19 : n9 ≤ 1007) (f20 : 0 ≤ n9) (f21 : n9 = hV H1 (n8).toNat (n0).toNat) (f22 : n10 ≤ 5) (f23 : 0 ≤ n10) (f24 : n10 = hV H1 (n7).toNat (n9).toNat) (f25 : n11 = 3) (f26 : n10 ≠ n11) (f27 : n12 = w32 (n0 + 1)) : Ab_274_354 n5 n4 n3 n2 n1 n12 H0 H1 ∧ ∀ q, some q0 = some q → mub_274_354 n5 n4 n3 n2 n1 n12 H0 H1 < q := by
  have g4 := f10.2.1.1
  unfold Ab_274_354 at g4
  have g3 := f10.2.1.2
  unfold preb_274 at g3
  have g5 := Option.some.inj f10.2.2
  unfold mub_274_354 at g5
  unfold Ab_274_354
  unfold mub_274_354
  have e0 : n6 = hV H1 285 82 := (by rw [f6] at f13; exact f13 : n6 = hV H1 285 82)
  have e1 : n9 = hV H1 344 (n0).toNat := (by rw [f17] at f21; exact f21 : n9 = hV H1 344 (n0).toNat)
  have e2 : hV H1 298 = hV H0 298 := fRow f10.1.2.1 298 kR_274_298
  have e3 : n10 = hV H0 298 (n9).toNat := (by rw [f15] at f24; exact f24 : n10 = hV H1 298 (n9).toNat).trans ((congrFun e2 _))
  have e6 : hV H1 300 = hV H0 300 := fRow f10.1.2.1 300 kR_274_300
  have e7 : hV H1 301 = hV H0 301 := fRow f10.1.2.1 301 kR_274_301
  have e8 : hV H1 302 = hV H0 302 := fRow f10.1.2.1 302 kR_274_302
  have e9 : hV H1 303 = hV H0 303 := fRow f10.1.2.1 303 kR_274_303
  have e10 : hV H1 305 = hV H0 305 := fRow f10.1.2.1 305 kR_274_305
  have e11 : (0 : Int) ≤ hV H0 285 18 ∧ hV H0 285 18 ≤ 8 := bTo ((f10.1.2.1.1 285 18 kF_274_285_18)) (f10.1.2.2 285 18 _ _ kW_285_18)
  have e12 : (0 : Int) ≤ hV H1 285 82 ∧ hV H1 285 82 ≤ 40 := f10.1.2.2 285 82 _ _ kW_285_82
  try simp only [XQ] at *
  try simp only [e2, e6, e7, e8, e9, e10] at g4
  try simp only [e2, e6, e7, e8, e9, e10]
  have k0 := g4.1
  have y0 := g4.2
  have p0 := g3.1
  have p1 := g3.2.1
  have p2 := g3.2.2
  clear g3
  clear g4
  clear f13 f16 f18 f21 f24 e2 e6 e7 e8 e9 e10
  subst e0
  subst e1
  subst e3
  try have xd := XQp_3 y0 (s := (n0).toNat) (by omega) (by omega) (by omega)
  first
  | (have ix0 : n12 = n0 + 1 := Eq.trans f27 (w32_iv (Iad (Iat f1 f0) (IC 1)) (by decide)); subst ix0; clear f27)
  | (have ix0 : n12 = n0 + 1 := Eq.trans f27 (w32_id (by omega) (by omega)); subst ix0; clear f27)
  | (unfold w32 at f27; have ix0 : n12 = n0 + 1 := (by omega); subst ix0)
  | skip
  try unfold w32 at f27
  try subst k0
  refine ⟨?_, fun q hq => ?_⟩
  · refine ⟨?_, ?_⟩ <;> first | assumption | omega | trivial
  · have g6 := Option.some.inj hq
    subst g6
    omega
theorem c_274_354_4 {q0 : Nat} : vOkm T0 (eP e_274 L_274 A_274 mu_274 (some q0)) 2 ([(10, [12, 5], [], 1), (41, [10, 11], [], 0), (0, [11], [], 3), (22, [10, 7, 9], [1], 0), (90, [10], [], 0), (91, [10], [], 5), (22, [9, 8, 5], [1], 0), (90, [9], [], 0), (91, [9], [], 1007), (20, [8, 2], [1], 83), (0, [8], [], 344), (20, [7, 2], [1], 24), (0, [7], [], 298), (42, [5, 6], [], 0), (20, [6, 2], [1], 82), (90, [6], [], 0), (91, [6], [], 40), (5000, [0, 1, 2, 3, 4, 5], [0, 1], 354), (0, [0], [], 285), (90, [1], [], 0), (91, [1], [], 7), (0, [2], [], 285), (90, [3], [], 0), (91, [3], [], 7), (90, [4], [], -2147483648), (91, [4], [], 2147483647), (90, [5], [], 0), (91, [5], [], 40)], (4000, [2, 3, 4, 12], [1], 354)) := vOk_inI fun ρ η f0 f1 f2 f3 f4 f5 f6 f7 f8 f9 f10 f11 f12 f13 f14 f15 f16 f17 f18 f19 f20 f21 f22 f23 f24 f25 f26 f27 => q_274_73 (q0 := q0) (n0 := ρ 5) (n1 := ρ 4) (n2 := ρ 3) (n3 := ρ 2) (n4 := ρ 1) (n5 := ρ 0) (n6 := ρ 6) (n7 := ρ 7) (n8 := ρ 8) (n9 := ρ 9) (n10 := ρ 10) (n11 := ρ 11) (n12 := ρ 12) (H0 := η 0) (H1 := η 1) f27 f26 f25 f24 f23 f22 f21 f20 f19 f18 f17 f16 f15 f14 f13 f12 f11 f10 f9 f8 f7 f6 f5 f4 f3 f2 f1 f0
theorem q_274_74 {q0 : Nat} {n0 n1 n2 n3 n4 n5 n6 n7 n8 n9 n10 n11 n12 : Int} {H0 H1 : gH} (f0 : n0 ≤ 40) (f1 : 0 ≤ n0) (f2 : n1 ≤ 2147483647) (f3 : (-2147483648) ≤ n1) (f4 : n2 ≤ 7) (f5 : 0 ≤ n2) (f6 : n3 = 285) (f7 : n4 ≤ 7) (f8 : 0 ≤ n4) (f9 : n5 = 285) (f10 : (hLe T0 H0 H1 ∧ hFr s_274.2.2.2.2 H0 H1 ∧ hWt T0 H1) ∧ (Ab_274_354 n5 n4 n3 n2 n1 n0 H0 H1 ∧ preb_274 n5 n4 H0) ∧ some q0 = some (mub_274_354 n5 n4 n3 n2 n1 n0 H0 H1)) (f11 : n6 ≤ 40) (f12 : 0 ≤ n6) (f13 : n6 = hV H1 (n3).toNat 82) (f14 : n0 < n6) (f15 : n7 = 298) (f16 : n7 = hV H1 (n3).toNat 24) (f17 : n8 = 344) (f18 : n8 = hV H1 (n3).toNat 83) (f19 : n9 ≤ 1007) (f20 : 0 ≤ n9) (f21 : n9 = hV H1 (n8).toNat (n0).toNat) (f22 : n10 ≤ 5) (f23 : 0 ≤ n10) (f24 : n10 = hV H1 (n7).toNat (n9).toNat) (f25 : n11 = 3) (f26 : n10 = n11) (f27 : n12 = 344) (f28 : n12 = hV H1 (n3).toNat 83) : 0 ≤ n0 ∧ n0 < 40 := by
  have g4 := f10.2.1.1
  unfold Ab_274_354 at g4
  have g3 := f10.2.1.2
  unfold preb_274 at g3
  have e0 : n6 = hV H1 285 82 := (by rw [f6] at f13; exact f13 : n6 = hV H1 285 82)
  have e1 : n9 = hV H1 344 (n0).toNat := (by rw [f17] at f21; exact f21 : n9 = hV H1 344 (n0).toNat)
  have e2 : hV H1 298 = hV H0 298 := fRow f10.1.2.1 298 kR_274_298
  have e3 : n10 = hV H0 298 (n9).toNat := (by rw [f15] at f24; exact f24 : n10 = hV H1 298 (n9).toNat).trans ((congrFun e2 _))
  have e6 : hV H1 300 = hV H0 300 := fRow f10.1.2.1 300 kR_274_300
  have e7 : hV H1 301 = hV H0 301 := fRow f10.1.2.1 301 kR_274_301
  have e8 : hV H1 302 = hV H0 302 := fRow f10.1.2.1 302 kR_274_302
  have e9 : hV H1 303 = hV H0 303 := fRow f10.1.2.1 303 kR_274_303
  have e10 : hV H1 305 = hV H0 305 := fRow f10.1.2.1 305 kR_274_305
  have e11 : (0 : Int) ≤ hV H0 285 18 ∧ hV H0 285 18 ≤ 8 := bTo ((f10.1.2.1.1 285 18 kF_274_285_18)) (f10.1.2.2 285 18 _ _ kW_285_18)
  have e12 : (0 : Int) ≤ hV H1 285 82 ∧ hV H1 285 82 ≤ 40 := f10.1.2.2 285 82 _ _ kW_285_82
  try simp only [XQ] at *
  try simp only [e2, e6, e7, e8, e9, e10] at g4
  have k0 := g4.1
  have y0 := g4.2
  have p0 := g3.1
  have p1 := g3.2.1
  have p2 := g3.2.2
  clear g3
  clear g4
  clear f13 f16 f18 f21 f24 f28 e2 e6 e7 e8 e9 e10
  subst e0
  subst e1
  subst e3
  try have xd := XQp_3 y0 (s := (n0).toNat) (by omega) (by omega) (by omega)
  try subst k0
  omega
theorem c_274_354_5 {q0 : Nat} : vOkm T0 (eP e_274 L_274 A_274 mu_274 (some q0)) 2 ([(20, [12, 2], [1], 83), (0, [12], [], 344), (40, [10, 11], [], 0), (0, [11], [], 3), (22, [10, 7, 9], [1], 0), (90, [10], [], 0), (91, [10], [], 5), (22, [9, 8, 5], [1], 0), (90, [9], [], 0), (91, [9], [], 1007), (20, [8, 2], [1], 83), (0, [8], [], 344), (20, [7, 2], [1], 24), (0, [7], [], 298), (42, [5, 6], [], 0), (20, [6, 2], [1], 82), (90, [6], [], 0), (91, [6], [], 40), (5000, [0, 1, 2, 3, 4, 5], [0, 1], 354), (0, [0], [], 285), (90, [1], [], 0), (91, [1], [], 7), (0, [2], [], 285), (90, [3], [], 0), (91, [3], [], 7), (90, [4], [], -2147483648), (91, [4], [], 2147483647), (90, [5], [], 0), (91, [5], [], 40)], (70, [5], [], 40)) := vOk_inI fun ρ η f0 f1 f2 f3 f4 f5 f6 f7 f8 f9 f10 f11 f12 f13 f14 f15 f16 f17 f18 f19 f20 f21 f22 f23 f24 f25 f26 f27 f28 => q_274_74 (q0 := q0) (n0 := ρ 5) (n1 := ρ 4) (n2 := ρ 3) (n3 := ρ 2) (n4 := ρ 1) (n5 := ρ 0) (n6 := ρ 6) (n7 := ρ 7) (n8 := ρ 8) (n9 := ρ 9) (n10 := ρ 10) (n11 := ρ 11) (n12 := ρ 12) (H0 := η 0) (H1 := η 1) f28 f27 f26 f25 f24 f23 f22 f21 f20 f19 f18 f17 f16 f15 f14 f13 f12 f11 f10 f9 f8 f7 f6 f5 f4 f3 f2 f1 f0
theorem q_274_75 {q0 : Nat} {n0 n1 n2 n3 n4 n5 n6 n7 n8 n9 n10 n11 n12 n13 : Int} {H0 H1 : gH} (f0 : n0 ≤ 40) (f1 : 0 ≤ n0) (f2 : n1 ≤ 2147483647) (f3 : (-2147483648) ≤ n1) (f4 : n2 ≤ 7) (f5 : 0 ≤ n2) (f6 : n3 = 285) (f7 : n4 ≤ 7) (f8 : 0 ≤ n4) (f9 : n5 = 285) (f10 : (hLe T0 H0 H1 ∧ hFr s_274.2.2.2.2 H0 H1 ∧ hWt T0 H1) ∧ (Ab_274_354 n5 n4 n3 n2 n1 n0 H0 H1 ∧ preb_274 n5 n4 H0) ∧ some q0 = some (mub_274_354 n5 n4 n3 n2 n1 n0 H0 H1)) (f11 : n6 ≤ 40) (f12 : 0 ≤ n6) (f13 : n6 = hV H1 (n3).toNat 82) (f14 : n0 < n6) (f15 : n7 = 298) (f16 : n7 = hV H1 (n3).toNat 24) (f17 : n8 = 344) (f18 : n8 = hV H1 (n3).toNat 83) (f19 : n9 ≤ 1007) (f20 : 0 ≤ n9) (f21 : n9 = hV H1 (n8).toNat (n0).toNat) (f22 : n10 ≤ 5) (f23 : 0 ≤ n10) (f24 : n10 = hV H1 (n7).toNat (n9).toNat) (f25 : n11 = 3) (f26 : n10 = n11) (f27 : n12 = 344) (f28 : n12 = hV H1 (n3).toNat 83) (f29 : n13 ≤ 1007) (f30 : 0 ≤ n13) (f31 : n13 = hV H1 (n12).toNat (n0).toNat) : preb_277 n3 n13 H1 := by
  have g4 := f10.2.1.1
  unfold Ab_274_354 at g4
  have g3 := f10.2.1.2
  unfold preb_274 at g3
  unfold preb_277
  have e0 : n6 = hV H1 285 82 := (by rw [f6] at f13; exact f13 : n6 = hV H1 285 82)
  have e1 : n9 = hV H1 344 (n0).toNat := (by rw [f17] at f21; exact f21 : n9 = hV H1 344 (n0).toNat)
  have e2 : hV H1 298 = hV H0 298 := fRow f10.1.2.1 298 kR_274_298
  have e3 : n10 = hV H0 298 (n9).toNat := (by rw [f15] at f24; exact f24 : n10 = hV H1 298 (n9).toNat).trans ((congrFun e2 _))
  have e4 : n13 = hV H1 344 (n0).toNat := (by rw [f27] at f31; exact f31 : n13 = hV H1 344 (n0).toNat)
  have e7 : hV H1 300 = hV H0 300 := fRow f10.1.2.1 300 kR_274_300
  have e8 : hV H1 301 = hV H0 301 := fRow f10.1.2.1 301 kR_274_301
  have e9 : hV H1 302 = hV H0 302 := fRow f10.1.2.1 302 kR_274_302
  have e10 : hV H1 303 = hV H0 303 := fRow f10.1.2.1 303 kR_274_303
  have e11 : hV H1 305 = hV H0 305 := fRow f10.1.2.1 305 kR_274_305
  have e12 : (0 : Int) ≤ hV H0 285 18 ∧ hV H0 285 18 ≤ 8 := bTo ((f10.1.2.1.1 285 18 kF_274_285_18)) (f10.1.2.2 285 18 _ _ kW_285_18)
  have e13 : (0 : Int) ≤ hV H1 285 82 ∧ hV H1 285 82 ≤ 40 := f10.1.2.2 285 82 _ _ kW_285_82
  try simp only [XQ] at *
  try simp only [e2, e7, e8, e9, e10, e11] at g4
  try simp only [e7, e11]
  have k0 := g4.1
  have y0 := g4.2
  have p0 := g3.1
  have p1 := g3.2.1
  have p2 := g3.2.2
  clear g3
  clear g4
  clear f13 f16 f18 f21 f24 f28 f31 e2 e7 e8 e9 e10 e11
  subst e0
  subst e1
  subst e3
  subst e4
  try have xd := XQp_3 y0 (s := (n0).toNat) (by omega) (by omega) (by omega)
  try subst k0
  refine ⟨?_, ?_, ?_⟩ <;> first | assumption | omega | trivial
theorem c_274_354_6 {q0 : Nat} : vOkm T0 (eP e_274 L_274 A_274 mu_274 (some q0)) 2 ([(22, [13, 12, 5], [1], 0), (90, [13], [], 0), (91, [13], [], 1007), (20, [12, 2], [1], 83), (0, [12], [], 344), (40, [10, 11], [], 0), (0, [11], [], 3), (22, [10, 7, 9], [1], 0), (90, [10], [], 0), (91, [10], [], 5), (22, [9, 8, 5], [1], 0), (90, [9], [], 0), (91, [9], [], 1007), (20, [8, 2], [1], 83), (0, [8], [], 344), (20, [7, 2], [1], 24), (0, [7], [], 298), (42, [5, 6], [], 0), (20, [6, 2], [1], 82), (90, [6], [], 0), (91, [6], [], 40), (5000, [0, 1, 2, 3, 4, 5], [0, 1], 354), (0, [0], [], 285), (90, [1], [], 0), (91, [1], [], 7), (0, [2], [], 285), (90, [3], [], 0), (91, [3], [], 7), (90, [4], [], -2147483648), (91, [4], [], 2147483647), (90, [5], [], 0), (91, [5], [], 40)], (2277, [2, 13], [1], 0)) := vOk_inI fun ρ η f0 f1 f2 f3 f4 f5 f6 f7 f8 f9 f10 f11 f12 f13 f14 f15 f16 f17 f18 f19 f20 f21 f22 f23 f24 f25 f26 f27 f28 f29 f30 f31 => q_274_75 (q0 := q0) (n0 := ρ 5) (n1 := ρ 4) (n2 := ρ 3) (n3 := ρ 2) (n4 := ρ 1) (n5 := ρ 0) (n6 := ρ 6) (n7 := ρ 7) (n8 := ρ 8) (n9 := ρ 9) (n10 := ρ 10) (n11 := ρ 11) (n12 := ρ 12) (n13 := ρ 13) (H0 := η 0) (H1 := η 1) f31 f30 f29 f28 f27 f26 f25 f24 f23 f22 f21 f20 f19 f18 f17 f16 f15 f14 f13 f12 f11 f10 f9 f8 f7 f6 f5 f4 f3 f2 f1 f0
theorem q_274_76 {q0 : Nat} {n0 n1 n2 n3 n4 n5 n6 n7 n8 n9 n10 n11 n12 n13 n14 : Int} {H0 H1 : gH} (f0 : n0 ≤ 40) (f1 : 0 ≤ n0) (f2 : n1 ≤ 2147483647) (f3 : (-2147483648) ≤ n1) (f4 : n2 ≤ 7) (f5 : 0 ≤ n2) (f6 : n3 = 285) (f7 : n4 ≤ 7) (f8 : 0 ≤ n4) (f9 : n5 = 285) (f10 : (hLe T0 H0 H1 ∧ hFr s_274.2.2.2.2 H0 H1 ∧ hWt T0 H1) ∧ (Ab_274_354 n5 n4 n3 n2 n1 n0 H0 H1 ∧ preb_274 n5 n4 H0) ∧ some q0 = some (mub_274_354 n5 n4 n3 n2 n1 n0 H0 H1)) (f11 : n6 ≤ 40) (f12 : 0 ≤ n6) (f13 : n6 = hV H1 (n3).toNat 82) (f14 : n0 < n6) (f15 : n7 = 298) (f16 : n7 = hV H1 (n3).toNat 24) (f17 : n8 = 344) (f18 : n8 = hV H1 (n3).toNat 83) (f19 : n9 ≤ 1007) (f20 : 0 ≤ n9) (f21 : n9 = hV H1 (n8).toNat (n0).toNat) (f22 : n10 ≤ 5) (f23 : 0 ≤ n10) (f24 : n10 = hV H1 (n7).toNat (n9).toNat) (f25 : n11 = 3) (f26 : n10 = n11) (f27 : n12 = 344) (f28 : n12 = hV H1 (n3).toNat 83) (f29 : n13 ≤ 1007) (f30 : 0 ≤ n13) (f31 : n13 = hV H1 (n12).toNat (n0).toNat) (f32 : n14 = w32 (n0 + 1)) : 0 ≤ n14 := by
  have g4 := f10.2.1.1
  unfold Ab_274_354 at g4
  have g3 := f10.2.1.2
  unfold preb_274 at g3
  have e0 : n6 = hV H1 285 82 := (by rw [f6] at f13; exact f13 : n6 = hV H1 285 82)
  have e1 : n9 = hV H1 344 (n0).toNat := (by rw [f17] at f21; exact f21 : n9 = hV H1 344 (n0).toNat)
  have e2 : hV H1 298 = hV H0 298 := fRow f10.1.2.1 298 kR_274_298
  have e3 : n10 = hV H0 298 (n9).toNat := (by rw [f15] at f24; exact f24 : n10 = hV H1 298 (n9).toNat).trans ((congrFun e2 _))
  have e4 : n13 = hV H1 344 (n0).toNat := (by rw [f27] at f31; exact f31 : n13 = hV H1 344 (n0).toNat)
  have e7 : hV H1 300 = hV H0 300 := fRow f10.1.2.1 300 kR_274_300
  have e8 : hV H1 301 = hV H0 301 := fRow f10.1.2.1 301 kR_274_301
  have e9 : hV H1 302 = hV H0 302 := fRow f10.1.2.1 302 kR_274_302
  have e10 : hV H1 303 = hV H0 303 := fRow f10.1.2.1 303 kR_274_303
  have e11 : hV H1 305 = hV H0 305 := fRow f10.1.2.1 305 kR_274_305
  have e12 : (0 : Int) ≤ hV H0 285 18 ∧ hV H0 285 18 ≤ 8 := bTo ((f10.1.2.1.1 285 18 kF_274_285_18)) (f10.1.2.2 285 18 _ _ kW_285_18)
  have e13 : (0 : Int) ≤ hV H1 285 82 ∧ hV H1 285 82 ≤ 40 := f10.1.2.2 285 82 _ _ kW_285_82
  try simp only [XQ] at *
  try simp only [e2, e7, e8, e9, e10, e11] at g4
  have k0 := g4.1
  have y0 := g4.2
  have p0 := g3.1
  have p1 := g3.2.1
  have p2 := g3.2.2
  clear g3
  clear g4
  clear f13 f16 f18 f21 f24 f28 f31 e2 e7 e8 e9 e10 e11
  subst e0
  subst e1
  subst e3
  subst e4
  try have xd := XQp_3 y0 (s := (n0).toNat) (by omega) (by omega) (by omega)
  first
  | (have ix0 : n14 = n0 + 1 := Eq.trans f32 (w32_iv (Iad (Iat f1 f0) (IC 1)) (by decide)); subst ix0; clear f32)
  | (have ix0 : n14 = n0 + 1 := Eq.trans f32 (w32_id (by omega) (by omega)); subst ix0; clear f32)
  | (unfold w32 at f32; have ix0 : n14 = n0 + 1 := (by omega); subst ix0)
  | skip
  try unfold w32 at f32
  try subst k0
  omega
theorem c_274_354_7 {q0 : Nat} : vOkm T0 (eP e_274 L_274 A_274 mu_274 (some q0)) 2 ([(10, [14, 5], [], 1), (22, [13, 12, 5], [1], 0), (90, [13], [], 0), (91, [13], [], 1007), (20, [12, 2], [1], 83), (0, [12], [], 344), (40, [10, 11], [], 0), (0, [11], [], 3), (22, [10, 7, 9], [1], 0), (90, [10], [], 0), (91, [10], [], 5), (22, [9, 8, 5], [1], 0), (90, [9], [], 0), (91, [9], [], 1007), (20, [8, 2], [1], 83), (0, [8], [], 344), (20, [7, 2], [1], 24), (0, [7], [], 298), (42, [5, 6], [], 0), (20, [6, 2], [1], 82), (90, [6], [], 0), (91, [6], [], 40), (5000, [0, 1, 2, 3, 4, 5], [0, 1], 354), (0, [0], [], 285), (90, [1], [], 0), (91, [1], [], 7), (0, [2], [], 285), (90, [3], [], 0), (91, [3], [], 7), (90, [4], [], -2147483648), (91, [4], [], 2147483647), (90, [5], [], 0), (91, [5], [], 40)], (90, [14], [], 0)) := vOk_inI fun ρ η f0 f1 f2 f3 f4 f5 f6 f7 f8 f9 f10 f11 f12 f13 f14 f15 f16 f17 f18 f19 f20 f21 f22 f23 f24 f25 f26 f27 f28 f29 f30 f31 f32 => q_274_76 (q0 := q0) (n0 := ρ 5) (n1 := ρ 4) (n2 := ρ 3) (n3 := ρ 2) (n4 := ρ 1) (n5 := ρ 0) (n6 := ρ 6) (n7 := ρ 7) (n8 := ρ 8) (n9 := ρ 9) (n10 := ρ 10) (n11 := ρ 11) (n12 := ρ 12) (n13 := ρ 13) (n14 := ρ 14) (H0 := η 0) (H1 := η 1) f32 f31 f30 f29 f28 f27 f26 f25 f24 f23 f22 f21 f20 f19 f18 f17 f16 f15 f14 f13 f12 f11 f10 f9 f8 f7 f6 f5 f4 f3 f2 f1 f0
theorem q_274_77 {q0 : Nat} {n0 n1 n2 n3 n4 n5 n6 n7 n8 n9 n10 n11 n12 n13 n14 : Int} {H0 H1 : gH} (f0 : n0 ≤ 40) (f1 : 0 ≤ n0) (f2 : n1 ≤ 2147483647) (f3 : (-2147483648) ≤ n1) (f4 : n2 ≤ 7) (f5 : 0 ≤ n2) (f6 : n3 = 285) (f7 : n4 ≤ 7) (f8 : 0 ≤ n4) (f9 : n5 = 285) (f10 : (hLe T0 H0 H1 ∧ hFr s_274.2.2.2.2 H0 H1 ∧ hWt T0 H1) ∧ (Ab_274_354 n5 n4 n3 n2 n1 n0 H0 H1 ∧ preb_274 n5 n4 H0) ∧ some q0 = some (mub_274_354 n5 n4 n3 n2 n1 n0 H0 H1)) (f11 : n6 ≤ 40) (f12 : 0 ≤ n6) (f13 : n6 = hV H1 (n3).toNat 82) (f14 : n0 < n6) (f15 : n7 = 298) (f16 : n7 = hV H1 (n3).toNat 24) (f17 : n8 = 344) (f18 : n8 = hV H1 (n3).toNat 83) (f19 : n9 ≤ 1007) (f20 : 0 ≤ n9) (f21 : n9 = hV H1 (n8).toNat (n0).toNat) (f22 : n10 ≤ 5) (f23 : 0 ≤ n10) (f24 : n10 = hV H1 (n7).toNat (n9).toNat) (f25 : n11 = 3) (f26 : n10 = n11) (f27 : n12 = 344) (f28 : n12 = hV H1 (n3).toNat 83) (f29 : n13 ≤ 1007) (f30 : 0 ≤ n13) (f31 : n13 = hV H1 (n12).toNat (n0).toNat) (f32 : n14 = w32 (n0 + 1)) : n14 ≤ 40 := by
  have g4 := f10.2.1.1
  unfold Ab_274_354 at g4
  have g3 := f10.2.1.2
  unfold preb_274 at g3
  have e0 : n6 = hV H1 285 82 := (by rw [f6] at f13; exact f13 : n6 = hV H1 285 82)
  have e1 : n9 = hV H1 344 (n0).toNat := (by rw [f17] at f21; exact f21 : n9 = hV H1 344 (n0).toNat)
  have e2 : hV H1 298 = hV H0 298 := fRow f10.1.2.1 298 kR_274_298
  have e3 : n10 = hV H0 298 (n9).toNat := (by rw [f15] at f24; exact f24 : n10 = hV H1 298 (n9).toNat).trans ((congrFun e2 _))
  have e4 : n13 = hV H1 344 (n0).toNat := (by rw [f27] at f31; exact f31 : n13 = hV H1 344 (n0).toNat)
  have e7 : hV H1 300 = hV H0 300 := fRow f10.1.2.1 300 kR_274_300
  have e8 : hV H1 301 = hV H0 301 := fRow f10.1.2.1 301 kR_274_301
  have e9 : hV H1 302 = hV H0 302 := fRow f10.1.2.1 302 kR_274_302
  have e10 : hV H1 303 = hV H0 303 := fRow f10.1.2.1 303 kR_274_303
  have e11 : hV H1 305 = hV H0 305 := fRow f10.1.2.1 305 kR_274_305
  have e12 : (0 : Int) ≤ hV H0 285 18 ∧ hV H0 285 18 ≤ 8 := bTo ((f10.1.2.1.1 285 18 kF_274_285_18)) (f10.1.2.2 285 18 _ _ kW_285_18)
  have e13 : (0 : Int) ≤ hV H1 285 82 ∧ hV H1 285 82 ≤ 40 := f10.1.2.2 285 82 _ _ kW_285_82
  try simp only [XQ] at *
  try simp only [e2, e7, e8, e9, e10, e11] at g4
  have k0 := g4.1
  have y0 := g4.2
  have p0 := g3.1
  have p1 := g3.2.1
  have p2 := g3.2.2
  clear g3
  clear g4
  clear f13 f16 f18 f21 f24 f28 f31 e2 e7 e8 e9 e10 e11
  subst e0
  subst e1
  subst e3
  subst e4
  try have xd := XQp_3 y0 (s := (n0).toNat) (by omega) (by omega) (by omega)
  first
  | (have ix0 : n14 = n0 + 1 := Eq.trans f32 (w32_iv (Iad (Iat f1 f0) (IC 1)) (by decide)); subst ix0; clear f32)
  | (have ix0 : n14 = n0 + 1 := Eq.trans f32 (w32_id (by omega) (by omega)); subst ix0; clear f32)
  | (unfold w32 at f32; have ix0 : n14 = n0 + 1 := (by omega); subst ix0)
  | skip
  try unfold w32 at f32
  try subst k0
  omega
theorem c_274_354_8 {q0 : Nat} : vOkm T0 (eP e_274 L_274 A_274 mu_274 (some q0)) 2 ([(10, [14, 5], [], 1), (22, [13, 12, 5], [1], 0), (90, [13], [], 0), (91, [13], [], 1007), (20, [12, 2], [1], 83), (0, [12], [], 344), (40, [10, 11], [], 0), (0, [11], [], 3), (22, [10, 7, 9], [1], 0), (90, [10], [], 0), (91, [10], [], 5), (22, [9, 8, 5], [1], 0), (90, [9], [], 0), (91, [9], [], 1007), (20, [8, 2], [1], 83), (0, [8], [], 344), (20, [7, 2], [1], 24), (0, [7], [], 298), (42, [5, 6], [], 0), (20, [6, 2], [1], 82), (90, [6], [], 0), (91, [6], [], 40), (5000, [0, 1, 2, 3, 4, 5], [0, 1], 354), (0, [0], [], 285), (90, [1], [], 0), (91, [1], [], 7), (0, [2], [], 285), (90, [3], [], 0), (91, [3], [], 7), (90, [4], [], -2147483648), (91, [4], [], 2147483647), (90, [5], [], 0), (91, [5], [], 40)], (91, [14], [], 40)) := vOk_inI fun ρ η f0 f1 f2 f3 f4 f5 f6 f7 f8 f9 f10 f11 f12 f13 f14 f15 f16 f17 f18 f19 f20 f21 f22 f23 f24 f25 f26 f27 f28 f29 f30 f31 f32 => q_274_77 (q0 := q0) (n0 := ρ 5) (n1 := ρ 4) (n2 := ρ 3) (n3 := ρ 2) (n4 := ρ 1) (n5 := ρ 0) (n6 := ρ 6) (n7 := ρ 7) (n8 := ρ 8) (n9 := ρ 9) (n10 := ρ 10) (n11 := ρ 11) (n12 := ρ 12) (n13 := ρ 13) (n14 := ρ 14) (H0 := η 0) (H1 := η 1) f32 f31 f30 f29 f28 f27 f26 f25 f24 f23 f22 f21 f20 f19 f18 f17 f16 f15 f14 f13 f12 f11 f10 f9 f8 f7 f6 f5 f4 f3 f2 f1 f0
theorem kR_277_298 : vFreeR s_277.2.2.2.2 298 = true := by decide +kernel
theorem kR_277_300 : vFreeR s_277.2.2.2.2 300 = true := by decide +kernel
theorem kR_277_301 : vFreeR s_277.2.2.2.2 301 = true := by decide +kernel
theorem kR_277_302 : vFreeR s_277.2.2.2.2 302 = true := by decide +kernel
theorem kR_277_303 : vFreeR s_277.2.2.2.2 303 = true := by decide +kernel
theorem kR_277_344 : vFreeR s_277.2.2.2.2 344 = true := by decide +kernel
theorem kF_277_285_82 : vFree s_277.2.2.2.2 285 82 = true := by decide +kernel
theorem q_274_78 {q0 : Nat} {n0 n1 n2 n3 n4 n5 n6 n7 n8 n9 n10 n11 n12 n13 n14 : Int} {H0 H1 H2 : gH} (f0 : n0 ≤ 40) (f1 : 0 ≤ n0) (f2 : n1 ≤ 2147483647) (f3 : (-2147483648) ≤ n1) (f4 : n2 ≤ 7) (f5 : 0 ≤ n2) (f6 : n3 = 285) (f7 : n4 ≤ 7) (f8 : 0 ≤ n4) (f9 : n5 = 285) (f10 : (hLe T0 H0 H1 ∧ hFr s_274.2.2.2.2 H0 H1 ∧ hWt T0 H1) ∧ (Ab_274_354 n5 n4 n3 n2 n1 n0 H0 H1 ∧ preb_274 n5 n4 H0) ∧ some q0 = some (mub_274_354 n5 n4 n3 n2 n1 n0 H0 H1)) (f11 : n6 ≤ 40) (f12 : 0 ≤ n6) (f13 : n6 = hV H1 (n3).toNat 82) (f14 : n0 < n6) (f15 : n7 = 298) (f16 : n7 = hV H1 (n3).toNat 24) (f17 : n8 = 344) (f18 : n8 = hV H1 (n3).toNat 83) (f19 : n9 ≤ 1007) (f20 : 0 ≤ n9) (f21 : n9 = hV H1 (n8).toNat (n0).toNat) (f22 : n10 ≤ 5) (f23 : 0 ≤ n10) (f24 : n10 = hV H1 (n7).toNat (n9).toNat) (f25 : n11 = 3) (f26 : n10 = n11) (f27 : n12 = 344) (f28 : n12 = hV H1 (n3).toNat 83) (f29 : n13 ≤ 1007) (f30 : 0 ≤ n13) (f31 : n13 = hV H1 (n12).toNat (n0).toNat) (f32 : (hLe T0 H1 H2 ∧ hFr s_277.2.2.2.2 H1 H2 ∧ ((0 : Int) = 0 → H2.length = H1.length) ∧ hWt T0 H2) ∧ True) (f33 : n14 = w32 (n0 + 1)) : Ab_274_354 n5 n4 n3 n2 n1 n14 H0 H2 ∧ ∀ q, some q0 = some q → mub_274_354 n5 n4 n3 n2 n1 n14 H0 H2 < q := by
  have g4 := f10.2.1.1
  unfold Ab_274_354 at g4
  have g3 := f10.2.1.2
  unfold preb_274 at g3
  have g5 := Option.some.inj f10.2.2
  unfold mub_274_354 at g5
  unfold Ab_274_354
  unfold mub_274_354
  have e0 : n6 = hV H1 285 82 := (by rw [f6] at f13; exact f13 : n6 = hV H1 285 82)
  have e1 : n9 = hV H1 344 (n0).toNat := (by rw [f17] at f21; exact f21 : n9 = hV H1 344 (n0).toNat)
  have e2 : hV H1 298 = hV H0 298 := fRow f10.1.2.1 298 kR_274_298
  have e3 : n10 = hV H0 298 (n9).toNat := (by rw [f15] at f24; exact f24 : n10 = hV H1 298 (n9).toNat).trans ((congrFun e2 _))
  have e4 : n13 = hV H1 344 (n0).toNat := (by rw [f27] at f31; exact f31 : n13 = hV H1 344 (n0).toNat)
  have e7 : hV H1 300 = hV H0 300 := fRow f10.1.2.1 300 kR_274_300
  have e8 : hV H1 301 = hV H0 301 := fRow f10.1.2.1 301 kR_274_301
  have e9 : hV H1 302 = hV H0 302 := fRow f10.1.2.1 302 kR_274_302
  have e10 : hV H1 303 = hV H0 303 := fRow f10.1.2.1 303 kR_274_303
  have e11 : hV H1 305 = hV H0 305 := fRow f10.1.2.1 305 kR_274_305
  have e13 : hV H2 285 82 = hV H1 285 82 := (f32.1.2.1.1 285 82 kF_277_285_82)
  have e15 : hV H2 298 = hV H0 298 := (fRow f32.1.2.1 298 kR_277_298).trans e2
  have e17 : hV H2 300 = hV H0 300 := (fRow f32.1.2.1 300 kR_277_300).trans e7
  have e19 : hV H2 301 = hV H0 301 := (fRow f32.1.2.1 301 kR_277_301).trans e8
  have e21 : hV H2 302 = hV H0 302 := (fRow f32.1.2.1 302 kR_277_302).trans e9
  have e23 : hV H2 303 = hV H0 303 := (fRow f32.1.2.1 303 kR_277_303).trans e10
  have e25 : hV H2 305 = hV H0 305 := (fRow f32.1.2.1 305 kR_277_305).trans e11
  have e26 : hV H2 344 = hV H1 344 := fRow f32.1.2.1 344 kR_277_344
  have e27 : (0 : Int) ≤ hV H0 285 18 ∧ hV H0 285 18 ≤ 8 := bTo ((f10.1.2.1.1 285 18 kF_274_285_18)) (f10.1.2.2 285 18 _ _ kW_285_18)
  have e28 : (0 : Int) ≤ hV H1 285 82 ∧ hV H1 285 82 ≤ 40 := f10.1.2.2 285 82 _ _ kW_285_82
  try simp only [XQ] at *
  try simp only [e2, e7, e8, e9, e10, e11] at g4
  try simp only [e13, e15, e17, e19, e21, e23, e25, e26]
  have k0 := g4.1
  have y0 := g4.2
  have p0 := g3.1
  have p1 := g3.2.1
  have p2 := g3.2.2
  clear g3
  clear g4
  clear f13 f16 f18 f21 f24 f28 f31 e2 e7 e8 e9 e10 e11 e13 e15 e17 e19 e21 e23 e25 e26
  subst e0
  subst e1
  subst e3
  subst e4
  try have xd := XQp_3 y0 (s := (n0).toNat) (by omega) (by omega) (by omega)
  first
  | (have ix0 : n14 = n0 + 1 := Eq.trans f33 (w32_iv (Iad (Iat f1 f0) (IC 1)) (by decide)); subst ix0; clear f33)
  | (have ix0 : n14 = n0 + 1 := Eq.trans f33 (w32_id (by omega) (by omega)); subst ix0; clear f33)
  | (unfold w32 at f33; have ix0 : n14 = n0 + 1 := (by omega); subst ix0)
  | skip
  try unfold w32 at f33
  try subst k0
  refine ⟨?_, fun q hq => ?_⟩
  · refine ⟨?_, ?_⟩ <;> first | assumption | omega | trivial
  · have g6 := Option.some.inj hq
    subst g6
    omega
theorem c_274_354_9 {q0 : Nat} : vOkm T0 (eP e_274 L_274 A_274 mu_274 (some q0)) 2 ([(10, [14, 5], [], 1), (1277, [2, 13], [1, 2], 0), (22, [13, 12, 5], [1], 0), (90, [13], [], 0), (91, [13], [], 1007), (20, [12, 2], [1], 83), (0, [12], [], 344), (40, [10, 11], [], 0), (0, [11], [], 3), (22, [10, 7, 9], [1], 0), (90, [10], [], 0), (91, [10], [], 5), (22, [9, 8, 5], [1], 0), (90, [9], [], 0), (91, [9], [], 1007), (20, [8, 2], [1], 83), (0, [8], [], 344), (20, [7, 2], [1], 24), (0, [7], [], 298), (42, [5, 6], [], 0), (20, [6, 2], [1], 82), (90, [6], [], 0), (91, [6], [], 40), (5000, [0, 1, 2, 3, 4, 5], [0, 1], 354), (0, [0], [], 285), (90, [1], [], 0), (91, [1], [], 7), (0, [2], [], 285), (90, [3], [], 0), (91, [3], [], 7), (90, [4], [], -2147483648), (91, [4], [], 2147483647), (90, [5], [], 0), (91, [5], [], 40)], (4000, [2, 3, 4, 14], [2], 354)) := vOk_inI fun ρ η f0 f1 f2 f3 f4 f5 f6 f7 f8 f9 f10 f11 f12 f13 f14 f15 f16 f17 f18 f19 f20 f21 f22 f23 f24 f25 f26 f27 f28 f29 f30 f31 f32 f33 => q_274_78 (q0 := q0) (n0 := ρ 5) (n1 := ρ 4) (n2 := ρ 3) (n3 := ρ 2) (n4 := ρ 1) (n5 := ρ 0) (n6 := ρ 6) (n7 := ρ 7) (n8 := ρ 8) (n9 := ρ 9) (n10 := ρ 10) (n11 := ρ 11) (n12 := ρ 12) (n13 := ρ 13) (n14 := ρ 14) (H0 := η 0) (H1 := η 1) (H2 := η 2) f33 f32 f31 f30 f29 f28 f27 f26 f25 f24 f23 f22 f21 f20 f19 f18 f17 f16 f15 f14 f13 f12 f11 f10 f9 f8 f7 f6 f5 f4 f3 f2 f1 f0
def p_274_354 : List vG := [([(0, [8], [], 0), (0, [7], [], 9999), (43, [5, 6], [], 0), (20, [6, 2], [1], 82), (90, [6], [], 0), (91, [6], [], 40), (5000, [0, 1, 2, 3, 4, 5], [0, 1], 354), (0, [0], [], 285), (90, [1], [], 0), (91, [1], [], 7), (0, [2], [], 285), (90, [3], [], 0), (91, [3], [], 7), (90, [4], [], -2147483648), (91, [4], [], 2147483647), (90, [5], [], 0), (91, [5], [], 40)], (4000, [2, 3, 4, 7, 8], [1], 400)),
  ([(42, [5, 6], [], 0), (20, [6, 2], [1], 82), (90, [6], [], 0), (91, [6], [], 40), (5000, [0, 1, 2, 3, 4, 5], [0, 1], 354), (0, [0], [], 285), (90, [1], [], 0), (91, [1], [], 7), (0, [2], [], 285), (90, [3], [], 0), (91, [3], [], 7), (90, [4], [], -2147483648), (91, [4], [], 2147483647), (90, [5], [], 0), (91, [5], [], 40)], (70, [5], [], 40)),
  ([(10, [12, 5], [], 1), (41, [10, 11], [], 0), (0, [11], [], 3), (22, [10, 7, 9], [1], 0), (90, [10], [], 0), (91, [10], [], 5), (22, [9, 8, 5], [1], 0), (90, [9], [], 0), (91, [9], [], 1007), (20, [8, 2], [1], 83), (0, [8], [], 344), (20, [7, 2], [1], 24), (0, [7], [], 298), (42, [5, 6], [], 0), (20, [6, 2], [1], 82), (90, [6], [], 0), (91, [6], [], 40), (5000, [0, 1, 2, 3, 4, 5], [0, 1], 354), (0, [0], [], 285), (90, [1], [], 0), (91, [1], [], 7), (0, [2], [], 285), (90, [3], [], 0), (91, [3], [], 7), (90, [4], [], -2147483648), (91, [4], [], 2147483647), (90, [5], [], 0), (91, [5], [], 40)], (90, [12], [], 0)),
  ([(10, [12, 5], [], 1), (41, [10, 11], [], 0), (0, [11], [], 3), (22, [10, 7, 9], [1], 0), (90, [10], [], 0), (91, [10], [], 5), (22, [9, 8, 5], [1], 0), (90, [9], [], 0), (91, [9], [], 1007), (20, [8, 2], [1], 83), (0, [8], [], 344), (20, [7, 2], [1], 24), (0, [7], [], 298), (42, [5, 6], [], 0), (20, [6, 2], [1], 82), (90, [6], [], 0), (91, [6], [], 40), (5000, [0, 1, 2, 3, 4, 5], [0, 1], 354), (0, [0], [], 285), (90, [1], [], 0), (91, [1], [], 7), (0, [2], [], 285), (90, [3], [], 0), (91, [3], [], 7), (90, [4], [], -2147483648), (91, [4], [], 2147483647), (90, [5], [], 0), (91, [5], [], 40)], (91, [12], [], 40)),
  ([(10, [12, 5], [], 1), (41, [10, 11], [], 0), (0, [11], [], 3), (22, [10, 7, 9], [1], 0), (90, [10], [], 0), (91, [10], [], 5), (22, [9, 8, 5], [1], 0), (90, [9], [], 0), (91, [9], [], 1007), (20, [8, 2], [1], 83), (0, [8], [], 344), (20, [7, 2], [1], 24), (0, [7], [], 298), (42, [5, 6], [], 0), (20, [6, 2], [1], 82), (90, [6], [], 0), (91, [6], [], 40), (5000, [0, 1, 2, 3, 4, 5], [0, 1], 354), (0, [0], [], 285), (90, [1], [], 0), (91, [1], [], 7), (0, [2], [], 285), (90, [3], [], 0), (91, [3], [], 7), (90, [4], [], -2147483648), (91, [4], [], 2147483647), (90, [5], [], 0), (91, [5], [], 40)], (4000, [2, 3, 4, 12], [1], 354)),
  ([(20, [12, 2], [1], 83), (0, [12], [], 344), (40, [10, 11], [], 0), (0, [11], [], 3), (22, [10, 7, 9], [1], 0), (90, [10], [], 0), (91, [10], [], 5), (22, [9, 8, 5], [1], 0), (90, [9], [], 0), (91, [9], [], 1007), (20, [8, 2], [1], 83), (0, [8], [], 344), (20, [7, 2], [1], 24), (0, [7], [], 298), (42, [5, 6], [], 0), (20, [6, 2], [1], 82), (90, [6], [], 0), (91, [6], [], 40), (5000, [0, 1, 2, 3, 4, 5], [0, 1], 354), (0, [0], [], 285), (90, [1], [], 0), (91, [1], [], 7), (0, [2], [], 285), (90, [3], [], 0), (91, [3], [], 7), (90, [4], [], -2147483648), (91, [4], [], 2147483647), (90, [5], [], 0), (91, [5], [], 40)], (70, [5], [], 40)),
  ([(22, [13, 12, 5], [1], 0), (90, [13], [], 0), (91, [13], [], 1007), (20, [12, 2], [1], 83), (0, [12], [], 344), (40, [10, 11], [], 0), (0, [11], [], 3), (22, [10, 7, 9], [1], 0), (90, [10], [], 0), (91, [10], [], 5), (22, [9, 8, 5], [1], 0), (90, [9], [], 0), (91, [9], [], 1007), (20, [8, 2], [1], 83), (0, [8], [], 344), (20, [7, 2], [1], 24), (0, [7], [], 298), (42, [5, 6], [], 0), (20, [6, 2], [1], 82), (90, [6], [], 0), (91, [6], [], 40), (5000, [0, 1, 2, 3, 4, 5], [0, 1], 354), (0, [0], [], 285), (90, [1], [], 0), (91, [1], [], 7), (0, [2], [], 285), (90, [3], [], 0), (91, [3], [], 7), (90, [4], [], -2147483648), (91, [4], [], 2147483647), (90, [5], [], 0), (91, [5], [], 40)], (2277, [2, 13], [1], 0)),
  ([(10, [14, 5], [], 1), (22, [13, 12, 5], [1], 0), (90, [13], [], 0), (91, [13], [], 1007), (20, [12, 2], [1], 83), (0, [12], [], 344), (40, [10, 11], [], 0), (0, [11], [], 3), (22, [10, 7, 9], [1], 0), (90, [10], [], 0), (91, [10], [], 5), (22, [9, 8, 5], [1], 0), (90, [9], [], 0), (91, [9], [], 1007), (20, [8, 2], [1], 83), (0, [8], [], 344), (20, [7, 2], [1], 24), (0, [7], [], 298), (42, [5, 6], [], 0), (20, [6, 2], [1], 82), (90, [6], [], 0), (91, [6], [], 40), (5000, [0, 1, 2, 3, 4, 5], [0, 1], 354), (0, [0], [], 285), (90, [1], [], 0), (91, [1], [], 7), (0, [2], [], 285), (90, [3], [], 0), (91, [3], [], 7), (90, [4], [], -2147483648), (91, [4], [], 2147483647), (90, [5], [], 0), (91, [5], [], 40)], (90, [14], [], 0)),
  ([(10, [14, 5], [], 1), (22, [13, 12, 5], [1], 0), (90, [13], [], 0), (91, [13], [], 1007), (20, [12, 2], [1], 83), (0, [12], [], 344), (40, [10, 11], [], 0), (0, [11], [], 3), (22, [10, 7, 9], [1], 0), (90, [10], [], 0), (91, [10], [], 5), (22, [9, 8, 5], [1], 0), (90, [9], [], 0), (91, [9], [], 1007), (20, [8, 2], [1], 83), (0, [8], [], 344), (20, [7, 2], [1], 24), (0, [7], [], 298), (42, [5, 6], [], 0), (20, [6, 2], [1], 82), (90, [6], [], 0), (91, [6], [], 40), (5000, [0, 1, 2, 3, 4, 5], [0, 1], 354), (0, [0], [], 285), (90, [1], [], 0), (91, [1], [], 7), (0, [2], [], 285), (90, [3], [], 0), (91, [3], [], 7), (90, [4], [], -2147483648), (91, [4], [], 2147483647), (90, [5], [], 0), (91, [5], [], 40)], (91, [14], [], 40)),
  ([(10, [14, 5], [], 1), (1277, [2, 13], [1, 2], 0), (22, [13, 12, 5], [1], 0), (90, [13], [], 0), (91, [13], [], 1007), (20, [12, 2], [1], 83), (0, [12], [], 344), (40, [10, 11], [], 0), (0, [11], [], 3), (22, [10, 7, 9], [1], 0), (90, [10], [], 0), (91, [10], [], 5), (22, [9, 8, 5], [1], 0), (90, [9], [], 0), (91, [9], [], 1007), (20, [8, 2], [1], 83), (0, [8], [], 344), (20, [7, 2], [1], 24), (0, [7], [], 298), (42, [5, 6], [], 0), (20, [6, 2], [1], 82), (90, [6], [], 0), (91, [6], [], 40), (5000, [0, 1, 2, 3, 4, 5], [0, 1], 354), (0, [0], [], 285), (90, [1], [], 0), (91, [1], [], 7), (0, [2], [], 285), (90, [3], [], 0), (91, [3], [], 7), (90, [4], [], -2147483648), (91, [4], [], 2147483647), (90, [5], [], 0), (91, [5], [], 40)], (4000, [2, 3, 4, 14], [2], 354))]
theorem r_274_354 : vCovO false (eRc e_274 L_274 cs_274 2000 (354, [(0, (3, 12, 285, 0)), (1, (0, 0, 7, 0)), (2, (0, -2147483648, 2147483647, 0)), (3, (0, 0, 40, 0))])) p_274_354 = true := by decide +kernel
theorem q_274_79 {q0 : Nat} {n0 n1 n2 n3 n4 n5 n6 n7 n8 : Int} {H0 H1 : gH} (f0 : n0 ≤ 40) (f1 : 0 ≤ n0) (f2 : n1 ≤ 2147483647) (f3 : (-2147483648) ≤ n1) (f4 : n2 ≤ 2147483647) (f5 : (-2147483648) ≤ n2) (f6 : n3 ≤ 7) (f7 : 0 ≤ n3) (f8 : n4 = 285) (f9 : n5 ≤ 7) (f10 : 0 ≤ n5) (f11 : n6 = 285) (f12 : (hLe T0 H0 H1 ∧ hFr s_274.2.2.2.2 H0 H1 ∧ hWt T0 H1) ∧ (Ab_274_400 n6 n5 n4 n3 n2 n1 n0 H0 H1 ∧ preb_274 n6 n5 H0) ∧ some q0 = some (mub_274_400 n6 n5 n4 n3 n2 n1 n0 H0 H1)) (f13 : n7 ≤ 40) (f14 : 0 ≤ n7) (f15 : n7 = hV H1 (n4).toNat 82) (f16 : n7 ≤ n0) (f17 : n8 = 0) : Ab_274_447 n6 n5 n4 n3 n2 n1 n8 H0 H1 ∧ ∀ q, some q0 = some q → mub_274_447 n6 n5 n4 n3 n2 n1 n8 H0 H1 < q := by
  have g4 := f12.2.1.1
  unfold Ab_274_400 at g4
  have g3 := f12.2.1.2
  unfold preb_274 at g3
  have g5 := Option.some.inj f12.2.2
  unfold mub_274_400 at g5
  unfold Ab_274_447
  unfold mub_274_447
  have e0 : n7 = hV H1 285 82 := (by rw [f8] at f15; exact f15 : n7 = hV H1 285 82)
  have e3 : hV H1 298 = hV H0 298 := fRow f12.1.2.1 298 kR_274_298
  have e4 : hV H1 300 = hV H0 300 := fRow f12.1.2.1 300 kR_274_300
  have e5 : hV H1 301 = hV H0 301 := fRow f12.1.2.1 301 kR_274_301
  have e6 : hV H1 302 = hV H0 302 := fRow f12.1.2.1 302 kR_274_302
  have e7 : hV H1 303 = hV H0 303 := fRow f12.1.2.1 303 kR_274_303
  have e8 : hV H1 305 = hV H0 305 := fRow f12.1.2.1 305 kR_274_305
  have e9 : (0 : Int) ≤ hV H0 285 18 ∧ hV H0 285 18 ≤ 8 := bTo ((f12.1.2.1.1 285 18 kF_274_285_18)) (f12.1.2.2 285 18 _ _ kW_285_18)
  have e10 : (0 : Int) ≤ hV H1 285 82 ∧ hV H1 285 82 ≤ 40 := f12.1.2.2 285 82 _ _ kW_285_82
  try simp only [XQ] at *
  try simp only [e3, e4, e5, e6, e7, e8] at g4
  try simp only [e3, e4, e5, e6, e7, e8]
  have k0 := g4.1
  have y0 := g4.2
  have p0 := g3.1
  have p1 := g3.2.1
  have p2 := g3.2.2
  clear g3
  clear g4
  clear f15 e3 e4 e5 e6 e7 e8
  subst e0
  try subst k0
  refine ⟨?_, fun q hq => ?_⟩
  · refine ⟨?_, ?_⟩ <;> first | assumption | omega | trivial
  · have g6 := Option.some.inj hq
    subst g6
    omega
theorem c_274_400_0 {q0 : Nat} : vOkm T0 (eP e_274 L_274 A_274 mu_274 (some q0)) 2 ([(0, [8], [], 0), (43, [6, 7], [], 0), (20, [7, 2], [1], 82), (90, [7], [], 0), (91, [7], [], 40), (5000, [0, 1, 2, 3, 4, 5, 6], [0, 1], 400), (0, [0], [], 285), (90, [1], [], 0), (91, [1], [], 7), (0, [2], [], 285), (90, [3], [], 0), (91, [3], [], 7), (90, [4], [], -2147483648), (91, [4], [], 2147483647), (90, [5], [], -2147483648), (91, [5], [], 2147483647), (90, [6], [], 0), (91, [6], [], 40)], (4000, [2, 3, 4, 5, 8], [1], 447)) := vOk_inI fun ρ η f0 f1 f2 f3 f4 f5 f6 f7 f8 f9 f10 f11 f12 f13 f14 f15 f16 f17 => q_274_79 (q0 := q0) (n0 := ρ 6) (n1 := ρ 5) (n2 := ρ 4) (n3 := ρ 3) (n4 := ρ 2) (n5 := ρ 1) (n6 := ρ 0) (n7 := ρ 7) (n8 := ρ 8) (H0 := η 0) (H1 := η 1) f17 f16 f15 f14 f13 f12 f11 f10 f9 f8 f7 f6 f5 f4 f3 f2 f1 f0
theorem q_274_80 {q0 : Nat} {n0 n1 n2 n3 n4 n5 n6 n7 : Int} {H0 H1 : gH} (f0 : n0 ≤ 40) (f1 : 0 ≤ n0) (f2 : n1 ≤ 2147483647) (f3 : (-2147483648) ≤ n1) (f4 : n2 ≤ 2147483647) (f5 : (-2147483648) ≤ n2) (f6 : n3 ≤ 7) (f7 : 0 ≤ n3) (f8 : n4 = 285) (f9 : n5 ≤ 7) (f10 : 0 ≤ n5) (f11 : n6 = 285) (f12 : (hLe T0 H0 H1 ∧ hFr s_274.2.2.2.2 H0 H1 ∧ hWt T0 H1) ∧ (Ab_274_400 n6 n5 n4 n3 n2 n1 n0 H0 H1 ∧ preb_274 n6 n5 H0) ∧ some q0 = some (mub_274_400 n6 n5 n4 n3 n2 n1 n0 H0 H1)) (f13 : n7 ≤ 40) (f14 : 0 ≤ n7) (f15 : n7 = hV H1 (n4).toNat 82) (f16 : n0 < n7) : 0 ≤ n0 ∧ n0 < 40 := by
  have g4 := f12.2.1.1
  unfold Ab_274_400 at g4
  have g3 := f12.2.1.2
  unfold preb_274 at g3
  have e0 : n7 = hV H1 285 82 := (by rw [f8] at f15; exact f15 : n7 = hV H1 285 82)
  have e3 : hV H1 298 = hV H0 298 := fRow f12.1.2.1 298 kR_274_298
  have e4 : hV H1 300 = hV H0 300 := fRow f12.1.2.1 300 kR_274_300
  have e5 : hV H1 301 = hV H0 301 := fRow f12.1.2.1 301 kR_274_301
  have e6 : hV H1 302 = hV H0 302 := fRow f12.1.2.1 302 kR_274_302
  have e7 : hV H1 303 = hV H0 303 := fRow f12.1.2.1 303 kR_274_303
  have e8 : hV H1 305 = hV H0 305 := fRow f12.1.2.1 305 kR_274_305
  have e9 : (0 : Int) ≤ hV H0 285 18 ∧ hV H0 285 18 ≤ 8 := bTo ((f12.1.2.1.1 285 18 kF_274_285_18)) (f12.1.2.2 285 18 _ _ kW_285_18)
  have e10 : (0 : Int) ≤ hV H1 285 82 ∧ hV H1 285 82 ≤ 40 := f12.1.2.2 285 82 _ _ kW_285_82
  try simp only [XQ] at *
  try simp only [e3, e4, e5, e6, e7, e8] at g4
  have k0 := g4.1
  have y0 := g4.2
  have p0 := g3.1
  have p1 := g3.2.1
  have p2 := g3.2.2
  clear g3
  clear g4
  clear f15 e3 e4 e5 e6 e7 e8
  subst e0
  try subst k0
  omega
theorem c_274_400_1 {q0 : Nat} : vOkm T0 (eP e_274 L_274 A_274 mu_274 (some q0)) 2 ([(42, [6, 7], [], 0), (20, [7, 2], [1], 82), (90, [7], [], 0), (91, [7], [], 40), (5000, [0, 1, 2, 3, 4, 5, 6], [0, 1], 400), (0, [0], [], 285), (90, [1], [], 0), (91, [1], [], 7), (0, [2], [], 285), (90, [3], [], 0), (91, [3], [], 7), (90, [4], [], -2147483648), (91, [4], [], 2147483647), (90, [5], [], -2147483648), (91, [5], [], 2147483647), (90, [6], [], 0), (91, [6], [], 40)], (70, [6], [], 40)) := vOk_inI fun ρ η f0 f1 f2 f3 f4 f5 f6 f7 f8 f9 f10 f11 f12 f13 f14 f15 f16 => q_274_80 (q0 := q0) (n0 := ρ 6) (n1 := ρ 5) (n2 := ρ 4) (n3 := ρ 3) (n4 := ρ 2) (n5 := ρ 1) (n6 := ρ 0) (n7 := ρ 7) (H0 := η 0) (H1 := η 1) f16 f15 f14 f13 f12 f11 f10 f9 f8 f7 f6 f5 f4 f3 f2 f1 f0
theorem q_274_81 {q0 : Nat} {n0 n1 n2 n3 n4 n5 n6 n7 n8 n9 n10 n11 n12 n13 : Int} {H0 H1 : gH} (f0 : n0 ≤ 40) (f1 : 0 ≤ n0) (f2 : n1 ≤ 2147483647) (f3 : (-2147483648) ≤ n1) (f4 : n2 ≤ 2147483647) (f5 : (-2147483648) ≤ n2) (f6 : n3 ≤ 7) (f7 : 0 ≤ n3) (f8 : n4 = 285) (f9 : n5 ≤ 7) (f10 : 0 ≤ n5) (f11 : n6 = 285) (f12 : (hLe T0 H0 H1 ∧ hFr s_274.2.2.2.2 H0 H1 ∧ hWt T0 H1) ∧ (Ab_274_400 n6 n5 n4 n3 n2 n1 n0 H0 H1 ∧ preb_274 n6 n5 H0) ∧ some q0 = some (mub_274_400 n6 n5 n4 n3 n2 n1 n0 H0 H1)) (f13 : n7 ≤ 40) (f14 : 0 ≤ n7) (f15 : n7 = hV H1 (n4).toNat 82) (f16 : n0 < n7) (f17 : n8 = 298) (f18 : n8 = hV H1 (n4).toNat 24) (f19 : n9 = 344) (f20 : n9 = hV H1 (n4).toNat 83) (f21 : n10 ≤ 1007) (f22 : 0 ≤ n10) (f23 : n10 = hV H1 (n9).toNat (n0).toNat) (f24 : n11 ≤ 5) (f25 : 0 ≤ n11) (f26 : n11 = hV H1 (n8).toNat (n10).toNat) (f27 : n12 = 4) (f28 : n11 ≠ n12) (f29 : n13 = w32 (n0 + 1)) : 0 ≤ n13 := by
  have g4 := f12.2.1.1
  unfold Ab_274_400 at g4
  have g3 := f12.2.1.2
  unfold preb_274 at g3
  have e0 : n7 = hV H1 285 82 := (by rw [f8] at f15; exact f15 : n7 = hV H1 285 82)
  have e1 : n10 = hV H1 344 (n0).toNat := (by rw [f19] at f23; exact f23 : n10 = hV H1 344 (n0).toNat)
  have e2 : hV H1 298 = hV H0 298 := fRow f12.1.2.1 298 kR_274_298
  have e3 : n11 = hV H0 298 (n10).toNat := (by rw [f17] at f26; exact f26 : n11 = hV H1 298 (n10).toNat).trans ((congrFun e2 _))
  have e6 : hV H1 300 = hV H0 300 := fRow f12.1.2.1 300 kR_274_300
  have e7 : hV H1 301 = hV H0 301 := fRow f12.1.2.1 301 kR_274_301
  have e8 : hV H1 302 = hV H0 302 := fRow f12.1.2.1 302 kR_274_302
  have e9 : hV H1 303 = hV H0 303 := fRow f12.1.2.1 303 kR_274_303
  have e10 : hV H1 305 = hV H0 305 := fRow f12.1.2.1 305 kR_274_305
  have e11 : (0 : Int) ≤ hV H0 285 18 ∧ hV H0 285 18 ≤ 8 := bTo ((f12.1.2.1.1 285 18 kF_274_285_18)) (f12.1.2.2 285 18 _ _ kW_285_18)
  have e12 : (0 : Int) ≤ hV H1 285 82 ∧ hV H1 285 82 ≤ 40 := f12.1.2.2 285 82 _ _ kW_285_82
  try simp only [XQ] at *
  try simp only [e2, e6, e7, e8, e9, e10] at g4
  have k0 := g4.1
  have y0 := g4.2
  have p0 := g3.1
  have p1 := g3.2.1
  have p2 := g3.2.2
  clear g3
  clear g4
  clear f15 f18 f20 f23 f26 e2 e6 e7 e8 e9 e10
  subst e0
  subst e1
  subst e3
  first
  | (have ix0 : n13 = n0 + 1 := Eq.trans f29 (w32_iv (Iad (Iat f1 f0) (IC 1)) (by decide)); subst ix0; clear f29)
  | (have ix0 : n13 = n0 + 1 := Eq.trans f29 (w32_id (by omega) (by omega)); subst ix0; clear f29)
  | (unfold w32 at f29; have ix0 : n13 = n0 + 1 := (by omega); subst ix0)
  | skip
  try unfold w32 at f29
  try subst k0
  omega
theorem c_274_400_2 {q0 : Nat} : vOkm T0 (eP e_274 L_274 A_274 mu_274 (some q0)) 2 ([(10, [13, 6], [], 1), (41, [11, 12], [], 0), (0, [12], [], 4), (22, [11, 8, 10], [1], 0), (90, [11], [], 0), (91, [11], [], 5), (22, [10, 9, 6], [1], 0), (90, [10], [], 0), (91, [10], [], 1007), (20, [9, 2], [1], 83), (0, [9], [], 344), (20, [8, 2], [1], 24), (0, [8], [], 298), (42, [6, 7], [], 0), (20, [7, 2], [1], 82), (90, [7], [], 0), (91, [7], [], 40), (5000, [0, 1, 2, 3, 4, 5, 6], [0, 1], 400), (0, [0], [], 285), (90, [1], [], 0), (91, [1], [], 7), (0, [2], [], 285), (90, [3], [], 0), (91, [3], [], 7), (90, [4], [], -2147483648), (91, [4], [], 2147483647), (90, [5], [], -2147483648), (91, [5], [], 2147483647), (90, [6], [], 0), (91, [6], [], 40)], (90, [13], [], 0)) := vOk_inI fun ρ η f0 f1 f2 f3 f4 f5 f6 f7 f8 f9 f10 f11 f12 f13 f14 f15 f16 f17 f18 f19 f20 f21 f22 f23 f24 f25 f26 f27 f28 f29 => q_274_81 (q0 := q0) (n0 := ρ 6) (n1 := ρ 5) (n2 := ρ 4) (n3 := ρ 3) (n4 := ρ 2) (n5 := ρ 1) (n6 := ρ 0) (n7 := ρ 7) (n8 := ρ 8) (n9 := ρ 9) (n10 := ρ 10) (n11 := ρ 11) (n12 := ρ 12) (n13 := ρ 13) (H0 := η 0) (H1 := η 1) f29 f28 f27 f26 f25 f24 f23 f22 f21 f20 f19 f18 f17 f16 f15 f14 f13 f12 f11 f10 f9 f8 f7 f6 f5 f4 f3 f2 f1 f0
theorem q_274_82 {q0 : Nat} {n0 n1 n2 n3 n4 n5 n6 n7 n8 n9 n10 n11 n12 n13 : Int} {H0 H1 : gH} (f0 : n0 ≤ 40) (f1 : 0 ≤ n0) (f2 : n1 ≤ 2147483647) (f3 : (-2147483648) ≤ n1) (f4 : n2 ≤ 2147483647) (f5 : (-2147483648) ≤ n2) (f6 : n3 ≤ 7) (f7 : 0 ≤ n3) (f8 : n4 = 285) (f9 : n5 ≤ 7) (f10 : 0 ≤ n5) (f11 : n6 = 285) (f12 : (hLe T0 H0 H1 ∧ hFr s_274.2.2.2.2 H0 H1 ∧ hWt T0 H1) ∧ (Ab_274_400 n6 n5 n4 n3 n2 n1 n0 H0 H1 ∧ preb_274 n6 n5 H0) ∧ some q0 = some (mub_274_400 n6 n5 n4 n3 n2 n1 n0 H0 H1)) (f13 : n7 ≤ 40) (f14 : 0 ≤ n7) (f15 : n7 = hV H1 (n4).toNat 82) (f16 : n0 < n7) (f17 : n8 = 298) (f18 : n8 = hV H1 (n4).toNat 24) (f19 : n9 = 344) (f20 : n9 = hV H1 (n4).toNat 83) (f21 : n10 ≤ 1007) (f22 : 0 ≤ n10) (f23 : n10 = hV H1 (n9).toNat (n0).toNat) (f24 : n11 ≤ 5) (f25 : 0 ≤ n11) (f26 : n11 = hV H1 (n8).toNat (n10).toNat) (f27 : n12 = 4) (f28 : n11 ≠ n12) (f29 : n13 = w32 (n0 + 1)) : n13 ≤ 40 := by
  have g4 := f12.2.1.1
  unfold Ab_274_400 at g4
  have g3 := f12.2.1.2
  unfold preb_274 at g3
  have e0 : n7 = hV H1 285 82 := (by rw [f8] at f15; exact f15 : n7 = hV H1 285 82)
  have e1 : n10 = hV H1 344 (n0).toNat := (by rw [f19] at f23; exact f23 : n10 = hV H1 344 (n0).toNat)
  have e2 : hV H1 298 = hV H0 298 := fRow f12.1.2.1 298 kR_274_298
  have e3 : n11 = hV H0 298 (n10).toNat := (by rw [f17] at f26; exact f26 : n11 = hV H1 298 (n10).toNat).trans ((congrFun e2 _))
  have e6 : hV H1 300 = hV H0 300 := fRow f12.1.2.1 300 kR_274_300
  have e7 : hV H1 301 = hV H0 301 := fRow f12.1.2.1 301 kR_274_301
  have e8 : hV H1 302 = hV H0 302 := fRow f12.1.2.1 302 kR_274_302
  have e9 : hV H1 303 = hV H0 303 := fRow f12.1.2.1 303 kR_274_303
  have e10 : hV H1 305 = hV H0 305 := fRow f12.1.2.1 305 kR_274_305
  have e11 : (0 : Int) ≤ hV H0 285 18 ∧ hV H0 285 18 ≤ 8 := bTo ((f12.1.2.1.1 285 18 kF_274_285_18)) (f12.1.2.2 285 18 _ _ kW_285_18)
  have e12 : (0 : Int) ≤ hV H1 285 82 ∧ hV H1 285 82 ≤ 40 := f12.1.2.2 285 82 _ _ kW_285_82
  try simp only [XQ] at *
  try simp only [e2, e6, e7, e8, e9, e10] at g4
  have k0 := g4.1
  have y0 := g4.2
  have p0 := g3.1
  have p1 := g3.2.1
  have p2 := g3.2.2
  clear g3
  clear g4
  clear f15 f18 f20 f23 f26 e2 e6 e7 e8 e9 e10
  subst e0
  subst e1
  subst e3
  first
  | (have ix0 : n13 = n0 + 1 := Eq.trans f29 (w32_iv (Iad (Iat f1 f0) (IC 1)) (by decide)); subst ix0; clear f29)
  | (have ix0 : n13 = n0 + 1 := Eq.trans f29 (w32_id (by omega) (by omega)); subst ix0; clear f29)
  | (unfold w32 at f29; have ix0 : n13 = n0 + 1 := (by omega); subst ix0)
  | skip
  try unfold w32 at f29
  try subst k0
  omega
theorem c_274_400_3 {q0 : Nat} : vOkm T0 (eP e_274 L_274 A_274 mu_274 (some q0)) 2 ([(10, [13, 6], [], 1), (41, [11, 12], [], 0), (0, [12], [], 4), (22, [11, 8, 10], [1], 0), (90, [11], [], 0), (91, [11], [], 5), (22, [10, 9, 6], [1], 0), (90, [10], [], 0), (91, [10], [], 1007), (20, [9, 2], [1], 83), (0, [9], [], 344), (20, [8, 2], [1], 24), (0, [8], [], 298), (42, [6, 7], [], 0), (20, [7, 2], [1], 82), (90, [7], [], 0), (91, [7], [], 40), (5000, [0, 1, 2, 3, 4, 5, 6], [0, 1], 400), (0, [0], [], 285), (90, [1], [], 0), (91, [1], [], 7), (0, [2], [], 285), (90, [3], [], 0), (91, [3], [], 7), (90, [4], [], -2147483648), (91, [4], [], 2147483647), (90, [5], [], -2147483648), (91, [5], [], 2147483647), (90, [6], [], 0), (91, [6], [], 40)], (91, [13], [], 40)) := vOk_inI fun ρ η f0 f1 f2 f3 f4 f5 f6 f7 f8 f9 f10 f11 f12 f13 f14 f15 f16 f17 f18 f19 f20 f21 f22 f23 f24 f25 f26 f27 f28 f29 => q_274_82 (q0 := q0) (n0 := ρ 6) (n1 := ρ 5) (n2 := ρ 4) (n3 := ρ 3) (n4 := ρ 2) (n5 := ρ 1) (n6 := ρ 0) (n7 := ρ 7) (n8 := ρ 8) (n9 := ρ 9) (n10 := ρ 10) (n11 := ρ 11) (n12 := ρ 12) (n13 := ρ 13) (H0 := η 0) (H1 := η 1) f29 f28 f27 f26 f25 f24 f23 f22 f21 f20 f19 f18 f17 f16 f15 f14 f13 f12 f11 f10 f9 f8 f7 f6 f5 f4 f3 f2 f1 f0
theorem q_274_83 {q0 : Nat} {n0 n1 n2 n3 n4 n5 n6 n7 n8 n9 n10 n11 n12 n13 : Int} {H0 H1 : gH} (f0 : n0 ≤ 40) (f1 : 0 ≤ n0) (f2 : n1 ≤ 2147483647) (f3 : (-2147483648) ≤ n1) (f4 : n2 ≤ 2147483647) (f5 : (-2147483648) ≤ n2) (f6 : n3 ≤ 7) (f7 : 0 ≤ n3) (f8 : n4 = 285) (f9 : n5 ≤ 7) (f10 : 0 ≤ n5) (f11 : n6 = 285) (f12 : (hLe T0 H0 H1 ∧ hFr s_274.2.2.2.2 H0 H1 ∧ hWt T0 H1) ∧ (Ab_274_400 n6 n5 n4 n3 n2 n1 n0 H0 H1 ∧ preb_274 n6 n5 H0) ∧ some q0 = some (mub_274_400 n6 n5 n4 n3 n2 n1 n0 H0 H1)) (f13 : n7 ≤ 40) (f14 : 0 ≤ n7) (f15 : n7 = hV H1 (n4).toNat 82) (f16 : n0 < n7) (f17 : n8 = 298) (f18 : n8 = hV H1 (n4).toNat 24) (f19 : n9 = 344) (f20 : n9 = hV H1 (n4).toNat 83) (f21 : n10 ≤ 1007) (f22 : 0 ≤ n10) (f23 : n10 = hV H1 (n9).toNat (n0).toNat) (f24 : n11 ≤ 5) (f25 : 0 ≤ n11) (f26 : n11 = hV H1 (n8).toNat (n10).toNat) (f27 : n12 = 4) (f28 : n11 ≠ n12) (f29 : n13 = w32 (n0 + 1)) : Ab_274_400 n6 n5 n4 n3 n2 n1 n13 H0 H1 ∧ ∀ q, some q0 = some q → mub_274_400 n6 n5 n4 n3 n2 n1 n13 H0 H1 < q := by
  have g4 := f12.2.1.1
  unfold Ab_274_400 at g4
  have g3 := f12.2.1.2
  unfold preb_274 at g3
  have g5 := Option.some.inj f12.2.2
  unfold mub_274_400 at g5
  unfold Ab_274_400
  unfold mub_274_400
  have e0 : n7 = hV H1 285 82 := (by rw [f8] at f15; exact f15 : n7 = hV H1 285 82)
  have e1 : n10 = hV H1 344 (n0).toNat := (by rw [f19] at f23; exact f23 : n10 = hV H1 344 (n0).toNat)
  have e2 : hV H1 298 = hV H0 298 := fRow f12.1.2.1 298 kR_274_298
  have e3 : n11 = hV H0 298 (n10).toNat := (by rw [f17] at f26; exact f26 : n11 = hV H1 298 (n10).toNat).trans ((congrFun e2 _))
  have e6 : hV H1 300 = hV H0 300 := fRow f12.1.2.1 300 kR_274_300
  have e7 : hV H1 301 = hV H0 301 := fRow f12.1.2.1 301 kR_274_301
  have e8 : hV H1 302 = hV H0 302 := fRow f12.1.2.1 302 kR_274_302
  have e9 : hV H1 303 = hV H0 303 := fRow f12.1.2.1 303 kR_274_303
  have e10 : hV H1 305 = hV H0 305 := fRow f12.1.2.1 305 kR_274_305
  have e11 : (0 : Int) ≤ hV H0 285 18 ∧ hV H0 285 18 ≤ 8 := bTo ((f12.1.2.1.1 285 18 kF_274_285_18)) (f12.1.2.2 285 18 _ _ kW_285_18)
  have e12 : (0 : Int) ≤ hV H1 285 82 ∧ hV H1 285 82 ≤ 40 := f12.1.2.2 285 82 _ _ kW_285_82
  try simp only [XQ] at *
  try simp only [e2, e6, e7, e8, e9, e10] at g4
  try simp only [e2, e6, e7, e8, e9, e10]
  have k0 := g4.1
  have y0 := g4.2
  have p0 := g3.1
  have p1 := g3.2.1
  have p2 := g3.2.2
  clear g3
  clear g4
  clear f15 f18 f20 f23 f26 e2 e6 e7 e8 e9 e10
  subst e0
  subst e1
  subst e3
  first
  | (have ix0 : n13 = n0 + 1 := Eq.trans f29 (w32_iv (Iad (Iat f1 f0) (IC 1)) (by decide)); subst ix0; clear f29)
  | (have ix0 : n13 = n0 + 1 := Eq.trans f29 (w32_id (by omega) (by omega)); subst ix0; clear f29)
  | (unfold w32 at f29; have ix0 : n13 = n0 + 1 := (by omega); subst ix0)
  | skip
  try unfold w32 at f29
  try subst k0
  refine ⟨?_, fun q hq => ?_⟩
  · refine ⟨?_, ?_⟩ <;> first | assumption | omega | trivial
  · have g6 := Option.some.inj hq
    subst g6
    omega
theorem c_274_400_4 {q0 : Nat} : vOkm T0 (eP e_274 L_274 A_274 mu_274 (some q0)) 2 ([(10, [13, 6], [], 1), (41, [11, 12], [], 0), (0, [12], [], 4), (22, [11, 8, 10], [1], 0), (90, [11], [], 0), (91, [11], [], 5), (22, [10, 9, 6], [1], 0), (90, [10], [], 0), (91, [10], [], 1007), (20, [9, 2], [1], 83), (0, [9], [], 344), (20, [8, 2], [1], 24), (0, [8], [], 298), (42, [6, 7], [], 0), (20, [7, 2], [1], 82), (90, [7], [], 0), (91, [7], [], 40), (5000, [0, 1, 2, 3, 4, 5, 6], [0, 1], 400), (0, [0], [], 285), (90, [1], [], 0), (91, [1], [], 7), (0, [2], [], 285), (90, [3], [], 0), (91, [3], [], 7), (90, [4], [], -2147483648), (91, [4], [], 2147483647), (90, [5], [], -2147483648), (91, [5], [], 2147483647), (90, [6], [], 0), (91, [6], [], 40)], (4000, [2, 3, 4, 5, 13], [1], 400)) := vOk_inI fun ρ η f0 f1 f2 f3 f4 f5 f6 f7 f8 f9 f10 f11 f12 f13 f14 f15 f16 f17 f18 f19 f20 f21 f22 f23 f24 f25 f26 f27 f28 f29 => q_274_83 (q0 := q0) (n0 := ρ 6) (n1 := ρ 5) (n2 := ρ 4) (n3 := ρ 3) (n4 := ρ 2) (n5 := ρ 1) (n6 := ρ 0) (n7 := ρ 7) (n8 := ρ 8) (n9 := ρ 9) (n10 := ρ 10) (n11 := ρ 11) (n12 := ρ 12) (n13 := ρ 13) (H0 := η 0) (H1 := η 1) f29 f28 f27 f26 f25 f24 f23 f22 f21 f20 f19 f18 f17 f16 f15 f14 f13 f12 f11 f10 f9 f8 f7 f6 f5 f4 f3 f2 f1 f0
theorem q_274_84 {q0 : Nat} {n0 n1 n2 n3 n4 n5 n6 n7 n8 n9 n10 n11 n12 n13 : Int} {H0 H1 : gH} (f0 : n0 ≤ 40) (f1 : 0 ≤ n0) (f2 : n1 ≤ 2147483647) (f3 : (-2147483648) ≤ n1) (f4 : n2 ≤ 2147483647) (f5 : (-2147483648) ≤ n2) (f6 : n3 ≤ 7) (f7 : 0 ≤ n3) (f8 : n4 = 285) (f9 : n5 ≤ 7) (f10 : 0 ≤ n5) (f11 : n6 = 285) (f12 : (hLe T0 H0 H1 ∧ hFr s_274.2.2.2.2 H0 H1 ∧ hWt T0 H1) ∧ (Ab_274_400 n6 n5 n4 n3 n2 n1 n0 H0 H1 ∧ preb_274 n6 n5 H0) ∧ some q0 = some (mub_274_400 n6 n5 n4 n3 n2 n1 n0 H0 H1)) (f13 : n7 ≤ 40) (f14 : 0 ≤ n7) (f15 : n7 = hV H1 (n4).toNat 82) (f16 : n0 < n7) (f17 : n8 = 298) (f18 : n8 = hV H1 (n4).toNat 24) (f19 : n9 = 344) (f20 : n9 = hV H1 (n4).toNat 83) (f21 : n10 ≤ 1007) (f22 : 0 ≤ n10) (f23 : n10 = hV H1 (n9).toNat (n0).toNat) (f24 : n11 ≤ 5) (f25 : 0 ≤ n11) (f26 : n11 = hV H1 (n8).toNat (n10).toNat) (f27 : n12 = 4) (f28 : n11 = n12) (f29 : n13 = 344) (f30 : n13 = hV H1 (n4).toNat 83) : 0 ≤ n0 ∧ n0 < 40 := by
  have g4 := f12.2.1.1
  unfold Ab_274_400 at g4
  have g3 := f12.2.1.2
  unfold preb_274 at g3
  have e0 : n7 = hV H1 285 82 := (by rw [f8] at f15; exact f15 : n7 = hV H1 285 82)
  have e1 : n10 = hV H1 344 (n0).toNat := (by rw [f19] at f23; exact f23 : n10 = hV H1 344 (n0).toNat)
  have e2 : hV H1 298 = hV H0 298 := fRow f12.1.2.1 298 kR_274_298
  have e3 : n11 = hV H0 298 (n10).toNat := (by rw [f17] at f26; exact f26 : n11 = hV H1 298 (n10).toNat).trans ((congrFun e2 _))
  have e6 : hV H1 300 = hV H0 300 := fRow f12.1.2.1 300 kR_274_300
  have e7 : hV H1 301 = hV H0 301 := fRow f12.1.2.1 301 kR_274_301
  have e8 : hV H1 302 = hV H0 302 := fRow f12.1.2.1 302 kR_274_302
  have e9 : hV H1 303 = hV H0 303 := fRow f12.1.2.1 303 kR_274_303
  have e10 : hV H1 305 = hV H0 305 := fRow f12.1.2.1 305 kR_274_305
  have e11 : (0 : Int) ≤ hV H0 285 18 ∧ hV H0 285 18 ≤ 8 := bTo ((f12.1.2.1.1 285 18 kF_274_285_18)) (f12.1.2.2 285 18 _ _ kW_285_18)
  have e12 : (0 : Int) ≤ hV H1 285 82 ∧ hV H1 285 82 ≤ 40 := f12.1.2.2 285 82 _ _ kW_285_82
  try simp only [XQ] at *
  try simp only [e2, e6, e7, e8, e9, e10] at g4
  have k0 := g4.1
  have y0 := g4.2
  have p0 := g3.1
  have p1 := g3.2.1
  have p2 := g3.2.2
  clear g3
  clear g4
  clear f15 f18 f20 f23 f26 f30 e2 e6 e7 e8 e9 e10
  subst e0
  subst e1
  subst e3
  try subst k0
  omega
theorem c_274_400_5 {q0 : Nat} : vOkm T0 (eP e_274 L_274 A_274 mu_274 (some q0)) 2 ([(20, [14, 2], [1], 83), (0, [14], [], 344), (40, [11, 12], [], 0), (0, [12], [], 4), (22, [11, 8, 10], [1], 0), (90, [11], [], 0), (91, [11], [], 5), (22, [10, 9, 6], [1], 0), (90, [10], [], 0), (91, [10], [], 1007), (20, [9, 2], [1], 83), (0, [9], [], 344), (20, [8, 2], [1], 24), (0, [8], [], 298), (42, [6, 7], [], 0), (20, [7, 2], [1], 82), (90, [7], [], 0), (91, [7], [], 40), (5000, [0, 1, 2, 3, 4, 5, 6], [0, 1], 400), (0, [0], [], 285), (90, [1], [], 0), (91, [1], [], 7), (0, [2], [], 285), (90, [3], [], 0), (91, [3], [], 7), (90, [4], [], -2147483648), (91, [4], [], 2147483647), (90, [5], [], -2147483648), (91, [5], [], 2147483647), (90, [6], [], 0), (91, [6], [], 40)], (70, [6], [], 40)) := vOk_inI fun ρ η f0 f1 f2 f3 f4 f5 f6 f7 f8 f9 f10 f11 f12 f13 f14 f15 f16 f17 f18 f19 f20 f21 f22 f23 f24 f25 f26 f27 f28 f29 f30 => q_274_84 (q0 := q0) (n0 := ρ 6) (n1 := ρ 5) (n2 := ρ 4) (n3 := ρ 3) (n4 := ρ 2) (n5 := ρ 1) (n6 := ρ 0) (n7 := ρ 7) (n8 := ρ 8) (n9 := ρ 9) (n10 := ρ 10) (n11 := ρ 11) (n12 := ρ 12) (n13 := ρ 14) (H0 := η 0) (H1 := η 1) f30 f29 f28 f27 f26 f25 f24 f23 f22 f21 f20 f19 f18 f17 f16 f15 f14 f13 f12 f11 f10 f9 f8 f7 f6 f5 f4 f3 f2 f1 f0
theorem q_274_85 {q0 : Nat} {n0 n1 n2 n3 n4 n5 n6 n7 n8 n9 n10 n11 n12 n13 n14 n15 n16 n17 : Int} {H0 H1 : gH} (f0 : n0 ≤ 40) (f1 : 0 ≤ n0) (f2 : n1 ≤ 2147483647) (f3 : (-2147483648) ≤ n1) (f4 : n2 ≤ 2147483647) (f5 : (-2147483648) ≤ n2) (f6 : n3 ≤ 7) (f7 : 0 ≤ n3) (f8 : n4 = 285) (f9 : n5 ≤ 7) (f10 : 0 ≤ n5) (f11 : n6 = 285) (f12 : (hLe T0 H0 H1 ∧ hFr s_274.2.2.2.2 H0 H1 ∧ hWt T0 H1) ∧ (Ab_274_400 n6 n5 n4 n3 n2 n1 n0 H0 H1 ∧ preb_274 n6 n5 H0) ∧ some q0 = some (mub_274_400 n6 n5 n4 n3 n2 n1 n0 H0 H1)) (f13 : n7 ≤ 40) (f14 : 0 ≤ n7) (f15 : n7 = hV H1 (n4).toNat 82) (f16 : n0 < n7) (f17 : n8 = 298) (f18 : n8 = hV H1 (n4).toNat 24) (f19 : n9 = 344) (f20 : n9 = hV H1 (n4).toNat 83) (f21 : n10 ≤ 1007) (f22 : 0 ≤ n10) (f23 : n10 = hV H1 (n9).toNat (n0).toNat) (f24 : n11 ≤ 5) (f25 : 0 ≤ n11) (f26 : n11 = hV H1 (n8).toNat (n10).toNat) (f27 : n12 = 4) (f28 : n11 = n12) (f29 : n13 = 300) (f30 : n13 = hV H1 (n4).toNat 26) (f31 : n14 = 344) (f32 : n14 = hV H1 (n4).toNat 83) (f33 : n15 ≤ 1007) (f34 : 0 ≤ n15) (f35 : n15 = hV H1 (n14).toNat (n0).toNat) (f36 : n16 ≤ 9999) (f37 : (-1) ≤ n16) (f38 : n16 = hV H1 (n13).toNat (n15).toNat) (f39 : n17 = w32 (n0 + 1)) : 0 ≤ n17 := by
  have g4 := f12.2.1.1
  unfold Ab_274_400 at g4
  have g3 := f12.2.1.2
  unfold preb_274 at g3
  have e0 : n7 = hV H1 285 82 := (by rw [f8] at f15; exact f15 : n7 = hV H1 285 82)
  have e1 : n10 = hV H1 344 (n0).toNat := (by rw [f19] at f23; exact f23 : n10 = hV H1 344 (n0).toNat)
  have e2 : hV H1 298 = hV H0 298 := fRow f12.1.2.1 298 kR_274_298
  have e3 : n11 = hV H0 298 (n10).toNat := (by rw [f17] at f26; exact f26 : n11 = hV H1 298 (n10).toNat).trans ((congrFun e2 _))
  have e4 : n15 = hV H1 344 (n0).toNat := (by rw [f31] at f35; exact f35 : n15 = hV H1 344 (n0).toNat)
  have e5 : hV H1 300 = hV H0 300 := fRow f12.1.2.1 300 kR_274_300
  have e6 : n16 = hV H0 300 (n15).toNat := (by rw [f29] at f38; exact f38 : n16 = hV H1 300 (n15).toNat).trans ((congrFun e5 _))
  have e9 : hV H1 301 = hV H0 301 := fRow f12.1.2.1 301 kR_274_301
  have e10 : hV H1 302 = hV H0 302 := fRow f12.1.2.1 302 kR_274_302
  have e11 : hV H1 303 = hV H0 303 := fRow f12.1.2.1 303 kR_274_303
  have e12 : hV H1 305 = hV H0 305 := fRow f12.1.2.1 305 kR_274_305
  have e13 : (0 : Int) ≤ hV H0 285 18 ∧ hV H0 285 18 ≤ 8 := bTo ((f12.1.2.1.1 285 18 kF_274_285_18)) (f12.1.2.2 285 18 _ _ kW_285_18)
  have e14 : (0 : Int) ≤ hV H1 285 82 ∧ hV H1 285 82 ≤ 40 := f12.1.2.2 285 82 _ _ kW_285_82
  try simp only [XQ] at *
  try simp only [e2, e5, e9, e10, e11, e12] at g4
  have k0 := g4.1
  have y0 := g4.2
  have p0 := g3.1
  have p1 := g3.2.1
  have p2 := g3.2.2
  clear g3
  clear g4
  clear f15 f18 f20 f23 f26 f30 f32 f35 f38 e2 e5 e9 e10 e11 e12
  subst e0
  subst e1
  subst e3
  subst e4
  subst e6
  first
  | (have ix0 : n17 = n0 + 1 := Eq.trans f39 (w32_iv (Iad (Iat f1 f0) (IC 1)) (by decide)); subst ix0; clear f39)
  | (have ix0 : n17 = n0 + 1 := Eq.trans f39 (w32_id (by omega) (by omega)); subst ix0; clear f39)
  | (unfold w32 at f39; have ix0 : n17 = n0 + 1 := (by omega); subst ix0)
  | skip
  try unfold w32 at f39
  try subst k0
  omega
theorem c_274_400_6 {q0 : Nat} : vOkm T0 (eP e_274 L_274 A_274 mu_274 (some q0)) 2 ([(10, [17, 6], [], 1), (22, [16, 13, 15], [1], 0), (90, [16], [], -1), (91, [16], [], 9999), (22, [15, 14, 6], [1], 0), (90, [15], [], 0), (91, [15], [], 1007), (20, [14, 2], [1], 83), (0, [14], [], 344), (20, [13, 2], [1], 26), (0, [13], [], 300), (40, [11, 12], [], 0), (0, [12], [], 4), (22, [11, 8, 10], [1], 0), (90, [11], [], 0), (91, [11], [], 5), (22, [10, 9, 6], [1], 0), (90, [10], [], 0), (91, [10], [], 1007), (20, [9, 2], [1], 83), (0, [9], [], 344), (20, [8, 2], [1], 24), (0, [8], [], 298), (42, [6, 7], [], 0), (20, [7, 2], [1], 82), (90, [7], [], 0), (91, [7], [], 40), (5000, [0, 1, 2, 3, 4, 5, 6], [0, 1], 400), (0, [0], [], 285), (90, [1], [], 0), (91, [1], [], 7), (0, [2], [], 285), (90, [3], [], 0), (91, [3], [], 7), (90, [4], [], -2147483648), (91, [4], [], 2147483647), (90, [5], [], -2147483648), (91, [5], [], 2147483647), (90, [6], [], 0), (91, [6], [], 40)], (90, [17], [], 0)) := vOk_inI fun ρ η f0 f1 f2 f3 f4 f5 f6 f7 f8 f9 f10 f11 f12 f13 f14 f15 f16 f17 f18 f19 f20 f21 f22 f23 f24 f25 f26 f27 f28 f29 f30 f31 f32 f33 f34 f35 f36 f37 f38 f39 => q_274_85 (q0 := q0) (n0 := ρ 6) (n1 := ρ 5) (n2 := ρ 4) (n3 := ρ 3) (n4 := ρ 2) (n5 := ρ 1) (n6 := ρ 0) (n7 := ρ 7) (n8 := ρ 8) (n9 := ρ 9) (n10 := ρ 10) (n11 := ρ 11) (n12 := ρ 12) (n13 := ρ 13) (n14 := ρ 14) (n15 := ρ 15) (n16 := ρ 16) (n17 := ρ 17) (H0 := η 0) (H1 := η 1) f39 f38 f37 f36 f35 f34 f33 f32 f31 f30 f29 f28 f27 f26 f25 f24 f23 f22 f21 f20 f19 f18 f17 f16 f15 f14 f13 f12 f11 f10 f9 f8 f7 f6 f5 f4 f3 f2 f1 f0
theorem q_274_86 {q0 : Nat} {n0 n1 n2 n3 n4 n5 n6 n7 n8 n9 n10 n11 n12 n13 n14 n15 n16 n17 : Int} {H0 H1 : gH} (f0 : n0 ≤ 40) (f1 : 0 ≤ n0) (f2 : n1 ≤ 2147483647) (f3 : (-2147483648) ≤ n1) (f4 : n2 ≤ 2147483647) (f5 : (-2147483648) ≤ n2) (f6 : n3 ≤ 7) (f7 : 0 ≤ n3) (f8 : n4 = 285) (f9 : n5 ≤ 7) (f10 : 0 ≤ n5) (f11 : n6 = 285) (f12 : (hLe T0 H0 H1 ∧ hFr s_274.2.2.2.2 H0 H1 ∧ hWt T0 H1) ∧ (Ab_274_400 n6 n5 n4 n3 n2 n1 n0 H0 H1 ∧ preb_274 n6 n5 H0) ∧ some q0 = some (mub_274_400 n6 n5 n4 n3 n2 n1 n0 H0 H1)) (f13 : n7 ≤ 40) (f14 : 0 ≤ n7) (f15 : n7 = hV H1 (n4).toNat 82) (f16 : n0 < n7) (f17 : n8 = 298) (f18 : n8 = hV H1 (n4).toNat 24) (f19 : n9 = 344) (f20 : n9 = hV H1 (n4).toNat 83) (f21 : n10 ≤ 1007) (f22 : 0 ≤ n10) (f23 : n10 = hV H1 (n9).toNat (n0).toNat) (f24 : n11 ≤ 5) (f25 : 0 ≤ n11) (f26 : n11 = hV H1 (n8).toNat (n10).toNat) (f27 : n12 = 4) (f28 : n11 = n12) (f29 : n13 = 300) (f30 : n13 = hV H1 (n4).toNat 26) (f31 : n14 = 344) (f32 : n14 = hV H1 (n4).toNat 83) (f33 : n15 ≤ 1007) (f34 : 0 ≤ n15) (f35 : n15 = hV H1 (n14).toNat (n0).toNat) (f36 : n16 ≤ 9999) (f37 : (-1) ≤ n16) (f38 : n16 = hV H1 (n13).toNat (n15).toNat) (f39 : n17 = w32 (n0 + 1)) : n17 ≤ 40 := by
  have g4 := f12.2.1.1
  unfold Ab_274_400 at g4
  have g3 := f12.2.1.2
  unfold preb_274 at g3
  have e0 : n7 = hV H1 285 82 := (by rw [f8] at f15; exact f15 : n7 = hV H1 285 82)
  have e1 : n10 = hV H1 344 (n0).toNat := (by rw [f19] at f23; exact f23 : n10 = hV H1 344 (n0).toNat)
  have e2 : hV H1 298 = hV H0 298 := fRow f12.1.2.1 298 kR_274_298
  have e3 : n11 = hV H0 298 (n10).toNat := (by rw [f17] at f26; exact f26 : n11 = hV H1 298 (n10).toNat).trans ((congrFun e2 _))
  have e4 : n15 = hV H1 344 (n0).toNat := (by rw [f31] at f35; exact f35 : n15 = hV H1 344 (n0).toNat)
  have e5 : hV H1 300 = hV H0 300 := fRow f12.1.2.1 300 kR_274_300
  have e6 : n16 = hV H0 300 (n15).toNat := (by rw [f29] at f38; exact f38 : n16 = hV H1 300 (n15).toNat).trans ((congrFun e5 _))
  have e9 : hV H1 301 = hV H0 301 := fRow f12.1.2.1 301 kR_274_301
  have e10 : hV H1 302 = hV H0 302 := fRow f12.1.2.1 302 kR_274_302
  have e11 : hV H1 303 = hV H0 303 := fRow f12.1.2.1 303 kR_274_303
  have e12 : hV H1 305 = hV H0 305 := fRow f12.1.2.1 305 kR_274_305
  have e13 : (0 : Int) ≤ hV H0 285 18 ∧ hV H0 285 18 ≤ 8 := bTo ((f12.1.2.1.1 285 18 kF_274_285_18)) (f12.1.2.2 285 18 _ _ kW_285_18)
  have e14 : (0 : Int) ≤ hV H1 285 82 ∧ hV H1 285 82 ≤ 40 := f12.1.2.2 285 82 _ _ kW_285_82
  try simp only [XQ] at *
  try simp only [e2, e5, e9, e10, e11, e12] at g4
  have k0 := g4.1
  have y0 := g4.2
  have p0 := g3.1
  have p1 := g3.2.1
  have p2 := g3.2.2
  clear g3
  clear g4
  clear f15 f18 f20 f23 f26 f30 f32 f35 f38 e2 e5 e9 e10 e11 e12
  subst e0
  subst e1
  subst e3
  subst e4
  subst e6
  first
  | (have ix0 : n17 = n0 + 1 := Eq.trans f39 (w32_iv (Iad (Iat f1 f0) (IC 1)) (by decide)); subst ix0; clear f39)
  | (have ix0 : n17 = n0 + 1 := Eq.trans f39 (w32_id (by omega) (by omega)); subst ix0; clear f39)
  | (unfold w32 at f39; have ix0 : n17 = n0 + 1 := (by omega); subst ix0)
  | skip
  try unfold w32 at f39
  try subst k0
  omega
theorem c_274_400_7 {q0 : Nat} : vOkm T0 (eP e_274 L_274 A_274 mu_274 (some q0)) 2 ([(10, [17, 6], [], 1), (22, [16, 13, 15], [1], 0), (90, [16], [], -1), (91, [16], [], 9999), (22, [15, 14, 6], [1], 0), (90, [15], [], 0), (91, [15], [], 1007), (20, [14, 2], [1], 83), (0, [14], [], 344), (20, [13, 2], [1], 26), (0, [13], [], 300), (40, [11, 12], [], 0), (0, [12], [], 4), (22, [11, 8, 10], [1], 0), (90, [11], [], 0), (91, [11], [], 5), (22, [10, 9, 6], [1], 0), (90, [10], [], 0), (91, [10], [], 1007), (20, [9, 2], [1], 83), (0, [9], [], 344), (20, [8, 2], [1], 24), (0, [8], [], 298), (42, [6, 7], [], 0), (20, [7, 2], [1], 82), (90, [7], [], 0), (91, [7], [], 40), (5000, [0, 1, 2, 3, 4, 5, 6], [0, 1], 400), (0, [0], [], 285), (90, [1], [], 0), (91, [1], [], 7), (0, [2], [], 285), (90, [3], [], 0), (91, [3], [], 7), (90, [4], [], -2147483648), (91, [4], [], 2147483647), (90, [5], [], -2147483648), (91, [5], [], 2147483647), (90, [6], [], 0), (91, [6], [], 40)], (91, [17], [], 40)) := vOk_inI fun ρ η f0 f1 f2 f3 f4 f5 f6 f7 f8 f9 f10 f11 f12 f13 f14 f15 f16 f17 f18 f19 f20 f21 f22 f23 f24 f25 f26 f27 f28 f29 f30 f31 f32 f33 f34 f35 f36 f37 f38 f39 => q_274_86 (q0 := q0) (n0 := ρ 6) (n1 := ρ 5) (n2 := ρ 4) (n3 := ρ 3) (n4 := ρ 2) (n5 := ρ 1) (n6 := ρ 0) (n7 := ρ 7) (n8 := ρ 8) (n9 := ρ 9) (n10 := ρ 10) (n11 := ρ 11) (n12 := ρ 12) (n13 := ρ 13) (n14 := ρ 14) (n15 := ρ 15) (n16 := ρ 16) (n17 := ρ 17) (H0 := η 0) (H1 := η 1) f39 f38 f37 f36 f35 f34 f33 f32 f31 f30 f29 f28 f27 f26 f25 f24 f23 f22 f21 f20 f19 f18 f17 f16 f15 f14 f13 f12 f11 f10 f9 f8 f7 f6 f5 f4 f3 f2 f1 f0
theorem q_274_87 {q0 : Nat} {n0 n1 n2 n3 n4 n5 n6 n7 n8 n9 n10 n11 n12 n13 n14 n15 n16 n17 : Int} {H0 H1 : gH} (f0 : n0 ≤ 40) (f1 : 0 ≤ n0) (f2 : n1 ≤ 2147483647) (f3 : (-2147483648) ≤ n1) (f4 : n2 ≤ 2147483647) (f5 : (-2147483648) ≤ n2) (f6 : n3 ≤ 7) (f7 : 0 ≤ n3) (f8 : n4 = 285) (f9 : n5 ≤ 7) (f10 : 0 ≤ n5) (f11 : n6 = 285) (f12 : (hLe T0 H0 H1 ∧ hFr s_274.2.2.2.2 H0 H1 ∧ hWt T0 H1) ∧ (Ab_274_400 n6 n5 n4 n3 n2 n1 n0 H0 H1 ∧ preb_274 n6 n5 H0) ∧ some q0 = some (mub_274_400 n6 n5 n4 n3 n2 n1 n0 H0 H1)) (f13 : n7 ≤ 40) (f14 : 0 ≤ n7) (f15 : n7 = hV H1 (n4).toNat 82) (f16 : n0 < n7) (f17 : n8 = 298) (f18 : n8 = hV H1 (n4).toNat 24) (f19 : n9 = 344) (f20 : n9 = hV H1 (n4).toNat 83) (f21 : n10 ≤ 1007) (f22 : 0 ≤ n10) (f23 : n10 = hV H1 (n9).toNat (n0).toNat) (f24 : n11 ≤ 5) (f25 : 0 ≤ n11) (f26 : n11 = hV H1 (n8).toNat (n10).toNat) (f27 : n12 = 4) (f28 : n11 = n12) (f29 : n13 = 300) (f30 : n13 = hV H1 (n4).toNat 26) (f31 : n14 = 344) (f32 : n14 = hV H1 (n4).toNat 83) (f33 : n15 ≤ 1007) (f34 : 0 ≤ n15) (f35 : n15 = hV H1 (n14).toNat (n0).toNat) (f36 : n16 ≤ 9999) (f37 : (-1) ≤ n16) (f38 : n16 = hV H1 (n13).toNat (n15).toNat) (f39 : n17 = w32 (n0 + 1)) : Ab_274_400 n6 n5 n4 n3 n2 n16 n17 H0 H1 ∧ ∀ q, some q0 = some q → mub_274_400 n6 n5 n4 n3 n2 n16 n17 H0 H1 < q := by
  have g4 := f12.2.1.1
  unfold Ab_274_400 at g4
  have g3 := f12.2.1.2
  unfold preb_274 at g3
  have g5 := Option.some.inj f12.2.2
  unfold mub_274_400 at g5
  unfold Ab_274_400
  unfold mub_274_400
  have e0 : n7 = hV H1 285 82 := (by rw [f8] at f15; exact f15 : n7 = hV H1 285 82)
  have e1 : n10 = hV H1 344 (n0).toNat := (by rw [f19] at f23; exact f23 : n10 = hV H1 344 (n0).toNat)
  have e2 : hV H1 298 = hV H0 298 := fRow f12.1.2.1 298 kR_274_298
  have e3 : n11 = hV H0 298 (n10).toNat := (by rw [f17] at f26; exact f26 : n11 = hV H1 298 (n10).toNat).trans ((congrFun e2 _))
  have e4 : n15 = hV H1 344 (n0).toNat := (by rw [f31] at f35; exact f35 : n15 = hV H1 344 (n0).toNat)
  have e5 : hV H1 300 = hV H0 300 := fRow f12.1.2.1 300 kR_274_300
  have e6 : n16 = hV H0 300 (n15).toNat := (by rw [f29] at f38; exact f38 : n16 = hV H1 300 (n15).toNat).trans ((congrFun e5 _))
  have e9 : hV H1 301 = hV H0 301 := fRow f12.1.2.1 301 kR_274_301
  have e10 : hV H1 302 = hV H0 302 := fRow f12.1.2.1 302 kR_274_302
  have e11 : hV H1 303 = hV H0 303 := fRow f12.1.2.1 303 kR_274_303
  have e12 : hV H1 305 = hV H0 305 := fRow f12.1.2.1 305 kR_274_305
  have e13 : (0 : Int) ≤ hV H0 285 18 ∧ hV H0 285 18 ≤ 8 := bTo ((f12.1.2.1.1 285 18 kF_274_285_18)) (f12.1.2.2 285 18 _ _ kW_285_18)
  have e14 : (0 : Int) ≤ hV H1 285 82 ∧ hV H1 285 82 ≤ 40 := f12.1.2.2 285 82 _ _ kW_285_82
  try simp only [XQ] at *
  try simp only [e2, e5, e9, e10, e11, e12] at g4
  try simp only [e2, e5, e9, e10, e11, e12]
  have k0 := g4.1
  have y0 := g4.2
  have p0 := g3.1
  have p1 := g3.2.1
  have p2 := g3.2.2
  clear g3
  clear g4
  clear f15 f18 f20 f23 f26 f30 f32 f35 f38 e2 e5 e9 e10 e11 e12
  subst e0
  subst e1
  subst e3
  subst e4
  subst e6
  first
  | (have ix0 : n17 = n0 + 1 := Eq.trans f39 (w32_iv (Iad (Iat f1 f0) (IC 1)) (by decide)); subst ix0; clear f39)
  | (have ix0 : n17 = n0 + 1 := Eq.trans f39 (w32_id (by omega) (by omega)); subst ix0; clear f39)
  | (unfold w32 at f39; have ix0 : n17 = n0 + 1 := (by omega); subst ix0)
  | skip
  try unfold w32 at f39
  try subst k0
  refine ⟨?_, fun q hq => ?_⟩
  · refine ⟨?_, ?_⟩ <;> first | assumption | omega | trivial
  · have g6 := Option.some.inj hq
    subst g6
    omega
theorem c_274_400_8 {q0 : Nat} : vOkm T0 (eP e_274 L_274 A_274 mu_274 (some q0)) 2 ([(10, [17, 6], [], 1), (22, [16, 13, 15], [1], 0), (90, [16], [], -1), (91, [16], [], 9999), (22, [15, 14, 6], [1], 0), (90, [15], [], 0), (91, [15], [], 1007), (20, [14, 2], [1], 83), (0, [14], [], 344), (20, [13, 2], [1], 26), (0, [13], [], 300), (40, [11, 12], [], 0), (0, [12], [], 4), (22, [11, 8, 10], [1], 0), (90, [11], [], 0), (91, [11], [], 5), (22, [10, 9, 6], [1], 0), (90, [10], [], 0), (91, [10], [], 1007), (20, [9, 2], [1], 83), (0, [9], [], 344), (20, [8, 2], [1], 24), (0, [8], [], 298), (42, [6, 7], [], 0), (20, [7, 2], [1], 82), (90, [7], [], 0), (91, [7], [], 40), (5000, [0, 1, 2, 3, 4, 5, 6], [0, 1], 400), (0, [0], [], 285), (90, [1], [], 0), (91, [1], [], 7), (0, [2], [], 285), (90, [3], [], 0), (91, [3], [], 7), (90, [4], [], -2147483648), (91, [4], [], 2147483647), (90, [5], [], -2147483648), (91, [5], [], 2147483647), (90, [6], [], 0), (91, [6], [], 40)], (4000, [2, 3, 4, 16, 17], [1], 400)) := vOk_inI fun ρ η f0 f1 f2 f3 f4 f5 f6 f7 f8 f9 f10 f11 f12 f13 f14 f15 f16 f17 f18 f19 f20 f21 f22 f23 f24 f25 f26 f27 f28 f29 f30 f31 f32 f33 f34 f35 f36 f37 f38 f39 => q_274_87 (q0 := q0) (n0 := ρ 6) (n1 := ρ 5) (n2 := ρ 4) (n3 := ρ 3) (n4 := ρ 2) (n5 := ρ 1) (n6 := ρ 0) (n7 := ρ 7) (n8 := ρ 8) (n9 := ρ 9) (n10 := ρ 10) (n11 := ρ 11) (n12 := ρ 12) (n13 := ρ 13) (n14 := ρ 14) (n15 := ρ 15) (n16 := ρ 16) (n17 := ρ 17) (H0 := η 0) (H1 := η 1) f39 f38 f37 f36 f35 f34 f33 f32 f31 f30 f29 f28 f27 f26 f25 f24 f23 f22 f21 f20 f19 f18 f17 f16 f15 f14 f13 f12 f11 f10 f9 f8 f7 f6 f5 f4 f3 f2 f1 f0
def p_274_400 : List vG := [([(0, [8], [], 0), (43, [6, 7], [], 0), (20, [7, 2], [1], 82), (90, [7], [], 0), (91, [7], [], 40), (5000, [0, 1, 2, 3, 4, 5, 6], [0, 1], 400), (0, [0], [], 285), (90, [1], [], 0), (91, [1], [], 7), (0, [2], [], 285), (90, [3], [], 0), (91, [3], [], 7), (90, [4], [], -2147483648), (91, [4], [], 2147483647), (90, [5], [], -2147483648), (91, [5], [], 2147483647), (90, [6], [], 0), (91, [6], [], 40)], (4000, [2, 3, 4, 5, 8], [1], 447)),
  ([(42, [6, 7], [], 0), (20, [7, 2], [1], 82), (90, [7], [], 0), (91, [7], [], 40), (5000, [0, 1, 2, 3, 4, 5, 6], [0, 1], 400), (0, [0], [], 285), (90, [1], [], 0), (91, [1], [], 7), (0, [2], [], 285), (90, [3], [], 0), (91, [3], [], 7), (90, [4], [], -2147483648), (91, [4], [], 2147483647), (90, [5], [], -2147483648), (91, [5], [], 2147483647), (90, [6], [], 0), (91, [6], [], 40)], (70, [6], [], 40)),
  ([(10, [13, 6], [], 1), (41, [11, 12], [], 0), (0, [12], [], 4), (22, [11, 8, 10], [1], 0), (90, [11], [], 0), (91, [11], [], 5), (22, [10, 9, 6], [1], 0), (90, [10], [], 0), (91, [10], [], 1007), (20, [9, 2], [1], 83), (0, [9], [], 344), (20, [8, 2], [1], 24), (0, [8], [], 298), (42, [6, 7], [], 0), (20, [7, 2], [1], 82), (90, [7], [], 0), (91, [7], [], 40), (5000, [0, 1, 2, 3, 4, 5, 6], [0, 1], 400), (0, [0], [], 285), (90, [1], [], 0), (91, [1], [], 7), (0, [2], [], 285), (90, [3], [], 0), (91, [3], [], 7), (90, [4], [], -2147483648), (91, [4], [], 2147483647), (90, [5], [], -2147483648), (91, [5], [], 2147483647), (90, [6], [], 0), (91, [6], [], 40)], (90, [13], [], 0)),
  ([(10, [13, 6], [], 1), (41, [11, 12], [], 0), (0, [12], [], 4), (22, [11, 8, 10], [1], 0), (90, [11], [], 0), (91, [11], [], 5), (22, [10, 9, 6], [1], 0), (90, [10], [], 0), (91, [10], [], 1007), (20, [9, 2], [1], 83), (0, [9], [], 344), (20, [8, 2], [1], 24), (0, [8], [], 298), (42, [6, 7], [], 0), (20, [7, 2], [1], 82), (90, [7], [], 0), (91, [7], [], 40), (5000, [0, 1, 2, 3, 4, 5, 6], [0, 1], 400), (0, [0], [], 285), (90, [1], [], 0), (91, [1], [], 7), (0, [2], [], 285), (90, [3], [], 0), (91, [3], [], 7), (90, [4], [], -2147483648), (91, [4], [], 2147483647), (90, [5], [], -2147483648), (91, [5], [], 2147483647), (90, [6], [], 0), (91, [6], [], 40)], (91, [13], [], 40)),
  ([(10, [13, 6], [], 1), (41, [11, 12], [], 0), (0, [12], [], 4), (22, [11, 8, 10], [1], 0), (90, [11], [], 0), (91, [11], [], 5), (22, [10, 9, 6], [1], 0), (90, [10], [], 0), (91, [10], [], 1007), (20, [9, 2], [1], 83), (0, [9], [], 344), (20, [8, 2], [1], 24), (0, [8], [], 298), (42, [6, 7], [], 0), (20, [7, 2], [1], 82), (90, [7], [], 0), (91, [7], [], 40), (5000, [0, 1, 2, 3, 4, 5, 6], [0, 1], 400), (0, [0], [], 285), (90, [1], [], 0), (91, [1], [], 7), (0, [2], [], 285), (90, [3], [], 0), (91, [3], [], 7), (90, [4], [], -2147483648), (91, [4], [], 2147483647), (90, [5], [], -2147483648), (91, [5], [], 2147483647), (90, [6], [], 0), (91, [6], [], 40)], (4000, [2, 3, 4, 5, 13], [1], 400)),
  ([(20, [14, 2], [1], 83), (0, [14], [], 344), (40, [11, 12], [], 0), (0, [12], [], 4), (22, [11, 8, 10], [1], 0), (90, [11], [], 0), (91, [11], [], 5), (22, [10, 9, 6], [1], 0), (90, [10], [], 0), (91, [10], [], 1007), (20, [9, 2], [1], 83), (0, [9], [], 344), (20, [8, 2], [1], 24), (0, [8], [], 298), (42, [6, 7], [], 0), (20, [7, 2], [1], 82), (90, [7], [], 0), (91, [7], [], 40), (5000, [0, 1, 2, 3, 4, 5, 6], [0, 1], 400), (0, [0], [], 285), (90, [1], [], 0), (91, [1], [], 7), (0, [2], [], 285), (90, [3], [], 0), (91, [3], [], 7), (90, [4], [], -2147483648), (91, [4], [], 2147483647), (90, [5], [], -2147483648), (91, [5], [], 2147483647), (90, [6], [], 0), (91, [6], [], 40)], (70, [6], [], 40)),
  ([(10, [17, 6], [], 1), (22, [16, 13, 15], [1], 0), (90, [16], [], -1), (91, [16], [], 9999), (22, [15, 14, 6], [1], 0), (90, [15], [], 0), (91, [15], [], 1007), (20, [14, 2], [1], 83), (0, [14], [], 344), (20, [13, 2], [1], 26), (0, [13], [], 300), (40, [11, 12], [], 0), (0, [12], [], 4), (22, [11, 8, 10], [1], 0), (90, [11], [], 0), (91, [11], [], 5), (22, [10, 9, 6], [1], 0), (90, [10], [], 0), (91, [10], [], 1007), (20, [9, 2], [1], 83), (0, [9], [], 344), (20, [8, 2], [1], 24), (0, [8], [], 298), (42, [6, 7], [], 0), (20, [7, 2], [1], 82), (90, [7], [], 0), (91, [7], [], 40), (5000, [0, 1, 2, 3, 4, 5, 6], [0, 1], 400), (0, [0], [], 285), (90, [1], [], 0), (91, [1], [], 7), (0, [2], [], 285), (90, [3], [], 0), (91, [3], [], 7), (90, [4], [], -2147483648), (91, [4], [], 2147483647), (90, [5], [], -2147483648), (91, [5], [], 2147483647), (90, [6], [], 0), (91, [6], [], 40)], (90, [17], [], 0)),
  ([(10, [17, 6], [], 1), (22, [16, 13, 15], [1], 0), (90, [16], [], -1), (91, [16], [], 9999), (22, [15, 14, 6], [1], 0), (90, [15], [], 0), (91, [15], [], 1007), (20, [14, 2], [1], 83), (0, [14], [], 344), (20, [13, 2], [1], 26), (0, [13], [], 300), (40, [11, 12], [], 0), (0, [12], [], 4), (22, [11, 8, 10], [1], 0), (90, [11], [], 0), (91, [11], [], 5), (22, [10, 9, 6], [1], 0), (90, [10], [], 0), (91, [10], [], 1007), (20, [9, 2], [1], 83), (0, [9], [], 344), (20, [8, 2], [1], 24), (0, [8], [], 298), (42, [6, 7], [], 0), (20, [7, 2], [1], 82), (90, [7], [], 0), (91, [7], [], 40), (5000, [0, 1, 2, 3, 4, 5, 6], [0, 1], 400), (0, [0], [], 285), (90, [1], [], 0), (91, [1], [], 7), (0, [2], [], 285), (90, [3], [], 0), (91, [3], [], 7), (90, [4], [], -2147483648), (91, [4], [], 2147483647), (90, [5], [], -2147483648), (91, [5], [], 2147483647), (90, [6], [], 0), (91, [6], [], 40)], (91, [17], [], 40)),
  ([(10, [17, 6], [], 1), (22, [16, 13, 15], [1], 0), (90, [16], [], -1), (91, [16], [], 9999), (22, [15, 14, 6], [1], 0), (90, [15], [], 0), (91, [15], [], 1007), (20, [14, 2], [1], 83), (0, [14], [], 344), (20, [13, 2], [1], 26), (0, [13], [], 300), (40, [11, 12], [], 0), (0, [12], [], 4), (22, [11, 8, 10], [1], 0), (90, [11], [], 0), (91, [11], [], 5), (22, [10, 9, 6], [1], 0), (90, [10], [], 0), (91, [10], [], 1007), (20, [9, 2], [1], 83), (0, [9], [], 344), (20, [8, 2], [1], 24), (0, [8], [], 298), (42, [6, 7], [], 0), (20, [7, 2], [1], 82), (90, [7], [], 0), (91, [7], [], 40), (5000, [0, 1, 2, 3, 4, 5, 6], [0, 1], 400), (0, [0], [], 285), (90, [1], [], 0), (91, [1], [], 7), (0, [2], [], 285), (90, [3], [], 0), (91, [3], [], 7), (90, [4], [], -2147483648), (91, [4], [], 2147483647), (90, [5], [], -2147483648), (91, [5], [], 2147483647), (90, [6], [], 0), (91, [6], [], 40)], (4000, [2, 3, 4, 16, 17], [1], 400))]
theorem r_274_400 : vCovO false (eRc e_274 L_274 cs_274 2000 (400, [(0, (3, 12, 285, 0)), (1, (0, 0, 7, 0)), (2, (0, -2147483648, 2147483647, 0)), (3, (0, -2147483648, 2147483647, 0)), (4, (0, 0, 40, 0))])) p_274_400 = true := by decide +kernel
theorem q_274_88 {q0 : Nat} {n0 n1 n2 n3 n4 n5 n6 n7 : Int} {H0 H1 : gH} (f0 : n0 ≤ 240) (f1 : 0 ≤ n0) (f2 : n1 ≤ 2147483647) (f3 : (-2147483648) ≤ n1) (f4 : n2 ≤ 2147483647) (f5 : (-2147483648) ≤ n2) (f6 : n3 ≤ 7) (f7 : 0 ≤ n3) (f8 : n4 = 285) (f9 : n5 ≤ 7) (f10 : 0 ≤ n5) (f11 : n6 = 285) (f12 : (hLe T0 H0 H1 ∧ hFr s_274.2.2.2.2 H0 H1 ∧ hWt T0 H1) ∧ (Ab_274_447 n6 n5 n4 n3 n2 n1 n0 H0 H1 ∧ preb_274 n6 n5 H0) ∧ some q0 = some (mub_274_447 n6 n5 n4 n3 n2 n1 n0 H0 H1)) (f13 : n7 ≤ 240) (f14 : 0 ≤ n7) (f15 : n7 = hV H1 (n4).toNat 93) (f16 : n7 ≤ n0) : postb_274 n6 n5 H0 H1 := by
  have g4 := f12.2.1.1
  unfold Ab_274_447 at g4
  have g3 := f12.2.1.2
  unfold preb_274 at g3
  unfold postb_274
  have e0 : n7 = hV H1 285 93 := (by rw [f8] at f15; exact f15 : n7 = hV H1 285 93)
  have e3 : hV H1 298 = hV H0 298 := fRow f12.1.2.1 298 kR_274_298
  have e4 : hV H1 300 = hV H0 300 := fRow f12.1.2.1 300 kR_274_300
  have e5 : hV H1 301 = hV H0 301 := fRow f12.1.2.1 301 kR_274_301
  have e6 : hV H1 302 = hV H0 302 := fRow f12.1.2.1 302 kR_274_302
  have e7 : hV H1 303 = hV H0 303 := fRow f12.1.2.1 303 kR_274_303
  have e8 : hV H1 305 = hV H0 305 := fRow f12.1.2.1 305 kR_274_305
  have e9 : (0 : Int) ≤ hV H0 285 18 ∧ hV H0 285 18 ≤ 8 := bTo ((f12.1.2.1.1 285 18 kF_274_285_18)) (f12.1.2.2 285 18 _ _ kW_285_18)
  have e10 : (0 : Int) ≤ hV H1 285 82 ∧ hV H1 285 82 ≤ 40 := f12.1.2.2 285 82 _ _ kW_285_82
  try simp only [XQ] at *
  try simp only [e3, e4, e5, e6, e7, e8] at g4
  try simp only [e3, e4, e5, e6, e7, e8]
  have k0 := g4.1
  have y0 := g4.2
  have p0 := g3.1
  have p1 := g3.2.1
  have p2 := g3.2.2
  clear g3
  clear g4
  clear f15 e3 e4 e5 e6 e7 e8
  subst e0
  try subst k0
  first | assumption | omega | trivial
theorem c_274_447_0 {q0 : Nat} : vOkm T0 (eP e_274 L_274 A_274 mu_274 (some q0)) 2 ([(43, [6, 7], [], 0), (20, [7, 2], [1], 93), (90, [7], [], 0), (91, [7], [], 240), (5000, [0, 1, 2, 3, 4, 5, 6], [0, 1], 447), (0, [0], [], 285), (90, [1], [], 0), (91, [1], [], 7), (0, [2], [], 285), (90, [3], [], 0), (91, [3], [], 7), (90, [4], [], -2147483648), (91, [4], [], 2147483647), (90, [5], [], -2147483648), (91, [5], [], 2147483647), (90, [6], [], 0), (91, [6], [], 240)], (3000, [], [1], 533)) := vOk_inI fun ρ η f0 f1 f2 f3 f4 f5 f6 f7 f8 f9 f10 f11 f12 f13 f14 f15 f16 => q_274_88 (q0 := q0) (n0 := ρ 6) (n1 := ρ 5) (n2 := ρ 4) (n3 := ρ 3) (n4 := ρ 2) (n5 := ρ 1) (n6 := ρ 0) (n7 := ρ 7) (H0 := η 0) (H1 := η 1) f16 f15 f14 f13 f12 f11 f10 f9 f8 f7 f6 f5 f4 f3 f2 f1 f0
theorem q_274_89 {q0 : Nat} {n0 n1 n2 n3 n4 n5 n6 n7 n8 n9 : Int} {H0 H1 : gH} (f0 : n0 ≤ 240) (f1 : 0 ≤ n0) (f2 : n1 ≤ 2147483647) (f3 : (-2147483648) ≤ n1) (f4 : n2 ≤ 2147483647) (f5 : (-2147483648) ≤ n2) (f6 : n3 ≤ 7) (f7 : 0 ≤ n3) (f8 : n4 = 285) (f9 : n5 ≤ 7) (f10 : 0 ≤ n5) (f11 : n6 = 285) (f12 : (hLe T0 H0 H1 ∧ hFr s_274.2.2.2.2 H0 H1 ∧ hWt T0 H1) ∧ (Ab_274_447 n6 n5 n4 n3 n2 n1 n0 H0 H1 ∧ preb_274 n6 n5 H0) ∧ some q0 = some (mub_274_447 n6 n5 n4 n3 n2 n1 n0 H0 H1)) (f13 : n7 ≤ 240) (f14 : 0 ≤ n7) (f15 : n7 = hV H1 (n4).toNat 93) (f16 : n0 < n7) (f17 : n8 = 240) (f18 : n9 = w32 (n8 + n0)) : 0 ≤ n9 ∧ n9 < 720 := by
  have g4 := f12.2.1.1
  unfold Ab_274_447 at g4
  have g3 := f12.2.1.2
  unfold preb_274 at g3
  have e0 : n7 = hV H1 285 93 := (by rw [f8] at f15; exact f15 : n7 = hV H1 285 93)
  have e3 : hV H1 298 = hV H0 298 := fRow f12.1.2.1 298 kR_274_298
  have e4 : hV H1 300 = hV H0 300 := fRow f12.1.2.1 300 kR_274_300
  have e5 : hV H1 301 = hV H0 301 := fRow f12.1.2.1 301 kR_274_301
  have e6 : hV H1 302 = hV H0 302 := fRow f12.1.2.1 302 kR_274_302
  have e7 : hV H1 303 = hV H0 303 := fRow f12.1.2.1 303 kR_274_303
  have e8 : hV H1 305 = hV H0 305 := fRow f12.1.2.1 305 kR_274_305
  have e9 : (0 : Int) ≤ hV H0 285 18 ∧ hV H0 285 18 ≤ 8 := bTo ((f12.1.2.1.1 285 18 kF_274_285_18)) (f12.1.2.2 285 18 _ _ kW_285_18)
  have e10 : (0 : Int) ≤ hV H1 285 82 ∧ hV H1 285 82 ≤ 40 := f12.1.2.2 285 82 _ _ kW_285_82
  try simp only [XQ] at *
  try simp only [e3, e4, e5, e6, e7, e8] at g4
  have k0 := g4.1
  have y0 := g4.2
  have p0 := g3.1
  have p1 := g3.2.1
  have p2 := g3.2.2
  clear g3
  clear g4
  clear f15 e3 e4 e5 e6 e7 e8
  subst e0
  first
  | (have ix0 : n9 = 240 + n0 := Eq.trans f18 (w32_iv (Iad (IC 240) (Iat f1 f0)) (by decide)); subst ix0; clear f18)
  | (have ix0 : n9 = 240 + n0 := Eq.trans f18 (w32_id (by omega) (by omega)); subst ix0; clear f18)
  | (unfold w32 at f18; have ix0 : n9 = 240 + n0 := (by omega); subst ix0)
  | skip
  try unfold w32 at f18
  try subst k0
  omega
theorem c_274_447_1 {q0 : Nat} : vOkm T0 (eP e_274 L_274 A_274 mu_274 (some q0)) 2 ([(1, [12, 11, 6], [], 0), (0, [11], [], 240), (42, [6, 7], [], 0), (20, [7, 2], [1], 93), (90, [7], [], 0), (91, [7], [], 240), (5000, [0, 1, 2, 3, 4, 5, 6], [0, 1], 447), (0, [0], [], 285), (90, [1], [], 0), (91, [1], [], 7), (0, [2], [], 285), (90, [3], [], 0), (91, [3], [], 7), (90, [4], [], -2147483648), (91, [4], [], 2147483647), (90, [5], [], -2147483648), (91, [5], [], 2147483647), (90, [6], [], 0), (91, [6], [], 240)], (70, [12], [], 720)) := vOk_inI fun ρ η f0 f1 f2 f3 f4 f5 f6 f7 f8 f9 f10 f11 f12 f13 f14 f15 f16 f17 f18 => q_274_89 (q0 := q0) (n0 := ρ 6) (n1 := ρ 5) (n2 := ρ 4) (n3 := ρ 3) (n4 := ρ 2) (n5 := ρ 1) (n6 := ρ 0) (n7 := ρ 7) (n8 := ρ 11) (n9 := ρ 12) (H0 := η 0) (H1 := η 1) f18 f17 f16 f15 f14 f13 f12 f11 f10 f9 f8 f7 f6 f5 f4 f3 f2 f1 f0
theorem q_274_90 {q0 : Nat} {n0 n1 n2 n3 n4 n5 n6 n7 n8 n9 n10 n11 : Int} {H0 H1 : gH} (f0 : n0 ≤ 240) (f1 : 0 ≤ n0) (f2 : n1 ≤ 2147483647) (f3 : (-2147483648) ≤ n1) (f4 : n2 ≤ 2147483647) (f5 : (-2147483648) ≤ n2) (f6 : n3 ≤ 7) (f7 : 0 ≤ n3) (f8 : n4 = 285) (f9 : n5 ≤ 7) (f10 : 0 ≤ n5) (f11 : n6 = 285) (f12 : (hLe T0 H0 H1 ∧ hFr s_274.2.2.2.2 H0 H1 ∧ hWt T0 H1) ∧ (Ab_274_447 n6 n5 n4 n3 n2 n1 n0 H0 H1 ∧ preb_274 n6 n5 H0) ∧ some q0 = some (mub_274_447 n6 n5 n4 n3 n2 n1 n0 H0 H1)) (f13 : n7 ≤ 240) (f14 : 0 ≤ n7) (f15 : n7 = hV H1 (n4).toNat 93) (f16 : n0 < n7) (f17 : n8 = 240) (f18 : n9 = w32 (n8 + n0)) (f19 : n10 = 480) (f20 : n11 = w32 (n10 + n0)) : 0 ≤ n11 ∧ n11 < 720 := by
  have g4 := f12.2.1.1
  unfold Ab_274_447 at g4
  have g3 := f12.2.1.2
  unfold preb_274 at g3
  have e0 : n7 = hV H1 285 93 := (by rw [f8] at f15; exact f15 : n7 = hV H1 285 93)
  have e3 : hV H1 298 = hV H0 298 := fRow f12.1.2.1 298 kR_274_298
  have e4 : hV H1 300 = hV H0 300 := fRow f12.1.2.1 300 kR_274_300
  have e5 : hV H1 301 = hV H0 301 := fRow f12.1.2.1 301 kR_274_301
  have e6 : hV H1 302 = hV H0 302 := fRow f12.1.2.1 302 kR_274_302
  have e7 : hV H1 303 = hV H0 303 := fRow f12.1.2.1 303 kR_274_303
  have e8 : hV H1 305 = hV H0 305 := fRow f12.1.2.1 305 kR_274_305
  have e9 : (0 : Int) ≤ hV H0 285 18 ∧ hV H0 285 18 ≤ 8 := bTo ((f12.1.2.1.1 285 18 kF_274_285_18)) (f12.1.2.2 285 18 _ _ kW_285_18)
  have e10 : (0 : Int) ≤ hV H1 285 82 ∧ hV H1 285 82 ≤ 40 := f12.1.2.2 285 82 _ _ kW_285_82
  try simp only [XQ] at *
  try simp only [e3, e4, e5, e6, e7, e8] at g4
  have k0 := g4.1
  have y0 := g4.2
  have p0 := g3.1
  have p1 := g3.2.1
  have p2 := g3.2.2
  clear g3
  clear g4
  clear f15 e3 e4 e5 e6 e7 e8
  subst e0
  first
  | (have ix0 : n11 = 480 + n0 := Eq.trans f20 (w32_iv (Iad (IC 480) (Iat f1 f0)) (by decide)); subst ix0; clear f20)
  | (have ix0 : n11 = 480 + n0 := Eq.trans f20 (w32_id (by omega) (by omega)); subst ix0; clear f20)
  | (unfold w32 at f20; have ix0 : n11 = 480 + n0 := (by omega); subst ix0)
  | skip
  try unfold w32 at f18
  try unfold w32 at f20
  try subst k0
  omega
theorem c_274_447_2 {q0 : Nat} : vOkm T0 (eP e_274 L_274 A_274 mu_274 (some q0)) 2 ([(1, [17, 16, 6], [], 0), (0, [16], [], 480), (1, [12, 11, 6], [], 0), (0, [11], [], 240), (42, [6, 7], [], 0), (20, [7, 2], [1], 93), (90, [7], [], 0), (91, [7], [], 240), (5000, [0, 1, 2, 3, 4, 5, 6], [0, 1], 447), (0, [0], [], 285), (90, [1], [], 0), (91, [1], [], 7), (0, [2], [], 285), (90, [3], [], 0), (91, [3], [], 7), (90, [4], [], -2147483648), (91, [4], [], 2147483647), (90, [5], [], -2147483648), (91, [5], [], 2147483647), (90, [6], [], 0), (91, [6], [], 240)], (70, [17], [], 720)) := vOk_inI fun ρ η f0 f1 f2 f3 f4 f5 f6 f7 f8 f9 f10 f11 f12 f13 f14 f15 f16 f17 f18 f19 f20 => q_274_90 (q0 := q0) (n0 := ρ 6) (n1 := ρ 5) (n2 := ρ 4) (n3 := ρ 3) (n4 := ρ 2) (n5 := ρ 1) (n6 := ρ 0) (n7 := ρ 7) (n8 := ρ 11) (n9 := ρ 12) (n10 := ρ 16) (n11 := ρ 17) (H0 := η 0) (H1 := η 1) f20 f19 f18 f17 f16 f15 f14 f13 f12 f11 f10 f9 f8 f7 f6 f5 f4 f3 f2 f1 f0
theorem q_274_91 {q0 : Nat} {n0 n1 n2 n3 n4 n5 n6 n7 n8 n9 n10 n11 n12 : Int} {H0 H1 : gH} (f0 : n0 ≤ 240) (f1 : 0 ≤ n0) (f2 : n1 ≤ 2147483647) (f3 : (-2147483648) ≤ n1) (f4 : n2 ≤ 2147483647) (f5 : (-2147483648) ≤ n2) (f6 : n3 ≤ 7) (f7 : 0 ≤ n3) (f8 : n4 = 285) (f9 : n5 ≤ 7) (f10 : 0 ≤ n5) (f11 : n6 = 285) (f12 : (hLe T0 H0 H1 ∧ hFr s_274.2.2.2.2 H0 H1 ∧ hWt T0 H1) ∧ (Ab_274_447 n6 n5 n4 n3 n2 n1 n0 H0 H1 ∧ preb_274 n6 n5 H0) ∧ some q0 = some (mub_274_447 n6 n5 n4 n3 n2 n1 n0 H0 H1)) (f13 : n7 ≤ 240) (f14 : 0 ≤ n7) (f15 : n7 = hV H1 (n4).toNat 93) (f16 : n0 < n7) (f17 : n8 = 240) (f18 : n9 = w32 (n8 + n0)) (f19 : n10 = 480) (f20 : n11 = w32 (n10 + n0)) (f21 : n12 = n1) : 0 ≤ n0 ∧ n0 < 240 := by
  have g4 := f12.2.1.1
  unfold Ab_274_447 at g4
  have g3 := f12.2.1.2
  unfold preb_274 at g3
  have e0 : n7 = hV H1 285 93 := (by rw [f8] at f15; exact f15 : n7 = hV H1 285 93)
  have e3 : hV H1 298 = hV H0 298 := fRow f12.1.2.1 298 kR_274_298
  have e4 : hV H1 300 = hV H0 300 := fRow f12.1.2.1 300 kR_274_300
  have e5 : hV H1 301 = hV H0 301 := fRow f12.1.2.1 301 kR_274_301
  have e6 : hV H1 302 = hV H0 302 := fRow f12.1.2.1 302 kR_274_302
  have e7 : hV H1 303 = hV H0 303 := fRow f12.1.2.1 303 kR_274_303
  have e8 : hV H1 305 = hV H0 305 := fRow f12.1.2.1 305 kR_274_305
  have e9 : (0 : Int) ≤ hV H0 285 18 ∧ hV H0 285 18 ≤ 8 := bTo ((f12.1.2.1.1 285 18 kF_274_285_18)) (f12.1.2.2 285 18 _ _ kW_285_18)
  have e10 : (0 : Int) ≤ hV H1 285 82 ∧ hV H1 285 82 ≤ 40 := f12.1.2.2 285 82 _ _ kW_285_82
  try simp only [XQ] at *
  try simp only [e3, e4, e5, e6, e7, e8] at g4
  have k0 := g4.1
  have y0 := g4.2
  have p0 := g3.1
  have p1 := g3.2.1
  have p2 := g3.2.2
  clear g3
  clear g4
  clear f15 e3 e4 e5 e6 e7 e8
  subst e0
  unfold w32 at f18 f20
  try subst k0
  omega
theorem c_274_447_3 {q0 : Nat} : vOkm T0 (eP e_274 L_274 A_274 mu_274 (some q0)) 2 ([(17, [24, 5], [], 0), (1, [17, 16, 6], [], 0), (0, [16], [], 480), (1, [12, 11, 6], [], 0), (0, [11], [], 240), (42, [6, 7], [], 0), (20, [7, 2], [1], 93), (90, [7], [], 0), (91, [7], [], 240), (5000, [0, 1, 2, 3, 4, 5, 6], [0, 1], 447), (0, [0], [], 285), (90, [1], [], 0), (91, [1], [], 7), (0, [2], [], 285), (90, [3], [], 0), (91, [3], [], 7), (90, [4], [], -2147483648), (91, [4], [], 2147483647), (90, [5], [], -2147483648), (91, [5], [], 2147483647), (90, [6], [], 0), (91, [6], [], 240)], (70, [6], [], 240)) := vOk_inI fun ρ η f0 f1 f2 f3 f4 f5 f6 f7 f8 f9 f10 f11 f12 f13 f14 f15 f16 f17 f18 f19 f20 f21 => q_274_91 (q0 := q0) (n0 := ρ 6) (n1 := ρ 5) (n2 := ρ 4) (n3 := ρ 3) (n4 := ρ 2) (n5 := ρ 1) (n6 := ρ 0) (n7 := ρ 7) (n8 := ρ 11) (n9 := ρ 12) (n10 := ρ 16) (n11 := ρ 17) (n12 := ρ 24) (H0 := η 0) (H1 := η 1) f21 f20 f19 f18 f17 f16 f15 f14 f13 f12 f11 f10 f9 f8 f7 f6 f5 f4 f3 f2 f1 f0
theorem q_274_92 {q0 : Nat} {n0 n1 n2 n3 n4 n5 n6 n7 n8 n9 n10 n11 n12 n13 : Int} {H0 H1 : gH} (f0 : n0 ≤ 240) (f1 : 0 ≤ n0) (f2 : n1 ≤ 2147483647) (f3 : (-2147483648) ≤ n1) (f4 : n2 ≤ 2147483647) (f5 : (-2147483648) ≤ n2) (f6 : n3 ≤ 7) (f7 : 0 ≤ n3) (f8 : n4 = 285) (f9 : n5 ≤ 7) (f10 : 0 ≤ n5) (f11 : n6 = 285) (f12 : (hLe T0 H0 H1 ∧ hFr s_274.2.2.2.2 H0 H1 ∧ hWt T0 H1) ∧ (Ab_274_447 n6 n5 n4 n3 n2 n1 n0 H0 H1 ∧ preb_274 n6 n5 H0) ∧ some q0 = some (mub_274_447 n6 n5 n4 n3 n2 n1 n0 H0 H1)) (f13 : n7 ≤ 240) (f14 : 0 ≤ n7) (f15 : n7 = hV H1 (n4).toNat 93) (f16 : n0 < n7) (f17 : n8 = 240) (f18 : n9 = w32 (n8 + n0)) (f19 : n10 = 480) (f20 : n11 = w32 (n10 + n0)) (f21 : n12 = n1) (f22 : n13 = w32 (n0 + 1)) : 0 ≤ n13 := by
  have g4 := f12.2.1.1
  unfold Ab_274_447 at g4
  have g3 := f12.2.1.2
  unfold preb_274 at g3
  have e0 : n7 = hV H1 285 93 := (by rw [f8] at f15; exact f15 : n7 = hV H1 285 93)
  have e3 : hV H1 298 = hV H0 298 := fRow f12.1.2.1 298 kR_274_298
  have e4 : hV H1 300 = hV H0 300 := fRow f12.1.2.1 300 kR_274_300
  have e5 : hV H1 301 = hV H0 301 := fRow f12.1.2.1 301 kR_274_301
  have e6 : hV H1 302 = hV H0 302 := fRow f12.1.2.1 302 kR_274_302
  have e7 : hV H1 303 = hV H0 303 := fRow f12.1.2.1 303 kR_274_303
  have e8 : hV H1 305 = hV H0 305 := fRow f12.1.2.1 305 kR_274_305
  have e9 : (0 : Int) ≤ hV H0 285 18 ∧ hV H0 285 18 ≤ 8 := bTo ((f12.1.2.1.1 285 18 kF_274_285_18)) (f12.1.2.2 285 18 _ _ kW_285_18)
  have e10 : (0 : Int) ≤ hV H1 285 82 ∧ hV H1 285 82 ≤ 40 := f12.1.2.2 285 82 _ _ kW_285_82
  try simp only [XQ] at *
  try simp only [e3, e4, e5, e6, e7, e8] at g4
  have k0 := g4.1
  have y0 := g4.2
  have p0 := g3.1
  have p1 := g3.2.1
  have p2 := g3.2.2
  clear g3
  clear g4
  clear f15 e3 e4 e5 e6 e7 e8
  subst e0
  first
  | (have ix0 : n13 = n0 + 1 := Eq.trans f22 (w32_iv (Iad (Iat f1 f0) (IC 1)) (by decide)); subst ix0; clear f22)
  | (have ix0 : n13 = n0 + 1 := Eq.trans f22 (w32_id (by omega) (by omega)); subst ix0; clear f22)
  | (unfold w32 at f22; have ix0 : n13 = n0 + 1 := (by omega); subst ix0)
  | skip
  try unfold w32 at f18
  try unfold w32 at f20
  try unfold w32 at f22
  try subst k0
  omega
theorem c_274_447_4 {q0 : Nat} : vOkm T0 (eP e_274 L_274 A_274 mu_274 (some q0)) 2 ([(10, [27, 6], [], 1), (17, [24, 5], [], 0), (1, [17, 16, 6], [], 0), (0, [16], [], 480), (1, [12, 11, 6], [], 0), (0, [11], [], 240), (42, [6, 7], [], 0), (20, [7, 2], [1], 93), (90, [7], [], 0), (91, [7], [], 240), (5000, [0, 1, 2, 3, 4, 5, 6], [0, 1], 447), (0, [0], [], 285), (90, [1], [], 0), (91, [1], [], 7), (0, [2], [], 285), (90, [3], [], 0), (91, [3], [], 7), (90, [4], [], -2147483648), (91, [4], [], 2147483647), (90, [5], [], -2147483648), (91, [5], [], 2147483647), (90, [6], [], 0), (91, [6], [], 240)], (90, [27], [], 0)) := vOk_inI fun ρ η f0 f1 f2 f3 f4 f5 f6 f7 f8 f9 f10 f11 f12 f13 f14 f15 f16 f17 f18 f19 f20 f21 f22 => q_274_92 (q0 := q0) (n0 := ρ 6) (n1 := ρ 5) (n2 := ρ 4) (n3 := ρ 3) (n4 := ρ 2) (n5 := ρ 1) (n6 := ρ 0) (n7 := ρ 7) (n8 := ρ 11) (n9 := ρ 12) (n10 := ρ 16) (n11 := ρ 17) (n12 := ρ 24) (n13 := ρ 27) (H0 := η 0) (H1 := η 1) f22 f21 f20 f19 f18 f17 f16 f15 f14 f13 f12 f11 f10 f9 f8 f7 f6 f5 f4 f3 f2 f1 f0
theorem q_274_93 {q0 : Nat} {n0 n1 n2 n3 n4 n5 n6 n7 n8 n9 n10 n11 n12 n13 : Int} {H0 H1 : gH} (f0 : n0 ≤ 240) (f1 : 0 ≤ n0) (f2 : n1 ≤ 2147483647) (f3 : (-2147483648) ≤ n1) (f4 : n2 ≤ 2147483647) (f5 : (-2147483648) ≤ n2) (f6 : n3 ≤ 7) (f7 : 0 ≤ n3) (f8 : n4 = 285) (f9 : n5 ≤ 7) (f10 : 0 ≤ n5) (f11 : n6 = 285) (f12 : (hLe T0 H0 H1 ∧ hFr s_274.2.2.2.2 H0 H1 ∧ hWt T0 H1) ∧ (Ab_274_447 n6 n5 n4 n3 n2 n1 n0 H0 H1 ∧ preb_274 n6 n5 H0) ∧ some q0 = some (mub_274_447 n6 n5 n4 n3 n2 n1 n0 H0 H1)) (f13 : n7 ≤ 240) (f14 : 0 ≤ n7) (f15 : n7 = hV H1 (n4).toNat 93) (f16 : n0 < n7) (f17 : n8 = 240) (f18 : n9 = w32 (n8 + n0)) (f19 : n10 = 480) (f20 : n11 = w32 (n10 + n0)) (f21 : n12 = n1) (f22 : n13 = w32 (n0 + 1)) : n13 ≤ 240 := by
  have g4 := f12.2.1.1
  unfold Ab_274_447 at g4
  have g3 := f12.2.1.2
  unfold preb_274 at g3
  have e0 : n7 = hV H1 285 93 := (by rw [f8] at f15; exact f15 : n7 = hV H1 285 93)
  have e3 : hV H1 298 = hV H0 298 := fRow f12.1.2.1 298 kR_274_298
  have e4 : hV H1 300 = hV H0 300 := fRow f12.1.2.1 300 kR_274_300
  have e5 : hV H1 301 = hV H0 301 := fRow f12.1.2.1 301 kR_274_301
  have e6 : hV H1 302 = hV H0 302 := fRow f12.1.2.1 302 kR_274_302
  have e7 : hV H1 303 = hV H0 303 := fRow f12.1.2.1 303 kR_274_303
  have e8 : hV H1 305 = hV H0 305 := fRow f12.1.2.1 305 kR_274_305
  have e9 : (0 : Int) ≤ hV H0 285 18 ∧ hV H0 285 18 ≤ 8 := bTo ((f12.1.2.1.1 285 18 kF_274_285_18)) (f12.1.2.2 285 18 _ _ kW_285_18)
  have e10 : (0 : Int) ≤ hV H1 285 82 ∧ hV H1 285 82 ≤ 40 := f12.1.2.2 285 82 _ _ kW_285_82
  try simp only [XQ] at *
  try simp only [e3, e4, e5, e6, e7, e8] at g4
  have k0 := g4.1
  have y0 := g4.2
  have p0 := g3.1
  have p1 := g3.2.1
  have p2 := g3.2.2
  clear g3
  clear g4
  clear f15 e3 e4 e5 e6 e7 e8
  subst e0
  first
  | (have ix0 : n13 = n0 + 1 := Eq.trans f22 (w32_iv (Iad (Iat f1 f0) (IC 1)) (by decide)); subst ix0; clear f22)
  | (have ix0 : n13 = n0 + 1 := Eq.trans f22 (w32_id (by omega) (by omega)); subst ix0; clear f22)
  | (unfold w32 at f22; have ix0 : n13 = n0 + 1 := (by omega); subst ix0)
  | skip
  try unfold w32 at f18
  try unfold w32 at f20
  try unfold w32 at f22
  try subst k0
  omega
theorem c_274_447_5 {q0 : Nat} : vOkm T0 (eP e_274 L_274 A_274 mu_274 (some q0)) 2 ([(10, [27, 6], [], 1), (17, [24, 5], [], 0), (1, [17, 16, 6], [], 0), (0, [16], [], 480), (1, [12, 11, 6], [], 0), (0, [11], [], 240), (42, [6, 7], [], 0), (20, [7, 2], [1], 93), (90, [7], [], 0), (91, [7], [], 240), (5000, [0, 1, 2, 3, 4, 5, 6], [0, 1], 447), (0, [0], [], 285), (90, [1], [], 0), (91, [1], [], 7), (0, [2], [], 285), (90, [3], [], 0), (91, [3], [], 7), (90, [4], [], -2147483648), (91, [4], [], 2147483647), (90, [5], [], -2147483648), (91, [5], [], 2147483647), (90, [6], [], 0), (91, [6], [], 240)], (91, [27], [], 240)) := vOk_inI fun ρ η f0 f1 f2 f3 f4 f5 f6 f7 f8 f9 f10 f11 f12 f13 f14 f15 f16 f17 f18 f19 f20 f21 f22 => q_274_93 (q0 := q0) (n0 := ρ 6) (n1 := ρ 5) (n2 := ρ 4) (n3 := ρ 3) (n4 := ρ 2) (n5 := ρ 1) (n6 := ρ 0) (n7 := ρ 7) (n8 := ρ 11) (n9 := ρ 12) (n10 := ρ 16) (n11 := ρ 17) (n12 := ρ 24) (n13 := ρ 27) (H0 := η 0) (H1 := η 1) f22 f21 f20 f19 f18 f17 f16 f15 f14 f13 f12 f11 f10 f9 f8 f7 f6 f5 f4 f3 f2 f1 f0
theorem q_274_94 {q0 : Nat} {n0 n1 n2 n3 n4 n5 n6 n7 n8 n9 n10 n11 n12 n13 n14 n15 n16 n17 n18 n19 n20 n21 n22 n23 : Int} {H0 H1 H2 : gH} (f0 : n0 ≤ 240) (f1 : 0 ≤ n0) (f2 : n1 ≤ 2147483647) (f3 : (-2147483648) ≤ n1) (f4 : n2 ≤ 2147483647) (f5 : (-2147483648) ≤ n2) (f6 : n3 ≤ 7) (f7 : 0 ≤ n3) (f8 : n4 = 285) (f9 : n5 ≤ 7) (f10 : 0 ≤ n5) (f11 : n6 = 285) (f12 : (hLe T0 H0 H1 ∧ hFr s_274.2.2.2.2 H0 H1 ∧ hWt T0 H1) ∧ (Ab_274_447 n6 n5 n4 n3 n2 n1 n0 H0 H1 ∧ preb_274 n6 n5 H0) ∧ some q0 = some (mub_274_447 n6 n5 n4 n3 n2 n1 n0 H0 H1)) (f13 : n7 ≤ 240) (f14 : 0 ≤ n7) (f15 : n7 = hV H1 (n4).toNat 93) (f16 : n0 < n7) (f17 : n8 = 349) (f18 : n8 = hV H1 (n4).toNat 89) (f19 : n9 = hV H1 (n8).toNat (n0).toNat) (f20 : n10 = 349) (f21 : n10 = hV H1 (n4).toNat 89) (f22 : n11 = 240) (f23 : n12 = w32 (n11 + n0)) (f24 : n13 = hV H1 (n10).toNat (n12).toNat) (f25 : n14 = o64 (fun x y => x + y) n9 n13) (f26 : n15 = 349) (f27 : n15 = hV H1 (n4).toNat 89) (f28 : n16 = 480) (f29 : n17 = w32 (n16 + n0)) (f30 : n18 = hV H1 (n15).toNat (n17).toNat) (f31 : n19 = o64 (fun x y => x + y) n14 n18) (f32 : n20 = 352) (f33 : n20 = hV H1 (n4).toNat 92) (f34 : n21 = n1) (f35 : n22 = (Int64.ofInt n19).toInt32.toInt) (f36 : hUpd H2 H1 n20 n0 n22) (f37 : n23 = w32 (n0 + 1)) : Ab_274_447 n6 n5 n4 n3 n2 n1 n23 H0 H2 ∧ ∀ q, some q0 = some q → mub_274_447 n6 n5 n4 n3 n2 n1 n23 H0 H2 < q := by
  have g4 := f12.2.1.1
  unfold Ab_274_447 at g4
  have g3 := f12.2.1.2
  unfold preb_274 at g3
  have g5 := Option.some.inj f12.2.2
  unfold mub_274_447 at g5
  unfold Ab_274_447
  unfold mub_274_447
  have e0 : n7 = hV H1 285 93 := (by rw [f8] at f15; exact f15 : n7 = hV H1 285 93)
  have e1 : n9 = hV H1 349 (n0).toNat := (by rw [f17] at f19; exact f19 : n9 = hV H1 349 (n0).toNat)
  have e2 : n13 = hV H1 349 (n12).toNat := (by rw [f20] at f24; exact f24 : n13 = hV H1 349 (n12).toNat)
  have e3 : n18 = hV H1 349 (n17).toNat := (by rw [f26] at f30; exact f30 : n18 = hV H1 349 (n17).toNat)
  have e6 : hV H1 298 = hV H0 298 := fRow f12.1.2.1 298 kR_274_298
  have e7 : hV H1 300 = hV H0 300 := fRow f12.1.2.1 300 kR_274_300
  have e8 : hV H1 301 = hV H0 301 := fRow f12.1.2.1 301 kR_274_301
  have e9 : hV H1 302 = hV H0 302 := fRow f12.1.2.1 302 kR_274_302
  have e10 : hV H1 303 = hV H0 303 := fRow f12.1.2.1 303 kR_274_303
  have e11 : hV H1 305 = hV H0 305 := fRow f12.1.2.1 305 kR_274_305
  have e13 : hV H2 285 82 = hV H1 285 82 := (uPlace f36 285 82 (iS (show n20 = ((352 : Nat) : Int) from f32) rfl))
  have e15 : hV H2 298 = hV H0 298 := (uRowNe f36 298 (iS (show n20 = ((352 : Nat) : Int) from f32) rfl)).trans e6
  have e17 : hV H2 300 = hV H0 300 := (uRowNe f36 300 (iS (show n20 = ((352 : Nat) : Int) from f32) rfl)).trans e7
  have e19 : hV H2 301 = hV H0 301 := (uRowNe f36 301 (iS (show n20 = ((352 : Nat) : Int) from f32) rfl)).trans e8
  have e21 : hV H2 302 = hV H0 302 := (uRowNe f36 302 (iS (show n20 = ((352 : Nat) : Int) from f32) rfl)).trans e9
  have e23 : hV H2 303 = hV H0 303 := (uRowNe f36 303 (iS (show n20 = ((352 : Nat) : Int) from f32) rfl)).trans e10
  have e25 : hV H2 305 = hV H0 305 := (uRowNe f36 305 (iS (show n20 = ((352 : Nat) : Int) from f32) rfl)).trans e11
  have e26 : hV H2 344 = hV H1 344 := uRowNe f36 344 (iS (show n20 = ((352 : Nat) : Int) from f32) rfl)
  have e27 : (0 : Int) ≤ hV H0 285 18 ∧ hV H0 285 18 ≤ 8 := bTo ((f12.1.2.1.1 285 18 kF_274_285_18)) (f12.1.2.2 285 18 _ _ kW_285_18)
  have e28 : (0 : Int) ≤ hV H1 285 82 ∧ hV H1 285 82 ≤ 40 := f12.1.2.2 285 82 _ _ kW_285_82
  try simp only [XQ] at *
  try simp only [e6, e7, e8, e9, e10, e11] at g4
  try simp only [e13, e15, e17, e19, e21, e23, e25, e26]
  have k0 := g4.1
  have y0 := g4.2
  have p0 := g3.1
  have p1 := g3.2.1
  have p2 := g3.2.2
  clear g3
  clear g4
  clear f15 f18 f19 f21 f24 f27 f30 f33 e6 e7 e8 e9 e10 e11 e13 e15 e17 e19 e21 e23 e25 e26
  subst e0
  subst e1
  subst e2
  subst e3
  first
  | (have ix0 : n12 = 240 + n0 := Eq.trans f23 (w32_iv (Iad (IC 240) (Iat f1 f0)) (by decide)); subst ix0; clear f23)
  | (have ix0 : n12 = 240 + n0 := Eq.trans f23 (w32_id (by omega) (by omega)); subst ix0; clear f23)
  | (unfold w32 at f23; have ix0 : n12 = 240 + n0 := (by omega); subst ix0)
  | skip
  first
  | (have ix1 : n17 = 480 + n0 := Eq.trans f29 (w32_iv (Iad (IC 480) (Iat f1 f0)) (by decide)); subst ix1; clear f29)
  | (have ix1 : n17 = 480 + n0 := Eq.trans f29 (w32_id (by omega) (by omega)); subst ix1; clear f29)
  | (unfold w32 at f29; have ix1 : n17 = 480 + n0 := (by omega); subst ix1)
  | skip
  first
  | (have ix2 : n23 = n0 + 1 := Eq.trans f37 (w32_iv (Iad (Iat f1 f0) (IC 1)) (by decide)); subst ix2; clear f37)
  | (have ix2 : n23 = n0 + 1 := Eq.trans f37 (w32_id (by omega) (by omega)); subst ix2; clear f37)
  | (unfold w32 at f37; have ix2 : n23 = n0 + 1 := (by omega); subst ix2)
  | skip
  try unfold w32 at f23
  try unfold w32 at f29
  try unfold w32 at f37
  try subst k0
  refine ⟨?_, fun q hq => ?_⟩
  · refine ⟨?_, ?_⟩ <;> first | assumption | omega | trivial
  · have g6 := Option.some.inj hq
    subst g6
    omega
theorem c_274_447_6 {q0 : Nat} : vOkm T0 (eP e_274 L_274 A_274 mu_274 (some q0)) 2 ([(10, [27, 6], [], 1), (80, [20, 6, 26], [2, 1], 0), (18, [26, 19], [], 0), (17, [24, 5], [], 0), (20, [20, 2], [1], 92), (0, [20], [], 352), (61, [19, 14, 18], [], 0), (22, [18, 15, 17], [1], 0), (1, [17, 16, 6], [], 0), (0, [16], [], 480), (20, [15, 2], [1], 89), (0, [15], [], 349), (61, [14, 9, 13], [], 0), (22, [13, 10, 12], [1], 0), (1, [12, 11, 6], [], 0), (0, [11], [], 240), (20, [10, 2], [1], 89), (0, [10], [], 349), (22, [9, 8, 6], [1], 0), (20, [8, 2], [1], 89), (0, [8], [], 349), (42, [6, 7], [], 0), (20, [7, 2], [1], 93), (90, [7], [], 0), (91, [7], [], 240), (5000, [0, 1, 2, 3, 4, 5, 6], [0, 1], 447), (0, [0], [], 285), (90, [1], [], 0), (91, [1], [], 7), (0, [2], [], 285), (90, [3], [], 0), (91, [3], [], 7), (90, [4], [], -2147483648), (91, [4], [], 2147483647), (90, [5], [], -2147483648), (91, [5], [], 2147483647), (90, [6], [], 0), (91, [6], [], 240)], (4000, [2, 3, 4, 5, 27], [2], 447)) := vOk_inI fun ρ η f0 f1 f2 f3 f4 f5 f6 f7 f8 f9 f10 f11 f12 f13 f14 f15 f16 f17 f18 f19 f20 f21 f22 f23 f24 f25 f26 f27 f28 f29 f30 f31 f32 f33 f34 f35 f36 f37 => q_274_94 (q0 := q0) (n0 := ρ 6) (n1 := ρ 5) (n2 := ρ 4) (n3 := ρ 3) (n4 := ρ 2) (n5 := ρ 1) (n6 := ρ 0) (n7 := ρ 7) (n8 := ρ 8) (n9 := ρ 9) (n10 := ρ 10) (n11 := ρ 11) (n12 := ρ 12) (n13 := ρ 13) (n14 := ρ 14) (n15 := ρ 15) (n16 := ρ 16) (n17 := ρ 17) (n18 := ρ 18) (n19 := ρ 19) (n20 := ρ 20) (n21 := ρ 24) (n22 := ρ 26) (n23 := ρ 27) (H0 := η 0) (H1 := η 1) (H2 := η 2) f37 f36 f35 f34 f33 f32 f31 f30 f29 f28 f27 f26 f25 f24 f23 f22 f21 f20 f19 f18 f17 f16 f15 f14 f13 f12 f11 f10 f9 f8 f7 f6 f5 f4 f3 f2 f1 f0
theorem q_274_95 {q0 : Nat} {n0 n1 n2 n3 n4 n5 n6 n7 n8 n9 n10 n11 n12 n13 : Int} {H0 H1 : gH} (f0 : n0 ≤ 240) (f1 : 0 ≤ n0) (f2 : n1 ≤ 2147483647) (f3 : (-2147483648) ≤ n1) (f4 : n2 ≤ 2147483647) (f5 : (-2147483648) ≤ n2) (f6 : n3 ≤ 7) (f7 : 0 ≤ n3) (f8 : n4 = 285) (f9 : n5 ≤ 7) (f10 : 0 ≤ n5) (f11 : n6 = 285) (f12 : (hLe T0 H0 H1 ∧ hFr s_274.2.2.2.2 H0 H1 ∧ hWt T0 H1) ∧ (Ab_274_447 n6 n5 n4 n3 n2 n1 n0 H0 H1 ∧ preb_274 n6 n5 H0) ∧ some q0 = some (mub_274_447 n6 n5 n4 n3 n2 n1 n0 H0 H1)) (f13 : n7 ≤ 240) (f14 : 0 ≤ n7) (f15 : n7 = hV H1 (n4).toNat 93) (f16 : n0 < n7) (f17 : n8 = 240) (f18 : n9 = w32 (n8 + n0)) (f19 : n10 = 480) (f20 : n11 = w32 (n10 + n0)) (f21 : n12 = n1) (f22 : n13 = n1) : 0 ≤ n0 ∧ n0 < 240 := by
  have g4 := f12.2.1.1
  unfold Ab_274_447 at g4
  have g3 := f12.2.1.2
  unfold preb_274 at g3
  have e0 : n7 = hV H1 285 93 := (by rw [f8] at f15; exact f15 : n7 = hV H1 285 93)
  have e3 : hV H1 298 = hV H0 298 := fRow f12.1.2.1 298 kR_274_298
  have e4 : hV H1 300 = hV H0 300 := fRow f12.1.2.1 300 kR_274_300
  have e5 : hV H1 301 = hV H0 301 := fRow f12.1.2.1 301 kR_274_301
  have e6 : hV H1 302 = hV H0 302 := fRow f12.1.2.1 302 kR_274_302
  have e7 : hV H1 303 = hV H0 303 := fRow f12.1.2.1 303 kR_274_303
  have e8 : hV H1 305 = hV H0 305 := fRow f12.1.2.1 305 kR_274_305
  have e9 : (0 : Int) ≤ hV H0 285 18 ∧ hV H0 285 18 ≤ 8 := bTo ((f12.1.2.1.1 285 18 kF_274_285_18)) (f12.1.2.2 285 18 _ _ kW_285_18)
  have e10 : (0 : Int) ≤ hV H1 285 82 ∧ hV H1 285 82 ≤ 40 := f12.1.2.2 285 82 _ _ kW_285_82
  try simp only [XQ] at *
  try simp only [e3, e4, e5, e6, e7, e8] at g4
  have k0 := g4.1
  have y0 := g4.2
  have p0 := g3.1
  have p1 := g3.2.1
  have p2 := g3.2.2
  clear g3
  clear g4
  clear f15 e3 e4 e5 e6 e7 e8
  subst e0
  unfold w32 at f18 f20
  try subst k0
  omega
theorem c_274_447_7 {q0 : Nat} : vOkm T0 (eP e_274 L_274 A_274 mu_274 (some q0)) 2 ([(17, [26, 5], [], 0), (17, [24, 5], [], 0), (1, [17, 16, 6], [], 0), (0, [16], [], 480), (1, [12, 11, 6], [], 0), (0, [11], [], 240), (42, [6, 7], [], 0), (20, [7, 2], [1], 93), (90, [7], [], 0), (91, [7], [], 240), (5000, [0, 1, 2, 3, 4, 5, 6], [0, 1], 447), (0, [0], [], 285), (90, [1], [], 0), (91, [1], [], 7), (0, [2], [], 285), (90, [3], [], 0), (91, [3], [], 7), (90, [4], [], -2147483648), (91, [4], [], 2147483647), (90, [5], [], -2147483648), (91, [5], [], 2147483647), (90, [6], [], 0), (91, [6], [], 240)], (70, [6], [], 240)) := vOk_inI fun ρ η f0 f1 f2 f3 f4 f5 f6 f7 f8 f9 f10 f11 f12 f13 f14 f15 f16 f17 f18 f19 f20 f21 f22 => q_274_95 (q0 := q0) (n0 := ρ 6) (n1 := ρ 5) (n2 := ρ 4) (n3 := ρ 3) (n4 := ρ 2) (n5 := ρ 1) (n6 := ρ 0) (n7 := ρ 7) (n8 := ρ 11) (n9 := ρ 12) (n10 := ρ 16) (n11 := ρ 17) (n12 := ρ 24) (n13 := ρ 26) (H0 := η 0) (H1 := η 1) f22 f21 f20 f19 f18 f17 f16 f15 f14 f13 f12 f11 f10 f9 f8 f7 f6 f5 f4 f3 f2 f1 f0
theorem q_274_96 {q0 : Nat} {n0 n1 n2 n3 n4 n5 n6 n7 n8 n9 n10 n11 n12 n13 n14 : Int} {H0 H1 : gH} (f0 : n0 ≤ 240) (f1 : 0 ≤ n0) (f2 : n1 ≤ 2147483647) (f3 : (-2147483648) ≤ n1) (f4 : n2 ≤ 2147483647) (f5 : (-2147483648) ≤ n2) (f6 : n3 ≤ 7) (f7 : 0 ≤ n3) (f8 : n4 = 285) (f9 : n5 ≤ 7) (f10 : 0 ≤ n5) (f11 : n6 = 285) (f12 : (hLe T0 H0 H1 ∧ hFr s_274.2.2.2.2 H0 H1 ∧ hWt T0 H1) ∧ (Ab_274_447 n6 n5 n4 n3 n2 n1 n0 H0 H1 ∧ preb_274 n6 n5 H0) ∧ some q0 = some (mub_274_447 n6 n5 n4 n3 n2 n1 n0 H0 H1)) (f13 : n7 ≤ 240) (f14 : 0 ≤ n7) (f15 : n7 = hV H1 (n4).toNat 93) (f16 : n0 < n7) (f17 : n8 = 240) (f18 : n9 = w32 (n8 + n0)) (f19 : n10 = 480) (f20 : n11 = w32 (n10 + n0)) (f21 : n12 = n1) (f22 : n13 = n1) (f23 : n14 = w32 (n0 + 1)) : 0 ≤ n14 := by
  have g4 := f12.2.1.1
  unfold Ab_274_447 at g4
  have g3 := f12.2.1.2
  unfold preb_274 at g3
  have e0 : n7 = hV H1 285 93 := (by rw [f8] at f15; exact f15 : n7 = hV H1 285 93)
  have e3 : hV H1 298 = hV H0 298 := fRow f12.1.2.1 298 kR_274_298
  have e4 : hV H1 300 = hV H0 300 := fRow f12.1.2.1 300 kR_274_300
  have e5 : hV H1 301 = hV H0 301 := fRow f12.1.2.1 301 kR_274_301
  have e6 : hV H1 302 = hV H0 302 := fRow f12.1.2.1 302 kR_274_302
  have e7 : hV H1 303 = hV H0 303 := fRow f12.1.2.1 303 kR_274_303
  have e8 : hV H1 305 = hV H0 305 := fRow f12.1.2.1 305 kR_274_305
  have e9 : (0 : Int) ≤ hV H0 285 18 ∧ hV H0 285 18 ≤ 8 := bTo ((f12.1.2.1.1 285 18 kF_274_285_18)) (f12.1.2.2 285 18 _ _ kW_285_18)
  have e10 : (0 : Int) ≤ hV H1 285 82 ∧ hV H1 285 82 ≤ 40 := f12.1.2.2 285 82 _ _ kW_285_82
  try simp only [XQ] at *
  try simp only [e3, e4, e5, e6, e7, e8] at g4
  have k0 := g4.1
  have y0 := g4.2
  have p0 := g3.1
  have p1 := g3.2.1
  have p2 := g3.2.2
  clear g3
  clear g4
  clear f15 e3 e4 e5 e6 e7 e8
  subst e0
  first
  | (have ix0 : n14 = n0 + 1 := Eq.trans f23 (w32_iv (Iad (Iat f1 f0) (IC 1)) (by decide)); subst ix0; clear f23)
  | (have ix0 : n14 = n0 + 1 := Eq.trans f23 (w32_id (by omega) (by omega)); subst ix0; clear f23)
  | (unfold w32 at f23; have ix0 : n14 = n0 + 1 := (by omega); subst ix0)
  | skip
  try unfold w32 at f18
  try unfold w32 at f20
  try unfold w32 at f23
  try subst k0
  omega
theorem c_274_447_8 {q0 : Nat} : vOkm T0 (eP e_274 L_274 A_274 mu_274 (some q0)) 2 ([(10, [28, 6], [], 1), (17, [26, 5], [], 0), (17, [24, 5], [], 0), (1, [17, 16, 6], [], 0), (0, [16], [], 480), (1, [12, 11, 6], [], 0), (0, [11], [], 240), (42, [6, 7], [], 0), (20, [7, 2], [1], 93), (90, [7], [], 0), (91, [7], [], 240), (5000, [0, 1, 2, 3, 4, 5, 6], [0, 1], 447), (0, [0], [], 285), (90, [1], [], 0), (91, [1], [], 7), (0, [2], [], 285), (90, [3], [], 0), (91, [3], [], 7), (90, [4], [], -2147483648), (91, [4], [], 2147483647), (90, [5], [], -2147483648), (91, [5], [], 2147483647), (90, [6], [], 0), (91, [6], [], 240)], (90, [28], [], 0)) := vOk_inI fun ρ η f0 f1 f2 f3 f4 f5 f6 f7 f8 f9 f10 f11 f12 f13 f14 f15 f16 f17 f18 f19 f20 f21 f22 f23 => q_274_96 (q0 := q0) (n0 := ρ 6) (n1 := ρ 5) (n2 := ρ 4) (n3 := ρ 3) (n4 := ρ 2) (n5 := ρ 1) (n6 := ρ 0) (n7 := ρ 7) (n8 := ρ 11) (n9 := ρ 12) (n10 := ρ 16) (n11 := ρ 17) (n12 := ρ 24) (n13 := ρ 26) (n14 := ρ 28) (H0 := η 0) (H1 := η 1) f23 f22 f21 f20 f19 f18 f17 f16 f15 f14 f13 f12 f11 f10 f9 f8 f7 f6 f5 f4 f3 f2 f1 f0
theorem q_274_97 {q0 : Nat} {n0 n1 n2 n3 n4 n5 n6 n7 n8 n9 n10 n11 n12 n13 n14 : Int} {H0 H1 : gH} (f0 : n0 ≤ 240) (f1 : 0 ≤ n0) (f2 : n1 ≤ 2147483647) (f3 : (-2147483648) ≤ n1) (f4 : n2 ≤ 2147483647) (f5 : (-2147483648) ≤ n2) (f6 : n3 ≤ 7) (f7 : 0 ≤ n3) (f8 : n4 = 285) (f9 : n5 ≤ 7) (f10 : 0 ≤ n5) (f11 : n6 = 285) (f12 : (hLe T0 H0 H1 ∧ hFr s_274.2.2.2.2 H0 H1 ∧ hWt T0 H1) ∧ (Ab_274_447 n6 n5 n4 n3 n2 n1 n0 H0 H1 ∧ preb_274 n6 n5 H0) ∧ some q0 = some (mub_274_447 n6 n5 n4 n3 n2 n1 n0 H0 H1)) (f13 : n7 ≤ 240) (f14 : 0 ≤ n7) (f15 : n7 = hV H1 (n4).toNat 93) (f16 : n0 < n7) (f17 : n8 = 240) (f18 : n9 = w32 (n8 + n0)) (f19 : n10 = 480) (f20 : n11 = w32 (n10 + n0)) (f21 : n12 = n1) (f22 : n13 = n1) (f23 : n14 = w32 (n0 + 1)) : n14 ≤ 240 := by
  have g4 := f12.2.1.1
  unfold Ab_274_447 at g4
  have g3 := f12.2.1.2
  unfold preb_274 at g3
  have e0 : n7 = hV H1 285 93 := (by rw [f8] at f15; exact f15 : n7 = hV H1 285 93)
  have e3 : hV H1 298 = hV H0 298 := fRow f12.1.2.1 298 kR_274_298
  have e4 : hV H1 300 = hV H0 300 := fRow f12.1.2.1 300 kR_274_300
  have e5 : hV H1 301 = hV H0 301 := fRow f12.1.2.1 301 kR_274_301
  have e6 : hV H1 302 = hV H0 302 := fRow f12.1.2.1 302 kR_274_302
  have e7 : hV H1 303 = hV H0 303 := fRow f12.1.2.1 303 kR_274_303
  have e8 : hV H1 305 = hV H0 305 := fRow f12.1.2.1 305 kR_274_305
  have e9 : (0 : Int) ≤ hV H0 285 18 ∧ hV H0 285 18 ≤ 8 := bTo ((f12.1.2.1.1 285 18 kF_274_285_18)) (f12.1.2.2 285 18 _ _ kW_285_18)
  have e10 : (0 : Int) ≤ hV H1 285 82 ∧ hV H1 285 82 ≤ 40 := f12.1.2.2 285 82 _ _ kW_285_82
  try simp only [XQ] at *
  try simp only [e3, e4, e5, e6, e7, e8] at g4
  have k0 := g4.1
  have y0 := g4.2
  have p0 := g3.1
  have p1 := g3.2.1
  have p2 := g3.2.2
  clear g3
  clear g4
  clear f15 e3 e4 e5 e6 e7 e8
  subst e0
  first
  | (have ix0 : n14 = n0 + 1 := Eq.trans f23 (w32_iv (Iad (Iat f1 f0) (IC 1)) (by decide)); subst ix0; clear f23)
  | (have ix0 : n14 = n0 + 1 := Eq.trans f23 (w32_id (by omega) (by omega)); subst ix0; clear f23)
  | (unfold w32 at f23; have ix0 : n14 = n0 + 1 := (by omega); subst ix0)
  | skip
  try unfold w32 at f18
  try unfold w32 at f20
  try unfold w32 at f23
  try subst k0
  omega
theorem c_274_447_9 {q0 : Nat} : vOkm T0 (eP e_274 L_274 A_274 mu_274 (some q0)) 2 ([(10, [28, 6], [], 1), (17, [26, 5], [], 0), (17, [24, 5], [], 0), (1, [17, 16, 6], [], 0), (0, [16], [], 480), (1, [12, 11, 6], [], 0), (0, [11], [], 240), (42, [6, 7], [], 0), (20, [7, 2], [1], 93), (90, [7], [], 0), (91, [7], [], 240), (5000, [0, 1, 2, 3, 4, 5, 6], [0, 1], 447), (0, [0], [], 285), (90, [1], [], 0), (91, [1], [], 7), (0, [2], [], 285), (90, [3], [], 0), (91, [3], [], 7), (90, [4], [], -2147483648), (91, [4], [], 2147483647), (90, [5], [], -2147483648), (91, [5], [], 2147483647), (90, [6], [], 0), (91, [6], [], 240)], (91, [28], [], 240)) := vOk_inI fun ρ η f0 f1 f2 f3 f4 f5 f6 f7 f8 f9 f10 f11 f12 f13 f14 f15 f16 f17 f18 f19 f20 f21 f22 f23 => q_274_97 (q0 := q0) (n0 := ρ 6) (n1 := ρ 5) (n2 := ρ 4) (n3 := ρ 3) (n4 := ρ 2) (n5 := ρ 1) (n6 := ρ 0) (n7 := ρ 7) (n8 := ρ 11) (n9 := ρ 12) (n10 := ρ 16) (n11 := ρ 17) (n12 := ρ 24) (n13 := ρ 26) (n14 := ρ 28) (H0 := η 0) (H1 := η 1) f23 f22 f21 f20 f19 f18 f17 f16 f15 f14 f13 f12 f11 f10 f9 f8 f7 f6 f5 f4 f3 f2 f1 f0
theorem q_274_98 {q0 : Nat} {n0 n1 n2 n3 n4 n5 n6 n7 n8 n9 n10 n11 n12 n13 n14 n15 n16 : Int} {H0 H1 H2 : gH} (f0 : n0 ≤ 240) (f1 : 0 ≤ n0) (f2 : n1 ≤ 2147483647) (f3 : (-2147483648) ≤ n1) (f4 : n2 ≤ 2147483647) (f5 : (-2147483648) ≤ n2) (f6 : n3 ≤ 7) (f7 : 0 ≤ n3) (f8 : n4 = 285) (f9 : n5 ≤ 7) (f10 : 0 ≤ n5) (f11 : n6 = 285) (f12 : (hLe T0 H0 H1 ∧ hFr s_274.2.2.2.2 H0 H1 ∧ hWt T0 H1) ∧ (Ab_274_447 n6 n5 n4 n3 n2 n1 n0 H0 H1 ∧ preb_274 n6 n5 H0) ∧ some q0 = some (mub_274_447 n6 n5 n4 n3 n2 n1 n0 H0 H1)) (f13 : n7 ≤ 240) (f14 : 0 ≤ n7) (f15 : n7 = hV H1 (n4).toNat 93) (f16 : n0 < n7) (f17 : n8 = 240) (f18 : n9 = w32 (n8 + n0)) (f19 : n10 = 480) (f20 : n11 = w32 (n10 + n0)) (f21 : n12 = 352) (f22 : n12 = hV H1 (n4).toNat 92) (f23 : n13 = n1) (f24 : n14 = n1) (f25 : n15 = (Int64.ofInt n14).toInt32.toInt) (f26 : hUpd H2 H1 n12 n0 n15) (f27 : n16 = w32 (n0 + 1)) : Ab_274_447 n6 n5 n4 n3 n2 n1 n16 H0 H2 ∧ ∀ q, some q0 = some q → mub_274_447 n6 n5 n4 n3 n2 n1 n16 H0 H2 < q := by
  have g4 := f12.2.1.1
  unfold Ab_274_447 at g4
  have g3 := f12.2.1.2
  unfold preb_274 at g3
  have g5 := Option.some.inj f12.2.2
  unfold mub_274_447 at g5
  unfold Ab_274_447
  unfold mub_274_447
  have e0 : n7 = hV H1 285 93 := (by rw [f8] at f15; exact f15 : n7 = hV H1 285 93)
  have e3 : hV H1 298 = hV H0 298 := fRow f12.1.2.1 298 kR_274_298
  have e4 : hV H1 300 = hV H0 300 := fRow f12.1.2.1 300 kR_274_300
  have e5 : hV H1 301 = hV H0 301 := fRow f12.1.2.1 301 kR_274_301
  have e6 : hV H1 302 = hV H0 302 := fRow f12.1.2.1 302 kR_274_302
  have e7 : hV H1 303 = hV H0 303 := fRow f12.1.2.1 303 kR_274_303
  have e8 : hV H1 305 = hV H0 305 := fRow f12.1.2.1 305 kR_274_305
  have e10 : hV H2 285 82 = hV H1 285 82 := (uPlace f26 285 82 (iS (show n12 = ((352 : Nat) : Int) from f21) rfl))
  have e12 : hV H2 298 = hV H0 298 := (uRowNe f26 298 (iS (show n12 = ((352 : Nat) : Int) from f21) rfl)).trans e3
  have e14 : hV H2 300 = hV H0 300 := (uRowNe f26 300 (iS (show n12 = ((352 : Nat) : Int) from f21) rfl)).trans e4
  have e16 : hV H2 301 = hV H0 301 := (uRowNe f26 301 (iS (show n12 = ((352 : Nat) : Int) from f21) rfl)).trans e5
  have e18 : hV H2 302 = hV H0 302 := (uRowNe f26 302 (iS (show n12 = ((352 : Nat) : Int) from f21) rfl)).trans e6
  have e20 : hV H2 303 = hV H0 303 := (uRowNe f26 303 (iS (show n12 = ((352 : Nat) : Int) from f21) rfl)).trans e7
  have e22 : hV H2 305 = hV H0 305 := (uRowNe f26 305 (iS (show n12 = ((352 : Nat) : Int) from f21) rfl)).trans e8
  have e23 : hV H2 344 = hV H1 344 := uRowNe f26 344 (iS (show n12 = ((352 : Nat) : Int) from f21) rfl)
  have e24 : (0 : Int) ≤ hV H0 285 18 ∧ hV H0 285 18 ≤ 8 := bTo ((f12.1.2.1.1 285 18 kF_274_285_18)) (f12.1.2.2 285 18 _ _ kW_285_18)
  have e25 : (0 : Int) ≤ hV H1 285 82 ∧ hV H1 285 82 ≤ 40 := f12.1.2.2 285 82 _ _ kW_285_82
  try simp only [XQ] at *
  try simp only [e3, e4, e5, e6, e7, e8] at g4
  try simp only [e10, e12, e14, e16, e18, e20, e22, e23]
  have k0 := g4.1
  have y0 := g4.2
  have p0 := g3.1
  have p1 := g3.2.1
  have p2 := g3.2.2
  clear g3
  clear g4
  clear f15 f22 e3 e4 e5 e6 e7 e8 e10 e12 e14 e16 e18 e20 e22 e23
  subst e0
  first
  | (have ix0 : n16 = n0 + 1 := Eq.trans f27 (w32_iv (Iad (Iat f1 f0) (IC 1)) (by decide)); subst ix0; clear f27)
  | (have ix0 : n16 = n0 + 1 := Eq.trans f27 (w32_id (by omega) (by omega)); subst ix0; clear f27)
  | (unfold w32 at f27; have ix0 : n16 = n0 + 1 := (by omega); subst ix0)
  | skip
  try unfold w32 at f18
  try unfold w32 at f20
  try unfold w32 at f27
  try subst k0
  refine ⟨?_, fun q hq => ?_⟩
  · refine ⟨?_, ?_⟩ <;> first | assumption | omega | trivial
  · have g6 := Option.some.inj hq
    subst g6
    omega
theorem c_274_447_10 {q0 : Nat} : vOkm T0 (eP e_274 L_274 A_274 mu_274 (some q0)) 2 ([(10, [28, 6], [], 1), (80, [20, 6, 27], [2, 1], 0), (18, [27, 26], [], 0), (17, [26, 5], [], 0), (17, [24, 5], [], 0), (20, [20, 2], [1], 92), (0, [20], [], 352), (1, [17, 16, 6], [], 0), (0, [16], [], 480), (1, [12, 11, 6], [], 0), (0, [11], [], 240), (42, [6, 7], [], 0), (20, [7, 2], [1], 93), (90, [7], [], 0), (91, [7], [], 240), (5000, [0, 1, 2, 3, 4, 5, 6], [0, 1], 447), (0, [0], [], 285), (90, [1], [], 0), (91, [1], [], 7), (0, [2], [], 285), (90, [3], [], 0), (91, [3], [], 7), (90, [4], [], -2147483648), (91, [4], [], 2147483647), (90, [5], [], -2147483648), (91, [5], [], 2147483647), (90, [6], [], 0), (91, [6], [], 240)], (4000, [2, 3, 4, 5, 28], [2], 447)) := vOk_inI fun ρ η f0 f1 f2 f3 f4 f5 f6 f7 f8 f9 f10 f11 f12 f13 f14 f15 f16 f17 f18 f19 f20 f21 f22 f23 f24 f25 f26 f27 => q_274_98 (q0 := q0) (n0 := ρ 6) (n1 := ρ 5) (n2 := ρ 4) (n3 := ρ 3) (n4 := ρ 2) (n5 := ρ 1) (n6 := ρ 0) (n7 := ρ 7) (n8 := ρ 11) (n9 := ρ 12) (n10 := ρ 16) (n11 := ρ 17) (n12 := ρ 20) (n13 := ρ 24) (n14 := ρ 26) (n15 := ρ 27) (n16 := ρ 28) (H0 := η 0) (H1 := η 1) (H2 := η 2) f27 f26 f25 f24 f23 f22 f21 f20 f19 f18 f17 f16 f15 f14 f13 f12 f11 f10 f9 f8 f7 f6 f5 f4 f3 f2 f1 f0
theorem q_274_99 {q0 : Nat} {n0 n1 n2 n3 n4 n5 n6 n7 n8 n9 n10 n11 : Int} {H0 H1 : gH} (f0 : n0 ≤ 240) (f1 : 0 ≤ n0) (f2 : n1 ≤ 2147483647) (f3 : (-2147483648) ≤ n1) (f4 : n2 ≤ 2147483647) (f5 : (-2147483648) ≤ n2) (f6 : n3 ≤ 7) (f7 : 0 ≤ n3) (f8 : n4 = 285) (f9 : n5 ≤ 7) (f10 : 0 ≤ n5) (f11 : n6 = 285) (f12 : (hLe T0 H0 H1 ∧ hFr s_274.2.2.2.2 H0 H1 ∧ hWt T0 H1) ∧ (Ab_274_447 n6 n5 n4 n3 n2 n1 n0 H0 H1 ∧ preb_274 n6 n5 H0) ∧ some q0 = some (mub_274_447 n6 n5 n4 n3 n2 n1 n0 H0 H1)) (f13 : n7 ≤ 240) (f14 : 0 ≤ n7) (f15 : n7 = hV H1 (n4).toNat 93) (f16 : n0 < n7) (f17 : n8 = 240) (f18 : n9 = w32 (n8 + n0)) (f19 : n10 = 480) (f20 : n11 = w32 (n10 + n0)) : 0 ≤ n0 ∧ n0 < 240 := by
  have g4 := f12.2.1.1
  unfold Ab_274_447 at g4
  have g3 := f12.2.1.2
  unfold preb_274 at g3
  have e0 : n7 = hV H1 285 93 := (by rw [f8] at f15; exact f15 : n7 = hV H1 285 93)
  have e3 : hV H1 298 = hV H0 298 := fRow f12.1.2.1 298 kR_274_298
  have e4 : hV H1 300 = hV H0 300 := fRow f12.1.2.1 300 kR_274_300
  have e5 : hV H1 301 = hV H0 301 := fRow f12.1.2.1 301 kR_274_301
  have e6 : hV H1 302 = hV H0 302 := fRow f12.1.2.1 302 kR_274_302
  have e7 : hV H1 303 = hV H0 303 := fRow f12.1.2.1 303 kR_274_303
  have e8 : hV H1 305 = hV H0 305 := fRow f12.1.2.1 305 kR_274_305
  have e9 : (0 : Int) ≤ hV H0 285 18 ∧ hV H0 285 18 ≤ 8 := bTo ((f12.1.2.1.1 285 18 kF_274_285_18)) (f12.1.2.2 285 18 _ _ kW_285_18)
  have e10 : (0 : Int) ≤ hV H1 285 82 ∧ hV H1 285 82 ≤ 40 := f12.1.2.2 285 82 _ _ kW_285_82
  try simp only [XQ] at *
  try simp only [e3, e4, e5, e6, e7, e8] at g4
  have k0 := g4.1
  have y0 := g4.2
  have p0 := g3.1
  have p1 := g3.2.1
  have p2 := g3.2.2
  clear g3
  clear g4
  clear f15 e3 e4 e5 e6 e7 e8
  subst e0
  unfold w32 at f18 f20
  try subst k0
  omega
theorem c_274_447_11 {q0 : Nat} : vOkm T0 (eP e_274 L_274 A_274 mu_274 (some q0)) 2 ([(1, [17, 16, 6], [], 0), (0, [16], [], 480), (1, [12, 11, 6], [], 0), (0, [11], [], 240), (42, [6, 7], [], 0), (20, [7, 2], [1], 93), (90, [7], [], 0), (91, [7], [], 240), (5000, [0, 1, 2, 3, 4, 5, 6], [0, 1], 447), (0, [0], [], 285), (90, [1], [], 0), (91, [1], [], 7), (0, [2], [], 285), (90, [3], [], 0), (91, [3], [], 7), (90, [4], [], -2147483648), (91, [4], [], 2147483647), (90, [5], [], -2147483648), (91, [5], [], 2147483647), (90, [6], [], 0), (91, [6], [], 240)], (70, [6], [], 240)) := vOk_inI fun ρ η f0 f1 f2 f3 f4 f5 f6 f7 f8 f9 f10 f11 f12 f13 f14 f15 f16 f17 f18 f19 f20 => q_274_99 (q0 := q0) (n0 := ρ 6) (n1 := ρ 5) (n2 := ρ 4) (n3 := ρ 3) (n4 := ρ 2) (n5 := ρ 1) (n6 := ρ 0) (n7 := ρ 7) (n8 := ρ 11) (n9 := ρ 12) (n10 := ρ 16) (n11 := ρ 17) (H0 := η 0) (H1 := η 1) f20 f19 f18 f17 f16 f15 f14 f13 f12 f11 f10 f9 f8 f7 f6 f5 f4 f3 f2 f1 f0
theorem q_274_100 {q0 : Nat} {n0 n1 n2 n3 n4 n5 n6 n7 n8 n9 n10 n11 n12 : Int} {H0 H1 : gH} (f0 : n0 ≤ 240) (f1 : 0 ≤ n0) (f2 : n1 ≤ 2147483647) (f3 : (-2147483648) ≤ n1) (f4 : n2 ≤ 2147483647) (f5 : (-2147483648) ≤ n2) (f6 : n3 ≤ 7) (f7 : 0 ≤ n3) (f8 : n4 = 285) (f9 : n5 ≤ 7) (f10 : 0 ≤ n5) (f11 : n6 = 285) (f12 : (hLe T0 H0 H1 ∧ hFr s_274.2.2.2.2 H0 H1 ∧ hWt T0 H1) ∧ (Ab_274_447 n6 n5 n4 n3 n2 n1 n0 H0 H1 ∧ preb_274 n6 n5 H0) ∧ some q0 = some (mub_274_447 n6 n5 n4 n3 n2 n1 n0 H0 H1)) (f13 : n7 ≤ 240) (f14 : 0 ≤ n7) (f15 : n7 = hV H1 (n4).toNat 93) (f16 : n0 < n7) (f17 : n8 = 240) (f18 : n9 = w32 (n8 + n0)) (f19 : n10 = 480) (f20 : n11 = w32 (n10 + n0)) (f21 : n12 = w32 (n0 + 1)) : 0 ≤ n12 := by
  have g4 := f12.2.1.1
  unfold Ab_274_447 at g4
  have g3 := f12.2.1.2
  unfold preb_274 at g3
  have e0 : n7 = hV H1 285 93 := (by rw [f8] at f15; exact f15 : n7 = hV H1 285 93)
  have e3 : hV H1 298 = hV H0 298 := fRow f12.1.2.1 298 kR_274_298
  have e4 : hV H1 300 = hV H0 300 := fRow f12.1.2.1 300 kR_274_300
  have e5 : hV H1 301 = hV H0 301 := fRow f12.1.2.1 301 kR_274_301
  have e6 : hV H1 302 = hV H0 302 := fRow f12.1.2.1 302 kR_274_302
  have e7 : hV H1 303 = hV H0 303 := fRow f12.1.2.1 303 kR_274_303
  have e8 : hV H1 305 = hV H0 305 := fRow f12.1.2.1 305 kR_274_305
  have e9 : (0 : Int) ≤ hV H0 285 18 ∧ hV H0 285 18 ≤ 8 := bTo ((f12.1.2.1.1 285 18 kF_274_285_18)) (f12.1.2.2 285 18 _ _ kW_285_18)
  have e10 : (0 : Int) ≤ hV H1 285 82 ∧ hV H1 285 82 ≤ 40 := f12.1.2.2 285 82 _ _ kW_285_82
  try simp only [XQ] at *
  try simp only [e3, e4, e5, e6, e7, e8] at g4
  have k0 := g4.1
  have y0 := g4.2
  have p0 := g3.1
  have p1 := g3.2.1
  have p2 := g3.2.2
  clear g3
  clear g4
  clear f15 e3 e4 e5 e6 e7 e8
  subst e0
  first
  | (have ix0 : n12 = n0 + 1 := Eq.trans f21 (w32_iv (Iad (Iat f1 f0) (IC 1)) (by decide)); subst ix0; clear f21)
  | (have ix0 : n12 = n0 + 1 := Eq.trans f21 (w32_id (by omega) (by omega)); subst ix0; clear f21)
  | (unfold w32 at f21; have ix0 : n12 = n0 + 1 := (by omega); subst ix0)
  | skip
  try unfold w32 at f18
  try unfold w32 at f20
  try unfold w32 at f21
  try subst k0
  omega
theorem c_274_447_12 {q0 : Nat} : vOkm T0 (eP e_274 L_274 A_274 mu_274 (some q0)) 2 ([(10, [27, 6], [], 1), (1, [17, 16, 6], [], 0), (0, [16], [], 480), (1, [12, 11, 6], [], 0), (0, [11], [], 240), (42, [6, 7], [], 0), (20, [7, 2], [1], 93), (90, [7], [], 0), (91, [7], [], 240), (5000, [0, 1, 2, 3, 4, 5, 6], [0, 1], 447), (0, [0], [], 285), (90, [1], [], 0), (91, [1], [], 7), (0, [2], [], 285), (90, [3], [], 0), (91, [3], [], 7), (90, [4], [], -2147483648), (91, [4], [], 2147483647), (90, [5], [], -2147483648), (91, [5], [], 2147483647), (90, [6], [], 0), (91, [6], [], 240)], (90, [27], [], 0)) := vOk_inI fun ρ η f0 f1 f2 f3 f4 f5 f6 f7 f8 f9 f10 f11 f12 f13 f14 f15 f16 f17 f18 f19 f20 f21 => q_274_100 (q0 := q0) (n0 := ρ 6) (n1 := ρ 5) (n2 := ρ 4) (n3 := ρ 3) (n4 := ρ 2) (n5 := ρ 1) (n6 := ρ 0) (n7 := ρ 7) (n8 := ρ 11) (n9 := ρ 12) (n10 := ρ 16) (n11 := ρ 17) (n12 := ρ 27) (H0 := η 0) (H1 := η 1) f21 f20 f19 f18 f17 f16 f15 f14 f13 f12 f11 f10 f9 f8 f7 f6 f5 f4 f3 f2 f1 f0
theorem q_274_101 {q0 : Nat} {n0 n1 n2 n3 n4 n5 n6 n7 n8 n9 n10 n11 n12 : Int} {H0 H1 : gH} (f0 : n0 ≤ 240) (f1 : 0 ≤ n0) (f2 : n1 ≤ 2147483647) (f3 : (-2147483648) ≤ n1) (f4 : n2 ≤ 2147483647) (f5 : (-2147483648) ≤ n2) (f6 : n3 ≤ 7) (f7 : 0 ≤ n3) (f8 : n4 = 285) (f9 : n5 ≤ 7) (f10 : 0 ≤ n5) (f11 : n6 = 285) (f12 : (hLe T0 H0 H1 ∧ hFr s_274.2.2.2.2 H0 H1 ∧ hWt T0 H1) ∧ (Ab_274_447 n6 n5 n4 n3 n2 n1 n0 H0 H1 ∧ preb_274 n6 n5 H0) ∧ some q0 = some (mub_274_447 n6 n5 n4 n3 n2 n1 n0 H0 H1)) (f13 : n7 ≤ 240) (f14 : 0 ≤ n7) (f15 : n7 = hV H1 (n4).toNat 93) (f16 : n0 < n7) (f17 : n8 = 240) (f18 : n9 = w32 (n8 + n0)) (f19 : n10 = 480) (f20 : n11 = w32 (n10 + n0)) (f21 : n12 = w32 (n0 + 1)) : n12 ≤ 240 := by
  have g4 := f12.2.1.1
  unfold Ab_274_447 at g4
  have g3 := f12.2.1.2
  unfold preb_274 at g3
  have e0 : n7 = hV H1 285 93 := (by rw [f8] at f15; exact f15 : n7 = hV H1 285 93)
  have e3 : hV H1 298 = hV H0 298 := fRow f12.1.2.1 298 kR_274_298
  have e4 : hV H1 300 = hV H0 300 := fRow f12.1.2.1 300 kR_274_300
  have e5 : hV H1 301 = hV H0 301 := fRow f12.1.2.1 301 kR_274_301
  have e6 : hV H1 302 = hV H0 302 := fRow f12.1.2.1 302 kR_274_302
  have e7 : hV H1 303 = hV H0 303 := fRow f12.1.2.1 303 kR_274_303
  have e8 : hV H1 305 = hV H0 305 := fRow f12.1.2.1 305 kR_274_305
  have e9 : (0 : Int) ≤ hV H0 285 18 ∧ hV H0 285 18 ≤ 8 := bTo ((f12.1.2.1.1 285 18 kF_274_285_18)) (f12.1.2.2 285 18 _ _ kW_285_18)
  have e10 : (0 : Int) ≤ hV H1 285 82 ∧ hV H1 285 82 ≤ 40 := f12.1.2.2 285 82 _ _ kW_285_82
  try simp only [XQ] at *
  try simp only [e3, e4, e5, e6, e7, e8] at g4
  have k0 := g4.1
  have y0 := g4.2
  have p0 := g3.1
  have p1 := g3.2.1
  have p2 := g3.2.2
  clear g3
  clear g4
  clear f15 e3 e4 e5 e6 e7 e8
  subst e0
  first
  | (have ix0 : n12 = n0 + 1 := Eq.trans f21 (w32_iv (Iad (Iat f1 f0) (IC 1)) (by decide)); subst ix0; clear f21)
  | (have ix0 : n12 = n0 + 1 := Eq.trans f21 (w32_id (by omega) (by omega)); subst ix0; clear f21)
  | (unfold w32 at f21; have ix0 : n12 = n0 + 1 := (by omega); subst ix0)
  | skip
  try unfold w32 at f18
  try unfold w32 at f20
  try unfold w32 at f21
  try subst k0
  omega
theorem c_274_447_13 {q0 : Nat} : vOkm T0 (eP e_274 L_274 A_274 mu_274 (some q0)) 2 ([(10, [27, 6], [], 1), (1, [17, 16, 6], [], 0), (0, [16], [], 480), (1, [12, 11, 6], [], 0), (0, [11], [], 240), (42, [6, 7], [], 0), (20, [7, 2], [1], 93), (90, [7], [], 0), (91, [7], [], 240), (5000, [0, 1, 2, 3, 4, 5, 6], [0, 1], 447), (0, [0], [], 285), (90, [1], [], 0), (91, [1], [], 7), (0, [2], [], 285), (90, [3], [], 0), (91, [3], [], 7), (90, [4], [], -2147483648), (91, [4], [], 2147483647), (90, [5], [], -2147483648), (91, [5], [], 2147483647), (90, [6], [], 0), (91, [6], [], 240)], (91, [27], [], 240)) := vOk_inI fun ρ η f0 f1 f2 f3 f4 f5 f6 f7 f8 f9 f10 f11 f12 f13 f14 f15 f16 f17 f18 f19 f20 f21 => q_274_101 (q0 := q0) (n0 := ρ 6) (n1 := ρ 5) (n2 := ρ 4) (n3 := ρ 3) (n4 := ρ 2) (n5 := ρ 1) (n6 := ρ 0) (n7 := ρ 7) (n8 := ρ 11) (n9 := ρ 12) (n10 := ρ 16) (n11 := ρ 17) (n12 := ρ 27) (H0 := η 0) (H1 := η 1) f21 f20 f19 f18 f17 f16 f15 f14 f13 f12 f11 f10 f9 f8 f7 f6 f5 f4 f3 f2 f1 f0
theorem q_274_102 {q0 : Nat} {n0 n1 n2 n3 n4 n5 n6 n7 n8 n9 n10 n11 n12 n13 n14 n15 n16 : Int} {H0 H1 H2 : gH} (f0 : n0 ≤ 240) (f1 : 0 ≤ n0) (f2 : n1 ≤ 2147483647) (f3 : (-2147483648) ≤ n1) (f4 : n2 ≤ 2147483647) (f5 : (-2147483648) ≤ n2) (f6 : n3 ≤ 7) (f7 : 0 ≤ n3) (f8 : n4 = 285) (f9 : n5 ≤ 7) (f10 : 0 ≤ n5) (f11 : n6 = 285) (f12 : (hLe T0 H0 H1 ∧ hFr s_274.2.2.2.2 H0 H1 ∧ hWt T0 H1) ∧ (Ab_274_447 n6 n5 n4 n3 n2 n1 n0 H0 H1 ∧ preb_274 n6 n5 H0) ∧ some q0 = some (mub_274_447 n6 n5 n4 n3 n2 n1 n0 H0 H1)) (f13 : n7 ≤ 240) (f14 : 0 ≤ n7) (f15 : n7 = hV H1 (n4).toNat 93) (f16 : n0 < n7) (f17 : n8 = 240) (f18 : n9 = w32 (n8 + n0)) (f19 : n10 = 480) (f20 : n11 = w32 (n10 + n0)) (f21 : n12 = 352) (f22 : n12 = hV H1 (n4).toNat 92) (f23 : n13 = w32 (-n1)) (f24 : n14 = n13) (f25 : n15 = (Int64.ofInt n14).toInt32.toInt) (f26 : hUpd H2 H1 n12 n0 n15) (f27 : n16 = w32 (n0 + 1)) : Ab_274_447 n6 n5 n4 n3 n2 n1 n16 H0 H2 ∧ ∀ q, some q0 = some q → mub_274_447 n6 n5 n4 n3 n2 n1 n16 H0 H2 < q := by
  have g4 := f12.2.1.1
  unfold Ab_274_447 at g4
  have g3 := f12.2.1.2
  unfold preb_274 at g3
  have g5 := Option.some.inj f12.2.2
  unfold mub_274_447 at g5
  unfold Ab_274_447
  unfold mub_274_447
  have e0 : n7 = hV H1 285 93 := (by rw [f8] at f15; exact f15 : n7 = hV H1 285 93)
  have e3 : hV H1 298 = hV H0 298 := fRow f12.1.2.1 298 kR_274_298
  have e4 : hV H1 300 = hV H0 300 := fRow f12.1.2.1 300 kR_274_300
  have e5 : hV H1 301 = hV H0 301 := fRow f12.1.2.1 301 kR_274_301
  have e6 : hV H1 302 = hV H0 302 := fRow f12.1.2.1 302 kR_274_302
  have e7 : hV H1 303 = hV H0 303 := fRow f12.1.2.1 303 kR_274_303
  have e8 : hV H1 305 = hV H0 305 := fRow f12.1.2.1 305 kR_274_305
  have e10 : hV H2 285 82 = hV H1 285 82 := (uPlace f26 285 82 (iS (show n12 = ((352 : Nat) : Int) from f21) rfl))
  have e12 : hV H2 298 = hV H0 298 := (uRowNe f26 298 (iS (show n12 = ((352 : Nat) : Int) from f21) rfl)).trans e3
  have e14 : hV H2 300 = hV H0 300 := (uRowNe f26 300 (iS (show n12 = ((352 : Nat) : Int) from f21) rfl)).trans e4
  have e16 : hV H2 301 = hV H0 301 := (uRowNe f26 301 (iS (show n12 = ((352 : Nat) : Int) from f21) rfl)).trans e5
  have e18 : hV H2 302 = hV H0 302 := (uRowNe f26 302 (iS (show n12 = ((352 : Nat) : Int) from f21) rfl)).trans e6
  have e20 : hV H2 303 = hV H0 303 := (uRowNe f26 303 (iS (show n12 = ((352 : Nat) : Int) from f21) rfl)).trans e7
  have e22 : hV H2 305 = hV H0 305 := (uRowNe f26 305 (iS (show n12 = ((352 : Nat) : Int) from f21) rfl)).trans e8
  have e23 : hV H2 344 = hV H1 344 := uRowNe f26 344 (iS (show n12 = ((352 : Nat) : Int) from f21) rfl)
  have e24 : (0 : Int) ≤ hV H0 285 18 ∧ hV H0 285 18 ≤ 8 := bTo ((f12.1.2.1.1 285 18 kF_274_285_18)) (f12.1.2.2 285 18 _ _ kW_285_18)
  have e25 : (0 : Int) ≤ hV H1 285 82 ∧ hV H1 285 82 ≤ 40 := f12.1.2.2 285 82 _ _ kW_285_82
  try simp only [XQ] at *
  try simp only [e3, e4, e5, e6, e7, e8] at g4
  try simp only [e10, e12, e14, e16, e18, e20, e22, e23]
  have k0 := g4.1
  have y0 := g4.2
  have p0 := g3.1
  have p1 := g3.2.1
  have p2 := g3.2.2
  clear g3
  clear g4
  clear f15 f22 e3 e4 e5 e6 e7 e8 e10 e12 e14 e16 e18 e20 e22 e23
  subst e0
  first
  | (have ix0 : n16 = n0 + 1 := Eq.trans f27 (w32_iv (Iad (Iat f1 f0) (IC 1)) (by decide)); subst ix0; clear f27)
  | (have ix0 : n16 = n0 + 1 := Eq.trans f27 (w32_id (by omega) (by omega)); subst ix0; clear f27)
  | (unfold w32 at f27; have ix0 : n16 = n0 + 1 := (by omega); subst ix0)
  | skip
  try unfold w32 at f18
  try unfold w32 at f20
  try unfold w32 at f23
  try unfold w32 at f27
  try subst k0
  refine ⟨?_, fun q hq => ?_⟩
  · refine ⟨?_, ?_⟩ <;> first | assumption | omega | trivial
  · have g6 := Option.some.inj hq
    subst g6
    omega
theorem c_274_447_14 {q0 : Nat} : vOkm T0 (eP e_274 L_274 A_274 mu_274 (some q0)) 2 ([(10, [27, 6], [], 1), (80, [20, 6, 26], [2, 1], 0), (18, [26, 25], [], 0), (17, [25, 24], [], 0), (14, [24, 5], [], 0), (20, [20, 2], [1], 92), (0, [20], [], 352), (1, [17, 16, 6], [], 0), (0, [16], [], 480), (1, [12, 11, 6], [], 0), (0, [11], [], 240), (42, [6, 7], [], 0), (20, [7, 2], [1], 93), (90, [7], [], 0), (91, [7], [], 240), (5000, [0, 1, 2, 3, 4, 5, 6], [0, 1], 447), (0, [0], [], 285), (90, [1], [], 0), (91, [1], [], 7), (0, [2], [], 285), (90, [3], [], 0), (91, [3], [], 7), (90, [4], [], -2147483648), (91, [4], [], 2147483647), (90, [5], [], -2147483648), (91, [5], [], 2147483647), (90, [6], [], 0), (91, [6], [], 240)], (4000, [2, 3, 4, 5, 27], [2], 447)) := vOk_inI fun ρ η f0 f1 f2 f3 f4 f5 f6 f7 f8 f9 f10 f11 f12 f13 f14 f15 f16 f17 f18 f19 f20 f21 f22 f23 f24 f25 f26 f27 => q_274_102 (q0 := q0) (n0 := ρ 6) (n1 := ρ 5) (n2 := ρ 4) (n3 := ρ 3) (n4 := ρ 2) (n5 := ρ 1) (n6 := ρ 0) (n7 := ρ 7) (n8 := ρ 11) (n9 := ρ 12) (n10 := ρ 16) (n11 := ρ 17) (n12 := ρ 20) (n13 := ρ 24) (n14 := ρ 25) (n15 := ρ 26) (n16 := ρ 27) (H0 := η 0) (H1 := η 1) (H2 := η 2) f27 f26 f25 f24 f23 f22 f21 f20 f19 f18 f17 f16 f15 f14 f13 f12 f11 f10 f9 f8 f7 f6 f5 f4 f3 f2 f1 f0
def p_274_447 : List vG := [([(43, [6, 7], [], 0), (20, [7, 2], [1], 93), (90, [7], [], 0), (91, [7], [], 240), (5000, [0, 1, 2, 3, 4, 5, 6], [0, 1], 447), (0, [0], [], 285), (90, [1], [], 0), (91, [1], [], 7), (0, [2], [], 285), (90, [3], [], 0), (91, [3], [], 7), (90, [4], [], -2147483648), (91, [4], [], 2147483647), (90, [5], [], -2147483648), (91, [5], [], 2147483647), (90, [6], [], 0), (91, [6], [], 240)], (3000, [], [1], 533)),
  ([(1, [12, 11, 6], [], 0), (0, [11], [], 240), (42, [6, 7], [], 0), (20, [7, 2], [1], 93), (90, [7], [], 0), (91, [7], [], 240), (5000, [0, 1, 2, 3, 4, 5, 6], [0, 1], 447), (0, [0], [], 285), (90, [1], [], 0), (91, [1], [], 7), (0, [2], [], 285), (90, [3], [], 0), (91, [3], [], 7), (90, [4], [], -2147483648), (91, [4], [], 2147483647), (90, [5], [], -2147483648), (91, [5], [], 2147483647), (90, [6], [], 0), (91, [6], [], 240)], (70, [12], [], 720)),
  ([(1, [17, 16, 6], [], 0), (0, [16], [], 480), (1, [12, 11, 6], [], 0), (0, [11], [], 240), (42, [6, 7], [], 0), (20, [7, 2], [1], 93), (90, [7], [], 0), (91, [7], [], 240), (5000, [0, 1, 2, 3, 4, 5, 6], [0, 1], 447), (0, [0], [], 285), (90, [1], [], 0), (91, [1], [], 7), (0, [2], [], 285), (90, [3], [], 0), (91, [3], [], 7), (90, [4], [], -2147483648), (91, [4], [], 2147483647), (90, [5], [], -2147483648), (91, [5], [], 2147483647), (90, [6], [], 0), (91, [6], [], 240)], (70, [17], [], 720)),
  ([(17, [24, 5], [], 0), (1, [17, 16, 6], [], 0), (0, [16], [], 480), (1, [12, 11, 6], [], 0), (0, [11], [], 240), (42, [6, 7], [], 0), (20, [7, 2], [1], 93), (90, [7], [], 0), (91, [7], [], 240), (5000, [0, 1, 2, 3, 4, 5, 6], [0, 1], 447), (0, [0], [], 285), (90, [1], [], 0), (91, [1], [], 7), (0, [2], [], 285), (90, [3], [], 0), (91, [3], [], 7), (90, [4], [], -2147483648), (91, [4], [], 2147483647), (90, [5], [], -2147483648), (91, [5], [], 2147483647), (90, [6], [], 0), (91, [6], [], 240)], (70, [6], [], 240)),
  ([(10, [27, 6], [], 1), (17, [24, 5], [], 0), (1, [17, 16, 6], [], 0), (0, [16], [], 480), (1, [12, 11, 6], [], 0), (0, [11], [], 240), (42, [6, 7], [], 0), (20, [7, 2], [1], 93), (90, [7], [], 0), (91, [7], [], 240), (5000, [0, 1, 2, 3, 4, 5, 6], [0, 1], 447), (0, [0], [], 285), (90, [1], [], 0), (91, [1], [], 7), (0, [2], [], 285), (90, [3], [], 0), (91, [3], [], 7), (90, [4], [], -2147483648), (91, [4], [], 2147483647), (90, [5], [], -2147483648), (91, [5], [], 2147483647), (90, [6], [], 0), (91, [6], [], 240)], (90, [27], [], 0)),
  ([(10, [27, 6], [], 1), (17, [24, 5], [], 0), (1, [17, 16, 6], [], 0), (0, [16], [], 480), (1, [12, 11, 6], [], 0), (0, [11], [], 240), (42, [6, 7], [], 0), (20, [7, 2], [1], 93), (90, [7], [], 0), (91, [7], [], 240), (5000, [0, 1, 2, 3, 4, 5, 6], [0, 1], 447), (0, [0], [], 285), (90, [1], [], 0), (91, [1], [], 7), (0, [2], [], 285), (90, [3], [], 0), (91, [3], [], 7), (90, [4], [], -2147483648), (91, [4], [], 2147483647), (90, [5], [], -2147483648), (91, [5], [], 2147483647), (90, [6], [], 0), (91, [6], [], 240)], (91, [27], [], 240)),
  ([(10, [27, 6], [], 1), (80, [20, 6, 26], [2, 1], 0), (18, [26, 19], [], 0), (17, [24, 5], [], 0), (20, [20, 2], [1], 92), (0, [20], [], 352), (61, [19, 14, 18], [], 0), (22, [18, 15, 17], [1], 0), (1, [17, 16, 6], [], 0), (0, [16], [], 480), (20, [15, 2], [1], 89), (0, [15], [], 349), (61, [14, 9, 13], [], 0), (22, [13, 10, 12], [1], 0), (1, [12, 11, 6], [], 0), (0, [11], [], 240), (20, [10, 2], [1], 89), (0, [10], [], 349), (22, [9, 8, 6], [1], 0), (20, [8, 2], [1], 89), (0, [8], [], 349), (42, [6, 7], [], 0), (20, [7, 2], [1], 93), (90, [7], [], 0), (91, [7], [], 240), (5000, [0, 1, 2, 3, 4, 5, 6], [0, 1], 447), (0, [0], [], 285), (90, [1], [], 0), (91, [1], [], 7), (0, [2], [], 285), (90, [3], [], 0), (91, [3], [], 7), (90, [4], [], -2147483648), (91, [4], [], 2147483647), (90, [5], [], -2147483648), (91, [5], [], 2147483647), (90, [6], [], 0), (91, [6], [], 240)], (4000, [2, 3, 4, 5, 27], [2], 447)),
  ([(17, [26, 5], [], 0), (17, [24, 5], [], 0), (1, [17, 16, 6], [], 0), (0, [16], [], 480), (1, [12, 11, 6], [], 0), (0, [11], [], 240), (42, [6, 7], [], 0), (20, [7, 2], [1], 93), (90, [7], [], 0), (91, [7], [], 240), (5000, [0, 1, 2, 3, 4, 5, 6], [0, 1], 447), (0, [0], [], 285), (90, [1], [], 0), (91, [1], [], 7), (0, [2], [], 285), (90, [3], [], 0), (91, [3], [], 7), (90, [4], [], -2147483648), (91, [4], [], 2147483647), (90, [5], [], -2147483648), (91, [5], [], 2147483647), (90, [6], [], 0), (91, [6], [], 240)], (70, [6], [], 240)),
  ([(10, [28, 6], [], 1), (17, [26, 5], [], 0), (17, [24, 5], [], 0), (1, [17, 16, 6], [], 0), (0, [16], [], 480), (1, [12, 11, 6], [], 0), (0, [11], [], 240), (42, [6, 7], [], 0), (20, [7, 2], [1], 93), (90, [7], [], 0), (91, [7], [], 240), (5000, [0, 1, 2, 3, 4, 5, 6], [0, 1], 447), (0, [0], [], 285), (90, [1], [], 0), (91, [1], [], 7), (0, [2], [], 285), (90, [3], [], 0), (91, [3], [], 7), (90, [4], [], -2147483648), (91, [4], [], 2147483647), (90, [5], [], -2147483648), (91, [5], [], 2147483647), (90, [6], [], 0), (91, [6], [], 240)], (90, [28], [], 0)),
  ([(10, [28, 6], [], 1), (17, [26, 5], [], 0), (17, [24, 5], [], 0), (1, [17, 16, 6], [], 0), (0, [16], [], 480), (1, [12, 11, 6], [], 0), (0, [11], [], 240), (42, [6, 7], [], 0), (20, [7, 2], [1], 93), (90, [7], [], 0), (91, [7], [], 240), (5000, [0, 1, 2, 3, 4, 5, 6], [0, 1], 447), (0, [0], [], 285), (90, [1], [], 0), (91, [1], [], 7), (0, [2], [], 285), (90, [3], [], 0), (91, [3], [], 7), (90, [4], [], -2147483648), (91, [4], [], 2147483647), (90, [5], [], -2147483648), (91, [5], [], 2147483647), (90, [6], [], 0), (91, [6], [], 240)], (91, [28], [], 240)),
  ([(10, [28, 6], [], 1), (80, [20, 6, 27], [2, 1], 0), (18, [27, 26], [], 0), (17, [26, 5], [], 0), (17, [24, 5], [], 0), (20, [20, 2], [1], 92), (0, [20], [], 352), (1, [17, 16, 6], [], 0), (0, [16], [], 480), (1, [12, 11, 6], [], 0), (0, [11], [], 240), (42, [6, 7], [], 0), (20, [7, 2], [1], 93), (90, [7], [], 0), (91, [7], [], 240), (5000, [0, 1, 2, 3, 4, 5, 6], [0, 1], 447), (0, [0], [], 285), (90, [1], [], 0), (91, [1], [], 7), (0, [2], [], 285), (90, [3], [], 0), (91, [3], [], 7), (90, [4], [], -2147483648), (91, [4], [], 2147483647), (90, [5], [], -2147483648), (91, [5], [], 2147483647), (90, [6], [], 0), (91, [6], [], 240)], (4000, [2, 3, 4, 5, 28], [2], 447)),
  ([(1, [17, 16, 6], [], 0), (0, [16], [], 480), (1, [12, 11, 6], [], 0), (0, [11], [], 240), (42, [6, 7], [], 0), (20, [7, 2], [1], 93), (90, [7], [], 0), (91, [7], [], 240), (5000, [0, 1, 2, 3, 4, 5, 6], [0, 1], 447), (0, [0], [], 285), (90, [1], [], 0), (91, [1], [], 7), (0, [2], [], 285), (90, [3], [], 0), (91, [3], [], 7), (90, [4], [], -2147483648), (91, [4], [], 2147483647), (90, [5], [], -2147483648), (91, [5], [], 2147483647), (90, [6], [], 0), (91, [6], [], 240)], (70, [6], [], 240)),
  ([(10, [27, 6], [], 1), (1, [17, 16, 6], [], 0), (0, [16], [], 480), (1, [12, 11, 6], [], 0), (0, [11], [], 240), (42, [6, 7], [], 0), (20, [7, 2], [1], 93), (90, [7], [], 0), (91, [7], [], 240), (5000, [0, 1, 2, 3, 4, 5, 6], [0, 1], 447), (0, [0], [], 285), (90, [1], [], 0), (91, [1], [], 7), (0, [2], [], 285), (90, [3], [], 0), (91, [3], [], 7), (90, [4], [], -2147483648), (91, [4], [], 2147483647), (90, [5], [], -2147483648), (91, [5], [], 2147483647), (90, [6], [], 0), (91, [6], [], 240)], (90, [27], [], 0)),
  ([(10, [27, 6], [], 1), (1, [17, 16, 6], [], 0), (0, [16], [], 480), (1, [12, 11, 6], [], 0), (0, [11], [], 240), (42, [6, 7], [], 0), (20, [7, 2], [1], 93), (90, [7], [], 0), (91, [7], [], 240), (5000, [0, 1, 2, 3, 4, 5, 6], [0, 1], 447), (0, [0], [], 285), (90, [1], [], 0), (91, [1], [], 7), (0, [2], [], 285), (90, [3], [], 0), (91, [3], [], 7), (90, [4], [], -2147483648), (91, [4], [], 2147483647), (90, [5], [], -2147483648), (91, [5], [], 2147483647), (90, [6], [], 0), (91, [6], [], 240)], (91, [27], [], 240)),
  ([(10, [27, 6], [], 1), (80, [20, 6, 26], [2, 1], 0), (18, [26, 25], [], 0), (17, [25, 24], [], 0), (14, [24, 5], [], 0), (20, [20, 2], [1], 92), (0, [20], [], 352), (1, [17, 16, 6], [], 0), (0, [16], [], 480), (1, [12, 11, 6], [], 0), (0, [11], [], 240), (42, [6, 7], [], 0), (20, [7, 2], [1], 93), (90, [7], [], 0), (91, [7], [], 240), (5000, [0, 1, 2, 3, 4, 5, 6], [0, 1], 447), (0, [0], [], 285), (90, [1], [], 0), (91, [1], [], 7), (0, [2], [], 285), (90, [3], [], 0), (91, [3], [], 7), (90, [4], [], -2147483648), (91, [4], [], 2147483647), (90, [5], [], -2147483648), (91, [5], [], 2147483647), (90, [6], [], 0), (91, [6], [], 240)], (4000, [2, 3, 4, 5, 27], [2], 447))]
theorem r_274_447 : vCovO false (eRc e_274 L_274 cs_274 2000 (447, [(0, (3, 12, 285, 0)), (1, (0, 0, 7, 0)), (2, (0, -2147483648, 2147483647, 0)), (3, (0, -2147483648, 2147483647, 0)), (4, (0, 0, 240, 0))])) p_274_447 = true := by decide +kernel
theorem m_274 (d : Nat) : eC e_274 (d + 4) := eC_ok (e := e_274) (L := L_274) (cs := cs_274) (n := 2000) (d := d + 3) (A := A_274) (μ := mu_274) (tp := false) (p0 := p_274_s) rfl ⟨m_266 (d + 1), ⟨m_270 (d + 1), ⟨m_273 d, ⟨m_275 d, ⟨m_276 (d + 2), ⟨m_277 (d + 2), trivial⟩⟩⟩⟩⟩⟩ rfl (.inl rfl) (by decide +kernel) (fun z => nomatch z) r_274_s (allC c_274_s_0 (allC c_274_s_1 (allC c_274_s_2 (allC c_274_s_3 allN)))) (allC (.inl ⟨p_274_24, r_274_24, fun q0 => (allC c_274_24_0 (allC c_274_24_1 (allC c_274_24_2 (allC c_274_24_3 (allC c_274_24_4 (allC c_274_24_5 allN))))))⟩) (allC (.inl ⟨p_274_55, r_274_55, fun q0 => (allC c_274_55_0 (allC c_274_55_1 (allC c_274_55_2 (allC c_274_55_3 (allC c_274_55_4 (allC c_274_55_5 (allC c_274_55_6 (allC c_274_55_7 (allC c_274_55_8 (allC c_274_55_9 (allC c_274_55_10 (allC c_274_55_11 (allC c_274_55_12 (allC c_274_55_13 (allC c_274_55_14 (allC c_274_55_15 (allC c_274_55_16 (allC c_274_55_17 (allC c_274_55_18 (allC c_274_55_19 (allC c_274_55_20 (allC c_274_55_21 (allC c_274_55_22 allN)))))))))))))))))))))))⟩) (allC (.inl ⟨p_274_153, r_274_153, fun q0 => (allC c_274_153_0 (allC c_274_153_1 (allC c_274_153_2 (allC c_274_153_3 (allC c_274_153_4 (allC c_274_153_5 (allC c_274_153_6 (allC c_274_153_7 (allC c_274_153_8 (allC c_274_153_9 (allC c_274_153_10 (allC c_274_153_11 (allC c_274_153_12 (allC c_274_153_13 (allC c_274_153_14 (allC c_274_153_15 allN))))))))))))))))⟩) (allC (.inl ⟨p_274_243, r_274_243, fun q0 => (allC c_274_243_0 (allC c_274_243_1 (allC c_274_243_2 allN)))⟩) (allC (.inl ⟨p_274_251, r_274_251, fun q0 => (allC c_274_251_0 (allC c_274_251_1 (allC c_274_251_2 (allC c_274_251_3 (allC c_274_251_4 (allC c_274_251_5 (allC c_274_251_6 (allC c_274_251_7 (allC c_274_251_8 allN)))))))))⟩) (allC (.inl ⟨p_274_313, r_274_313, fun q0 => (allC c_274_313_0 (allC c_274_313_1 (allC c_274_313_2 (allC c_274_313_3 (allC c_274_313_4 (allC c_274_313_5 (allC c_274_313_6 (allC c_274_313_7 (allC c_274_313_8 (allC c_274_313_9 allN))))))))))⟩) (allC (.inl ⟨p_274_354, r_274_354, fun q0 => (allC c_274_354_0 (allC c_274_354_1 (allC c_274_354_2 (allC c_274_354_3 (allC c_274_354_4 (allC c_274_354_5 (allC c_274_354_6 (allC c_274_354_7 (allC c_274_354_8 (allC c_274_354_9 allN))))))))))⟩) (allC (.inl ⟨p_274_400, r_274_400, fun q0 => (allC c_274_400_0 (allC c_274_400_1 (allC c_274_400_2 (allC c_274_400_3 (allC c_274_400_4 (allC c_274_400_5 (allC c_274_400_6 (allC c_274_400_7 (allC c_274_400_8 allN)))))))))⟩) (allC (.inl ⟨p_274_447, r_274_447, fun q0 => (allC c_274_447_0 (allC c_274_447_1 (allC c_274_447_2 (allC c_274_447_3 (allC c_274_447_4 (allC c_274_447_5 (allC c_274_447_6 (allC c_274_447_7 (allC c_274_447_8 (allC c_274_447_9 (allC c_274_447_10 (allC c_274_447_11 (allC c_274_447_12 (allC c_274_447_13 (allC c_274_447_14 allN)))))))))))))))⟩) allN)))))))))
