/-! CONTRACTS of methods (printed by wip/gen/emit.py). -/
/- MixStageModel.holds (I)Z -/
noncomputable def s_239 : vM := ([(3, 12, 285, 0), (0, 0, 23, 0)], (0, 0, 1, 0), 1, 0, [(12, 58), (12, 59), (420, 0)])
def preb_239 (a0 a1 : Int) (h : gH) : Prop := RV h ∧ 12 * hV h 285 34 ≤ a1 ∧ a1 < 12 * hV h 285 34 + hV h 306 ((hV h 285 34).toNat) ∧ hV h 307 ((a1).toNat) = 0
def pre_239 : List Int → gH → Prop := fun xs h => match xs with
  | [a0, a1] => preb_239 a0 a1 h
  | _ => False
noncomputable def e_239 : vE := (239, s_239, pre_239, post0)
noncomputable def L_239 : List vE := [e_238]
def cs_239 : List vC := [(56, [(0, (3, 12, 285, 0)), (1, (0, 0, 23, 0)), (2, (0, 0, 1, 0)), (3, (0, 0, 1, 0)), (4, (0, 0, 400, 0))]), (198, [(0, (3, 12, 285, 0)), (1, (0, 0, 23, 0)), (2, (0, 0, 1, 0)), (3, (0, 0, 1, 0)), (4, (0, 0, 399, 0)), (5, (0, -2147483648, 2147483647, 0)), (6, (0, -2147483648, 2147483647, 0)), (7, (0, 0, 1, 0))]), (224, [(0, (3, 12, 285, 0)), (1, (0, 0, 23, 0)), (2, (0, 0, 1, 0)), (3, (0, 0, 1, 0)), (4, (0, 0, 399, 0)), (5, (0, -2147483648, 2147483647, 0)), (6, (0, -2147483648, 2147483647, 0)), (7, (0, 0, 1, 0))])]
def Ab_239_56 (a0 a1 x0 x1 x2 x3 x4 : Int) (h0 h : gH) : Prop := x1 = a1 ∧ hV h 310 ((a1).toNat) ≤ x4
def mub_239_56 (a0 a1 x0 x1 x2 x3 x4 : Int) (h0 h : gH) : Nat := (500 - x4).toNat * 10 + 3
def Ab_239_198 (a0 a1 x0 x1 x2 x3 x4 x5 x6 x7 : Int) (h0 h : gH) : Prop := x1 = a1 ∧ hV h 310 ((a1).toNat) ≤ x4
def mub_239_198 (a0 a1 x0 x1 x2 x3 x4 x5 x6 x7 : Int) (h0 h : gH) : Nat := (500 - x4).toNat * 10 + 2
def Ab_239_224 (a0 a1 x0 x1 x2 x3 x4 x5 x6 x7 : Int) (h0 h : gH) : Prop := x1 = a1 ∧ hV h 310 ((a1).toNat) ≤ x4
def mub_239_224 (a0 a1 x0 x1 x2 x3 x4 x5 x6 x7 : Int) (h0 h : gH) : Nat := (500 - x4).toNat * 10 + 1
def A_239 : Int → List Int → gH → gH → Prop := fun c xs h0 h => match c.toNat with
  | 56 => (match xs with
    | [a0, a1, x0, x1, x2, x3, x4] => Ab_239_56 a0 a1 x0 x1 x2 x3 x4 h0 h
    | _ => False)
  | 198 => (match xs with
    | [a0, a1, x0, x1, x2, x3, x4, x5, x6, x7] => Ab_239_198 a0 a1 x0 x1 x2 x3 x4 x5 x6 x7 h0 h
    | _ => False)
  | 224 => (match xs with
    | [a0, a1, x0, x1, x2, x3, x4, x5, x6, x7] => Ab_239_224 a0 a1 x0 x1 x2 x3 x4 x5 x6 x7 h0 h
    | _ => False)
  | _ => True
def mu_239 : Int → List Int → gH → gH → Nat := fun c xs h0 h => match c.toNat with
  | 56 => (match xs with
    | [a0, a1, x0, x1, x2, x3, x4] => mub_239_56 a0 a1 x0 x1 x2 x3 x4 h0 h
    | _ => 0)
  | 198 => (match xs with
    | [a0, a1, x0, x1, x2, x3, x4, x5, x6, x7] => mub_239_198 a0 a1 x0 x1 x2 x3 x4 x5 x6 x7 h0 h
    | _ => 0)
  | 224 => (match xs with
    | [a0, a1, x0, x1, x2, x3, x4, x5, x6, x7] => mub_239_224 a0 a1 x0 x1 x2 x3 x4 x5 x6 x7 h0 h
    | _ => 0)
  | _ => 0
theorem q_239_0 {n0 n1 n2 n3 n4 n5 n6 n7 : Int} {H0 H1 : gH} (f0 : n0 ≤ 23) (f1 : 0 ≤ n0) (f2 : n1 = 285) (f3 : hWt T0 H0 ∧ preb_239 n1 n0 H0) (f4 : n2 = 0) (f5 : n3 = 58) (f6 : hUpd H1 H0 n1 n3 n2) (f7 : n4 = 308) (f8 : n4 = hV H1 (n1).toNat 38) (f9 : n5 ≤ 1200) (f10 : 0 ≤ n5) (f11 : n5 = hV H1 (n4).toNat (n0).toNat) (f12 : n6 = 309) (f13 : n6 = hV H1 (n1).toNat 39) (f14 : n7 ≤ 1200) (f15 : 0 ≤ n7) (f16 : n7 = hV H1 (n6).toNat (n0).toNat) : preb_238 n1 n5 n7 H1 := by
  unfold preb_239 at f3
  unfold preb_238
  have e1 : n5 = hV H0 308 (n0).toNat := (by rw [f7] at f11; exact f11 : n5 = hV H1 308 (n0).toNat).trans ((congrFun (uRowNe f6 308 (iS (show n1 = ((285 : Nat) : Int) from f2) rfl)) _))
  have e3 : n7 = hV H0 309 (n0).toNat := (by rw [f12] at f16; exact f16 : n7 = hV H1 309 (n0).toNat).trans ((congrFun (uRowNe f6 309 (iS (show n1 = ((285 : Nat) : Int) from f2) rfl)) _))
  have e4 : hV H1 320 = hV H0 320 := uRowNe f6 320 (iS (show n1 = ((285 : Nat) : Int) from f2) rfl)
  have e5 : hV H1 321 = hV H0 321 := uRowNe f6 321 (iS (show n1 = ((285 : Nat) : Int) from f2) rfl)
  have e6 : (0 : Int) ≤ hV H0 285 34 ∧ hV H0 285 34 ≤ 1 := f3.1 285 34 _ _ kW_285_34
  try simp only [e4, e5]
  have p0 := f3.2.1
  have p1 := f3.2.2.1
  have p2 := f3.2.2.2.1
  have p3 := f3.2.2.2.2
  clear f8 f11 f13 f16 e4 e5
  clear f3
  subst e1
  subst e3
  have rk := RG_at p0 (by omega) p1 p2
  have rf := rk.1 (by omega)
  have rl := rk.2.1
  have rm := rk.2.2.1

  exact ⟨rf.2.2, by omega⟩
def g_239_s_0 : vG := ([(22, [7, 6, 1], [1], 0), (90, [7], [], 0), (91, [7], [], 1200), (20, [6, 0], [1], 39), (0, [6], [], 309), (22, [5, 4, 1], [1], 0), (90, [5], [], 0), (91, [5], [], 1200), (20, [4, 0], [1], 38), (0, [4], [], 308), (80, [0, 3, 2], [1, 0], 0), (0, [3], [], 58), (0, [2], [], 0), (6000, [0, 1], [0], 0), (0, [0], [], 285), (90, [1], [], 0), (91, [1], [], 23)], (2238, [0, 5, 7], [1], 0))
theorem c_239_s_0 : vOkm T0 (eP e_239 L_239 A_239 mu_239 none) 2 g_239_s_0 := vOk_inI fun ρ η f0 f1 f2 f3 f4 f5 f6 f7 f8 f9 f10 f11 f12 f13 f14 f15 f16 => q_239_0 (n0 := ρ 1) (n1 := ρ 0) (n2 := ρ 2) (n3 := ρ 3) (n4 := ρ 4) (n5 := ρ 5) (n6 := ρ 6) (n7 := ρ 7) (H0 := η 0) (H1 := η 1) f16 f15 f14 f13 f12 f11 f10 f9 f8 f7 f6 f5 f4 f3 f2 f1 f0
theorem q_239_1 {n0 n1 n2 n3 n4 n5 : Int} {H0 H1 : gH} (f0 : n0 = 285) (f1 : n1 = 0) (f2 : n2 = 0) (f3 : n3 = 310) (f4 : n4 = hV H1 (n3).toNat (n5).toNat) : Ab_239_56 n0 n5 n0 n5 n1 n2 n4 H0 H1 ∧ ∀ q, none = some q → mub_239_56 n0 n5 n0 n5 n1 n2 n4 H0 H1 < q := by
  unfold Ab_239_56
  have e0 : n4 = hV H1 310 (n5).toNat := (by rw [f3] at f4; exact f4 : n4 = hV H1 310 (n5).toNat)
  clear f4
  subst e0
  refine ⟨?_, fun q hq => ?_⟩
  · refine ⟨?_, ?_⟩ <;> first | assumption | omega | trivial
  · exact nomatch hq
def g_239_s_1 : vG := ([(22, [17, 16, 1], [3], 0), (0, [16], [], 310), (0, [15], [], 0), (0, [14], [], 0), (0, [0], [], 285)], (4000, [0, 1, 14, 15, 17], [3], 56))
theorem c_239_s_1 : vOkm T0 (eP e_239 L_239 A_239 mu_239 none) 2 g_239_s_1 := vOk_inI fun ρ η f0 f1 f2 f3 f4 => q_239_1 (n0 := ρ 0) (n1 := ρ 14) (n2 := ρ 15) (n3 := ρ 16) (n4 := ρ 17) (n5 := ρ 1) (H0 := η 0) (H1 := η 3) f4 f3 f2 f1 f0
theorem q_239_2 {n0 n1 n2 n3 n4 n5 : Int} {H0 H1 : gH} (f0 : n0 = 285) (f1 : n1 = 1) (f2 : n2 = 0) (f3 : n3 = 310) (f4 : n4 = hV H1 (n3).toNat (n5).toNat) : Ab_239_56 n0 n5 n0 n5 n1 n2 n4 H0 H1 ∧ ∀ q, none = some q → mub_239_56 n0 n5 n0 n5 n1 n2 n4 H0 H1 < q := by
  unfold Ab_239_56
  have e0 : n4 = hV H1 310 (n5).toNat := (by rw [f3] at f4; exact f4 : n4 = hV H1 310 (n5).toNat)
  clear f4
  subst e0
  refine ⟨?_, fun q hq => ?_⟩
  · refine ⟨?_, ?_⟩ <;> first | assumption | omega | trivial
  · exact nomatch hq
def g_239_s_2 : vG := ([(22, [17, 16, 1], [3], 0), (0, [16], [], 310), (0, [15], [], 0), (0, [14], [], 1), (0, [0], [], 285)], (4000, [0, 1, 14, 15, 17], [3], 56))
theorem c_239_s_2 : vOkm T0 (eP e_239 L_239 A_239 mu_239 none) 2 g_239_s_2 := vOk_inI fun ρ η f0 f1 f2 f3 f4 => q_239_2 (n0 := ρ 0) (n1 := ρ 14) (n2 := ρ 15) (n3 := ρ 16) (n4 := ρ 17) (n5 := ρ 1) (H0 := η 0) (H1 := η 3) f4 f3 f2 f1 f0
def p_239_s : List vG := [g_239_s_0,
  g_239_s_1,
  g_239_s_2]
theorem r_239_s : vCovO true (eR0 e_239 L_239 cs_239 2000) p_239_s = true := by decide +kernel
theorem q_239_3 {q0 : Nat} {n0 n1 : Int} {H0 : gH} (f0 : 0 ≤ n0) (f1 : n1 ≤ 400) (f2 : n0 < n1) : 0 ≤ n0 ∧ n0 < 400 := by
  omega
def g_239_56_0 : vG := ([(42, [6, 8], [], 0), (91, [8], [], 400), (90, [6], [], 0)], (70, [6], [], 400))
theorem c_239_56_0 {q0 : Nat} : vOkm T0 (eP e_239 L_239 A_239 mu_239 (some q0)) 2 g_239_56_0 := vOk_inI fun ρ η f0 f1 f2 => q_239_3 (q0 := q0) (n0 := ρ 6) (n1 := ρ 8) (H0 := η 0) f2 f1 f0
def g_239_56_1 : vG := ([(42, [6, 8], [], 0), (91, [8], [], 400), (90, [6], [], 0)], (70, [6], [], 400))
theorem c_239_56_1 {q0 : Nat} : vOkm T0 (eP e_239 L_239 A_239 mu_239 (some q0)) 2 g_239_56_1 := vOk_inI fun ρ η f0 f1 f2 => q_239_3 (q0 := q0) (n0 := ρ 6) (n1 := ρ 8) (H0 := η 0) f2 f1 f0
theorem kR_239_311 : vFreeR s_239.2.2.2.2 311 = true := by decide +kernel
theorem kR_239_317 : vFreeR s_239.2.2.2.2 317 = true := by decide +kernel
theorem kR_239_318 : vFreeR s_239.2.2.2.2 318 = true := by decide +kernel
theorem kR_239_310 : vFreeR s_239.2.2.2.2 310 = true := by decide +kernel
theorem kR_239_320 : vFreeR s_239.2.2.2.2 320 = true := by decide +kernel
theorem kR_239_321 : vFreeR s_239.2.2.2.2 321 = true := by decide +kernel
theorem kF_239_285_34 : vFree s_239.2.2.2.2 285 34 = true := by decide +kernel
theorem q_239_4 {q0 : Nat} {n0 n1 n2 n3 n4 n5 n6 n7 n8 n9 n10 n11 n12 : Int} {H0 H1 : gH} (f0 : n0 ≤ 400) (f1 : 0 ≤ n0) (f2 : n1 ≤ 1) (f3 : 0 ≤ n1) (f4 : n2 ≤ 1) (f5 : 0 ≤ n2) (f6 : n3 ≤ 23) (f7 : 0 ≤ n3) (f8 : n4 = 285) (f9 : n5 ≤ 23) (f10 : 0 ≤ n5) (f11 : n6 = 285) (f12 : (hLe T0 H0 H1 ∧ hFr s_239.2.2.2.2 H0 H1 ∧ hWt T0 H1) ∧ (Ab_239_56 n6 n5 n4 n3 n2 n1 n0 H0 H1 ∧ preb_239 n6 n5 H0) ∧ some q0 = some (mub_239_56 n6 n5 n4 n3 n2 n1 n0 H0 H1)) (f13 : n7 = 311) (f14 : n7 = hV H1 (n4).toNat 41) (f15 : n8 ≤ 400) (f16 : 0 ≤ n8) (f17 : n8 = hV H1 (n7).toNat (n3).toNat) (f18 : n0 < n8) (f19 : n9 = 317) (f20 : n9 = hV H1 (n4).toNat 48) (f21 : n10 ≤ 1200) (f22 : 0 ≤ n10) (f23 : n10 = hV H1 (n9).toNat (n0).toNat) (f24 : n11 = 318) (f25 : n11 = hV H1 (n4).toNat 49) (f26 : n12 ≤ 1200) (f27 : 0 ≤ n12) (f28 : n12 = hV H1 (n11).toNat (n0).toNat) : preb_238 n4 n10 n12 H1 := by
  have g4 := f12.2.1.1
  unfold Ab_239_56 at g4
  have g3 := f12.2.1.2
  unfold preb_239 at g3
  unfold preb_238
  have e1 : n8 = hV H0 311 (n3).toNat := (by rw [f13] at f17; exact f17 : n8 = hV H1 311 (n3).toNat).trans ((congrFun (fRow f12.1.2.1 311 kR_239_311) _))
  have e3 : n10 = hV H0 317 (n0).toNat := (by rw [f19] at f23; exact f23 : n10 = hV H1 317 (n0).toNat).trans ((congrFun (fRow f12.1.2.1 317 kR_239_317) _))
  have e5 : n12 = hV H0 318 (n0).toNat := (by rw [f24] at f28; exact f28 : n12 = hV H1 318 (n0).toNat).trans ((congrFun (fRow f12.1.2.1 318 kR_239_318) _))
  have e8 : hV H1 310 = hV H0 310 := fRow f12.1.2.1 310 kR_239_310
  have e9 : hV H1 320 = hV H0 320 := fRow f12.1.2.1 320 kR_239_320
  have e10 : hV H1 321 = hV H0 321 := fRow f12.1.2.1 321 kR_239_321
  have e11 : (0 : Int) ≤ hV H0 285 34 ∧ hV H0 285 34 ≤ 1 := bTo ((f12.1.2.1.1 285 34 kF_239_285_34)) (f12.1.2.2 285 34 _ _ kW_285_34)
  try simp only [e9, e10]
  have k0 := g4.1
  have y0 := g4.2
  have p0 := g3.1
  have p1 := g3.2.1
  have p2 := g3.2.2.1
  have p3 := g3.2.2.2
  try simp only [e8] at y0
  clear g3
  clear g4
  clear f14 f17 f20 f23 f25 f28 e8 e9 e10
  clear f12
  subst e1
  subst e3
  subst e5
  have rk := RG_at p0 (by omega) p1 p2
  try have kk : hV H0 311 (n3).toNat = hV H0 311 (n5).toNat := by rw [k0]
  have rl := rk.2.1
  have rm := rk.2.2.1
  try have lk := rok_lit rk (l := n0) (by omega) (by omega) (by omega)
  try have l1 := lk.1
  try have l2 := lk.2.1
  try have l3 := lk.2.2.1.1
  try have l4 := lk.2.2.2.1

  have lj := rok_lit rk (l := n0) (by omega) (by omega) (by omega)
  first | exact ⟨lj.2.2.1, by omega⟩ | exact ⟨lj.2.2.2, by omega⟩
def g_239_56_2 : vG := ([(22, [12, 11, 6], [1], 0), (90, [12], [], 0), (91, [12], [], 1200), (20, [11, 2], [1], 49), (0, [11], [], 318), (22, [10, 9, 6], [1], 0), (90, [10], [], 0), (91, [10], [], 1200), (20, [9, 2], [1], 48), (0, [9], [], 317), (42, [6, 8], [], 0), (22, [8, 7, 3], [1], 0), (90, [8], [], 0), (91, [8], [], 400), (20, [7, 2], [1], 41), (0, [7], [], 311), (5000, [0, 1, 2, 3, 4, 5, 6], [0, 1], 56), (0, [0], [], 285), (90, [1], [], 0), (91, [1], [], 23), (0, [2], [], 285), (90, [3], [], 0), (91, [3], [], 23), (90, [4], [], 0), (91, [4], [], 1), (90, [5], [], 0), (91, [5], [], 1), (90, [6], [], 0), (91, [6], [], 400)], (2238, [2, 10, 12], [1], 0))
theorem c_239_56_2 {q0 : Nat} : vOkm T0 (eP e_239 L_239 A_239 mu_239 (some q0)) 2 g_239_56_2 := vOk_inI fun ρ η f0 f1 f2 f3 f4 f5 f6 f7 f8 f9 f10 f11 f12 f13 f14 f15 f16 f17 f18 f19 f20 f21 f22 f23 f24 f25 f26 f27 f28 => q_239_4 (q0 := q0) (n0 := ρ 6) (n1 := ρ 5) (n2 := ρ 4) (n3 := ρ 3) (n4 := ρ 2) (n5 := ρ 1) (n6 := ρ 0) (n7 := ρ 7) (n8 := ρ 8) (n9 := ρ 9) (n10 := ρ 10) (n11 := ρ 11) (n12 := ρ 12) (H0 := η 0) (H1 := η 1) f28 f27 f26 f25 f24 f23 f22 f21 f20 f19 f18 f17 f16 f15 f14 f13 f12 f11 f10 f9 f8 f7 f6 f5 f4 f3 f2 f1 f0
def g_239_56_3 : vG := ([(42, [6, 8], [], 0), (91, [8], [], 400), (90, [6], [], 0)], (70, [6], [], 400))
theorem c_239_56_3 {q0 : Nat} : vOkm T0 (eP e_239 L_239 A_239 mu_239 (some q0)) 2 g_239_56_3 := vOk_inI fun ρ η f0 f1 f2 => q_239_3 (q0 := q0) (n0 := ρ 6) (n1 := ρ 8) (H0 := η 0) f2 f1 f0
def g_239_56_4 : vG := ([(42, [6, 8], [], 0), (91, [8], [], 400), (90, [6], [], 0)], (70, [6], [], 400))
theorem c_239_56_4 {q0 : Nat} : vOkm T0 (eP e_239 L_239 A_239 mu_239 (some q0)) 2 g_239_56_4 := vOk_inI fun ρ η f0 f1 f2 => q_239_3 (q0 := q0) (n0 := ρ 6) (n1 := ρ 8) (H0 := η 0) f2 f1 f0
theorem kR_238_318 : vFreeR s_238.2.2.2.2 318 = true := by decide +kernel
theorem kR_238_319 : vFreeR s_238.2.2.2.2 319 = true := by decide +kernel
theorem kR_239_319 : vFreeR s_239.2.2.2.2 319 = true := by decide +kernel
theorem q_239_5 {q0 : Nat} {n0 n1 n2 n3 n4 n5 n6 n7 n8 n9 n10 n11 n12 n13 n14 n15 n16 n17 : Int} {H0 H1 H2 : gH} (f0 : n0 ≤ 400) (f1 : 0 ≤ n0) (f2 : n1 ≤ 1) (f3 : 0 ≤ n1) (f4 : n2 ≤ 1) (f5 : 0 ≤ n2) (f6 : n3 ≤ 23) (f7 : 0 ≤ n3) (f8 : n4 = 285) (f9 : n5 ≤ 23) (f10 : 0 ≤ n5) (f11 : n6 = 285) (f12 : (hLe T0 H0 H1 ∧ hFr s_239.2.2.2.2 H0 H1 ∧ hWt T0 H1) ∧ (Ab_239_56 n6 n5 n4 n3 n2 n1 n0 H0 H1 ∧ preb_239 n6 n5 H0) ∧ some q0 = some (mub_239_56 n6 n5 n4 n3 n2 n1 n0 H0 H1)) (f13 : n7 = 311) (f14 : n7 = hV H1 (n4).toNat 41) (f15 : n8 ≤ 400) (f16 : 0 ≤ n8) (f17 : n8 = hV H1 (n7).toNat (n3).toNat) (f18 : n0 < n8) (f19 : n9 = 317) (f20 : n9 = hV H1 (n4).toNat 48) (f21 : n10 ≤ 1200) (f22 : 0 ≤ n10) (f23 : n10 = hV H1 (n9).toNat (n0).toNat) (f24 : n11 = 318) (f25 : n11 = hV H1 (n4).toNat 49) (f26 : n12 ≤ 1200) (f27 : 0 ≤ n12) (f28 : n12 = hV H1 (n11).toNat (n0).toNat) (f29 : n13 ≤ 2147483647) (f30 : (-2147483648) ≤ n13) (f31 : (hLe T0 H1 H2 ∧ hFr s_238.2.2.2.2 H1 H2 ∧ ((0 : Int) = 0 → H2.length = H1.length) ∧ hWt T0 H2) ∧ True) (f32 : n14 = 318) (f33 : n14 = hV H2 (n4).toNat 49) (f34 : n15 ≤ 1200) (f35 : 0 ≤ n15) (f36 : n15 = hV H2 (n14).toNat (n0).toNat) (f37 : n16 = 319) (f38 : n16 = hV H2 (n4).toNat 50) (f39 : n17 ≤ 1200) (f40 : 0 ≤ n17) (f41 : n17 = hV H2 (n16).toNat (n0).toNat) : preb_238 n4 n15 n17 H2 := by
  have g4 := f12.2.1.1
  unfold Ab_239_56 at g4
  have g3 := f12.2.1.2
  unfold preb_239 at g3
  unfold preb_238
  have e1 : n8 = hV H0 311 (n3).toNat := (by rw [f13] at f17; exact f17 : n8 = hV H1 311 (n3).toNat).trans ((congrFun (fRow f12.1.2.1 311 kR_239_311) _))
  have e3 : n10 = hV H0 317 (n0).toNat := (by rw [f19] at f23; exact f23 : n10 = hV H1 317 (n0).toNat).trans ((congrFun (fRow f12.1.2.1 317 kR_239_317) _))
  have e5 : n12 = hV H0 318 (n0).toNat := (by rw [f24] at f28; exact f28 : n12 = hV H1 318 (n0).toNat).trans ((congrFun (fRow f12.1.2.1 318 kR_239_318) _))
  have e7 : n15 = hV H0 318 (n0).toNat := (by rw [f32] at f36; exact f36 : n15 = hV H2 318 (n0).toNat).trans (((congrFun (fRow f31.1.2.1 318 kR_238_318) _)).trans ((congrFun (fRow f12.1.2.1 318 kR_239_318) _)))
  have e10 : n17 = hV H0 319 (n0).toNat := (by rw [f37] at f41; exact f41 : n17 = hV H2 319 (n0).toNat).trans (((congrFun (fRow f31.1.2.1 319 kR_238_319) _)).trans ((congrFun (fRow f12.1.2.1 319 kR_239_319) _)))
  have e13 : hV H1 310 = hV H0 310 := fRow f12.1.2.1 310 kR_239_310
  have e16 : hV H2 320 = hV H0 320 := (fRow f31.1.2.1 320 kR_238_320).trans (fRow f12.1.2.1 320 kR_239_320)
  have e19 : hV H2 321 = hV H0 321 := (fRow f31.1.2.1 321 kR_238_321).trans (fRow f12.1.2.1 321 kR_239_321)
  have e20 : (0 : Int) ≤ hV H0 285 34 ∧ hV H0 285 34 ≤ 1 := bTo ((f12.1.2.1.1 285 34 kF_239_285_34)) (f12.1.2.2 285 34 _ _ kW_285_34)
  try simp only [e16, e19]
  have k0 := g4.1
  have y0 := g4.2
  have p0 := g3.1
  have p1 := g3.2.1
  have p2 := g3.2.2.1
  have p3 := g3.2.2.2
  try simp only [e13] at y0
  clear g3
  clear g4
  clear f14 f17 f20 f23 f25 f28 f33 f36 f38 f41 e13 e16 e19
  clear f12 f31
  subst e1
  subst e3
  subst e5
  subst e7
  subst e10
  have rk := RG_at p0 (by omega) p1 p2
  try have kk : hV H0 311 (n3).toNat = hV H0 311 (n5).toNat := by rw [k0]
  have rl := rk.2.1
  have rm := rk.2.2.1
  try have lk := rok_lit rk (l := n0) (by omega) (by omega) (by omega)
  try have l1 := lk.1
  try have l2 := lk.2.1
  try have l3 := lk.2.2.1.1
  try have l4 := lk.2.2.2.1

  have lj := rok_lit rk (l := n0) (by omega) (by omega) (by omega)
  first | exact ⟨lj.2.2.1, by omega⟩ | exact ⟨lj.2.2.2, by omega⟩
def g_239_56_5 : vG := ([(22, [17, 16, 6], [2], 0), (90, [17], [], 0), (91, [17], [], 1200), (20, [16, 2], [2], 50), (0, [16], [], 319), (22, [15, 14, 6], [2], 0), (90, [15], [], 0), (91, [15], [], 1200), (20, [14, 2], [2], 49), (0, [14], [], 318), (1238, [13, 2, 10, 12], [1, 2], 0), (90, [13], [], -2147483648), (91, [13], [], 2147483647), (22, [12, 11, 6], [1], 0), (90, [12], [], 0), (91, [12], [], 1200), (20, [11, 2], [1], 49), (0, [11], [], 318), (22, [10, 9, 6], [1], 0), (90, [10], [], 0), (91, [10], [], 1200), (20, [9, 2], [1], 48), (0, [9], [], 317), (42, [6, 8], [], 0), (22, [8, 7, 3], [1], 0), (90, [8], [], 0), (91, [8], [], 400), (20, [7, 2], [1], 41), (0, [7], [], 311), (5000, [0, 1, 2, 3, 4, 5, 6], [0, 1], 56), (0, [0], [], 285), (90, [1], [], 0), (91, [1], [], 23), (0, [2], [], 285), (90, [3], [], 0), (91, [3], [], 23), (90, [4], [], 0), (91, [4], [], 1), (90, [5], [], 0), (91, [5], [], 1), (90, [6], [], 0), (91, [6], [], 400)], (2238, [2, 15, 17], [2], 0))
theorem c_239_56_5 {q0 : Nat} : vOkm T0 (eP e_239 L_239 A_239 mu_239 (some q0)) 2 g_239_56_5 := vOk_inI fun ρ η f0 f1 f2 f3 f4 f5 f6 f7 f8 f9 f10 f11 f12 f13 f14 f15 f16 f17 f18 f19 f20 f21 f22 f23 f24 f25 f26 f27 f28 f29 f30 f31 f32 f33 f34 f35 f36 f37 f38 f39 f40 f41 => q_239_5 (q0 := q0) (n0 := ρ 6) (n1 := ρ 5) (n2 := ρ 4) (n3 := ρ 3) (n4 := ρ 2) (n5 := ρ 1) (n6 := ρ 0) (n7 := ρ 7) (n8 := ρ 8) (n9 := ρ 9) (n10 := ρ 10) (n11 := ρ 11) (n12 := ρ 12) (n13 := ρ 13) (n14 := ρ 14) (n15 := ρ 15) (n16 := ρ 16) (n17 := ρ 17) (H0 := η 0) (H1 := η 1) (H2 := η 2) f41 f40 f39 f38 f37 f36 f35 f34 f33 f32 f31 f30 f29 f28 f27 f26 f25 f24 f23 f22 f21 f20 f19 f18 f17 f16 f15 f14 f13 f12 f11 f10 f9 f8 f7 f6 f5 f4 f3 f2 f1 f0
def g_239_56_6 : vG := ([(42, [6, 8], [], 0), (91, [8], [], 400), (90, [6], [], 0)], (70, [6], [], 400))
theorem c_239_56_6 {q0 : Nat} : vOkm T0 (eP e_239 L_239 A_239 mu_239 (some q0)) 2 g_239_56_6 := vOk_inI fun ρ η f0 f1 f2 => q_239_3 (q0 := q0) (n0 := ρ 6) (n1 := ρ 8) (H0 := η 0) f2 f1 f0
def g_239_56_7 : vG := ([(42, [6, 8], [], 0), (91, [8], [], 400), (90, [6], [], 0)], (70, [6], [], 400))
theorem c_239_56_7 {q0 : Nat} : vOkm T0 (eP e_239 L_239 A_239 mu_239 (some q0)) 2 g_239_56_7 := vOk_inI fun ρ η f0 f1 f2 => q_239_3 (q0 := q0) (n0 := ρ 6) (n1 := ρ 8) (H0 := η 0) f2 f1 f0
def g_239_56_8 : vG := ([(42, [6, 8], [], 0), (91, [8], [], 400), (90, [6], [], 0)], (70, [6], [], 400))
theorem c_239_56_8 {q0 : Nat} : vOkm T0 (eP e_239 L_239 A_239 mu_239 (some q0)) 2 g_239_56_8 := vOk_inI fun ρ η f0 f1 f2 => q_239_3 (q0 := q0) (n0 := ρ 6) (n1 := ρ 8) (H0 := η 0) f2 f1 f0
theorem q_239_6 {q0 : Nat} {n0 n1 : Int} {H0 : gH} (f0 : n0 ≤ 400) (f1 : n1 < n0) : n1 ≤ 399 := by
  omega
def g_239_56_9 : vG := ([(42, [6, 8], [], 0), (91, [8], [], 400)], (91, [6], [], 399))
theorem c_239_56_9 {q0 : Nat} : vOkm T0 (eP e_239 L_239 A_239 mu_239 (some q0)) 2 g_239_56_9 := vOk_inI fun ρ η f0 f1 => q_239_6 (q0 := q0) (n0 := ρ 8) (n1 := ρ 6) (H0 := η 0) f1 f0
theorem kR_238_310 : vFreeR s_238.2.2.2.2 310 = true := by decide +kernel
theorem q_239_7 {q0 : Nat} {n0 n1 n2 n3 n4 n5 n6 n7 n8 n9 n10 n11 n12 n13 n14 : Int} {H0 H1 H2 H3 : gH} (f0 : n0 = 285) (f1 : n1 = 285) (f2 : (hLe T0 H0 H1 ∧ hFr s_239.2.2.2.2 H0 H1 ∧ hWt T0 H1) ∧ (Ab_239_56 n1 n2 n0 n3 n4 n5 n6 H0 H1 ∧ preb_239 n1 n2 H0) ∧ some q0 = some (mub_239_56 n1 n2 n0 n3 n4 n5 n6 H0 H1)) (f3 : n7 ≤ 400) (f4 : n6 < n7) (f5 : (hLe T0 H1 H2 ∧ hFr s_238.2.2.2.2 H1 H2 ∧ ((0 : Int) = 0 → H2.length = H1.length) ∧ hWt T0 H2) ∧ True) (f6 : (hLe T0 H2 H3 ∧ hFr s_238.2.2.2.2 H2 H3 ∧ ((0 : Int) = 0 → H3.length = H2.length) ∧ hWt T0 H3) ∧ True) (f7 : n14 = 0) : Ab_239_198 n1 n2 n0 n3 n4 n5 n6 n8 n11 n14 H0 H3 ∧ ∀ q, some q0 = some q → mub_239_198 n1 n2 n0 n3 n4 n5 n6 n8 n11 n14 H0 H3 < q := by
  have g4 := f2.2.1.1
  unfold Ab_239_56 at g4
  have g3 := f2.2.1.2
  unfold preb_239 at g3
  have g5 := Option.some.inj f2.2.2
  unfold mub_239_56 at g5
  unfold Ab_239_198
  unfold mub_239_198
  have e2 : hV H1 310 = hV H0 310 := fRow f2.1.2.1 310 kR_239_310
  have e6 : hV H3 310 = hV H0 310 := (fRow f6.1.2.1 310 kR_238_310).trans ((fRow f5.1.2.1 310 kR_238_310).trans e2)
  have e7 : (0 : Int) ≤ hV H0 285 34 ∧ hV H0 285 34 ≤ 1 := bTo ((f2.1.2.1.1 285 34 kF_239_285_34)) (f2.1.2.2 285 34 _ _ kW_285_34)
  try simp only [e6]
  have k0 := g4.1
  have y0 := g4.2
  have p0 := g3.1
  have p1 := g3.2.1
  have p2 := g3.2.2.1
  have p3 := g3.2.2.2
  try simp only [e2] at y0
  clear g3
  clear g4
  clear e2 e6
  clear f2 f5 f6
  try subst k0
  refine ⟨?_, fun q hq => ?_⟩
  · refine ⟨?_, ?_⟩ <;> first | assumption | omega | trivial
  · have g6 := Option.some.inj hq
    subst g6
    omega
def g_239_56_10 : vG := ([(0, [27], [], 0), (1238, [18, 2, 15, 17], [2, 3], 0), (1238, [13, 2, 10, 12], [1, 2], 0), (42, [6, 8], [], 0), (91, [8], [], 400), (5000, [0, 1, 2, 3, 4, 5, 6], [0, 1], 56), (0, [0], [], 285), (0, [2], [], 285)], (4000, [2, 3, 4, 5, 6, 13, 18, 27], [3], 198))
theorem c_239_56_10 {q0 : Nat} : vOkm T0 (eP e_239 L_239 A_239 mu_239 (some q0)) 2 g_239_56_10 := vOk_inI fun ρ η f0 f1 f2 f3 f4 f5 f6 f7 => q_239_7 (q0 := q0) (n0 := ρ 2) (n1 := ρ 0) (n2 := ρ 1) (n3 := ρ 3) (n4 := ρ 4) (n5 := ρ 5) (n6 := ρ 6) (n7 := ρ 8) (n8 := ρ 13) (n9 := ρ 10) (n10 := ρ 12) (n11 := ρ 18) (n12 := ρ 15) (n13 := ρ 17) (n14 := ρ 27) (H0 := η 0) (H1 := η 1) (H2 := η 2) (H3 := η 3) f7 f6 f5 f4 f3 f2 f1 f0
def g_239_56_11 : vG := ([(42, [6, 8], [], 0), (91, [8], [], 400)], (91, [6], [], 399))
theorem c_239_56_11 {q0 : Nat} : vOkm T0 (eP e_239 L_239 A_239 mu_239 (some q0)) 2 g_239_56_11 := vOk_inI fun ρ η f0 f1 => q_239_6 (q0 := q0) (n0 := ρ 8) (n1 := ρ 6) (H0 := η 0) f1 f0
theorem q_239_8 {q0 : Nat} {n0 n1 n2 n3 n4 n5 n6 n7 n8 n9 n10 n11 n12 n13 n14 : Int} {H0 H1 H2 H3 : gH} (f0 : n0 = 285) (f1 : n1 = 285) (f2 : (hLe T0 H0 H1 ∧ hFr s_239.2.2.2.2 H0 H1 ∧ hWt T0 H1) ∧ (Ab_239_56 n1 n2 n0 n3 n4 n5 n6 H0 H1 ∧ preb_239 n1 n2 H0) ∧ some q0 = some (mub_239_56 n1 n2 n0 n3 n4 n5 n6 H0 H1)) (f3 : n7 ≤ 400) (f4 : n6 < n7) (f5 : (hLe T0 H1 H2 ∧ hFr s_238.2.2.2.2 H1 H2 ∧ ((0 : Int) = 0 → H2.length = H1.length) ∧ hWt T0 H2) ∧ True) (f6 : (hLe T0 H2 H3 ∧ hFr s_238.2.2.2.2 H2 H3 ∧ ((0 : Int) = 0 → H3.length = H2.length) ∧ hWt T0 H3) ∧ True) (f7 : n14 = 1) : Ab_239_198 n1 n2 n0 n3 n4 n5 n6 n8 n11 n14 H0 H3 ∧ ∀ q, some q0 = some q → mub_239_198 n1 n2 n0 n3 n4 n5 n6 n8 n11 n14 H0 H3 < q := by
  have g4 := f2.2.1.1
  unfold Ab_239_56 at g4
  have g3 := f2.2.1.2
  unfold preb_239 at g3
  have g5 := Option.some.inj f2.2.2
  unfold mub_239_56 at g5
  unfold Ab_239_198
  unfold mub_239_198
  have e2 : hV H1 310 = hV H0 310 := fRow f2.1.2.1 310 kR_239_310
  have e6 : hV H3 310 = hV H0 310 := (fRow f6.1.2.1 310 kR_238_310).trans ((fRow f5.1.2.1 310 kR_238_310).trans e2)
  have e7 : (0 : Int) ≤ hV H0 285 34 ∧ hV H0 285 34 ≤ 1 := bTo ((f2.1.2.1.1 285 34 kF_239_285_34)) (f2.1.2.2 285 34 _ _ kW_285_34)
  try simp only [e6]
  have k0 := g4.1
  have y0 := g4.2
  have p0 := g3.1
  have p1 := g3.2.1
  have p2 := g3.2.2.1
  have p3 := g3.2.2.2
  try simp only [e2] at y0
  clear g3
  clear g4
  clear e2 e6
  clear f2 f5 f6
  try subst k0
  refine ⟨?_, fun q hq => ?_⟩
  · refine ⟨?_, ?_⟩ <;> first | assumption | omega | trivial
  · have g6 := Option.some.inj hq
    subst g6
    omega
def g_239_56_12 : vG := ([(0, [27], [], 1), (1238, [18, 2, 15, 17], [2, 3], 0), (1238, [13, 2, 10, 12], [1, 2], 0), (42, [6, 8], [], 0), (91, [8], [], 400), (5000, [0, 1, 2, 3, 4, 5, 6], [0, 1], 56), (0, [0], [], 285), (0, [2], [], 285)], (4000, [2, 3, 4, 5, 6, 13, 18, 27], [3], 198))
theorem c_239_56_12 {q0 : Nat} : vOkm T0 (eP e_239 L_239 A_239 mu_239 (some q0)) 2 g_239_56_12 := vOk_inI fun ρ η f0 f1 f2 f3 f4 f5 f6 f7 => q_239_8 (q0 := q0) (n0 := ρ 2) (n1 := ρ 0) (n2 := ρ 1) (n3 := ρ 3) (n4 := ρ 4) (n5 := ρ 5) (n6 := ρ 6) (n7 := ρ 8) (n8 := ρ 13) (n9 := ρ 10) (n10 := ρ 12) (n11 := ρ 18) (n12 := ρ 15) (n13 := ρ 17) (n14 := ρ 27) (H0 := η 0) (H1 := η 1) (H2 := η 2) (H3 := η 3) f7 f6 f5 f4 f3 f2 f1 f0
def g_239_56_13 : vG := ([(42, [6, 8], [], 0), (91, [8], [], 400)], (91, [6], [], 399))
theorem c_239_56_13 {q0 : Nat} : vOkm T0 (eP e_239 L_239 A_239 mu_239 (some q0)) 2 g_239_56_13 := vOk_inI fun ρ η f0 f1 => q_239_6 (q0 := q0) (n0 := ρ 8) (n1 := ρ 6) (H0 := η 0) f1 f0
def g_239_56_14 : vG := ([(0, [27], [], 0), (1238, [18, 2, 15, 17], [2, 3], 0), (1238, [13, 2, 10, 12], [1, 2], 0), (42, [6, 8], [], 0), (91, [8], [], 400), (5000, [0, 1, 2, 3, 4, 5, 6], [0, 1], 56), (0, [0], [], 285), (0, [2], [], 285)], (4000, [2, 3, 4, 5, 6, 13, 18, 27], [3], 198))
theorem c_239_56_14 {q0 : Nat} : vOkm T0 (eP e_239 L_239 A_239 mu_239 (some q0)) 2 g_239_56_14 := vOk_inI fun ρ η f0 f1 f2 f3 f4 f5 f6 f7 => q_239_7 (q0 := q0) (n0 := ρ 2) (n1 := ρ 0) (n2 := ρ 1) (n3 := ρ 3) (n4 := ρ 4) (n5 := ρ 5) (n6 := ρ 6) (n7 := ρ 8) (n8 := ρ 13) (n9 := ρ 10) (n10 := ρ 12) (n11 := ρ 18) (n12 := ρ 15) (n13 := ρ 17) (n14 := ρ 27) (H0 := η 0) (H1 := η 1) (H2 := η 2) (H3 := η 3) f7 f6 f5 f4 f3 f2 f1 f0
def g_239_56_15 : vG := ([(42, [6, 8], [], 0), (91, [8], [], 400)], (91, [6], [], 399))
theorem c_239_56_15 {q0 : Nat} : vOkm T0 (eP e_239 L_239 A_239 mu_239 (some q0)) 2 g_239_56_15 := vOk_inI fun ρ η f0 f1 => q_239_6 (q0 := q0) (n0 := ρ 8) (n1 := ρ 6) (H0 := η 0) f1 f0
def g_239_56_16 : vG := ([(0, [27], [], 1), (1238, [18, 2, 15, 17], [2, 3], 0), (1238, [13, 2, 10, 12], [1, 2], 0), (42, [6, 8], [], 0), (91, [8], [], 400), (5000, [0, 1, 2, 3, 4, 5, 6], [0, 1], 56), (0, [0], [], 285), (0, [2], [], 285)], (4000, [2, 3, 4, 5, 6, 13, 18, 27], [3], 198))
theorem c_239_56_16 {q0 : Nat} : vOkm T0 (eP e_239 L_239 A_239 mu_239 (some q0)) 2 g_239_56_16 := vOk_inI fun ρ η f0 f1 f2 f3 f4 f5 f6 f7 => q_239_8 (q0 := q0) (n0 := ρ 2) (n1 := ρ 0) (n2 := ρ 1) (n3 := ρ 3) (n4 := ρ 4) (n5 := ρ 5) (n6 := ρ 6) (n7 := ρ 8) (n8 := ρ 13) (n9 := ρ 10) (n10 := ρ 12) (n11 := ρ 18) (n12 := ρ 15) (n13 := ρ 17) (n14 := ρ 27) (H0 := η 0) (H1 := η 1) (H2 := η 2) (H3 := η 3) f7 f6 f5 f4 f3 f2 f1 f0
def g_239_56_17 : vG := ([(42, [6, 8], [], 0), (91, [8], [], 400)], (91, [6], [], 399))
theorem c_239_56_17 {q0 : Nat} : vOkm T0 (eP e_239 L_239 A_239 mu_239 (some q0)) 2 g_239_56_17 := vOk_inI fun ρ η f0 f1 => q_239_6 (q0 := q0) (n0 := ρ 8) (n1 := ρ 6) (H0 := η 0) f1 f0
def g_239_56_18 : vG := ([(0, [24], [], 0), (1238, [18, 2, 15, 17], [2, 3], 0), (1238, [13, 2, 10, 12], [1, 2], 0), (42, [6, 8], [], 0), (91, [8], [], 400), (5000, [0, 1, 2, 3, 4, 5, 6], [0, 1], 56), (0, [0], [], 285), (0, [2], [], 285)], (4000, [2, 3, 4, 5, 6, 13, 18, 24], [3], 198))
theorem c_239_56_18 {q0 : Nat} : vOkm T0 (eP e_239 L_239 A_239 mu_239 (some q0)) 2 g_239_56_18 := vOk_inI fun ρ η f0 f1 f2 f3 f4 f5 f6 f7 => q_239_7 (q0 := q0) (n0 := ρ 2) (n1 := ρ 0) (n2 := ρ 1) (n3 := ρ 3) (n4 := ρ 4) (n5 := ρ 5) (n6 := ρ 6) (n7 := ρ 8) (n8 := ρ 13) (n9 := ρ 10) (n10 := ρ 12) (n11 := ρ 18) (n12 := ρ 15) (n13 := ρ 17) (n14 := ρ 24) (H0 := η 0) (H1 := η 1) (H2 := η 2) (H3 := η 3) f7 f6 f5 f4 f3 f2 f1 f0
def g_239_56_19 : vG := ([(42, [6, 8], [], 0), (91, [8], [], 400)], (91, [6], [], 399))
theorem c_239_56_19 {q0 : Nat} : vOkm T0 (eP e_239 L_239 A_239 mu_239 (some q0)) 2 g_239_56_19 := vOk_inI fun ρ η f0 f1 => q_239_6 (q0 := q0) (n0 := ρ 8) (n1 := ρ 6) (H0 := η 0) f1 f0
def g_239_56_20 : vG := ([(0, [24], [], 1), (1238, [18, 2, 15, 17], [2, 3], 0), (1238, [13, 2, 10, 12], [1, 2], 0), (42, [6, 8], [], 0), (91, [8], [], 400), (5000, [0, 1, 2, 3, 4, 5, 6], [0, 1], 56), (0, [0], [], 285), (0, [2], [], 285)], (4000, [2, 3, 4, 5, 6, 13, 18, 24], [3], 198))
theorem c_239_56_20 {q0 : Nat} : vOkm T0 (eP e_239 L_239 A_239 mu_239 (some q0)) 2 g_239_56_20 := vOk_inI fun ρ η f0 f1 f2 f3 f4 f5 f6 f7 => q_239_8 (q0 := q0) (n0 := ρ 2) (n1 := ρ 0) (n2 := ρ 1) (n3 := ρ 3) (n4 := ρ 4) (n5 := ρ 5) (n6 := ρ 6) (n7 := ρ 8) (n8 := ρ 13) (n9 := ρ 10) (n10 := ρ 12) (n11 := ρ 18) (n12 := ρ 15) (n13 := ρ 17) (n14 := ρ 24) (H0 := η 0) (H1 := η 1) (H2 := η 2) (H3 := η 3) f7 f6 f5 f4 f3 f2 f1 f0
def g_239_56_21 : vG := ([(42, [6, 8], [], 0), (91, [8], [], 400)], (91, [6], [], 399))
theorem c_239_56_21 {q0 : Nat} : vOkm T0 (eP e_239 L_239 A_239 mu_239 (some q0)) 2 g_239_56_21 := vOk_inI fun ρ η f0 f1 => q_239_6 (q0 := q0) (n0 := ρ 8) (n1 := ρ 6) (H0 := η 0) f1 f0
def g_239_56_22 : vG := ([(0, [21], [], 0), (1238, [18, 2, 15, 17], [2, 3], 0), (1238, [13, 2, 10, 12], [1, 2], 0), (42, [6, 8], [], 0), (91, [8], [], 400), (5000, [0, 1, 2, 3, 4, 5, 6], [0, 1], 56), (0, [0], [], 285), (0, [2], [], 285)], (4000, [2, 3, 4, 5, 6, 13, 18, 21], [3], 198))
theorem c_239_56_22 {q0 : Nat} : vOkm T0 (eP e_239 L_239 A_239 mu_239 (some q0)) 2 g_239_56_22 := vOk_inI fun ρ η f0 f1 f2 f3 f4 f5 f6 f7 => q_239_7 (q0 := q0) (n0 := ρ 2) (n1 := ρ 0) (n2 := ρ 1) (n3 := ρ 3) (n4 := ρ 4) (n5 := ρ 5) (n6 := ρ 6) (n7 := ρ 8) (n8 := ρ 13) (n9 := ρ 10) (n10 := ρ 12) (n11 := ρ 18) (n12 := ρ 15) (n13 := ρ 17) (n14 := ρ 21) (H0 := η 0) (H1 := η 1) (H2 := η 2) (H3 := η 3) f7 f6 f5 f4 f3 f2 f1 f0
def g_239_56_23 : vG := ([(42, [6, 8], [], 0), (91, [8], [], 400)], (91, [6], [], 399))
theorem c_239_56_23 {q0 : Nat} : vOkm T0 (eP e_239 L_239 A_239 mu_239 (some q0)) 2 g_239_56_23 := vOk_inI fun ρ η f0 f1 => q_239_6 (q0 := q0) (n0 := ρ 8) (n1 := ρ 6) (H0 := η 0) f1 f0
def g_239_56_24 : vG := ([(0, [21], [], 1), (1238, [18, 2, 15, 17], [2, 3], 0), (1238, [13, 2, 10, 12], [1, 2], 0), (42, [6, 8], [], 0), (91, [8], [], 400), (5000, [0, 1, 2, 3, 4, 5, 6], [0, 1], 56), (0, [0], [], 285), (0, [2], [], 285)], (4000, [2, 3, 4, 5, 6, 13, 18, 21], [3], 198))
theorem c_239_56_24 {q0 : Nat} : vOkm T0 (eP e_239 L_239 A_239 mu_239 (some q0)) 2 g_239_56_24 := vOk_inI fun ρ η f0 f1 f2 f3 f4 f5 f6 f7 => q_239_8 (q0 := q0) (n0 := ρ 2) (n1 := ρ 0) (n2 := ρ 1) (n3 := ρ 3) (n4 := ρ 4) (n5 := ρ 5) (n6 := ρ 6) (n7 := ρ 8) (n8 := ρ 13) (n9 := ρ 10) (n10 := ρ 12) (n11 := ρ 18) (n12 := ρ 15) (n13 := ρ 17) (n14 := ρ 21) (H0 := η 0) (H1 := η 1) (H2 := η 2) (H3 := η 3) f7 f6 f5 f4 f3 f2 f1 f0
def p_239_56 : List vG := [g_239_56_0,
  g_239_56_1,
  g_239_56_2,
  g_239_56_3,
  g_239_56_4,
  g_239_56_5,
  g_239_56_6,
  g_239_56_7,
  g_239_56_8,
  g_239_56_9,
  g_239_56_10,
  g_239_56_11,
  g_239_56_12,
  g_239_56_13,
  g_239_56_14,
  g_239_56_15,
  g_239_56_16,
  g_239_56_17,
  g_239_56_18,
  g_239_56_19,
  g_239_56_20,
  g_239_56_21,
  g_239_56_22,
  g_239_56_23,
  g_239_56_24]
theorem r_239_56 : vCovO true (eRc e_239 L_239 cs_239 2000 (56, [(0, (3, 12, 285, 0)), (1, (0, 0, 23, 0)), (2, (0, 0, 1, 0)), (3, (0, 0, 1, 0)), (4, (0, 0, 400, 0))])) p_239_56 = true := by decide +kernel
theorem q_239_9 {q0 : Nat} {n0 n1 n2 n3 n4 n5 n6 n7 n8 n9 : Int} {H0 H1 : gH} (f0 : n0 ≤ 399) (f1 : n1 = 285) (f2 : n2 = 285) (f3 : (hLe T0 H0 H1 ∧ hFr s_239.2.2.2.2 H0 H1 ∧ hWt T0 H1) ∧ (Ab_239_198 n2 n3 n1 n4 n5 n6 n0 n7 n8 n9 H0 H1 ∧ preb_239 n2 n3 H0) ∧ some q0 = some (mub_239_198 n2 n3 n1 n4 n5 n6 n0 n7 n8 n9 H0 H1)) : Ab_239_224 n2 n3 n1 n4 n5 n6 n0 n7 n8 n9 H0 H1 ∧ ∀ q, some q0 = some q → mub_239_224 n2 n3 n1 n4 n5 n6 n0 n7 n8 n9 H0 H1 < q := by
  have g4 := f3.2.1.1
  unfold Ab_239_198 at g4
  have g3 := f3.2.1.2
  unfold preb_239 at g3
  have g5 := Option.some.inj f3.2.2
  unfold mub_239_198 at g5
  unfold Ab_239_224
  unfold mub_239_224
  have e2 : hV H1 310 = hV H0 310 := fRow f3.1.2.1 310 kR_239_310
  have e3 : (0 : Int) ≤ hV H0 285 34 ∧ hV H0 285 34 ≤ 1 := bTo ((f3.1.2.1.1 285 34 kF_239_285_34)) (f3.1.2.2 285 34 _ _ kW_285_34)
  try simp only [e2]
  have k0 := g4.1
  have y0 := g4.2
  have p0 := g3.1
  have p1 := g3.2.1
  have p2 := g3.2.2.1
  have p3 := g3.2.2.2
  try simp only [e2] at y0
  clear g3
  clear g4
  clear e2
  clear f3
  try subst k0
  refine ⟨?_, fun q hq => ?_⟩
  · refine ⟨?_, ?_⟩ <;> first | assumption | omega | trivial
  · have g6 := Option.some.inj hq
    subst g6
    omega
def g_239_198_0 : vG := ([(5000, [0, 1, 2, 3, 4, 5, 6, 7, 8, 9], [0, 1], 198), (0, [0], [], 285), (0, [2], [], 285), (91, [6], [], 399)], (4000, [2, 3, 4, 5, 6, 7, 8, 9], [1], 224))
theorem c_239_198_0 {q0 : Nat} : vOkm T0 (eP e_239 L_239 A_239 mu_239 (some q0)) 2 g_239_198_0 := vOk_inI fun ρ η f0 f1 f2 f3 => q_239_9 (q0 := q0) (n0 := ρ 6) (n1 := ρ 2) (n2 := ρ 0) (n3 := ρ 1) (n4 := ρ 3) (n5 := ρ 4) (n6 := ρ 5) (n7 := ρ 7) (n8 := ρ 8) (n9 := ρ 9) (H0 := η 0) (H1 := η 1) f3 f2 f1 f0
theorem q_239_10 {q0 : Nat} {n0 n1 n2 n3 n4 n5 n6 n7 n8 n9 n10 n11 : Int} {H0 H1 : gH} (f0 : n0 ≤ 399) (f1 : n1 = 285) (f2 : n2 = 285) (f3 : (hLe T0 H0 H1 ∧ hFr s_239.2.2.2.2 H0 H1 ∧ hWt T0 H1) ∧ (Ab_239_198 n2 n3 n1 n4 n5 n6 n0 n7 n8 n9 H0 H1 ∧ preb_239 n2 n3 H0) ∧ some q0 = some (mub_239_198 n2 n3 n1 n4 n5 n6 n0 n7 n8 n9 H0 H1)) (f4 : n10 = 1) (f5 : n11 = 1) : Ab_239_224 n2 n3 n1 n4 n10 n11 n0 n7 n8 n9 H0 H1 ∧ ∀ q, some q0 = some q → mub_239_224 n2 n3 n1 n4 n10 n11 n0 n7 n8 n9 H0 H1 < q := by
  have g4 := f3.2.1.1
  unfold Ab_239_198 at g4
  have g3 := f3.2.1.2
  unfold preb_239 at g3
  have g5 := Option.some.inj f3.2.2
  unfold mub_239_198 at g5
  unfold Ab_239_224
  unfold mub_239_224
  have e2 : hV H1 310 = hV H0 310 := fRow f3.1.2.1 310 kR_239_310
  have e3 : (0 : Int) ≤ hV H0 285 34 ∧ hV H0 285 34 ≤ 1 := bTo ((f3.1.2.1.1 285 34 kF_239_285_34)) (f3.1.2.2 285 34 _ _ kW_285_34)
  try simp only [e2]
  have k0 := g4.1
  have y0 := g4.2
  have p0 := g3.1
  have p1 := g3.2.1
  have p2 := g3.2.2.1
  have p3 := g3.2.2.2
  try simp only [e2] at y0
  clear g3
  clear g4
  clear e2
  clear f3
  try subst k0
  refine ⟨?_, fun q hq => ?_⟩
  · refine ⟨?_, ?_⟩ <;> first | assumption | omega | trivial
  · have g6 := Option.some.inj hq
    subst g6
    omega
def g_239_198_1 : vG := ([(0, [13], [], 1), (0, [12], [], 1), (5000, [0, 1, 2, 3, 4, 5, 6, 7, 8, 9], [0, 1], 198), (0, [0], [], 285), (0, [2], [], 285), (91, [6], [], 399)], (4000, [2, 3, 12, 13, 6, 7, 8, 9], [1], 224))
theorem c_239_198_1 {q0 : Nat} : vOkm T0 (eP e_239 L_239 A_239 mu_239 (some q0)) 2 g_239_198_1 := vOk_inI fun ρ η f0 f1 f2 f3 f4 f5 => q_239_10 (q0 := q0) (n0 := ρ 6) (n1 := ρ 2) (n2 := ρ 0) (n3 := ρ 1) (n4 := ρ 3) (n5 := ρ 4) (n6 := ρ 5) (n7 := ρ 7) (n8 := ρ 8) (n9 := ρ 9) (n10 := ρ 12) (n11 := ρ 13) (H0 := η 0) (H1 := η 1) f5 f4 f3 f2 f1 f0
theorem q_239_11 {q0 : Nat} {n0 n1 n2 n3 n4 n5 n6 n7 n8 n9 n10 n11 : Int} {H0 H1 : gH} (f0 : n0 ≤ 399) (f1 : n1 = 285) (f2 : n2 = 285) (f3 : (hLe T0 H0 H1 ∧ hFr s_239.2.2.2.2 H0 H1 ∧ hWt T0 H1) ∧ (Ab_239_198 n2 n3 n1 n4 n5 n6 n0 n7 n8 n9 H0 H1 ∧ preb_239 n2 n3 H0) ∧ some q0 = some (mub_239_198 n2 n3 n1 n4 n5 n6 n0 n7 n8 n9 H0 H1)) (f4 : n10 = 0) (f5 : n11 = 1) : Ab_239_224 n2 n3 n1 n4 n10 n11 n0 n7 n8 n9 H0 H1 ∧ ∀ q, some q0 = some q → mub_239_224 n2 n3 n1 n4 n10 n11 n0 n7 n8 n9 H0 H1 < q := by
  have g4 := f3.2.1.1
  unfold Ab_239_198 at g4
  have g3 := f3.2.1.2
  unfold preb_239 at g3
  have g5 := Option.some.inj f3.2.2
  unfold mub_239_198 at g5
  unfold Ab_239_224
  unfold mub_239_224
  have e2 : hV H1 310 = hV H0 310 := fRow f3.1.2.1 310 kR_239_310
  have e3 : (0 : Int) ≤ hV H0 285 34 ∧ hV H0 285 34 ≤ 1 := bTo ((f3.1.2.1.1 285 34 kF_239_285_34)) (f3.1.2.2 285 34 _ _ kW_285_34)
  try simp only [e2]
  have k0 := g4.1
  have y0 := g4.2
  have p0 := g3.1
  have p1 := g3.2.1
  have p2 := g3.2.2.1
  have p3 := g3.2.2.2
  try simp only [e2] at y0
  clear g3
  clear g4
  clear e2
  clear f3
  try subst k0
  refine ⟨?_, fun q hq => ?_⟩
  · refine ⟨?_, ?_⟩ <;> first | assumption | omega | trivial
  · have g6 := Option.some.inj hq
    subst g6
    omega
def g_239_198_2 : vG := ([(0, [13], [], 1), (0, [12], [], 0), (5000, [0, 1, 2, 3, 4, 5, 6, 7, 8, 9], [0, 1], 198), (0, [0], [], 285), (0, [2], [], 285), (91, [6], [], 399)], (4000, [2, 3, 12, 13, 6, 7, 8, 9], [1], 224))
theorem c_239_198_2 {q0 : Nat} : vOkm T0 (eP e_239 L_239 A_239 mu_239 (some q0)) 2 g_239_198_2 := vOk_inI fun ρ η f0 f1 f2 f3 f4 f5 => q_239_11 (q0 := q0) (n0 := ρ 6) (n1 := ρ 2) (n2 := ρ 0) (n3 := ρ 1) (n4 := ρ 3) (n5 := ρ 4) (n6 := ρ 5) (n7 := ρ 7) (n8 := ρ 8) (n9 := ρ 9) (n10 := ρ 12) (n11 := ρ 13) (H0 := η 0) (H1 := η 1) f5 f4 f3 f2 f1 f0
def g_239_198_3 : vG := ([(0, [13], [], 1), (0, [12], [], 1), (5000, [0, 1, 2, 3, 4, 5, 6, 7, 8, 9], [0, 1], 198), (0, [0], [], 285), (0, [2], [], 285), (91, [6], [], 399)], (4000, [2, 3, 12, 13, 6, 7, 8, 9], [1], 224))
theorem c_239_198_3 {q0 : Nat} : vOkm T0 (eP e_239 L_239 A_239 mu_239 (some q0)) 2 g_239_198_3 := vOk_inI fun ρ η f0 f1 f2 f3 f4 f5 => q_239_10 (q0 := q0) (n0 := ρ 6) (n1 := ρ 2) (n2 := ρ 0) (n3 := ρ 1) (n4 := ρ 3) (n5 := ρ 4) (n6 := ρ 5) (n7 := ρ 7) (n8 := ρ 8) (n9 := ρ 9) (n10 := ρ 12) (n11 := ρ 13) (H0 := η 0) (H1 := η 1) f5 f4 f3 f2 f1 f0
def p_239_198 : List vG := [g_239_198_0,
  g_239_198_1,
  g_239_198_2,
  g_239_198_3]
theorem r_239_198 : vCovO true (eRc e_239 L_239 cs_239 2000 (198, [(0, (3, 12, 285, 0)), (1, (0, 0, 23, 0)), (2, (0, 0, 1, 0)), (3, (0, 0, 1, 0)), (4, (0, 0, 399, 0)), (5, (0, -2147483648, 2147483647, 0)), (6, (0, -2147483648, 2147483647, 0)), (7, (0, 0, 1, 0))])) p_239_198 = true := by decide +kernel
theorem q_239_12 {q0 : Nat} {n0 n1 : Int} {H0 : gH} (f0 : n0 ≤ 399) (f1 : 0 ≤ n0) (f2 : n1 = w32 (n0 + 1)) : 0 ≤ n1 := by
  first
  | (have ix0 : n1 = n0 + 1 := Eq.trans f2 (w32_iv (Iad (Iat f1 f0) (IC 1)) (by decide)); subst ix0; clear f2)
  | (have ix0 : n1 = n0 + 1 := Eq.trans f2 (w32_id (by omega) (by omega)); subst ix0; clear f2)
  | (unfold w32 at f2; have ix0 : n1 = n0 + 1 := (by omega); subst ix0)
  | skip
  try unfold w32 at f2
  omega
def g_239_224_0 : vG := ([(10, [11, 6], [], 1), (90, [6], [], 0), (91, [6], [], 399)], (90, [11], [], 0))
theorem c_239_224_0 {q0 : Nat} : vOkm T0 (eP e_239 L_239 A_239 mu_239 (some q0)) 2 g_239_224_0 := vOk_inI fun ρ η f0 f1 f2 => q_239_12 (q0 := q0) (n0 := ρ 6) (n1 := ρ 11) (H0 := η 0) f2 f1 f0
theorem q_239_13 {q0 : Nat} {n0 n1 : Int} {H0 : gH} (f0 : n0 ≤ 399) (f1 : 0 ≤ n0) (f2 : n1 = w32 (n0 + 1)) : n1 ≤ 400 := by
  first
  | (have ix0 : n1 = n0 + 1 := Eq.trans f2 (w32_iv (Iad (Iat f1 f0) (IC 1)) (by decide)); subst ix0; clear f2)
  | (have ix0 : n1 = n0 + 1 := Eq.trans f2 (w32_id (by omega) (by omega)); subst ix0; clear f2)
  | (unfold w32 at f2; have ix0 : n1 = n0 + 1 := (by omega); subst ix0)
  | skip
  try unfold w32 at f2
  omega
def g_239_224_1 : vG := ([(10, [11, 6], [], 1), (90, [6], [], 0), (91, [6], [], 399)], (91, [11], [], 400))
theorem c_239_224_1 {q0 : Nat} : vOkm T0 (eP e_239 L_239 A_239 mu_239 (some q0)) 2 g_239_224_1 := vOk_inI fun ρ η f0 f1 f2 => q_239_13 (q0 := q0) (n0 := ρ 6) (n1 := ρ 11) (H0 := η 0) f2 f1 f0
theorem q_239_14 {q0 : Nat} {n0 n1 n2 n3 n4 n5 n6 n7 n8 n9 n10 n11 : Int} {H0 H1 : gH} (f0 : n0 ≤ 399) (f1 : 0 ≤ n0) (f2 : n1 = 285) (f3 : n2 = 285) (f4 : (hLe T0 H0 H1 ∧ hFr s_239.2.2.2.2 H0 H1 ∧ hWt T0 H1) ∧ (Ab_239_224 n2 n3 n1 n4 n5 n6 n0 n7 n8 n9 H0 H1 ∧ preb_239 n2 n3 H0) ∧ some q0 = some (mub_239_224 n2 n3 n1 n4 n5 n6 n0 n7 n8 n9 H0 H1)) (f5 : n10 = 0) (f6 : n11 = w32 (n0 + 1)) : Ab_239_56 n2 n3 n1 n4 n5 n10 n11 H0 H1 ∧ ∀ q, some q0 = some q → mub_239_56 n2 n3 n1 n4 n5 n10 n11 H0 H1 < q := by
  have g4 := f4.2.1.1
  unfold Ab_239_224 at g4
  have g3 := f4.2.1.2
  unfold preb_239 at g3
  have g5 := Option.some.inj f4.2.2
  unfold mub_239_224 at g5
  unfold Ab_239_56
  unfold mub_239_56
  have e2 : hV H1 310 = hV H0 310 := fRow f4.1.2.1 310 kR_239_310
  have e3 : (0 : Int) ≤ hV H0 285 34 ∧ hV H0 285 34 ≤ 1 := bTo ((f4.1.2.1.1 285 34 kF_239_285_34)) (f4.1.2.2 285 34 _ _ kW_285_34)
  try simp only [e2]
  have k0 := g4.1
  have y0 := g4.2
  have p0 := g3.1
  have p1 := g3.2.1
  have p2 := g3.2.2.1
  have p3 := g3.2.2.2
  try simp only [e2] at y0
  clear g3
  clear g4
  clear e2
  clear f4
  first
  | (have ix0 : n11 = n0 + 1 := Eq.trans f6 (w32_iv (Iad (Iat f1 f0) (IC 1)) (by decide)); subst ix0; clear f6)
  | (have ix0 : n11 = n0 + 1 := Eq.trans f6 (w32_id (by omega) (by omega)); subst ix0; clear f6)
  | (unfold w32 at f6; have ix0 : n11 = n0 + 1 := (by omega); subst ix0)
  | skip
  try unfold w32 at f6
  try subst k0
  refine ⟨?_, fun q hq => ?_⟩
  · refine ⟨?_, ?_⟩ <;> first | assumption | omega | trivial
  · have g6 := Option.some.inj hq
    subst g6
    omega
def g_239_224_2 : vG := ([(10, [11, 6], [], 1), (0, [10], [], 0), (5000, [0, 1, 2, 3, 4, 5, 6, 7, 8, 9], [0, 1], 224), (0, [0], [], 285), (0, [2], [], 285), (90, [6], [], 0), (91, [6], [], 399)], (4000, [2, 3, 4, 10, 11], [1], 56))
theorem c_239_224_2 {q0 : Nat} : vOkm T0 (eP e_239 L_239 A_239 mu_239 (some q0)) 2 g_239_224_2 := vOk_inI fun ρ η f0 f1 f2 f3 f4 f5 f6 => q_239_14 (q0 := q0) (n0 := ρ 6) (n1 := ρ 2) (n2 := ρ 0) (n3 := ρ 1) (n4 := ρ 3) (n5 := ρ 4) (n6 := ρ 5) (n7 := ρ 7) (n8 := ρ 8) (n9 := ρ 9) (n10 := ρ 10) (n11 := ρ 11) (H0 := η 0) (H1 := η 1) f6 f5 f4 f3 f2 f1 f0
def g_239_224_3 : vG := ([(10, [13, 6], [], 1), (90, [6], [], 0), (91, [6], [], 399)], (90, [13], [], 0))
theorem c_239_224_3 {q0 : Nat} : vOkm T0 (eP e_239 L_239 A_239 mu_239 (some q0)) 2 g_239_224_3 := vOk_inI fun ρ η f0 f1 f2 => q_239_12 (q0 := q0) (n0 := ρ 6) (n1 := ρ 13) (H0 := η 0) f2 f1 f0
def g_239_224_4 : vG := ([(10, [13, 6], [], 1), (90, [6], [], 0), (91, [6], [], 399)], (91, [13], [], 400))
theorem c_239_224_4 {q0 : Nat} : vOkm T0 (eP e_239 L_239 A_239 mu_239 (some q0)) 2 g_239_224_4 := vOk_inI fun ρ η f0 f1 f2 => q_239_13 (q0 := q0) (n0 := ρ 6) (n1 := ρ 13) (H0 := η 0) f2 f1 f0
def g_239_224_5 : vG := ([(10, [13, 6], [], 1), (0, [12], [], 0), (5000, [0, 1, 2, 3, 4, 5, 6, 7, 8, 9], [0, 1], 224), (0, [0], [], 285), (0, [2], [], 285), (90, [6], [], 0), (91, [6], [], 399)], (4000, [2, 3, 4, 12, 13], [1], 56))
theorem c_239_224_5 {q0 : Nat} : vOkm T0 (eP e_239 L_239 A_239 mu_239 (some q0)) 2 g_239_224_5 := vOk_inI fun ρ η f0 f1 f2 f3 f4 f5 f6 => q_239_14 (q0 := q0) (n0 := ρ 6) (n1 := ρ 2) (n2 := ρ 0) (n3 := ρ 1) (n4 := ρ 3) (n5 := ρ 4) (n6 := ρ 5) (n7 := ρ 7) (n8 := ρ 8) (n9 := ρ 9) (n10 := ρ 12) (n11 := ρ 13) (H0 := η 0) (H1 := η 1) f6 f5 f4 f3 f2 f1 f0
def g_239_224_6 : vG := ([(10, [13, 6], [], 1), (90, [6], [], 0), (91, [6], [], 399)], (90, [13], [], 0))
theorem c_239_224_6 {q0 : Nat} : vOkm T0 (eP e_239 L_239 A_239 mu_239 (some q0)) 2 g_239_224_6 := vOk_inI fun ρ η f0 f1 f2 => q_239_12 (q0 := q0) (n0 := ρ 6) (n1 := ρ 13) (H0 := η 0) f2 f1 f0
def g_239_224_7 : vG := ([(10, [13, 6], [], 1), (90, [6], [], 0), (91, [6], [], 399)], (91, [13], [], 400))
theorem c_239_224_7 {q0 : Nat} : vOkm T0 (eP e_239 L_239 A_239 mu_239 (some q0)) 2 g_239_224_7 := vOk_inI fun ρ η f0 f1 f2 => q_239_13 (q0 := q0) (n0 := ρ 6) (n1 := ρ 13) (H0 := η 0) f2 f1 f0
theorem q_239_15 {q0 : Nat} {n0 n1 n2 n3 n4 n5 n6 n7 n8 n9 n10 n11 : Int} {H0 H1 : gH} (f0 : n0 ≤ 399) (f1 : 0 ≤ n0) (f2 : n1 = 285) (f3 : n2 = 285) (f4 : (hLe T0 H0 H1 ∧ hFr s_239.2.2.2.2 H0 H1 ∧ hWt T0 H1) ∧ (Ab_239_224 n2 n3 n1 n4 n5 n6 n0 n7 n8 n9 H0 H1 ∧ preb_239 n2 n3 H0) ∧ some q0 = some (mub_239_224 n2 n3 n1 n4 n5 n6 n0 n7 n8 n9 H0 H1)) (f5 : n10 = 1) (f6 : n11 = w32 (n0 + 1)) : Ab_239_56 n2 n3 n1 n4 n5 n10 n11 H0 H1 ∧ ∀ q, some q0 = some q → mub_239_56 n2 n3 n1 n4 n5 n10 n11 H0 H1 < q := by
  have g4 := f4.2.1.1
  unfold Ab_239_224 at g4
  have g3 := f4.2.1.2
  unfold preb_239 at g3
  have g5 := Option.some.inj f4.2.2
  unfold mub_239_224 at g5
  unfold Ab_239_56
  unfold mub_239_56
  have e2 : hV H1 310 = hV H0 310 := fRow f4.1.2.1 310 kR_239_310
  have e3 : (0 : Int) ≤ hV H0 285 34 ∧ hV H0 285 34 ≤ 1 := bTo ((f4.1.2.1.1 285 34 kF_239_285_34)) (f4.1.2.2 285 34 _ _ kW_285_34)
  try simp only [e2]
  have k0 := g4.1
  have y0 := g4.2
  have p0 := g3.1
  have p1 := g3.2.1
  have p2 := g3.2.2.1
  have p3 := g3.2.2.2
  try simp only [e2] at y0
  clear g3
  clear g4
  clear e2
  clear f4
  first
  | (have ix0 : n11 = n0 + 1 := Eq.trans f6 (w32_iv (Iad (Iat f1 f0) (IC 1)) (by decide)); subst ix0; clear f6)
  | (have ix0 : n11 = n0 + 1 := Eq.trans f6 (w32_id (by omega) (by omega)); subst ix0; clear f6)
  | (unfold w32 at f6; have ix0 : n11 = n0 + 1 := (by omega); subst ix0)
  | skip
  try unfold w32 at f6
  try subst k0
  refine ⟨?_, fun q hq => ?_⟩
  · refine ⟨?_, ?_⟩ <;> first | assumption | omega | trivial
  · have g6 := Option.some.inj hq
    subst g6
    omega
def g_239_224_8 : vG := ([(10, [13, 6], [], 1), (0, [12], [], 1), (5000, [0, 1, 2, 3, 4, 5, 6, 7, 8, 9], [0, 1], 224), (0, [0], [], 285), (0, [2], [], 285), (90, [6], [], 0), (91, [6], [], 399)], (4000, [2, 3, 4, 12, 13], [1], 56))
theorem c_239_224_8 {q0 : Nat} : vOkm T0 (eP e_239 L_239 A_239 mu_239 (some q0)) 2 g_239_224_8 := vOk_inI fun ρ η f0 f1 f2 f3 f4 f5 f6 => q_239_15 (q0 := q0) (n0 := ρ 6) (n1 := ρ 2) (n2 := ρ 0) (n3 := ρ 1) (n4 := ρ 3) (n5 := ρ 4) (n6 := ρ 5) (n7 := ρ 7) (n8 := ρ 8) (n9 := ρ 9) (n10 := ρ 12) (n11 := ρ 13) (H0 := η 0) (H1 := η 1) f6 f5 f4 f3 f2 f1 f0
def p_239_224 : List vG := [g_239_224_0,
  g_239_224_1,
  g_239_224_2,
  g_239_224_3,
  g_239_224_4,
  g_239_224_5,
  g_239_224_6,
  g_239_224_7,
  g_239_224_8]
theorem r_239_224 : vCovO true (eRc e_239 L_239 cs_239 2000 (224, [(0, (3, 12, 285, 0)), (1, (0, 0, 23, 0)), (2, (0, 0, 1, 0)), (3, (0, 0, 1, 0)), (4, (0, 0, 399, 0)), (5, (0, -2147483648, 2147483647, 0)), (6, (0, -2147483648, 2147483647, 0)), (7, (0, 0, 1, 0))])) p_239_224 = true := by decide +kernel
theorem m_239 (d : Nat) : eC e_239 (d + 2) := eC_ok (e := e_239) (L := L_239) (cs := cs_239) (n := 2000) (d := d + 1) (A := A_239) (μ := mu_239) (tp := true) (p0 := p_239_s) rfl ⟨m_238 d, trivial⟩ rfl (.inl rfl) (by decide +kernel) (fun _ => post0_ok) r_239_s (allC c_239_s_0 (allC c_239_s_1 (allC c_239_s_2 allN))) (allC (.inl ⟨p_239_56, r_239_56, fun q0 => (allC c_239_56_0 (allC c_239_56_1 (allC c_239_56_2 (allC c_239_56_3 (allC c_239_56_4 (allC c_239_56_5 (allC c_239_56_6 (allC c_239_56_7 (allC c_239_56_8 (allC c_239_56_9 (allC c_239_56_10 (allC c_239_56_11 (allC c_239_56_12 (allC c_239_56_13 (allC c_239_56_14 (allC c_239_56_15 (allC c_239_56_16 (allC c_239_56_17 (allC c_239_56_18 (allC c_239_56_19 (allC c_239_56_20 (allC c_239_56_21 (allC c_239_56_22 (allC c_239_56_23 (allC c_239_56_24 allN)))))))))))))))))))))))))⟩) (allC (.inl ⟨p_239_198, r_239_198, fun q0 => (allC c_239_198_0 (allC c_239_198_1 (allC c_239_198_2 (allC c_239_198_3 allN))))⟩) (allC (.inl ⟨p_239_224, r_239_224, fun q0 => (allC c_239_224_0 (allC c_239_224_1 (allC c_239_224_2 (allC c_239_224_3 (allC c_239_224_4 (allC c_239_224_5 (allC c_239_224_6 (allC c_239_224_7 (allC c_239_224_8 allN)))))))))⟩) allN)))
