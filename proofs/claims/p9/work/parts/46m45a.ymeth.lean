/-! CONTRACTS of methods (printed by wip/gen/emit.py). -/
/- MixStageModel.atOf (I)I -/
noncomputable def s_271 : vM := ([(3, 12, 285, 0), (0, 0, 39, 0)], (0, -10999, 10999, 0), 1, 0, [])
def preb_271 (a0 a1 : Int) (h : gH) : Prop := a1 < hV h 285 82 ∧ XQ h ∧ hV h 298 ((hV h 344 ((a1).toNat)).toNat) < 2
def pre_271 : List Int → gH → Prop := fun xs h => match xs with
  | [a0, a1] => preb_271 a0 a1 h
  | _ => False
noncomputable def e_271 : vE := (271, s_271, pre_271, post0)
noncomputable def L_271 : List vE := [e_269]
def cs_271 : List vC := []
def A_271 : Int → List Int → gH → gH → Prop := fun c xs h0 h => True
def mu_271 : Int → List Int → gH → gH → Nat := fun c xs h0 h => 0
theorem q_271_0 {n0 n1 n2 n3 n4 n5 n6 n7 n8 n9 : Int} {H0 : gH} (f0 : n0 ≤ 39) (f1 : 0 ≤ n0) (f2 : n1 = 285) (f3 : hWt T0 H0 ∧ preb_271 n1 n0 H0) (f4 : n2 = 301) (f5 : n2 = hV H0 (n1).toNat 27) (f6 : n3 = 344) (f7 : n3 = hV H0 (n1).toNat 83) (f8 : n4 ≤ 1007) (f9 : 0 ≤ n4) (f10 : n4 = hV H0 (n3).toNat (n0).toNat) (f11 : n5 ≤ 9999) (f12 : (-1) ≤ n5) (f13 : n5 = hV H0 (n2).toNat (n4).toNat) (f14 : n6 = 302) (f15 : n6 = hV H0 (n1).toNat 28) (f16 : n7 = 344) (f17 : n7 = hV H0 (n1).toNat 83) (f18 : n8 ≤ 1007) (f19 : 0 ≤ n8) (f20 : n8 = hV H0 (n7).toNat (n0).toNat) (f21 : n9 ≤ 9999) (f22 : (-9999) ≤ n9) (f23 : n9 = hV H0 (n6).toNat (n8).toNat) : n5 ≤ 7 := by
  unfold preb_271 at f3
  have e0 : n4 = hV H0 344 (n0).toNat := (by rw [f6] at f10; exact f10 : n4 = hV H0 344 (n0).toNat)
  have e1 : n5 = hV H0 301 (n4).toNat := (by rw [f4] at f13; exact f13 : n5 = hV H0 301 (n4).toNat)
  have e2 : n8 = hV H0 344 (n0).toNat := (by rw [f16] at f20; exact f20 : n8 = hV H0 344 (n0).toNat)
  have e3 : n9 = hV H0 302 (n8).toNat := (by rw [f14] at f23; exact f23 : n9 = hV H0 302 (n8).toNat)
  have e4 : (0 : Int) ≤ hV H0 285 82 ∧ hV H0 285 82 ≤ 40 := f3.1 285 82 _ _ kW_285_82
  have p0 := f3.2.1
  have p1 := f3.2.2.1
  have p2 := f3.2.2.2
  clear f5 f7 f10 f13 f15 f17 f20 f23
  subst e0
  subst e1
  subst e2
  subst e3

  have x := XQ_in p1 (s := (n0).toNat) (by omega)
  omega
theorem c_271_s_0 : vOkm T0 (eP e_271 L_271 A_271 mu_271 none) 2 ([(22, [9, 6, 8], [0], 0), (90, [9], [], -9999), (91, [9], [], 9999), (22, [8, 7, 1], [0], 0), (90, [8], [], 0), (91, [8], [], 1007), (20, [7, 0], [0], 83), (0, [7], [], 344), (20, [6, 0], [0], 28), (0, [6], [], 302), (22, [5, 2, 4], [0], 0), (90, [5], [], -1), (91, [5], [], 9999), (22, [4, 3, 1], [0], 0), (90, [4], [], 0), (91, [4], [], 1007), (20, [3, 0], [0], 83), (0, [3], [], 344), (20, [2, 0], [0], 27), (0, [2], [], 301), (6000, [0, 1], [0], 0), (0, [0], [], 285), (90, [1], [], 0), (91, [1], [], 39)], (91, [5], [], 7)) := vOk_inI fun ρ η f0 f1 f2 f3 f4 f5 f6 f7 f8 f9 f10 f11 f12 f13 f14 f15 f16 f17 f18 f19 f20 f21 f22 f23 => q_271_0 (n0 := ρ 1) (n1 := ρ 0) (n2 := ρ 2) (n3 := ρ 3) (n4 := ρ 4) (n5 := ρ 5) (n6 := ρ 6) (n7 := ρ 7) (n8 := ρ 8) (n9 := ρ 9) (H0 := η 0) f23 f22 f21 f20 f19 f18 f17 f16 f15 f14 f13 f12 f11 f10 f9 f8 f7 f6 f5 f4 f3 f2 f1 f0
def p_271_s : List vG := [([(22, [9, 6, 8], [0], 0), (90, [9], [], -9999), (91, [9], [], 9999), (22, [8, 7, 1], [0], 0), (90, [8], [], 0), (91, [8], [], 1007), (20, [7, 0], [0], 83), (0, [7], [], 344), (20, [6, 0], [0], 28), (0, [6], [], 302), (22, [5, 2, 4], [0], 0), (90, [5], [], -1), (91, [5], [], 9999), (22, [4, 3, 1], [0], 0), (90, [4], [], 0), (91, [4], [], 1007), (20, [3, 0], [0], 83), (0, [3], [], 344), (20, [2, 0], [0], 27), (0, [2], [], 301), (6000, [0, 1], [0], 0), (0, [0], [], 285), (90, [1], [], 0), (91, [1], [], 39)], (91, [5], [], 7))]
theorem r_271_s : vCovO true (eR0 e_271 L_271 cs_271 2000) p_271_s = true := by decide +kernel
theorem m_271 (d : Nat) : eC e_271 (d + 2) := eC_ok (e := e_271) (L := L_271) (cs := cs_271) (n := 2000) (d := d + 1) (A := A_271) (μ := mu_271) (tp := true) (p0 := p_271_s) rfl ⟨m_269 d, trivial⟩ rfl (.inl rfl) (by decide +kernel) (fun _ => post0_ok) r_271_s (allC c_271_s_0 allN) allN
/- MixStageModel.toOf (I)I -/
noncomputable def s_272 : vM := ([(3, 12, 285, 0), (0, 0, 39, 0)], (0, -10999, 10999, 0), 1, 0, [])
def preb_272 (a0 a1 : Int) (h : gH) : Prop := a1 < hV h 285 82 ∧ XQ h ∧ hV h 298 ((hV h 344 ((a1).toNat)).toNat) = 1
def pre_272 : List Int → gH → Prop := fun xs h => match xs with
  | [a0, a1] => preb_272 a0 a1 h
  | _ => False
noncomputable def e_272 : vE := (272, s_272, pre_272, post0)
noncomputable def L_272 : List vE := [e_269]
def cs_272 : List vC := []
def A_272 : Int → List Int → gH → gH → Prop := fun c xs h0 h => True
def mu_272 : Int → List Int → gH → gH → Nat := fun c xs h0 h => 0
theorem q_272_0 {n0 n1 n2 n3 n4 n5 n6 n7 : Int} {H0 : gH} (f0 : n0 ≤ 39) (f1 : 0 ≤ n0) (f2 : n1 = 285) (f3 : hWt T0 H0 ∧ preb_272 n1 n0 H0) (f4 : n2 = 303) (f5 : n2 = hV H0 (n1).toNat 29) (f6 : n3 = 344) (f7 : n3 = hV H0 (n1).toNat 83) (f8 : n4 ≤ 1007) (f9 : 0 ≤ n4) (f10 : n4 = hV H0 (n3).toNat (n0).toNat) (f11 : n5 ≤ 9999) (f12 : (-1) ≤ n5) (f13 : n5 = hV H0 (n2).toNat (n4).toNat) (f14 : n6 = 344) (f15 : n6 = hV H0 (n1).toNat 83) (f16 : n7 ≤ 1007) (f17 : 0 ≤ n7) (f18 : n7 = hV H0 (n6).toNat (n0).toNat) : n5 ≤ 7 := by
  unfold preb_272 at f3
  have e0 : n4 = hV H0 344 (n0).toNat := (by rw [f6] at f10; exact f10 : n4 = hV H0 344 (n0).toNat)
  have e1 : n5 = hV H0 303 (n4).toNat := (by rw [f4] at f13; exact f13 : n5 = hV H0 303 (n4).toNat)
  have e2 : n7 = hV H0 344 (n0).toNat := (by rw [f14] at f18; exact f18 : n7 = hV H0 344 (n0).toNat)
  have e3 : (0 : Int) ≤ hV H0 285 82 ∧ hV H0 285 82 ≤ 40 := f3.1 285 82 _ _ kW_285_82
  have p0 := f3.2.1
  have p1 := f3.2.2.1
  have p2 := f3.2.2.2
  clear f5 f7 f10 f13 f15 f18
  subst e0
  subst e1
  subst e2

  have x := XQ_in p1 (s := (n0).toNat) (by omega)
  omega
theorem c_272_s_0 : vOkm T0 (eP e_272 L_272 A_272 mu_272 none) 2 ([(22, [8, 7, 1], [0], 0), (90, [8], [], 0), (91, [8], [], 1007), (20, [7, 0], [0], 83), (0, [7], [], 344), (22, [5, 2, 4], [0], 0), (90, [5], [], -1), (91, [5], [], 9999), (22, [4, 3, 1], [0], 0), (90, [4], [], 0), (91, [4], [], 1007), (20, [3, 0], [0], 83), (0, [3], [], 344), (20, [2, 0], [0], 29), (0, [2], [], 303), (6000, [0, 1], [0], 0), (0, [0], [], 285), (90, [1], [], 0), (91, [1], [], 39)], (91, [5], [], 7)) := vOk_inI fun ρ η f0 f1 f2 f3 f4 f5 f6 f7 f8 f9 f10 f11 f12 f13 f14 f15 f16 f17 f18 => q_272_0 (n0 := ρ 1) (n1 := ρ 0) (n2 := ρ 2) (n3 := ρ 3) (n4 := ρ 4) (n5 := ρ 5) (n6 := ρ 7) (n7 := ρ 8) (H0 := η 0) f18 f17 f16 f15 f14 f13 f12 f11 f10 f9 f8 f7 f6 f5 f4 f3 f2 f1 f0
def p_272_s : List vG := [([(22, [8, 7, 1], [0], 0), (90, [8], [], 0), (91, [8], [], 1007), (20, [7, 0], [0], 83), (0, [7], [], 344), (22, [5, 2, 4], [0], 0), (90, [5], [], -1), (91, [5], [], 9999), (22, [4, 3, 1], [0], 0), (90, [4], [], 0), (91, [4], [], 1007), (20, [3, 0], [0], 83), (0, [3], [], 344), (20, [2, 0], [0], 29), (0, [2], [], 303), (6000, [0, 1], [0], 0), (0, [0], [], 285), (90, [1], [], 0), (91, [1], [], 39)], (91, [5], [], 7))]
theorem r_272_s : vCovO true (eR0 e_272 L_272 cs_272 2000) p_272_s = true := by decide +kernel
theorem m_272 (d : Nat) : eC e_272 (d + 2) := eC_ok (e := e_272) (L := L_272) (cs := cs_272) (n := 2000) (d := d + 1) (A := A_272) (μ := mu_272) (tp := true) (p0 := p_272_s) rfl ⟨m_269 d, trivial⟩ rfl (.inl rfl) (by decide +kernel) (fun _ => post0_ok) r_272_s (allC c_272_s_0 allN) allN
/- MixStageModel.isThere (II)Z -/
noncomputable def s_273 : vM := ([(3, 12, 285, 0), (0, 0, 39, 0), (0, -2147483648, 2147483647, 0)], (0, 0, 1, 0), 1, 0, [(12, 88), (572, 0)])
def preb_273 (a0 a1 a2 : Int) (h : gH) : Prop := a1 < hV h 285 82 ∧ XQ h ∧ SO h ∧ hV h 298 ((hV h 344 ((a1).toNat)).toNat) = 0
def pre_273 : List Int → gH → Prop := fun xs h => match xs with
  | [a0, a1, a2] => preb_273 a0 a1 a2 h
  | _ => False
def postb_273 (r a0 a1 a2 : Int) (h0 h : gH) : Prop := r ≠ 0 → 0 ≤ hV h 300 ((hV h 344 ((a1).toNat)).toNat) ∧ hV h 300 ((hV h 344 ((a1).toNat)).toNat) < hV h 285 64
def post_273 : List Int → gH → gH → Prop := fun xs h0 h => match xs with
  | [r, a0, a1, a2] => postb_273 r a0 a1 a2 h0 h
  | _ => True
noncomputable def e_273 : vE := (273, s_273, pre_273, post_273)
noncomputable def L_273 : List vE := [e_250, e_265, e_271]
def cs_273 : List vC := [(75, [(0, (3, 12, 285, 0)), (1, (0, 0, 39, 0)), (2, (0, -2147483648, 2147483647, 0)), (3, (0, 0, 1007, 0)), (4, (0, 0, 19, 0)), (5, (0, -2147483648, 2147483647, 0))]), (182, [(0, (3, 12, 285, 0)), (1, (0, 0, 39, 0)), (2, (0, -2147483648, 2147483647, 0)), (3, (0, 0, 1007, 0)), (4, (0, 0, 19, 0)), (5, (0, -2147483648, 2147483647, 0))])]
def Ab_273_75 (a0 a1 a2 x0 x1 x2 x3 x4 x5 : Int) (h0 h : gH) : Prop := x1 = a1 ∧ x2 = a2 ∧ x3 = hV h 344 ((a1).toNat) ∧ x4 = hV h 300 ((x3).toNat) ∧ 0 ≤ x4 ∧ x4 < hV h 285 64
def mub_273_75 (a0 a1 a2 x0 x1 x2 x3 x4 x5 : Int) (h0 h : gH) : Nat := 1
def Ab_273_182 (a0 a1 a2 x0 x1 x2 x3 x4 x5 : Int) (h0 h : gH) : Prop := x1 = a1 ∧ x2 = a2 ∧ x3 = hV h 344 ((a1).toNat) ∧ x4 = hV h 300 ((x3).toNat) ∧ 0 ≤ x4 ∧ x4 < hV h 285 64
def mub_273_182 (a0 a1 a2 x0 x1 x2 x3 x4 x5 : Int) (h0 h : gH) : Nat := 0
def A_273 : Int → List Int → gH → gH → Prop := fun c xs h0 h => match c.toNat with
  | 75 => (match xs with
    | [a0, a1, a2, x0, x1, x2, x3, x4, x5] => Ab_273_75 a0 a1 a2 x0 x1 x2 x3 x4 x5 h0 h
    | _ => False)
  | 182 => (match xs with
    | [a0, a1, a2, x0, x1, x2, x3, x4, x5] => Ab_273_182 a0 a1 a2 x0 x1 x2 x3 x4 x5 h0 h
    | _ => False)
  | _ => True
def mu_273 : Int → List Int → gH → gH → Nat := fun c xs h0 h => match c.toNat with
  | 75 => 1
  | 182 => 0
  | _ => 0
theorem q_273_0 {n0 n1 n2 n3 n4 n5 n6 : Int} {H0 : gH} (f0 : n0 ≤ 2147483647) (f1 : (-2147483648) ≤ n0) (f2 : n1 ≤ 39) (f3 : 0 ≤ n1) (f4 : n2 = 285) (f5 : hWt T0 H0 ∧ preb_273 n2 n1 n0 H0) (f6 : n3 = 344) (f7 : n3 = hV H0 (n2).toNat 83) (f8 : n4 ≤ 1007) (f9 : 0 ≤ n4) (f10 : n4 = hV H0 (n3).toNat (n1).toNat) (f11 : n5 = 300) (f12 : n5 = hV H0 (n2).toNat 26) (f13 : n6 ≤ 9999) (f14 : (-1) ≤ n6) (f15 : n6 = hV H0 (n5).toNat (n4).toNat) : preb_271 n2 n1 H0 := by
  unfold preb_273 at f5
  unfold preb_271
  have e0 : n4 = hV H0 344 (n1).toNat := (by rw [f6] at f10; exact f10 : n4 = hV H0 344 (n1).toNat)
  have e1 : n6 = hV H0 300 (n4).toNat := (by rw [f11] at f15; exact f15 : n6 = hV H0 300 (n4).toNat)
  have e2 : (0 : Int) ≤ hV H0 285 82 ∧ hV H0 285 82 ≤ 40 := f5.1 285 82 _ _ kW_285_82
  have p0 := f5.2.1
  have p1 := f5.2.2.1
  have p2 := f5.2.2.2.1
  have p3 := f5.2.2.2.2
  clear f7 f10 f12 f15
  subst e0
  subst e1
  refine ⟨?_, ?_, ?_⟩ <;> first | assumption | omega | trivial
theorem c_273_s_0 : vOkm T0 (eP e_273 L_273 A_273 mu_273 none) 3 ([(22, [6, 5, 4], [0], 0), (90, [6], [], -1), (91, [6], [], 9999), (20, [5, 0], [0], 26), (0, [5], [], 300), (22, [4, 3, 1], [0], 0), (90, [4], [], 0), (91, [4], [], 1007), (20, [3, 0], [0], 83), (0, [3], [], 344), (6000, [0, 1, 2], [0], 0), (0, [0], [], 285), (90, [1], [], 0), (91, [1], [], 39), (90, [2], [], -2147483648), (91, [2], [], 2147483647)], (2271, [0, 1], [0], 0)) := vOk_inI fun ρ η f0 f1 f2 f3 f4 f5 f6 f7 f8 f9 f10 f11 f12 f13 f14 f15 => q_273_0 (n0 := ρ 2) (n1 := ρ 1) (n2 := ρ 0) (n3 := ρ 3) (n4 := ρ 4) (n5 := ρ 5) (n6 := ρ 6) (H0 := η 0) f15 f14 f13 f12 f11 f10 f9 f8 f7 f6 f5 f4 f3 f2 f1 f0
theorem kR_250_300 : vFreeR s_250.2.2.2.2 300 = true := by decide +kernel
theorem kR_271_300 : vFreeR s_271.2.2.2.2 300 = true := by decide +kernel
theorem kR_250_344 : vFreeR s_250.2.2.2.2 344 = true := by decide +kernel
theorem kR_271_344 : vFreeR s_271.2.2.2.2 344 = true := by decide +kernel
theorem kF_271_285_64 : vFree s_271.2.2.2.2 285 64 = true := by decide +kernel
theorem q_273_1 {n0 n1 n2 n3 n4 n5 n6 n7 n8 n9 n10 n11 n12 : Int} {H0 H1 H2 : gH} (f0 : n0 ≤ 2147483647) (f1 : (-2147483648) ≤ n0) (f2 : n1 ≤ 39) (f3 : 0 ≤ n1) (f4 : n2 = 285) (f5 : hWt T0 H0 ∧ preb_273 n2 n1 n0 H0) (f6 : n3 = 344) (f7 : n3 = hV H0 (n2).toNat 83) (f8 : n4 ≤ 1007) (f9 : 0 ≤ n4) (f10 : n4 = hV H0 (n3).toNat (n1).toNat) (f11 : n5 = 300) (f12 : n5 = hV H0 (n2).toNat 26) (f13 : n6 ≤ 9999) (f14 : (-1) ≤ n6) (f15 : n6 = hV H0 (n5).toNat (n4).toNat) (f16 : n7 = 4) (f17 : n8 ≤ 10999) (f18 : (-10999) ≤ n8) (f19 : (hLe T0 H0 H1 ∧ hFr s_271.2.2.2.2 H0 H1 ∧ ((0 : Int) = 0 → H1.length = H0.length) ∧ hWt T0 H1) ∧ True) (f20 : n9 = w32 (n7 * n8)) (f21 : n10 = w32 (n0 - n9)) (f22 : n11 ≤ 1) (f23 : 0 ≤ n11) (f24 : (hLe T0 H1 H2 ∧ hFr s_250.2.2.2.2 H1 H2 ∧ ((0 : Int) = 0 → H2.length = H1.length) ∧ hWt T0 H2) ∧ postb_250 n11 n2 n6 H1 H2) (f25 : n11 = 0) (f26 : n12 = 0) : postb_273 n12 n2 n1 n0 H0 H2 := by
  unfold preb_273 at f5
  unfold postb_250 at f24
  unfold postb_273
  have e0 : n4 = hV H0 344 (n1).toNat := (by rw [f6] at f10; exact f10 : n4 = hV H0 344 (n1).toNat)
  have e1 : n6 = hV H0 300 (n4).toNat := (by rw [f11] at f15; exact f15 : n6 = hV H0 300 (n4).toNat)
  have e4 : hV H2 285 64 = hV H0 285 64 := ((f24.1.2.1.1 285 64 kF_250_285_64)).trans (f19.1.2.1.1 285 64 kF_271_285_64)
  have e7 : hV H2 300 = hV H0 300 := (fRow f24.1.2.1 300 kR_250_300).trans (fRow f19.1.2.1 300 kR_271_300)
  have e10 : hV H2 344 = hV H0 344 := (fRow f24.1.2.1 344 kR_250_344).trans (fRow f19.1.2.1 344 kR_271_344)
  have e11 : (0 : Int) ≤ hV H0 285 82 ∧ hV H0 285 82 ≤ 40 := f5.1 285 82 _ _ kW_285_82
  have e12 : (0 : Int) ≤ hV H0 285 64 ∧ hV H0 285 64 ≤ 20 := bTo e4 (f24.1.2.2.2 285 64 _ _ kW_285_64)
  try simp only [e4] at f24
  try simp only [e4, e7, e10]
  have p0 := f5.2.1
  have p1 := f5.2.2.1
  have p2 := f5.2.2.2.1
  have p3 := f5.2.2.2.2
  have r1_0 := f24.2
  clear f7 f10 f12 f15 e4 e7 e10
  subst e0
  subst e1
  rw [f16] at f20
  unfold w32 at f20 f21
  first | assumption | omega | trivial
theorem c_273_s_1 : vOkm T0 (eP e_273 L_273 A_273 mu_273 none) 3 ([(0, [12], [], 0), (30, [11], [], 0), (1250, [11, 0, 6], [1, 2], 0), (90, [11], [], 0), (91, [11], [], 1), (2, [10, 2, 9], [], 0), (3, [9, 7, 8], [], 0), (1271, [8, 0, 1], [0, 1], 0), (90, [8], [], -10999), (91, [8], [], 10999), (0, [7], [], 4), (22, [6, 5, 4], [0], 0), (90, [6], [], -1), (91, [6], [], 9999), (20, [5, 0], [0], 26), (0, [5], [], 300), (22, [4, 3, 1], [0], 0), (90, [4], [], 0), (91, [4], [], 1007), (20, [3, 0], [0], 83), (0, [3], [], 344), (6000, [0, 1, 2], [0], 0), (0, [0], [], 285), (90, [1], [], 0), (91, [1], [], 39), (90, [2], [], -2147483648), (91, [2], [], 2147483647)], (3000, [12], [2], 74)) := vOk_inI fun ρ η f0 f1 f2 f3 f4 f5 f6 f7 f8 f9 f10 f11 f12 f13 f14 f15 f16 f17 f18 f19 f20 f21 f22 f23 f24 f25 f26 => q_273_1 (n0 := ρ 2) (n1 := ρ 1) (n2 := ρ 0) (n3 := ρ 3) (n4 := ρ 4) (n5 := ρ 5) (n6 := ρ 6) (n7 := ρ 7) (n8 := ρ 8) (n9 := ρ 9) (n10 := ρ 10) (n11 := ρ 11) (n12 := ρ 12) (H0 := η 0) (H1 := η 1) (H2 := η 2) f26 f25 f24 f23 f22 f21 f20 f19 f18 f17 f16 f15 f14 f13 f12 f11 f10 f9 f8 f7 f6 f5 f4 f3 f2 f1 f0
theorem q_273_2 {n0 n1 n2 n3 n4 n5 n6 n7 n8 n9 n10 n11 n12 : Int} {H0 H1 H2 : gH} (f0 : n0 ≤ 2147483647) (f1 : (-2147483648) ≤ n0) (f2 : n1 ≤ 39) (f3 : 0 ≤ n1) (f4 : n2 = 285) (f5 : hWt T0 H0 ∧ preb_273 n2 n1 n0 H0) (f6 : n3 = 344) (f7 : n3 = hV H0 (n2).toNat 83) (f8 : n4 ≤ 1007) (f9 : 0 ≤ n4) (f10 : n4 = hV H0 (n3).toNat (n1).toNat) (f11 : n5 = 300) (f12 : n5 = hV H0 (n2).toNat 26) (f13 : n6 ≤ 9999) (f14 : (-1) ≤ n6) (f15 : n6 = hV H0 (n5).toNat (n4).toNat) (f16 : n7 = 4) (f17 : n8 ≤ 10999) (f18 : (-10999) ≤ n8) (f19 : (hLe T0 H0 H1 ∧ hFr s_271.2.2.2.2 H0 H1 ∧ ((0 : Int) = 0 → H1.length = H0.length) ∧ hWt T0 H1) ∧ True) (f20 : n9 = w32 (n7 * n8)) (f21 : n10 = w32 (n0 - n9)) (f22 : n11 ≤ 1) (f23 : 0 ≤ n11) (f24 : (hLe T0 H1 H2 ∧ hFr s_250.2.2.2.2 H1 H2 ∧ ((0 : Int) = 0 → H2.length = H1.length) ∧ hWt T0 H2) ∧ postb_250 n11 n2 n6 H1 H2) (f25 : n11 ≠ 0) (f26 : n10 < 0) (f27 : n12 = 0) : postb_273 n12 n2 n1 n0 H0 H2 := by
  unfold preb_273 at f5
  unfold postb_250 at f24
  unfold postb_273
  have e0 : n4 = hV H0 344 (n1).toNat := (by rw [f6] at f10; exact f10 : n4 = hV H0 344 (n1).toNat)
  have e1 : n6 = hV H0 300 (n4).toNat := (by rw [f11] at f15; exact f15 : n6 = hV H0 300 (n4).toNat)
  have e4 : hV H2 285 64 = hV H0 285 64 := ((f24.1.2.1.1 285 64 kF_250_285_64)).trans (f19.1.2.1.1 285 64 kF_271_285_64)
  have e7 : hV H2 300 = hV H0 300 := (fRow f24.1.2.1 300 kR_250_300).trans (fRow f19.1.2.1 300 kR_271_300)
  have e10 : hV H2 344 = hV H0 344 := (fRow f24.1.2.1 344 kR_250_344).trans (fRow f19.1.2.1 344 kR_271_344)
  have e11 : (0 : Int) ≤ hV H0 285 82 ∧ hV H0 285 82 ≤ 40 := f5.1 285 82 _ _ kW_285_82
  have e12 : (0 : Int) ≤ hV H0 285 64 ∧ hV H0 285 64 ≤ 20 := bTo e4 (f24.1.2.2.2 285 64 _ _ kW_285_64)
  try simp only [e4] at f24
  try simp only [e4, e7, e10]
  have p0 := f5.2.1
  have p1 := f5.2.2.1
  have p2 := f5.2.2.2.1
  have p3 := f5.2.2.2.2
  have r1_0 := f24.2
  clear f7 f10 f12 f15 e4 e7 e10
  subst e0
  subst e1
  rw [f16] at f20
  unfold w32 at f20 f21
  first | assumption | omega | trivial
theorem c_273_s_2 : vOkm T0 (eP e_273 L_273 A_273 mu_273 none) 3 ([(0, [12], [], 0), (32, [10], [], 0), (31, [11], [], 0), (1250, [11, 0, 6], [1, 2], 0), (90, [11], [], 0), (91, [11], [], 1), (2, [10, 2, 9], [], 0), (3, [9, 7, 8], [], 0), (1271, [8, 0, 1], [0, 1], 0), (90, [8], [], -10999), (91, [8], [], 10999), (0, [7], [], 4), (22, [6, 5, 4], [0], 0), (90, [6], [], -1), (91, [6], [], 9999), (20, [5, 0], [0], 26), (0, [5], [], 300), (22, [4, 3, 1], [0], 0), (90, [4], [], 0), (91, [4], [], 1007), (20, [3, 0], [0], 83), (0, [3], [], 344), (6000, [0, 1, 2], [0], 0), (0, [0], [], 285), (90, [1], [], 0), (91, [1], [], 39), (90, [2], [], -2147483648), (91, [2], [], 2147483647)], (3000, [12], [2], 74)) := vOk_inI fun ρ η f0 f1 f2 f3 f4 f5 f6 f7 f8 f9 f10 f11 f12 f13 f14 f15 f16 f17 f18 f19 f20 f21 f22 f23 f24 f25 f26 f27 => q_273_2 (n0 := ρ 2) (n1 := ρ 1) (n2 := ρ 0) (n3 := ρ 3) (n4 := ρ 4) (n5 := ρ 5) (n6 := ρ 6) (n7 := ρ 7) (n8 := ρ 8) (n9 := ρ 9) (n10 := ρ 10) (n11 := ρ 11) (n12 := ρ 12) (H0 := η 0) (H1 := η 1) (H2 := η 2) f27 f26 f25 f24 f23 f22 f21 f20 f19 f18 f17 f16 f15 f14 f13 f12 f11 f10 f9 f8 f7 f6 f5 f4 f3 f2 f1 f0
theorem q_273_3 {n0 n1 n2 n3 n4 n5 n6 n7 n8 n9 n10 n11 n12 n13 n14 n15 : Int} {H0 H1 H2 : gH} (f0 : n0 ≤ 2147483647) (f1 : (-2147483648) ≤ n0) (f2 : n1 ≤ 39) (f3 : 0 ≤ n1) (f4 : n2 = 285) (f5 : hWt T0 H0 ∧ preb_273 n2 n1 n0 H0) (f6 : n3 = 344) (f7 : n3 = hV H0 (n2).toNat 83) (f8 : n4 ≤ 1007) (f9 : 0 ≤ n4) (f10 : n4 = hV H0 (n3).toNat (n1).toNat) (f11 : n5 = 300) (f12 : n5 = hV H0 (n2).toNat 26) (f13 : n6 ≤ 9999) (f14 : (-1) ≤ n6) (f15 : n6 = hV H0 (n5).toNat (n4).toNat) (f16 : n7 = 4) (f17 : n8 ≤ 10999) (f18 : (-10999) ≤ n8) (f19 : (hLe T0 H0 H1 ∧ hFr s_271.2.2.2.2 H0 H1 ∧ ((0 : Int) = 0 → H1.length = H0.length) ∧ hWt T0 H1) ∧ True) (f20 : n9 = w32 (n7 * n8)) (f21 : n10 = w32 (n0 - n9)) (f22 : n11 ≤ 1) (f23 : 0 ≤ n11) (f24 : (hLe T0 H1 H2 ∧ hFr s_250.2.2.2.2 H1 H2 ∧ ((0 : Int) = 0 → H2.length = H1.length) ∧ hWt T0 H2) ∧ postb_250 n11 n2 n6 H1 H2) (f25 : n11 ≠ 0) (f26 : 0 ≤ n10) (f27 : n12 = 6) (f28 : n13 = w32 (n12 * n4)) (f29 : n14 = 1) (f30 : n15 = w32 (n13 + n14)) : 0 ≤ n15 ∧ n15 < 6048 := by
  unfold preb_273 at f5
  unfold postb_250 at f24
  have e0 : n4 = hV H0 344 (n1).toNat := (by rw [f6] at f10; exact f10 : n4 = hV H0 344 (n1).toNat)
  have e1 : n6 = hV H0 300 (n4).toNat := (by rw [f11] at f15; exact f15 : n6 = hV H0 300 (n4).toNat)
  have e4 : hV H2 285 64 = hV H0 285 64 := ((f24.1.2.1.1 285 64 kF_250_285_64)).trans (f19.1.2.1.1 285 64 kF_271_285_64)
  have e5 : (0 : Int) ≤ hV H0 285 82 ∧ hV H0 285 82 ≤ 40 := f5.1 285 82 _ _ kW_285_82
  have e6 : (0 : Int) ≤ hV H0 285 64 ∧ hV H0 285 64 ≤ 20 := bTo e4 (f24.1.2.2.2 285 64 _ _ kW_285_64)
  try simp only [e4] at f24
  have p0 := f5.2.1
  have p1 := f5.2.2.1
  have p2 := f5.2.2.2.1
  have p3 := f5.2.2.2.2
  have r1_0 := f24.2
  clear f7 f10 f12 f15 e4
  subst e0
  subst e1
  rw [f16] at f20
  rw [f27] at f28
  first
  | (have ix0 : n13 = 6 * (hV H0 344 (n1).toNat) := Eq.trans f28 (w32_iv (Iml 6 rfl (Iat f9 f8)) (by decide)); subst ix0; clear f28)
  | (have ix0 : n13 = 6 * (hV H0 344 (n1).toNat) := Eq.trans f28 (w32_id (by omega) (by omega)); subst ix0; clear f28)
  | (unfold w32 at f28; have ix0 : n13 = 6 * (hV H0 344 (n1).toNat) := (by omega); subst ix0)
  | skip
  first
  | (have ix1 : n15 = (6 * (hV H0 344 (n1).toNat)) + 1 := Eq.trans f30 (w32_iv (Iad (Iml 6 rfl (Iat f9 f8)) (IC 1)) (by decide)); subst ix1; clear f30)
  | (have ix1 : n15 = (6 * (hV H0 344 (n1).toNat)) + 1 := Eq.trans f30 (w32_id (by omega) (by omega)); subst ix1; clear f30)
  | (unfold w32 at f30; have ix1 : n15 = (6 * (hV H0 344 (n1).toNat)) + 1 := (by omega); subst ix1)
  | skip
  try unfold w32 at f20
  try unfold w32 at f21
  try unfold w32 at f28
  try unfold w32 at f30
  omega
theorem c_273_s_3 : vOkm T0 (eP e_273 L_273 A_273 mu_273 none) 3 ([(1, [16, 14, 15], [], 0), (0, [15], [], 1), (3, [14, 13, 4], [], 0), (0, [13], [], 6), (33, [10], [], 0), (31, [11], [], 0), (1250, [11, 0, 6], [1, 2], 0), (90, [11], [], 0), (91, [11], [], 1), (2, [10, 2, 9], [], 0), (3, [9, 7, 8], [], 0), (1271, [8, 0, 1], [0, 1], 0), (90, [8], [], -10999), (91, [8], [], 10999), (0, [7], [], 4), (22, [6, 5, 4], [0], 0), (90, [6], [], -1), (91, [6], [], 9999), (20, [5, 0], [0], 26), (0, [5], [], 300), (22, [4, 3, 1], [0], 0), (90, [4], [], 0), (91, [4], [], 1007), (20, [3, 0], [0], 83), (0, [3], [], 344), (6000, [0, 1, 2], [0], 0), (0, [0], [], 285), (90, [1], [], 0), (91, [1], [], 39), (90, [2], [], -2147483648), (91, [2], [], 2147483647)], (70, [16], [], 6048)) := vOk_inI fun ρ η f0 f1 f2 f3 f4 f5 f6 f7 f8 f9 f10 f11 f12 f13 f14 f15 f16 f17 f18 f19 f20 f21 f22 f23 f24 f25 f26 f27 f28 f29 f30 => q_273_3 (n0 := ρ 2) (n1 := ρ 1) (n2 := ρ 0) (n3 := ρ 3) (n4 := ρ 4) (n5 := ρ 5) (n6 := ρ 6) (n7 := ρ 7) (n8 := ρ 8) (n9 := ρ 9) (n10 := ρ 10) (n11 := ρ 11) (n12 := ρ 13) (n13 := ρ 14) (n14 := ρ 15) (n15 := ρ 16) (H0 := η 0) (H1 := η 1) (H2 := η 2) f30 f29 f28 f27 f26 f25 f24 f23 f22 f21 f20 f19 f18 f17 f16 f15 f14 f13 f12 f11 f10 f9 f8 f7 f6 f5 f4 f3 f2 f1 f0
theorem kR_250_305 : vFreeR s_250.2.2.2.2 305 = true := by decide +kernel
theorem kR_271_305 : vFreeR s_271.2.2.2.2 305 = true := by decide +kernel
theorem q_273_4 {n0 n1 n2 n3 n4 n5 n6 n7 n8 n9 n10 n11 n12 n13 n14 n15 n16 n17 n18 : Int} {H0 H1 H2 : gH} (f0 : n0 ≤ 2147483647) (f1 : (-2147483648) ≤ n0) (f2 : n1 ≤ 39) (f3 : 0 ≤ n1) (f4 : n2 = 285) (f5 : hWt T0 H0 ∧ preb_273 n2 n1 n0 H0) (f6 : n3 = 344) (f7 : n3 = hV H0 (n2).toNat 83) (f8 : n4 ≤ 1007) (f9 : 0 ≤ n4) (f10 : n4 = hV H0 (n3).toNat (n1).toNat) (f11 : n5 = 300) (f12 : n5 = hV H0 (n2).toNat 26) (f13 : n6 ≤ 9999) (f14 : (-1) ≤ n6) (f15 : n6 = hV H0 (n5).toNat (n4).toNat) (f16 : n7 = 4) (f17 : n8 ≤ 10999) (f18 : (-10999) ≤ n8) (f19 : (hLe T0 H0 H1 ∧ hFr s_271.2.2.2.2 H0 H1 ∧ ((0 : Int) = 0 → H1.length = H0.length) ∧ hWt T0 H1) ∧ True) (f20 : n9 = w32 (n7 * n8)) (f21 : n10 = w32 (n0 - n9)) (f22 : n11 ≤ 1) (f23 : 0 ≤ n11) (f24 : (hLe T0 H1 H2 ∧ hFr s_250.2.2.2.2 H1 H2 ∧ ((0 : Int) = 0 → H2.length = H1.length) ∧ hWt T0 H2) ∧ postb_250 n11 n2 n6 H1 H2) (f25 : n11 ≠ 0) (f26 : 0 ≤ n10) (f27 : n12 = 305) (f28 : n12 = hV H2 (n2).toNat 31) (f29 : n13 = 6) (f30 : n14 = w32 (n13 * n4)) (f31 : n15 = 1) (f32 : n16 = w32 (n14 + n15)) (f33 : n17 ≤ 9999) (f34 : (-1) ≤ n17) (f35 : n17 = hV H2 (n12).toNat (n16).toNat) (f36 : n18 = (-1)) (f37 : n17 = n18) : 0 ≤ n6 := by
  unfold preb_273 at f5
  unfold postb_250 at f24
  have e0 : n4 = hV H0 344 (n1).toNat := (by rw [f6] at f10; exact f10 : n4 = hV H0 344 (n1).toNat)
  have e1 : n6 = hV H0 300 (n4).toNat := (by rw [f11] at f15; exact f15 : n6 = hV H0 300 (n4).toNat)
  have e4 : n17 = hV H0 305 (n16).toNat := (by rw [f27] at f35; exact f35 : n17 = hV H2 305 (n16).toNat).trans (((congrFun (fRow f24.1.2.1 305 kR_250_305) _)).trans ((congrFun (fRow f19.1.2.1 305 kR_271_305) _)))
  have e7 : hV H2 285 64 = hV H0 285 64 := ((f24.1.2.1.1 285 64 kF_250_285_64)).trans (f19.1.2.1.1 285 64 kF_271_285_64)
  have e8 : (0 : Int) ≤ hV H0 285 82 ∧ hV H0 285 82 ≤ 40 := f5.1 285 82 _ _ kW_285_82
  have e9 : (0 : Int) ≤ hV H0 285 64 ∧ hV H0 285 64 ≤ 20 := bTo e7 (f24.1.2.2.2 285 64 _ _ kW_285_64)
  try simp only [e7] at f24
  have p0 := f5.2.1
  have p1 := f5.2.2.1
  have p2 := f5.2.2.2.1
  have p3 := f5.2.2.2.2
  have r1_0 := f24.2
  clear f7 f10 f12 f15 f28 f35 e7
  subst e0
  subst e1
  subst e4
  rw [f16] at f20
  rw [f29] at f30
  first
  | (have ix0 : n14 = 6 * (hV H0 344 (n1).toNat) := Eq.trans f30 (w32_iv (Iml 6 rfl (Iat f9 f8)) (by decide)); subst ix0; clear f30)
  | (have ix0 : n14 = 6 * (hV H0 344 (n1).toNat) := Eq.trans f30 (w32_id (by omega) (by omega)); subst ix0; clear f30)
  | (unfold w32 at f30; have ix0 : n14 = 6 * (hV H0 344 (n1).toNat) := (by omega); subst ix0)
  | skip
  first
  | (have ix1 : n16 = (6 * (hV H0 344 (n1).toNat)) + 1 := Eq.trans f32 (w32_iv (Iad (Iml 6 rfl (Iat f9 f8)) (IC 1)) (by decide)); subst ix1; clear f32)
  | (have ix1 : n16 = (6 * (hV H0 344 (n1).toNat)) + 1 := Eq.trans f32 (w32_id (by omega) (by omega)); subst ix1; clear f32)
  | (unfold w32 at f32; have ix1 : n16 = (6 * (hV H0 344 (n1).toNat)) + 1 := (by omega); subst ix1)
  | skip
  try unfold w32 at f20
  try unfold w32 at f21
  try unfold w32 at f30
  try unfold w32 at f32
  omega
theorem c_273_s_4 : vOkm T0 (eP e_273 L_273 A_273 mu_273 none) 3 ([(40, [17, 18], [], 0), (0, [18], [], -1), (22, [17, 12, 16], [2], 0), (90, [17], [], -1), (91, [17], [], 9999), (1, [16, 14, 15], [], 0), (0, [15], [], 1), (3, [14, 13, 4], [], 0), (0, [13], [], 6), (20, [12, 0], [2], 31), (0, [12], [], 305), (33, [10], [], 0), (31, [11], [], 0), (1250, [11, 0, 6], [1, 2], 0), (90, [11], [], 0), (91, [11], [], 1), (2, [10, 2, 9], [], 0), (3, [9, 7, 8], [], 0), (1271, [8, 0, 1], [0, 1], 0), (90, [8], [], -10999), (91, [8], [], 10999), (0, [7], [], 4), (22, [6, 5, 4], [0], 0), (90, [6], [], -1), (91, [6], [], 9999), (20, [5, 0], [0], 26), (0, [5], [], 300), (22, [4, 3, 1], [0], 0), (90, [4], [], 0), (91, [4], [], 1007), (20, [3, 0], [0], 83), (0, [3], [], 344), (6000, [0, 1, 2], [0], 0), (0, [0], [], 285), (90, [1], [], 0), (91, [1], [], 39), (90, [2], [], -2147483648), (91, [2], [], 2147483647)], (90, [6], [], 0)) := vOk_inI fun ρ η f0 f1 f2 f3 f4 f5 f6 f7 f8 f9 f10 f11 f12 f13 f14 f15 f16 f17 f18 f19 f20 f21 f22 f23 f24 f25 f26 f27 f28 f29 f30 f31 f32 f33 f34 f35 f36 f37 => q_273_4 (n0 := ρ 2) (n1 := ρ 1) (n2 := ρ 0) (n3 := ρ 3) (n4 := ρ 4) (n5 := ρ 5) (n6 := ρ 6) (n7 := ρ 7) (n8 := ρ 8) (n9 := ρ 9) (n10 := ρ 10) (n11 := ρ 11) (n12 := ρ 12) (n13 := ρ 13) (n14 := ρ 14) (n15 := ρ 15) (n16 := ρ 16) (n17 := ρ 17) (n18 := ρ 18) (H0 := η 0) (H1 := η 1) (H2 := η 2) f37 f36 f35 f34 f33 f32 f31 f30 f29 f28 f27 f26 f25 f24 f23 f22 f21 f20 f19 f18 f17 f16 f15 f14 f13 f12 f11 f10 f9 f8 f7 f6 f5 f4 f3 f2 f1 f0
theorem q_273_5 {n0 n1 n2 n3 n4 n5 n6 n7 n8 n9 n10 n11 n12 n13 n14 n15 n16 n17 n18 : Int} {H0 H1 H2 : gH} (f0 : n0 ≤ 2147483647) (f1 : (-2147483648) ≤ n0) (f2 : n1 ≤ 39) (f3 : 0 ≤ n1) (f4 : n2 = 285) (f5 : hWt T0 H0 ∧ preb_273 n2 n1 n0 H0) (f6 : n3 = 344) (f7 : n3 = hV H0 (n2).toNat 83) (f8 : n4 ≤ 1007) (f9 : 0 ≤ n4) (f10 : n4 = hV H0 (n3).toNat (n1).toNat) (f11 : n5 = 300) (f12 : n5 = hV H0 (n2).toNat 26) (f13 : n6 ≤ 9999) (f14 : (-1) ≤ n6) (f15 : n6 = hV H0 (n5).toNat (n4).toNat) (f16 : n7 = 4) (f17 : n8 ≤ 10999) (f18 : (-10999) ≤ n8) (f19 : (hLe T0 H0 H1 ∧ hFr s_271.2.2.2.2 H0 H1 ∧ ((0 : Int) = 0 → H1.length = H0.length) ∧ hWt T0 H1) ∧ True) (f20 : n9 = w32 (n7 * n8)) (f21 : n10 = w32 (n0 - n9)) (f22 : n11 ≤ 1) (f23 : 0 ≤ n11) (f24 : (hLe T0 H1 H2 ∧ hFr s_250.2.2.2.2 H1 H2 ∧ ((0 : Int) = 0 → H2.length = H1.length) ∧ hWt T0 H2) ∧ postb_250 n11 n2 n6 H1 H2) (f25 : n11 ≠ 0) (f26 : 0 ≤ n10) (f27 : n12 = 305) (f28 : n12 = hV H2 (n2).toNat 31) (f29 : n13 = 6) (f30 : n14 = w32 (n13 * n4)) (f31 : n15 = 1) (f32 : n16 = w32 (n14 + n15)) (f33 : n17 ≤ 9999) (f34 : (-1) ≤ n17) (f35 : n17 = hV H2 (n12).toNat (n16).toNat) (f36 : n18 = (-1)) (f37 : n17 = n18) : n6 ≤ 19 := by
  unfold preb_273 at f5
  unfold postb_250 at f24
  have e0 : n4 = hV H0 344 (n1).toNat := (by rw [f6] at f10; exact f10 : n4 = hV H0 344 (n1).toNat)
  have e1 : n6 = hV H0 300 (n4).toNat := (by rw [f11] at f15; exact f15 : n6 = hV H0 300 (n4).toNat)
  have e4 : n17 = hV H0 305 (n16).toNat := (by rw [f27] at f35; exact f35 : n17 = hV H2 305 (n16).toNat).trans (((congrFun (fRow f24.1.2.1 305 kR_250_305) _)).trans ((congrFun (fRow f19.1.2.1 305 kR_271_305) _)))
  have e7 : hV H2 285 64 = hV H0 285 64 := ((f24.1.2.1.1 285 64 kF_250_285_64)).trans (f19.1.2.1.1 285 64 kF_271_285_64)
  have e8 : (0 : Int) ≤ hV H0 285 82 ∧ hV H0 285 82 ≤ 40 := f5.1 285 82 _ _ kW_285_82
  have e9 : (0 : Int) ≤ hV H0 285 64 ∧ hV H0 285 64 ≤ 20 := bTo e7 (f24.1.2.2.2 285 64 _ _ kW_285_64)
  try simp only [e7] at f24
  have p0 := f5.2.1
  have p1 := f5.2.2.1
  have p2 := f5.2.2.2.1
  have p3 := f5.2.2.2.2
  have r1_0 := f24.2
  clear f7 f10 f12 f15 f28 f35 e7
  subst e0
  subst e1
  subst e4
  rw [f16] at f20
  rw [f29] at f30
  first
  | (have ix0 : n14 = 6 * (hV H0 344 (n1).toNat) := Eq.trans f30 (w32_iv (Iml 6 rfl (Iat f9 f8)) (by decide)); subst ix0; clear f30)
  | (have ix0 : n14 = 6 * (hV H0 344 (n1).toNat) := Eq.trans f30 (w32_id (by omega) (by omega)); subst ix0; clear f30)
  | (unfold w32 at f30; have ix0 : n14 = 6 * (hV H0 344 (n1).toNat) := (by omega); subst ix0)
  | skip
  first
  | (have ix1 : n16 = (6 * (hV H0 344 (n1).toNat)) + 1 := Eq.trans f32 (w32_iv (Iad (Iml 6 rfl (Iat f9 f8)) (IC 1)) (by decide)); subst ix1; clear f32)
  | (have ix1 : n16 = (6 * (hV H0 344 (n1).toNat)) + 1 := Eq.trans f32 (w32_id (by omega) (by omega)); subst ix1; clear f32)
  | (unfold w32 at f32; have ix1 : n16 = (6 * (hV H0 344 (n1).toNat)) + 1 := (by omega); subst ix1)
  | skip
  try unfold w32 at f20
  try unfold w32 at f21
  try unfold w32 at f30
  try unfold w32 at f32
  omega
theorem c_273_s_5 : vOkm T0 (eP e_273 L_273 A_273 mu_273 none) 3 ([(40, [17, 18], [], 0), (0, [18], [], -1), (22, [17, 12, 16], [2], 0), (90, [17], [], -1), (91, [17], [], 9999), (1, [16, 14, 15], [], 0), (0, [15], [], 1), (3, [14, 13, 4], [], 0), (0, [13], [], 6), (20, [12, 0], [2], 31), (0, [12], [], 305), (33, [10], [], 0), (31, [11], [], 0), (1250, [11, 0, 6], [1, 2], 0), (90, [11], [], 0), (91, [11], [], 1), (2, [10, 2, 9], [], 0), (3, [9, 7, 8], [], 0), (1271, [8, 0, 1], [0, 1], 0), (90, [8], [], -10999), (91, [8], [], 10999), (0, [7], [], 4), (22, [6, 5, 4], [0], 0), (90, [6], [], -1), (91, [6], [], 9999), (20, [5, 0], [0], 26), (0, [5], [], 300), (22, [4, 3, 1], [0], 0), (90, [4], [], 0), (91, [4], [], 1007), (20, [3, 0], [0], 83), (0, [3], [], 344), (6000, [0, 1, 2], [0], 0), (0, [0], [], 285), (90, [1], [], 0), (91, [1], [], 39), (90, [2], [], -2147483648), (91, [2], [], 2147483647)], (91, [6], [], 19)) := vOk_inI fun ρ η f0 f1 f2 f3 f4 f5 f6 f7 f8 f9 f10 f11 f12 f13 f14 f15 f16 f17 f18 f19 f20 f21 f22 f23 f24 f25 f26 f27 f28 f29 f30 f31 f32 f33 f34 f35 f36 f37 => q_273_5 (n0 := ρ 2) (n1 := ρ 1) (n2 := ρ 0) (n3 := ρ 3) (n4 := ρ 4) (n5 := ρ 5) (n6 := ρ 6) (n7 := ρ 7) (n8 := ρ 8) (n9 := ρ 9) (n10 := ρ 10) (n11 := ρ 11) (n12 := ρ 12) (n13 := ρ 13) (n14 := ρ 14) (n15 := ρ 15) (n16 := ρ 16) (n17 := ρ 17) (n18 := ρ 18) (H0 := η 0) (H1 := η 1) (H2 := η 2) f37 f36 f35 f34 f33 f32 f31 f30 f29 f28 f27 f26 f25 f24 f23 f22 f21 f20 f19 f18 f17 f16 f15 f14 f13 f12 f11 f10 f9 f8 f7 f6 f5 f4 f3 f2 f1 f0
theorem q_273_6 {n0 n1 n2 n3 n4 n5 n6 n7 n8 n9 n10 n11 n12 n13 n14 n15 n16 n17 n18 : Int} {H0 H1 H2 : gH} (f0 : n0 ≤ 2147483647) (f1 : (-2147483648) ≤ n0) (f2 : n1 ≤ 39) (f3 : 0 ≤ n1) (f4 : n2 = 285) (f5 : hWt T0 H0 ∧ preb_273 n2 n1 n0 H0) (f6 : n3 = 344) (f7 : n3 = hV H0 (n2).toNat 83) (f8 : n4 ≤ 1007) (f9 : 0 ≤ n4) (f10 : n4 = hV H0 (n3).toNat (n1).toNat) (f11 : n5 = 300) (f12 : n5 = hV H0 (n2).toNat 26) (f13 : n6 ≤ 9999) (f14 : (-1) ≤ n6) (f15 : n6 = hV H0 (n5).toNat (n4).toNat) (f16 : n7 = 4) (f17 : n8 ≤ 10999) (f18 : (-10999) ≤ n8) (f19 : (hLe T0 H0 H1 ∧ hFr s_271.2.2.2.2 H0 H1 ∧ ((0 : Int) = 0 → H1.length = H0.length) ∧ hWt T0 H1) ∧ True) (f20 : n9 = w32 (n7 * n8)) (f21 : n10 = w32 (n0 - n9)) (f22 : n11 ≤ 1) (f23 : 0 ≤ n11) (f24 : (hLe T0 H1 H2 ∧ hFr s_250.2.2.2.2 H1 H2 ∧ ((0 : Int) = 0 → H2.length = H1.length) ∧ hWt T0 H2) ∧ postb_250 n11 n2 n6 H1 H2) (f25 : n11 ≠ 0) (f26 : 0 ≤ n10) (f27 : n12 = 305) (f28 : n12 = hV H2 (n2).toNat 31) (f29 : n13 = 6) (f30 : n14 = w32 (n13 * n4)) (f31 : n15 = 1) (f32 : n16 = w32 (n14 + n15)) (f33 : n17 ≤ 9999) (f34 : (-1) ≤ n17) (f35 : n17 = hV H2 (n12).toNat (n16).toNat) (f36 : n18 = (-1)) (f37 : n17 = n18) : Ab_273_75 n2 n1 n0 n2 n1 n0 n4 n6 n10 H0 H2 ∧ ∀ q, none = some q → mub_273_75 n2 n1 n0 n2 n1 n0 n4 n6 n10 H0 H2 < q := by
  unfold preb_273 at f5
  unfold postb_250 at f24
  unfold Ab_273_75
  have e0 : n4 = hV H0 344 (n1).toNat := (by rw [f6] at f10; exact f10 : n4 = hV H0 344 (n1).toNat)
  have e1 : n6 = hV H0 300 (n4).toNat := (by rw [f11] at f15; exact f15 : n6 = hV H0 300 (n4).toNat)
  have e4 : n17 = hV H0 305 (n16).toNat := (by rw [f27] at f35; exact f35 : n17 = hV H2 305 (n16).toNat).trans (((congrFun (fRow f24.1.2.1 305 kR_250_305) _)).trans ((congrFun (fRow f19.1.2.1 305 kR_271_305) _)))
  have e7 : hV H2 285 64 = hV H0 285 64 := ((f24.1.2.1.1 285 64 kF_250_285_64)).trans (f19.1.2.1.1 285 64 kF_271_285_64)
  have e10 : hV H2 300 = hV H0 300 := (fRow f24.1.2.1 300 kR_250_300).trans (fRow f19.1.2.1 300 kR_271_300)
  have e13 : hV H2 344 = hV H0 344 := (fRow f24.1.2.1 344 kR_250_344).trans (fRow f19.1.2.1 344 kR_271_344)
  have e14 : (0 : Int) ≤ hV H0 285 82 ∧ hV H0 285 82 ≤ 40 := f5.1 285 82 _ _ kW_285_82
  have e15 : (0 : Int) ≤ hV H0 285 64 ∧ hV H0 285 64 ≤ 20 := bTo e7 (f24.1.2.2.2 285 64 _ _ kW_285_64)
  try simp only [e7] at f24
  try simp only [e7, e10, e13]
  have p0 := f5.2.1
  have p1 := f5.2.2.1
  have p2 := f5.2.2.2.1
  have p3 := f5.2.2.2.2
  have r1_0 := f24.2
  clear f7 f10 f12 f15 f28 f35 e7 e10 e13
  subst e0
  subst e1
  subst e4
  rw [f16] at f20
  rw [f29] at f30
  first
  | (have ix0 : n9 = 4 * n8 := Eq.trans f20 (w32_iv (Iml 4 rfl (Iat f18 f17)) (by decide)); subst ix0; clear f20)
  | (have ix0 : n9 = 4 * n8 := Eq.trans f20 (w32_id (by omega) (by omega)); subst ix0; clear f20)
  | (unfold w32 at f20; have ix0 : n9 = 4 * n8 := (by omega); subst ix0)
  | skip
  first
  | (have ix1 : n10 = n0 - ((4 * n8)) := Eq.trans f21 (w32_id (by omega) (by omega)); subst ix1; clear f21)
  | (unfold w32 at f21; have ix1 : n10 = n0 - ((4 * n8)) := (by omega); subst ix1)
  | skip
  first
  | (have ix2 : n14 = 6 * (hV H0 344 (n1).toNat) := Eq.trans f30 (w32_iv (Iml 6 rfl (Iat f9 f8)) (by decide)); subst ix2; clear f30)
  | (have ix2 : n14 = 6 * (hV H0 344 (n1).toNat) := Eq.trans f30 (w32_id (by omega) (by omega)); subst ix2; clear f30)
  | (unfold w32 at f30; have ix2 : n14 = 6 * (hV H0 344 (n1).toNat) := (by omega); subst ix2)
  | skip
  first
  | (have ix3 : n16 = (6 * (hV H0 344 (n1).toNat)) + 1 := Eq.trans f32 (w32_iv (Iad (Iml 6 rfl (Iat f9 f8)) (IC 1)) (by decide)); subst ix3; clear f32)
  | (have ix3 : n16 = (6 * (hV H0 344 (n1).toNat)) + 1 := Eq.trans f32 (w32_id (by omega) (by omega)); subst ix3; clear f32)
  | (unfold w32 at f32; have ix3 : n16 = (6 * (hV H0 344 (n1).toNat)) + 1 := (by omega); subst ix3)
  | skip
  try unfold w32 at f20
  try unfold w32 at f21
  try unfold w32 at f30
  try unfold w32 at f32
  refine ⟨?_, fun q hq => ?_⟩
  · refine ⟨?_, ?_, ?_, ?_, ?_, ?_⟩ <;> first | assumption | omega | trivial
  · exact nomatch hq
theorem c_273_s_6 : vOkm T0 (eP e_273 L_273 A_273 mu_273 none) 3 ([(40, [17, 18], [], 0), (0, [18], [], -1), (22, [17, 12, 16], [2], 0), (90, [17], [], -1), (91, [17], [], 9999), (1, [16, 14, 15], [], 0), (0, [15], [], 1), (3, [14, 13, 4], [], 0), (0, [13], [], 6), (20, [12, 0], [2], 31), (0, [12], [], 305), (33, [10], [], 0), (31, [11], [], 0), (1250, [11, 0, 6], [1, 2], 0), (90, [11], [], 0), (91, [11], [], 1), (2, [10, 2, 9], [], 0), (3, [9, 7, 8], [], 0), (1271, [8, 0, 1], [0, 1], 0), (90, [8], [], -10999), (91, [8], [], 10999), (0, [7], [], 4), (22, [6, 5, 4], [0], 0), (90, [6], [], -1), (91, [6], [], 9999), (20, [5, 0], [0], 26), (0, [5], [], 300), (22, [4, 3, 1], [0], 0), (90, [4], [], 0), (91, [4], [], 1007), (20, [3, 0], [0], 83), (0, [3], [], 344), (6000, [0, 1, 2], [0], 0), (0, [0], [], 285), (90, [1], [], 0), (91, [1], [], 39), (90, [2], [], -2147483648), (91, [2], [], 2147483647)], (4000, [0, 1, 2, 4, 6, 10], [2], 75)) := vOk_inI fun ρ η f0 f1 f2 f3 f4 f5 f6 f7 f8 f9 f10 f11 f12 f13 f14 f15 f16 f17 f18 f19 f20 f21 f22 f23 f24 f25 f26 f27 f28 f29 f30 f31 f32 f33 f34 f35 f36 f37 => q_273_6 (n0 := ρ 2) (n1 := ρ 1) (n2 := ρ 0) (n3 := ρ 3) (n4 := ρ 4) (n5 := ρ 5) (n6 := ρ 6) (n7 := ρ 7) (n8 := ρ 8) (n9 := ρ 9) (n10 := ρ 10) (n11 := ρ 11) (n12 := ρ 12) (n13 := ρ 13) (n14 := ρ 14) (n15 := ρ 15) (n16 := ρ 16) (n17 := ρ 17) (n18 := ρ 18) (H0 := η 0) (H1 := η 1) (H2 := η 2) f37 f36 f35 f34 f33 f32 f31 f30 f29 f28 f27 f26 f25 f24 f23 f22 f21 f20 f19 f18 f17 f16 f15 f14 f13 f12 f11 f10 f9 f8 f7 f6 f5 f4 f3 f2 f1 f0
theorem q_273_7 {n0 n1 n2 n3 n4 n5 n6 n7 n8 n9 n10 n11 n12 n13 n14 n15 n16 n17 n18 n19 n20 n21 n22 n23 : Int} {H0 H1 H2 : gH} (f0 : n0 ≤ 2147483647) (f1 : (-2147483648) ≤ n0) (f2 : n1 ≤ 39) (f3 : 0 ≤ n1) (f4 : n2 = 285) (f5 : hWt T0 H0 ∧ preb_273 n2 n1 n0 H0) (f6 : n3 = 344) (f7 : n3 = hV H0 (n2).toNat 83) (f8 : n4 ≤ 1007) (f9 : 0 ≤ n4) (f10 : n4 = hV H0 (n3).toNat (n1).toNat) (f11 : n5 = 300) (f12 : n5 = hV H0 (n2).toNat 26) (f13 : n6 ≤ 9999) (f14 : (-1) ≤ n6) (f15 : n6 = hV H0 (n5).toNat (n4).toNat) (f16 : n7 = 4) (f17 : n8 ≤ 10999) (f18 : (-10999) ≤ n8) (f19 : (hLe T0 H0 H1 ∧ hFr s_271.2.2.2.2 H0 H1 ∧ ((0 : Int) = 0 → H1.length = H0.length) ∧ hWt T0 H1) ∧ True) (f20 : n9 = w32 (n7 * n8)) (f21 : n10 = w32 (n0 - n9)) (f22 : n11 ≤ 1) (f23 : 0 ≤ n11) (f24 : (hLe T0 H1 H2 ∧ hFr s_250.2.2.2.2 H1 H2 ∧ ((0 : Int) = 0 → H2.length = H1.length) ∧ hWt T0 H2) ∧ postb_250 n11 n2 n6 H1 H2) (f25 : n11 ≠ 0) (f26 : 0 ≤ n10) (f27 : n12 = 305) (f28 : n12 = hV H2 (n2).toNat 31) (f29 : n13 = 6) (f30 : n14 = w32 (n13 * n4)) (f31 : n15 = 1) (f32 : n16 = w32 (n14 + n15)) (f33 : n17 ≤ 9999) (f34 : (-1) ≤ n17) (f35 : n17 = hV H2 (n12).toNat (n16).toNat) (f36 : n18 = (-1)) (f37 : n17 ≠ n18) (f38 : n19 = 305) (f39 : n19 = hV H2 (n2).toNat 31) (f40 : n20 = 6) (f41 : n21 = w32 (n20 * n4)) (f42 : n22 = 1) (f43 : n23 = w32 (n21 + n22)) : 0 ≤ n23 ∧ n23 < 6048 := by
  unfold preb_273 at f5
  unfold postb_250 at f24
  have e0 : n4 = hV H0 344 (n1).toNat := (by rw [f6] at f10; exact f10 : n4 = hV H0 344 (n1).toNat)
  have e1 : n6 = hV H0 300 (n4).toNat := (by rw [f11] at f15; exact f15 : n6 = hV H0 300 (n4).toNat)
  have e4 : n17 = hV H0 305 (n16).toNat := (by rw [f27] at f35; exact f35 : n17 = hV H2 305 (n16).toNat).trans (((congrFun (fRow f24.1.2.1 305 kR_250_305) _)).trans ((congrFun (fRow f19.1.2.1 305 kR_271_305) _)))
  have e7 : hV H2 285 64 = hV H0 285 64 := ((f24.1.2.1.1 285 64 kF_250_285_64)).trans (f19.1.2.1.1 285 64 kF_271_285_64)
  have e8 : (0 : Int) ≤ hV H0 285 82 ∧ hV H0 285 82 ≤ 40 := f5.1 285 82 _ _ kW_285_82
  have e9 : (0 : Int) ≤ hV H0 285 64 ∧ hV H0 285 64 ≤ 20 := bTo e7 (f24.1.2.2.2 285 64 _ _ kW_285_64)
  try simp only [e7] at f24
  have p0 := f5.2.1
  have p1 := f5.2.2.1
  have p2 := f5.2.2.2.1
  have p3 := f5.2.2.2.2
  have r1_0 := f24.2
  clear f7 f10 f12 f15 f28 f35 f39 e7
  subst e0
  subst e1
  subst e4
  rw [f16] at f20
  rw [f29] at f30
  rw [f40] at f41
  first
  | (have ix0 : n14 = 6 * (hV H0 344 (n1).toNat) := Eq.trans f30 (w32_iv (Iml 6 rfl (Iat f9 f8)) (by decide)); subst ix0; clear f30)
  | (have ix0 : n14 = 6 * (hV H0 344 (n1).toNat) := Eq.trans f30 (w32_id (by omega) (by omega)); subst ix0; clear f30)
  | (unfold w32 at f30; have ix0 : n14 = 6 * (hV H0 344 (n1).toNat) := (by omega); subst ix0)
  | skip
  first
  | (have ix1 : n16 = (6 * (hV H0 344 (n1).toNat)) + 1 := Eq.trans f32 (w32_iv (Iad (Iml 6 rfl (Iat f9 f8)) (IC 1)) (by decide)); subst ix1; clear f32)
  | (have ix1 : n16 = (6 * (hV H0 344 (n1).toNat)) + 1 := Eq.trans f32 (w32_id (by omega) (by omega)); subst ix1; clear f32)
  | (unfold w32 at f32; have ix1 : n16 = (6 * (hV H0 344 (n1).toNat)) + 1 := (by omega); subst ix1)
  | skip
  first
  | (have ix2 : n21 = 6 * (hV H0 344 (n1).toNat) := Eq.trans f41 (w32_iv (Iml 6 rfl (Iat f9 f8)) (by decide)); subst ix2; clear f41)
  | (have ix2 : n21 = 6 * (hV H0 344 (n1).toNat) := Eq.trans f41 (w32_id (by omega) (by omega)); subst ix2; clear f41)
  | (unfold w32 at f41; have ix2 : n21 = 6 * (hV H0 344 (n1).toNat) := (by omega); subst ix2)
  | skip
  first
  | (have ix3 : n23 = (6 * (hV H0 344 (n1).toNat)) + 1 := Eq.trans f43 (w32_iv (Iad (Iml 6 rfl (Iat f9 f8)) (IC 1)) (by decide)); subst ix3; clear f43)
  | (have ix3 : n23 = (6 * (hV H0 344 (n1).toNat)) + 1 := Eq.trans f43 (w32_id (by omega) (by omega)); subst ix3; clear f43)
  | (unfold w32 at f43; have ix3 : n23 = (6 * (hV H0 344 (n1).toNat)) + 1 := (by omega); subst ix3)
  | skip
  try unfold w32 at f20
  try unfold w32 at f21
  try unfold w32 at f30
  try unfold w32 at f32
  try unfold w32 at f41
  try unfold w32 at f43
  omega
theorem c_273_s_7 : vOkm T0 (eP e_273 L_273 A_273 mu_273 none) 3 ([(1, [24, 22, 23], [], 0), (0, [23], [], 1), (3, [22, 21, 4], [], 0), (0, [21], [], 6), (20, [20, 0], [2], 31), (0, [20], [], 305), (41, [17, 18], [], 0), (0, [18], [], -1), (22, [17, 12, 16], [2], 0), (90, [17], [], -1), (91, [17], [], 9999), (1, [16, 14, 15], [], 0), (0, [15], [], 1), (3, [14, 13, 4], [], 0), (0, [13], [], 6), (20, [12, 0], [2], 31), (0, [12], [], 305), (33, [10], [], 0), (31, [11], [], 0), (1250, [11, 0, 6], [1, 2], 0), (90, [11], [], 0), (91, [11], [], 1), (2, [10, 2, 9], [], 0), (3, [9, 7, 8], [], 0), (1271, [8, 0, 1], [0, 1], 0), (90, [8], [], -10999), (91, [8], [], 10999), (0, [7], [], 4), (22, [6, 5, 4], [0], 0), (90, [6], [], -1), (91, [6], [], 9999), (20, [5, 0], [0], 26), (0, [5], [], 300), (22, [4, 3, 1], [0], 0), (90, [4], [], 0), (91, [4], [], 1007), (20, [3, 0], [0], 83), (0, [3], [], 344), (6000, [0, 1, 2], [0], 0), (0, [0], [], 285), (90, [1], [], 0), (91, [1], [], 39), (90, [2], [], -2147483648), (91, [2], [], 2147483647)], (70, [24], [], 6048)) := vOk_inI fun ρ η f0 f1 f2 f3 f4 f5 f6 f7 f8 f9 f10 f11 f12 f13 f14 f15 f16 f17 f18 f19 f20 f21 f22 f23 f24 f25 f26 f27 f28 f29 f30 f31 f32 f33 f34 f35 f36 f37 f38 f39 f40 f41 f42 f43 => q_273_7 (n0 := ρ 2) (n1 := ρ 1) (n2 := ρ 0) (n3 := ρ 3) (n4 := ρ 4) (n5 := ρ 5) (n6 := ρ 6) (n7 := ρ 7) (n8 := ρ 8) (n9 := ρ 9) (n10 := ρ 10) (n11 := ρ 11) (n12 := ρ 12) (n13 := ρ 13) (n14 := ρ 14) (n15 := ρ 15) (n16 := ρ 16) (n17 := ρ 17) (n18 := ρ 18) (n19 := ρ 20) (n20 := ρ 21) (n21 := ρ 22) (n22 := ρ 23) (n23 := ρ 24) (H0 := η 0) (H1 := η 1) (H2 := η 2) f43 f42 f41 f40 f39 f38 f37 f36 f35 f34 f33 f32 f31 f30 f29 f28 f27 f26 f25 f24 f23 f22 f21 f20 f19 f18 f17 f16 f15 f14 f13 f12 f11 f10 f9 f8 f7 f6 f5 f4 f3 f2 f1 f0
theorem q_273_8 {n0 n1 n2 n3 n4 n5 n6 n7 n8 n9 n10 n11 n12 n13 n14 n15 n16 n17 n18 n19 n20 n21 n22 n23 n24 n25 n26 : Int} {H0 H1 H2 : gH} (f0 : n0 ≤ 2147483647) (f1 : (-2147483648) ≤ n0) (f2 : n1 ≤ 39) (f3 : 0 ≤ n1) (f4 : n2 = 285) (f5 : hWt T0 H0 ∧ preb_273 n2 n1 n0 H0) (f6 : n3 = 344) (f7 : n3 = hV H0 (n2).toNat 83) (f8 : n4 ≤ 1007) (f9 : 0 ≤ n4) (f10 : n4 = hV H0 (n3).toNat (n1).toNat) (f11 : n5 = 300) (f12 : n5 = hV H0 (n2).toNat 26) (f13 : n6 ≤ 9999) (f14 : (-1) ≤ n6) (f15 : n6 = hV H0 (n5).toNat (n4).toNat) (f16 : n7 = 4) (f17 : n8 ≤ 10999) (f18 : (-10999) ≤ n8) (f19 : (hLe T0 H0 H1 ∧ hFr s_271.2.2.2.2 H0 H1 ∧ ((0 : Int) = 0 → H1.length = H0.length) ∧ hWt T0 H1) ∧ True) (f20 : n9 = w32 (n7 * n8)) (f21 : n10 = w32 (n0 - n9)) (f22 : n11 ≤ 1) (f23 : 0 ≤ n11) (f24 : (hLe T0 H1 H2 ∧ hFr s_250.2.2.2.2 H1 H2 ∧ ((0 : Int) = 0 → H2.length = H1.length) ∧ hWt T0 H2) ∧ postb_250 n11 n2 n6 H1 H2) (f25 : n11 ≠ 0) (f26 : 0 ≤ n10) (f27 : n12 = 305) (f28 : n12 = hV H2 (n2).toNat 31) (f29 : n13 = 6) (f30 : n14 = w32 (n13 * n4)) (f31 : n15 = 1) (f32 : n16 = w32 (n14 + n15)) (f33 : n17 ≤ 9999) (f34 : (-1) ≤ n17) (f35 : n17 = hV H2 (n12).toNat (n16).toNat) (f36 : n18 = (-1)) (f37 : n17 ≠ n18) (f38 : n19 = 4) (f39 : n20 = 305) (f40 : n20 = hV H2 (n2).toNat 31) (f41 : n21 = 6) (f42 : n22 = w32 (n21 * n4)) (f43 : n23 = 1) (f44 : n24 = w32 (n22 + n23)) (f45 : n25 ≤ 9999) (f46 : (-1) ≤ n25) (f47 : n25 = hV H2 (n20).toNat (n24).toNat) (f48 : n26 = w32 (n19 * n25)) (f49 : n10 < n26) : 0 ≤ n6 := by
  unfold preb_273 at f5
  unfold postb_250 at f24
  have e0 : n4 = hV H0 344 (n1).toNat := (by rw [f6] at f10; exact f10 : n4 = hV H0 344 (n1).toNat)
  have e1 : n6 = hV H0 300 (n4).toNat := (by rw [f11] at f15; exact f15 : n6 = hV H0 300 (n4).toNat)
  have e4 : n17 = hV H0 305 (n16).toNat := (by rw [f27] at f35; exact f35 : n17 = hV H2 305 (n16).toNat).trans (((congrFun (fRow f24.1.2.1 305 kR_250_305) _)).trans ((congrFun (fRow f19.1.2.1 305 kR_271_305) _)))
  have e5 : n25 = hV H0 305 (n24).toNat := (by rw [f39] at f47; exact f47 : n25 = hV H2 305 (n24).toNat).trans (((congrFun (fRow f24.1.2.1 305 kR_250_305) _)).trans ((congrFun (fRow f19.1.2.1 305 kR_271_305) _)))
  have e8 : hV H2 285 64 = hV H0 285 64 := ((f24.1.2.1.1 285 64 kF_250_285_64)).trans (f19.1.2.1.1 285 64 kF_271_285_64)
  have e9 : (0 : Int) ≤ hV H0 285 82 ∧ hV H0 285 82 ≤ 40 := f5.1 285 82 _ _ kW_285_82
  have e10 : (0 : Int) ≤ hV H0 285 64 ∧ hV H0 285 64 ≤ 20 := bTo e8 (f24.1.2.2.2 285 64 _ _ kW_285_64)
  try simp only [e8] at f24
  have p0 := f5.2.1
  have p1 := f5.2.2.1
  have p2 := f5.2.2.2.1
  have p3 := f5.2.2.2.2
  have r1_0 := f24.2
  clear f7 f10 f12 f15 f28 f35 f40 f47 e8
  subst e0
  subst e1
  subst e4
  subst e5
  rw [f16] at f20
  rw [f29] at f30
  rw [f41] at f42
  rw [f38] at f48
  first
  | (have ix0 : n14 = 6 * (hV H0 344 (n1).toNat) := Eq.trans f30 (w32_iv (Iml 6 rfl (Iat f9 f8)) (by decide)); subst ix0; clear f30)
  | (have ix0 : n14 = 6 * (hV H0 344 (n1).toNat) := Eq.trans f30 (w32_id (by omega) (by omega)); subst ix0; clear f30)
  | (unfold w32 at f30; have ix0 : n14 = 6 * (hV H0 344 (n1).toNat) := (by omega); subst ix0)
  | skip
  first
  | (have ix1 : n16 = (6 * (hV H0 344 (n1).toNat)) + 1 := Eq.trans f32 (w32_iv (Iad (Iml 6 rfl (Iat f9 f8)) (IC 1)) (by decide)); subst ix1; clear f32)
  | (have ix1 : n16 = (6 * (hV H0 344 (n1).toNat)) + 1 := Eq.trans f32 (w32_id (by omega) (by omega)); subst ix1; clear f32)
  | (unfold w32 at f32; have ix1 : n16 = (6 * (hV H0 344 (n1).toNat)) + 1 := (by omega); subst ix1)
  | skip
  first
  | (have ix2 : n22 = 6 * (hV H0 344 (n1).toNat) := Eq.trans f42 (w32_iv (Iml 6 rfl (Iat f9 f8)) (by decide)); subst ix2; clear f42)
  | (have ix2 : n22 = 6 * (hV H0 344 (n1).toNat) := Eq.trans f42 (w32_id (by omega) (by omega)); subst ix2; clear f42)
  | (unfold w32 at f42; have ix2 : n22 = 6 * (hV H0 344 (n1).toNat) := (by omega); subst ix2)
  | skip
  first
  | (have ix3 : n24 = (6 * (hV H0 344 (n1).toNat)) + 1 := Eq.trans f44 (w32_iv (Iad (Iml 6 rfl (Iat f9 f8)) (IC 1)) (by decide)); subst ix3; clear f44)
  | (have ix3 : n24 = (6 * (hV H0 344 (n1).toNat)) + 1 := Eq.trans f44 (w32_id (by omega) (by omega)); subst ix3; clear f44)
  | (unfold w32 at f44; have ix3 : n24 = (6 * (hV H0 344 (n1).toNat)) + 1 := (by omega); subst ix3)
  | skip
  try unfold w32 at f20
  try unfold w32 at f21
  try unfold w32 at f30
  try unfold w32 at f32
  try unfold w32 at f42
  try unfold w32 at f44
  try unfold w32 at f48
  omega
theorem c_273_s_8 : vOkm T0 (eP e_273 L_273 A_273 mu_273 none) 3 ([(42, [10, 26], [], 0), (3, [26, 19, 25], [], 0), (22, [25, 20, 24], [2], 0), (90, [25], [], -1), (91, [25], [], 9999), (1, [24, 22, 23], [], 0), (0, [23], [], 1), (3, [22, 21, 4], [], 0), (0, [21], [], 6), (20, [20, 0], [2], 31), (0, [20], [], 305), (0, [19], [], 4), (41, [17, 18], [], 0), (0, [18], [], -1), (22, [17, 12, 16], [2], 0), (90, [17], [], -1), (91, [17], [], 9999), (1, [16, 14, 15], [], 0), (0, [15], [], 1), (3, [14, 13, 4], [], 0), (0, [13], [], 6), (20, [12, 0], [2], 31), (0, [12], [], 305), (33, [10], [], 0), (31, [11], [], 0), (1250, [11, 0, 6], [1, 2], 0), (90, [11], [], 0), (91, [11], [], 1), (2, [10, 2, 9], [], 0), (3, [9, 7, 8], [], 0), (1271, [8, 0, 1], [0, 1], 0), (90, [8], [], -10999), (91, [8], [], 10999), (0, [7], [], 4), (22, [6, 5, 4], [0], 0), (90, [6], [], -1), (91, [6], [], 9999), (20, [5, 0], [0], 26), (0, [5], [], 300), (22, [4, 3, 1], [0], 0), (90, [4], [], 0), (91, [4], [], 1007), (20, [3, 0], [0], 83), (0, [3], [], 344), (6000, [0, 1, 2], [0], 0), (0, [0], [], 285), (90, [1], [], 0), (91, [1], [], 39), (90, [2], [], -2147483648), (91, [2], [], 2147483647)], (90, [6], [], 0)) := vOk_inI fun ρ η f0 f1 f2 f3 f4 f5 f6 f7 f8 f9 f10 f11 f12 f13 f14 f15 f16 f17 f18 f19 f20 f21 f22 f23 f24 f25 f26 f27 f28 f29 f30 f31 f32 f33 f34 f35 f36 f37 f38 f39 f40 f41 f42 f43 f44 f45 f46 f47 f48 f49 => q_273_8 (n0 := ρ 2) (n1 := ρ 1) (n2 := ρ 0) (n3 := ρ 3) (n4 := ρ 4) (n5 := ρ 5) (n6 := ρ 6) (n7 := ρ 7) (n8 := ρ 8) (n9 := ρ 9) (n10 := ρ 10) (n11 := ρ 11) (n12 := ρ 12) (n13 := ρ 13) (n14 := ρ 14) (n15 := ρ 15) (n16 := ρ 16) (n17 := ρ 17) (n18 := ρ 18) (n19 := ρ 19) (n20 := ρ 20) (n21 := ρ 21) (n22 := ρ 22) (n23 := ρ 23) (n24 := ρ 24) (n25 := ρ 25) (n26 := ρ 26) (H0 := η 0) (H1 := η 1) (H2 := η 2) f49 f48 f47 f46 f45 f44 f43 f42 f41 f40 f39 f38 f37 f36 f35 f34 f33 f32 f31 f30 f29 f28 f27 f26 f25 f24 f23 f22 f21 f20 f19 f18 f17 f16 f15 f14 f13 f12 f11 f10 f9 f8 f7 f6 f5 f4 f3 f2 f1 f0
theorem q_273_9 {n0 n1 n2 n3 n4 n5 n6 n7 n8 n9 n10 n11 n12 n13 n14 n15 n16 n17 n18 n19 n20 n21 n22 n23 n24 n25 n26 : Int} {H0 H1 H2 : gH} (f0 : n0 ≤ 2147483647) (f1 : (-2147483648) ≤ n0) (f2 : n1 ≤ 39) (f3 : 0 ≤ n1) (f4 : n2 = 285) (f5 : hWt T0 H0 ∧ preb_273 n2 n1 n0 H0) (f6 : n3 = 344) (f7 : n3 = hV H0 (n2).toNat 83) (f8 : n4 ≤ 1007) (f9 : 0 ≤ n4) (f10 : n4 = hV H0 (n3).toNat (n1).toNat) (f11 : n5 = 300) (f12 : n5 = hV H0 (n2).toNat 26) (f13 : n6 ≤ 9999) (f14 : (-1) ≤ n6) (f15 : n6 = hV H0 (n5).toNat (n4).toNat) (f16 : n7 = 4) (f17 : n8 ≤ 10999) (f18 : (-10999) ≤ n8) (f19 : (hLe T0 H0 H1 ∧ hFr s_271.2.2.2.2 H0 H1 ∧ ((0 : Int) = 0 → H1.length = H0.length) ∧ hWt T0 H1) ∧ True) (f20 : n9 = w32 (n7 * n8)) (f21 : n10 = w32 (n0 - n9)) (f22 : n11 ≤ 1) (f23 : 0 ≤ n11) (f24 : (hLe T0 H1 H2 ∧ hFr s_250.2.2.2.2 H1 H2 ∧ ((0 : Int) = 0 → H2.length = H1.length) ∧ hWt T0 H2) ∧ postb_250 n11 n2 n6 H1 H2) (f25 : n11 ≠ 0) (f26 : 0 ≤ n10) (f27 : n12 = 305) (f28 : n12 = hV H2 (n2).toNat 31) (f29 : n13 = 6) (f30 : n14 = w32 (n13 * n4)) (f31 : n15 = 1) (f32 : n16 = w32 (n14 + n15)) (f33 : n17 ≤ 9999) (f34 : (-1) ≤ n17) (f35 : n17 = hV H2 (n12).toNat (n16).toNat) (f36 : n18 = (-1)) (f37 : n17 ≠ n18) (f38 : n19 = 4) (f39 : n20 = 305) (f40 : n20 = hV H2 (n2).toNat 31) (f41 : n21 = 6) (f42 : n22 = w32 (n21 * n4)) (f43 : n23 = 1) (f44 : n24 = w32 (n22 + n23)) (f45 : n25 ≤ 9999) (f46 : (-1) ≤ n25) (f47 : n25 = hV H2 (n20).toNat (n24).toNat) (f48 : n26 = w32 (n19 * n25)) (f49 : n10 < n26) : n6 ≤ 19 := by
  unfold preb_273 at f5
  unfold postb_250 at f24
  have e0 : n4 = hV H0 344 (n1).toNat := (by rw [f6] at f10; exact f10 : n4 = hV H0 344 (n1).toNat)
  have e1 : n6 = hV H0 300 (n4).toNat := (by rw [f11] at f15; exact f15 : n6 = hV H0 300 (n4).toNat)
  have e4 : n17 = hV H0 305 (n16).toNat := (by rw [f27] at f35; exact f35 : n17 = hV H2 305 (n16).toNat).trans (((congrFun (fRow f24.1.2.1 305 kR_250_305) _)).trans ((congrFun (fRow f19.1.2.1 305 kR_271_305) _)))
  have e5 : n25 = hV H0 305 (n24).toNat := (by rw [f39] at f47; exact f47 : n25 = hV H2 305 (n24).toNat).trans (((congrFun (fRow f24.1.2.1 305 kR_250_305) _)).trans ((congrFun (fRow f19.1.2.1 305 kR_271_305) _)))
  have e8 : hV H2 285 64 = hV H0 285 64 := ((f24.1.2.1.1 285 64 kF_250_285_64)).trans (f19.1.2.1.1 285 64 kF_271_285_64)
  have e9 : (0 : Int) ≤ hV H0 285 82 ∧ hV H0 285 82 ≤ 40 := f5.1 285 82 _ _ kW_285_82
  have e10 : (0 : Int) ≤ hV H0 285 64 ∧ hV H0 285 64 ≤ 20 := bTo e8 (f24.1.2.2.2 285 64 _ _ kW_285_64)
  try simp only [e8] at f24
  have p0 := f5.2.1
  have p1 := f5.2.2.1
  have p2 := f5.2.2.2.1
  have p3 := f5.2.2.2.2
  have r1_0 := f24.2
  clear f7 f10 f12 f15 f28 f35 f40 f47 e8
  subst e0
  subst e1
  subst e4
  subst e5
  rw [f16] at f20
  rw [f29] at f30
  rw [f41] at f42
  rw [f38] at f48
  first
  | (have ix0 : n14 = 6 * (hV H0 344 (n1).toNat) := Eq.trans f30 (w32_iv (Iml 6 rfl (Iat f9 f8)) (by decide)); subst ix0; clear f30)
  | (have ix0 : n14 = 6 * (hV H0 344 (n1).toNat) := Eq.trans f30 (w32_id (by omega) (by omega)); subst ix0; clear f30)
  | (unfold w32 at f30; have ix0 : n14 = 6 * (hV H0 344 (n1).toNat) := (by omega); subst ix0)
  | skip
  first
  | (have ix1 : n16 = (6 * (hV H0 344 (n1).toNat)) + 1 := Eq.trans f32 (w32_iv (Iad (Iml 6 rfl (Iat f9 f8)) (IC 1)) (by decide)); subst ix1; clear f32)
  | (have ix1 : n16 = (6 * (hV H0 344 (n1).toNat)) + 1 := Eq.trans f32 (w32_id (by omega) (by omega)); subst ix1; clear f32)
  | (unfold w32 at f32; have ix1 : n16 = (6 * (hV H0 344 (n1).toNat)) + 1 := (by omega); subst ix1)
  | skip
  first
  | (have ix2 : n22 = 6 * (hV H0 344 (n1).toNat) := Eq.trans f42 (w32_iv (Iml 6 rfl (Iat f9 f8)) (by decide)); subst ix2; clear f42)
  | (have ix2 : n22 = 6 * (hV H0 344 (n1).toNat) := Eq.trans f42 (w32_id (by omega) (by omega)); subst ix2; clear f42)
  | (unfold w32 at f42; have ix2 : n22 = 6 * (hV H0 344 (n1).toNat) := (by omega); subst ix2)
  | skip
  first
  | (have ix3 : n24 = (6 * (hV H0 344 (n1).toNat)) + 1 := Eq.trans f44 (w32_iv (Iad (Iml 6 rfl (Iat f9 f8)) (IC 1)) (by decide)); subst ix3; clear f44)
  | (have ix3 : n24 = (6 * (hV H0 344 (n1).toNat)) + 1 := Eq.trans f44 (w32_id (by omega) (by omega)); subst ix3; clear f44)
  | (unfold w32 at f44; have ix3 : n24 = (6 * (hV H0 344 (n1).toNat)) + 1 := (by omega); subst ix3)
  | skip
  try unfold w32 at f20
  try unfold w32 at f21
  try unfold w32 at f30
  try unfold w32 at f32
  try unfold w32 at f42
  try unfold w32 at f44
  try unfold w32 at f48
  omega
theorem c_273_s_9 : vOkm T0 (eP e_273 L_273 A_273 mu_273 none) 3 ([(42, [10, 26], [], 0), (3, [26, 19, 25], [], 0), (22, [25, 20, 24], [2], 0), (90, [25], [], -1), (91, [25], [], 9999), (1, [24, 22, 23], [], 0), (0, [23], [], 1), (3, [22, 21, 4], [], 0), (0, [21], [], 6), (20, [20, 0], [2], 31), (0, [20], [], 305), (0, [19], [], 4), (41, [17, 18], [], 0), (0, [18], [], -1), (22, [17, 12, 16], [2], 0), (90, [17], [], -1), (91, [17], [], 9999), (1, [16, 14, 15], [], 0), (0, [15], [], 1), (3, [14, 13, 4], [], 0), (0, [13], [], 6), (20, [12, 0], [2], 31), (0, [12], [], 305), (33, [10], [], 0), (31, [11], [], 0), (1250, [11, 0, 6], [1, 2], 0), (90, [11], [], 0), (91, [11], [], 1), (2, [10, 2, 9], [], 0), (3, [9, 7, 8], [], 0), (1271, [8, 0, 1], [0, 1], 0), (90, [8], [], -10999), (91, [8], [], 10999), (0, [7], [], 4), (22, [6, 5, 4], [0], 0), (90, [6], [], -1), (91, [6], [], 9999), (20, [5, 0], [0], 26), (0, [5], [], 300), (22, [4, 3, 1], [0], 0), (90, [4], [], 0), (91, [4], [], 1007), (20, [3, 0], [0], 83), (0, [3], [], 344), (6000, [0, 1, 2], [0], 0), (0, [0], [], 285), (90, [1], [], 0), (91, [1], [], 39), (90, [2], [], -2147483648), (91, [2], [], 2147483647)], (91, [6], [], 19)) := vOk_inI fun ρ η f0 f1 f2 f3 f4 f5 f6 f7 f8 f9 f10 f11 f12 f13 f14 f15 f16 f17 f18 f19 f20 f21 f22 f23 f24 f25 f26 f27 f28 f29 f30 f31 f32 f33 f34 f35 f36 f37 f38 f39 f40 f41 f42 f43 f44 f45 f46 f47 f48 f49 => q_273_9 (n0 := ρ 2) (n1 := ρ 1) (n2 := ρ 0) (n3 := ρ 3) (n4 := ρ 4) (n5 := ρ 5) (n6 := ρ 6) (n7 := ρ 7) (n8 := ρ 8) (n9 := ρ 9) (n10 := ρ 10) (n11 := ρ 11) (n12 := ρ 12) (n13 := ρ 13) (n14 := ρ 14) (n15 := ρ 15) (n16 := ρ 16) (n17 := ρ 17) (n18 := ρ 18) (n19 := ρ 19) (n20 := ρ 20) (n21 := ρ 21) (n22 := ρ 22) (n23 := ρ 23) (n24 := ρ 24) (n25 := ρ 25) (n26 := ρ 26) (H0 := η 0) (H1 := η 1) (H2 := η 2) f49 f48 f47 f46 f45 f44 f43 f42 f41 f40 f39 f38 f37 f36 f35 f34 f33 f32 f31 f30 f29 f28 f27 f26 f25 f24 f23 f22 f21 f20 f19 f18 f17 f16 f15 f14 f13 f12 f11 f10 f9 f8 f7 f6 f5 f4 f3 f2 f1 f0
theorem q_273_10 {n0 n1 n2 n3 n4 n5 n6 n7 n8 n9 n10 n11 n12 n13 n14 n15 n16 n17 n18 n19 n20 n21 n22 n23 n24 n25 n26 : Int} {H0 H1 H2 : gH} (f0 : n0 ≤ 2147483647) (f1 : (-2147483648) ≤ n0) (f2 : n1 ≤ 39) (f3 : 0 ≤ n1) (f4 : n2 = 285) (f5 : hWt T0 H0 ∧ preb_273 n2 n1 n0 H0) (f6 : n3 = 344) (f7 : n3 = hV H0 (n2).toNat 83) (f8 : n4 ≤ 1007) (f9 : 0 ≤ n4) (f10 : n4 = hV H0 (n3).toNat (n1).toNat) (f11 : n5 = 300) (f12 : n5 = hV H0 (n2).toNat 26) (f13 : n6 ≤ 9999) (f14 : (-1) ≤ n6) (f15 : n6 = hV H0 (n5).toNat (n4).toNat) (f16 : n7 = 4) (f17 : n8 ≤ 10999) (f18 : (-10999) ≤ n8) (f19 : (hLe T0 H0 H1 ∧ hFr s_271.2.2.2.2 H0 H1 ∧ ((0 : Int) = 0 → H1.length = H0.length) ∧ hWt T0 H1) ∧ True) (f20 : n9 = w32 (n7 * n8)) (f21 : n10 = w32 (n0 - n9)) (f22 : n11 ≤ 1) (f23 : 0 ≤ n11) (f24 : (hLe T0 H1 H2 ∧ hFr s_250.2.2.2.2 H1 H2 ∧ ((0 : Int) = 0 → H2.length = H1.length) ∧ hWt T0 H2) ∧ postb_250 n11 n2 n6 H1 H2) (f25 : n11 ≠ 0) (f26 : 0 ≤ n10) (f27 : n12 = 305) (f28 : n12 = hV H2 (n2).toNat 31) (f29 : n13 = 6) (f30 : n14 = w32 (n13 * n4)) (f31 : n15 = 1) (f32 : n16 = w32 (n14 + n15)) (f33 : n17 ≤ 9999) (f34 : (-1) ≤ n17) (f35 : n17 = hV H2 (n12).toNat (n16).toNat) (f36 : n18 = (-1)) (f37 : n17 ≠ n18) (f38 : n19 = 4) (f39 : n20 = 305) (f40 : n20 = hV H2 (n2).toNat 31) (f41 : n21 = 6) (f42 : n22 = w32 (n21 * n4)) (f43 : n23 = 1) (f44 : n24 = w32 (n22 + n23)) (f45 : n25 ≤ 9999) (f46 : (-1) ≤ n25) (f47 : n25 = hV H2 (n20).toNat (n24).toNat) (f48 : n26 = w32 (n19 * n25)) (f49 : n10 < n26) : Ab_273_75 n2 n1 n0 n2 n1 n0 n4 n6 n10 H0 H2 ∧ ∀ q, none = some q → mub_273_75 n2 n1 n0 n2 n1 n0 n4 n6 n10 H0 H2 < q := by
  unfold preb_273 at f5
  unfold postb_250 at f24
  unfold Ab_273_75
  have e0 : n4 = hV H0 344 (n1).toNat := (by rw [f6] at f10; exact f10 : n4 = hV H0 344 (n1).toNat)
  have e1 : n6 = hV H0 300 (n4).toNat := (by rw [f11] at f15; exact f15 : n6 = hV H0 300 (n4).toNat)
  have e4 : n17 = hV H0 305 (n16).toNat := (by rw [f27] at f35; exact f35 : n17 = hV H2 305 (n16).toNat).trans (((congrFun (fRow f24.1.2.1 305 kR_250_305) _)).trans ((congrFun (fRow f19.1.2.1 305 kR_271_305) _)))
  have e5 : n25 = hV H0 305 (n24).toNat := (by rw [f39] at f47; exact f47 : n25 = hV H2 305 (n24).toNat).trans (((congrFun (fRow f24.1.2.1 305 kR_250_305) _)).trans ((congrFun (fRow f19.1.2.1 305 kR_271_305) _)))
  have e8 : hV H2 285 64 = hV H0 285 64 := ((f24.1.2.1.1 285 64 kF_250_285_64)).trans (f19.1.2.1.1 285 64 kF_271_285_64)
  have e11 : hV H2 300 = hV H0 300 := (fRow f24.1.2.1 300 kR_250_300).trans (fRow f19.1.2.1 300 kR_271_300)
  have e14 : hV H2 344 = hV H0 344 := (fRow f24.1.2.1 344 kR_250_344).trans (fRow f19.1.2.1 344 kR_271_344)
  have e15 : (0 : Int) ≤ hV H0 285 82 ∧ hV H0 285 82 ≤ 40 := f5.1 285 82 _ _ kW_285_82
  have e16 : (0 : Int) ≤ hV H0 285 64 ∧ hV H0 285 64 ≤ 20 := bTo e8 (f24.1.2.2.2 285 64 _ _ kW_285_64)
  try simp only [e8] at f24
  try simp only [e8, e11, e14]
  have p0 := f5.2.1
  have p1 := f5.2.2.1
  have p2 := f5.2.2.2.1
  have p3 := f5.2.2.2.2
  have r1_0 := f24.2
  clear f7 f10 f12 f15 f28 f35 f40 f47 e8 e11 e14
  subst e0
  subst e1
  subst e4
  subst e5
  rw [f16] at f20
  rw [f29] at f30
  rw [f41] at f42
  rw [f38] at f48
  first
  | (have ix0 : n9 = 4 * n8 := Eq.trans f20 (w32_iv (Iml 4 rfl (Iat f18 f17)) (by decide)); subst ix0; clear f20)
  | (have ix0 : n9 = 4 * n8 := Eq.trans f20 (w32_id (by omega) (by omega)); subst ix0; clear f20)
  | (unfold w32 at f20; have ix0 : n9 = 4 * n8 := (by omega); subst ix0)
  | skip
  first
  | (have ix1 : n10 = n0 - ((4 * n8)) := Eq.trans f21 (w32_id (by omega) (by omega)); subst ix1; clear f21)
  | (unfold w32 at f21; have ix1 : n10 = n0 - ((4 * n8)) := (by omega); subst ix1)
  | skip
  first
  | (have ix2 : n14 = 6 * (hV H0 344 (n1).toNat) := Eq.trans f30 (w32_iv (Iml 6 rfl (Iat f9 f8)) (by decide)); subst ix2; clear f30)
  | (have ix2 : n14 = 6 * (hV H0 344 (n1).toNat) := Eq.trans f30 (w32_id (by omega) (by omega)); subst ix2; clear f30)
  | (unfold w32 at f30; have ix2 : n14 = 6 * (hV H0 344 (n1).toNat) := (by omega); subst ix2)
  | skip
  first
  | (have ix3 : n16 = (6 * (hV H0 344 (n1).toNat)) + 1 := Eq.trans f32 (w32_iv (Iad (Iml 6 rfl (Iat f9 f8)) (IC 1)) (by decide)); subst ix3; clear f32)
  | (have ix3 : n16 = (6 * (hV H0 344 (n1).toNat)) + 1 := Eq.trans f32 (w32_id (by omega) (by omega)); subst ix3; clear f32)
  | (unfold w32 at f32; have ix3 : n16 = (6 * (hV H0 344 (n1).toNat)) + 1 := (by omega); subst ix3)
  | skip
  first
  | (have ix4 : n22 = 6 * (hV H0 344 (n1).toNat) := Eq.trans f42 (w32_iv (Iml 6 rfl (Iat f9 f8)) (by decide)); subst ix4; clear f42)
  | (have ix4 : n22 = 6 * (hV H0 344 (n1).toNat) := Eq.trans f42 (w32_id (by omega) (by omega)); subst ix4; clear f42)
  | (unfold w32 at f42; have ix4 : n22 = 6 * (hV H0 344 (n1).toNat) := (by omega); subst ix4)
  | skip
  first
  | (have ix5 : n24 = (6 * (hV H0 344 (n1).toNat)) + 1 := Eq.trans f44 (w32_iv (Iad (Iml 6 rfl (Iat f9 f8)) (IC 1)) (by decide)); subst ix5; clear f44)
  | (have ix5 : n24 = (6 * (hV H0 344 (n1).toNat)) + 1 := Eq.trans f44 (w32_id (by omega) (by omega)); subst ix5; clear f44)
  | (unfold w32 at f44; have ix5 : n24 = (6 * (hV H0 344 (n1).toNat)) + 1 := (by omega); subst ix5)
  | skip
  try unfold w32 at f20
  try unfold w32 at f21
  try unfold w32 at f30
  try unfold w32 at f32
  try unfold w32 at f42
  try unfold w32 at f44
  try unfold w32 at f48
  refine ⟨?_, fun q hq => ?_⟩
  · refine ⟨?_, ?_, ?_, ?_, ?_, ?_⟩ <;> first | assumption | omega | trivial
  · exact nomatch hq
theorem c_273_s_10 : vOkm T0 (eP e_273 L_273 A_273 mu_273 none) 3 ([(42, [10, 26], [], 0), (3, [26, 19, 25], [], 0), (22, [25, 20, 24], [2], 0), (90, [25], [], -1), (91, [25], [], 9999), (1, [24, 22, 23], [], 0), (0, [23], [], 1), (3, [22, 21, 4], [], 0), (0, [21], [], 6), (20, [20, 0], [2], 31), (0, [20], [], 305), (0, [19], [], 4), (41, [17, 18], [], 0), (0, [18], [], -1), (22, [17, 12, 16], [2], 0), (90, [17], [], -1), (91, [17], [], 9999), (1, [16, 14, 15], [], 0), (0, [15], [], 1), (3, [14, 13, 4], [], 0), (0, [13], [], 6), (20, [12, 0], [2], 31), (0, [12], [], 305), (33, [10], [], 0), (31, [11], [], 0), (1250, [11, 0, 6], [1, 2], 0), (90, [11], [], 0), (91, [11], [], 1), (2, [10, 2, 9], [], 0), (3, [9, 7, 8], [], 0), (1271, [8, 0, 1], [0, 1], 0), (90, [8], [], -10999), (91, [8], [], 10999), (0, [7], [], 4), (22, [6, 5, 4], [0], 0), (90, [6], [], -1), (91, [6], [], 9999), (20, [5, 0], [0], 26), (0, [5], [], 300), (22, [4, 3, 1], [0], 0), (90, [4], [], 0), (91, [4], [], 1007), (20, [3, 0], [0], 83), (0, [3], [], 344), (6000, [0, 1, 2], [0], 0), (0, [0], [], 285), (90, [1], [], 0), (91, [1], [], 39), (90, [2], [], -2147483648), (91, [2], [], 2147483647)], (4000, [0, 1, 2, 4, 6, 10], [2], 75)) := vOk_inI fun ρ η f0 f1 f2 f3 f4 f5 f6 f7 f8 f9 f10 f11 f12 f13 f14 f15 f16 f17 f18 f19 f20 f21 f22 f23 f24 f25 f26 f27 f28 f29 f30 f31 f32 f33 f34 f35 f36 f37 f38 f39 f40 f41 f42 f43 f44 f45 f46 f47 f48 f49 => q_273_10 (n0 := ρ 2) (n1 := ρ 1) (n2 := ρ 0) (n3 := ρ 3) (n4 := ρ 4) (n5 := ρ 5) (n6 := ρ 6) (n7 := ρ 7) (n8 := ρ 8) (n9 := ρ 9) (n10 := ρ 10) (n11 := ρ 11) (n12 := ρ 12) (n13 := ρ 13) (n14 := ρ 14) (n15 := ρ 15) (n16 := ρ 16) (n17 := ρ 17) (n18 := ρ 18) (n19 := ρ 19) (n20 := ρ 20) (n21 := ρ 21) (n22 := ρ 22) (n23 := ρ 23) (n24 := ρ 24) (n25 := ρ 25) (n26 := ρ 26) (H0 := η 0) (H1 := η 1) (H2 := η 2) f49 f48 f47 f46 f45 f44 f43 f42 f41 f40 f39 f38 f37 f36 f35 f34 f33 f32 f31 f30 f29 f28 f27 f26 f25 f24 f23 f22 f21 f20 f19 f18 f17 f16 f15 f14 f13 f12 f11 f10 f9 f8 f7 f6 f5 f4 f3 f2 f1 f0
theorem q_273_11 {n0 n1 n2 n3 n4 n5 n6 n7 n8 n9 n10 n11 n12 n13 n14 n15 n16 n17 n18 n19 n20 n21 n22 n23 n24 n25 n26 n27 : Int} {H0 H1 H2 : gH} (f0 : n0 ≤ 2147483647) (f1 : (-2147483648) ≤ n0) (f2 : n1 ≤ 39) (f3 : 0 ≤ n1) (f4 : n2 = 285) (f5 : hWt T0 H0 ∧ preb_273 n2 n1 n0 H0) (f6 : n3 = 344) (f7 : n3 = hV H0 (n2).toNat 83) (f8 : n4 ≤ 1007) (f9 : 0 ≤ n4) (f10 : n4 = hV H0 (n3).toNat (n1).toNat) (f11 : n5 = 300) (f12 : n5 = hV H0 (n2).toNat 26) (f13 : n6 ≤ 9999) (f14 : (-1) ≤ n6) (f15 : n6 = hV H0 (n5).toNat (n4).toNat) (f16 : n7 = 4) (f17 : n8 ≤ 10999) (f18 : (-10999) ≤ n8) (f19 : (hLe T0 H0 H1 ∧ hFr s_271.2.2.2.2 H0 H1 ∧ ((0 : Int) = 0 → H1.length = H0.length) ∧ hWt T0 H1) ∧ True) (f20 : n9 = w32 (n7 * n8)) (f21 : n10 = w32 (n0 - n9)) (f22 : n11 ≤ 1) (f23 : 0 ≤ n11) (f24 : (hLe T0 H1 H2 ∧ hFr s_250.2.2.2.2 H1 H2 ∧ ((0 : Int) = 0 → H2.length = H1.length) ∧ hWt T0 H2) ∧ postb_250 n11 n2 n6 H1 H2) (f25 : n11 ≠ 0) (f26 : 0 ≤ n10) (f27 : n12 = 305) (f28 : n12 = hV H2 (n2).toNat 31) (f29 : n13 = 6) (f30 : n14 = w32 (n13 * n4)) (f31 : n15 = 1) (f32 : n16 = w32 (n14 + n15)) (f33 : n17 ≤ 9999) (f34 : (-1) ≤ n17) (f35 : n17 = hV H2 (n12).toNat (n16).toNat) (f36 : n18 = (-1)) (f37 : n17 ≠ n18) (f38 : n19 = 4) (f39 : n20 = 305) (f40 : n20 = hV H2 (n2).toNat 31) (f41 : n21 = 6) (f42 : n22 = w32 (n21 * n4)) (f43 : n23 = 1) (f44 : n24 = w32 (n22 + n23)) (f45 : n25 ≤ 9999) (f46 : (-1) ≤ n25) (f47 : n25 = hV H2 (n20).toNat (n24).toNat) (f48 : n26 = w32 (n19 * n25)) (f49 : n26 ≤ n10) (f50 : n27 = 0) : postb_273 n27 n2 n1 n0 H0 H2 := by
  unfold preb_273 at f5
  unfold postb_250 at f24
  unfold postb_273
  have e0 : n4 = hV H0 344 (n1).toNat := (by rw [f6] at f10; exact f10 : n4 = hV H0 344 (n1).toNat)
  have e1 : n6 = hV H0 300 (n4).toNat := (by rw [f11] at f15; exact f15 : n6 = hV H0 300 (n4).toNat)
  have e4 : n17 = hV H0 305 (n16).toNat := (by rw [f27] at f35; exact f35 : n17 = hV H2 305 (n16).toNat).trans (((congrFun (fRow f24.1.2.1 305 kR_250_305) _)).trans ((congrFun (fRow f19.1.2.1 305 kR_271_305) _)))
  have e5 : n25 = hV H0 305 (n24).toNat := (by rw [f39] at f47; exact f47 : n25 = hV H2 305 (n24).toNat).trans (((congrFun (fRow f24.1.2.1 305 kR_250_305) _)).trans ((congrFun (fRow f19.1.2.1 305 kR_271_305) _)))
  have e8 : hV H2 285 64 = hV H0 285 64 := ((f24.1.2.1.1 285 64 kF_250_285_64)).trans (f19.1.2.1.1 285 64 kF_271_285_64)
  have e11 : hV H2 300 = hV H0 300 := (fRow f24.1.2.1 300 kR_250_300).trans (fRow f19.1.2.1 300 kR_271_300)
  have e14 : hV H2 344 = hV H0 344 := (fRow f24.1.2.1 344 kR_250_344).trans (fRow f19.1.2.1 344 kR_271_344)
  have e15 : (0 : Int) ≤ hV H0 285 82 ∧ hV H0 285 82 ≤ 40 := f5.1 285 82 _ _ kW_285_82
  have e16 : (0 : Int) ≤ hV H0 285 64 ∧ hV H0 285 64 ≤ 20 := bTo e8 (f24.1.2.2.2 285 64 _ _ kW_285_64)
  try simp only [e8] at f24
  try simp only [e8, e11, e14]
  have p0 := f5.2.1
  have p1 := f5.2.2.1
  have p2 := f5.2.2.2.1
  have p3 := f5.2.2.2.2
  have r1_0 := f24.2
  clear f7 f10 f12 f15 f28 f35 f40 f47 e8 e11 e14
  subst e0
  subst e1
  subst e4
  subst e5
  rw [f16] at f20
  rw [f29] at f30
  rw [f41] at f42
  rw [f38] at f48
  first
  | (have ix0 : n14 = 6 * (hV H0 344 (n1).toNat) := Eq.trans f30 (w32_iv (Iml 6 rfl (Iat f9 f8)) (by decide)); subst ix0; clear f30)
  | (have ix0 : n14 = 6 * (hV H0 344 (n1).toNat) := Eq.trans f30 (w32_id (by omega) (by omega)); subst ix0; clear f30)
  | (unfold w32 at f30; have ix0 : n14 = 6 * (hV H0 344 (n1).toNat) := (by omega); subst ix0)
  | skip
  first
  | (have ix1 : n16 = (6 * (hV H0 344 (n1).toNat)) + 1 := Eq.trans f32 (w32_iv (Iad (Iml 6 rfl (Iat f9 f8)) (IC 1)) (by decide)); subst ix1; clear f32)
  | (have ix1 : n16 = (6 * (hV H0 344 (n1).toNat)) + 1 := Eq.trans f32 (w32_id (by omega) (by omega)); subst ix1; clear f32)
  | (unfold w32 at f32; have ix1 : n16 = (6 * (hV H0 344 (n1).toNat)) + 1 := (by omega); subst ix1)
  | skip
  first
  | (have ix2 : n22 = 6 * (hV H0 344 (n1).toNat) := Eq.trans f42 (w32_iv (Iml 6 rfl (Iat f9 f8)) (by decide)); subst ix2; clear f42)
  | (have ix2 : n22 = 6 * (hV H0 344 (n1).toNat) := Eq.trans f42 (w32_id (by omega) (by omega)); subst ix2; clear f42)
  | (unfold w32 at f42; have ix2 : n22 = 6 * (hV H0 344 (n1).toNat) := (by omega); subst ix2)
  | skip
  first
  | (have ix3 : n24 = (6 * (hV H0 344 (n1).toNat)) + 1 := Eq.trans f44 (w32_iv (Iad (Iml 6 rfl (Iat f9 f8)) (IC 1)) (by decide)); subst ix3; clear f44)
  | (have ix3 : n24 = (6 * (hV H0 344 (n1).toNat)) + 1 := Eq.trans f44 (w32_id (by omega) (by omega)); subst ix3; clear f44)
  | (unfold w32 at f44; have ix3 : n24 = (6 * (hV H0 344 (n1).toNat)) + 1 := (by omega); subst ix3)
  | skip
  try unfold w32 at f20
  try unfold w32 at f21
  try unfold w32 at f30
  try unfold w32 at f32
  try unfold w32 at f42
  try unfold w32 at f44
  try unfold w32 at f48
  first | assumption | omega | trivial
theorem c_273_s_11 : vOkm T0 (eP e_273 L_273 A_273 mu_273 none) 3 ([(0, [27], [], 0), (43, [10, 26], [], 0), (3, [26, 19, 25], [], 0), (22, [25, 20, 24], [2], 0), (90, [25], [], -1), (91, [25], [], 9999), (1, [24, 22, 23], [], 0), (0, [23], [], 1), (3, [22, 21, 4], [], 0), (0, [21], [], 6), (20, [20, 0], [2], 31), (0, [20], [], 305), (0, [19], [], 4), (41, [17, 18], [], 0), (0, [18], [], -1), (22, [17, 12, 16], [2], 0), (90, [17], [], -1), (91, [17], [], 9999), (1, [16, 14, 15], [], 0), (0, [15], [], 1), (3, [14, 13, 4], [], 0), (0, [13], [], 6), (20, [12, 0], [2], 31), (0, [12], [], 305), (33, [10], [], 0), (31, [11], [], 0), (1250, [11, 0, 6], [1, 2], 0), (90, [11], [], 0), (91, [11], [], 1), (2, [10, 2, 9], [], 0), (3, [9, 7, 8], [], 0), (1271, [8, 0, 1], [0, 1], 0), (90, [8], [], -10999), (91, [8], [], 10999), (0, [7], [], 4), (22, [6, 5, 4], [0], 0), (90, [6], [], -1), (91, [6], [], 9999), (20, [5, 0], [0], 26), (0, [5], [], 300), (22, [4, 3, 1], [0], 0), (90, [4], [], 0), (91, [4], [], 1007), (20, [3, 0], [0], 83), (0, [3], [], 344), (6000, [0, 1, 2], [0], 0), (0, [0], [], 285), (90, [1], [], 0), (91, [1], [], 39), (90, [2], [], -2147483648), (91, [2], [], 2147483647)], (3000, [27], [2], 74)) := vOk_inI fun ρ η f0 f1 f2 f3 f4 f5 f6 f7 f8 f9 f10 f11 f12 f13 f14 f15 f16 f17 f18 f19 f20 f21 f22 f23 f24 f25 f26 f27 f28 f29 f30 f31 f32 f33 f34 f35 f36 f37 f38 f39 f40 f41 f42 f43 f44 f45 f46 f47 f48 f49 f50 => q_273_11 (n0 := ρ 2) (n1 := ρ 1) (n2 := ρ 0) (n3 := ρ 3) (n4 := ρ 4) (n5 := ρ 5) (n6 := ρ 6) (n7 := ρ 7) (n8 := ρ 8) (n9 := ρ 9) (n10 := ρ 10) (n11 := ρ 11) (n12 := ρ 12) (n13 := ρ 13) (n14 := ρ 14) (n15 := ρ 15) (n16 := ρ 16) (n17 := ρ 17) (n18 := ρ 18) (n19 := ρ 19) (n20 := ρ 20) (n21 := ρ 21) (n22 := ρ 22) (n23 := ρ 23) (n24 := ρ 24) (n25 := ρ 25) (n26 := ρ 26) (n27 := ρ 27) (H0 := η 0) (H1 := η 1) (H2 := η 2) f50 f49 f48 f47 f46 f45 f44 f43 f42 f41 f40 f39 f38 f37 f36 f35 f34 f33 f32 f31 f30 f29 f28 f27 f26 f25 f24 f23 f22 f21 f20 f19 f18 f17 f16 f15 f14 f13 f12 f11 f10 f9 f8 f7 f6 f5 f4 f3 f2 f1 f0
def p_273_s : List vG := [([(22, [6, 5, 4], [0], 0), (90, [6], [], -1), (91, [6], [], 9999), (20, [5, 0], [0], 26), (0, [5], [], 300), (22, [4, 3, 1], [0], 0), (90, [4], [], 0), (91, [4], [], 1007), (20, [3, 0], [0], 83), (0, [3], [], 344), (6000, [0, 1, 2], [0], 0), (0, [0], [], 285), (90, [1], [], 0), (91, [1], [], 39), (90, [2], [], -2147483648), (91, [2], [], 2147483647)], (2271, [0, 1], [0], 0)),
  ([(0, [12], [], 0), (30, [11], [], 0), (1250, [11, 0, 6], [1, 2], 0), (90, [11], [], 0), (91, [11], [], 1), (2, [10, 2, 9], [], 0), (3, [9, 7, 8], [], 0), (1271, [8, 0, 1], [0, 1], 0), (90, [8], [], -10999), (91, [8], [], 10999), (0, [7], [], 4), (22, [6, 5, 4], [0], 0), (90, [6], [], -1), (91, [6], [], 9999), (20, [5, 0], [0], 26), (0, [5], [], 300), (22, [4, 3, 1], [0], 0), (90, [4], [], 0), (91, [4], [], 1007), (20, [3, 0], [0], 83), (0, [3], [], 344), (6000, [0, 1, 2], [0], 0), (0, [0], [], 285), (90, [1], [], 0), (91, [1], [], 39), (90, [2], [], -2147483648), (91, [2], [], 2147483647)], (3000, [12], [2], 74)),
  ([(0, [12], [], 0), (32, [10], [], 0), (31, [11], [], 0), (1250, [11, 0, 6], [1, 2], 0), (90, [11], [], 0), (91, [11], [], 1), (2, [10, 2, 9], [], 0), (3, [9, 7, 8], [], 0), (1271, [8, 0, 1], [0, 1], 0), (90, [8], [], -10999), (91, [8], [], 10999), (0, [7], [], 4), (22, [6, 5, 4], [0], 0), (90, [6], [], -1), (91, [6], [], 9999), (20, [5, 0], [0], 26), (0, [5], [], 300), (22, [4, 3, 1], [0], 0), (90, [4], [], 0), (91, [4], [], 1007), (20, [3, 0], [0], 83), (0, [3], [], 344), (6000, [0, 1, 2], [0], 0), (0, [0], [], 285), (90, [1], [], 0), (91, [1], [], 39), (90, [2], [], -2147483648), (91, [2], [], 2147483647)], (3000, [12], [2], 74)),
  ([(1, [16, 14, 15], [], 0), (0, [15], [], 1), (3, [14, 13, 4], [], 0), (0, [13], [], 6), (33, [10], [], 0), (31, [11], [], 0), (1250, [11, 0, 6], [1, 2], 0), (90, [11], [], 0), (91, [11], [], 1), (2, [10, 2, 9], [], 0), (3, [9, 7, 8], [], 0), (1271, [8, 0, 1], [0, 1], 0), (90, [8], [], -10999), (91, [8], [], 10999), (0, [7], [], 4), (22, [6, 5, 4], [0], 0), (90, [6], [], -1), (91, [6], [], 9999), (20, [5, 0], [0], 26), (0, [5], [], 300), (22, [4, 3, 1], [0], 0), (90, [4], [], 0), (91, [4], [], 1007), (20, [3, 0], [0], 83), (0, [3], [], 344), (6000, [0, 1, 2], [0], 0), (0, [0], [], 285), (90, [1], [], 0), (91, [1], [], 39), (90, [2], [], -2147483648), (91, [2], [], 2147483647)], (70, [16], [], 6048)),
  ([(40, [17, 18], [], 0), (0, [18], [], -1), (22, [17, 12, 16], [2], 0), (90, [17], [], -1), (91, [17], [], 9999), (1, [16, 14, 15], [], 0), (0, [15], [], 1), (3, [14, 13, 4], [], 0), (0, [13], [], 6), (20, [12, 0], [2], 31), (0, [12], [], 305), (33, [10], [], 0), (31, [11], [], 0), (1250, [11, 0, 6], [1, 2], 0), (90, [11], [], 0), (91, [11], [], 1), (2, [10, 2, 9], [], 0), (3, [9, 7, 8], [], 0), (1271, [8, 0, 1], [0, 1], 0), (90, [8], [], -10999), (91, [8], [], 10999), (0, [7], [], 4), (22, [6, 5, 4], [0], 0), (90, [6], [], -1), (91, [6], [], 9999), (20, [5, 0], [0], 26), (0, [5], [], 300), (22, [4, 3, 1], [0], 0), (90, [4], [], 0), (91, [4], [], 1007), (20, [3, 0], [0], 83), (0, [3], [], 344), (6000, [0, 1, 2], [0], 0), (0, [0], [], 285), (90, [1], [], 0), (91, [1], [], 39), (90, [2], [], -2147483648), (91, [2], [], 2147483647)], (90, [6], [], 0)),
  ([(40, [17, 18], [], 0), (0, [18], [], -1), (22, [17, 12, 16], [2], 0), (90, [17], [], -1), (91, [17], [], 9999), (1, [16, 14, 15], [], 0), (0, [15], [], 1), (3, [14, 13, 4], [], 0), (0, [13], [], 6), (20, [12, 0], [2], 31), (0, [12], [], 305), (33, [10], [], 0), (31, [11], [], 0), (1250, [11, 0, 6], [1, 2], 0), (90, [11], [], 0), (91, [11], [], 1), (2, [10, 2, 9], [], 0), (3, [9, 7, 8], [], 0), (1271, [8, 0, 1], [0, 1], 0), (90, [8], [], -10999), (91, [8], [], 10999), (0, [7], [], 4), (22, [6, 5, 4], [0], 0), (90, [6], [], -1), (91, [6], [], 9999), (20, [5, 0], [0], 26), (0, [5], [], 300), (22, [4, 3, 1], [0], 0), (90, [4], [], 0), (91, [4], [], 1007), (20, [3, 0], [0], 83), (0, [3], [], 344), (6000, [0, 1, 2], [0], 0), (0, [0], [], 285), (90, [1], [], 0), (91, [1], [], 39), (90, [2], [], -2147483648), (91, [2], [], 2147483647)], (91, [6], [], 19)),
  ([(40, [17, 18], [], 0), (0, [18], [], -1), (22, [17, 12, 16], [2], 0), (90, [17], [], -1), (91, [17], [], 9999), (1, [16, 14, 15], [], 0), (0, [15], [], 1), (3, [14, 13, 4], [], 0), (0, [13], [], 6), (20, [12, 0], [2], 31), (0, [12], [], 305), (33, [10], [], 0), (31, [11], [], 0), (1250, [11, 0, 6], [1, 2], 0), (90, [11], [], 0), (91, [11], [], 1), (2, [10, 2, 9], [], 0), (3, [9, 7, 8], [], 0), (1271, [8, 0, 1], [0, 1], 0), (90, [8], [], -10999), (91, [8], [], 10999), (0, [7], [], 4), (22, [6, 5, 4], [0], 0), (90, [6], [], -1), (91, [6], [], 9999), (20, [5, 0], [0], 26), (0, [5], [], 300), (22, [4, 3, 1], [0], 0), (90, [4], [], 0), (91, [4], [], 1007), (20, [3, 0], [0], 83), (0, [3], [], 344), (6000, [0, 1, 2], [0], 0), (0, [0], [], 285), (90, [1], [], 0), (91, [1], [], 39), (90, [2], [], -2147483648), (91, [2], [], 2147483647)], (4000, [0, 1, 2, 4, 6, 10], [2], 75)),
  ([(1, [24, 22, 23], [], 0), (0, [23], [], 1), (3, [22, 21, 4], [], 0), (0, [21], [], 6), (20, [20, 0], [2], 31), (0, [20], [], 305), (41, [17, 18], [], 0), (0, [18], [], -1), (22, [17, 12, 16], [2], 0), (90, [17], [], -1), (91, [17], [], 9999), (1, [16, 14, 15], [], 0), (0, [15], [], 1), (3, [14, 13, 4], [], 0), (0, [13], [], 6), (20, [12, 0], [2], 31), (0, [12], [], 305), (33, [10], [], 0), (31, [11], [], 0), (1250, [11, 0, 6], [1, 2], 0), (90, [11], [], 0), (91, [11], [], 1), (2, [10, 2, 9], [], 0), (3, [9, 7, 8], [], 0), (1271, [8, 0, 1], [0, 1], 0), (90, [8], [], -10999), (91, [8], [], 10999), (0, [7], [], 4), (22, [6, 5, 4], [0], 0), (90, [6], [], -1), (91, [6], [], 9999), (20, [5, 0], [0], 26), (0, [5], [], 300), (22, [4, 3, 1], [0], 0), (90, [4], [], 0), (91, [4], [], 1007), (20, [3, 0], [0], 83), (0, [3], [], 344), (6000, [0, 1, 2], [0], 0), (0, [0], [], 285), (90, [1], [], 0), (91, [1], [], 39), (90, [2], [], -2147483648), (91, [2], [], 2147483647)], (70, [24], [], 6048)),
  ([(42, [10, 26], [], 0), (3, [26, 19, 25], [], 0), (22, [25, 20, 24], [2], 0), (90, [25], [], -1), (91, [25], [], 9999), (1, [24, 22, 23], [], 0), (0, [23], [], 1), (3, [22, 21, 4], [], 0), (0, [21], [], 6), (20, [20, 0], [2], 31), (0, [20], [], 305), (0, [19], [], 4), (41, [17, 18], [], 0), (0, [18], [], -1), (22, [17, 12, 16], [2], 0), (90, [17], [], -1), (91, [17], [], 9999), (1, [16, 14, 15], [], 0), (0, [15], [], 1), (3, [14, 13, 4], [], 0), (0, [13], [], 6), (20, [12, 0], [2], 31), (0, [12], [], 305), (33, [10], [], 0), (31, [11], [], 0), (1250, [11, 0, 6], [1, 2], 0), (90, [11], [], 0), (91, [11], [], 1), (2, [10, 2, 9], [], 0), (3, [9, 7, 8], [], 0), (1271, [8, 0, 1], [0, 1], 0), (90, [8], [], -10999), (91, [8], [], 10999), (0, [7], [], 4), (22, [6, 5, 4], [0], 0), (90, [6], [], -1), (91, [6], [], 9999), (20, [5, 0], [0], 26), (0, [5], [], 300), (22, [4, 3, 1], [0], 0), (90, [4], [], 0), (91, [4], [], 1007), (20, [3, 0], [0], 83), (0, [3], [], 344), (6000, [0, 1, 2], [0], 0), (0, [0], [], 285), (90, [1], [], 0), (91, [1], [], 39), (90, [2], [], -2147483648), (91, [2], [], 2147483647)], (90, [6], [], 0)),
  ([(42, [10, 26], [], 0), (3, [26, 19, 25], [], 0), (22, [25, 20, 24], [2], 0), (90, [25], [], -1), (91, [25], [], 9999), (1, [24, 22, 23], [], 0), (0, [23], [], 1), (3, [22, 21, 4], [], 0), (0, [21], [], 6), (20, [20, 0], [2], 31), (0, [20], [], 305), (0, [19], [], 4), (41, [17, 18], [], 0), (0, [18], [], -1), (22, [17, 12, 16], [2], 0), (90, [17], [], -1), (91, [17], [], 9999), (1, [16, 14, 15], [], 0), (0, [15], [], 1), (3, [14, 13, 4], [], 0), (0, [13], [], 6), (20, [12, 0], [2], 31), (0, [12], [], 305), (33, [10], [], 0), (31, [11], [], 0), (1250, [11, 0, 6], [1, 2], 0), (90, [11], [], 0), (91, [11], [], 1), (2, [10, 2, 9], [], 0), (3, [9, 7, 8], [], 0), (1271, [8, 0, 1], [0, 1], 0), (90, [8], [], -10999), (91, [8], [], 10999), (0, [7], [], 4), (22, [6, 5, 4], [0], 0), (90, [6], [], -1), (91, [6], [], 9999), (20, [5, 0], [0], 26), (0, [5], [], 300), (22, [4, 3, 1], [0], 0), (90, [4], [], 0), (91, [4], [], 1007), (20, [3, 0], [0], 83), (0, [3], [], 344), (6000, [0, 1, 2], [0], 0), (0, [0], [], 285), (90, [1], [], 0), (91, [1], [], 39), (90, [2], [], -2147483648), (91, [2], [], 2147483647)], (91, [6], [], 19)),
  ([(42, [10, 26], [], 0), (3, [26, 19, 25], [], 0), (22, [25, 20, 24], [2], 0), (90, [25], [], -1), (91, [25], [], 9999), (1, [24, 22, 23], [], 0), (0, [23], [], 1), (3, [22, 21, 4], [], 0), (0, [21], [], 6), (20, [20, 0], [2], 31), (0, [20], [], 305), (0, [19], [], 4), (41, [17, 18], [], 0), (0, [18], [], -1), (22, [17, 12, 16], [2], 0), (90, [17], [], -1), (91, [17], [], 9999), (1, [16, 14, 15], [], 0), (0, [15], [], 1), (3, [14, 13, 4], [], 0), (0, [13], [], 6), (20, [12, 0], [2], 31), (0, [12], [], 305), (33, [10], [], 0), (31, [11], [], 0), (1250, [11, 0, 6], [1, 2], 0), (90, [11], [], 0), (91, [11], [], 1), (2, [10, 2, 9], [], 0), (3, [9, 7, 8], [], 0), (1271, [8, 0, 1], [0, 1], 0), (90, [8], [], -10999), (91, [8], [], 10999), (0, [7], [], 4), (22, [6, 5, 4], [0], 0), (90, [6], [], -1), (91, [6], [], 9999), (20, [5, 0], [0], 26), (0, [5], [], 300), (22, [4, 3, 1], [0], 0), (90, [4], [], 0), (91, [4], [], 1007), (20, [3, 0], [0], 83), (0, [3], [], 344), (6000, [0, 1, 2], [0], 0), (0, [0], [], 285), (90, [1], [], 0), (91, [1], [], 39), (90, [2], [], -2147483648), (91, [2], [], 2147483647)], (4000, [0, 1, 2, 4, 6, 10], [2], 75)),
  ([(0, [27], [], 0), (43, [10, 26], [], 0), (3, [26, 19, 25], [], 0), (22, [25, 20, 24], [2], 0), (90, [25], [], -1), (91, [25], [], 9999), (1, [24, 22, 23], [], 0), (0, [23], [], 1), (3, [22, 21, 4], [], 0), (0, [21], [], 6), (20, [20, 0], [2], 31), (0, [20], [], 305), (0, [19], [], 4), (41, [17, 18], [], 0), (0, [18], [], -1), (22, [17, 12, 16], [2], 0), (90, [17], [], -1), (91, [17], [], 9999), (1, [16, 14, 15], [], 0), (0, [15], [], 1), (3, [14, 13, 4], [], 0), (0, [13], [], 6), (20, [12, 0], [2], 31), (0, [12], [], 305), (33, [10], [], 0), (31, [11], [], 0), (1250, [11, 0, 6], [1, 2], 0), (90, [11], [], 0), (91, [11], [], 1), (2, [10, 2, 9], [], 0), (3, [9, 7, 8], [], 0), (1271, [8, 0, 1], [0, 1], 0), (90, [8], [], -10999), (91, [8], [], 10999), (0, [7], [], 4), (22, [6, 5, 4], [0], 0), (90, [6], [], -1), (91, [6], [], 9999), (20, [5, 0], [0], 26), (0, [5], [], 300), (22, [4, 3, 1], [0], 0), (90, [4], [], 0), (91, [4], [], 1007), (20, [3, 0], [0], 83), (0, [3], [], 344), (6000, [0, 1, 2], [0], 0), (0, [0], [], 285), (90, [1], [], 0), (91, [1], [], 39), (90, [2], [], -2147483648), (91, [2], [], 2147483647)], (3000, [27], [2], 74))]
theorem r_273_s : vCovO false (eR0 e_273 L_273 cs_273 2000) p_273_s = true := by decide +kernel
theorem kR_273_300 : vFreeR s_273.2.2.2.2 300 = true := by decide +kernel
theorem kR_273_344 : vFreeR s_273.2.2.2.2 344 = true := by decide +kernel
theorem kF_273_285_64 : vFree s_273.2.2.2.2 285 64 = true := by decide +kernel
theorem kF_273_285_82 : vFree s_273.2.2.2.2 285 82 = true := by decide +kernel
theorem q_273_12 {q0 : Nat} {n0 n1 n2 n3 n4 n5 n6 n7 n8 n9 n10 : Int} {H0 H1 : gH} (f0 : n0 ≤ 2147483647) (f1 : (-2147483648) ≤ n0) (f2 : n1 ≤ 19) (f3 : 0 ≤ n1) (f4 : n2 ≤ 1007) (f5 : 0 ≤ n2) (f6 : n3 ≤ 2147483647) (f7 : (-2147483648) ≤ n3) (f8 : n4 ≤ 39) (f9 : 0 ≤ n4) (f10 : n5 = 285) (f11 : n6 ≤ 2147483647) (f12 : (-2147483648) ≤ n6) (f13 : n7 ≤ 39) (f14 : 0 ≤ n7) (f15 : n8 = 285) (f16 : (hLe T0 H0 H1 ∧ hFr s_273.2.2.2.2 H0 H1 ∧ hWt T0 H1) ∧ (Ab_273_75 n8 n7 n6 n5 n4 n3 n2 n1 n0 H0 H1 ∧ preb_273 n8 n7 n6 H0) ∧ some q0 = some (mub_273_75 n8 n7 n6 n5 n4 n3 n2 n1 n0 H0 H1)) (f17 : n9 = 6) (f18 : n10 = w32 (n9 * n2)) : 0 ≤ n10 ∧ n10 < 6048 := by
  have g4 := f16.2.1.1
  unfold Ab_273_75 at g4
  have g3 := f16.2.1.2
  unfold preb_273 at g3
  have e1 : hV H1 285 64 = hV H0 285 64 := (f16.1.2.1.1 285 64 kF_273_285_64)
  have e4 : hV H1 300 = hV H0 300 := fRow f16.1.2.1 300 kR_273_300
  have e5 : hV H1 344 = hV H0 344 := fRow f16.1.2.1 344 kR_273_344
  have e6 : (0 : Int) ≤ hV H0 285 64 ∧ hV H0 285 64 ≤ 20 := bTo e1 (f16.1.2.2 285 64 _ _ kW_285_64)
  have e7 : (0 : Int) ≤ hV H0 285 82 ∧ hV H0 285 82 ≤ 40 := bTo ((f16.1.2.1.1 285 82 kF_273_285_82)) (f16.1.2.2 285 82 _ _ kW_285_82)
  try simp only [e1, e4, e5] at g4
  have k0 := g4.1
  have k1 := g4.2.1
  have y0 := g4.2.2.1
  have y1 := g4.2.2.2.1
  have y2 := g4.2.2.2.2.1
  have y3 := g4.2.2.2.2.2
  have p0 := g3.1
  have p1 := g3.2.1
  have p2 := g3.2.2.1
  have p3 := g3.2.2.2
  clear g3
  clear g4
  clear e1 e4 e5
  rw [f17] at f18
  try have t1 := SO1 p2 (s := (n1).toNat) (by omega) (by omega)
  first
  | (have ix0 : n10 = 6 * n2 := Eq.trans f18 (w32_iv (Iml 6 rfl (Iat f5 f4)) (by decide)); subst ix0; clear f18)
  | (have ix0 : n10 = 6 * n2 := Eq.trans f18 (w32_id (by omega) (by omega)); subst ix0; clear f18)
  | (unfold w32 at f18; have ix0 : n10 = 6 * n2 := (by omega); subst ix0)
  | skip
  try unfold w32 at f18
  subst y0
  subst y1
  omega
theorem c_273_75_0 {q0 : Nat} : vOkm T0 (eP e_273 L_273 A_273 mu_273 (some q0)) 3 ([(3, [12, 11, 6], [], 0), (0, [11], [], 6), (5000, [0, 1, 2, 3, 4, 5, 6, 7, 8], [0, 1], 75), (0, [0], [], 285), (90, [1], [], 0), (91, [1], [], 39), (90, [2], [], -2147483648), (91, [2], [], 2147483647), (0, [3], [], 285), (90, [4], [], 0), (91, [4], [], 39), (90, [5], [], -2147483648), (91, [5], [], 2147483647), (90, [6], [], 0), (91, [6], [], 1007), (90, [7], [], 0), (91, [7], [], 19), (90, [8], [], -2147483648), (91, [8], [], 2147483647)], (70, [12], [], 6048)) := vOk_inI fun ρ η f0 f1 f2 f3 f4 f5 f6 f7 f8 f9 f10 f11 f12 f13 f14 f15 f16 f17 f18 => q_273_12 (q0 := q0) (n0 := ρ 8) (n1 := ρ 7) (n2 := ρ 6) (n3 := ρ 5) (n4 := ρ 4) (n5 := ρ 3) (n6 := ρ 2) (n7 := ρ 1) (n8 := ρ 0) (n9 := ρ 11) (n10 := ρ 12) (H0 := η 0) (H1 := η 1) f18 f17 f16 f15 f14 f13 f12 f11 f10 f9 f8 f7 f6 f5 f4 f3 f2 f1 f0
theorem kR_273_305 : vFreeR s_273.2.2.2.2 305 = true := by decide +kernel
theorem q_273_13 {q0 : Nat} {n0 n1 n2 n3 n4 n5 n6 n7 n8 n9 n10 n11 n12 n13 n14 n15 n16 n17 n18 n19 : Int} {H0 H1 : gH} (f0 : n0 ≤ 2147483647) (f1 : (-2147483648) ≤ n0) (f2 : n1 ≤ 19) (f3 : 0 ≤ n1) (f4 : n2 ≤ 1007) (f5 : 0 ≤ n2) (f6 : n3 ≤ 2147483647) (f7 : (-2147483648) ≤ n3) (f8 : n4 ≤ 39) (f9 : 0 ≤ n4) (f10 : n5 = 285) (f11 : n6 ≤ 2147483647) (f12 : (-2147483648) ≤ n6) (f13 : n7 ≤ 39) (f14 : 0 ≤ n7) (f15 : n8 = 285) (f16 : (hLe T0 H0 H1 ∧ hFr s_273.2.2.2.2 H0 H1 ∧ hWt T0 H1) ∧ (Ab_273_75 n8 n7 n6 n5 n4 n3 n2 n1 n0 H0 H1 ∧ preb_273 n8 n7 n6 H0) ∧ some q0 = some (mub_273_75 n8 n7 n6 n5 n4 n3 n2 n1 n0 H0 H1)) (f17 : n9 = 4) (f18 : n10 = 305) (f19 : n10 = hV H1 (n5).toNat 31) (f20 : n11 = 6) (f21 : n12 = w32 (n11 * n2)) (f22 : n13 ≤ 9999) (f23 : (-1) ≤ n13) (f24 : n13 = hV H1 (n10).toNat (n12).toNat) (f25 : n14 = w32 (n9 * n13)) (f26 : n15 = 305) (f27 : n15 = hV H1 (n5).toNat 31) (f28 : n16 = 6) (f29 : n17 = w32 (n16 * n2)) (f30 : n18 = 3) (f31 : n19 = w32 (n17 + n18)) : 0 ≤ n19 ∧ n19 < 6048 := by
  have g4 := f16.2.1.1
  unfold Ab_273_75 at g4
  have g3 := f16.2.1.2
  unfold preb_273 at g3
  have e1 : n13 = hV H0 305 (n12).toNat := (by rw [f18] at f24; exact f24 : n13 = hV H1 305 (n12).toNat).trans ((congrFun (fRow f16.1.2.1 305 kR_273_305) _))
  have e3 : hV H1 285 64 = hV H0 285 64 := (f16.1.2.1.1 285 64 kF_273_285_64)
  have e6 : hV H1 300 = hV H0 300 := fRow f16.1.2.1 300 kR_273_300
  have e7 : hV H1 344 = hV H0 344 := fRow f16.1.2.1 344 kR_273_344
  have e8 : (0 : Int) ≤ hV H0 285 64 ∧ hV H0 285 64 ≤ 20 := bTo e3 (f16.1.2.2 285 64 _ _ kW_285_64)
  have e9 : (0 : Int) ≤ hV H0 285 82 ∧ hV H0 285 82 ≤ 40 := bTo ((f16.1.2.1.1 285 82 kF_273_285_82)) (f16.1.2.2 285 82 _ _ kW_285_82)
  try simp only [e3, e6, e7] at g4
  have k0 := g4.1
  have k1 := g4.2.1
  have y0 := g4.2.2.1
  have y1 := g4.2.2.2.1
  have y2 := g4.2.2.2.2.1
  have y3 := g4.2.2.2.2.2
  have p0 := g3.1
  have p1 := g3.2.1
  have p2 := g3.2.2.1
  have p3 := g3.2.2.2
  clear g3
  clear g4
  clear f19 f24 f27 e3 e6 e7
  subst e1
  rw [f20] at f21
  rw [f17] at f25
  rw [f28] at f29
  try have t1 := SO1 p2 (s := (n1).toNat) (by omega) (by omega)
  first
  | (have ix0 : n12 = 6 * n2 := Eq.trans f21 (w32_iv (Iml 6 rfl (Iat f5 f4)) (by decide)); subst ix0; clear f21)
  | (have ix0 : n12 = 6 * n2 := Eq.trans f21 (w32_id (by omega) (by omega)); subst ix0; clear f21)
  | (unfold w32 at f21; have ix0 : n12 = 6 * n2 := (by omega); subst ix0)
  | skip
  first
  | (have ix1 : n17 = 6 * n2 := Eq.trans f29 (w32_iv (Iml 6 rfl (Iat f5 f4)) (by decide)); subst ix1; clear f29)
  | (have ix1 : n17 = 6 * n2 := Eq.trans f29 (w32_id (by omega) (by omega)); subst ix1; clear f29)
  | (unfold w32 at f29; have ix1 : n17 = 6 * n2 := (by omega); subst ix1)
  | skip
  first
  | (have ix2 : n19 = (6 * n2) + 3 := Eq.trans f31 (w32_iv (Iad (Iml 6 rfl (Iat f5 f4)) (IC 3)) (by decide)); subst ix2; clear f31)
  | (have ix2 : n19 = (6 * n2) + 3 := Eq.trans f31 (w32_id (by omega) (by omega)); subst ix2; clear f31)
  | (unfold w32 at f31; have ix2 : n19 = (6 * n2) + 3 := (by omega); subst ix2)
  | skip
  try unfold w32 at f21
  try unfold w32 at f25
  try unfold w32 at f29
  try unfold w32 at f31
  subst y0
  subst y1
  omega
theorem c_273_75_1 {q0 : Nat} : vOkm T0 (eP e_273 L_273 A_273 mu_273 (some q0)) 3 ([(1, [19, 17, 18], [], 0), (0, [18], [], 3), (3, [17, 16, 6], [], 0), (0, [16], [], 6), (20, [15, 3], [1], 31), (0, [15], [], 305), (3, [14, 9, 13], [], 0), (22, [13, 10, 12], [1], 0), (90, [13], [], -1), (91, [13], [], 9999), (3, [12, 11, 6], [], 0), (0, [11], [], 6), (20, [10, 3], [1], 31), (0, [10], [], 305), (0, [9], [], 4), (5000, [0, 1, 2, 3, 4, 5, 6, 7, 8], [0, 1], 75), (0, [0], [], 285), (90, [1], [], 0), (91, [1], [], 39), (90, [2], [], -2147483648), (91, [2], [], 2147483647), (0, [3], [], 285), (90, [4], [], 0), (91, [4], [], 39), (90, [5], [], -2147483648), (91, [5], [], 2147483647), (90, [6], [], 0), (91, [6], [], 1007), (90, [7], [], 0), (91, [7], [], 19), (90, [8], [], -2147483648), (91, [8], [], 2147483647)], (70, [19], [], 6048)) := vOk_inI fun ρ η f0 f1 f2 f3 f4 f5 f6 f7 f8 f9 f10 f11 f12 f13 f14 f15 f16 f17 f18 f19 f20 f21 f22 f23 f24 f25 f26 f27 f28 f29 f30 f31 => q_273_13 (q0 := q0) (n0 := ρ 8) (n1 := ρ 7) (n2 := ρ 6) (n3 := ρ 5) (n4 := ρ 4) (n5 := ρ 3) (n6 := ρ 2) (n7 := ρ 1) (n8 := ρ 0) (n9 := ρ 9) (n10 := ρ 10) (n11 := ρ 11) (n12 := ρ 12) (n13 := ρ 13) (n14 := ρ 14) (n15 := ρ 15) (n16 := ρ 16) (n17 := ρ 17) (n18 := ρ 18) (n19 := ρ 19) (H0 := η 0) (H1 := η 1) f31 f30 f29 f28 f27 f26 f25 f24 f23 f22 f21 f20 f19 f18 f17 f16 f15 f14 f13 f12 f11 f10 f9 f8 f7 f6 f5 f4 f3 f2 f1 f0
theorem q_273_14 {q0 : Nat} {n0 n1 n2 n3 n4 n5 n6 n7 n8 n9 n10 n11 n12 n13 n14 n15 n16 n17 n18 n19 n20 n21 n22 n23 n24 n25 n26 : Int} {H0 H1 : gH} (f0 : n0 ≤ 2147483647) (f1 : (-2147483648) ≤ n0) (f2 : n1 ≤ 19) (f3 : 0 ≤ n1) (f4 : n2 ≤ 1007) (f5 : 0 ≤ n2) (f6 : n3 ≤ 2147483647) (f7 : (-2147483648) ≤ n3) (f8 : n4 ≤ 39) (f9 : 0 ≤ n4) (f10 : n5 = 285) (f11 : n6 ≤ 2147483647) (f12 : (-2147483648) ≤ n6) (f13 : n7 ≤ 39) (f14 : 0 ≤ n7) (f15 : n8 = 285) (f16 : (hLe T0 H0 H1 ∧ hFr s_273.2.2.2.2 H0 H1 ∧ hWt T0 H1) ∧ (Ab_273_75 n8 n7 n6 n5 n4 n3 n2 n1 n0 H0 H1 ∧ preb_273 n8 n7 n6 H0) ∧ some q0 = some (mub_273_75 n8 n7 n6 n5 n4 n3 n2 n1 n0 H0 H1)) (f17 : n9 = 4) (f18 : n10 = 305) (f19 : n10 = hV H1 (n5).toNat 31) (f20 : n11 = 6) (f21 : n12 = w32 (n11 * n2)) (f22 : n13 ≤ 9999) (f23 : (-1) ≤ n13) (f24 : n13 = hV H1 (n10).toNat (n12).toNat) (f25 : n14 = w32 (n9 * n13)) (f26 : n15 = 305) (f27 : n15 = hV H1 (n5).toNat 31) (f28 : n16 = 6) (f29 : n17 = w32 (n16 * n2)) (f30 : n18 = 3) (f31 : n19 = w32 (n17 + n18)) (f32 : n20 ≤ 9999) (f33 : (-1) ≤ n20) (f34 : n20 = hV H1 (n15).toNat (n19).toNat) (f35 : n21 = w32 (n0 * n20)) (f36 : n22 = 305) (f37 : n22 = hV H1 (n5).toNat 31) (f38 : n23 = 6) (f39 : n24 = w32 (n23 * n2)) (f40 : n25 = 4) (f41 : n26 = w32 (n24 + n25)) : 0 ≤ n26 ∧ n26 < 6048 := by
  have g4 := f16.2.1.1
  unfold Ab_273_75 at g4
  have g3 := f16.2.1.2
  unfold preb_273 at g3
  have e1 : n13 = hV H0 305 (n12).toNat := (by rw [f18] at f24; exact f24 : n13 = hV H1 305 (n12).toNat).trans ((congrFun (fRow f16.1.2.1 305 kR_273_305) _))
  have e2 : n20 = hV H0 305 (n19).toNat := (by rw [f26] at f34; exact f34 : n20 = hV H1 305 (n19).toNat).trans ((congrFun (fRow f16.1.2.1 305 kR_273_305) _))
  have e4 : hV H1 285 64 = hV H0 285 64 := (f16.1.2.1.1 285 64 kF_273_285_64)
  have e7 : hV H1 300 = hV H0 300 := fRow f16.1.2.1 300 kR_273_300
  have e8 : hV H1 344 = hV H0 344 := fRow f16.1.2.1 344 kR_273_344
  have e9 : (0 : Int) ≤ hV H0 285 64 ∧ hV H0 285 64 ≤ 20 := bTo e4 (f16.1.2.2 285 64 _ _ kW_285_64)
  have e10 : (0 : Int) ≤ hV H0 285 82 ∧ hV H0 285 82 ≤ 40 := bTo ((f16.1.2.1.1 285 82 kF_273_285_82)) (f16.1.2.2 285 82 _ _ kW_285_82)
  try simp only [e4, e7, e8] at g4
  have k0 := g4.1
  have k1 := g4.2.1
  have y0 := g4.2.2.1
  have y1 := g4.2.2.2.1
  have y2 := g4.2.2.2.2.1
  have y3 := g4.2.2.2.2.2
  have p0 := g3.1
  have p1 := g3.2.1
  have p2 := g3.2.2.1
  have p3 := g3.2.2.2
  clear g3
  clear g4
  clear f19 f24 f27 f34 f37 e4 e7 e8
  subst e1
  subst e2
  rw [f20] at f21
  rw [f17] at f25
  rw [f28] at f29
  rw [f38] at f39
  try have t1 := SO1 p2 (s := (n1).toNat) (by omega) (by omega)
  first
  | (have ix0 : n12 = 6 * n2 := Eq.trans f21 (w32_iv (Iml 6 rfl (Iat f5 f4)) (by decide)); subst ix0; clear f21)
  | (have ix0 : n12 = 6 * n2 := Eq.trans f21 (w32_id (by omega) (by omega)); subst ix0; clear f21)
  | (unfold w32 at f21; have ix0 : n12 = 6 * n2 := (by omega); subst ix0)
  | skip
  first
  | (have ix1 : n17 = 6 * n2 := Eq.trans f29 (w32_iv (Iml 6 rfl (Iat f5 f4)) (by decide)); subst ix1; clear f29)
  | (have ix1 : n17 = 6 * n2 := Eq.trans f29 (w32_id (by omega) (by omega)); subst ix1; clear f29)
  | (unfold w32 at f29; have ix1 : n17 = 6 * n2 := (by omega); subst ix1)
  | skip
  first
  | (have ix2 : n19 = (6 * n2) + 3 := Eq.trans f31 (w32_iv (Iad (Iml 6 rfl (Iat f5 f4)) (IC 3)) (by decide)); subst ix2; clear f31)
  | (have ix2 : n19 = (6 * n2) + 3 := Eq.trans f31 (w32_id (by omega) (by omega)); subst ix2; clear f31)
  | (unfold w32 at f31; have ix2 : n19 = (6 * n2) + 3 := (by omega); subst ix2)
  | skip
  first
  | (have ix3 : n24 = 6 * n2 := Eq.trans f39 (w32_iv (Iml 6 rfl (Iat f5 f4)) (by decide)); subst ix3; clear f39)
  | (have ix3 : n24 = 6 * n2 := Eq.trans f39 (w32_id (by omega) (by omega)); subst ix3; clear f39)
  | (unfold w32 at f39; have ix3 : n24 = 6 * n2 := (by omega); subst ix3)
  | skip
  first
  | (have ix4 : n26 = (6 * n2) + 4 := Eq.trans f41 (w32_iv (Iad (Iml 6 rfl (Iat f5 f4)) (IC 4)) (by decide)); subst ix4; clear f41)
  | (have ix4 : n26 = (6 * n2) + 4 := Eq.trans f41 (w32_id (by omega) (by omega)); subst ix4; clear f41)
  | (unfold w32 at f41; have ix4 : n26 = (6 * n2) + 4 := (by omega); subst ix4)
  | skip
  try unfold w32 at f21
  try unfold w32 at f25
  try unfold w32 at f29
  try unfold w32 at f31
  try unfold w32 at f35
  try unfold w32 at f39
  try unfold w32 at f41
  subst y0
  subst y1
  omega
theorem c_273_75_2 {q0 : Nat} : vOkm T0 (eP e_273 L_273 A_273 mu_273 (some q0)) 3 ([(1, [26, 24, 25], [], 0), (0, [25], [], 4), (3, [24, 23, 6], [], 0), (0, [23], [], 6), (20, [22, 3], [1], 31), (0, [22], [], 305), (3, [21, 8, 20], [], 0), (22, [20, 15, 19], [1], 0), (90, [20], [], -1), (91, [20], [], 9999), (1, [19, 17, 18], [], 0), (0, [18], [], 3), (3, [17, 16, 6], [], 0), (0, [16], [], 6), (20, [15, 3], [1], 31), (0, [15], [], 305), (3, [14, 9, 13], [], 0), (22, [13, 10, 12], [1], 0), (90, [13], [], -1), (91, [13], [], 9999), (3, [12, 11, 6], [], 0), (0, [11], [], 6), (20, [10, 3], [1], 31), (0, [10], [], 305), (0, [9], [], 4), (5000, [0, 1, 2, 3, 4, 5, 6, 7, 8], [0, 1], 75), (0, [0], [], 285), (90, [1], [], 0), (91, [1], [], 39), (90, [2], [], -2147483648), (91, [2], [], 2147483647), (0, [3], [], 285), (90, [4], [], 0), (91, [4], [], 39), (90, [5], [], -2147483648), (91, [5], [], 2147483647), (90, [6], [], 0), (91, [6], [], 1007), (90, [7], [], 0), (91, [7], [], 19), (90, [8], [], -2147483648), (91, [8], [], 2147483647)], (70, [26], [], 6048)) := vOk_inI fun ρ η f0 f1 f2 f3 f4 f5 f6 f7 f8 f9 f10 f11 f12 f13 f14 f15 f16 f17 f18 f19 f20 f21 f22 f23 f24 f25 f26 f27 f28 f29 f30 f31 f32 f33 f34 f35 f36 f37 f38 f39 f40 f41 => q_273_14 (q0 := q0) (n0 := ρ 8) (n1 := ρ 7) (n2 := ρ 6) (n3 := ρ 5) (n4 := ρ 4) (n5 := ρ 3) (n6 := ρ 2) (n7 := ρ 1) (n8 := ρ 0) (n9 := ρ 9) (n10 := ρ 10) (n11 := ρ 11) (n12 := ρ 12) (n13 := ρ 13) (n14 := ρ 14) (n15 := ρ 15) (n16 := ρ 16) (n17 := ρ 17) (n18 := ρ 18) (n19 := ρ 19) (n20 := ρ 20) (n21 := ρ 21) (n22 := ρ 22) (n23 := ρ 23) (n24 := ρ 24) (n25 := ρ 25) (n26 := ρ 26) (H0 := η 0) (H1 := η 1) f41 f40 f39 f38 f37 f36 f35 f34 f33 f32 f31 f30 f29 f28 f27 f26 f25 f24 f23 f22 f21 f20 f19 f18 f17 f16 f15 f14 f13 f12 f11 f10 f9 f8 f7 f6 f5 f4 f3 f2 f1 f0
theorem q_273_15 {q0 : Nat} {n0 n1 n2 n3 n4 n5 n6 n7 n8 n9 n10 n11 n12 n13 n14 n15 n16 n17 n18 n19 n20 n21 n22 n23 n24 n25 n26 n27 : Int} {H0 H1 : gH} (f0 : n0 ≤ 2147483647) (f1 : (-2147483648) ≤ n0) (f2 : n1 ≤ 19) (f3 : 0 ≤ n1) (f4 : n2 ≤ 1007) (f5 : 0 ≤ n2) (f6 : n3 ≤ 2147483647) (f7 : (-2147483648) ≤ n3) (f8 : n4 ≤ 39) (f9 : 0 ≤ n4) (f10 : n5 = 285) (f11 : n6 ≤ 2147483647) (f12 : (-2147483648) ≤ n6) (f13 : n7 ≤ 39) (f14 : 0 ≤ n7) (f15 : n8 = 285) (f16 : (hLe T0 H0 H1 ∧ hFr s_273.2.2.2.2 H0 H1 ∧ hWt T0 H1) ∧ (Ab_273_75 n8 n7 n6 n5 n4 n3 n2 n1 n0 H0 H1 ∧ preb_273 n8 n7 n6 H0) ∧ some q0 = some (mub_273_75 n8 n7 n6 n5 n4 n3 n2 n1 n0 H0 H1)) (f17 : n9 = 4) (f18 : n10 = 305) (f19 : n10 = hV H1 (n5).toNat 31) (f20 : n11 = 6) (f21 : n12 = w32 (n11 * n2)) (f22 : n13 ≤ 9999) (f23 : (-1) ≤ n13) (f24 : n13 = hV H1 (n10).toNat (n12).toNat) (f25 : n14 = w32 (n9 * n13)) (f26 : n15 = 305) (f27 : n15 = hV H1 (n5).toNat 31) (f28 : n16 = 6) (f29 : n17 = w32 (n16 * n2)) (f30 : n18 = 3) (f31 : n19 = w32 (n17 + n18)) (f32 : n20 ≤ 9999) (f33 : (-1) ≤ n20) (f34 : n20 = hV H1 (n15).toNat (n19).toNat) (f35 : n21 = w32 (n0 * n20)) (f36 : n22 = 305) (f37 : n22 = hV H1 (n5).toNat 31) (f38 : n23 = 6) (f39 : n24 = w32 (n23 * n2)) (f40 : n25 = 4) (f41 : n26 = w32 (n24 + n25)) (f42 : n27 ≤ 9999) (f43 : (-1) ≤ n27) (f44 : n27 = hV H1 (n22).toNat (n26).toNat) : n27 ≠ 0 := by
  have g4 := f16.2.1.1
  unfold Ab_273_75 at g4
  have g3 := f16.2.1.2
  unfold preb_273 at g3
  have e1 : n13 = hV H0 305 (n12).toNat := (by rw [f18] at f24; exact f24 : n13 = hV H1 305 (n12).toNat).trans ((congrFun (fRow f16.1.2.1 305 kR_273_305) _))
  have e2 : n20 = hV H0 305 (n19).toNat := (by rw [f26] at f34; exact f34 : n20 = hV H1 305 (n19).toNat).trans ((congrFun (fRow f16.1.2.1 305 kR_273_305) _))
  have e3 : n27 = hV H0 305 (n26).toNat := (by rw [f36] at f44; exact f44 : n27 = hV H1 305 (n26).toNat).trans ((congrFun (fRow f16.1.2.1 305 kR_273_305) _))
  have e5 : hV H1 285 64 = hV H0 285 64 := (f16.1.2.1.1 285 64 kF_273_285_64)
  have e8 : hV H1 300 = hV H0 300 := fRow f16.1.2.1 300 kR_273_300
  have e9 : hV H1 344 = hV H0 344 := fRow f16.1.2.1 344 kR_273_344
  have e10 : (0 : Int) ≤ hV H0 285 64 ∧ hV H0 285 64 ≤ 20 := bTo e5 (f16.1.2.2 285 64 _ _ kW_285_64)
  have e11 : (0 : Int) ≤ hV H0 285 82 ∧ hV H0 285 82 ≤ 40 := bTo ((f16.1.2.1.1 285 82 kF_273_285_82)) (f16.1.2.2 285 82 _ _ kW_285_82)
  try simp only [e5, e8, e9] at g4
  have k0 := g4.1
  have k1 := g4.2.1
  have y0 := g4.2.2.1
  have y1 := g4.2.2.2.1
  have y2 := g4.2.2.2.2.1
  have y3 := g4.2.2.2.2.2
  have p0 := g3.1
  have p1 := g3.2.1
  have p2 := g3.2.2.1
  have p3 := g3.2.2.2
  clear g3
  clear g4
  clear f19 f24 f27 f34 f37 f44 e5 e8 e9
  subst e1
  subst e2
  subst e3
  rw [f20] at f21
  rw [f17] at f25
  rw [f28] at f29
  rw [f38] at f39
  try have t1 := SO1 p2 (s := (n1).toNat) (by omega) (by omega)
  first
  | (have ix0 : n12 = 6 * n2 := Eq.trans f21 (w32_iv (Iml 6 rfl (Iat f5 f4)) (by decide)); subst ix0; clear f21)
  | (have ix0 : n12 = 6 * n2 := Eq.trans f21 (w32_id (by omega) (by omega)); subst ix0; clear f21)
  | (unfold w32 at f21; have ix0 : n12 = 6 * n2 := (by omega); subst ix0)
  | skip
  first
  | (have ix1 : n17 = 6 * n2 := Eq.trans f29 (w32_iv (Iml 6 rfl (Iat f5 f4)) (by decide)); subst ix1; clear f29)
  | (have ix1 : n17 = 6 * n2 := Eq.trans f29 (w32_id (by omega) (by omega)); subst ix1; clear f29)
  | (unfold w32 at f29; have ix1 : n17 = 6 * n2 := (by omega); subst ix1)
  | skip
  first
  | (have ix2 : n19 = (6 * n2) + 3 := Eq.trans f31 (w32_iv (Iad (Iml 6 rfl (Iat f5 f4)) (IC 3)) (by decide)); subst ix2; clear f31)
  | (have ix2 : n19 = (6 * n2) + 3 := Eq.trans f31 (w32_id (by omega) (by omega)); subst ix2; clear f31)
  | (unfold w32 at f31; have ix2 : n19 = (6 * n2) + 3 := (by omega); subst ix2)
  | skip
  first
  | (have ix3 : n24 = 6 * n2 := Eq.trans f39 (w32_iv (Iml 6 rfl (Iat f5 f4)) (by decide)); subst ix3; clear f39)
  | (have ix3 : n24 = 6 * n2 := Eq.trans f39 (w32_id (by omega) (by omega)); subst ix3; clear f39)
  | (unfold w32 at f39; have ix3 : n24 = 6 * n2 := (by omega); subst ix3)
  | skip
  first
  | (have ix4 : n26 = (6 * n2) + 4 := Eq.trans f41 (w32_iv (Iad (Iml 6 rfl (Iat f5 f4)) (IC 4)) (by decide)); subst ix4; clear f41)
  | (have ix4 : n26 = (6 * n2) + 4 := Eq.trans f41 (w32_id (by omega) (by omega)); subst ix4; clear f41)
  | (unfold w32 at f41; have ix4 : n26 = (6 * n2) + 4 := (by omega); subst ix4)
  | skip
  try unfold w32 at f21
  try unfold w32 at f25
  try unfold w32 at f29
  try unfold w32 at f31
  try unfold w32 at f35
  try unfold w32 at f39
  try unfold w32 at f41

  first
  | omega
  | (have xc := XQ_4 p1 (s := (n7).toNat) (by omega) (by omega) (n := 6 * n2 + 4) (by omega) (by omega)
     omega)
theorem c_273_75_3 {q0 : Nat} : vOkm T0 (eP e_273 L_273 A_273 mu_273 (some q0)) 3 ([(22, [27, 22, 26], [1], 0), (90, [27], [], -1), (91, [27], [], 9999), (1, [26, 24, 25], [], 0), (0, [25], [], 4), (3, [24, 23, 6], [], 0), (0, [23], [], 6), (20, [22, 3], [1], 31), (0, [22], [], 305), (3, [21, 8, 20], [], 0), (22, [20, 15, 19], [1], 0), (90, [20], [], -1), (91, [20], [], 9999), (1, [19, 17, 18], [], 0), (0, [18], [], 3), (3, [17, 16, 6], [], 0), (0, [16], [], 6), (20, [15, 3], [1], 31), (0, [15], [], 305), (3, [14, 9, 13], [], 0), (22, [13, 10, 12], [1], 0), (90, [13], [], -1), (91, [13], [], 9999), (3, [12, 11, 6], [], 0), (0, [11], [], 6), (20, [10, 3], [1], 31), (0, [10], [], 305), (0, [9], [], 4), (5000, [0, 1, 2, 3, 4, 5, 6, 7, 8], [0, 1], 75), (0, [0], [], 285), (90, [1], [], 0), (91, [1], [], 39), (90, [2], [], -2147483648), (91, [2], [], 2147483647), (0, [3], [], 285), (90, [4], [], 0), (91, [4], [], 39), (90, [5], [], -2147483648), (91, [5], [], 2147483647), (90, [6], [], 0), (91, [6], [], 1007), (90, [7], [], 0), (91, [7], [], 19), (90, [8], [], -2147483648), (91, [8], [], 2147483647)], (72, [27], [], 0)) := vOk_inI fun ρ η f0 f1 f2 f3 f4 f5 f6 f7 f8 f9 f10 f11 f12 f13 f14 f15 f16 f17 f18 f19 f20 f21 f22 f23 f24 f25 f26 f27 f28 f29 f30 f31 f32 f33 f34 f35 f36 f37 f38 f39 f40 f41 f42 f43 f44 => q_273_15 (q0 := q0) (n0 := ρ 8) (n1 := ρ 7) (n2 := ρ 6) (n3 := ρ 5) (n4 := ρ 4) (n5 := ρ 3) (n6 := ρ 2) (n7 := ρ 1) (n8 := ρ 0) (n9 := ρ 9) (n10 := ρ 10) (n11 := ρ 11) (n12 := ρ 12) (n13 := ρ 13) (n14 := ρ 14) (n15 := ρ 15) (n16 := ρ 16) (n17 := ρ 17) (n18 := ρ 18) (n19 := ρ 19) (n20 := ρ 20) (n21 := ρ 21) (n22 := ρ 22) (n23 := ρ 23) (n24 := ρ 24) (n25 := ρ 25) (n26 := ρ 26) (n27 := ρ 27) (H0 := η 0) (H1 := η 1) f44 f43 f42 f41 f40 f39 f38 f37 f36 f35 f34 f33 f32 f31 f30 f29 f28 f27 f26 f25 f24 f23 f22 f21 f20 f19 f18 f17 f16 f15 f14 f13 f12 f11 f10 f9 f8 f7 f6 f5 f4 f3 f2 f1 f0
theorem kR_273_328 : vFreeR s_273.2.2.2.2 328 = true := by decide +kernel
theorem q_273_16 {q0 : Nat} {n0 n1 n2 n3 n4 n5 n6 n7 n8 n9 n10 n11 n12 n13 n14 n15 n16 n17 n18 n19 n20 n21 n22 n23 n24 n25 n26 n27 n28 n29 n30 n31 n32 n33 : Int} {H0 H1 H2 : gH} (f0 : n0 ≤ 2147483647) (f1 : (-2147483648) ≤ n0) (f2 : n1 ≤ 19) (f3 : 0 ≤ n1) (f4 : n2 ≤ 1007) (f5 : 0 ≤ n2) (f6 : n3 ≤ 2147483647) (f7 : (-2147483648) ≤ n3) (f8 : n4 ≤ 39) (f9 : 0 ≤ n4) (f10 : n5 = 285) (f11 : n6 ≤ 2147483647) (f12 : (-2147483648) ≤ n6) (f13 : n7 ≤ 39) (f14 : 0 ≤ n7) (f15 : n8 = 285) (f16 : (hLe T0 H0 H1 ∧ hFr s_273.2.2.2.2 H0 H1 ∧ hWt T0 H1) ∧ (Ab_273_75 n8 n7 n6 n5 n4 n3 n2 n1 n0 H0 H1 ∧ preb_273 n8 n7 n6 H0) ∧ some q0 = some (mub_273_75 n8 n7 n6 n5 n4 n3 n2 n1 n0 H0 H1)) (f17 : n9 = 4) (f18 : n10 = 305) (f19 : n10 = hV H1 (n5).toNat 31) (f20 : n11 = 6) (f21 : n12 = w32 (n11 * n2)) (f22 : n13 ≤ 9999) (f23 : (-1) ≤ n13) (f24 : n13 = hV H1 (n10).toNat (n12).toNat) (f25 : n14 = w32 (n9 * n13)) (f26 : n15 = 305) (f27 : n15 = hV H1 (n5).toNat 31) (f28 : n16 = 6) (f29 : n17 = w32 (n16 * n2)) (f30 : n18 = 3) (f31 : n19 = w32 (n17 + n18)) (f32 : n20 ≤ 9999) (f33 : (-1) ≤ n20) (f34 : n20 = hV H1 (n15).toNat (n19).toNat) (f35 : n21 = w32 (n0 * n20)) (f36 : n22 = 305) (f37 : n22 = hV H1 (n5).toNat 31) (f38 : n23 = 6) (f39 : n24 = w32 (n23 * n2)) (f40 : n25 = 4) (f41 : n26 = w32 (n24 + n25)) (f42 : n27 ≤ 9999) (f43 : (-1) ≤ n27) (f44 : n27 = hV H1 (n22).toNat (n26).toNat) (f45 : n28 = o32 (fun x y => x / y) n21 n27) (f46 : n29 = w32 (n14 + n28)) (f47 : n30 = 88) (f48 : hUpd H2 H1 n5 n30 n29) (f49 : n31 = 328) (f50 : n31 = hV H2 (n5).toNat 66) (f51 : n32 ≤ 6) (f52 : 0 ≤ n32) (f53 : n32 = hV H2 (n31).toNat (n1).toNat) (f54 : n33 = 1) (f55 : n32 ≠ n33) : Ab_273_182 n8 n7 n6 n5 n4 n3 n2 n1 n0 H0 H2 ∧ ∀ q, some q0 = some q → mub_273_182 n8 n7 n6 n5 n4 n3 n2 n1 n0 H0 H2 < q := by
  have g4 := f16.2.1.1
  unfold Ab_273_75 at g4
  have g3 := f16.2.1.2
  unfold preb_273 at g3
  have g5 := Option.some.inj f16.2.2
  unfold mub_273_75 at g5
  unfold Ab_273_182
  unfold mub_273_182
  have e1 : n13 = hV H0 305 (n12).toNat := (by rw [f18] at f24; exact f24 : n13 = hV H1 305 (n12).toNat).trans ((congrFun (fRow f16.1.2.1 305 kR_273_305) _))
  have e2 : n20 = hV H0 305 (n19).toNat := (by rw [f26] at f34; exact f34 : n20 = hV H1 305 (n19).toNat).trans ((congrFun (fRow f16.1.2.1 305 kR_273_305) _))
  have e3 : n27 = hV H0 305 (n26).toNat := (by rw [f36] at f44; exact f44 : n27 = hV H1 305 (n26).toNat).trans ((congrFun (fRow f16.1.2.1 305 kR_273_305) _))
  have e6 : n32 = hV H0 328 (n1).toNat := (by rw [f49] at f53; exact f53 : n32 = hV H2 328 (n1).toNat).trans (((congrFun (uRowNe f48 328 (iS (show n5 = ((285 : Nat) : Int) from f10) rfl)) _)).trans ((congrFun (fRow f16.1.2.1 328 kR_273_328) _)))
  have e8 : hV H1 285 64 = hV H0 285 64 := (f16.1.2.1.1 285 64 kF_273_285_64)
  have e11 : hV H1 300 = hV H0 300 := fRow f16.1.2.1 300 kR_273_300
  have e12 : hV H1 344 = hV H0 344 := fRow f16.1.2.1 344 kR_273_344
  have e14 : hV H2 285 64 = hV H0 285 64 := ((uSlot f48 285 64 (iS (show n30 = ((88 : Nat) : Int) from f47) rfl))).trans (f16.1.2.1.1 285 64 kF_273_285_64)
  have e16 : hV H2 300 = hV H0 300 := (uRowNe f48 300 (iS (show n5 = ((285 : Nat) : Int) from f10) rfl)).trans e11
  have e18 : hV H2 344 = hV H0 344 := (uRowNe f48 344 (iS (show n5 = ((285 : Nat) : Int) from f10) rfl)).trans e12
  have e19 : (0 : Int) ≤ hV H0 285 64 ∧ hV H0 285 64 ≤ 20 := bTo e8 (f16.1.2.2 285 64 _ _ kW_285_64)
  have e20 : (0 : Int) ≤ hV H0 285 82 ∧ hV H0 285 82 ≤ 40 := bTo ((f16.1.2.1.1 285 82 kF_273_285_82)) (f16.1.2.2 285 82 _ _ kW_285_82)
  try simp only [e8, e11, e12] at g4
  try simp only [e14, e16, e18]
  have k0 := g4.1
  have k1 := g4.2.1
  have y0 := g4.2.2.1
  have y1 := g4.2.2.2.1
  have y2 := g4.2.2.2.2.1
  have y3 := g4.2.2.2.2.2
  have p0 := g3.1
  have p1 := g3.2.1
  have p2 := g3.2.2.1
  have p3 := g3.2.2.2
  clear g3
  clear g4
  clear f19 f24 f27 f34 f37 f44 f50 f53 e8 e11 e12 e14 e16 e18
  subst e1
  subst e2
  subst e3
  subst e6
  rw [f20] at f21
  rw [f17] at f25
  rw [f28] at f29
  rw [f38] at f39
  try have t1 := SO1 p2 (s := (n1).toNat) (by omega) (by omega)
  first
  | (have ix0 : n12 = 6 * n2 := Eq.trans f21 (w32_iv (Iml 6 rfl (Iat f5 f4)) (by decide)); subst ix0; clear f21)
  | (have ix0 : n12 = 6 * n2 := Eq.trans f21 (w32_id (by omega) (by omega)); subst ix0; clear f21)
  | (unfold w32 at f21; have ix0 : n12 = 6 * n2 := (by omega); subst ix0)
  | skip
  first
  | (have ix1 : n14 = 4 * (hV H0 305 ((6 * n2)).toNat) := Eq.trans f25 (w32_iv (Iml 4 rfl (Iat f23 f22)) (by decide)); subst ix1; clear f25)
  | (have ix1 : n14 = 4 * (hV H0 305 ((6 * n2)).toNat) := Eq.trans f25 (w32_id (by omega) (by omega)); subst ix1; clear f25)
  | (unfold w32 at f25; have ix1 : n14 = 4 * (hV H0 305 ((6 * n2)).toNat) := (by omega); subst ix1)
  | skip
  first
  | (have ix2 : n17 = 6 * n2 := Eq.trans f29 (w32_iv (Iml 6 rfl (Iat f5 f4)) (by decide)); subst ix2; clear f29)
  | (have ix2 : n17 = 6 * n2 := Eq.trans f29 (w32_id (by omega) (by omega)); subst ix2; clear f29)
  | (unfold w32 at f29; have ix2 : n17 = 6 * n2 := (by omega); subst ix2)
  | skip
  first
  | (have ix3 : n19 = (6 * n2) + 3 := Eq.trans f31 (w32_iv (Iad (Iml 6 rfl (Iat f5 f4)) (IC 3)) (by decide)); subst ix3; clear f31)
  | (have ix3 : n19 = (6 * n2) + 3 := Eq.trans f31 (w32_id (by omega) (by omega)); subst ix3; clear f31)
  | (unfold w32 at f31; have ix3 : n19 = (6 * n2) + 3 := (by omega); subst ix3)
  | skip
  first
  | (have ix4 : n24 = 6 * n2 := Eq.trans f39 (w32_iv (Iml 6 rfl (Iat f5 f4)) (by decide)); subst ix4; clear f39)
  | (have ix4 : n24 = 6 * n2 := Eq.trans f39 (w32_id (by omega) (by omega)); subst ix4; clear f39)
  | (unfold w32 at f39; have ix4 : n24 = 6 * n2 := (by omega); subst ix4)
  | skip
  first
  | (have ix5 : n26 = (6 * n2) + 4 := Eq.trans f41 (w32_iv (Iad (Iml 6 rfl (Iat f5 f4)) (IC 4)) (by decide)); subst ix5; clear f41)
  | (have ix5 : n26 = (6 * n2) + 4 := Eq.trans f41 (w32_id (by omega) (by omega)); subst ix5; clear f41)
  | (unfold w32 at f41; have ix5 : n26 = (6 * n2) + 4 := (by omega); subst ix5)
  | skip
  first
  | (have ix6 : n29 = (4 * (hV H0 305 ((6 * n2)).toNat)) + n28 := Eq.trans f46 (w32_id (by omega) (by omega)); subst ix6; clear f46)
  | (unfold w32 at f46; have ix6 : n29 = (4 * (hV H0 305 ((6 * n2)).toNat)) + n28 := (by omega); subst ix6)
  | skip
  try unfold w32 at f21
  try unfold w32 at f25
  try unfold w32 at f29
  try unfold w32 at f31
  try unfold w32 at f35
  try unfold w32 at f39
  try unfold w32 at f41
  try unfold w32 at f46
  subst y0
  subst y1
  refine ⟨?_, fun q hq => ?_⟩
  · refine ⟨?_, ?_, ?_, ?_, ?_, ?_⟩ <;> first | assumption | omega | trivial
  · have g6 := Option.some.inj hq
    subst g6
    omega
theorem c_273_75_4 {q0 : Nat} : vOkm T0 (eP e_273 L_273 A_273 mu_273 (some q0)) 3 ([(41, [32, 33], [], 0), (0, [33], [], 1), (22, [32, 31, 7], [2], 0), (90, [32], [], 0), (91, [32], [], 6), (20, [31, 3], [2], 66), (0, [31], [], 328), (80, [3, 30, 29], [2, 1], 0), (0, [30], [], 88), (1, [29, 14, 28], [], 0), (11, [28, 21, 27], [], 0), (22, [27, 22, 26], [1], 0), (90, [27], [], -1), (91, [27], [], 9999), (1, [26, 24, 25], [], 0), (0, [25], [], 4), (3, [24, 23, 6], [], 0), (0, [23], [], 6), (20, [22, 3], [1], 31), (0, [22], [], 305), (3, [21, 8, 20], [], 0), (22, [20, 15, 19], [1], 0), (90, [20], [], -1), (91, [20], [], 9999), (1, [19, 17, 18], [], 0), (0, [18], [], 3), (3, [17, 16, 6], [], 0), (0, [16], [], 6), (20, [15, 3], [1], 31), (0, [15], [], 305), (3, [14, 9, 13], [], 0), (22, [13, 10, 12], [1], 0), (90, [13], [], -1), (91, [13], [], 9999), (3, [12, 11, 6], [], 0), (0, [11], [], 6), (20, [10, 3], [1], 31), (0, [10], [], 305), (0, [9], [], 4), (5000, [0, 1, 2, 3, 4, 5, 6, 7, 8], [0, 1], 75), (0, [0], [], 285), (90, [1], [], 0), (91, [1], [], 39), (90, [2], [], -2147483648), (91, [2], [], 2147483647), (0, [3], [], 285), (90, [4], [], 0), (91, [4], [], 39), (90, [5], [], -2147483648), (91, [5], [], 2147483647), (90, [6], [], 0), (91, [6], [], 1007), (90, [7], [], 0), (91, [7], [], 19), (90, [8], [], -2147483648), (91, [8], [], 2147483647)], (4000, [3, 4, 5, 6, 7, 8], [2], 182)) := vOk_inI fun ρ η f0 f1 f2 f3 f4 f5 f6 f7 f8 f9 f10 f11 f12 f13 f14 f15 f16 f17 f18 f19 f20 f21 f22 f23 f24 f25 f26 f27 f28 f29 f30 f31 f32 f33 f34 f35 f36 f37 f38 f39 f40 f41 f42 f43 f44 f45 f46 f47 f48 f49 f50 f51 f52 f53 f54 f55 => q_273_16 (q0 := q0) (n0 := ρ 8) (n1 := ρ 7) (n2 := ρ 6) (n3 := ρ 5) (n4 := ρ 4) (n5 := ρ 3) (n6 := ρ 2) (n7 := ρ 1) (n8 := ρ 0) (n9 := ρ 9) (n10 := ρ 10) (n11 := ρ 11) (n12 := ρ 12) (n13 := ρ 13) (n14 := ρ 14) (n15 := ρ 15) (n16 := ρ 16) (n17 := ρ 17) (n18 := ρ 18) (n19 := ρ 19) (n20 := ρ 20) (n21 := ρ 21) (n22 := ρ 22) (n23 := ρ 23) (n24 := ρ 24) (n25 := ρ 25) (n26 := ρ 26) (n27 := ρ 27) (n28 := ρ 28) (n29 := ρ 29) (n30 := ρ 30) (n31 := ρ 31) (n32 := ρ 32) (n33 := ρ 33) (H0 := η 0) (H1 := η 1) (H2 := η 2) f55 f54 f53 f52 f51 f50 f49 f48 f47 f46 f45 f44 f43 f42 f41 f40 f39 f38 f37 f36 f35 f34 f33 f32 f31 f30 f29 f28 f27 f26 f25 f24 f23 f22 f21 f20 f19 f18 f17 f16 f15 f14 f13 f12 f11 f10 f9 f8 f7 f6 f5 f4 f3 f2 f1 f0
theorem kR_273_331 : vFreeR s_273.2.2.2.2 331 = true := by decide +kernel
theorem q_273_17 {q0 : Nat} {n0 n1 n2 n3 n4 n5 n6 n7 n8 n9 n10 n11 n12 n13 n14 n15 n16 n17 n18 n19 n20 n21 n22 n23 n24 n25 n26 n27 n28 n29 n30 n31 n32 n33 n34 n35 n36 : Int} {H0 H1 H2 : gH} (f0 : n0 ≤ 2147483647) (f1 : (-2147483648) ≤ n0) (f2 : n1 ≤ 19) (f3 : 0 ≤ n1) (f4 : n2 ≤ 1007) (f5 : 0 ≤ n2) (f6 : n3 ≤ 2147483647) (f7 : (-2147483648) ≤ n3) (f8 : n4 ≤ 39) (f9 : 0 ≤ n4) (f10 : n5 = 285) (f11 : n6 ≤ 2147483647) (f12 : (-2147483648) ≤ n6) (f13 : n7 ≤ 39) (f14 : 0 ≤ n7) (f15 : n8 = 285) (f16 : (hLe T0 H0 H1 ∧ hFr s_273.2.2.2.2 H0 H1 ∧ hWt T0 H1) ∧ (Ab_273_75 n8 n7 n6 n5 n4 n3 n2 n1 n0 H0 H1 ∧ preb_273 n8 n7 n6 H0) ∧ some q0 = some (mub_273_75 n8 n7 n6 n5 n4 n3 n2 n1 n0 H0 H1)) (f17 : n9 = 4) (f18 : n10 = 305) (f19 : n10 = hV H1 (n5).toNat 31) (f20 : n11 = 6) (f21 : n12 = w32 (n11 * n2)) (f22 : n13 ≤ 9999) (f23 : (-1) ≤ n13) (f24 : n13 = hV H1 (n10).toNat (n12).toNat) (f25 : n14 = w32 (n9 * n13)) (f26 : n15 = 305) (f27 : n15 = hV H1 (n5).toNat 31) (f28 : n16 = 6) (f29 : n17 = w32 (n16 * n2)) (f30 : n18 = 3) (f31 : n19 = w32 (n17 + n18)) (f32 : n20 ≤ 9999) (f33 : (-1) ≤ n20) (f34 : n20 = hV H1 (n15).toNat (n19).toNat) (f35 : n21 = w32 (n0 * n20)) (f36 : n22 = 305) (f37 : n22 = hV H1 (n5).toNat 31) (f38 : n23 = 6) (f39 : n24 = w32 (n23 * n2)) (f40 : n25 = 4) (f41 : n26 = w32 (n24 + n25)) (f42 : n27 ≤ 9999) (f43 : (-1) ≤ n27) (f44 : n27 = hV H1 (n22).toNat (n26).toNat) (f45 : n28 = o32 (fun x y => x / y) n21 n27) (f46 : n29 = w32 (n14 + n28)) (f47 : n30 = 88) (f48 : hUpd H2 H1 n5 n30 n29) (f49 : n31 = 328) (f50 : n31 = hV H2 (n5).toNat 66) (f51 : n32 ≤ 6) (f52 : 0 ≤ n32) (f53 : n32 = hV H2 (n31).toNat (n1).toNat) (f54 : n33 = 1) (f55 : n32 = n33) (f56 : n34 ≤ 2147483647) (f57 : (-2147483648) ≤ n34) (f58 : n34 = hV H2 (n5).toNat 88) (f59 : n35 = 331) (f60 : n35 = hV H2 (n5).toNat 69) (f61 : n36 ≤ 2147483647) (f62 : (-2147483648) ≤ n36) (f63 : n36 = hV H2 (n35).toNat (n1).toNat) (f64 : n34 < n36) : Ab_273_182 n8 n7 n6 n5 n4 n3 n2 n1 n0 H0 H2 ∧ ∀ q, some q0 = some q → mub_273_182 n8 n7 n6 n5 n4 n3 n2 n1 n0 H0 H2 < q := by
  have g4 := f16.2.1.1
  unfold Ab_273_75 at g4
  have g3 := f16.2.1.2
  unfold preb_273 at g3
  have g5 := Option.some.inj f16.2.2
  unfold mub_273_75 at g5
  unfold Ab_273_182
  unfold mub_273_182
  have e1 : n13 = hV H0 305 (n12).toNat := (by rw [f18] at f24; exact f24 : n13 = hV H1 305 (n12).toNat).trans ((congrFun (fRow f16.1.2.1 305 kR_273_305) _))
  have e2 : n20 = hV H0 305 (n19).toNat := (by rw [f26] at f34; exact f34 : n20 = hV H1 305 (n19).toNat).trans ((congrFun (fRow f16.1.2.1 305 kR_273_305) _))
  have e3 : n27 = hV H0 305 (n26).toNat := (by rw [f36] at f44; exact f44 : n27 = hV H1 305 (n26).toNat).trans ((congrFun (fRow f16.1.2.1 305 kR_273_305) _))
  have e6 : n32 = hV H0 328 (n1).toNat := (by rw [f49] at f53; exact f53 : n32 = hV H2 328 (n1).toNat).trans (((congrFun (uRowNe f48 328 (iS (show n5 = ((285 : Nat) : Int) from f10) rfl)) _)).trans ((congrFun (fRow f16.1.2.1 328 kR_273_328) _)))
  have e8 : n34 = n29 := (by rw [f10] at f58; exact f58 : n34 = hV H2 285 88).trans ((uSame f48 285 88 f10.symm f47.symm))
  have e11 : n36 = hV H0 331 (n1).toNat := (by rw [f59] at f63; exact f63 : n36 = hV H2 331 (n1).toNat).trans (((congrFun (uRowNe f48 331 (iS (show n5 = ((285 : Nat) : Int) from f10) rfl)) _)).trans ((congrFun (fRow f16.1.2.1 331 kR_273_331) _)))
  have e13 : hV H1 285 64 = hV H0 285 64 := (f16.1.2.1.1 285 64 kF_273_285_64)
  have e16 : hV H1 300 = hV H0 300 := fRow f16.1.2.1 300 kR_273_300
  have e17 : hV H1 344 = hV H0 344 := fRow f16.1.2.1 344 kR_273_344
  have e19 : hV H2 285 64 = hV H0 285 64 := ((uSlot f48 285 64 (iS (show n30 = ((88 : Nat) : Int) from f47) rfl))).trans (f16.1.2.1.1 285 64 kF_273_285_64)
  have e21 : hV H2 300 = hV H0 300 := (uRowNe f48 300 (iS (show n5 = ((285 : Nat) : Int) from f10) rfl)).trans e16
  have e23 : hV H2 344 = hV H0 344 := (uRowNe f48 344 (iS (show n5 = ((285 : Nat) : Int) from f10) rfl)).trans e17
  have e24 : (0 : Int) ≤ hV H0 285 64 ∧ hV H0 285 64 ≤ 20 := bTo e13 (f16.1.2.2 285 64 _ _ kW_285_64)
  have e25 : (0 : Int) ≤ hV H0 285 82 ∧ hV H0 285 82 ≤ 40 := bTo ((f16.1.2.1.1 285 82 kF_273_285_82)) (f16.1.2.2 285 82 _ _ kW_285_82)
  try simp only [e13, e16, e17] at g4
  try simp only [e19, e21, e23]
  have k0 := g4.1
  have k1 := g4.2.1
  have y0 := g4.2.2.1
  have y1 := g4.2.2.2.1
  have y2 := g4.2.2.2.2.1
  have y3 := g4.2.2.2.2.2
  have p0 := g3.1
  have p1 := g3.2.1
  have p2 := g3.2.2.1
  have p3 := g3.2.2.2
  clear g3
  clear g4
  clear f19 f24 f27 f34 f37 f44 f50 f53 f58 f60 f63 e13 e16 e17 e19 e21 e23
  subst e1
  subst e2
  subst e3
  subst e6
  subst e11
  rw [f20] at f21
  rw [f17] at f25
  rw [f28] at f29
  rw [f38] at f39
  try have t1 := SO1 p2 (s := (n1).toNat) (by omega) (by omega)
  first
  | (have ix0 : n12 = 6 * n2 := Eq.trans f21 (w32_iv (Iml 6 rfl (Iat f5 f4)) (by decide)); subst ix0; clear f21)
  | (have ix0 : n12 = 6 * n2 := Eq.trans f21 (w32_id (by omega) (by omega)); subst ix0; clear f21)
  | (unfold w32 at f21; have ix0 : n12 = 6 * n2 := (by omega); subst ix0)
  | skip
  first
  | (have ix1 : n14 = 4 * (hV H0 305 ((6 * n2)).toNat) := Eq.trans f25 (w32_iv (Iml 4 rfl (Iat f23 f22)) (by decide)); subst ix1; clear f25)
  | (have ix1 : n14 = 4 * (hV H0 305 ((6 * n2)).toNat) := Eq.trans f25 (w32_id (by omega) (by omega)); subst ix1; clear f25)
  | (unfold w32 at f25; have ix1 : n14 = 4 * (hV H0 305 ((6 * n2)).toNat) := (by omega); subst ix1)
  | skip
  first
  | (have ix2 : n17 = 6 * n2 := Eq.trans f29 (w32_iv (Iml 6 rfl (Iat f5 f4)) (by decide)); subst ix2; clear f29)
  | (have ix2 : n17 = 6 * n2 := Eq.trans f29 (w32_id (by omega) (by omega)); subst ix2; clear f29)
  | (unfold w32 at f29; have ix2 : n17 = 6 * n2 := (by omega); subst ix2)
  | skip
  first
  | (have ix3 : n19 = (6 * n2) + 3 := Eq.trans f31 (w32_iv (Iad (Iml 6 rfl (Iat f5 f4)) (IC 3)) (by decide)); subst ix3; clear f31)
  | (have ix3 : n19 = (6 * n2) + 3 := Eq.trans f31 (w32_id (by omega) (by omega)); subst ix3; clear f31)
  | (unfold w32 at f31; have ix3 : n19 = (6 * n2) + 3 := (by omega); subst ix3)
  | skip
  first
  | (have ix4 : n24 = 6 * n2 := Eq.trans f39 (w32_iv (Iml 6 rfl (Iat f5 f4)) (by decide)); subst ix4; clear f39)
  | (have ix4 : n24 = 6 * n2 := Eq.trans f39 (w32_id (by omega) (by omega)); subst ix4; clear f39)
  | (unfold w32 at f39; have ix4 : n24 = 6 * n2 := (by omega); subst ix4)
  | skip
  first
  | (have ix5 : n26 = (6 * n2) + 4 := Eq.trans f41 (w32_iv (Iad (Iml 6 rfl (Iat f5 f4)) (IC 4)) (by decide)); subst ix5; clear f41)
  | (have ix5 : n26 = (6 * n2) + 4 := Eq.trans f41 (w32_id (by omega) (by omega)); subst ix5; clear f41)
  | (unfold w32 at f41; have ix5 : n26 = (6 * n2) + 4 := (by omega); subst ix5)
  | skip
  first
  | (have ix6 : n29 = (4 * (hV H0 305 ((6 * n2)).toNat)) + n28 := Eq.trans f46 (w32_id (by omega) (by omega)); subst ix6; clear f46)
  | (unfold w32 at f46; have ix6 : n29 = (4 * (hV H0 305 ((6 * n2)).toNat)) + n28 := (by omega); subst ix6)
  | skip
  try unfold w32 at f21
  try unfold w32 at f25
  try unfold w32 at f29
  try unfold w32 at f31
  try unfold w32 at f35
  try unfold w32 at f39
  try unfold w32 at f41
  try unfold w32 at f46
  subst y0
  subst y1
  refine ⟨?_, fun q hq => ?_⟩
  · refine ⟨?_, ?_, ?_, ?_, ?_, ?_⟩ <;> first | assumption | omega | trivial
  · have g6 := Option.some.inj hq
    subst g6
    omega
theorem c_273_75_5 {q0 : Nat} : vOkm T0 (eP e_273 L_273 A_273 mu_273 (some q0)) 3 ([(42, [34, 36], [], 0), (22, [36, 35, 7], [2], 0), (90, [36], [], -2147483648), (91, [36], [], 2147483647), (20, [35, 3], [2], 69), (0, [35], [], 331), (20, [34, 3], [2], 88), (90, [34], [], -2147483648), (91, [34], [], 2147483647), (40, [32, 33], [], 0), (0, [33], [], 1), (22, [32, 31, 7], [2], 0), (90, [32], [], 0), (91, [32], [], 6), (20, [31, 3], [2], 66), (0, [31], [], 328), (80, [3, 30, 29], [2, 1], 0), (0, [30], [], 88), (1, [29, 14, 28], [], 0), (11, [28, 21, 27], [], 0), (22, [27, 22, 26], [1], 0), (90, [27], [], -1), (91, [27], [], 9999), (1, [26, 24, 25], [], 0), (0, [25], [], 4), (3, [24, 23, 6], [], 0), (0, [23], [], 6), (20, [22, 3], [1], 31), (0, [22], [], 305), (3, [21, 8, 20], [], 0), (22, [20, 15, 19], [1], 0), (90, [20], [], -1), (91, [20], [], 9999), (1, [19, 17, 18], [], 0), (0, [18], [], 3), (3, [17, 16, 6], [], 0), (0, [16], [], 6), (20, [15, 3], [1], 31), (0, [15], [], 305), (3, [14, 9, 13], [], 0), (22, [13, 10, 12], [1], 0), (90, [13], [], -1), (91, [13], [], 9999), (3, [12, 11, 6], [], 0), (0, [11], [], 6), (20, [10, 3], [1], 31), (0, [10], [], 305), (0, [9], [], 4), (5000, [0, 1, 2, 3, 4, 5, 6, 7, 8], [0, 1], 75), (0, [0], [], 285), (90, [1], [], 0), (91, [1], [], 39), (90, [2], [], -2147483648), (91, [2], [], 2147483647), (0, [3], [], 285), (90, [4], [], 0), (91, [4], [], 39), (90, [5], [], -2147483648), (91, [5], [], 2147483647), (90, [6], [], 0), (91, [6], [], 1007), (90, [7], [], 0), (91, [7], [], 19), (90, [8], [], -2147483648), (91, [8], [], 2147483647)], (4000, [3, 4, 5, 6, 7, 8], [2], 182)) := vOk_inI fun ρ η f0 f1 f2 f3 f4 f5 f6 f7 f8 f9 f10 f11 f12 f13 f14 f15 f16 f17 f18 f19 f20 f21 f22 f23 f24 f25 f26 f27 f28 f29 f30 f31 f32 f33 f34 f35 f36 f37 f38 f39 f40 f41 f42 f43 f44 f45 f46 f47 f48 f49 f50 f51 f52 f53 f54 f55 f56 f57 f58 f59 f60 f61 f62 f63 f64 => q_273_17 (q0 := q0) (n0 := ρ 8) (n1 := ρ 7) (n2 := ρ 6) (n3 := ρ 5) (n4 := ρ 4) (n5 := ρ 3) (n6 := ρ 2) (n7 := ρ 1) (n8 := ρ 0) (n9 := ρ 9) (n10 := ρ 10) (n11 := ρ 11) (n12 := ρ 12) (n13 := ρ 13) (n14 := ρ 14) (n15 := ρ 15) (n16 := ρ 16) (n17 := ρ 17) (n18 := ρ 18) (n19 := ρ 19) (n20 := ρ 20) (n21 := ρ 21) (n22 := ρ 22) (n23 := ρ 23) (n24 := ρ 24) (n25 := ρ 25) (n26 := ρ 26) (n27 := ρ 27) (n28 := ρ 28) (n29 := ρ 29) (n30 := ρ 30) (n31 := ρ 31) (n32 := ρ 32) (n33 := ρ 33) (n34 := ρ 34) (n35 := ρ 35) (n36 := ρ 36) (H0 := η 0) (H1 := η 1) (H2 := η 2) f64 f63 f62 f61 f60 f59 f58 f57 f56 f55 f54 f53 f52 f51 f50 f49 f48 f47 f46 f45 f44 f43 f42 f41 f40 f39 f38 f37 f36 f35 f34 f33 f32 f31 f30 f29 f28 f27 f26 f25 f24 f23 f22 f21 f20 f19 f18 f17 f16 f15 f14 f13 f12 f11 f10 f9 f8 f7 f6 f5 f4 f3 f2 f1 f0
theorem kR_273_330 : vFreeR s_273.2.2.2.2 330 = true := by decide +kernel
theorem q_273_18 {q0 : Nat} {n0 n1 n2 n3 n4 n5 n6 n7 n8 n9 n10 n11 n12 n13 n14 n15 n16 n17 n18 n19 n20 n21 n22 n23 n24 n25 n26 n27 n28 n29 n30 n31 n32 n33 n34 n35 n36 n37 n38 n39 n40 n41 n42 n43 n44 n45 n46 n47 : Int} {H0 H1 H2 : gH} (f0 : n0 ≤ 2147483647) (f1 : (-2147483648) ≤ n0) (f2 : n1 ≤ 19) (f3 : 0 ≤ n1) (f4 : n2 ≤ 1007) (f5 : 0 ≤ n2) (f6 : n3 ≤ 2147483647) (f7 : (-2147483648) ≤ n3) (f8 : n4 ≤ 39) (f9 : 0 ≤ n4) (f10 : n5 = 285) (f11 : n6 ≤ 2147483647) (f12 : (-2147483648) ≤ n6) (f13 : n7 ≤ 39) (f14 : 0 ≤ n7) (f15 : n8 = 285) (f16 : (hLe T0 H0 H1 ∧ hFr s_273.2.2.2.2 H0 H1 ∧ hWt T0 H1) ∧ (Ab_273_75 n8 n7 n6 n5 n4 n3 n2 n1 n0 H0 H1 ∧ preb_273 n8 n7 n6 H0) ∧ some q0 = some (mub_273_75 n8 n7 n6 n5 n4 n3 n2 n1 n0 H0 H1)) (f17 : n9 = 4) (f18 : n10 = 305) (f19 : n10 = hV H1 (n5).toNat 31) (f20 : n11 = 6) (f21 : n12 = w32 (n11 * n2)) (f22 : n13 ≤ 9999) (f23 : (-1) ≤ n13) (f24 : n13 = hV H1 (n10).toNat (n12).toNat) (f25 : n14 = w32 (n9 * n13)) (f26 : n15 = 305) (f27 : n15 = hV H1 (n5).toNat 31) (f28 : n16 = 6) (f29 : n17 = w32 (n16 * n2)) (f30 : n18 = 3) (f31 : n19 = w32 (n17 + n18)) (f32 : n20 ≤ 9999) (f33 : (-1) ≤ n20) (f34 : n20 = hV H1 (n15).toNat (n19).toNat) (f35 : n21 = w32 (n0 * n20)) (f36 : n22 = 305) (f37 : n22 = hV H1 (n5).toNat 31) (f38 : n23 = 6) (f39 : n24 = w32 (n23 * n2)) (f40 : n25 = 4) (f41 : n26 = w32 (n24 + n25)) (f42 : n27 ≤ 9999) (f43 : (-1) ≤ n27) (f44 : n27 = hV H1 (n22).toNat (n26).toNat) (f45 : n28 = o32 (fun x y => x / y) n21 n27) (f46 : n29 = w32 (n14 + n28)) (f47 : n30 = 88) (f48 : hUpd H2 H1 n5 n30 n29) (f49 : n31 = 328) (f50 : n31 = hV H2 (n5).toNat 66) (f51 : n32 ≤ 6) (f52 : 0 ≤ n32) (f53 : n32 = hV H2 (n31).toNat (n1).toNat) (f54 : n33 = 1) (f55 : n32 = n33) (f56 : n34 ≤ 2147483647) (f57 : (-2147483648) ≤ n34) (f58 : n34 = hV H2 (n5).toNat 88) (f59 : n35 = 331) (f60 : n35 = hV H2 (n5).toNat 69) (f61 : n36 ≤ 2147483647) (f62 : (-2147483648) ≤ n36) (f63 : n36 = hV H2 (n35).toNat (n1).toNat) (f64 : n36 ≤ n34) (f65 : n37 = 330) (f66 : n37 = hV H2 (n5).toNat 68) (f67 : n38 ≤ 2147483647) (f68 : (-2147483648) ≤ n38) (f69 : n38 = hV H2 (n37).toNat (n1).toNat) (f70 : n39 ≤ 2147483647) (f71 : (-2147483648) ≤ n39) (f72 : n39 = hV H2 (n5).toNat 88) (f73 : n40 = 330) (f74 : n40 = hV H2 (n5).toNat 68) (f75 : n41 ≤ 2147483647) (f76 : (-2147483648) ≤ n41) (f77 : n41 = hV H2 (n40).toNat (n1).toNat) (f78 : n42 = w32 (n39 - n41)) (f79 : n43 = 331) (f80 : n43 = hV H2 (n5).toNat 69) (f81 : n44 ≤ 2147483647) (f82 : (-2147483648) ≤ n44) (f83 : n44 = hV H2 (n43).toNat (n1).toNat) (f84 : n45 = 330) (f85 : n45 = hV H2 (n5).toNat 68) (f86 : n46 ≤ 2147483647) (f87 : (-2147483648) ≤ n46) (f88 : n46 = hV H2 (n45).toNat (n1).toNat) (f89 : n47 = w32 (n44 - n46)) : n47 ≠ 0 := by
  have g4 := f16.2.1.1
  unfold Ab_273_75 at g4
  have g3 := f16.2.1.2
  unfold preb_273 at g3
  have e1 : n13 = hV H0 305 (n12).toNat := (by rw [f18] at f24; exact f24 : n13 = hV H1 305 (n12).toNat).trans ((congrFun (fRow f16.1.2.1 305 kR_273_305) _))
  have e2 : n20 = hV H0 305 (n19).toNat := (by rw [f26] at f34; exact f34 : n20 = hV H1 305 (n19).toNat).trans ((congrFun (fRow f16.1.2.1 305 kR_273_305) _))
  have e3 : n27 = hV H0 305 (n26).toNat := (by rw [f36] at f44; exact f44 : n27 = hV H1 305 (n26).toNat).trans ((congrFun (fRow f16.1.2.1 305 kR_273_305) _))
  have e6 : n32 = hV H0 328 (n1).toNat := (by rw [f49] at f53; exact f53 : n32 = hV H2 328 (n1).toNat).trans (((congrFun (uRowNe f48 328 (iS (show n5 = ((285 : Nat) : Int) from f10) rfl)) _)).trans ((congrFun (fRow f16.1.2.1 328 kR_273_328) _)))
  have e8 : n34 = n29 := (by rw [f10] at f58; exact f58 : n34 = hV H2 285 88).trans ((uSame f48 285 88 f10.symm f47.symm))
  have e11 : n36 = hV H0 331 (n1).toNat := (by rw [f59] at f63; exact f63 : n36 = hV H2 331 (n1).toNat).trans (((congrFun (uRowNe f48 331 (iS (show n5 = ((285 : Nat) : Int) from f10) rfl)) _)).trans ((congrFun (fRow f16.1.2.1 331 kR_273_331) _)))
  have e14 : n38 = hV H0 330 (n1).toNat := (by rw [f65] at f69; exact f69 : n38 = hV H2 330 (n1).toNat).trans (((congrFun (uRowNe f48 330 (iS (show n5 = ((285 : Nat) : Int) from f10) rfl)) _)).trans ((congrFun (fRow f16.1.2.1 330 kR_273_330) _)))
  have e15 : n39 = n29 := (by rw [f10] at f72; exact f72 : n39 = hV H2 285 88).trans ((uSame f48 285 88 f10.symm f47.symm))
  have e16 : n41 = hV H0 330 (n1).toNat := (by rw [f73] at f77; exact f77 : n41 = hV H2 330 (n1).toNat).trans (((congrFun (uRowNe f48 330 (iS (show n5 = ((285 : Nat) : Int) from f10) rfl)) _)).trans ((congrFun (fRow f16.1.2.1 330 kR_273_330) _)))
  have e17 : n44 = hV H0 331 (n1).toNat := (by rw [f79] at f83; exact f83 : n44 = hV H2 331 (n1).toNat).trans (((congrFun (uRowNe f48 331 (iS (show n5 = ((285 : Nat) : Int) from f10) rfl)) _)).trans ((congrFun (fRow f16.1.2.1 331 kR_273_331) _)))
  have e18 : n46 = hV H0 330 (n1).toNat := (by rw [f84] at f88; exact f88 : n46 = hV H2 330 (n1).toNat).trans (((congrFun (uRowNe f48 330 (iS (show n5 = ((285 : Nat) : Int) from f10) rfl)) _)).trans ((congrFun (fRow f16.1.2.1 330 kR_273_330) _)))
  have e20 : hV H1 285 64 = hV H0 285 64 := (f16.1.2.1.1 285 64 kF_273_285_64)
  have e23 : hV H1 300 = hV H0 300 := fRow f16.1.2.1 300 kR_273_300
  have e24 : hV H1 344 = hV H0 344 := fRow f16.1.2.1 344 kR_273_344
  have e25 : (0 : Int) ≤ hV H0 285 64 ∧ hV H0 285 64 ≤ 20 := bTo e20 (f16.1.2.2 285 64 _ _ kW_285_64)
  have e26 : (0 : Int) ≤ hV H0 285 82 ∧ hV H0 285 82 ≤ 40 := bTo ((f16.1.2.1.1 285 82 kF_273_285_82)) (f16.1.2.2 285 82 _ _ kW_285_82)
  try simp only [e20, e23, e24] at g4
  have k0 := g4.1
  have k1 := g4.2.1
  have y0 := g4.2.2.1
  have y1 := g4.2.2.2.1
  have y2 := g4.2.2.2.2.1
  have y3 := g4.2.2.2.2.2
  have p0 := g3.1
  have p1 := g3.2.1
  have p2 := g3.2.2.1
  have p3 := g3.2.2.2
  clear g3
  clear g4
  clear f19 f24 f27 f34 f37 f44 f50 f53 f58 f60 f63 f66 f69 f72 f74 f77 f80 f83 f85 f88 e20 e23 e24
  subst e1
  subst e2
  subst e3
  subst e6
  subst e11
  subst e14
  subst e16
  subst e17
  subst e18
  rw [f20] at f21
  rw [f17] at f25
  rw [f28] at f29
  rw [f38] at f39
  try have t1 := SO1 p2 (s := (n1).toNat) (by omega) (by omega)
  first
  | (have ix0 : n12 = 6 * n2 := Eq.trans f21 (w32_iv (Iml 6 rfl (Iat f5 f4)) (by decide)); subst ix0; clear f21)
  | (have ix0 : n12 = 6 * n2 := Eq.trans f21 (w32_id (by omega) (by omega)); subst ix0; clear f21)
  | (unfold w32 at f21; have ix0 : n12 = 6 * n2 := (by omega); subst ix0)
  | skip
  first
  | (have ix1 : n14 = 4 * (hV H0 305 ((6 * n2)).toNat) := Eq.trans f25 (w32_iv (Iml 4 rfl (Iat f23 f22)) (by decide)); subst ix1; clear f25)
  | (have ix1 : n14 = 4 * (hV H0 305 ((6 * n2)).toNat) := Eq.trans f25 (w32_id (by omega) (by omega)); subst ix1; clear f25)
  | (unfold w32 at f25; have ix1 : n14 = 4 * (hV H0 305 ((6 * n2)).toNat) := (by omega); subst ix1)
  | skip
  first
  | (have ix2 : n17 = 6 * n2 := Eq.trans f29 (w32_iv (Iml 6 rfl (Iat f5 f4)) (by decide)); subst ix2; clear f29)
  | (have ix2 : n17 = 6 * n2 := Eq.trans f29 (w32_id (by omega) (by omega)); subst ix2; clear f29)
  | (unfold w32 at f29; have ix2 : n17 = 6 * n2 := (by omega); subst ix2)
  | skip
  first
  | (have ix3 : n19 = (6 * n2) + 3 := Eq.trans f31 (w32_iv (Iad (Iml 6 rfl (Iat f5 f4)) (IC 3)) (by decide)); subst ix3; clear f31)
  | (have ix3 : n19 = (6 * n2) + 3 := Eq.trans f31 (w32_id (by omega) (by omega)); subst ix3; clear f31)
  | (unfold w32 at f31; have ix3 : n19 = (6 * n2) + 3 := (by omega); subst ix3)
  | skip
  first
  | (have ix4 : n24 = 6 * n2 := Eq.trans f39 (w32_iv (Iml 6 rfl (Iat f5 f4)) (by decide)); subst ix4; clear f39)
  | (have ix4 : n24 = 6 * n2 := Eq.trans f39 (w32_id (by omega) (by omega)); subst ix4; clear f39)
  | (unfold w32 at f39; have ix4 : n24 = 6 * n2 := (by omega); subst ix4)
  | skip
  first
  | (have ix5 : n26 = (6 * n2) + 4 := Eq.trans f41 (w32_iv (Iad (Iml 6 rfl (Iat f5 f4)) (IC 4)) (by decide)); subst ix5; clear f41)
  | (have ix5 : n26 = (6 * n2) + 4 := Eq.trans f41 (w32_id (by omega) (by omega)); subst ix5; clear f41)
  | (unfold w32 at f41; have ix5 : n26 = (6 * n2) + 4 := (by omega); subst ix5)
  | skip
  first
  | (have ix6 : n29 = (4 * (hV H0 305 ((6 * n2)).toNat)) + n28 := Eq.trans f46 (w32_id (by omega) (by omega)); subst ix6; clear f46)
  | (unfold w32 at f46; have ix6 : n29 = (4 * (hV H0 305 ((6 * n2)).toNat)) + n28 := (by omega); subst ix6)
  | skip
  try unfold w32 at f21
  try unfold w32 at f25
  try unfold w32 at f29
  try unfold w32 at f31
  try unfold w32 at f35
  try unfold w32 at f39
  try unfold w32 at f41
  try unfold w32 at f46
  try unfold w32 at f78
  try unfold w32 at f89

  first
  | omega
  | (have xc := XQ_4 p1 (s := (n7).toNat) (by omega) (by omega) (n := 6 * n2 + 4) (by omega) (by omega)
     omega)
theorem c_273_75_6 {q0 : Nat} : vOkm T0 (eP e_273 L_273 A_273 mu_273 (some q0)) 3 ([(2, [47, 44, 46], [], 0), (22, [46, 45, 7], [2], 0), (90, [46], [], -2147483648), (91, [46], [], 2147483647), (20, [45, 3], [2], 68), (0, [45], [], 330), (22, [44, 43, 7], [2], 0), (90, [44], [], -2147483648), (91, [44], [], 2147483647), (20, [43, 3], [2], 69), (0, [43], [], 331), (2, [42, 39, 41], [], 0), (22, [41, 40, 7], [2], 0), (90, [41], [], -2147483648), (91, [41], [], 2147483647), (20, [40, 3], [2], 68), (0, [40], [], 330), (20, [39, 3], [2], 88), (90, [39], [], -2147483648), (91, [39], [], 2147483647), (22, [38, 37, 7], [2], 0), (90, [38], [], -2147483648), (91, [38], [], 2147483647), (20, [37, 3], [2], 68), (0, [37], [], 330), (43, [34, 36], [], 0), (22, [36, 35, 7], [2], 0), (90, [36], [], -2147483648), (91, [36], [], 2147483647), (20, [35, 3], [2], 69), (0, [35], [], 331), (20, [34, 3], [2], 88), (90, [34], [], -2147483648), (91, [34], [], 2147483647), (40, [32, 33], [], 0), (0, [33], [], 1), (22, [32, 31, 7], [2], 0), (90, [32], [], 0), (91, [32], [], 6), (20, [31, 3], [2], 66), (0, [31], [], 328), (80, [3, 30, 29], [2, 1], 0), (0, [30], [], 88), (1, [29, 14, 28], [], 0), (11, [28, 21, 27], [], 0), (22, [27, 22, 26], [1], 0), (90, [27], [], -1), (91, [27], [], 9999), (1, [26, 24, 25], [], 0), (0, [25], [], 4), (3, [24, 23, 6], [], 0), (0, [23], [], 6), (20, [22, 3], [1], 31), (0, [22], [], 305), (3, [21, 8, 20], [], 0), (22, [20, 15, 19], [1], 0), (90, [20], [], -1), (91, [20], [], 9999), (1, [19, 17, 18], [], 0), (0, [18], [], 3), (3, [17, 16, 6], [], 0), (0, [16], [], 6), (20, [15, 3], [1], 31), (0, [15], [], 305), (3, [14, 9, 13], [], 0), (22, [13, 10, 12], [1], 0), (90, [13], [], -1), (91, [13], [], 9999), (3, [12, 11, 6], [], 0), (0, [11], [], 6), (20, [10, 3], [1], 31), (0, [10], [], 305), (0, [9], [], 4), (5000, [0, 1, 2, 3, 4, 5, 6, 7, 8], [0, 1], 75), (0, [0], [], 285), (90, [1], [], 0), (91, [1], [], 39), (90, [2], [], -2147483648), (91, [2], [], 2147483647), (0, [3], [], 285), (90, [4], [], 0), (91, [4], [], 39), (90, [5], [], -2147483648), (91, [5], [], 2147483647), (90, [6], [], 0), (91, [6], [], 1007), (90, [7], [], 0), (91, [7], [], 19), (90, [8], [], -2147483648), (91, [8], [], 2147483647)], (72, [47], [], 0)) := vOk_inI fun ρ η f0 f1 f2 f3 f4 f5 f6 f7 f8 f9 f10 f11 f12 f13 f14 f15 f16 f17 f18 f19 f20 f21 f22 f23 f24 f25 f26 f27 f28 f29 f30 f31 f32 f33 f34 f35 f36 f37 f38 f39 f40 f41 f42 f43 f44 f45 f46 f47 f48 f49 f50 f51 f52 f53 f54 f55 f56 f57 f58 f59 f60 f61 f62 f63 f64 f65 f66 f67 f68 f69 f70 f71 f72 f73 f74 f75 f76 f77 f78 f79 f80 f81 f82 f83 f84 f85 f86 f87 f88 f89 => q_273_18 (q0 := q0) (n0 := ρ 8) (n1 := ρ 7) (n2 := ρ 6) (n3 := ρ 5) (n4 := ρ 4) (n5 := ρ 3) (n6 := ρ 2) (n7 := ρ 1) (n8 := ρ 0) (n9 := ρ 9) (n10 := ρ 10) (n11 := ρ 11) (n12 := ρ 12) (n13 := ρ 13) (n14 := ρ 14) (n15 := ρ 15) (n16 := ρ 16) (n17 := ρ 17) (n18 := ρ 18) (n19 := ρ 19) (n20 := ρ 20) (n21 := ρ 21) (n22 := ρ 22) (n23 := ρ 23) (n24 := ρ 24) (n25 := ρ 25) (n26 := ρ 26) (n27 := ρ 27) (n28 := ρ 28) (n29 := ρ 29) (n30 := ρ 30) (n31 := ρ 31) (n32 := ρ 32) (n33 := ρ 33) (n34 := ρ 34) (n35 := ρ 35) (n36 := ρ 36) (n37 := ρ 37) (n38 := ρ 38) (n39 := ρ 39) (n40 := ρ 40) (n41 := ρ 41) (n42 := ρ 42) (n43 := ρ 43) (n44 := ρ 44) (n45 := ρ 45) (n46 := ρ 46) (n47 := ρ 47) (H0 := η 0) (H1 := η 1) (H2 := η 2) f89 f88 f87 f86 f85 f84 f83 f82 f81 f80 f79 f78 f77 f76 f75 f74 f73 f72 f71 f70 f69 f68 f67 f66 f65 f64 f63 f62 f61 f60 f59 f58 f57 f56 f55 f54 f53 f52 f51 f50 f49 f48 f47 f46 f45 f44 f43 f42 f41 f40 f39 f38 f37 f36 f35 f34 f33 f32 f31 f30 f29 f28 f27 f26 f25 f24 f23 f22 f21 f20 f19 f18 f17 f16 f15 f14 f13 f12 f11 f10 f9 f8 f7 f6 f5 f4 f3 f2 f1 f0
theorem q_273_19 {q0 : Nat} {n0 n1 n2 n3 n4 n5 n6 n7 n8 n9 n10 n11 n12 n13 n14 n15 n16 n17 n18 n19 n20 n21 n22 n23 n24 n25 n26 n27 n28 n29 n30 n31 n32 n33 n34 n35 n36 n37 n38 n39 n40 n41 n42 n43 n44 n45 n46 n47 n48 n49 n50 : Int} {H0 H1 H2 H3 : gH} (f0 : n0 ≤ 2147483647) (f1 : (-2147483648) ≤ n0) (f2 : n1 ≤ 19) (f3 : 0 ≤ n1) (f4 : n2 ≤ 1007) (f5 : 0 ≤ n2) (f6 : n3 ≤ 2147483647) (f7 : (-2147483648) ≤ n3) (f8 : n4 ≤ 39) (f9 : 0 ≤ n4) (f10 : n5 = 285) (f11 : n6 ≤ 2147483647) (f12 : (-2147483648) ≤ n6) (f13 : n7 ≤ 39) (f14 : 0 ≤ n7) (f15 : n8 = 285) (f16 : (hLe T0 H0 H1 ∧ hFr s_273.2.2.2.2 H0 H1 ∧ hWt T0 H1) ∧ (Ab_273_75 n8 n7 n6 n5 n4 n3 n2 n1 n0 H0 H1 ∧ preb_273 n8 n7 n6 H0) ∧ some q0 = some (mub_273_75 n8 n7 n6 n5 n4 n3 n2 n1 n0 H0 H1)) (f17 : n9 = 4) (f18 : n10 = 305) (f19 : n10 = hV H1 (n5).toNat 31) (f20 : n11 = 6) (f21 : n12 = w32 (n11 * n2)) (f22 : n13 ≤ 9999) (f23 : (-1) ≤ n13) (f24 : n13 = hV H1 (n10).toNat (n12).toNat) (f25 : n14 = w32 (n9 * n13)) (f26 : n15 = 305) (f27 : n15 = hV H1 (n5).toNat 31) (f28 : n16 = 6) (f29 : n17 = w32 (n16 * n2)) (f30 : n18 = 3) (f31 : n19 = w32 (n17 + n18)) (f32 : n20 ≤ 9999) (f33 : (-1) ≤ n20) (f34 : n20 = hV H1 (n15).toNat (n19).toNat) (f35 : n21 = w32 (n0 * n20)) (f36 : n22 = 305) (f37 : n22 = hV H1 (n5).toNat 31) (f38 : n23 = 6) (f39 : n24 = w32 (n23 * n2)) (f40 : n25 = 4) (f41 : n26 = w32 (n24 + n25)) (f42 : n27 ≤ 9999) (f43 : (-1) ≤ n27) (f44 : n27 = hV H1 (n22).toNat (n26).toNat) (f45 : n28 = o32 (fun x y => x / y) n21 n27) (f46 : n29 = w32 (n14 + n28)) (f47 : n30 = 88) (f48 : hUpd H2 H1 n5 n30 n29) (f49 : n31 = 328) (f50 : n31 = hV H2 (n5).toNat 66) (f51 : n32 ≤ 6) (f52 : 0 ≤ n32) (f53 : n32 = hV H2 (n31).toNat (n1).toNat) (f54 : n33 = 1) (f55 : n32 = n33) (f56 : n34 ≤ 2147483647) (f57 : (-2147483648) ≤ n34) (f58 : n34 = hV H2 (n5).toNat 88) (f59 : n35 = 331) (f60 : n35 = hV H2 (n5).toNat 69) (f61 : n36 ≤ 2147483647) (f62 : (-2147483648) ≤ n36) (f63 : n36 = hV H2 (n35).toNat (n1).toNat) (f64 : n36 ≤ n34) (f65 : n37 = 330) (f66 : n37 = hV H2 (n5).toNat 68) (f67 : n38 ≤ 2147483647) (f68 : (-2147483648) ≤ n38) (f69 : n38 = hV H2 (n37).toNat (n1).toNat) (f70 : n39 ≤ 2147483647) (f71 : (-2147483648) ≤ n39) (f72 : n39 = hV H2 (n5).toNat 88) (f73 : n40 = 330) (f74 : n40 = hV H2 (n5).toNat 68) (f75 : n41 ≤ 2147483647) (f76 : (-2147483648) ≤ n41) (f77 : n41 = hV H2 (n40).toNat (n1).toNat) (f78 : n42 = w32 (n39 - n41)) (f79 : n43 = 331) (f80 : n43 = hV H2 (n5).toNat 69) (f81 : n44 ≤ 2147483647) (f82 : (-2147483648) ≤ n44) (f83 : n44 = hV H2 (n43).toNat (n1).toNat) (f84 : n45 = 330) (f85 : n45 = hV H2 (n5).toNat 68) (f86 : n46 ≤ 2147483647) (f87 : (-2147483648) ≤ n46) (f88 : n46 = hV H2 (n45).toNat (n1).toNat) (f89 : n47 = w32 (n44 - n46)) (f90 : n48 = o32 (fun x y => x - x / y * y) n42 n47) (f91 : n49 = w32 (n38 + n48)) (f92 : n50 = 88) (f93 : hUpd H3 H2 n5 n50 n49) : Ab_273_182 n8 n7 n6 n5 n4 n3 n2 n1 n0 H0 H3 ∧ ∀ q, some q0 = some q → mub_273_182 n8 n7 n6 n5 n4 n3 n2 n1 n0 H0 H3 < q := by
  have g4 := f16.2.1.1
  unfold Ab_273_75 at g4
  have g3 := f16.2.1.2
  unfold preb_273 at g3
  have g5 := Option.some.inj f16.2.2
  unfold mub_273_75 at g5
  unfold Ab_273_182
  unfold mub_273_182
  have e1 : n13 = hV H0 305 (n12).toNat := (by rw [f18] at f24; exact f24 : n13 = hV H1 305 (n12).toNat).trans ((congrFun (fRow f16.1.2.1 305 kR_273_305) _))
  have e2 : n20 = hV H0 305 (n19).toNat := (by rw [f26] at f34; exact f34 : n20 = hV H1 305 (n19).toNat).trans ((congrFun (fRow f16.1.2.1 305 kR_273_305) _))
  have e3 : n27 = hV H0 305 (n26).toNat := (by rw [f36] at f44; exact f44 : n27 = hV H1 305 (n26).toNat).trans ((congrFun (fRow f16.1.2.1 305 kR_273_305) _))
  have e6 : n32 = hV H0 328 (n1).toNat := (by rw [f49] at f53; exact f53 : n32 = hV H2 328 (n1).toNat).trans (((congrFun (uRowNe f48 328 (iS (show n5 = ((285 : Nat) : Int) from f10) rfl)) _)).trans ((congrFun (fRow f16.1.2.1 328 kR_273_328) _)))
  have e8 : n34 = n29 := (by rw [f10] at f58; exact f58 : n34 = hV H2 285 88).trans ((uSame f48 285 88 f10.symm f47.symm))
  have e11 : n36 = hV H0 331 (n1).toNat := (by rw [f59] at f63; exact f63 : n36 = hV H2 331 (n1).toNat).trans (((congrFun (uRowNe f48 331 (iS (show n5 = ((285 : Nat) : Int) from f10) rfl)) _)).trans ((congrFun (fRow f16.1.2.1 331 kR_273_331) _)))
  have e14 : n38 = hV H0 330 (n1).toNat := (by rw [f65] at f69; exact f69 : n38 = hV H2 330 (n1).toNat).trans (((congrFun (uRowNe f48 330 (iS (show n5 = ((285 : Nat) : Int) from f10) rfl)) _)).trans ((congrFun (fRow f16.1.2.1 330 kR_273_330) _)))
  have e15 : n39 = n29 := (by rw [f10] at f72; exact f72 : n39 = hV H2 285 88).trans ((uSame f48 285 88 f10.symm f47.symm))
  have e16 : n41 = hV H0 330 (n1).toNat := (by rw [f73] at f77; exact f77 : n41 = hV H2 330 (n1).toNat).trans (((congrFun (uRowNe f48 330 (iS (show n5 = ((285 : Nat) : Int) from f10) rfl)) _)).trans ((congrFun (fRow f16.1.2.1 330 kR_273_330) _)))
  have e17 : n44 = hV H0 331 (n1).toNat := (by rw [f79] at f83; exact f83 : n44 = hV H2 331 (n1).toNat).trans (((congrFun (uRowNe f48 331 (iS (show n5 = ((285 : Nat) : Int) from f10) rfl)) _)).trans ((congrFun (fRow f16.1.2.1 331 kR_273_331) _)))
  have e18 : n46 = hV H0 330 (n1).toNat := (by rw [f84] at f88; exact f88 : n46 = hV H2 330 (n1).toNat).trans (((congrFun (uRowNe f48 330 (iS (show n5 = ((285 : Nat) : Int) from f10) rfl)) _)).trans ((congrFun (fRow f16.1.2.1 330 kR_273_330) _)))
  have e20 : hV H1 285 64 = hV H0 285 64 := (f16.1.2.1.1 285 64 kF_273_285_64)
  have e23 : hV H1 300 = hV H0 300 := fRow f16.1.2.1 300 kR_273_300
  have e24 : hV H1 344 = hV H0 344 := fRow f16.1.2.1 344 kR_273_344
  have e27 : hV H3 285 64 = hV H0 285 64 := ((uSlot f93 285 64 (iS (show n50 = ((88 : Nat) : Int) from f92) rfl))).trans (((uSlot f48 285 64 (iS (show n30 = ((88 : Nat) : Int) from f47) rfl))).trans (f16.1.2.1.1 285 64 kF_273_285_64))
  have e31 : hV H3 300 = hV H0 300 := (uRowNe f93 300 (iS (show n5 = ((285 : Nat) : Int) from f10) rfl)).trans ((uRowNe f48 300 (iS (show n5 = ((285 : Nat) : Int) from f10) rfl)).trans e23)
  have e35 : hV H3 344 = hV H0 344 := (uRowNe f93 344 (iS (show n5 = ((285 : Nat) : Int) from f10) rfl)).trans ((uRowNe f48 344 (iS (show n5 = ((285 : Nat) : Int) from f10) rfl)).trans e24)
  have e36 : (0 : Int) ≤ hV H0 285 64 ∧ hV H0 285 64 ≤ 20 := bTo e20 (f16.1.2.2 285 64 _ _ kW_285_64)
  have e37 : (0 : Int) ≤ hV H0 285 82 ∧ hV H0 285 82 ≤ 40 := bTo ((f16.1.2.1.1 285 82 kF_273_285_82)) (f16.1.2.2 285 82 _ _ kW_285_82)
  try simp only [e20, e23, e24] at g4
  try simp only [e27, e31, e35]
  have k0 := g4.1
  have k1 := g4.2.1
  have y0 := g4.2.2.1
  have y1 := g4.2.2.2.1
  have y2 := g4.2.2.2.2.1
  have y3 := g4.2.2.2.2.2
  have p0 := g3.1
  have p1 := g3.2.1
  have p2 := g3.2.2.1
  have p3 := g3.2.2.2
  clear g3
  clear g4
  clear f19 f24 f27 f34 f37 f44 f50 f53 f58 f60 f63 f66 f69 f72 f74 f77 f80 f83 f85 f88 e20 e23 e24 e27 e31 e35
  subst e1
  subst e2
  subst e3
  subst e6
  subst e11
  subst e14
  subst e16
  subst e17
  subst e18
  rw [f20] at f21
  rw [f17] at f25
  rw [f28] at f29
  rw [f38] at f39
  try have t1 := SO1 p2 (s := (n1).toNat) (by omega) (by omega)
  first
  | (have ix0 : n12 = 6 * n2 := Eq.trans f21 (w32_iv (Iml 6 rfl (Iat f5 f4)) (by decide)); subst ix0; clear f21)
  | (have ix0 : n12 = 6 * n2 := Eq.trans f21 (w32_id (by omega) (by omega)); subst ix0; clear f21)
  | (unfold w32 at f21; have ix0 : n12 = 6 * n2 := (by omega); subst ix0)
  | skip
  first
  | (have ix1 : n14 = 4 * (hV H0 305 ((6 * n2)).toNat) := Eq.trans f25 (w32_iv (Iml 4 rfl (Iat f23 f22)) (by decide)); subst ix1; clear f25)
  | (have ix1 : n14 = 4 * (hV H0 305 ((6 * n2)).toNat) := Eq.trans f25 (w32_id (by omega) (by omega)); subst ix1; clear f25)
  | (unfold w32 at f25; have ix1 : n14 = 4 * (hV H0 305 ((6 * n2)).toNat) := (by omega); subst ix1)
  | skip
  first
  | (have ix2 : n17 = 6 * n2 := Eq.trans f29 (w32_iv (Iml 6 rfl (Iat f5 f4)) (by decide)); subst ix2; clear f29)
  | (have ix2 : n17 = 6 * n2 := Eq.trans f29 (w32_id (by omega) (by omega)); subst ix2; clear f29)
  | (unfold w32 at f29; have ix2 : n17 = 6 * n2 := (by omega); subst ix2)
  | skip
  first
  | (have ix3 : n19 = (6 * n2) + 3 := Eq.trans f31 (w32_iv (Iad (Iml 6 rfl (Iat f5 f4)) (IC 3)) (by decide)); subst ix3; clear f31)
  | (have ix3 : n19 = (6 * n2) + 3 := Eq.trans f31 (w32_id (by omega) (by omega)); subst ix3; clear f31)
  | (unfold w32 at f31; have ix3 : n19 = (6 * n2) + 3 := (by omega); subst ix3)
  | skip
  first
  | (have ix4 : n24 = 6 * n2 := Eq.trans f39 (w32_iv (Iml 6 rfl (Iat f5 f4)) (by decide)); subst ix4; clear f39)
  | (have ix4 : n24 = 6 * n2 := Eq.trans f39 (w32_id (by omega) (by omega)); subst ix4; clear f39)
  | (unfold w32 at f39; have ix4 : n24 = 6 * n2 := (by omega); subst ix4)
  | skip
  first
  | (have ix5 : n26 = (6 * n2) + 4 := Eq.trans f41 (w32_iv (Iad (Iml 6 rfl (Iat f5 f4)) (IC 4)) (by decide)); subst ix5; clear f41)
  | (have ix5 : n26 = (6 * n2) + 4 := Eq.trans f41 (w32_id (by omega) (by omega)); subst ix5; clear f41)
  | (unfold w32 at f41; have ix5 : n26 = (6 * n2) + 4 := (by omega); subst ix5)
  | skip
  first
  | (have ix6 : n29 = (4 * (hV H0 305 ((6 * n2)).toNat)) + n28 := Eq.trans f46 (w32_id (by omega) (by omega)); subst ix6; clear f46)
  | (unfold w32 at f46; have ix6 : n29 = (4 * (hV H0 305 ((6 * n2)).toNat)) + n28 := (by omega); subst ix6)
  | skip
  first
  | (have ix7 : n49 = hV H0 330 (n1).toNat + n48 := Eq.trans f91 (w32_id (by omega) (by omega)); subst ix7; clear f91)
  | (unfold w32 at f91; have ix7 : n49 = hV H0 330 (n1).toNat + n48 := (by omega); subst ix7)
  | skip
  try unfold w32 at f21
  try unfold w32 at f25
  try unfold w32 at f29
  try unfold w32 at f31
  try unfold w32 at f35
  try unfold w32 at f39
  try unfold w32 at f41
  try unfold w32 at f46
  try unfold w32 at f78
  try unfold w32 at f89
  try unfold w32 at f91
  subst y0
  subst y1
  refine ⟨?_, fun q hq => ?_⟩
  · refine ⟨?_, ?_, ?_, ?_, ?_, ?_⟩ <;> first | assumption | omega | trivial
  · have g6 := Option.some.inj hq
    subst g6
    omega
theorem c_273_75_7 {q0 : Nat} : vOkm T0 (eP e_273 L_273 A_273 mu_273 (some q0)) 3 ([(80, [3, 50, 49], [3, 2], 0), (0, [50], [], 88), (1, [49, 38, 48], [], 0), (12, [48, 42, 47], [], 0), (2, [47, 44, 46], [], 0), (22, [46, 45, 7], [2], 0), (90, [46], [], -2147483648), (91, [46], [], 2147483647), (20, [45, 3], [2], 68), (0, [45], [], 330), (22, [44, 43, 7], [2], 0), (90, [44], [], -2147483648), (91, [44], [], 2147483647), (20, [43, 3], [2], 69), (0, [43], [], 331), (2, [42, 39, 41], [], 0), (22, [41, 40, 7], [2], 0), (90, [41], [], -2147483648), (91, [41], [], 2147483647), (20, [40, 3], [2], 68), (0, [40], [], 330), (20, [39, 3], [2], 88), (90, [39], [], -2147483648), (91, [39], [], 2147483647), (22, [38, 37, 7], [2], 0), (90, [38], [], -2147483648), (91, [38], [], 2147483647), (20, [37, 3], [2], 68), (0, [37], [], 330), (43, [34, 36], [], 0), (22, [36, 35, 7], [2], 0), (90, [36], [], -2147483648), (91, [36], [], 2147483647), (20, [35, 3], [2], 69), (0, [35], [], 331), (20, [34, 3], [2], 88), (90, [34], [], -2147483648), (91, [34], [], 2147483647), (40, [32, 33], [], 0), (0, [33], [], 1), (22, [32, 31, 7], [2], 0), (90, [32], [], 0), (91, [32], [], 6), (20, [31, 3], [2], 66), (0, [31], [], 328), (80, [3, 30, 29], [2, 1], 0), (0, [30], [], 88), (1, [29, 14, 28], [], 0), (11, [28, 21, 27], [], 0), (22, [27, 22, 26], [1], 0), (90, [27], [], -1), (91, [27], [], 9999), (1, [26, 24, 25], [], 0), (0, [25], [], 4), (3, [24, 23, 6], [], 0), (0, [23], [], 6), (20, [22, 3], [1], 31), (0, [22], [], 305), (3, [21, 8, 20], [], 0), (22, [20, 15, 19], [1], 0), (90, [20], [], -1), (91, [20], [], 9999), (1, [19, 17, 18], [], 0), (0, [18], [], 3), (3, [17, 16, 6], [], 0), (0, [16], [], 6), (20, [15, 3], [1], 31), (0, [15], [], 305), (3, [14, 9, 13], [], 0), (22, [13, 10, 12], [1], 0), (90, [13], [], -1), (91, [13], [], 9999), (3, [12, 11, 6], [], 0), (0, [11], [], 6), (20, [10, 3], [1], 31), (0, [10], [], 305), (0, [9], [], 4), (5000, [0, 1, 2, 3, 4, 5, 6, 7, 8], [0, 1], 75), (0, [0], [], 285), (90, [1], [], 0), (91, [1], [], 39), (90, [2], [], -2147483648), (91, [2], [], 2147483647), (0, [3], [], 285), (90, [4], [], 0), (91, [4], [], 39), (90, [5], [], -2147483648), (91, [5], [], 2147483647), (90, [6], [], 0), (91, [6], [], 1007), (90, [7], [], 0), (91, [7], [], 19), (90, [8], [], -2147483648), (91, [8], [], 2147483647)], (4000, [3, 4, 5, 6, 7, 8], [3], 182)) := vOk_inI fun ρ η f0 f1 f2 f3 f4 f5 f6 f7 f8 f9 f10 f11 f12 f13 f14 f15 f16 f17 f18 f19 f20 f21 f22 f23 f24 f25 f26 f27 f28 f29 f30 f31 f32 f33 f34 f35 f36 f37 f38 f39 f40 f41 f42 f43 f44 f45 f46 f47 f48 f49 f50 f51 f52 f53 f54 f55 f56 f57 f58 f59 f60 f61 f62 f63 f64 f65 f66 f67 f68 f69 f70 f71 f72 f73 f74 f75 f76 f77 f78 f79 f80 f81 f82 f83 f84 f85 f86 f87 f88 f89 f90 f91 f92 f93 => q_273_19 (q0 := q0) (n0 := ρ 8) (n1 := ρ 7) (n2 := ρ 6) (n3 := ρ 5) (n4 := ρ 4) (n5 := ρ 3) (n6 := ρ 2) (n7 := ρ 1) (n8 := ρ 0) (n9 := ρ 9) (n10 := ρ 10) (n11 := ρ 11) (n12 := ρ 12) (n13 := ρ 13) (n14 := ρ 14) (n15 := ρ 15) (n16 := ρ 16) (n17 := ρ 17) (n18 := ρ 18) (n19 := ρ 19) (n20 := ρ 20) (n21 := ρ 21) (n22 := ρ 22) (n23 := ρ 23) (n24 := ρ 24) (n25 := ρ 25) (n26 := ρ 26) (n27 := ρ 27) (n28 := ρ 28) (n29 := ρ 29) (n30 := ρ 30) (n31 := ρ 31) (n32 := ρ 32) (n33 := ρ 33) (n34 := ρ 34) (n35 := ρ 35) (n36 := ρ 36) (n37 := ρ 37) (n38 := ρ 38) (n39 := ρ 39) (n40 := ρ 40) (n41 := ρ 41) (n42 := ρ 42) (n43 := ρ 43) (n44 := ρ 44) (n45 := ρ 45) (n46 := ρ 46) (n47 := ρ 47) (n48 := ρ 48) (n49 := ρ 49) (n50 := ρ 50) (H0 := η 0) (H1 := η 1) (H2 := η 2) (H3 := η 3) f93 f92 f91 f90 f89 f88 f87 f86 f85 f84 f83 f82 f81 f80 f79 f78 f77 f76 f75 f74 f73 f72 f71 f70 f69 f68 f67 f66 f65 f64 f63 f62 f61 f60 f59 f58 f57 f56 f55 f54 f53 f52 f51 f50 f49 f48 f47 f46 f45 f44 f43 f42 f41 f40 f39 f38 f37 f36 f35 f34 f33 f32 f31 f30 f29 f28 f27 f26 f25 f24 f23 f22 f21 f20 f19 f18 f17 f16 f15 f14 f13 f12 f11 f10 f9 f8 f7 f6 f5 f4 f3 f2 f1 f0
def p_273_75 : List vG := [([(3, [12, 11, 6], [], 0), (0, [11], [], 6), (5000, [0, 1, 2, 3, 4, 5, 6, 7, 8], [0, 1], 75), (0, [0], [], 285), (90, [1], [], 0), (91, [1], [], 39), (90, [2], [], -2147483648), (91, [2], [], 2147483647), (0, [3], [], 285), (90, [4], [], 0), (91, [4], [], 39), (90, [5], [], -2147483648), (91, [5], [], 2147483647), (90, [6], [], 0), (91, [6], [], 1007), (90, [7], [], 0), (91, [7], [], 19), (90, [8], [], -2147483648), (91, [8], [], 2147483647)], (70, [12], [], 6048)),
  ([(1, [19, 17, 18], [], 0), (0, [18], [], 3), (3, [17, 16, 6], [], 0), (0, [16], [], 6), (20, [15, 3], [1], 31), (0, [15], [], 305), (3, [14, 9, 13], [], 0), (22, [13, 10, 12], [1], 0), (90, [13], [], -1), (91, [13], [], 9999), (3, [12, 11, 6], [], 0), (0, [11], [], 6), (20, [10, 3], [1], 31), (0, [10], [], 305), (0, [9], [], 4), (5000, [0, 1, 2, 3, 4, 5, 6, 7, 8], [0, 1], 75), (0, [0], [], 285), (90, [1], [], 0), (91, [1], [], 39), (90, [2], [], -2147483648), (91, [2], [], 2147483647), (0, [3], [], 285), (90, [4], [], 0), (91, [4], [], 39), (90, [5], [], -2147483648), (91, [5], [], 2147483647), (90, [6], [], 0), (91, [6], [], 1007), (90, [7], [], 0), (91, [7], [], 19), (90, [8], [], -2147483648), (91, [8], [], 2147483647)], (70, [19], [], 6048)),
  ([(1, [26, 24, 25], [], 0), (0, [25], [], 4), (3, [24, 23, 6], [], 0), (0, [23], [], 6), (20, [22, 3], [1], 31), (0, [22], [], 305), (3, [21, 8, 20], [], 0), (22, [20, 15, 19], [1], 0), (90, [20], [], -1), (91, [20], [], 9999), (1, [19, 17, 18], [], 0), (0, [18], [], 3), (3, [17, 16, 6], [], 0), (0, [16], [], 6), (20, [15, 3], [1], 31), (0, [15], [], 305), (3, [14, 9, 13], [], 0), (22, [13, 10, 12], [1], 0), (90, [13], [], -1), (91, [13], [], 9999), (3, [12, 11, 6], [], 0), (0, [11], [], 6), (20, [10, 3], [1], 31), (0, [10], [], 305), (0, [9], [], 4), (5000, [0, 1, 2, 3, 4, 5, 6, 7, 8], [0, 1], 75), (0, [0], [], 285), (90, [1], [], 0), (91, [1], [], 39), (90, [2], [], -2147483648), (91, [2], [], 2147483647), (0, [3], [], 285), (90, [4], [], 0), (91, [4], [], 39), (90, [5], [], -2147483648), (91, [5], [], 2147483647), (90, [6], [], 0), (91, [6], [], 1007), (90, [7], [], 0), (91, [7], [], 19), (90, [8], [], -2147483648), (91, [8], [], 2147483647)], (70, [26], [], 6048)),
  ([(22, [27, 22, 26], [1], 0), (90, [27], [], -1), (91, [27], [], 9999), (1, [26, 24, 25], [], 0), (0, [25], [], 4), (3, [24, 23, 6], [], 0), (0, [23], [], 6), (20, [22, 3], [1], 31), (0, [22], [], 305), (3, [21, 8, 20], [], 0), (22, [20, 15, 19], [1], 0), (90, [20], [], -1), (91, [20], [], 9999), (1, [19, 17, 18], [], 0), (0, [18], [], 3), (3, [17, 16, 6], [], 0), (0, [16], [], 6), (20, [15, 3], [1], 31), (0, [15], [], 305), (3, [14, 9, 13], [], 0), (22, [13, 10, 12], [1], 0), (90, [13], [], -1), (91, [13], [], 9999), (3, [12, 11, 6], [], 0), (0, [11], [], 6), (20, [10, 3], [1], 31), (0, [10], [], 305), (0, [9], [], 4), (5000, [0, 1, 2, 3, 4, 5, 6, 7, 8], [0, 1], 75), (0, [0], [], 285), (90, [1], [], 0), (91, [1], [], 39), (90, [2], [], -2147483648), (91, [2], [], 2147483647), (0, [3], [], 285), (90, [4], [], 0), (91, [4], [], 39), (90, [5], [], -2147483648), (91, [5], [], 2147483647), (90, [6], [], 0), (91, [6], [], 1007), (90, [7], [], 0), (91, [7], [], 19), (90, [8], [], -2147483648), (91, [8], [], 2147483647)], (72, [27], [], 0)),
  ([(41, [32, 33], [], 0), (0, [33], [], 1), (22, [32, 31, 7], [2], 0), (90, [32], [], 0), (91, [32], [], 6), (20, [31, 3], [2], 66), (0, [31], [], 328), (80, [3, 30, 29], [2, 1], 0), (0, [30], [], 88), (1, [29, 14, 28], [], 0), (11, [28, 21, 27], [], 0), (22, [27, 22, 26], [1], 0), (90, [27], [], -1), (91, [27], [], 9999), (1, [26, 24, 25], [], 0), (0, [25], [], 4), (3, [24, 23, 6], [], 0), (0, [23], [], 6), (20, [22, 3], [1], 31), (0, [22], [], 305), (3, [21, 8, 20], [], 0), (22, [20, 15, 19], [1], 0), (90, [20], [], -1), (91, [20], [], 9999), (1, [19, 17, 18], [], 0), (0, [18], [], 3), (3, [17, 16, 6], [], 0), (0, [16], [], 6), (20, [15, 3], [1], 31), (0, [15], [], 305), (3, [14, 9, 13], [], 0), (22, [13, 10, 12], [1], 0), (90, [13], [], -1), (91, [13], [], 9999), (3, [12, 11, 6], [], 0), (0, [11], [], 6), (20, [10, 3], [1], 31), (0, [10], [], 305), (0, [9], [], 4), (5000, [0, 1, 2, 3, 4, 5, 6, 7, 8], [0, 1], 75), (0, [0], [], 285), (90, [1], [], 0), (91, [1], [], 39), (90, [2], [], -2147483648), (91, [2], [], 2147483647), (0, [3], [], 285), (90, [4], [], 0), (91, [4], [], 39), (90, [5], [], -2147483648), (91, [5], [], 2147483647), (90, [6], [], 0), (91, [6], [], 1007), (90, [7], [], 0), (91, [7], [], 19), (90, [8], [], -2147483648), (91, [8], [], 2147483647)], (4000, [3, 4, 5, 6, 7, 8], [2], 182)),
  ([(42, [34, 36], [], 0), (22, [36, 35, 7], [2], 0), (90, [36], [], -2147483648), (91, [36], [], 2147483647), (20, [35, 3], [2], 69), (0, [35], [], 331), (20, [34, 3], [2], 88), (90, [34], [], -2147483648), (91, [34], [], 2147483647), (40, [32, 33], [], 0), (0, [33], [], 1), (22, [32, 31, 7], [2], 0), (90, [32], [], 0), (91, [32], [], 6), (20, [31, 3], [2], 66), (0, [31], [], 328), (80, [3, 30, 29], [2, 1], 0), (0, [30], [], 88), (1, [29, 14, 28], [], 0), (11, [28, 21, 27], [], 0), (22, [27, 22, 26], [1], 0), (90, [27], [], -1), (91, [27], [], 9999), (1, [26, 24, 25], [], 0), (0, [25], [], 4), (3, [24, 23, 6], [], 0), (0, [23], [], 6), (20, [22, 3], [1], 31), (0, [22], [], 305), (3, [21, 8, 20], [], 0), (22, [20, 15, 19], [1], 0), (90, [20], [], -1), (91, [20], [], 9999), (1, [19, 17, 18], [], 0), (0, [18], [], 3), (3, [17, 16, 6], [], 0), (0, [16], [], 6), (20, [15, 3], [1], 31), (0, [15], [], 305), (3, [14, 9, 13], [], 0), (22, [13, 10, 12], [1], 0), (90, [13], [], -1), (91, [13], [], 9999), (3, [12, 11, 6], [], 0), (0, [11], [], 6), (20, [10, 3], [1], 31), (0, [10], [], 305), (0, [9], [], 4), (5000, [0, 1, 2, 3, 4, 5, 6, 7, 8], [0, 1], 75), (0, [0], [], 285), (90, [1], [], 0), (91, [1], [], 39), (90, [2], [], -2147483648), (91, [2], [], 2147483647), (0, [3], [], 285), (90, [4], [], 0), (91, [4], [], 39), (90, [5], [], -2147483648), (91, [5], [], 2147483647), (90, [6], [], 0), (91, [6], [], 1007), (90, [7], [], 0), (91, [7], [], 19), (90, [8], [], -2147483648), (91, [8], [], 2147483647)], (4000, [3, 4, 5, 6, 7, 8], [2], 182)),
  ([(2, [47, 44, 46], [], 0), (22, [46, 45, 7], [2], 0), (90, [46], [], -2147483648), (91, [46], [], 2147483647), (20, [45, 3], [2], 68), (0, [45], [], 330), (22, [44, 43, 7], [2], 0), (90, [44], [], -2147483648), (91, [44], [], 2147483647), (20, [43, 3], [2], 69), (0, [43], [], 331), (2, [42, 39, 41], [], 0), (22, [41, 40, 7], [2], 0), (90, [41], [], -2147483648), (91, [41], [], 2147483647), (20, [40, 3], [2], 68), (0, [40], [], 330), (20, [39, 3], [2], 88), (90, [39], [], -2147483648), (91, [39], [], 2147483647), (22, [38, 37, 7], [2], 0), (90, [38], [], -2147483648), (91, [38], [], 2147483647), (20, [37, 3], [2], 68), (0, [37], [], 330), (43, [34, 36], [], 0), (22, [36, 35, 7], [2], 0), (90, [36], [], -2147483648), (91, [36], [], 2147483647), (20, [35, 3], [2], 69), (0, [35], [], 331), (20, [34, 3], [2], 88), (90, [34], [], -2147483648), (91, [34], [], 2147483647), (40, [32, 33], [], 0), (0, [33], [], 1), (22, [32, 31, 7], [2], 0), (90, [32], [], 0), (91, [32], [], 6), (20, [31, 3], [2], 66), (0, [31], [], 328), (80, [3, 30, 29], [2, 1], 0), (0, [30], [], 88), (1, [29, 14, 28], [], 0), (11, [28, 21, 27], [], 0), (22, [27, 22, 26], [1], 0), (90, [27], [], -1), (91, [27], [], 9999), (1, [26, 24, 25], [], 0), (0, [25], [], 4), (3, [24, 23, 6], [], 0), (0, [23], [], 6), (20, [22, 3], [1], 31), (0, [22], [], 305), (3, [21, 8, 20], [], 0), (22, [20, 15, 19], [1], 0), (90, [20], [], -1), (91, [20], [], 9999), (1, [19, 17, 18], [], 0), (0, [18], [], 3), (3, [17, 16, 6], [], 0), (0, [16], [], 6), (20, [15, 3], [1], 31), (0, [15], [], 305), (3, [14, 9, 13], [], 0), (22, [13, 10, 12], [1], 0), (90, [13], [], -1), (91, [13], [], 9999), (3, [12, 11, 6], [], 0), (0, [11], [], 6), (20, [10, 3], [1], 31), (0, [10], [], 305), (0, [9], [], 4), (5000, [0, 1, 2, 3, 4, 5, 6, 7, 8], [0, 1], 75), (0, [0], [], 285), (90, [1], [], 0), (91, [1], [], 39), (90, [2], [], -2147483648), (91, [2], [], 2147483647), (0, [3], [], 285), (90, [4], [], 0), (91, [4], [], 39), (90, [5], [], -2147483648), (91, [5], [], 2147483647), (90, [6], [], 0), (91, [6], [], 1007), (90, [7], [], 0), (91, [7], [], 19), (90, [8], [], -2147483648), (91, [8], [], 2147483647)], (72, [47], [], 0)),
  ([(80, [3, 50, 49], [3, 2], 0), (0, [50], [], 88), (1, [49, 38, 48], [], 0), (12, [48, 42, 47], [], 0), (2, [47, 44, 46], [], 0), (22, [46, 45, 7], [2], 0), (90, [46], [], -2147483648), (91, [46], [], 2147483647), (20, [45, 3], [2], 68), (0, [45], [], 330), (22, [44, 43, 7], [2], 0), (90, [44], [], -2147483648), (91, [44], [], 2147483647), (20, [43, 3], [2], 69), (0, [43], [], 331), (2, [42, 39, 41], [], 0), (22, [41, 40, 7], [2], 0), (90, [41], [], -2147483648), (91, [41], [], 2147483647), (20, [40, 3], [2], 68), (0, [40], [], 330), (20, [39, 3], [2], 88), (90, [39], [], -2147483648), (91, [39], [], 2147483647), (22, [38, 37, 7], [2], 0), (90, [38], [], -2147483648), (91, [38], [], 2147483647), (20, [37, 3], [2], 68), (0, [37], [], 330), (43, [34, 36], [], 0), (22, [36, 35, 7], [2], 0), (90, [36], [], -2147483648), (91, [36], [], 2147483647), (20, [35, 3], [2], 69), (0, [35], [], 331), (20, [34, 3], [2], 88), (90, [34], [], -2147483648), (91, [34], [], 2147483647), (40, [32, 33], [], 0), (0, [33], [], 1), (22, [32, 31, 7], [2], 0), (90, [32], [], 0), (91, [32], [], 6), (20, [31, 3], [2], 66), (0, [31], [], 328), (80, [3, 30, 29], [2, 1], 0), (0, [30], [], 88), (1, [29, 14, 28], [], 0), (11, [28, 21, 27], [], 0), (22, [27, 22, 26], [1], 0), (90, [27], [], -1), (91, [27], [], 9999), (1, [26, 24, 25], [], 0), (0, [25], [], 4), (3, [24, 23, 6], [], 0), (0, [23], [], 6), (20, [22, 3], [1], 31), (0, [22], [], 305), (3, [21, 8, 20], [], 0), (22, [20, 15, 19], [1], 0), (90, [20], [], -1), (91, [20], [], 9999), (1, [19, 17, 18], [], 0), (0, [18], [], 3), (3, [17, 16, 6], [], 0), (0, [16], [], 6), (20, [15, 3], [1], 31), (0, [15], [], 305), (3, [14, 9, 13], [], 0), (22, [13, 10, 12], [1], 0), (90, [13], [], -1), (91, [13], [], 9999), (3, [12, 11, 6], [], 0), (0, [11], [], 6), (20, [10, 3], [1], 31), (0, [10], [], 305), (0, [9], [], 4), (5000, [0, 1, 2, 3, 4, 5, 6, 7, 8], [0, 1], 75), (0, [0], [], 285), (90, [1], [], 0), (91, [1], [], 39), (90, [2], [], -2147483648), (91, [2], [], 2147483647), (0, [3], [], 285), (90, [4], [], 0), (91, [4], [], 39), (90, [5], [], -2147483648), (91, [5], [], 2147483647), (90, [6], [], 0), (91, [6], [], 1007), (90, [7], [], 0), (91, [7], [], 19), (90, [8], [], -2147483648), (91, [8], [], 2147483647)], (4000, [3, 4, 5, 6, 7, 8], [3], 182))]
theorem r_273_75 : vCovO false (eRc e_273 L_273 cs_273 2000 (75, [(0, (3, 12, 285, 0)), (1, (0, 0, 39, 0)), (2, (0, -2147483648, 2147483647, 0)), (3, (0, 0, 1007, 0)), (4, (0, 0, 19, 0)), (5, (0, -2147483648, 2147483647, 0))])) p_273_75 = true := by decide +kernel
theorem q_273_20 {q0 : Nat} {n0 n1 n2 n3 n4 n5 n6 n7 n8 : Int} {H0 H1 : gH} (f0 : n0 ≤ 2147483647) (f1 : (-2147483648) ≤ n0) (f2 : n1 ≤ 19) (f3 : 0 ≤ n1) (f4 : n2 ≤ 1007) (f5 : 0 ≤ n2) (f6 : n3 ≤ 2147483647) (f7 : (-2147483648) ≤ n3) (f8 : n4 ≤ 39) (f9 : 0 ≤ n4) (f10 : n5 = 285) (f11 : n6 ≤ 2147483647) (f12 : (-2147483648) ≤ n6) (f13 : n7 ≤ 39) (f14 : 0 ≤ n7) (f15 : n8 = 285) (f16 : (hLe T0 H0 H1 ∧ hFr s_273.2.2.2.2 H0 H1 ∧ hWt T0 H1) ∧ (Ab_273_182 n8 n7 n6 n5 n4 n3 n2 n1 n0 H0 H1 ∧ preb_273 n8 n7 n6 H0) ∧ some q0 = some (mub_273_182 n8 n7 n6 n5 n4 n3 n2 n1 n0 H0 H1)) : preb_265 n5 n1 H1 := by
  have g4 := f16.2.1.1
  unfold Ab_273_182 at g4
  have g3 := f16.2.1.2
  unfold preb_273 at g3
  unfold preb_265
  have e1 : hV H1 285 64 = hV H0 285 64 := (f16.1.2.1.1 285 64 kF_273_285_64)
  have e4 : hV H1 300 = hV H0 300 := fRow f16.1.2.1 300 kR_273_300
  have e5 : hV H1 344 = hV H0 344 := fRow f16.1.2.1 344 kR_273_344
  have e6 : SO H1 = SO H0 := SO_fr f16.1.2.1 (by decide +kernel)
  have e7 : (0 : Int) ≤ hV H0 285 64 ∧ hV H0 285 64 ≤ 20 := bTo e1 (f16.1.2.2 285 64 _ _ kW_285_64)
  have e8 : (0 : Int) ≤ hV H0 285 82 ∧ hV H0 285 82 ≤ 40 := bTo ((f16.1.2.1.1 285 82 kF_273_285_82)) (f16.1.2.2 285 82 _ _ kW_285_82)
  try simp only [e1, e4, e5] at g4
  try simp only [e1, e6]
  have k0 := g4.1
  have k1 := g4.2.1
  have y0 := g4.2.2.1
  have y1 := g4.2.2.2.1
  have y2 := g4.2.2.2.2.1
  have y3 := g4.2.2.2.2.2
  have p0 := g3.1
  have p1 := g3.2.1
  have p2 := g3.2.2.1
  have p3 := g3.2.2.2
  clear g3
  clear g4
  clear e1 e4 e5 e6
  try have t1 := SO1 p2 (s := (n1).toNat) (by omega) (by omega)
  subst y0
  subst y1
  refine ⟨?_, ?_⟩ <;> first | assumption | omega | trivial
theorem c_273_182_0 {q0 : Nat} : vOkm T0 (eP e_273 L_273 A_273 mu_273 (some q0)) 3 ([(5000, [0, 1, 2, 3, 4, 5, 6, 7, 8], [0, 1], 182), (0, [0], [], 285), (90, [1], [], 0), (91, [1], [], 39), (90, [2], [], -2147483648), (91, [2], [], 2147483647), (0, [3], [], 285), (90, [4], [], 0), (91, [4], [], 39), (90, [5], [], -2147483648), (91, [5], [], 2147483647), (90, [6], [], 0), (91, [6], [], 1007), (90, [7], [], 0), (91, [7], [], 19), (90, [8], [], -2147483648), (91, [8], [], 2147483647)], (2265, [3, 7], [1], 0)) := vOk_inI fun ρ η f0 f1 f2 f3 f4 f5 f6 f7 f8 f9 f10 f11 f12 f13 f14 f15 f16 => q_273_20 (q0 := q0) (n0 := ρ 8) (n1 := ρ 7) (n2 := ρ 6) (n3 := ρ 5) (n4 := ρ 4) (n5 := ρ 3) (n6 := ρ 2) (n7 := ρ 1) (n8 := ρ 0) (H0 := η 0) (H1 := η 1) f16 f15 f14 f13 f12 f11 f10 f9 f8 f7 f6 f5 f4 f3 f2 f1 f0
theorem kR_265_300 : vFreeR s_265.2.2.2.2 300 = true := by decide +kernel
theorem kR_273_332 : vFreeR s_273.2.2.2.2 332 = true := by decide +kernel
theorem kR_265_344 : vFreeR s_265.2.2.2.2 344 = true := by decide +kernel
theorem q_273_21 {q0 : Nat} {n0 n1 n2 n3 n4 n5 n6 n7 n8 n9 n10 n11 : Int} {H0 H1 H2 : gH} (f0 : n0 ≤ 2147483647) (f1 : (-2147483648) ≤ n0) (f2 : n1 ≤ 19) (f3 : 0 ≤ n1) (f4 : n2 ≤ 1007) (f5 : 0 ≤ n2) (f6 : n3 ≤ 2147483647) (f7 : (-2147483648) ≤ n3) (f8 : n4 ≤ 39) (f9 : 0 ≤ n4) (f10 : n5 = 285) (f11 : n6 ≤ 2147483647) (f12 : (-2147483648) ≤ n6) (f13 : n7 ≤ 39) (f14 : 0 ≤ n7) (f15 : n8 = 285) (f16 : (hLe T0 H0 H1 ∧ hFr s_273.2.2.2.2 H0 H1 ∧ hWt T0 H1) ∧ (Ab_273_182 n8 n7 n6 n5 n4 n3 n2 n1 n0 H0 H1 ∧ preb_273 n8 n7 n6 H0) ∧ some q0 = some (mub_273_182 n8 n7 n6 n5 n4 n3 n2 n1 n0 H0 H1)) (f17 : n9 ≤ 2147483647) (f18 : (-2147483648) ≤ n9) (f19 : n9 = hV H1 (n5).toNat 88) (f20 : n10 ≤ 240) (f21 : 0 ≤ n10) (f22 : (hLe T0 H1 H2 ∧ hFr s_265.2.2.2.2 H1 H2 ∧ ((0 : Int) = 0 → H2.length = H1.length) ∧ hWt T0 H2) ∧ postb_265 n10 n5 n1 H1 H2) (f23 : n10 ≤ n9) (f24 : n11 = 0) : postb_273 n11 n8 n7 n6 H0 H2 := by
  have g4 := f16.2.1.1
  unfold Ab_273_182 at g4
  have g3 := f16.2.1.2
  unfold preb_273 at g3
  unfold postb_265 at f22
  unfold postb_273
  have e0 : n9 = hV H1 285 88 := (by rw [f10] at f19; exact f19 : n9 = hV H1 285 88)
  have e2 : hV H1 285 64 = hV H0 285 64 := (f16.1.2.1.1 285 64 kF_273_285_64)
  have e5 : hV H1 300 = hV H0 300 := fRow f16.1.2.1 300 kR_273_300
  have e6 : hV H1 344 = hV H0 344 := fRow f16.1.2.1 344 kR_273_344
  have e8 : hV H2 285 64 = hV H0 285 64 := ((f22.1.2.1.1 285 64 kF_265_285_64)).trans (f16.1.2.1.1 285 64 kF_273_285_64)
  have e10 : hV H2 300 = hV H0 300 := (fRow f22.1.2.1 300 kR_265_300).trans e5
  have e13 : hV H2 328 = hV H0 328 := (fRow f22.1.2.1 328 kR_265_328).trans (fRow f16.1.2.1 328 kR_273_328)
  have e16 : hV H2 330 = hV H0 330 := (fRow f22.1.2.1 330 kR_265_330).trans (fRow f16.1.2.1 330 kR_273_330)
  have e19 : hV H2 332 = hV H0 332 := (fRow f22.1.2.1 332 kR_265_332).trans (fRow f16.1.2.1 332 kR_273_332)
  have e21 : hV H2 344 = hV H0 344 := (fRow f22.1.2.1 344 kR_265_344).trans e6
  have e22 : (0 : Int) ≤ hV H0 285 64 ∧ hV H0 285 64 ≤ 20 := bTo e2 (f16.1.2.2 285 64 _ _ kW_285_64)
  have e23 : (0 : Int) ≤ hV H0 285 82 ∧ hV H0 285 82 ≤ 40 := bTo ((f16.1.2.1.1 285 82 kF_273_285_82)) (f16.1.2.2 285 82 _ _ kW_285_82)
  try simp only [e13, e16, e19] at f22
  try simp only [e2, e5, e6] at g4
  try simp only [e8, e10, e21]
  have k0 := g4.1
  have k1 := g4.2.1
  have y0 := g4.2.2.1
  have y1 := g4.2.2.2.1
  have y2 := g4.2.2.2.2.1
  have y3 := g4.2.2.2.2.2
  have p0 := g3.1
  have p1 := g3.2.1
  have p2 := g3.2.2.1
  have p3 := g3.2.2.2
  have r0_0 := f22.2
  clear g3
  clear g4
  clear f19 e2 e5 e6 e8 e10 e13 e16 e19 e21
  subst e0
  try have t1 := SO1 p2 (s := (n1).toNat) (by omega) (by omega)
  subst y0
  subst y1
  first | assumption | omega | trivial
theorem c_273_182_1 {q0 : Nat} : vOkm T0 (eP e_273 L_273 A_273 mu_273 (some q0)) 3 ([(0, [11], [], 0), (43, [9, 10], [], 0), (1265, [10, 3, 7], [1, 2], 0), (90, [10], [], 0), (91, [10], [], 240), (20, [9, 3], [1], 88), (90, [9], [], -2147483648), (91, [9], [], 2147483647), (5000, [0, 1, 2, 3, 4, 5, 6, 7, 8], [0, 1], 182), (0, [0], [], 285), (90, [1], [], 0), (91, [1], [], 39), (90, [2], [], -2147483648), (91, [2], [], 2147483647), (0, [3], [], 285), (90, [4], [], 0), (91, [4], [], 39), (90, [5], [], -2147483648), (91, [5], [], 2147483647), (90, [6], [], 0), (91, [6], [], 1007), (90, [7], [], 0), (91, [7], [], 19), (90, [8], [], -2147483648), (91, [8], [], 2147483647)], (3000, [11], [2], 200)) := vOk_inI fun ρ η f0 f1 f2 f3 f4 f5 f6 f7 f8 f9 f10 f11 f12 f13 f14 f15 f16 f17 f18 f19 f20 f21 f22 f23 f24 => q_273_21 (q0 := q0) (n0 := ρ 8) (n1 := ρ 7) (n2 := ρ 6) (n3 := ρ 5) (n4 := ρ 4) (n5 := ρ 3) (n6 := ρ 2) (n7 := ρ 1) (n8 := ρ 0) (n9 := ρ 9) (n10 := ρ 10) (n11 := ρ 11) (H0 := η 0) (H1 := η 1) (H2 := η 2) f24 f23 f22 f21 f20 f19 f18 f17 f16 f15 f14 f13 f12 f11 f10 f9 f8 f7 f6 f5 f4 f3 f2 f1 f0
theorem q_273_22 {q0 : Nat} {n0 n1 n2 n3 n4 n5 n6 n7 n8 n9 n10 n11 : Int} {H0 H1 H2 : gH} (f0 : n0 ≤ 2147483647) (f1 : (-2147483648) ≤ n0) (f2 : n1 ≤ 19) (f3 : 0 ≤ n1) (f4 : n2 ≤ 1007) (f5 : 0 ≤ n2) (f6 : n3 ≤ 2147483647) (f7 : (-2147483648) ≤ n3) (f8 : n4 ≤ 39) (f9 : 0 ≤ n4) (f10 : n5 = 285) (f11 : n6 ≤ 2147483647) (f12 : (-2147483648) ≤ n6) (f13 : n7 ≤ 39) (f14 : 0 ≤ n7) (f15 : n8 = 285) (f16 : (hLe T0 H0 H1 ∧ hFr s_273.2.2.2.2 H0 H1 ∧ hWt T0 H1) ∧ (Ab_273_182 n8 n7 n6 n5 n4 n3 n2 n1 n0 H0 H1 ∧ preb_273 n8 n7 n6 H0) ∧ some q0 = some (mub_273_182 n8 n7 n6 n5 n4 n3 n2 n1 n0 H0 H1)) (f17 : n9 ≤ 2147483647) (f18 : (-2147483648) ≤ n9) (f19 : n9 = hV H1 (n5).toNat 88) (f20 : n10 ≤ 240) (f21 : 0 ≤ n10) (f22 : (hLe T0 H1 H2 ∧ hFr s_265.2.2.2.2 H1 H2 ∧ ((0 : Int) = 0 → H2.length = H1.length) ∧ hWt T0 H2) ∧ postb_265 n10 n5 n1 H1 H2) (f23 : n9 < n10) (f24 : n11 = 1) : postb_273 n11 n8 n7 n6 H0 H2 := by
  have g4 := f16.2.1.1
  unfold Ab_273_182 at g4
  have g3 := f16.2.1.2
  unfold preb_273 at g3
  unfold postb_265 at f22
  unfold postb_273
  have e0 : n9 = hV H1 285 88 := (by rw [f10] at f19; exact f19 : n9 = hV H1 285 88)
  have e2 : hV H1 285 64 = hV H0 285 64 := (f16.1.2.1.1 285 64 kF_273_285_64)
  have e5 : hV H1 300 = hV H0 300 := fRow f16.1.2.1 300 kR_273_300
  have e6 : hV H1 344 = hV H0 344 := fRow f16.1.2.1 344 kR_273_344
  have e8 : hV H2 285 64 = hV H0 285 64 := ((f22.1.2.1.1 285 64 kF_265_285_64)).trans (f16.1.2.1.1 285 64 kF_273_285_64)
  have e10 : hV H2 300 = hV H0 300 := (fRow f22.1.2.1 300 kR_265_300).trans e5
  have e13 : hV H2 328 = hV H0 328 := (fRow f22.1.2.1 328 kR_265_328).trans (fRow f16.1.2.1 328 kR_273_328)
  have e16 : hV H2 330 = hV H0 330 := (fRow f22.1.2.1 330 kR_265_330).trans (fRow f16.1.2.1 330 kR_273_330)
  have e19 : hV H2 332 = hV H0 332 := (fRow f22.1.2.1 332 kR_265_332).trans (fRow f16.1.2.1 332 kR_273_332)
  have e21 : hV H2 344 = hV H0 344 := (fRow f22.1.2.1 344 kR_265_344).trans e6
  have e22 : (0 : Int) ≤ hV H0 285 64 ∧ hV H0 285 64 ≤ 20 := bTo e2 (f16.1.2.2 285 64 _ _ kW_285_64)
  have e23 : (0 : Int) ≤ hV H0 285 82 ∧ hV H0 285 82 ≤ 40 := bTo ((f16.1.2.1.1 285 82 kF_273_285_82)) (f16.1.2.2 285 82 _ _ kW_285_82)
  try simp only [e13, e16, e19] at f22
  try simp only [e2, e5, e6] at g4
  try simp only [e8, e10, e21]
  have k0 := g4.1
  have k1 := g4.2.1
  have y0 := g4.2.2.1
  have y1 := g4.2.2.2.1
  have y2 := g4.2.2.2.2.1
  have y3 := g4.2.2.2.2.2
  have p0 := g3.1
  have p1 := g3.2.1
  have p2 := g3.2.2.1
  have p3 := g3.2.2.2
  have r0_0 := f22.2
  clear g3
  clear g4
  clear f19 e2 e5 e6 e8 e10 e13 e16 e19 e21
  subst e0
  try have t1 := SO1 p2 (s := (n1).toNat) (by omega) (by omega)
  subst y0
  subst y1
  first | assumption | omega | trivial
theorem c_273_182_2 {q0 : Nat} : vOkm T0 (eP e_273 L_273 A_273 mu_273 (some q0)) 3 ([(0, [11], [], 1), (42, [9, 10], [], 0), (1265, [10, 3, 7], [1, 2], 0), (90, [10], [], 0), (91, [10], [], 240), (20, [9, 3], [1], 88), (90, [9], [], -2147483648), (91, [9], [], 2147483647), (5000, [0, 1, 2, 3, 4, 5, 6, 7, 8], [0, 1], 182), (0, [0], [], 285), (90, [1], [], 0), (91, [1], [], 39), (90, [2], [], -2147483648), (91, [2], [], 2147483647), (0, [3], [], 285), (90, [4], [], 0), (91, [4], [], 39), (90, [5], [], -2147483648), (91, [5], [], 2147483647), (90, [6], [], 0), (91, [6], [], 1007), (90, [7], [], 0), (91, [7], [], 19), (90, [8], [], -2147483648), (91, [8], [], 2147483647)], (3000, [11], [2], 200)) := vOk_inI fun ρ η f0 f1 f2 f3 f4 f5 f6 f7 f8 f9 f10 f11 f12 f13 f14 f15 f16 f17 f18 f19 f20 f21 f22 f23 f24 => q_273_22 (q0 := q0) (n0 := ρ 8) (n1 := ρ 7) (n2 := ρ 6) (n3 := ρ 5) (n4 := ρ 4) (n5 := ρ 3) (n6 := ρ 2) (n7 := ρ 1) (n8 := ρ 0) (n9 := ρ 9) (n10 := ρ 10) (n11 := ρ 11) (H0 := η 0) (H1 := η 1) (H2 := η 2) f24 f23 f22 f21 f20 f19 f18 f17 f16 f15 f14 f13 f12 f11 f10 f9 f8 f7 f6 f5 f4 f3 f2 f1 f0
def p_273_182 : List vG := [([(5000, [0, 1, 2, 3, 4, 5, 6, 7, 8], [0, 1], 182), (0, [0], [], 285), (90, [1], [], 0), (91, [1], [], 39), (90, [2], [], -2147483648), (91, [2], [], 2147483647), (0, [3], [], 285), (90, [4], [], 0), (91, [4], [], 39), (90, [5], [], -2147483648), (91, [5], [], 2147483647), (90, [6], [], 0), (91, [6], [], 1007), (90, [7], [], 0), (91, [7], [], 19), (90, [8], [], -2147483648), (91, [8], [], 2147483647)], (2265, [3, 7], [1], 0)),
  ([(0, [11], [], 0), (43, [9, 10], [], 0), (1265, [10, 3, 7], [1, 2], 0), (90, [10], [], 0), (91, [10], [], 240), (20, [9, 3], [1], 88), (90, [9], [], -2147483648), (91, [9], [], 2147483647), (5000, [0, 1, 2, 3, 4, 5, 6, 7, 8], [0, 1], 182), (0, [0], [], 285), (90, [1], [], 0), (91, [1], [], 39), (90, [2], [], -2147483648), (91, [2], [], 2147483647), (0, [3], [], 285), (90, [4], [], 0), (91, [4], [], 39), (90, [5], [], -2147483648), (91, [5], [], 2147483647), (90, [6], [], 0), (91, [6], [], 1007), (90, [7], [], 0), (91, [7], [], 19), (90, [8], [], -2147483648), (91, [8], [], 2147483647)], (3000, [11], [2], 200)),
  ([(0, [11], [], 1), (42, [9, 10], [], 0), (1265, [10, 3, 7], [1, 2], 0), (90, [10], [], 0), (91, [10], [], 240), (20, [9, 3], [1], 88), (90, [9], [], -2147483648), (91, [9], [], 2147483647), (5000, [0, 1, 2, 3, 4, 5, 6, 7, 8], [0, 1], 182), (0, [0], [], 285), (90, [1], [], 0), (91, [1], [], 39), (90, [2], [], -2147483648), (91, [2], [], 2147483647), (0, [3], [], 285), (90, [4], [], 0), (91, [4], [], 39), (90, [5], [], -2147483648), (91, [5], [], 2147483647), (90, [6], [], 0), (91, [6], [], 1007), (90, [7], [], 0), (91, [7], [], 19), (90, [8], [], -2147483648), (91, [8], [], 2147483647)], (3000, [11], [2], 200))]
theorem r_273_182 : vCovO false (eRc e_273 L_273 cs_273 2000 (182, [(0, (3, 12, 285, 0)), (1, (0, 0, 39, 0)), (2, (0, -2147483648, 2147483647, 0)), (3, (0, 0, 1007, 0)), (4, (0, 0, 19, 0)), (5, (0, -2147483648, 2147483647, 0))])) p_273_182 = true := by decide +kernel
theorem m_273 (d : Nat) : eC e_273 (d + 3) := eC_ok (e := e_273) (L := L_273) (cs := cs_273) (n := 2000) (d := d + 2) (A := A_273) (μ := mu_273) (tp := false) (p0 := p_273_s) rfl ⟨m_250 (d + 1), ⟨m_265 (d + 1), ⟨m_271 d, trivial⟩⟩⟩ rfl (.inl rfl) (by decide +kernel) (fun z => nomatch z) r_273_s (allC c_273_s_0 (allC c_273_s_1 (allC c_273_s_2 (allC c_273_s_3 (allC c_273_s_4 (allC c_273_s_5 (allC c_273_s_6 (allC c_273_s_7 (allC c_273_s_8 (allC c_273_s_9 (allC c_273_s_10 (allC c_273_s_11 allN)))))))))))) (allC (.inl ⟨p_273_75, r_273_75, fun q0 => (allC c_273_75_0 (allC c_273_75_1 (allC c_273_75_2 (allC c_273_75_3 (allC c_273_75_4 (allC c_273_75_5 (allC c_273_75_6 (allC c_273_75_7 allN))))))))⟩) (allC (.inl ⟨p_273_182, r_273_182, fun q0 => (allC c_273_182_0 (allC c_273_182_1 (allC c_273_182_2 allN)))⟩) allN))
