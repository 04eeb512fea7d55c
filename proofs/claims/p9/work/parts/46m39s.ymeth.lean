/-! CONTRACTS of methods (printed by wip/gen/emit.py). -/
/- MixStageModel.expression ()V -/
noncomputable def s_236 : vM := ([(3, 12, 285, 0)], (9, 0, 0, 0), 1, 0, [(12, 11), (12, 12), (12, 13), (12, 14), (12, 51), (12, 55), (388, 0), (396, 0), (404, 0)])
def preb_236 (a0 : Int) (h : gH) : Prop := RR h ∧ hV h 285 35 = 1 - hV h 285 34 ∧ 600 * hV h 285 35 ≤ hV h 285 51 ∧ hV h 285 51 ≤ 600 * hV h 285 35 + hV h 285 11 + hV h 285 13 ∧ hV h 285 12 ≤ 7 * hV h 285 13
def pre_236 : List Int → gH → Prop := fun xs h => match xs with
  | [a0] => preb_236 a0 h
  | _ => False
def postb_236 (a0 : Int) (h0 h : gH) : Prop := RR h ∧ (hV h 285 13 = 0 → COp (hV h0 320) (hV h0 321) (hV h 320) (hV h 321) (hV h0 285 51) 0 (hV h 285 51) 1) ∧ hV h0 285 11 ≤ hV h 285 11 ∧ hV h0 285 11 + 1 ≤ hV h 285 11 + hV h 285 13 ∧ hV h0 285 13 ≤ hV h 285 13 ∧ hV h 285 12 ≤ 7 * hV h 285 13 ∧ hV h0 285 51 ≤ hV h 285 51 ∧ hV h 285 51 ≤ 600 * hV h 285 35 + hV h 285 11 + hV h 285 13
def post_236 : List Int → gH → gH → Prop := fun xs h0 h => match xs with
  | [a0] => postb_236 a0 h0 h
  | _ => True
noncomputable def e_236 : vE := (236, s_236, pre_236, post_236)
noncomputable def L_236 : List vE := [e_216, e_217, e_219, e_235, e_237]
def cs_236 : List vC := [(12, [(0, (3, 12, 285, 0)), (1, (0, 0, 7, 0)), (2, (0, 0, 1, 0))]), (23, [(0, (3, 12, 285, 0)), (1, (0, 0, 7, 0)), (2, (0, -2147483648, 2147483647, 0))]), (96, [(0, (3, 12, 285, 0)), (1, (0, 0, 7, 0)), (2, (0, -2147483648, 2147483647, 0))]), (187, [(0, (3, 12, 285, 0)), (1, (0, 0, 7, 0)), (2, (0, 0, 1, 0))])]
def Ab_236_12 (a0 x0 x1 x2 : Int) (h0 h : gH) : Prop := RR h ∧ (hV h 285 13 = 0 → COp (hV h0 320) (hV h0 321) (hV h 320) (hV h 321) (hV h0 285 51) 0 (hV h 285 51) (hV h 285 55 - wo (hV h 322) (hV h 285 55).toNat)) ∧ WTp (hV h 322) (hV h 285 55) ∧ x1 = hV h0 285 12 ∧ wo (hV h 322) (hV h 285 55).toNat = hV h 285 12 - x1 ∧ hV h 285 12 ≤ 6 + hV h 285 13 ∧ hV h0 285 51 ≤ hV h 285 51 ∧ hV h 285 51 + hV h 285 55 - wo (hV h 322) (hV h 285 55).toNat ≤ 600 * hV h 285 35 + hV h 285 11 + hV h 285 13 ∧ hV h0 285 11 ≤ hV h 285 11 ∧ hV h0 285 13 ≤ hV h 285 13 ∧ x2 = 1
def mub_236_12 (a0 x0 x1 x2 : Int) (h0 h : gH) : Nat := (1002 - 2 * hV h 285 11 - hV h 285 13).toNat * 8 + 7
def Ab_236_23 (a0 x0 x1 x2 : Int) (h0 h : gH) : Prop := RR h ∧ (hV h 285 13 = 0 → COp (hV h0 320) (hV h0 321) (hV h 320) (hV h 321) (hV h0 285 51) 0 (hV h 285 51) (hV h 285 55 - wo (hV h 322) (hV h 285 55).toNat)) ∧ WTp (hV h 322) (hV h 285 55) ∧ x1 = hV h0 285 12 ∧ wo (hV h 322) (hV h 285 55).toNat = hV h 285 12 - x1 ∧ hV h 285 12 ≤ 6 + hV h 285 13 ∧ hV h0 285 51 ≤ hV h 285 51 ∧ hV h 285 51 + hV h 285 55 - wo (hV h 322) (hV h 285 55).toNat ≤ 600 * hV h 285 35 + hV h 285 11 + hV h 285 13 ∧ hV h0 285 11 ≤ hV h 285 11 ∧ hV h0 285 13 ≤ hV h 285 13
def mub_236_23 (a0 x0 x1 x2 : Int) (h0 h : gH) : Nat := (1002 - 2 * hV h 285 11 - hV h 285 13).toNat * 8 + 6
def Ab_236_96 (a0 x0 x1 x2 : Int) (h0 h : gH) : Prop := RR h ∧ (hV h 285 13 = 0 → COp (hV h0 320) (hV h0 321) (hV h 320) (hV h 321) (hV h0 285 51) 0 (hV h 285 51) (hV h 285 55 - wo (hV h 322) (hV h 285 55).toNat + 1)) ∧ WTp (hV h 322) (hV h 285 55) ∧ x1 = hV h0 285 12 ∧ wo (hV h 322) (hV h 285 55).toNat = hV h 285 12 - x1 ∧ hV h 285 12 ≤ 6 + hV h 285 13 ∧ hV h0 285 51 ≤ hV h 285 51 ∧ hV h 285 51 + hV h 285 55 - wo (hV h 322) (hV h 285 55).toNat ≤ 600 * hV h 285 35 + hV h 285 11 + hV h 285 13 ∧ hV h0 285 11 ≤ hV h 285 11 ∧ hV h0 285 11 + 1 ≤ hV h 285 11 + hV h 285 13 ∧ hV h0 285 13 ≤ hV h 285 13
def mub_236_96 (a0 x0 x1 x2 : Int) (h0 h : gH) : Nat := (1002 - 2 * hV h 285 11 - hV h 285 13).toNat * 8 + 4
def Ab_236_187 (a0 x0 x1 x2 : Int) (h0 h : gH) : Prop := RR h ∧ (hV h 285 13 = 0 → COp (hV h0 320) (hV h0 321) (hV h 320) (hV h 321) (hV h0 285 51) 0 (hV h 285 51) (hV h 285 55 - wo (hV h 322) (hV h 285 55).toNat + 1)) ∧ WTp (hV h 322) (hV h 285 55) ∧ x1 = hV h0 285 12 ∧ wo (hV h 322) (hV h 285 55).toNat = hV h 285 12 - x1 ∧ hV h 285 12 ≤ 6 + hV h 285 13 ∧ hV h0 285 51 ≤ hV h 285 51 ∧ hV h 285 51 + hV h 285 55 - wo (hV h 322) (hV h 285 55).toNat ≤ 600 * hV h 285 35 + hV h 285 11 + hV h 285 13 ∧ hV h0 285 11 ≤ hV h 285 11 ∧ hV h0 285 11 + 1 ≤ hV h 285 11 + hV h 285 13 ∧ hV h0 285 13 ≤ hV h 285 13 ∧ (x2 = 0 ∨ (hV h 285 13 = 0 ∧ (hV h 288 ((hV h 285 11).toNat) = 8 ∨ hV h 288 ((hV h 285 11).toNat) = 9 ∨ hV h 288 ((hV h 285 11).toNat) = 10 ∨ hV h 288 ((hV h 285 11).toNat) = 15)))
def mub_236_187 (a0 x0 x1 x2 : Int) (h0 h : gH) : Nat := (1002 - 2 * hV h 285 11 - hV h 285 13).toNat * 8 + 3
def A_236 : Int → List Int → gH → gH → Prop := fun c xs h0 h => match c.toNat with
  | 12 => (match xs with
    | [a0, x0, x1, x2] => Ab_236_12 a0 x0 x1 x2 h0 h
    | _ => False)
  | 23 => (match xs with
    | [a0, x0, x1, x2] => Ab_236_23 a0 x0 x1 x2 h0 h
    | _ => False)
  | 96 => (match xs with
    | [a0, x0, x1, x2] => Ab_236_96 a0 x0 x1 x2 h0 h
    | _ => False)
  | 187 => (match xs with
    | [a0, x0, x1, x2] => Ab_236_187 a0 x0 x1 x2 h0 h
    | _ => False)
  | _ => True
def mu_236 : Int → List Int → gH → gH → Nat := fun c xs h0 h => match c.toNat with
  | 12 => (match xs with
    | [a0, x0, x1, x2] => mub_236_12 a0 x0 x1 x2 h0 h
    | _ => 0)
  | 23 => (match xs with
    | [a0, x0, x1, x2] => mub_236_23 a0 x0 x1 x2 h0 h
    | _ => 0)
  | 96 => (match xs with
    | [a0, x0, x1, x2] => mub_236_96 a0 x0 x1 x2 h0 h
    | _ => 0)
  | 187 => (match xs with
    | [a0, x0, x1, x2] => mub_236_187 a0 x0 x1 x2 h0 h
    | _ => 0)
  | _ => 0
set_option maxHeartbeats 20000000 in
theorem kW_285_12 : vRg T0 285 12 (0) (7) = true := by decide +kernel
theorem q_236_0 {n0 n1 n2 n3 n4 : Int} {H0 H1 : gH} (f0 : n0 = 285) (f1 : hWt T0 H0 ∧ preb_236 n0 H0) (f2 : n1 = 0) (f3 : n2 = 55) (f4 : hUpd H1 H0 n0 n2 n1) (f5 : n3 ≤ 7) (f6 : 0 ≤ n3) (f7 : n3 = hV H1 (n0).toNat 12) (f8 : n4 = 1) : Ab_236_12 n0 n0 n3 n4 H0 H1 ∧ ∀ q, none = some q → mub_236_12 n0 n0 n3 n4 H0 H1 < q := by
  unfold preb_236 at f1
  unfold Ab_236_12
  have e1 : n3 = hV H0 285 12 := (by rw [f0] at f7; exact f7 : n3 = hV H1 285 12).trans ((uSlot f4 285 12 (iS (show n2 = ((55 : Nat) : Int) from f3) rfl)))
  have e3 : hV H1 285 11 = hV H0 285 11 := (uSlot f4 285 11 (iS (show n2 = ((55 : Nat) : Int) from f3) rfl))
  have e4 : hV H1 285 12 = hV H0 285 12 := (uSlot f4 285 12 (iS (show n2 = ((55 : Nat) : Int) from f3) rfl))
  have e6 : hV H1 285 13 = hV H0 285 13 := (uSlot f4 285 13 (iS (show n2 = ((55 : Nat) : Int) from f3) rfl))
  have e8 : hV H1 285 35 = hV H0 285 35 := (uSlot f4 285 35 (iS (show n2 = ((55 : Nat) : Int) from f3) rfl))
  have e10 : hV H1 285 51 = hV H0 285 51 := (uSlot f4 285 51 (iS (show n2 = ((55 : Nat) : Int) from f3) rfl))
  have e12 : hV H1 285 55 = n1 := (uSame f4 285 55 f0.symm f3.symm)
  have e13 : hV H1 320 = hV H0 320 := uRowNe f4 320 (iS (show n0 = ((285 : Nat) : Int) from f0) rfl)
  have e14 : hV H1 321 = hV H0 321 := uRowNe f4 321 (iS (show n0 = ((285 : Nat) : Int) from f0) rfl)
  have e15 : hV H1 322 = hV H0 322 := uRowNe f4 322 (iS (show n0 = ((285 : Nat) : Int) from f0) rfl)
  have e16 : RR H1 = RR H0 := RR_upF f4 f0 (show n2 = ((55 : Nat) : Int) from f3) (by decide)
  have e17 : (0 : Int) ≤ hV H0 285 11 ∧ hV H0 285 11 ≤ 500 := f1.1 285 11 _ _ kW_285_11
  have e18 : (0 : Int) ≤ hV H0 285 12 ∧ hV H0 285 12 ≤ 7 := f1.1 285 12 _ _ kW_285_12
  have e19 : (0 : Int) ≤ hV H0 285 13 ∧ hV H0 285 13 ≤ 2 := f1.1 285 13 _ _ kW_285_13
  have e20 : (0 : Int) ≤ hV H0 285 34 ∧ hV H0 285 34 ≤ 1 := f1.1 285 34 _ _ kW_285_34
  have e21 : (0 : Int) ≤ hV H0 285 35 ∧ hV H0 285 35 ≤ 1 := f1.1 285 35 _ _ kW_285_35
  have e22 : (0 : Int) ≤ hV H0 285 51 ∧ hV H0 285 51 ≤ 1200 := f1.1 285 51 _ _ kW_285_51
  try simp only [e3, e4, e6, e8, e10, e12, e13, e14, e15, e16]
  have p0 := f1.2.1
  have p1 := f1.2.2.1
  have p2 := f1.2.2.2.1
  have p3 := f1.2.2.2.2.1
  have p4 := f1.2.2.2.2.2
  clear f7 e3 e4 e6 e8 e10 e13 e14 e15 e16
  clear f1
  subst e1

  have w0 : wo (hV H0 322) (n1).toNat = 0 := by rw [f2]; rfl
  refine ⟨⟨?_, ?_, ?_, ?_, ?_, ?_, ?_, ?_, ?_, ?_⟩, fun q hq => ?_⟩
  · exact p0
  · intro z
    exact CO_refl rfl (by omega)
  · exact WT_nil (by omega)
  · first | omega | (rw [wo_push] <;> omega)
  · first | omega | (rw [wo_push] <;> omega)
  · first | omega | (rw [wo_push] <;> omega)
  · first | omega | (rw [wo_push] <;> omega)
  · first | omega | (rw [wo_push] <;> omega)
  · first | omega | (rw [wo_push] <;> omega)
  · first | omega | (rw [wo_push] <;> omega)
  · exact nomatch hq
def g_236_s_0 : vG := ([(0, [4], [], 1), (20, [3, 0], [1], 12), (90, [3], [], 0), (91, [3], [], 7), (80, [0, 2, 1], [1, 0], 0), (0, [2], [], 55), (0, [1], [], 0), (6000, [0], [0], 0), (0, [0], [], 285)], (4000, [0, 3, 4], [1], 12))
theorem c_236_s_0 : vOkm T0 (eP e_236 L_236 A_236 mu_236 none) 1 g_236_s_0 := vOk_inI fun ρ η f0 f1 f2 f3 f4 f5 f6 f7 f8 => q_236_0 (n0 := ρ 0) (n1 := ρ 1) (n2 := ρ 2) (n3 := ρ 3) (n4 := ρ 4) (H0 := η 0) (H1 := η 1) f8 f7 f6 f5 f4 f3 f2 f1 f0
def p_236_s : List vG := [g_236_s_0]
theorem r_236_s : vCovO false (eR0 e_236 L_236 cs_236 2000) p_236_s = true := by decide +kernel
set_option maxHeartbeats 20000000 in
theorem kF_236_285_34 : vFree s_236.2.2.2.2 285 34 = true := by decide +kernel
theorem kF_236_285_35 : vFree s_236.2.2.2.2 285 35 = true := by decide +kernel
theorem q_236_1 {q0 : Nat} {n0 n1 n2 n3 : Int} {H0 H1 : gH} (f0 : n0 ≤ 1) (f1 : 0 ≤ n0) (f2 : n1 ≤ 7) (f3 : 0 ≤ n1) (f4 : n2 = 285) (f5 : n3 = 285) (f6 : (hLe T0 H0 H1 ∧ hFr s_236.2.2.2.2 H0 H1 ∧ hWt T0 H1) ∧ (Ab_236_12 n3 n2 n1 n0 H0 H1 ∧ preb_236 n3 H0) ∧ some q0 = some (mub_236_12 n3 n2 n1 n0 H0 H1)) (f7 : n0 = 0) : postb_236 n3 H0 H1 := by
  have g4 := f6.2.1.1
  unfold Ab_236_12 at g4
  have g3 := f6.2.1.2
  unfold preb_236 at g3
  unfold postb_236
  have e3 : hV H1 285 35 = hV H0 285 35 := (f6.1.2.1.1 285 35 kF_236_285_35)
  have e4 : (0 : Int) ≤ hV H1 285 11 ∧ hV H1 285 11 ≤ 500 := f6.1.2.2 285 11 _ _ kW_285_11
  have e5 : (0 : Int) ≤ hV H1 285 12 ∧ hV H1 285 12 ≤ 7 := f6.1.2.2 285 12 _ _ kW_285_12
  have e6 : (0 : Int) ≤ hV H1 285 13 ∧ hV H1 285 13 ≤ 2 := f6.1.2.2 285 13 _ _ kW_285_13
  have e7 : (0 : Int) ≤ hV H0 285 34 ∧ hV H0 285 34 ≤ 1 := bTo ((f6.1.2.1.1 285 34 kF_236_285_34)) (f6.1.2.2 285 34 _ _ kW_285_34)
  have e8 : (0 : Int) ≤ hV H0 285 35 ∧ hV H0 285 35 ≤ 1 := bTo e3 (f6.1.2.2 285 35 _ _ kW_285_35)
  have e9 : (0 : Int) ≤ hV H1 285 51 ∧ hV H1 285 51 ≤ 1200 := f6.1.2.2 285 51 _ _ kW_285_51
  have e10 : (0 : Int) ≤ hV H1 285 55 ∧ hV H1 285 55 ≤ 64 := f6.1.2.2 285 55 _ _ kW_285_55
  try simp only [e3]
  have y0 := g4.1
  have y1 := g4.2.1
  have y2 := g4.2.2.1
  have y3 := g4.2.2.2.1
  have y4 := g4.2.2.2.2.1
  have y5 := g4.2.2.2.2.2.1
  have y6 := g4.2.2.2.2.2.2.1
  have y7 := g4.2.2.2.2.2.2.2.1
  have y8 := g4.2.2.2.2.2.2.2.2.1
  have y9 := g4.2.2.2.2.2.2.2.2.2.1
  have y10 := g4.2.2.2.2.2.2.2.2.2.2
  have p0 := g3.1
  have p1 := g3.2.1
  have p2 := g3.2.2.1
  have p3 := g3.2.2.2.1
  have p4 := g3.2.2.2.2
  try simp only [e3] at y7
  clear g3
  clear g4
  clear e3
  clear f6
  try have wl := wo_leI (w := hV H1 322) (n := hV H1 285 55) (by omega)
  try have wb := WT_bound y2 (by omega)
  try have wl2 := wo_leI (w := hV H1 322) (n := hV H2 285 55) (by omega)
  try have wl3 := wo_leI (w := hV H1 322) (n := hV H3 285 55) (by omega)
  try have wl4 := wo_leI (w := hV H1 322) (n := hV H4 285 55) (by omega)
  try have wl5 := wo_leI (w := hV H1 322) (n := hV H5 285 55) (by omega)
  try have wl6 := wo_leI (w := hV H1 322) (n := hV H6 285 55) (by omega)
  try have wl7 := wo_leI (w := hV H1 322) (n := hV H7 285 55) (by omega)
  try have wl8 := wo_leI (w := hV H1 322) (n := hV H8 285 55) (by omega)
  try have wl9 := wo_leI (w := hV H1 322) (n := hV H9 285 55) (by omega)
  try have wl10 := wo_leI (w := hV H1 322) (n := hV H10 285 55) (by omega)

  refine ⟨y0, fun z => ?_, ?_, ?_, ?_, ?_, ?_, ?_⟩
  · omega
  all_goals omega
def g_236_12_0 : vG := ([(30, [3], [], 0), (5000, [0, 1, 2, 3], [0, 1], 12), (0, [0], [], 285), (0, [1], [], 285), (90, [2], [], 0), (91, [2], [], 7), (90, [3], [], 0), (91, [3], [], 1)], (3000, [], [1], 272))
theorem c_236_12_0 {q0 : Nat} : vOkm T0 (eP e_236 L_236 A_236 mu_236 (some q0)) 1 g_236_12_0 := vOk_inI fun ρ η f0 f1 f2 f3 f4 f5 f6 f7 => q_236_1 (q0 := q0) (n0 := ρ 3) (n1 := ρ 2) (n2 := ρ 1) (n3 := ρ 0) (H0 := η 0) (H1 := η 1) f7 f6 f5 f4 f3 f2 f1 f0
set_option maxHeartbeats 20000000 in
theorem q_236_2 {q0 : Nat} {n0 n1 n2 n3 n4 : Int} {H0 H1 : gH} (f0 : n0 ≤ 1) (f1 : 0 ≤ n0) (f2 : n1 ≤ 7) (f3 : 0 ≤ n1) (f4 : n2 = 285) (f5 : n3 = 285) (f6 : (hLe T0 H0 H1 ∧ hFr s_236.2.2.2.2 H0 H1 ∧ hWt T0 H1) ∧ (Ab_236_12 n3 n2 n1 n0 H0 H1 ∧ preb_236 n3 H0) ∧ some q0 = some (mub_236_12 n3 n2 n1 n0 H0 H1)) (f7 : n0 ≠ 0) (f8 : n4 ≤ 2) (f9 : 0 ≤ n4) (f10 : n4 = hV H1 (n2).toNat 13) (f11 : n4 ≠ 0) : postb_236 n3 H0 H1 := by
  have g4 := f6.2.1.1
  unfold Ab_236_12 at g4
  have g3 := f6.2.1.2
  unfold preb_236 at g3
  unfold postb_236
  have e0 : n4 = hV H1 285 13 := (by rw [f4] at f10; exact f10 : n4 = hV H1 285 13)
  have e4 : hV H1 285 35 = hV H0 285 35 := (f6.1.2.1.1 285 35 kF_236_285_35)
  have e5 : (0 : Int) ≤ hV H1 285 11 ∧ hV H1 285 11 ≤ 500 := f6.1.2.2 285 11 _ _ kW_285_11
  have e6 : (0 : Int) ≤ hV H1 285 12 ∧ hV H1 285 12 ≤ 7 := f6.1.2.2 285 12 _ _ kW_285_12
  have e7 : (0 : Int) ≤ hV H1 285 13 ∧ hV H1 285 13 ≤ 2 := f6.1.2.2 285 13 _ _ kW_285_13
  have e8 : (0 : Int) ≤ hV H0 285 34 ∧ hV H0 285 34 ≤ 1 := bTo ((f6.1.2.1.1 285 34 kF_236_285_34)) (f6.1.2.2 285 34 _ _ kW_285_34)
  have e9 : (0 : Int) ≤ hV H0 285 35 ∧ hV H0 285 35 ≤ 1 := bTo e4 (f6.1.2.2 285 35 _ _ kW_285_35)
  have e10 : (0 : Int) ≤ hV H1 285 51 ∧ hV H1 285 51 ≤ 1200 := f6.1.2.2 285 51 _ _ kW_285_51
  have e11 : (0 : Int) ≤ hV H1 285 55 ∧ hV H1 285 55 ≤ 64 := f6.1.2.2 285 55 _ _ kW_285_55
  try simp only [e4]
  have y0 := g4.1
  have y1 := g4.2.1
  have y2 := g4.2.2.1
  have y3 := g4.2.2.2.1
  have y4 := g4.2.2.2.2.1
  have y5 := g4.2.2.2.2.2.1
  have y6 := g4.2.2.2.2.2.2.1
  have y7 := g4.2.2.2.2.2.2.2.1
  have y8 := g4.2.2.2.2.2.2.2.2.1
  have y9 := g4.2.2.2.2.2.2.2.2.2.1
  have y10 := g4.2.2.2.2.2.2.2.2.2.2
  have p0 := g3.1
  have p1 := g3.2.1
  have p2 := g3.2.2.1
  have p3 := g3.2.2.2.1
  have p4 := g3.2.2.2.2
  try simp only [e4] at y7
  clear g3
  clear g4
  clear f10 e4
  clear f6
  subst e0
  try have wl := wo_leI (w := hV H1 322) (n := hV H1 285 55) (by omega)
  try have wb := WT_bound y2 (by omega)
  try have wl2 := wo_leI (w := hV H1 322) (n := hV H2 285 55) (by omega)
  try have wl3 := wo_leI (w := hV H1 322) (n := hV H3 285 55) (by omega)
  try have wl4 := wo_leI (w := hV H1 322) (n := hV H4 285 55) (by omega)
  try have wl5 := wo_leI (w := hV H1 322) (n := hV H5 285 55) (by omega)
  try have wl6 := wo_leI (w := hV H1 322) (n := hV H6 285 55) (by omega)
  try have wl7 := wo_leI (w := hV H1 322) (n := hV H7 285 55) (by omega)
  try have wl8 := wo_leI (w := hV H1 322) (n := hV H8 285 55) (by omega)
  try have wl9 := wo_leI (w := hV H1 322) (n := hV H9 285 55) (by omega)
  try have wl10 := wo_leI (w := hV H1 322) (n := hV H10 285 55) (by omega)

  refine ⟨y0, fun z => ?_, ?_, ?_, ?_, ?_, ?_, ?_⟩
  · omega
  all_goals omega
def g_236_12_1 : vG := ([(31, [4], [], 0), (20, [4, 1], [1], 13), (90, [4], [], 0), (91, [4], [], 2), (31, [3], [], 0), (5000, [0, 1, 2, 3], [0, 1], 12), (0, [0], [], 285), (0, [1], [], 285), (90, [2], [], 0), (91, [2], [], 7), (90, [3], [], 0), (91, [3], [], 1)], (3000, [], [1], 272))
theorem c_236_12_1 {q0 : Nat} : vOkm T0 (eP e_236 L_236 A_236 mu_236 (some q0)) 1 g_236_12_1 := vOk_inI fun ρ η f0 f1 f2 f3 f4 f5 f6 f7 f8 f9 f10 f11 => q_236_2 (q0 := q0) (n0 := ρ 3) (n1 := ρ 2) (n2 := ρ 1) (n3 := ρ 0) (n4 := ρ 4) (H0 := η 0) (H1 := η 1) f11 f10 f9 f8 f7 f6 f5 f4 f3 f2 f1 f0
set_option maxHeartbeats 20000000 in
theorem q_236_3 {q0 : Nat} {n0 n1 n2 n3 n4 : Int} {H0 H1 : gH} (f0 : n0 ≤ 1) (f1 : 0 ≤ n0) (f2 : n1 ≤ 7) (f3 : 0 ≤ n1) (f4 : n2 = 285) (f5 : n3 = 285) (f6 : (hLe T0 H0 H1 ∧ hFr s_236.2.2.2.2 H0 H1 ∧ hWt T0 H1) ∧ (Ab_236_12 n3 n2 n1 n0 H0 H1 ∧ preb_236 n3 H0) ∧ some q0 = some (mub_236_12 n3 n2 n1 n0 H0 H1)) (f7 : n0 ≠ 0) (f8 : n4 ≤ 2) (f9 : 0 ≤ n4) (f10 : n4 = hV H1 (n2).toNat 13) (f11 : n4 = 0) : Ab_236_23 n3 n2 n1 n0 H0 H1 ∧ ∀ q, some q0 = some q → mub_236_23 n3 n2 n1 n0 H0 H1 < q := by
  have g4 := f6.2.1.1
  unfold Ab_236_12 at g4
  have g3 := f6.2.1.2
  unfold preb_236 at g3
  have g5 := Option.some.inj f6.2.2
  unfold mub_236_12 at g5
  unfold Ab_236_23
  unfold mub_236_23
  have e0 : n4 = hV H1 285 13 := (by rw [f4] at f10; exact f10 : n4 = hV H1 285 13)
  have e4 : hV H1 285 35 = hV H0 285 35 := (f6.1.2.1.1 285 35 kF_236_285_35)
  have e5 : (0 : Int) ≤ hV H1 285 11 ∧ hV H1 285 11 ≤ 500 := f6.1.2.2 285 11 _ _ kW_285_11
  have e6 : (0 : Int) ≤ hV H1 285 12 ∧ hV H1 285 12 ≤ 7 := f6.1.2.2 285 12 _ _ kW_285_12
  have e7 : (0 : Int) ≤ hV H1 285 13 ∧ hV H1 285 13 ≤ 2 := f6.1.2.2 285 13 _ _ kW_285_13
  have e8 : (0 : Int) ≤ hV H0 285 34 ∧ hV H0 285 34 ≤ 1 := bTo ((f6.1.2.1.1 285 34 kF_236_285_34)) (f6.1.2.2 285 34 _ _ kW_285_34)
  have e9 : (0 : Int) ≤ hV H0 285 35 ∧ hV H0 285 35 ≤ 1 := bTo e4 (f6.1.2.2 285 35 _ _ kW_285_35)
  have e10 : (0 : Int) ≤ hV H1 285 51 ∧ hV H1 285 51 ≤ 1200 := f6.1.2.2 285 51 _ _ kW_285_51
  have e11 : (0 : Int) ≤ hV H1 285 55 ∧ hV H1 285 55 ≤ 64 := f6.1.2.2 285 55 _ _ kW_285_55
  try simp only [e4]
  have y0 := g4.1
  have y1 := g4.2.1
  have y2 := g4.2.2.1
  have y3 := g4.2.2.2.1
  have y4 := g4.2.2.2.2.1
  have y5 := g4.2.2.2.2.2.1
  have y6 := g4.2.2.2.2.2.2.1
  have y7 := g4.2.2.2.2.2.2.2.1
  have y8 := g4.2.2.2.2.2.2.2.2.1
  have y9 := g4.2.2.2.2.2.2.2.2.2.1
  have y10 := g4.2.2.2.2.2.2.2.2.2.2
  have p0 := g3.1
  have p1 := g3.2.1
  have p2 := g3.2.2.1
  have p3 := g3.2.2.2.1
  have p4 := g3.2.2.2.2
  try simp only [e4] at y7
  clear g3
  clear g4
  clear f10 e4
  clear f6
  subst e0
  try have wl := wo_leI (w := hV H1 322) (n := hV H1 285 55) (by omega)
  try have wb := WT_bound y2 (by omega)
  try have wl2 := wo_leI (w := hV H1 322) (n := hV H2 285 55) (by omega)
  try have wl3 := wo_leI (w := hV H1 322) (n := hV H3 285 55) (by omega)
  try have wl4 := wo_leI (w := hV H1 322) (n := hV H4 285 55) (by omega)
  try have wl5 := wo_leI (w := hV H1 322) (n := hV H5 285 55) (by omega)
  try have wl6 := wo_leI (w := hV H1 322) (n := hV H6 285 55) (by omega)
  try have wl7 := wo_leI (w := hV H1 322) (n := hV H7 285 55) (by omega)
  try have wl8 := wo_leI (w := hV H1 322) (n := hV H8 285 55) (by omega)
  try have wl9 := wo_leI (w := hV H1 322) (n := hV H9 285 55) (by omega)
  try have wl10 := wo_leI (w := hV H1 322) (n := hV H10 285 55) (by omega)

  refine ⟨⟨?_, ?_, ?_, ?_, ?_, ?_, ?_, ?_, ?_⟩, fun q hq => ?_⟩
  · exact y0
  · intro z
    exact y1 (by omega)
  · exact y2
  · first | omega | (rw [wo_push] <;> omega)
  · first | omega | (rw [wo_push] <;> omega)
  · first | omega | (rw [wo_push] <;> omega)
  · first | omega | (rw [wo_push] <;> omega)
  · first | omega | (rw [wo_push] <;> omega)
  · first | omega | (rw [wo_push] <;> omega)
  · have g6 := Option.some.inj hq
    subst g6
    omega
def g_236_12_2 : vG := ([(30, [4], [], 0), (20, [4, 1], [1], 13), (90, [4], [], 0), (91, [4], [], 2), (31, [3], [], 0), (5000, [0, 1, 2, 3], [0, 1], 12), (0, [0], [], 285), (0, [1], [], 285), (90, [2], [], 0), (91, [2], [], 7), (90, [3], [], 0), (91, [3], [], 1)], (4000, [1, 2, 3], [1], 23))
theorem c_236_12_2 {q0 : Nat} : vOkm T0 (eP e_236 L_236 A_236 mu_236 (some q0)) 1 g_236_12_2 := vOk_inI fun ρ η f0 f1 f2 f3 f4 f5 f6 f7 f8 f9 f10 f11 => q_236_3 (q0 := q0) (n0 := ρ 3) (n1 := ρ 2) (n2 := ρ 1) (n3 := ρ 0) (n4 := ρ 4) (H0 := η 0) (H1 := η 1) f11 f10 f9 f8 f7 f6 f5 f4 f3 f2 f1 f0
def p_236_12 : List vG := [g_236_12_0,
  g_236_12_1,
  g_236_12_2]
theorem r_236_12 : vCovO false (eRc e_236 L_236 cs_236 2000 (12, [(0, (3, 12, 285, 0)), (1, (0, 0, 7, 0)), (2, (0, 0, 1, 0))])) p_236_12 = true := by decide +kernel
set_option maxHeartbeats 20000000 in
theorem q_236_4 {q0 : Nat} {n0 n1 n2 n3 n4 n5 : Int} {H0 H1 H2 : gH} (f0 : n0 ≤ 2147483647) (f1 : (-2147483648) ≤ n0) (f2 : n1 ≤ 7) (f3 : 0 ≤ n1) (f4 : n2 = 285) (f5 : n3 = 285) (f6 : (hLe T0 H0 H1 ∧ hFr s_236.2.2.2.2 H0 H1 ∧ hWt T0 H1) ∧ (Ab_236_23 n3 n2 n1 n0 H0 H1 ∧ preb_236 n3 H0) ∧ some q0 = some (mub_236_23 n3 n2 n1 n0 H0 H1)) (f7 : n4 = 6) (f8 : n5 ≤ 1) (f9 : 0 ≤ n5) (f10 : (hLe T0 H1 H2 ∧ hFr s_216.2.2.2.2 H1 H2 ∧ ((0 : Int) = 0 → H2.length = H1.length) ∧ hWt T0 H2) ∧ postb_216 n5 n2 n4 H1 H2) (f11 : n5 = 0) : preb_237 n2 H2 := by
  have g4 := f6.2.1.1
  unfold Ab_236_23 at g4
  have g3 := f6.2.1.2
  unfold preb_236 at g3
  unfold postb_216 at f10
  unfold preb_237
  have e3 : hV H1 285 35 = hV H0 285 35 := (f6.1.2.1.1 285 35 kF_236_285_35)
  have e7 : hV H2 285 13 = hV H1 285 13 := (f10.1.2.1.1 285 13 kF_216_285_13)
  have e9 : hV H2 285 34 = hV H0 285 34 := ((f10.1.2.1.1 285 34 kF_216_285_34)).trans (f6.1.2.1.1 285 34 kF_236_285_34)
  have e11 : hV H2 285 35 = hV H0 285 35 := ((f10.1.2.1.1 285 35 kF_216_285_35)).trans (f6.1.2.1.1 285 35 kF_236_285_35)
  have e13 : hV H2 285 51 = hV H1 285 51 := (f10.1.2.1.1 285 51 kF_216_285_51)
  have e17 : RR H2 = RR H1 := RR_fr f10.1.2.1 (by decide +kernel)
  have e18 : (0 : Int) ≤ hV H1 285 11 ∧ hV H1 285 11 ≤ 500 := f6.1.2.2 285 11 _ _ kW_285_11
  have e19 : (0 : Int) ≤ hV H1 285 12 ∧ hV H1 285 12 ≤ 7 := f6.1.2.2 285 12 _ _ kW_285_12
  have e20 : (0 : Int) ≤ hV H1 285 13 ∧ hV H1 285 13 ≤ 2 := f6.1.2.2 285 13 _ _ kW_285_13
  have e21 : (0 : Int) ≤ hV H0 285 34 ∧ hV H0 285 34 ≤ 1 := bTo ((f6.1.2.1.1 285 34 kF_236_285_34)) (f6.1.2.2 285 34 _ _ kW_285_34)
  have e22 : (0 : Int) ≤ hV H0 285 35 ∧ hV H0 285 35 ≤ 1 := bTo e3 (f6.1.2.2 285 35 _ _ kW_285_35)
  have e23 : (0 : Int) ≤ hV H1 285 51 ∧ hV H1 285 51 ≤ 1200 := f6.1.2.2 285 51 _ _ kW_285_51
  have e24 : (0 : Int) ≤ hV H1 285 55 ∧ hV H1 285 55 ≤ 64 := f6.1.2.2 285 55 _ _ kW_285_55
  try simp only [e9, e11, e13, e17]
  have y0 := g4.1
  have y1 := g4.2.1
  have y2 := g4.2.2.1
  have y3 := g4.2.2.2.1
  have y4 := g4.2.2.2.2.1
  have y5 := g4.2.2.2.2.2.1
  have y6 := g4.2.2.2.2.2.2.1
  have y7 := g4.2.2.2.2.2.2.2.1
  have y8 := g4.2.2.2.2.2.2.2.2.1
  have y9 := g4.2.2.2.2.2.2.2.2.2
  have p0 := g3.1
  have p1 := g3.2.1
  have p2 := g3.2.2.1
  have p3 := g3.2.2.2.1
  have p4 := g3.2.2.2.2
  have r0_0 := f10.2.1
  try simp only [e3] at y7
  try simp only [e7] at r0_0
  clear g3
  clear g4
  clear e3 e7 e9 e11 e13 e17
  clear f6 f10
  try have wl := wo_leI (w := hV H1 322) (n := hV H1 285 55) (by omega)
  try have wb := WT_bound y2 (by omega)
  try have wl2 := wo_leI (w := hV H1 322) (n := hV H2 285 55) (by omega)
  try have wl3 := wo_leI (w := hV H1 322) (n := hV H3 285 55) (by omega)
  try have wl4 := wo_leI (w := hV H1 322) (n := hV H4 285 55) (by omega)
  try have wl5 := wo_leI (w := hV H1 322) (n := hV H5 285 55) (by omega)
  try have wl6 := wo_leI (w := hV H1 322) (n := hV H6 285 55) (by omega)
  try have wl7 := wo_leI (w := hV H1 322) (n := hV H7 285 55) (by omega)
  try have wl8 := wo_leI (w := hV H1 322) (n := hV H8 285 55) (by omega)
  try have wl9 := wo_leI (w := hV H1 322) (n := hV H9 285 55) (by omega)
  try have wl10 := wo_leI (w := hV H1 322) (n := hV H10 285 55) (by omega)
  subst y3
  refine ⟨?_, ?_, ?_, ?_⟩ <;> first | assumption | omega | trivial
def g_236_23_0 : vG := ([(30, [5], [], 0), (1216, [5, 1, 4], [1, 2], 0), (90, [5], [], 0), (91, [5], [], 1), (0, [4], [], 6), (5000, [0, 1, 2, 3], [0, 1], 23), (0, [0], [], 285), (0, [1], [], 285), (90, [2], [], 0), (91, [2], [], 7), (90, [3], [], -2147483648), (91, [3], [], 2147483647)], (2237, [1], [2], 0))
theorem c_236_23_0 {q0 : Nat} : vOkm T0 (eP e_236 L_236 A_236 mu_236 (some q0)) 1 g_236_23_0 := vOk_inI fun ρ η f0 f1 f2 f3 f4 f5 f6 f7 f8 f9 f10 f11 => q_236_4 (q0 := q0) (n0 := ρ 3) (n1 := ρ 2) (n2 := ρ 1) (n3 := ρ 0) (n4 := ρ 4) (n5 := ρ 5) (H0 := η 0) (H1 := η 1) (H2 := η 2) f11 f10 f9 f8 f7 f6 f5 f4 f3 f2 f1 f0
set_option maxHeartbeats 20000000 in
theorem kR_237_322 : vFreeR s_237.2.2.2.2 322 = true := by decide +kernel
theorem kR_216_322 : vFreeR s_216.2.2.2.2 322 = true := by decide +kernel
theorem kF_237_285_12 : vFree s_237.2.2.2.2 285 12 = true := by decide +kernel
theorem kF_216_285_12 : vFree s_216.2.2.2.2 285 12 = true := by decide +kernel
theorem kF_237_285_35 : vFree s_237.2.2.2.2 285 35 = true := by decide +kernel
theorem kF_237_285_55 : vFree s_237.2.2.2.2 285 55 = true := by decide +kernel
theorem kF_216_285_55 : vFree s_216.2.2.2.2 285 55 = true := by decide +kernel
theorem q_236_5 {q0 : Nat} {n0 n1 n2 n3 n4 n5 n6 : Int} {H0 H1 H2 H3 : gH} (f0 : n0 ≤ 2147483647) (f1 : (-2147483648) ≤ n0) (f2 : n1 ≤ 7) (f3 : 0 ≤ n1) (f4 : n2 = 285) (f5 : n3 = 285) (f6 : (hLe T0 H0 H1 ∧ hFr s_236.2.2.2.2 H0 H1 ∧ hWt T0 H1) ∧ (Ab_236_23 n3 n2 n1 n0 H0 H1 ∧ preb_236 n3 H0) ∧ some q0 = some (mub_236_23 n3 n2 n1 n0 H0 H1)) (f7 : n4 = 6) (f8 : n5 ≤ 1) (f9 : 0 ≤ n5) (f10 : (hLe T0 H1 H2 ∧ hFr s_216.2.2.2.2 H1 H2 ∧ ((0 : Int) = 0 → H2.length = H1.length) ∧ hWt T0 H2) ∧ postb_216 n5 n2 n4 H1 H2) (f11 : n5 = 0) (f12 : (hLe T0 H2 H3 ∧ hFr s_237.2.2.2.2 H2 H3 ∧ ((0 : Int) = 0 → H3.length = H2.length) ∧ hWt T0 H3) ∧ postb_237 n2 H2 H3) (f13 : n6 ≤ 2) (f14 : 0 ≤ n6) (f15 : n6 = hV H3 (n2).toNat 13) (f16 : n6 ≤ 0) : Ab_236_96 n3 n2 n1 n0 H0 H3 ∧ ∀ q, some q0 = some q → mub_236_96 n3 n2 n1 n0 H0 H3 < q := by
  have g4 := f6.2.1.1
  unfold Ab_236_23 at g4
  have g3 := f6.2.1.2
  unfold preb_236 at g3
  have g5 := Option.some.inj f6.2.2
  unfold mub_236_23 at g5
  unfold postb_216 at f10
  unfold postb_237 at f12
  unfold Ab_236_96
  unfold mub_236_96
  have e0 : n6 = hV H3 285 13 := (by rw [f4] at f15; exact f15 : n6 = hV H3 285 13)
  have e4 : hV H1 285 35 = hV H0 285 35 := (f6.1.2.1.1 285 35 kF_236_285_35)
  have e6 : hV H2 285 11 = hV H1 285 11 := (f10.1.2.1.1 285 11 kF_216_285_11)
  have e8 : hV H2 285 13 = hV H1 285 13 := (f10.1.2.1.1 285 13 kF_216_285_13)
  have e10 : hV H2 285 51 = hV H1 285 51 := (f10.1.2.1.1 285 51 kF_216_285_51)
  have e14 : hV H2 320 = hV H1 320 := fRow f10.1.2.1 320 kR_216_320
  have e15 : hV H2 321 = hV H1 321 := fRow f10.1.2.1 321 kR_216_321
  have e18 : hV H3 285 12 = hV H1 285 12 := ((f12.1.2.1.1 285 12 kF_237_285_12)).trans (f10.1.2.1.1 285 12 kF_216_285_12)
  have e21 : hV H3 285 35 = hV H0 285 35 := ((f12.1.2.1.1 285 35 kF_237_285_35)).trans (((f10.1.2.1.1 285 35 kF_216_285_35)).trans (f6.1.2.1.1 285 35 kF_236_285_35))
  have e24 : hV H3 285 55 = hV H1 285 55 := ((f12.1.2.1.1 285 55 kF_237_285_55)).trans (f10.1.2.1.1 285 55 kF_216_285_55)
  have e27 : hV H3 322 = hV H1 322 := (fRow f12.1.2.1 322 kR_237_322).trans (fRow f10.1.2.1 322 kR_216_322)
  have e28 : (0 : Int) ≤ hV H1 285 11 ∧ hV H1 285 11 ≤ 500 := f6.1.2.2 285 11 _ _ kW_285_11
  have e29 : (0 : Int) ≤ hV H1 285 12 ∧ hV H1 285 12 ≤ 7 := f6.1.2.2 285 12 _ _ kW_285_12
  have e30 : (0 : Int) ≤ hV H1 285 13 ∧ hV H1 285 13 ≤ 2 := f6.1.2.2 285 13 _ _ kW_285_13
  have e31 : (0 : Int) ≤ hV H0 285 34 ∧ hV H0 285 34 ≤ 1 := bTo ((f6.1.2.1.1 285 34 kF_236_285_34)) (f6.1.2.2 285 34 _ _ kW_285_34)
  have e32 : (0 : Int) ≤ hV H0 285 35 ∧ hV H0 285 35 ≤ 1 := bTo e4 (f6.1.2.2 285 35 _ _ kW_285_35)
  have e33 : (0 : Int) ≤ hV H1 285 51 ∧ hV H1 285 51 ≤ 1200 := f6.1.2.2 285 51 _ _ kW_285_51
  have e34 : (0 : Int) ≤ hV H1 285 55 ∧ hV H1 285 55 ≤ 64 := f6.1.2.2 285 55 _ _ kW_285_55
  have e38 : (0 : Int) ≤ hV H3 285 11 ∧ hV H3 285 11 ≤ 500 := f12.1.2.2.2 285 11 _ _ kW_285_11
  have e40 : (0 : Int) ≤ hV H3 285 13 ∧ hV H3 285 13 ≤ 2 := f12.1.2.2.2 285 13 _ _ kW_285_13
  have e42 : (0 : Int) ≤ hV H3 285 51 ∧ hV H3 285 51 ≤ 1200 := f12.1.2.2.2 285 51 _ _ kW_285_51
  try simp only [e18, e21, e24, e27]
  have y0 := g4.1
  have y1 := g4.2.1
  have y2 := g4.2.2.1
  have y3 := g4.2.2.2.1
  have y4 := g4.2.2.2.2.1
  have y5 := g4.2.2.2.2.2.1
  have y6 := g4.2.2.2.2.2.2.1
  have y7 := g4.2.2.2.2.2.2.2.1
  have y8 := g4.2.2.2.2.2.2.2.2.1
  have y9 := g4.2.2.2.2.2.2.2.2.2
  have p0 := g3.1
  have p1 := g3.2.1
  have p2 := g3.2.2.1
  have p3 := g3.2.2.2.1
  have p4 := g3.2.2.2.2
  have r0_0 := f10.2.1
  have r1_0 := f12.2.1
  have r1_1 := f12.2.2.1
  have r1_2 := f12.2.2.2.1
  have r1_3 := f12.2.2.2.2.1
  have r1_4 := f12.2.2.2.2.2.1
  have r1_5 := f12.2.2.2.2.2.2.1
  have r1_6 := f12.2.2.2.2.2.2.2.1
  have r1_7 := f12.2.2.2.2.2.2.2.2.1
  have r1_8 := f12.2.2.2.2.2.2.2.2.2.1
  have r1_9 := f12.2.2.2.2.2.2.2.2.2.2
  try simp only [e4] at y7
  try simp only [e8] at r0_0
  try simp only [e10, e14, e15] at r1_1
  try simp only [e6] at r1_2
  try simp only [e6] at r1_3
  try simp only [e8] at r1_4
  try simp only [e6] at r1_5
  try simp only [e10] at r1_6
  try simp only [e10] at r1_7
  try simp only [e10] at r1_8
  try simp only [e6, e8, e10] at r1_9
  clear g3
  clear g4
  clear f15 e4 e6 e8 e10 e14 e15 e18 e21 e24 e27
  clear f6 f10 f12
  subst e0
  try have wl := wo_leI (w := hV H1 322) (n := hV H1 285 55) (by omega)
  try have wb := WT_bound y2 (by omega)
  try have wl2 := wo_leI (w := hV H1 322) (n := hV H2 285 55) (by omega)
  try have wl3 := wo_leI (w := hV H1 322) (n := hV H3 285 55) (by omega)
  try have wl4 := wo_leI (w := hV H1 322) (n := hV H4 285 55) (by omega)
  try have wl5 := wo_leI (w := hV H1 322) (n := hV H5 285 55) (by omega)
  try have wl6 := wo_leI (w := hV H1 322) (n := hV H6 285 55) (by omega)
  try have wl7 := wo_leI (w := hV H1 322) (n := hV H7 285 55) (by omega)
  try have wl8 := wo_leI (w := hV H1 322) (n := hV H8 285 55) (by omega)
  try have wl9 := wo_leI (w := hV H1 322) (n := hV H9 285 55) (by omega)
  try have wl10 := wo_leI (w := hV H1 322) (n := hV H10 285 55) (by omega)

  refine ⟨⟨?_, ?_, ?_, ?_, ?_, ?_, ?_, ?_, ?_, ?_⟩, fun q hq => ?_⟩
  · exact r1_0
  · intro z
    exact CO_trans (y1 (by omega)) rfl (r1_1 (by omega) _)
  · exact y2
  · first | omega | (rw [wo_push] <;> omega)
  · first | omega | (rw [wo_push] <;> omega)
  · first | omega | (rw [wo_push] <;> omega)
  · first | omega | (rw [wo_push] <;> omega)
  · first | omega | (rw [wo_push] <;> omega)
  · first | omega | (rw [wo_push] <;> omega)
  · first | omega | (rw [wo_push] <;> omega)
  · have g6 := Option.some.inj hq
    subst g6
    omega
def g_236_23_1 : vG := ([(35, [6], [], 0), (20, [6, 1], [3], 13), (90, [6], [], 0), (91, [6], [], 2), (1237, [1], [2, 3], 0), (30, [5], [], 0), (1216, [5, 1, 4], [1, 2], 0), (90, [5], [], 0), (91, [5], [], 1), (0, [4], [], 6), (5000, [0, 1, 2, 3], [0, 1], 23), (0, [0], [], 285), (0, [1], [], 285), (90, [2], [], 0), (91, [2], [], 7), (90, [3], [], -2147483648), (91, [3], [], 2147483647)], (4000, [1, 2, 3], [3], 96))
theorem c_236_23_1 {q0 : Nat} : vOkm T0 (eP e_236 L_236 A_236 mu_236 (some q0)) 1 g_236_23_1 := vOk_inI fun ρ η f0 f1 f2 f3 f4 f5 f6 f7 f8 f9 f10 f11 f12 f13 f14 f15 f16 => q_236_5 (q0 := q0) (n0 := ρ 3) (n1 := ρ 2) (n2 := ρ 1) (n3 := ρ 0) (n4 := ρ 4) (n5 := ρ 5) (n6 := ρ 6) (H0 := η 0) (H1 := η 1) (H2 := η 2) (H3 := η 3) f16 f15 f14 f13 f12 f11 f10 f9 f8 f7 f6 f5 f4 f3 f2 f1 f0
set_option maxHeartbeats 20000000 in
theorem q_236_6 {q0 : Nat} {n0 n1 n2 n3 n4 n5 n6 : Int} {H0 H1 H2 H3 : gH} (f0 : n0 ≤ 2147483647) (f1 : (-2147483648) ≤ n0) (f2 : n1 ≤ 7) (f3 : 0 ≤ n1) (f4 : n2 = 285) (f5 : n3 = 285) (f6 : (hLe T0 H0 H1 ∧ hFr s_236.2.2.2.2 H0 H1 ∧ hWt T0 H1) ∧ (Ab_236_23 n3 n2 n1 n0 H0 H1 ∧ preb_236 n3 H0) ∧ some q0 = some (mub_236_23 n3 n2 n1 n0 H0 H1)) (f7 : n4 = 6) (f8 : n5 ≤ 1) (f9 : 0 ≤ n5) (f10 : (hLe T0 H1 H2 ∧ hFr s_216.2.2.2.2 H1 H2 ∧ ((0 : Int) = 0 → H2.length = H1.length) ∧ hWt T0 H2) ∧ postb_216 n5 n2 n4 H1 H2) (f11 : n5 = 0) (f12 : (hLe T0 H2 H3 ∧ hFr s_237.2.2.2.2 H2 H3 ∧ ((0 : Int) = 0 → H3.length = H2.length) ∧ hWt T0 H3) ∧ postb_237 n2 H2 H3) (f13 : n6 ≤ 2) (f14 : 0 ≤ n6) (f15 : n6 = hV H3 (n2).toNat 13) (f16 : 0 < n6) : postb_236 n3 H0 H3 := by
  have g4 := f6.2.1.1
  unfold Ab_236_23 at g4
  have g3 := f6.2.1.2
  unfold preb_236 at g3
  unfold postb_216 at f10
  unfold postb_237 at f12
  unfold postb_236
  have e0 : n6 = hV H3 285 13 := (by rw [f4] at f15; exact f15 : n6 = hV H3 285 13)
  have e4 : hV H1 285 35 = hV H0 285 35 := (f6.1.2.1.1 285 35 kF_236_285_35)
  have e6 : hV H2 285 11 = hV H1 285 11 := (f10.1.2.1.1 285 11 kF_216_285_11)
  have e8 : hV H2 285 13 = hV H1 285 13 := (f10.1.2.1.1 285 13 kF_216_285_13)
  have e10 : hV H2 285 51 = hV H1 285 51 := (f10.1.2.1.1 285 51 kF_216_285_51)
  have e14 : hV H2 320 = hV H1 320 := fRow f10.1.2.1 320 kR_216_320
  have e15 : hV H2 321 = hV H1 321 := fRow f10.1.2.1 321 kR_216_321
  have e18 : hV H3 285 12 = hV H1 285 12 := ((f12.1.2.1.1 285 12 kF_237_285_12)).trans (f10.1.2.1.1 285 12 kF_216_285_12)
  have e21 : hV H3 285 35 = hV H0 285 35 := ((f12.1.2.1.1 285 35 kF_237_285_35)).trans (((f10.1.2.1.1 285 35 kF_216_285_35)).trans (f6.1.2.1.1 285 35 kF_236_285_35))
  have e22 : (0 : Int) ≤ hV H1 285 11 ∧ hV H1 285 11 ≤ 500 := f6.1.2.2 285 11 _ _ kW_285_11
  have e23 : (0 : Int) ≤ hV H1 285 12 ∧ hV H1 285 12 ≤ 7 := f6.1.2.2 285 12 _ _ kW_285_12
  have e24 : (0 : Int) ≤ hV H1 285 13 ∧ hV H1 285 13 ≤ 2 := f6.1.2.2 285 13 _ _ kW_285_13
  have e25 : (0 : Int) ≤ hV H0 285 34 ∧ hV H0 285 34 ≤ 1 := bTo ((f6.1.2.1.1 285 34 kF_236_285_34)) (f6.1.2.2 285 34 _ _ kW_285_34)
  have e26 : (0 : Int) ≤ hV H0 285 35 ∧ hV H0 285 35 ≤ 1 := bTo e4 (f6.1.2.2 285 35 _ _ kW_285_35)
  have e27 : (0 : Int) ≤ hV H1 285 51 ∧ hV H1 285 51 ≤ 1200 := f6.1.2.2 285 51 _ _ kW_285_51
  have e28 : (0 : Int) ≤ hV H1 285 55 ∧ hV H1 285 55 ≤ 64 := f6.1.2.2 285 55 _ _ kW_285_55
  have e32 : (0 : Int) ≤ hV H3 285 11 ∧ hV H3 285 11 ≤ 500 := f12.1.2.2.2 285 11 _ _ kW_285_11
  have e34 : (0 : Int) ≤ hV H3 285 13 ∧ hV H3 285 13 ≤ 2 := f12.1.2.2.2 285 13 _ _ kW_285_13
  have e36 : (0 : Int) ≤ hV H3 285 51 ∧ hV H3 285 51 ≤ 1200 := f12.1.2.2.2 285 51 _ _ kW_285_51
  try simp only [e18, e21]
  have y0 := g4.1
  have y1 := g4.2.1
  have y2 := g4.2.2.1
  have y3 := g4.2.2.2.1
  have y4 := g4.2.2.2.2.1
  have y5 := g4.2.2.2.2.2.1
  have y6 := g4.2.2.2.2.2.2.1
  have y7 := g4.2.2.2.2.2.2.2.1
  have y8 := g4.2.2.2.2.2.2.2.2.1
  have y9 := g4.2.2.2.2.2.2.2.2.2
  have p0 := g3.1
  have p1 := g3.2.1
  have p2 := g3.2.2.1
  have p3 := g3.2.2.2.1
  have p4 := g3.2.2.2.2
  have r0_0 := f10.2.1
  have r1_0 := f12.2.1
  have r1_1 := f12.2.2.1
  have r1_2 := f12.2.2.2.1
  have r1_3 := f12.2.2.2.2.1
  have r1_4 := f12.2.2.2.2.2.1
  have r1_5 := f12.2.2.2.2.2.2.1
  have r1_6 := f12.2.2.2.2.2.2.2.1
  have r1_7 := f12.2.2.2.2.2.2.2.2.1
  have r1_8 := f12.2.2.2.2.2.2.2.2.2.1
  have r1_9 := f12.2.2.2.2.2.2.2.2.2.2
  try simp only [e4] at y7
  try simp only [e8] at r0_0
  try simp only [e10, e14, e15] at r1_1
  try simp only [e6] at r1_2
  try simp only [e6] at r1_3
  try simp only [e8] at r1_4
  try simp only [e6] at r1_5
  try simp only [e10] at r1_6
  try simp only [e10] at r1_7
  try simp only [e10] at r1_8
  try simp only [e6, e8, e10] at r1_9
  clear g3
  clear g4
  clear f15 e4 e6 e8 e10 e14 e15 e18 e21
  clear f6 f10 f12
  subst e0
  try have wl := wo_leI (w := hV H1 322) (n := hV H1 285 55) (by omega)
  try have wb := WT_bound y2 (by omega)
  try have wl2 := wo_leI (w := hV H1 322) (n := hV H2 285 55) (by omega)
  try have wl3 := wo_leI (w := hV H1 322) (n := hV H3 285 55) (by omega)
  try have wl4 := wo_leI (w := hV H1 322) (n := hV H4 285 55) (by omega)
  try have wl5 := wo_leI (w := hV H1 322) (n := hV H5 285 55) (by omega)
  try have wl6 := wo_leI (w := hV H1 322) (n := hV H6 285 55) (by omega)
  try have wl7 := wo_leI (w := hV H1 322) (n := hV H7 285 55) (by omega)
  try have wl8 := wo_leI (w := hV H1 322) (n := hV H8 285 55) (by omega)
  try have wl9 := wo_leI (w := hV H1 322) (n := hV H9 285 55) (by omega)
  try have wl10 := wo_leI (w := hV H1 322) (n := hV H10 285 55) (by omega)

  refine ⟨r1_0, fun z => ?_, ?_, ?_, ?_, ?_, ?_, ?_⟩
  · omega
  all_goals omega
def g_236_23_2 : vG := ([(34, [6], [], 0), (20, [6, 1], [3], 13), (90, [6], [], 0), (91, [6], [], 2), (1237, [1], [2, 3], 0), (30, [5], [], 0), (1216, [5, 1, 4], [1, 2], 0), (90, [5], [], 0), (91, [5], [], 1), (0, [4], [], 6), (5000, [0, 1, 2, 3], [0, 1], 23), (0, [0], [], 285), (0, [1], [], 285), (90, [2], [], 0), (91, [2], [], 7), (90, [3], [], -2147483648), (91, [3], [], 2147483647)], (3000, [], [3], 95))
theorem c_236_23_2 {q0 : Nat} : vOkm T0 (eP e_236 L_236 A_236 mu_236 (some q0)) 1 g_236_23_2 := vOk_inI fun ρ η f0 f1 f2 f3 f4 f5 f6 f7 f8 f9 f10 f11 f12 f13 f14 f15 f16 => q_236_6 (q0 := q0) (n0 := ρ 3) (n1 := ρ 2) (n2 := ρ 1) (n3 := ρ 0) (n4 := ρ 4) (n5 := ρ 5) (n6 := ρ 6) (H0 := η 0) (H1 := η 1) (H2 := η 2) (H3 := η 3) f16 f15 f14 f13 f12 f11 f10 f9 f8 f7 f6 f5 f4 f3 f2 f1 f0
set_option maxHeartbeats 20000000 in
theorem q_236_7 {q0 : Nat} {n0 n1 n2 : Int} {H0 : gH} (f0 : n0 ≤ 7) (f1 : 0 ≤ n0) (f2 : n1 = 1) (f3 : n2 = w32 (n0 + n1)) : 0 ≤ n2 := by
  first
  | (have ix0 : n2 = n0 + 1 := Eq.trans f3 (w32_iv (Iad (Iat f1 f0) (IC 1)) (by decide)); subst ix0; clear f3)
  | (have ix0 : n2 = n0 + 1 := Eq.trans f3 (w32_id (by omega) (by omega)); subst ix0; clear f3)
  | (unfold w32 at f3; have ix0 : n2 = n0 + 1 := (by omega); subst ix0)
  | skip
  try unfold w32 at f3
  omega
def g_236_23_3 : vG := ([(1, [10, 8, 9], [], 0), (0, [9], [], 1), (90, [8], [], 0), (91, [8], [], 7)], (90, [10], [], 0))
theorem c_236_23_3 {q0 : Nat} : vOkm T0 (eP e_236 L_236 A_236 mu_236 (some q0)) 1 g_236_23_3 := vOk_inI fun ρ η f0 f1 f2 f3 => q_236_7 (q0 := q0) (n0 := ρ 8) (n1 := ρ 9) (n2 := ρ 10) (H0 := η 0) f3 f2 f1 f0
set_option maxHeartbeats 20000000 in
theorem kR_236_288 : vFreeR s_236.2.2.2.2 288 = true := by decide +kernel
theorem q_236_8 {q0 : Nat} {n0 n1 n2 n3 n4 n5 n6 n7 n8 : Int} {H0 H1 H2 : gH} (f0 : n0 = 285) (f1 : n1 = 285) (f2 : (hLe T0 H0 H1 ∧ hFr s_236.2.2.2.2 H0 H1 ∧ hWt T0 H1) ∧ (Ab_236_23 n1 n0 n2 n3 H0 H1 ∧ preb_236 n1 H0) ∧ some q0 = some (mub_236_23 n1 n0 n2 n3 H0 H1)) (f3 : n4 = 6) (f4 : (hLe T0 H1 H2 ∧ hFr s_216.2.2.2.2 H1 H2 ∧ ((0 : Int) = 0 → H2.length = H1.length) ∧ hWt T0 H2) ∧ postb_216 n5 n0 n4 H1 H2) (f5 : n5 ≠ 0) (f6 : n6 = hV H2 (n0).toNat 12) (f7 : n7 = 1) (f8 : n8 = w32 (n6 + n7)) : n8 ≤ 7 := by
  have g4 := f2.2.1.1
  unfold Ab_236_23 at g4
  have g3 := f2.2.1.2
  unfold preb_236 at g3
  unfold postb_216 at f4
  have e1 : n6 = hV H1 285 12 := (by rw [f0] at f6; exact f6 : n6 = hV H2 285 12).trans ((f4.1.2.1.1 285 12 kF_216_285_12))
  have e3 : hV H1 285 34 = hV H0 285 34 := (f2.1.2.1.1 285 34 kF_236_285_34)
  have e5 : hV H1 285 35 = hV H0 285 35 := (f2.1.2.1.1 285 35 kF_236_285_35)
  have e7 : hV H2 285 11 = hV H1 285 11 := (f4.1.2.1.1 285 11 kF_216_285_11)
  have e9 : hV H2 285 13 = hV H1 285 13 := (f4.1.2.1.1 285 13 kF_216_285_13)
  have e12 : hV H2 288 = hV H0 288 := (fRow f4.1.2.1 288 kR_216_288).trans (fRow f2.1.2.1 288 kR_236_288)
  have e13 : (0 : Int) ≤ hV H1 285 11 ∧ hV H1 285 11 ≤ 500 := f2.1.2.2 285 11 _ _ kW_285_11
  have e14 : (0 : Int) ≤ hV H1 285 12 ∧ hV H1 285 12 ≤ 7 := f2.1.2.2 285 12 _ _ kW_285_12
  have e15 : (0 : Int) ≤ hV H1 285 13 ∧ hV H1 285 13 ≤ 2 := f2.1.2.2 285 13 _ _ kW_285_13
  have e16 : (0 : Int) ≤ hV H0 285 34 ∧ hV H0 285 34 ≤ 1 := bTo e3 (f2.1.2.2 285 34 _ _ kW_285_34)
  have e17 : (0 : Int) ≤ hV H0 285 35 ∧ hV H0 285 35 ≤ 1 := bTo e5 (f2.1.2.2 285 35 _ _ kW_285_35)
  have e18 : (0 : Int) ≤ hV H1 285 51 ∧ hV H1 285 51 ≤ 1200 := f2.1.2.2 285 51 _ _ kW_285_51
  have e19 : (0 : Int) ≤ hV H1 285 55 ∧ hV H1 285 55 ≤ 64 := f2.1.2.2 285 55 _ _ kW_285_55
  have y0 := g4.1
  have y1 := g4.2.1
  have y2 := g4.2.2.1
  have y3 := g4.2.2.2.1
  have y4 := g4.2.2.2.2.1
  have y5 := g4.2.2.2.2.2.1
  have y6 := g4.2.2.2.2.2.2.1
  have y7 := g4.2.2.2.2.2.2.2.1
  have y8 := g4.2.2.2.2.2.2.2.2.1
  have y9 := g4.2.2.2.2.2.2.2.2.2
  have p0 := g3.1
  have p1 := g3.2.1
  have p2 := g3.2.2.1
  have p3 := g3.2.2.2.1
  have p4 := g3.2.2.2.2
  have r0_0 := f4.2.1
  have r0_1 := f4.2.2.resolve_right (fun z => f5 z.1)
  try simp only [e5] at y7
  try simp only [e9] at r0_0
  try simp only [e3, e5, e7, e9, e12] at r0_1
  clear g3
  clear g4
  clear f6 e3 e5 e7 e9 e12
  clear f2 f4
  subst e1
  first
  | (have ix0 : n8 = hV H1 285 12 + 1 := Eq.trans f8 (w32_iv (Iad (Iat e14.1 e14.2) (IC 1)) (by decide)); subst ix0; clear f8)
  | (have ix0 : n8 = hV H1 285 12 + 1 := Eq.trans f8 (w32_id (by omega) (by omega)); subst ix0; clear f8)
  | (unfold w32 at f8; have ix0 : n8 = hV H1 285 12 + 1 := (by omega); subst ix0)
  | skip
  try unfold w32 at f8
  subst y3
  omega
def g_236_23_4 : vG := ([(1, [10, 8, 9], [], 0), (0, [9], [], 1), (20, [8, 1], [2], 12), (31, [5], [], 0), (1216, [5, 1, 4], [1, 2], 0), (0, [4], [], 6), (5000, [0, 1, 2, 3], [0, 1], 23), (0, [0], [], 285), (0, [1], [], 285)], (91, [10], [], 7))
theorem c_236_23_4 {q0 : Nat} : vOkm T0 (eP e_236 L_236 A_236 mu_236 (some q0)) 1 g_236_23_4 := vOk_inI fun ρ η f0 f1 f2 f3 f4 f5 f6 f7 f8 => q_236_8 (q0 := q0) (n0 := ρ 1) (n1 := ρ 0) (n2 := ρ 2) (n3 := ρ 3) (n4 := ρ 4) (n5 := ρ 5) (n6 := ρ 8) (n7 := ρ 9) (n8 := ρ 10) (H0 := η 0) (H1 := η 1) (H2 := η 2) f8 f7 f6 f5 f4 f3 f2 f1 f0
set_option maxHeartbeats 20000000 in
theorem kF_219_285_55 : vFree s_219.2.2.2.2 285 55 = true := by decide +kernel
theorem q_236_9 {q0 : Nat} {n0 n1 n2 n3 n4 n5 n6 n7 n8 n9 n10 n11 n12 : Int} {H0 H1 H2 H3 H4 : gH} (f0 : n0 ≤ 2147483647) (f1 : (-2147483648) ≤ n0) (f2 : n1 ≤ 7) (f3 : 0 ≤ n1) (f4 : n2 = 285) (f5 : n3 = 285) (f6 : (hLe T0 H0 H1 ∧ hFr s_236.2.2.2.2 H0 H1 ∧ hWt T0 H1) ∧ (Ab_236_23 n3 n2 n1 n0 H0 H1 ∧ preb_236 n3 H0) ∧ some q0 = some (mub_236_23 n3 n2 n1 n0 H0 H1)) (f7 : n4 = 6) (f8 : n5 ≤ 1) (f9 : 0 ≤ n5) (f10 : (hLe T0 H1 H2 ∧ hFr s_216.2.2.2.2 H1 H2 ∧ ((0 : Int) = 0 → H2.length = H1.length) ∧ hWt T0 H2) ∧ postb_216 n5 n2 n4 H1 H2) (f11 : n5 ≠ 0) (f12 : n6 ≤ 7) (f13 : 0 ≤ n6) (f14 : n6 = hV H2 (n2).toNat 12) (f15 : n7 = 6) (f16 : n6 ≠ n7) (f17 : n8 ≤ 7) (f18 : 0 ≤ n8) (f19 : n8 = hV H2 (n2).toNat 12) (f20 : n9 = 1) (f21 : n10 = w32 (n8 + n9)) (f22 : n11 = 12) (f23 : hUpd H3 H2 n2 n11 n10) (f24 : (hLe T0 H3 H4 ∧ hFr s_219.2.2.2.2 H3 H4 ∧ ((0 : Int) = 0 → H4.length = H3.length) ∧ hWt T0 H4) ∧ postb_219 n2 H3 H4) (f25 : n12 ≤ 64) (f26 : 0 ≤ n12) (f27 : n12 = hV H4 (n2).toNat 55) : 0 ≤ n12 ∧ n12 < 64 := by
  have g4 := f6.2.1.1
  unfold Ab_236_23 at g4
  have g3 := f6.2.1.2
  unfold preb_236 at g3
  unfold postb_216 at f10
  unfold postb_219 at f24
  have e1 : n6 = hV H1 285 12 := (by rw [f4] at f14; exact f14 : n6 = hV H2 285 12).trans ((f10.1.2.1.1 285 12 kF_216_285_12))
  have e2 : n8 = hV H1 285 12 := (by rw [f4] at f19; exact f19 : n8 = hV H2 285 12).trans ((f10.1.2.1.1 285 12 kF_216_285_12))
  have e6 : n12 = hV H1 285 55 := (by rw [f4] at f27; exact f27 : n12 = hV H4 285 55).trans (((f24.1.2.1.1 285 55 kF_219_285_55)).trans (((uSlot f23 285 55 (iS (show n11 = ((12 : Nat) : Int) from f22) rfl))).trans (f10.1.2.1.1 285 55 kF_216_285_55)))
  have e8 : hV H1 285 34 = hV H0 285 34 := (f6.1.2.1.1 285 34 kF_236_285_34)
  have e10 : hV H1 285 35 = hV H0 285 35 := (f6.1.2.1.1 285 35 kF_236_285_35)
  have e12 : hV H2 285 11 = hV H1 285 11 := (f10.1.2.1.1 285 11 kF_216_285_11)
  have e14 : hV H2 285 13 = hV H1 285 13 := (f10.1.2.1.1 285 13 kF_216_285_13)
  have e17 : hV H2 288 = hV H0 288 := (fRow f10.1.2.1 288 kR_216_288).trans (fRow f6.1.2.1 288 kR_236_288)
  have e19 : hV H3 285 11 = hV H1 285 11 := ((uSlot f23 285 11 (iS (show n11 = ((12 : Nat) : Int) from f22) rfl))).trans (f10.1.2.1.1 285 11 kF_216_285_11)
  have e21 : hV H3 285 13 = hV H1 285 13 := ((uSlot f23 285 13 (iS (show n11 = ((12 : Nat) : Int) from f22) rfl))).trans (f10.1.2.1.1 285 13 kF_216_285_13)
  have e22 : (0 : Int) ≤ hV H1 285 11 ∧ hV H1 285 11 ≤ 500 := f6.1.2.2 285 11 _ _ kW_285_11
  have e23 : (0 : Int) ≤ hV H1 285 12 ∧ hV H1 285 12 ≤ 7 := f6.1.2.2 285 12 _ _ kW_285_12
  have e24 : (0 : Int) ≤ hV H1 285 13 ∧ hV H1 285 13 ≤ 2 := f6.1.2.2 285 13 _ _ kW_285_13
  have e25 : (0 : Int) ≤ hV H0 285 34 ∧ hV H0 285 34 ≤ 1 := bTo e8 (f6.1.2.2 285 34 _ _ kW_285_34)
  have e26 : (0 : Int) ≤ hV H0 285 35 ∧ hV H0 285 35 ≤ 1 := bTo e10 (f6.1.2.2 285 35 _ _ kW_285_35)
  have e27 : (0 : Int) ≤ hV H1 285 51 ∧ hV H1 285 51 ≤ 1200 := f6.1.2.2 285 51 _ _ kW_285_51
  have e28 : (0 : Int) ≤ hV H1 285 55 ∧ hV H1 285 55 ≤ 64 := f6.1.2.2 285 55 _ _ kW_285_55
  have e31 : (0 : Int) ≤ hV H4 285 11 ∧ hV H4 285 11 ≤ 500 := f24.1.2.2.2 285 11 _ _ kW_285_11
  have e32 : (0 : Int) ≤ hV H4 285 13 ∧ hV H4 285 13 ≤ 2 := f24.1.2.2.2 285 13 _ _ kW_285_13
  have y0 := g4.1
  have y1 := g4.2.1
  have y2 := g4.2.2.1
  have y3 := g4.2.2.2.1
  have y4 := g4.2.2.2.2.1
  have y5 := g4.2.2.2.2.2.1
  have y6 := g4.2.2.2.2.2.2.1
  have y7 := g4.2.2.2.2.2.2.2.1
  have y8 := g4.2.2.2.2.2.2.2.2.1
  have y9 := g4.2.2.2.2.2.2.2.2.2
  have p0 := g3.1
  have p1 := g3.2.1
  have p2 := g3.2.2.1
  have p3 := g3.2.2.2.1
  have p4 := g3.2.2.2.2
  have r0_0 := f10.2.1
  have r0_1 := f10.2.2.resolve_right (fun z => f11 z.1)
  have r1_0 := f24.2.1
  have r1_1 := f24.2.2.1
  have r1_2 := f24.2.2.2.1
  have r1_3 := f24.2.2.2.2
  try simp only [e10] at y7
  try simp only [e14] at r0_0
  try simp only [e8, e10, e12, e14, e17] at r0_1
  try simp only [e19] at r1_0
  try simp only [e19] at r1_1
  try simp only [e21] at r1_2
  try simp only [e19] at r1_3
  clear g3
  clear g4
  clear f14 f19 f27 e8 e10 e12 e14 e17 e19 e21
  clear f6 f10 f24
  subst e1
  subst e2
  subst e6
  try have wl := wo_leI (w := hV H1 322) (n := hV H1 285 55) (by omega)
  try have wb := WT_bound y2 (by omega)
  try have wl2 := wo_leI (w := hV H1 322) (n := hV H2 285 55) (by omega)
  try have wl3 := wo_leI (w := hV H1 322) (n := hV H3 285 55) (by omega)
  try have wl4 := wo_leI (w := hV H1 322) (n := hV H4 285 55) (by omega)
  try have wl5 := wo_leI (w := hV H1 322) (n := hV H5 285 55) (by omega)
  try have wl6 := wo_leI (w := hV H1 322) (n := hV H6 285 55) (by omega)
  try have wl7 := wo_leI (w := hV H1 322) (n := hV H7 285 55) (by omega)
  try have wl8 := wo_leI (w := hV H1 322) (n := hV H8 285 55) (by omega)
  try have wl9 := wo_leI (w := hV H1 322) (n := hV H9 285 55) (by omega)
  try have wl10 := wo_leI (w := hV H1 322) (n := hV H10 285 55) (by omega)
  first
  | (have ix0 : n10 = hV H1 285 12 + 1 := Eq.trans f21 (w32_iv (Iad (Iat f13 f12) (IC 1)) (by decide)); subst ix0; clear f21)
  | (have ix0 : n10 = hV H1 285 12 + 1 := Eq.trans f21 (w32_id (by omega) (by omega)); subst ix0; clear f21)
  | (unfold w32 at f21; have ix0 : n10 = hV H1 285 12 + 1 := (by omega); subst ix0)
  | skip
  try unfold w32 at f21
  subst y3
  omega
def g_236_23_5 : vG := ([(20, [13, 1], [4], 55), (90, [13], [], 0), (91, [13], [], 64), (1219, [1], [3, 4], 0), (80, [1, 11, 10], [3, 2], 0), (0, [11], [], 12), (1, [10, 8, 9], [], 0), (0, [9], [], 1), (20, [8, 1], [2], 12), (90, [8], [], 0), (91, [8], [], 7), (41, [6, 7], [], 0), (0, [7], [], 6), (20, [6, 1], [2], 12), (90, [6], [], 0), (91, [6], [], 7), (31, [5], [], 0), (1216, [5, 1, 4], [1, 2], 0), (90, [5], [], 0), (91, [5], [], 1), (0, [4], [], 6), (5000, [0, 1, 2, 3], [0, 1], 23), (0, [0], [], 285), (0, [1], [], 285), (90, [2], [], 0), (91, [2], [], 7), (90, [3], [], -2147483648), (91, [3], [], 2147483647)], (70, [13], [], 64))
theorem c_236_23_5 {q0 : Nat} : vOkm T0 (eP e_236 L_236 A_236 mu_236 (some q0)) 1 g_236_23_5 := vOk_inI fun ρ η f0 f1 f2 f3 f4 f5 f6 f7 f8 f9 f10 f11 f12 f13 f14 f15 f16 f17 f18 f19 f20 f21 f22 f23 f24 f25 f26 f27 => q_236_9 (q0 := q0) (n0 := ρ 3) (n1 := ρ 2) (n2 := ρ 1) (n3 := ρ 0) (n4 := ρ 4) (n5 := ρ 5) (n6 := ρ 6) (n7 := ρ 7) (n8 := ρ 8) (n9 := ρ 9) (n10 := ρ 10) (n11 := ρ 11) (n12 := ρ 13) (H0 := η 0) (H1 := η 1) (H2 := η 2) (H3 := η 3) (H4 := η 4) f27 f26 f25 f24 f23 f22 f21 f20 f19 f18 f17 f16 f15 f14 f13 f12 f11 f10 f9 f8 f7 f6 f5 f4 f3 f2 f1 f0
set_option maxHeartbeats 20000000 in
theorem q_236_10 {q0 : Nat} {n0 n1 n2 : Int} {H0 : gH} (f0 : n0 ≤ 64) (f1 : 0 ≤ n0) (f2 : n1 = 1) (f3 : n2 = w32 (n0 + n1)) : 0 ≤ n2 := by
  first
  | (have ix0 : n2 = n0 + 1 := Eq.trans f3 (w32_iv (Iad (Iat f1 f0) (IC 1)) (by decide)); subst ix0; clear f3)
  | (have ix0 : n2 = n0 + 1 := Eq.trans f3 (w32_id (by omega) (by omega)); subst ix0; clear f3)
  | (unfold w32 at f3; have ix0 : n2 = n0 + 1 := (by omega); subst ix0)
  | skip
  try unfold w32 at f3
  omega
def g_236_23_6 : vG := ([(1, [17, 15, 16], [], 0), (0, [16], [], 1), (90, [15], [], 0), (91, [15], [], 64)], (90, [17], [], 0))
theorem c_236_23_6 {q0 : Nat} : vOkm T0 (eP e_236 L_236 A_236 mu_236 (some q0)) 1 g_236_23_6 := vOk_inI fun ρ η f0 f1 f2 f3 => q_236_10 (q0 := q0) (n0 := ρ 15) (n1 := ρ 16) (n2 := ρ 17) (H0 := η 0) f3 f2 f1 f0
set_option maxHeartbeats 20000000 in
theorem q_236_11 {q0 : Nat} {n0 n1 n2 n3 n4 n5 n6 n7 n8 n9 n10 n11 n12 n13 n14 n15 n16 n17 : Int} {H0 H1 H2 H3 H4 H5 : gH} (f0 : n0 ≤ 2147483647) (f1 : (-2147483648) ≤ n0) (f2 : n1 ≤ 7) (f3 : 0 ≤ n1) (f4 : n2 = 285) (f5 : n3 = 285) (f6 : (hLe T0 H0 H1 ∧ hFr s_236.2.2.2.2 H0 H1 ∧ hWt T0 H1) ∧ (Ab_236_23 n3 n2 n1 n0 H0 H1 ∧ preb_236 n3 H0) ∧ some q0 = some (mub_236_23 n3 n2 n1 n0 H0 H1)) (f7 : n4 = 6) (f8 : n5 ≤ 1) (f9 : 0 ≤ n5) (f10 : (hLe T0 H1 H2 ∧ hFr s_216.2.2.2.2 H1 H2 ∧ ((0 : Int) = 0 → H2.length = H1.length) ∧ hWt T0 H2) ∧ postb_216 n5 n2 n4 H1 H2) (f11 : n5 ≠ 0) (f12 : n6 ≤ 7) (f13 : 0 ≤ n6) (f14 : n6 = hV H2 (n2).toNat 12) (f15 : n7 = 6) (f16 : n6 ≠ n7) (f17 : n8 ≤ 7) (f18 : 0 ≤ n8) (f19 : n8 = hV H2 (n2).toNat 12) (f20 : n9 = 1) (f21 : n10 = w32 (n8 + n9)) (f22 : n11 = 12) (f23 : hUpd H3 H2 n2 n11 n10) (f24 : (hLe T0 H3 H4 ∧ hFr s_219.2.2.2.2 H3 H4 ∧ ((0 : Int) = 0 → H4.length = H3.length) ∧ hWt T0 H4) ∧ postb_219 n2 H3 H4) (f25 : n12 = 322) (f26 : n12 = hV H4 (n2).toNat 54) (f27 : n13 ≤ 64) (f28 : 0 ≤ n13) (f29 : n13 = hV H4 (n2).toNat 55) (f30 : n14 = 6) (f31 : hUpd H5 H4 n12 n13 n14) (f32 : n15 ≤ 64) (f33 : 0 ≤ n15) (f34 : n15 = hV H5 (n2).toNat 55) (f35 : n16 = 1) (f36 : n17 = w32 (n15 + n16)) : n17 ≤ 64 := by
  have g4 := f6.2.1.1
  unfold Ab_236_23 at g4
  have g3 := f6.2.1.2
  unfold preb_236 at g3
  unfold postb_216 at f10
  unfold postb_219 at f24
  have e1 : n6 = hV H1 285 12 := (by rw [f4] at f14; exact f14 : n6 = hV H2 285 12).trans ((f10.1.2.1.1 285 12 kF_216_285_12))
  have e2 : n8 = hV H1 285 12 := (by rw [f4] at f19; exact f19 : n8 = hV H2 285 12).trans ((f10.1.2.1.1 285 12 kF_216_285_12))
  have e6 : n13 = hV H1 285 55 := (by rw [f4] at f29; exact f29 : n13 = hV H4 285 55).trans (((f24.1.2.1.1 285 55 kF_219_285_55)).trans (((uSlot f23 285 55 (iS (show n11 = ((12 : Nat) : Int) from f22) rfl))).trans (f10.1.2.1.1 285 55 kF_216_285_55)))
  have e8 : n15 = hV H1 285 55 := (by rw [f4] at f34; exact f34 : n15 = hV H5 285 55).trans (((uPlace f31 285 55 (iS (show n12 = ((322 : Nat) : Int) from f25) rfl))).trans (((f24.1.2.1.1 285 55 kF_219_285_55)).trans (((uSlot f23 285 55 (iS (show n11 = ((12 : Nat) : Int) from f22) rfl))).trans (f10.1.2.1.1 285 55 kF_216_285_55))))
  have e10 : hV H1 285 34 = hV H0 285 34 := (f6.1.2.1.1 285 34 kF_236_285_34)
  have e12 : hV H1 285 35 = hV H0 285 35 := (f6.1.2.1.1 285 35 kF_236_285_35)
  have e14 : hV H2 285 11 = hV H1 285 11 := (f10.1.2.1.1 285 11 kF_216_285_11)
  have e16 : hV H2 285 13 = hV H1 285 13 := (f10.1.2.1.1 285 13 kF_216_285_13)
  have e19 : hV H2 288 = hV H0 288 := (fRow f10.1.2.1 288 kR_216_288).trans (fRow f6.1.2.1 288 kR_236_288)
  have e21 : hV H3 285 11 = hV H1 285 11 := ((uSlot f23 285 11 (iS (show n11 = ((12 : Nat) : Int) from f22) rfl))).trans (f10.1.2.1.1 285 11 kF_216_285_11)
  have e23 : hV H3 285 13 = hV H1 285 13 := ((uSlot f23 285 13 (iS (show n11 = ((12 : Nat) : Int) from f22) rfl))).trans (f10.1.2.1.1 285 13 kF_216_285_13)
  have e24 : (0 : Int) ≤ hV H1 285 11 ∧ hV H1 285 11 ≤ 500 := f6.1.2.2 285 11 _ _ kW_285_11
  have e25 : (0 : Int) ≤ hV H1 285 12 ∧ hV H1 285 12 ≤ 7 := f6.1.2.2 285 12 _ _ kW_285_12
  have e26 : (0 : Int) ≤ hV H1 285 13 ∧ hV H1 285 13 ≤ 2 := f6.1.2.2 285 13 _ _ kW_285_13
  have e27 : (0 : Int) ≤ hV H0 285 34 ∧ hV H0 285 34 ≤ 1 := bTo e10 (f6.1.2.2 285 34 _ _ kW_285_34)
  have e28 : (0 : Int) ≤ hV H0 285 35 ∧ hV H0 285 35 ≤ 1 := bTo e12 (f6.1.2.2 285 35 _ _ kW_285_35)
  have e29 : (0 : Int) ≤ hV H1 285 51 ∧ hV H1 285 51 ≤ 1200 := f6.1.2.2 285 51 _ _ kW_285_51
  have e30 : (0 : Int) ≤ hV H1 285 55 ∧ hV H1 285 55 ≤ 64 := f6.1.2.2 285 55 _ _ kW_285_55
  have e33 : (0 : Int) ≤ hV H4 285 11 ∧ hV H4 285 11 ≤ 500 := f24.1.2.2.2 285 11 _ _ kW_285_11
  have e34 : (0 : Int) ≤ hV H4 285 13 ∧ hV H4 285 13 ≤ 2 := f24.1.2.2.2 285 13 _ _ kW_285_13
  have y0 := g4.1
  have y1 := g4.2.1
  have y2 := g4.2.2.1
  have y3 := g4.2.2.2.1
  have y4 := g4.2.2.2.2.1
  have y5 := g4.2.2.2.2.2.1
  have y6 := g4.2.2.2.2.2.2.1
  have y7 := g4.2.2.2.2.2.2.2.1
  have y8 := g4.2.2.2.2.2.2.2.2.1
  have y9 := g4.2.2.2.2.2.2.2.2.2
  have p0 := g3.1
  have p1 := g3.2.1
  have p2 := g3.2.2.1
  have p3 := g3.2.2.2.1
  have p4 := g3.2.2.2.2
  have r0_0 := f10.2.1
  have r0_1 := f10.2.2.resolve_right (fun z => f11 z.1)
  have r1_0 := f24.2.1
  have r1_1 := f24.2.2.1
  have r1_2 := f24.2.2.2.1
  have r1_3 := f24.2.2.2.2
  try simp only [e12] at y7
  try simp only [e16] at r0_0
  try simp only [e10, e12, e14, e16, e19] at r0_1
  try simp only [e21] at r1_0
  try simp only [e21] at r1_1
  try simp only [e23] at r1_2
  try simp only [e21] at r1_3
  clear g3
  clear g4
  clear f14 f19 f26 f29 f34 e10 e12 e14 e16 e19 e21 e23
  clear f6 f10 f24
  subst e1
  subst e2
  subst e6
  subst e8
  try have wl := wo_leI (w := hV H1 322) (n := hV H1 285 55) (by omega)
  try have wb := WT_bound y2 (by omega)
  try have wl2 := wo_leI (w := hV H1 322) (n := hV H2 285 55) (by omega)
  try have wl3 := wo_leI (w := hV H1 322) (n := hV H3 285 55) (by omega)
  try have wl4 := wo_leI (w := hV H1 322) (n := hV H4 285 55) (by omega)
  try have wl5 := wo_leI (w := hV H1 322) (n := hV H5 285 55) (by omega)
  try have wl6 := wo_leI (w := hV H1 322) (n := hV H6 285 55) (by omega)
  try have wl7 := wo_leI (w := hV H1 322) (n := hV H7 285 55) (by omega)
  try have wl8 := wo_leI (w := hV H1 322) (n := hV H8 285 55) (by omega)
  try have wl9 := wo_leI (w := hV H1 322) (n := hV H9 285 55) (by omega)
  try have wl10 := wo_leI (w := hV H1 322) (n := hV H10 285 55) (by omega)
  first
  | (have ix0 : n10 = hV H1 285 12 + 1 := Eq.trans f21 (w32_iv (Iad (Iat f13 f12) (IC 1)) (by decide)); subst ix0; clear f21)
  | (have ix0 : n10 = hV H1 285 12 + 1 := Eq.trans f21 (w32_id (by omega) (by omega)); subst ix0; clear f21)
  | (unfold w32 at f21; have ix0 : n10 = hV H1 285 12 + 1 := (by omega); subst ix0)
  | skip
  first
  | (have ix1 : n17 = hV H1 285 55 + 1 := Eq.trans f36 (w32_iv (Iad (Iat f28 f27) (IC 1)) (by decide)); subst ix1; clear f36)
  | (have ix1 : n17 = hV H1 285 55 + 1 := Eq.trans f36 (w32_id (by omega) (by omega)); subst ix1; clear f36)
  | (unfold w32 at f36; have ix1 : n17 = hV H1 285 55 + 1 := (by omega); subst ix1)
  | skip
  try unfold w32 at f21
  try unfold w32 at f36
  subst y3
  omega
def g_236_23_7 : vG := ([(1, [17, 15, 16], [], 0), (0, [16], [], 1), (20, [15, 1], [5], 55), (90, [15], [], 0), (91, [15], [], 64), (80, [12, 13, 14], [5, 4], 0), (0, [14], [], 6), (20, [13, 1], [4], 55), (90, [13], [], 0), (91, [13], [], 64), (20, [12, 1], [4], 54), (0, [12], [], 322), (1219, [1], [3, 4], 0), (80, [1, 11, 10], [3, 2], 0), (0, [11], [], 12), (1, [10, 8, 9], [], 0), (0, [9], [], 1), (20, [8, 1], [2], 12), (90, [8], [], 0), (91, [8], [], 7), (41, [6, 7], [], 0), (0, [7], [], 6), (20, [6, 1], [2], 12), (90, [6], [], 0), (91, [6], [], 7), (31, [5], [], 0), (1216, [5, 1, 4], [1, 2], 0), (90, [5], [], 0), (91, [5], [], 1), (0, [4], [], 6), (5000, [0, 1, 2, 3], [0, 1], 23), (0, [0], [], 285), (0, [1], [], 285), (90, [2], [], 0), (91, [2], [], 7), (90, [3], [], -2147483648), (91, [3], [], 2147483647)], (91, [17], [], 64))
theorem c_236_23_7 {q0 : Nat} : vOkm T0 (eP e_236 L_236 A_236 mu_236 (some q0)) 1 g_236_23_7 := vOk_inI fun ρ η f0 f1 f2 f3 f4 f5 f6 f7 f8 f9 f10 f11 f12 f13 f14 f15 f16 f17 f18 f19 f20 f21 f22 f23 f24 f25 f26 f27 f28 f29 f30 f31 f32 f33 f34 f35 f36 => q_236_11 (q0 := q0) (n0 := ρ 3) (n1 := ρ 2) (n2 := ρ 1) (n3 := ρ 0) (n4 := ρ 4) (n5 := ρ 5) (n6 := ρ 6) (n7 := ρ 7) (n8 := ρ 8) (n9 := ρ 9) (n10 := ρ 10) (n11 := ρ 11) (n12 := ρ 12) (n13 := ρ 13) (n14 := ρ 14) (n15 := ρ 15) (n16 := ρ 16) (n17 := ρ 17) (H0 := η 0) (H1 := η 1) (H2 := η 2) (H3 := η 3) (H4 := η 4) (H5 := η 5) f36 f35 f34 f33 f32 f31 f30 f29 f28 f27 f26 f25 f24 f23 f22 f21 f20 f19 f18 f17 f16 f15 f14 f13 f12 f11 f10 f9 f8 f7 f6 f5 f4 f3 f2 f1 f0
set_option maxHeartbeats 20000000 in
theorem kR_219_322 : vFreeR s_219.2.2.2.2 322 = true := by decide +kernel
theorem kF_219_285_12 : vFree s_219.2.2.2.2 285 12 = true := by decide +kernel
theorem q_236_12 {q0 : Nat} {n0 n1 n2 n3 n4 n5 n6 n7 n8 n9 n10 n11 n12 n13 n14 n15 n16 n17 n18 : Int} {H0 H1 H2 H3 H4 H5 H6 : gH} (f0 : n0 ≤ 2147483647) (f1 : (-2147483648) ≤ n0) (f2 : n1 ≤ 7) (f3 : 0 ≤ n1) (f4 : n2 = 285) (f5 : n3 = 285) (f6 : (hLe T0 H0 H1 ∧ hFr s_236.2.2.2.2 H0 H1 ∧ hWt T0 H1) ∧ (Ab_236_23 n3 n2 n1 n0 H0 H1 ∧ preb_236 n3 H0) ∧ some q0 = some (mub_236_23 n3 n2 n1 n0 H0 H1)) (f7 : n4 = 6) (f8 : n5 ≤ 1) (f9 : 0 ≤ n5) (f10 : (hLe T0 H1 H2 ∧ hFr s_216.2.2.2.2 H1 H2 ∧ ((0 : Int) = 0 → H2.length = H1.length) ∧ hWt T0 H2) ∧ postb_216 n5 n2 n4 H1 H2) (f11 : n5 ≠ 0) (f12 : n6 ≤ 7) (f13 : 0 ≤ n6) (f14 : n6 = hV H2 (n2).toNat 12) (f15 : n7 = 6) (f16 : n6 ≠ n7) (f17 : n8 ≤ 7) (f18 : 0 ≤ n8) (f19 : n8 = hV H2 (n2).toNat 12) (f20 : n9 = 1) (f21 : n10 = w32 (n8 + n9)) (f22 : n11 = 12) (f23 : hUpd H3 H2 n2 n11 n10) (f24 : (hLe T0 H3 H4 ∧ hFr s_219.2.2.2.2 H3 H4 ∧ ((0 : Int) = 0 → H4.length = H3.length) ∧ hWt T0 H4) ∧ postb_219 n2 H3 H4) (f25 : n12 = 322) (f26 : n12 = hV H4 (n2).toNat 54) (f27 : n13 ≤ 64) (f28 : 0 ≤ n13) (f29 : n13 = hV H4 (n2).toNat 55) (f30 : n14 = 6) (f31 : hUpd H5 H4 n12 n13 n14) (f32 : n15 ≤ 64) (f33 : 0 ≤ n15) (f34 : n15 = hV H5 (n2).toNat 55) (f35 : n16 = 1) (f36 : n17 = w32 (n15 + n16)) (f37 : n18 = 55) (f38 : hUpd H6 H5 n2 n18 n17) : Ab_236_23 n3 n2 n1 n0 H0 H6 ∧ ∀ q, some q0 = some q → mub_236_23 n3 n2 n1 n0 H0 H6 < q := by
  have g4 := f6.2.1.1
  unfold Ab_236_23 at g4
  have g3 := f6.2.1.2
  unfold preb_236 at g3
  have g5 := Option.some.inj f6.2.2
  unfold mub_236_23 at g5
  unfold postb_216 at f10
  unfold postb_219 at f24
  unfold Ab_236_23
  unfold mub_236_23
  have e1 : n6 = hV H1 285 12 := (by rw [f4] at f14; exact f14 : n6 = hV H2 285 12).trans ((f10.1.2.1.1 285 12 kF_216_285_12))
  have e2 : n8 = hV H1 285 12 := (by rw [f4] at f19; exact f19 : n8 = hV H2 285 12).trans ((f10.1.2.1.1 285 12 kF_216_285_12))
  have e6 : n13 = hV H1 285 55 := (by rw [f4] at f29; exact f29 : n13 = hV H4 285 55).trans (((f24.1.2.1.1 285 55 kF_219_285_55)).trans (((uSlot f23 285 55 (iS (show n11 = ((12 : Nat) : Int) from f22) rfl))).trans (f10.1.2.1.1 285 55 kF_216_285_55)))
  have e8 : n15 = hV H1 285 55 := (by rw [f4] at f34; exact f34 : n15 = hV H5 285 55).trans (((uPlace f31 285 55 (iS (show n12 = ((322 : Nat) : Int) from f25) rfl))).trans (((f24.1.2.1.1 285 55 kF_219_285_55)).trans (((uSlot f23 285 55 (iS (show n11 = ((12 : Nat) : Int) from f22) rfl))).trans (f10.1.2.1.1 285 55 kF_216_285_55))))
  have e10 : hV H1 285 34 = hV H0 285 34 := (f6.1.2.1.1 285 34 kF_236_285_34)
  have e12 : hV H1 285 35 = hV H0 285 35 := (f6.1.2.1.1 285 35 kF_236_285_35)
  have e14 : hV H2 285 11 = hV H1 285 11 := (f10.1.2.1.1 285 11 kF_216_285_11)
  have e16 : hV H2 285 13 = hV H1 285 13 := (f10.1.2.1.1 285 13 kF_216_285_13)
  have e19 : hV H2 288 = hV H0 288 := (fRow f10.1.2.1 288 kR_216_288).trans (fRow f6.1.2.1 288 kR_236_288)
  have e21 : hV H3 285 11 = hV H1 285 11 := ((uSlot f23 285 11 (iS (show n11 = ((12 : Nat) : Int) from f22) rfl))).trans (f10.1.2.1.1 285 11 kF_216_285_11)
  have e23 : hV H3 285 13 = hV H1 285 13 := ((uSlot f23 285 13 (iS (show n11 = ((12 : Nat) : Int) from f22) rfl))).trans (f10.1.2.1.1 285 13 kF_216_285_13)
  have e26 : hV H6 285 11 = hV H4 285 11 := ((uSlot f38 285 11 (iS (show n18 = ((55 : Nat) : Int) from f37) rfl))).trans (uPlace f31 285 11 (iS (show n12 = ((322 : Nat) : Int) from f25) rfl))
  have e31 : hV H6 285 12 = n10 := ((uSlot f38 285 12 (iS (show n18 = ((55 : Nat) : Int) from f37) rfl))).trans (((uPlace f31 285 12 (iS (show n12 = ((322 : Nat) : Int) from f25) rfl))).trans (((f24.1.2.1.1 285 12 kF_219_285_12)).trans (uSame f23 285 12 f4.symm f22.symm)))
  have e34 : hV H6 285 13 = hV H4 285 13 := ((uSlot f38 285 13 (iS (show n18 = ((55 : Nat) : Int) from f37) rfl))).trans (uPlace f31 285 13 (iS (show n12 = ((322 : Nat) : Int) from f25) rfl))
  have e40 : hV H6 285 35 = hV H0 285 35 := ((uSlot f38 285 35 (iS (show n18 = ((55 : Nat) : Int) from f37) rfl))).trans (((uPlace f31 285 35 (iS (show n12 = ((322 : Nat) : Int) from f25) rfl))).trans (((f24.1.2.1.1 285 35 kF_219_285_35)).trans (((uSlot f23 285 35 (iS (show n11 = ((12 : Nat) : Int) from f22) rfl))).trans (((f10.1.2.1.1 285 35 kF_216_285_35)).trans (f6.1.2.1.1 285 35 kF_236_285_35)))))
  have e46 : hV H6 285 51 = hV H1 285 51 := ((uSlot f38 285 51 (iS (show n18 = ((55 : Nat) : Int) from f37) rfl))).trans (((uPlace f31 285 51 (iS (show n12 = ((322 : Nat) : Int) from f25) rfl))).trans (((f24.1.2.1.1 285 51 kF_219_285_51)).trans (((uSlot f23 285 51 (iS (show n11 = ((12 : Nat) : Int) from f22) rfl))).trans (f10.1.2.1.1 285 51 kF_216_285_51))))
  have e48 : hV H6 285 55 = n17 := (uSame f38 285 55 f4.symm f37.symm)
  have e57 : hV H6 320 = hV H1 320 := (uRowNe f38 320 (iS (show n2 = ((285 : Nat) : Int) from f4) rfl)).trans ((uRowNe f31 320 (iS (show n12 = ((322 : Nat) : Int) from f25) rfl)).trans ((fRow f24.1.2.1 320 kR_219_320).trans ((uRowNe f23 320 (iS (show n2 = ((285 : Nat) : Int) from f4) rfl)).trans (fRow f10.1.2.1 320 kR_216_320))))
  have e66 : hV H6 321 = hV H1 321 := (uRowNe f38 321 (iS (show n2 = ((285 : Nat) : Int) from f4) rfl)).trans ((uRowNe f31 321 (iS (show n12 = ((322 : Nat) : Int) from f25) rfl)).trans ((fRow f24.1.2.1 321 kR_219_321).trans ((uRowNe f23 321 (iS (show n2 = ((285 : Nat) : Int) from f4) rfl)).trans (fRow f10.1.2.1 321 kR_216_321))))
  have e75 : hV H6 322 = (uF (hV H1 322) n13 n14) := (uRowNe f38 322 (iS (show n2 = ((285 : Nat) : Int) from f4) rfl)).trans ((uRow f31 322 f25.symm).trans (congrArg (fun z => uF z n13 n14) ((fRow f24.1.2.1 322 kR_219_322).trans ((uRowNe f23 322 (iS (show n2 = ((285 : Nat) : Int) from f4) rfl)).trans (fRow f10.1.2.1 322 kR_216_322)))))
  have e76 : RR H2 = RR H1 := RR_fr f10.1.2.1 (by decide +kernel)
  have e77 : RR H3 = RR H2 := RR_upF f23 f4 (show n11 = ((12 : Nat) : Int) from f22) (by decide)
  have e78 : RR H3 = RR H1 := e77.trans e76
  have e79 : RR H4 = RR H3 := RR_fr f24.1.2.1 (by decide +kernel)
  have e80 : RR H4 = RR H1 := e79.trans e78
  have e81 : RR H5 = RR H4 := RR_upR f31 (show n12 = ((322 : Nat) : Int) from f25) (by decide)
  have e82 : RR H5 = RR H1 := e81.trans e80
  have e83 : RR H6 = RR H5 := RR_upF f38 f4 (show n18 = ((55 : Nat) : Int) from f37) (by decide)
  have e84 : RR H6 = RR H1 := e83.trans e82
  have e85 : (0 : Int) ≤ hV H1 285 11 ∧ hV H1 285 11 ≤ 500 := f6.1.2.2 285 11 _ _ kW_285_11
  have e86 : (0 : Int) ≤ hV H1 285 12 ∧ hV H1 285 12 ≤ 7 := f6.1.2.2 285 12 _ _ kW_285_12
  have e87 : (0 : Int) ≤ hV H1 285 13 ∧ hV H1 285 13 ≤ 2 := f6.1.2.2 285 13 _ _ kW_285_13
  have e88 : (0 : Int) ≤ hV H0 285 34 ∧ hV H0 285 34 ≤ 1 := bTo e10 (f6.1.2.2 285 34 _ _ kW_285_34)
  have e89 : (0 : Int) ≤ hV H0 285 35 ∧ hV H0 285 35 ≤ 1 := bTo e12 (f6.1.2.2 285 35 _ _ kW_285_35)
  have e90 : (0 : Int) ≤ hV H1 285 51 ∧ hV H1 285 51 ≤ 1200 := f6.1.2.2 285 51 _ _ kW_285_51
  have e91 : (0 : Int) ≤ hV H1 285 55 ∧ hV H1 285 55 ≤ 64 := f6.1.2.2 285 55 _ _ kW_285_55
  have e94 : (0 : Int) ≤ hV H4 285 11 ∧ hV H4 285 11 ≤ 500 := f24.1.2.2.2 285 11 _ _ kW_285_11
  have e95 : (0 : Int) ≤ hV H4 285 13 ∧ hV H4 285 13 ≤ 2 := f24.1.2.2.2 285 13 _ _ kW_285_13
  try simp only [e26, e31, e34, e40, e46, e48, e57, e66, e75, e84]
  have y0 := g4.1
  have y1 := g4.2.1
  have y2 := g4.2.2.1
  have y3 := g4.2.2.2.1
  have y4 := g4.2.2.2.2.1
  have y5 := g4.2.2.2.2.2.1
  have y6 := g4.2.2.2.2.2.2.1
  have y7 := g4.2.2.2.2.2.2.2.1
  have y8 := g4.2.2.2.2.2.2.2.2.1
  have y9 := g4.2.2.2.2.2.2.2.2.2
  have p0 := g3.1
  have p1 := g3.2.1
  have p2 := g3.2.2.1
  have p3 := g3.2.2.2.1
  have p4 := g3.2.2.2.2
  have r0_0 := f10.2.1
  have r0_1 := f10.2.2.resolve_right (fun z => f11 z.1)
  have r1_0 := f24.2.1
  have r1_1 := f24.2.2.1
  have r1_2 := f24.2.2.2.1
  have r1_3 := f24.2.2.2.2
  try simp only [e12] at y7
  try simp only [e16] at r0_0
  try simp only [e10, e12, e14, e16, e19] at r0_1
  try simp only [e21] at r1_0
  try simp only [e21] at r1_1
  try simp only [e23] at r1_2
  try simp only [e21] at r1_3
  clear g3
  clear g4
  clear f14 f19 f26 f29 f34 e10 e12 e14 e16 e19 e21 e23 e26 e34 e40 e46 e57 e66 e75 e76 e77 e78 e79 e80 e81 e82 e83 e84
  clear f6 f10 f24
  subst e1
  subst e2
  subst e6
  subst e8
  try have wl := wo_leI (w := hV H1 322) (n := hV H1 285 55) (by omega)
  try have wb := WT_bound y2 (by omega)
  try have wl2 := wo_leI (w := hV H1 322) (n := hV H2 285 55) (by omega)
  try have wl3 := wo_leI (w := hV H1 322) (n := hV H3 285 55) (by omega)
  try have wl4 := wo_leI (w := hV H1 322) (n := hV H4 285 55) (by omega)
  try have wl5 := wo_leI (w := hV H1 322) (n := hV H5 285 55) (by omega)
  try have wl6 := wo_leI (w := hV H1 322) (n := hV H6 285 55) (by omega)
  try have wl7 := wo_leI (w := hV H1 322) (n := hV H7 285 55) (by omega)
  try have wl8 := wo_leI (w := hV H1 322) (n := hV H8 285 55) (by omega)
  try have wl9 := wo_leI (w := hV H1 322) (n := hV H9 285 55) (by omega)
  try have wl10 := wo_leI (w := hV H1 322) (n := hV H10 285 55) (by omega)
  first
  | (have ix0 : n10 = hV H1 285 12 + 1 := Eq.trans f21 (w32_iv (Iad (Iat f13 f12) (IC 1)) (by decide)); subst ix0; clear f21)
  | (have ix0 : n10 = hV H1 285 12 + 1 := Eq.trans f21 (w32_id (by omega) (by omega)); subst ix0; clear f21)
  | (unfold w32 at f21; have ix0 : n10 = hV H1 285 12 + 1 := (by omega); subst ix0)
  | skip
  first
  | (have ix1 : n17 = hV H1 285 55 + 1 := Eq.trans f36 (w32_iv (Iad (Iat f28 f27) (IC 1)) (by decide)); subst ix1; clear f36)
  | (have ix1 : n17 = hV H1 285 55 + 1 := Eq.trans f36 (w32_id (by omega) (by omega)); subst ix1; clear f36)
  | (unfold w32 at f36; have ix1 : n17 = hV H1 285 55 + 1 := (by omega); subst ix1)
  | skip
  try unfold w32 at f21
  try unfold w32 at f36

  refine ⟨⟨?_, ?_, ?_, ?_, ?_, ?_, ?_, ?_, ?_⟩, fun q hq => ?_⟩
  · exact y0
  · intro z
    exact CO_d (y1 (by omega)) (by first | omega | (rw [wo_push] <;> omega))
  · exact WT_push y2 (by omega) (by omega) (by omega) (.inl (by omega))
  · first | omega | (rw [wo_push] <;> omega)
  · first | omega | (rw [wo_push] <;> omega)
  · first | omega | (rw [wo_push] <;> omega)
  · first | omega | (rw [wo_push] <;> omega)
  · first | omega | (rw [wo_push] <;> omega)
  · first | omega | (rw [wo_push] <;> omega)
  · have g6 := Option.some.inj hq
    subst g6
    omega
def g_236_23_8 : vG := ([(80, [1, 18, 17], [6, 5], 0), (0, [18], [], 55), (1, [17, 15, 16], [], 0), (0, [16], [], 1), (20, [15, 1], [5], 55), (90, [15], [], 0), (91, [15], [], 64), (80, [12, 13, 14], [5, 4], 0), (0, [14], [], 6), (20, [13, 1], [4], 55), (90, [13], [], 0), (91, [13], [], 64), (20, [12, 1], [4], 54), (0, [12], [], 322), (1219, [1], [3, 4], 0), (80, [1, 11, 10], [3, 2], 0), (0, [11], [], 12), (1, [10, 8, 9], [], 0), (0, [9], [], 1), (20, [8, 1], [2], 12), (90, [8], [], 0), (91, [8], [], 7), (41, [6, 7], [], 0), (0, [7], [], 6), (20, [6, 1], [2], 12), (90, [6], [], 0), (91, [6], [], 7), (31, [5], [], 0), (1216, [5, 1, 4], [1, 2], 0), (90, [5], [], 0), (91, [5], [], 1), (0, [4], [], 6), (5000, [0, 1, 2, 3], [0, 1], 23), (0, [0], [], 285), (0, [1], [], 285), (90, [2], [], 0), (91, [2], [], 7), (90, [3], [], -2147483648), (91, [3], [], 2147483647)], (4000, [1, 2, 3], [6], 23))
theorem c_236_23_8 {q0 : Nat} : vOkm T0 (eP e_236 L_236 A_236 mu_236 (some q0)) 1 g_236_23_8 := vOk_inI fun ρ η f0 f1 f2 f3 f4 f5 f6 f7 f8 f9 f10 f11 f12 f13 f14 f15 f16 f17 f18 f19 f20 f21 f22 f23 f24 f25 f26 f27 f28 f29 f30 f31 f32 f33 f34 f35 f36 f37 f38 => q_236_12 (q0 := q0) (n0 := ρ 3) (n1 := ρ 2) (n2 := ρ 1) (n3 := ρ 0) (n4 := ρ 4) (n5 := ρ 5) (n6 := ρ 6) (n7 := ρ 7) (n8 := ρ 8) (n9 := ρ 9) (n10 := ρ 10) (n11 := ρ 11) (n12 := ρ 12) (n13 := ρ 13) (n14 := ρ 14) (n15 := ρ 15) (n16 := ρ 16) (n17 := ρ 17) (n18 := ρ 18) (H0 := η 0) (H1 := η 1) (H2 := η 2) (H3 := η 3) (H4 := η 4) (H5 := η 5) (H6 := η 6) f38 f37 f36 f35 f34 f33 f32 f31 f30 f29 f28 f27 f26 f25 f24 f23 f22 f21 f20 f19 f18 f17 f16 f15 f14 f13 f12 f11 f10 f9 f8 f7 f6 f5 f4 f3 f2 f1 f0
def g_236_23_9 : vG := ([(1, [11, 9, 10], [], 0), (0, [10], [], 1), (90, [9], [], 0), (91, [9], [], 7)], (90, [11], [], 0))
theorem c_236_23_9 {q0 : Nat} : vOkm T0 (eP e_236 L_236 A_236 mu_236 (some q0)) 1 g_236_23_9 := vOk_inI fun ρ η f0 f1 f2 f3 => q_236_7 (q0 := q0) (n0 := ρ 9) (n1 := ρ 10) (n2 := ρ 11) (H0 := η 0) f3 f2 f1 f0
set_option maxHeartbeats 20000000 in
theorem kF_217_285_12 : vFree s_217.2.2.2.2 285 12 = true := by decide +kernel
theorem q_236_13 {q0 : Nat} {n0 n1 n2 n3 n4 n5 n6 : Int} {H0 H1 H2 : gH} (f0 : n0 = 285) (f1 : n1 = hV H1 (n0).toNat 12) (f2 : n2 = 6) (f3 : n1 = n2) (f4 : n3 = 2) (f5 : (hLe T0 H1 H2 ∧ hFr s_217.2.2.2.2 H1 H2 ∧ ((0 : Int) = 0 → H2.length = H1.length) ∧ hWt T0 H2) ∧ postb_217 n0 n3 H1 H2) (f6 : n4 = hV H2 (n0).toNat 12) (f7 : n5 = 1) (f8 : n6 = w32 (n4 + n5)) : n6 ≤ 7 := by
  unfold postb_217 at f5
  have e0 : n1 = hV H1 285 12 := (by rw [f0] at f1; exact f1 : n1 = hV H1 285 12)
  have e2 : n4 = hV H1 285 12 := (by rw [f0] at f6; exact f6 : n4 = hV H2 285 12).trans ((f5.1.2.1.1 285 12 kF_217_285_12))
  have e3 : (0 : Int) ≤ hV H2 285 13 ∧ hV H2 285 13 ≤ 2 := f5.1.2.2.2 285 13 _ _ kW_285_13
  have r0_0 := f5.2.1
  have r0_1 := f5.2.2
  clear f1 f6
  clear f5
  subst e0
  subst e2
  first
  | (have ix0 : n6 = hV H1 285 12 + 1 := Eq.trans f8 (w32_id (by omega) (by omega)); subst ix0; clear f8)
  | (unfold w32 at f8; have ix0 : n6 = hV H1 285 12 + 1 := (by omega); subst ix0)
  | skip
  try unfold w32 at f8
  omega
def g_236_23_10 : vG := ([(1, [11, 9, 10], [], 0), (0, [10], [], 1), (20, [9, 1], [3], 12), (1217, [1, 8], [2, 3], 0), (0, [8], [], 2), (40, [6, 7], [], 0), (0, [7], [], 6), (20, [6, 1], [2], 12), (0, [1], [], 285)], (91, [11], [], 7))
theorem c_236_23_10 {q0 : Nat} : vOkm T0 (eP e_236 L_236 A_236 mu_236 (some q0)) 1 g_236_23_10 := vOk_inI fun ρ η f0 f1 f2 f3 f4 f5 f6 f7 f8 => q_236_13 (q0 := q0) (n0 := ρ 1) (n1 := ρ 6) (n2 := ρ 7) (n3 := ρ 8) (n4 := ρ 9) (n5 := ρ 10) (n6 := ρ 11) (H0 := η 0) (H1 := η 2) (H2 := η 3) f8 f7 f6 f5 f4 f3 f2 f1 f0
set_option maxHeartbeats 20000000 in
theorem kF_217_285_55 : vFree s_217.2.2.2.2 285 55 = true := by decide +kernel
theorem q_236_14 {q0 : Nat} {n0 n1 n2 n3 n4 n5 n6 n7 n8 n9 n10 n11 n12 n13 : Int} {H0 H1 H2 H3 H4 H5 : gH} (f0 : n0 ≤ 2147483647) (f1 : (-2147483648) ≤ n0) (f2 : n1 ≤ 7) (f3 : 0 ≤ n1) (f4 : n2 = 285) (f5 : n3 = 285) (f6 : (hLe T0 H0 H1 ∧ hFr s_236.2.2.2.2 H0 H1 ∧ hWt T0 H1) ∧ (Ab_236_23 n3 n2 n1 n0 H0 H1 ∧ preb_236 n3 H0) ∧ some q0 = some (mub_236_23 n3 n2 n1 n0 H0 H1)) (f7 : n4 = 6) (f8 : n5 ≤ 1) (f9 : 0 ≤ n5) (f10 : (hLe T0 H1 H2 ∧ hFr s_216.2.2.2.2 H1 H2 ∧ ((0 : Int) = 0 → H2.length = H1.length) ∧ hWt T0 H2) ∧ postb_216 n5 n2 n4 H1 H2) (f11 : n5 ≠ 0) (f12 : n6 ≤ 7) (f13 : 0 ≤ n6) (f14 : n6 = hV H2 (n2).toNat 12) (f15 : n7 = 6) (f16 : n6 = n7) (f17 : n8 = 2) (f18 : (hLe T0 H2 H3 ∧ hFr s_217.2.2.2.2 H2 H3 ∧ ((0 : Int) = 0 → H3.length = H2.length) ∧ hWt T0 H3) ∧ postb_217 n2 n8 H2 H3) (f19 : n9 ≤ 7) (f20 : 0 ≤ n9) (f21 : n9 = hV H3 (n2).toNat 12) (f22 : n10 = 1) (f23 : n11 = w32 (n9 + n10)) (f24 : n12 = 12) (f25 : hUpd H4 H3 n2 n12 n11) (f26 : (hLe T0 H4 H5 ∧ hFr s_219.2.2.2.2 H4 H5 ∧ ((0 : Int) = 0 → H5.length = H4.length) ∧ hWt T0 H5) ∧ postb_219 n2 H4 H5) (f27 : n13 ≤ 64) (f28 : 0 ≤ n13) (f29 : n13 = hV H5 (n2).toNat 55) : 0 ≤ n13 ∧ n13 < 64 := by
  have g4 := f6.2.1.1
  unfold Ab_236_23 at g4
  have g3 := f6.2.1.2
  unfold preb_236 at g3
  unfold postb_216 at f10
  unfold postb_217 at f18
  unfold postb_219 at f26
  have e1 : n6 = hV H1 285 12 := (by rw [f4] at f14; exact f14 : n6 = hV H2 285 12).trans ((f10.1.2.1.1 285 12 kF_216_285_12))
  have e3 : n9 = hV H1 285 12 := (by rw [f4] at f21; exact f21 : n9 = hV H3 285 12).trans (((f18.1.2.1.1 285 12 kF_217_285_12)).trans (f10.1.2.1.1 285 12 kF_216_285_12))
  have e8 : n13 = hV H1 285 55 := (by rw [f4] at f29; exact f29 : n13 = hV H5 285 55).trans (((f26.1.2.1.1 285 55 kF_219_285_55)).trans (((uSlot f25 285 55 (iS (show n12 = ((12 : Nat) : Int) from f24) rfl))).trans (((f18.1.2.1.1 285 55 kF_217_285_55)).trans (f10.1.2.1.1 285 55 kF_216_285_55))))
  have e10 : hV H1 285 34 = hV H0 285 34 := (f6.1.2.1.1 285 34 kF_236_285_34)
  have e12 : hV H1 285 35 = hV H0 285 35 := (f6.1.2.1.1 285 35 kF_236_285_35)
  have e14 : hV H2 285 11 = hV H1 285 11 := (f10.1.2.1.1 285 11 kF_216_285_11)
  have e16 : hV H2 285 13 = hV H1 285 13 := (f10.1.2.1.1 285 13 kF_216_285_13)
  have e19 : hV H2 288 = hV H0 288 := (fRow f10.1.2.1 288 kR_216_288).trans (fRow f6.1.2.1 288 kR_236_288)
  have e22 : hV H4 285 11 = hV H1 285 11 := ((uSlot f25 285 11 (iS (show n12 = ((12 : Nat) : Int) from f24) rfl))).trans (((f18.1.2.1.1 285 11 kF_217_285_11)).trans (f10.1.2.1.1 285 11 kF_216_285_11))
  have e24 : hV H4 285 13 = hV H3 285 13 := (uSlot f25 285 13 (iS (show n12 = ((12 : Nat) : Int) from f24) rfl))
  have e25 : (0 : Int) ≤ hV H1 285 11 ∧ hV H1 285 11 ≤ 500 := f6.1.2.2 285 11 _ _ kW_285_11
  have e26 : (0 : Int) ≤ hV H1 285 12 ∧ hV H1 285 12 ≤ 7 := f6.1.2.2 285 12 _ _ kW_285_12
  have e27 : (0 : Int) ≤ hV H1 285 13 ∧ hV H1 285 13 ≤ 2 := f6.1.2.2 285 13 _ _ kW_285_13
  have e28 : (0 : Int) ≤ hV H0 285 34 ∧ hV H0 285 34 ≤ 1 := bTo e10 (f6.1.2.2 285 34 _ _ kW_285_34)
  have e29 : (0 : Int) ≤ hV H0 285 35 ∧ hV H0 285 35 ≤ 1 := bTo e12 (f6.1.2.2 285 35 _ _ kW_285_35)
  have e30 : (0 : Int) ≤ hV H1 285 51 ∧ hV H1 285 51 ≤ 1200 := f6.1.2.2 285 51 _ _ kW_285_51
  have e31 : (0 : Int) ≤ hV H1 285 55 ∧ hV H1 285 55 ≤ 64 := f6.1.2.2 285 55 _ _ kW_285_55
  have e34 : (0 : Int) ≤ hV H3 285 13 ∧ hV H3 285 13 ≤ 2 := f18.1.2.2.2 285 13 _ _ kW_285_13
  have e35 : (0 : Int) ≤ hV H5 285 11 ∧ hV H5 285 11 ≤ 500 := f26.1.2.2.2 285 11 _ _ kW_285_11
  have e36 : (0 : Int) ≤ hV H5 285 13 ∧ hV H5 285 13 ≤ 2 := f26.1.2.2.2 285 13 _ _ kW_285_13
  have y0 := g4.1
  have y1 := g4.2.1
  have y2 := g4.2.2.1
  have y3 := g4.2.2.2.1
  have y4 := g4.2.2.2.2.1
  have y5 := g4.2.2.2.2.2.1
  have y6 := g4.2.2.2.2.2.2.1
  have y7 := g4.2.2.2.2.2.2.2.1
  have y8 := g4.2.2.2.2.2.2.2.2.1
  have y9 := g4.2.2.2.2.2.2.2.2.2
  have p0 := g3.1
  have p1 := g3.2.1
  have p2 := g3.2.2.1
  have p3 := g3.2.2.2.1
  have p4 := g3.2.2.2.2
  have r0_0 := f10.2.1
  have r0_1 := f10.2.2.resolve_right (fun z => f11 z.1)
  have r1_0 := f18.2.1
  have r1_1 := f18.2.2
  have r2_0 := f26.2.1
  have r2_1 := f26.2.2.1
  have r2_2 := f26.2.2.2.1
  have r2_3 := f26.2.2.2.2
  try simp only [e12] at y7
  try simp only [e16] at r0_0
  try simp only [e10, e12, e14, e16, e19] at r0_1
  try simp only [e16] at r1_0
  try simp only [e22] at r2_0
  try simp only [e22] at r2_1
  try simp only [e24] at r2_2
  try simp only [e22] at r2_3
  clear g3
  clear g4
  clear f14 f21 f29 e10 e12 e14 e16 e19 e22 e24
  clear f6 f10 f18 f26
  subst e1
  subst e3
  subst e8
  try have wl := wo_leI (w := hV H1 322) (n := hV H1 285 55) (by omega)
  try have wb := WT_bound y2 (by omega)
  try have wl2 := wo_leI (w := hV H1 322) (n := hV H2 285 55) (by omega)
  try have wl3 := wo_leI (w := hV H1 322) (n := hV H3 285 55) (by omega)
  try have wl4 := wo_leI (w := hV H1 322) (n := hV H4 285 55) (by omega)
  try have wl5 := wo_leI (w := hV H1 322) (n := hV H5 285 55) (by omega)
  try have wl6 := wo_leI (w := hV H1 322) (n := hV H6 285 55) (by omega)
  try have wl7 := wo_leI (w := hV H1 322) (n := hV H7 285 55) (by omega)
  try have wl8 := wo_leI (w := hV H1 322) (n := hV H8 285 55) (by omega)
  try have wl9 := wo_leI (w := hV H1 322) (n := hV H9 285 55) (by omega)
  try have wl10 := wo_leI (w := hV H1 322) (n := hV H10 285 55) (by omega)
  first
  | (have ix0 : n11 = hV H1 285 12 + 1 := Eq.trans f23 (w32_iv (Iad (Iat f13 f12) (IC 1)) (by decide)); subst ix0; clear f23)
  | (have ix0 : n11 = hV H1 285 12 + 1 := Eq.trans f23 (w32_id (by omega) (by omega)); subst ix0; clear f23)
  | (unfold w32 at f23; have ix0 : n11 = hV H1 285 12 + 1 := (by omega); subst ix0)
  | skip
  try unfold w32 at f23
  subst y3
  omega
def g_236_23_11 : vG := ([(20, [14, 1], [5], 55), (90, [14], [], 0), (91, [14], [], 64), (1219, [1], [4, 5], 0), (80, [1, 12, 11], [4, 3], 0), (0, [12], [], 12), (1, [11, 9, 10], [], 0), (0, [10], [], 1), (20, [9, 1], [3], 12), (90, [9], [], 0), (91, [9], [], 7), (1217, [1, 8], [2, 3], 0), (0, [8], [], 2), (40, [6, 7], [], 0), (0, [7], [], 6), (20, [6, 1], [2], 12), (90, [6], [], 0), (91, [6], [], 7), (31, [5], [], 0), (1216, [5, 1, 4], [1, 2], 0), (90, [5], [], 0), (91, [5], [], 1), (0, [4], [], 6), (5000, [0, 1, 2, 3], [0, 1], 23), (0, [0], [], 285), (0, [1], [], 285), (90, [2], [], 0), (91, [2], [], 7), (90, [3], [], -2147483648), (91, [3], [], 2147483647)], (70, [14], [], 64))
theorem c_236_23_11 {q0 : Nat} : vOkm T0 (eP e_236 L_236 A_236 mu_236 (some q0)) 1 g_236_23_11 := vOk_inI fun ρ η f0 f1 f2 f3 f4 f5 f6 f7 f8 f9 f10 f11 f12 f13 f14 f15 f16 f17 f18 f19 f20 f21 f22 f23 f24 f25 f26 f27 f28 f29 => q_236_14 (q0 := q0) (n0 := ρ 3) (n1 := ρ 2) (n2 := ρ 1) (n3 := ρ 0) (n4 := ρ 4) (n5 := ρ 5) (n6 := ρ 6) (n7 := ρ 7) (n8 := ρ 8) (n9 := ρ 9) (n10 := ρ 10) (n11 := ρ 11) (n12 := ρ 12) (n13 := ρ 14) (H0 := η 0) (H1 := η 1) (H2 := η 2) (H3 := η 3) (H4 := η 4) (H5 := η 5) f29 f28 f27 f26 f25 f24 f23 f22 f21 f20 f19 f18 f17 f16 f15 f14 f13 f12 f11 f10 f9 f8 f7 f6 f5 f4 f3 f2 f1 f0
def g_236_23_12 : vG := ([(1, [18, 16, 17], [], 0), (0, [17], [], 1), (90, [16], [], 0), (91, [16], [], 64)], (90, [18], [], 0))
theorem c_236_23_12 {q0 : Nat} : vOkm T0 (eP e_236 L_236 A_236 mu_236 (some q0)) 1 g_236_23_12 := vOk_inI fun ρ η f0 f1 f2 f3 => q_236_10 (q0 := q0) (n0 := ρ 16) (n1 := ρ 17) (n2 := ρ 18) (H0 := η 0) f3 f2 f1 f0
set_option maxHeartbeats 20000000 in
theorem q_236_15 {q0 : Nat} {n0 n1 n2 n3 n4 n5 n6 n7 n8 n9 n10 n11 n12 n13 n14 n15 n16 n17 n18 : Int} {H0 H1 H2 H3 H4 H5 H6 : gH} (f0 : n0 ≤ 2147483647) (f1 : (-2147483648) ≤ n0) (f2 : n1 ≤ 7) (f3 : 0 ≤ n1) (f4 : n2 = 285) (f5 : n3 = 285) (f6 : (hLe T0 H0 H1 ∧ hFr s_236.2.2.2.2 H0 H1 ∧ hWt T0 H1) ∧ (Ab_236_23 n3 n2 n1 n0 H0 H1 ∧ preb_236 n3 H0) ∧ some q0 = some (mub_236_23 n3 n2 n1 n0 H0 H1)) (f7 : n4 = 6) (f8 : n5 ≤ 1) (f9 : 0 ≤ n5) (f10 : (hLe T0 H1 H2 ∧ hFr s_216.2.2.2.2 H1 H2 ∧ ((0 : Int) = 0 → H2.length = H1.length) ∧ hWt T0 H2) ∧ postb_216 n5 n2 n4 H1 H2) (f11 : n5 ≠ 0) (f12 : n6 ≤ 7) (f13 : 0 ≤ n6) (f14 : n6 = hV H2 (n2).toNat 12) (f15 : n7 = 6) (f16 : n6 = n7) (f17 : n8 = 2) (f18 : (hLe T0 H2 H3 ∧ hFr s_217.2.2.2.2 H2 H3 ∧ ((0 : Int) = 0 → H3.length = H2.length) ∧ hWt T0 H3) ∧ postb_217 n2 n8 H2 H3) (f19 : n9 ≤ 7) (f20 : 0 ≤ n9) (f21 : n9 = hV H3 (n2).toNat 12) (f22 : n10 = 1) (f23 : n11 = w32 (n9 + n10)) (f24 : n12 = 12) (f25 : hUpd H4 H3 n2 n12 n11) (f26 : (hLe T0 H4 H5 ∧ hFr s_219.2.2.2.2 H4 H5 ∧ ((0 : Int) = 0 → H5.length = H4.length) ∧ hWt T0 H5) ∧ postb_219 n2 H4 H5) (f27 : n13 = 322) (f28 : n13 = hV H5 (n2).toNat 54) (f29 : n14 ≤ 64) (f30 : 0 ≤ n14) (f31 : n14 = hV H5 (n2).toNat 55) (f32 : n15 = 6) (f33 : hUpd H6 H5 n13 n14 n15) (f34 : n16 ≤ 64) (f35 : 0 ≤ n16) (f36 : n16 = hV H6 (n2).toNat 55) (f37 : n17 = 1) (f38 : n18 = w32 (n16 + n17)) : n18 ≤ 64 := by
  have g4 := f6.2.1.1
  unfold Ab_236_23 at g4
  have g3 := f6.2.1.2
  unfold preb_236 at g3
  unfold postb_216 at f10
  unfold postb_217 at f18
  unfold postb_219 at f26
  have e1 : n6 = hV H1 285 12 := (by rw [f4] at f14; exact f14 : n6 = hV H2 285 12).trans ((f10.1.2.1.1 285 12 kF_216_285_12))
  have e3 : n9 = hV H1 285 12 := (by rw [f4] at f21; exact f21 : n9 = hV H3 285 12).trans (((f18.1.2.1.1 285 12 kF_217_285_12)).trans (f10.1.2.1.1 285 12 kF_216_285_12))
  have e8 : n14 = hV H1 285 55 := (by rw [f4] at f31; exact f31 : n14 = hV H5 285 55).trans (((f26.1.2.1.1 285 55 kF_219_285_55)).trans (((uSlot f25 285 55 (iS (show n12 = ((12 : Nat) : Int) from f24) rfl))).trans (((f18.1.2.1.1 285 55 kF_217_285_55)).trans (f10.1.2.1.1 285 55 kF_216_285_55))))
  have e10 : n16 = hV H1 285 55 := (by rw [f4] at f36; exact f36 : n16 = hV H6 285 55).trans (((uPlace f33 285 55 (iS (show n13 = ((322 : Nat) : Int) from f27) rfl))).trans (((f26.1.2.1.1 285 55 kF_219_285_55)).trans (((uSlot f25 285 55 (iS (show n12 = ((12 : Nat) : Int) from f24) rfl))).trans (((f18.1.2.1.1 285 55 kF_217_285_55)).trans (f10.1.2.1.1 285 55 kF_216_285_55)))))
  have e12 : hV H1 285 34 = hV H0 285 34 := (f6.1.2.1.1 285 34 kF_236_285_34)
  have e14 : hV H1 285 35 = hV H0 285 35 := (f6.1.2.1.1 285 35 kF_236_285_35)
  have e16 : hV H2 285 11 = hV H1 285 11 := (f10.1.2.1.1 285 11 kF_216_285_11)
  have e18 : hV H2 285 13 = hV H1 285 13 := (f10.1.2.1.1 285 13 kF_216_285_13)
  have e21 : hV H2 288 = hV H0 288 := (fRow f10.1.2.1 288 kR_216_288).trans (fRow f6.1.2.1 288 kR_236_288)
  have e24 : hV H4 285 11 = hV H1 285 11 := ((uSlot f25 285 11 (iS (show n12 = ((12 : Nat) : Int) from f24) rfl))).trans (((f18.1.2.1.1 285 11 kF_217_285_11)).trans (f10.1.2.1.1 285 11 kF_216_285_11))
  have e26 : hV H4 285 13 = hV H3 285 13 := (uSlot f25 285 13 (iS (show n12 = ((12 : Nat) : Int) from f24) rfl))
  have e27 : (0 : Int) ≤ hV H1 285 11 ∧ hV H1 285 11 ≤ 500 := f6.1.2.2 285 11 _ _ kW_285_11
  have e28 : (0 : Int) ≤ hV H1 285 12 ∧ hV H1 285 12 ≤ 7 := f6.1.2.2 285 12 _ _ kW_285_12
  have e29 : (0 : Int) ≤ hV H1 285 13 ∧ hV H1 285 13 ≤ 2 := f6.1.2.2 285 13 _ _ kW_285_13
  have e30 : (0 : Int) ≤ hV H0 285 34 ∧ hV H0 285 34 ≤ 1 := bTo e12 (f6.1.2.2 285 34 _ _ kW_285_34)
  have e31 : (0 : Int) ≤ hV H0 285 35 ∧ hV H0 285 35 ≤ 1 := bTo e14 (f6.1.2.2 285 35 _ _ kW_285_35)
  have e32 : (0 : Int) ≤ hV H1 285 51 ∧ hV H1 285 51 ≤ 1200 := f6.1.2.2 285 51 _ _ kW_285_51
  have e33 : (0 : Int) ≤ hV H1 285 55 ∧ hV H1 285 55 ≤ 64 := f6.1.2.2 285 55 _ _ kW_285_55
  have e36 : (0 : Int) ≤ hV H3 285 13 ∧ hV H3 285 13 ≤ 2 := f18.1.2.2.2 285 13 _ _ kW_285_13
  have e37 : (0 : Int) ≤ hV H5 285 11 ∧ hV H5 285 11 ≤ 500 := f26.1.2.2.2 285 11 _ _ kW_285_11
  have e38 : (0 : Int) ≤ hV H5 285 13 ∧ hV H5 285 13 ≤ 2 := f26.1.2.2.2 285 13 _ _ kW_285_13
  have y0 := g4.1
  have y1 := g4.2.1
  have y2 := g4.2.2.1
  have y3 := g4.2.2.2.1
  have y4 := g4.2.2.2.2.1
  have y5 := g4.2.2.2.2.2.1
  have y6 := g4.2.2.2.2.2.2.1
  have y7 := g4.2.2.2.2.2.2.2.1
  have y8 := g4.2.2.2.2.2.2.2.2.1
  have y9 := g4.2.2.2.2.2.2.2.2.2
  have p0 := g3.1
  have p1 := g3.2.1
  have p2 := g3.2.2.1
  have p3 := g3.2.2.2.1
  have p4 := g3.2.2.2.2
  have r0_0 := f10.2.1
  have r0_1 := f10.2.2.resolve_right (fun z => f11 z.1)
  have r1_0 := f18.2.1
  have r1_1 := f18.2.2
  have r2_0 := f26.2.1
  have r2_1 := f26.2.2.1
  have r2_2 := f26.2.2.2.1
  have r2_3 := f26.2.2.2.2
  try simp only [e14] at y7
  try simp only [e18] at r0_0
  try simp only [e12, e14, e16, e18, e21] at r0_1
  try simp only [e18] at r1_0
  try simp only [e24] at r2_0
  try simp only [e24] at r2_1
  try simp only [e26] at r2_2
  try simp only [e24] at r2_3
  clear g3
  clear g4
  clear f14 f21 f28 f31 f36 e12 e14 e16 e18 e21 e24 e26
  clear f6 f10 f18 f26
  subst e1
  subst e3
  subst e8
  subst e10
  try have wl := wo_leI (w := hV H1 322) (n := hV H1 285 55) (by omega)
  try have wb := WT_bound y2 (by omega)
  try have wl2 := wo_leI (w := hV H1 322) (n := hV H2 285 55) (by omega)
  try have wl3 := wo_leI (w := hV H1 322) (n := hV H3 285 55) (by omega)
  try have wl4 := wo_leI (w := hV H1 322) (n := hV H4 285 55) (by omega)
  try have wl5 := wo_leI (w := hV H1 322) (n := hV H5 285 55) (by omega)
  try have wl6 := wo_leI (w := hV H1 322) (n := hV H6 285 55) (by omega)
  try have wl7 := wo_leI (w := hV H1 322) (n := hV H7 285 55) (by omega)
  try have wl8 := wo_leI (w := hV H1 322) (n := hV H8 285 55) (by omega)
  try have wl9 := wo_leI (w := hV H1 322) (n := hV H9 285 55) (by omega)
  try have wl10 := wo_leI (w := hV H1 322) (n := hV H10 285 55) (by omega)
  first
  | (have ix0 : n11 = hV H1 285 12 + 1 := Eq.trans f23 (w32_iv (Iad (Iat f13 f12) (IC 1)) (by decide)); subst ix0; clear f23)
  | (have ix0 : n11 = hV H1 285 12 + 1 := Eq.trans f23 (w32_id (by omega) (by omega)); subst ix0; clear f23)
  | (unfold w32 at f23; have ix0 : n11 = hV H1 285 12 + 1 := (by omega); subst ix0)
  | skip
  first
  | (have ix1 : n18 = hV H1 285 55 + 1 := Eq.trans f38 (w32_iv (Iad (Iat f30 f29) (IC 1)) (by decide)); subst ix1; clear f38)
  | (have ix1 : n18 = hV H1 285 55 + 1 := Eq.trans f38 (w32_id (by omega) (by omega)); subst ix1; clear f38)
  | (unfold w32 at f38; have ix1 : n18 = hV H1 285 55 + 1 := (by omega); subst ix1)
  | skip
  try unfold w32 at f23
  try unfold w32 at f38
  subst y3
  omega
def g_236_23_13 : vG := ([(1, [18, 16, 17], [], 0), (0, [17], [], 1), (20, [16, 1], [6], 55), (90, [16], [], 0), (91, [16], [], 64), (80, [13, 14, 15], [6, 5], 0), (0, [15], [], 6), (20, [14, 1], [5], 55), (90, [14], [], 0), (91, [14], [], 64), (20, [13, 1], [5], 54), (0, [13], [], 322), (1219, [1], [4, 5], 0), (80, [1, 12, 11], [4, 3], 0), (0, [12], [], 12), (1, [11, 9, 10], [], 0), (0, [10], [], 1), (20, [9, 1], [3], 12), (90, [9], [], 0), (91, [9], [], 7), (1217, [1, 8], [2, 3], 0), (0, [8], [], 2), (40, [6, 7], [], 0), (0, [7], [], 6), (20, [6, 1], [2], 12), (90, [6], [], 0), (91, [6], [], 7), (31, [5], [], 0), (1216, [5, 1, 4], [1, 2], 0), (90, [5], [], 0), (91, [5], [], 1), (0, [4], [], 6), (5000, [0, 1, 2, 3], [0, 1], 23), (0, [0], [], 285), (0, [1], [], 285), (90, [2], [], 0), (91, [2], [], 7), (90, [3], [], -2147483648), (91, [3], [], 2147483647)], (91, [18], [], 64))
theorem c_236_23_13 {q0 : Nat} : vOkm T0 (eP e_236 L_236 A_236 mu_236 (some q0)) 1 g_236_23_13 := vOk_inI fun ρ η f0 f1 f2 f3 f4 f5 f6 f7 f8 f9 f10 f11 f12 f13 f14 f15 f16 f17 f18 f19 f20 f21 f22 f23 f24 f25 f26 f27 f28 f29 f30 f31 f32 f33 f34 f35 f36 f37 f38 => q_236_15 (q0 := q0) (n0 := ρ 3) (n1 := ρ 2) (n2 := ρ 1) (n3 := ρ 0) (n4 := ρ 4) (n5 := ρ 5) (n6 := ρ 6) (n7 := ρ 7) (n8 := ρ 8) (n9 := ρ 9) (n10 := ρ 10) (n11 := ρ 11) (n12 := ρ 12) (n13 := ρ 13) (n14 := ρ 14) (n15 := ρ 15) (n16 := ρ 16) (n17 := ρ 17) (n18 := ρ 18) (H0 := η 0) (H1 := η 1) (H2 := η 2) (H3 := η 3) (H4 := η 4) (H5 := η 5) (H6 := η 6) f38 f37 f36 f35 f34 f33 f32 f31 f30 f29 f28 f27 f26 f25 f24 f23 f22 f21 f20 f19 f18 f17 f16 f15 f14 f13 f12 f11 f10 f9 f8 f7 f6 f5 f4 f3 f2 f1 f0
set_option maxHeartbeats 20000000 in
theorem kR_217_322 : vFreeR s_217.2.2.2.2 322 = true := by decide +kernel
theorem kF_217_285_35 : vFree s_217.2.2.2.2 285 35 = true := by decide +kernel
theorem q_236_16 {q0 : Nat} {n0 n1 n2 n3 n4 n5 n6 n7 n8 n9 n10 n11 n12 n13 n14 n15 n16 n17 n18 n19 : Int} {H0 H1 H2 H3 H4 H5 H6 H7 : gH} (f0 : n0 ≤ 2147483647) (f1 : (-2147483648) ≤ n0) (f2 : n1 ≤ 7) (f3 : 0 ≤ n1) (f4 : n2 = 285) (f5 : n3 = 285) (f6 : (hLe T0 H0 H1 ∧ hFr s_236.2.2.2.2 H0 H1 ∧ hWt T0 H1) ∧ (Ab_236_23 n3 n2 n1 n0 H0 H1 ∧ preb_236 n3 H0) ∧ some q0 = some (mub_236_23 n3 n2 n1 n0 H0 H1)) (f7 : n4 = 6) (f8 : n5 ≤ 1) (f9 : 0 ≤ n5) (f10 : (hLe T0 H1 H2 ∧ hFr s_216.2.2.2.2 H1 H2 ∧ ((0 : Int) = 0 → H2.length = H1.length) ∧ hWt T0 H2) ∧ postb_216 n5 n2 n4 H1 H2) (f11 : n5 ≠ 0) (f12 : n6 ≤ 7) (f13 : 0 ≤ n6) (f14 : n6 = hV H2 (n2).toNat 12) (f15 : n7 = 6) (f16 : n6 = n7) (f17 : n8 = 2) (f18 : (hLe T0 H2 H3 ∧ hFr s_217.2.2.2.2 H2 H3 ∧ ((0 : Int) = 0 → H3.length = H2.length) ∧ hWt T0 H3) ∧ postb_217 n2 n8 H2 H3) (f19 : n9 ≤ 7) (f20 : 0 ≤ n9) (f21 : n9 = hV H3 (n2).toNat 12) (f22 : n10 = 1) (f23 : n11 = w32 (n9 + n10)) (f24 : n12 = 12) (f25 : hUpd H4 H3 n2 n12 n11) (f26 : (hLe T0 H4 H5 ∧ hFr s_219.2.2.2.2 H4 H5 ∧ ((0 : Int) = 0 → H5.length = H4.length) ∧ hWt T0 H5) ∧ postb_219 n2 H4 H5) (f27 : n13 = 322) (f28 : n13 = hV H5 (n2).toNat 54) (f29 : n14 ≤ 64) (f30 : 0 ≤ n14) (f31 : n14 = hV H5 (n2).toNat 55) (f32 : n15 = 6) (f33 : hUpd H6 H5 n13 n14 n15) (f34 : n16 ≤ 64) (f35 : 0 ≤ n16) (f36 : n16 = hV H6 (n2).toNat 55) (f37 : n17 = 1) (f38 : n18 = w32 (n16 + n17)) (f39 : n19 = 55) (f40 : hUpd H7 H6 n2 n19 n18) : Ab_236_23 n3 n2 n1 n0 H0 H7 ∧ ∀ q, some q0 = some q → mub_236_23 n3 n2 n1 n0 H0 H7 < q := by
  have g4 := f6.2.1.1
  unfold Ab_236_23 at g4
  have g3 := f6.2.1.2
  unfold preb_236 at g3
  have g5 := Option.some.inj f6.2.2
  unfold mub_236_23 at g5
  unfold postb_216 at f10
  unfold postb_217 at f18
  unfold postb_219 at f26
  unfold Ab_236_23
  unfold mub_236_23
  have e1 : n6 = hV H1 285 12 := (by rw [f4] at f14; exact f14 : n6 = hV H2 285 12).trans ((f10.1.2.1.1 285 12 kF_216_285_12))
  have e3 : n9 = hV H1 285 12 := (by rw [f4] at f21; exact f21 : n9 = hV H3 285 12).trans (((f18.1.2.1.1 285 12 kF_217_285_12)).trans (f10.1.2.1.1 285 12 kF_216_285_12))
  have e8 : n14 = hV H1 285 55 := (by rw [f4] at f31; exact f31 : n14 = hV H5 285 55).trans (((f26.1.2.1.1 285 55 kF_219_285_55)).trans (((uSlot f25 285 55 (iS (show n12 = ((12 : Nat) : Int) from f24) rfl))).trans (((f18.1.2.1.1 285 55 kF_217_285_55)).trans (f10.1.2.1.1 285 55 kF_216_285_55))))
  have e10 : n16 = hV H1 285 55 := (by rw [f4] at f36; exact f36 : n16 = hV H6 285 55).trans (((uPlace f33 285 55 (iS (show n13 = ((322 : Nat) : Int) from f27) rfl))).trans (((f26.1.2.1.1 285 55 kF_219_285_55)).trans (((uSlot f25 285 55 (iS (show n12 = ((12 : Nat) : Int) from f24) rfl))).trans (((f18.1.2.1.1 285 55 kF_217_285_55)).trans (f10.1.2.1.1 285 55 kF_216_285_55)))))
  have e12 : hV H1 285 34 = hV H0 285 34 := (f6.1.2.1.1 285 34 kF_236_285_34)
  have e14 : hV H1 285 35 = hV H0 285 35 := (f6.1.2.1.1 285 35 kF_236_285_35)
  have e16 : hV H2 285 11 = hV H1 285 11 := (f10.1.2.1.1 285 11 kF_216_285_11)
  have e18 : hV H2 285 13 = hV H1 285 13 := (f10.1.2.1.1 285 13 kF_216_285_13)
  have e21 : hV H2 288 = hV H0 288 := (fRow f10.1.2.1 288 kR_216_288).trans (fRow f6.1.2.1 288 kR_236_288)
  have e24 : hV H4 285 11 = hV H1 285 11 := ((uSlot f25 285 11 (iS (show n12 = ((12 : Nat) : Int) from f24) rfl))).trans (((f18.1.2.1.1 285 11 kF_217_285_11)).trans (f10.1.2.1.1 285 11 kF_216_285_11))
  have e26 : hV H4 285 13 = hV H3 285 13 := (uSlot f25 285 13 (iS (show n12 = ((12 : Nat) : Int) from f24) rfl))
  have e29 : hV H7 285 11 = hV H5 285 11 := ((uSlot f40 285 11 (iS (show n19 = ((55 : Nat) : Int) from f39) rfl))).trans (uPlace f33 285 11 (iS (show n13 = ((322 : Nat) : Int) from f27) rfl))
  have e34 : hV H7 285 12 = n11 := ((uSlot f40 285 12 (iS (show n19 = ((55 : Nat) : Int) from f39) rfl))).trans (((uPlace f33 285 12 (iS (show n13 = ((322 : Nat) : Int) from f27) rfl))).trans (((f26.1.2.1.1 285 12 kF_219_285_12)).trans (uSame f25 285 12 f4.symm f24.symm)))
  have e37 : hV H7 285 13 = hV H5 285 13 := ((uSlot f40 285 13 (iS (show n19 = ((55 : Nat) : Int) from f39) rfl))).trans (uPlace f33 285 13 (iS (show n13 = ((322 : Nat) : Int) from f27) rfl))
  have e44 : hV H7 285 35 = hV H0 285 35 := ((uSlot f40 285 35 (iS (show n19 = ((55 : Nat) : Int) from f39) rfl))).trans (((uPlace f33 285 35 (iS (show n13 = ((322 : Nat) : Int) from f27) rfl))).trans (((f26.1.2.1.1 285 35 kF_219_285_35)).trans (((uSlot f25 285 35 (iS (show n12 = ((12 : Nat) : Int) from f24) rfl))).trans (((f18.1.2.1.1 285 35 kF_217_285_35)).trans (((f10.1.2.1.1 285 35 kF_216_285_35)).trans (f6.1.2.1.1 285 35 kF_236_285_35))))))
  have e51 : hV H7 285 51 = hV H1 285 51 := ((uSlot f40 285 51 (iS (show n19 = ((55 : Nat) : Int) from f39) rfl))).trans (((uPlace f33 285 51 (iS (show n13 = ((322 : Nat) : Int) from f27) rfl))).trans (((f26.1.2.1.1 285 51 kF_219_285_51)).trans (((uSlot f25 285 51 (iS (show n12 = ((12 : Nat) : Int) from f24) rfl))).trans (((f18.1.2.1.1 285 51 kF_217_285_51)).trans (f10.1.2.1.1 285 51 kF_216_285_51)))))
  have e53 : hV H7 285 55 = n18 := (uSame f40 285 55 f4.symm f39.symm)
  have e64 : hV H7 320 = hV H1 320 := (uRowNe f40 320 (iS (show n2 = ((285 : Nat) : Int) from f4) rfl)).trans ((uRowNe f33 320 (iS (show n13 = ((322 : Nat) : Int) from f27) rfl)).trans ((fRow f26.1.2.1 320 kR_219_320).trans ((uRowNe f25 320 (iS (show n2 = ((285 : Nat) : Int) from f4) rfl)).trans ((fRow f18.1.2.1 320 kR_217_320).trans (fRow f10.1.2.1 320 kR_216_320)))))
  have e75 : hV H7 321 = hV H1 321 := (uRowNe f40 321 (iS (show n2 = ((285 : Nat) : Int) from f4) rfl)).trans ((uRowNe f33 321 (iS (show n13 = ((322 : Nat) : Int) from f27) rfl)).trans ((fRow f26.1.2.1 321 kR_219_321).trans ((uRowNe f25 321 (iS (show n2 = ((285 : Nat) : Int) from f4) rfl)).trans ((fRow f18.1.2.1 321 kR_217_321).trans (fRow f10.1.2.1 321 kR_216_321)))))
  have e86 : hV H7 322 = (uF (hV H1 322) n14 n15) := (uRowNe f40 322 (iS (show n2 = ((285 : Nat) : Int) from f4) rfl)).trans ((uRow f33 322 f27.symm).trans (congrArg (fun z => uF z n14 n15) ((fRow f26.1.2.1 322 kR_219_322).trans ((uRowNe f25 322 (iS (show n2 = ((285 : Nat) : Int) from f4) rfl)).trans ((fRow f18.1.2.1 322 kR_217_322).trans (fRow f10.1.2.1 322 kR_216_322))))))
  have e87 : RR H2 = RR H1 := RR_fr f10.1.2.1 (by decide +kernel)
  have e88 : RR H3 = RR H2 := RR_fr f18.1.2.1 (by decide +kernel)
  have e89 : RR H3 = RR H1 := e88.trans e87
  have e90 : RR H4 = RR H3 := RR_upF f25 f4 (show n12 = ((12 : Nat) : Int) from f24) (by decide)
  have e91 : RR H4 = RR H1 := e90.trans e89
  have e92 : RR H5 = RR H4 := RR_fr f26.1.2.1 (by decide +kernel)
  have e93 : RR H5 = RR H1 := e92.trans e91
  have e94 : RR H6 = RR H5 := RR_upR f33 (show n13 = ((322 : Nat) : Int) from f27) (by decide)
  have e95 : RR H6 = RR H1 := e94.trans e93
  have e96 : RR H7 = RR H6 := RR_upF f40 f4 (show n19 = ((55 : Nat) : Int) from f39) (by decide)
  have e97 : RR H7 = RR H1 := e96.trans e95
  have e98 : (0 : Int) ≤ hV H1 285 11 ∧ hV H1 285 11 ≤ 500 := f6.1.2.2 285 11 _ _ kW_285_11
  have e99 : (0 : Int) ≤ hV H1 285 12 ∧ hV H1 285 12 ≤ 7 := f6.1.2.2 285 12 _ _ kW_285_12
  have e100 : (0 : Int) ≤ hV H1 285 13 ∧ hV H1 285 13 ≤ 2 := f6.1.2.2 285 13 _ _ kW_285_13
  have e101 : (0 : Int) ≤ hV H0 285 34 ∧ hV H0 285 34 ≤ 1 := bTo e12 (f6.1.2.2 285 34 _ _ kW_285_34)
  have e102 : (0 : Int) ≤ hV H0 285 35 ∧ hV H0 285 35 ≤ 1 := bTo e14 (f6.1.2.2 285 35 _ _ kW_285_35)
  have e103 : (0 : Int) ≤ hV H1 285 51 ∧ hV H1 285 51 ≤ 1200 := f6.1.2.2 285 51 _ _ kW_285_51
  have e104 : (0 : Int) ≤ hV H1 285 55 ∧ hV H1 285 55 ≤ 64 := f6.1.2.2 285 55 _ _ kW_285_55
  have e107 : (0 : Int) ≤ hV H3 285 13 ∧ hV H3 285 13 ≤ 2 := f18.1.2.2.2 285 13 _ _ kW_285_13
  have e108 : (0 : Int) ≤ hV H5 285 11 ∧ hV H5 285 11 ≤ 500 := f26.1.2.2.2 285 11 _ _ kW_285_11
  have e109 : (0 : Int) ≤ hV H5 285 13 ∧ hV H5 285 13 ≤ 2 := f26.1.2.2.2 285 13 _ _ kW_285_13
  try simp only [e29, e34, e37, e44, e51, e53, e64, e75, e86, e97]
  have y0 := g4.1
  have y1 := g4.2.1
  have y2 := g4.2.2.1
  have y3 := g4.2.2.2.1
  have y4 := g4.2.2.2.2.1
  have y5 := g4.2.2.2.2.2.1
  have y6 := g4.2.2.2.2.2.2.1
  have y7 := g4.2.2.2.2.2.2.2.1
  have y8 := g4.2.2.2.2.2.2.2.2.1
  have y9 := g4.2.2.2.2.2.2.2.2.2
  have p0 := g3.1
  have p1 := g3.2.1
  have p2 := g3.2.2.1
  have p3 := g3.2.2.2.1
  have p4 := g3.2.2.2.2
  have r0_0 := f10.2.1
  have r0_1 := f10.2.2.resolve_right (fun z => f11 z.1)
  have r1_0 := f18.2.1
  have r1_1 := f18.2.2
  have r2_0 := f26.2.1
  have r2_1 := f26.2.2.1
  have r2_2 := f26.2.2.2.1
  have r2_3 := f26.2.2.2.2
  try simp only [e14] at y7
  try simp only [e18] at r0_0
  try simp only [e12, e14, e16, e18, e21] at r0_1
  try simp only [e18] at r1_0
  try simp only [e24] at r2_0
  try simp only [e24] at r2_1
  try simp only [e26] at r2_2
  try simp only [e24] at r2_3
  clear g3
  clear g4
  clear f14 f21 f28 f31 f36 e12 e14 e16 e18 e21 e24 e26 e29 e37 e44 e51 e64 e75 e86 e87 e88 e89 e90 e91 e92 e93 e94 e95 e96 e97
  clear f6 f10 f18 f26
  subst e1
  subst e3
  subst e8
  subst e10
  try have wl := wo_leI (w := hV H1 322) (n := hV H1 285 55) (by omega)
  try have wb := WT_bound y2 (by omega)
  try have wl2 := wo_leI (w := hV H1 322) (n := hV H2 285 55) (by omega)
  try have wl3 := wo_leI (w := hV H1 322) (n := hV H3 285 55) (by omega)
  try have wl4 := wo_leI (w := hV H1 322) (n := hV H4 285 55) (by omega)
  try have wl5 := wo_leI (w := hV H1 322) (n := hV H5 285 55) (by omega)
  try have wl6 := wo_leI (w := hV H1 322) (n := hV H6 285 55) (by omega)
  try have wl7 := wo_leI (w := hV H1 322) (n := hV H7 285 55) (by omega)
  try have wl8 := wo_leI (w := hV H1 322) (n := hV H8 285 55) (by omega)
  try have wl9 := wo_leI (w := hV H1 322) (n := hV H9 285 55) (by omega)
  try have wl10 := wo_leI (w := hV H1 322) (n := hV H10 285 55) (by omega)
  first
  | (have ix0 : n11 = hV H1 285 12 + 1 := Eq.trans f23 (w32_iv (Iad (Iat f13 f12) (IC 1)) (by decide)); subst ix0; clear f23)
  | (have ix0 : n11 = hV H1 285 12 + 1 := Eq.trans f23 (w32_id (by omega) (by omega)); subst ix0; clear f23)
  | (unfold w32 at f23; have ix0 : n11 = hV H1 285 12 + 1 := (by omega); subst ix0)
  | skip
  first
  | (have ix1 : n18 = hV H1 285 55 + 1 := Eq.trans f38 (w32_iv (Iad (Iat f30 f29) (IC 1)) (by decide)); subst ix1; clear f38)
  | (have ix1 : n18 = hV H1 285 55 + 1 := Eq.trans f38 (w32_id (by omega) (by omega)); subst ix1; clear f38)
  | (unfold w32 at f38; have ix1 : n18 = hV H1 285 55 + 1 := (by omega); subst ix1)
  | skip
  try unfold w32 at f23
  try unfold w32 at f38

  refine ⟨⟨?_, ?_, ?_, ?_, ?_, ?_, ?_, ?_, ?_⟩, fun q hq => ?_⟩
  · exact y0
  · intro z
    exact CO_d (y1 (by omega)) (by first | omega | (rw [wo_push] <;> omega))
  · exact WT_push y2 (by omega) (by omega) (by omega) (.inl (by omega))
  · first | omega | (rw [wo_push] <;> omega)
  · first | omega | (rw [wo_push] <;> omega)
  · first | omega | (rw [wo_push] <;> omega)
  · first | omega | (rw [wo_push] <;> omega)
  · first | omega | (rw [wo_push] <;> omega)
  · first | omega | (rw [wo_push] <;> omega)
  · have g6 := Option.some.inj hq
    subst g6
    omega
def g_236_23_14 : vG := ([(80, [1, 19, 18], [7, 6], 0), (0, [19], [], 55), (1, [18, 16, 17], [], 0), (0, [17], [], 1), (20, [16, 1], [6], 55), (90, [16], [], 0), (91, [16], [], 64), (80, [13, 14, 15], [6, 5], 0), (0, [15], [], 6), (20, [14, 1], [5], 55), (90, [14], [], 0), (91, [14], [], 64), (20, [13, 1], [5], 54), (0, [13], [], 322), (1219, [1], [4, 5], 0), (80, [1, 12, 11], [4, 3], 0), (0, [12], [], 12), (1, [11, 9, 10], [], 0), (0, [10], [], 1), (20, [9, 1], [3], 12), (90, [9], [], 0), (91, [9], [], 7), (1217, [1, 8], [2, 3], 0), (0, [8], [], 2), (40, [6, 7], [], 0), (0, [7], [], 6), (20, [6, 1], [2], 12), (90, [6], [], 0), (91, [6], [], 7), (31, [5], [], 0), (1216, [5, 1, 4], [1, 2], 0), (90, [5], [], 0), (91, [5], [], 1), (0, [4], [], 6), (5000, [0, 1, 2, 3], [0, 1], 23), (0, [0], [], 285), (0, [1], [], 285), (90, [2], [], 0), (91, [2], [], 7), (90, [3], [], -2147483648), (91, [3], [], 2147483647)], (4000, [1, 2, 3], [7], 23))
theorem c_236_23_14 {q0 : Nat} : vOkm T0 (eP e_236 L_236 A_236 mu_236 (some q0)) 1 g_236_23_14 := vOk_inI fun ρ η f0 f1 f2 f3 f4 f5 f6 f7 f8 f9 f10 f11 f12 f13 f14 f15 f16 f17 f18 f19 f20 f21 f22 f23 f24 f25 f26 f27 f28 f29 f30 f31 f32 f33 f34 f35 f36 f37 f38 f39 f40 => q_236_16 (q0 := q0) (n0 := ρ 3) (n1 := ρ 2) (n2 := ρ 1) (n3 := ρ 0) (n4 := ρ 4) (n5 := ρ 5) (n6 := ρ 6) (n7 := ρ 7) (n8 := ρ 8) (n9 := ρ 9) (n10 := ρ 10) (n11 := ρ 11) (n12 := ρ 12) (n13 := ρ 13) (n14 := ρ 14) (n15 := ρ 15) (n16 := ρ 16) (n17 := ρ 17) (n18 := ρ 18) (n19 := ρ 19) (H0 := η 0) (H1 := η 1) (H2 := η 2) (H3 := η 3) (H4 := η 4) (H5 := η 5) (H6 := η 6) (H7 := η 7) f40 f39 f38 f37 f36 f35 f34 f33 f32 f31 f30 f29 f28 f27 f26 f25 f24 f23 f22 f21 f20 f19 f18 f17 f16 f15 f14 f13 f12 f11 f10 f9 f8 f7 f6 f5 f4 f3 f2 f1 f0
def p_236_23 : List vG := [g_236_23_0,
  g_236_23_1,
  g_236_23_2,
  g_236_23_3,
  g_236_23_4,
  g_236_23_5,
  g_236_23_6,
  g_236_23_7,
  g_236_23_8,
  g_236_23_9,
  g_236_23_10,
  g_236_23_11,
  g_236_23_12,
  g_236_23_13,
  g_236_23_14]
theorem r_236_23 : vCovO false (eRc e_236 L_236 cs_236 2000 (23, [(0, (3, 12, 285, 0)), (1, (0, 0, 7, 0)), (2, (0, -2147483648, 2147483647, 0))])) p_236_23 = true := by decide +kernel
set_option maxHeartbeats 20000000 in
theorem q_236_17 {q0 : Nat} {n0 n1 n2 n3 n4 n5 n6 n7 n8 : Int} {H0 H1 H2 H3 : gH} (f0 : n0 ≤ 2147483647) (f1 : (-2147483648) ≤ n0) (f2 : n1 ≤ 7) (f3 : 0 ≤ n1) (f4 : n2 = 285) (f5 : n3 = 285) (f6 : (hLe T0 H0 H1 ∧ hFr s_236.2.2.2.2 H0 H1 ∧ hWt T0 H1) ∧ (Ab_236_96 n3 n2 n1 n0 H0 H1 ∧ preb_236 n3 H0) ∧ some q0 = some (mub_236_96 n3 n2 n1 n0 H0 H1)) (f7 : n4 = 7) (f8 : n5 ≤ 1) (f9 : 0 ≤ n5) (f10 : (hLe T0 H1 H2 ∧ hFr s_216.2.2.2.2 H1 H2 ∧ ((0 : Int) = 0 → H2.length = H1.length) ∧ hWt T0 H2) ∧ postb_216 n5 n2 n4 H1 H2) (f11 : n5 = 0) (f12 : n6 = 8) (f13 : n7 ≤ 1) (f14 : 0 ≤ n7) (f15 : (hLe T0 H2 H3 ∧ hFr s_216.2.2.2.2 H2 H3 ∧ ((0 : Int) = 0 → H3.length = H2.length) ∧ hWt T0 H3) ∧ postb_216 n7 n2 n6 H2 H3) (f16 : n7 ≠ 0) (f17 : n8 = 1) : Ab_236_187 n3 n2 n1 n8 H0 H3 ∧ ∀ q, some q0 = some q → mub_236_187 n3 n2 n1 n8 H0 H3 < q := by
  have g4 := f6.2.1.1
  unfold Ab_236_96 at g4
  have g3 := f6.2.1.2
  unfold preb_236 at g3
  have g5 := Option.some.inj f6.2.2
  unfold mub_236_96 at g5
  unfold postb_216 at f10
  unfold postb_216 at f15
  unfold Ab_236_187
  unfold mub_236_187
  have e3 : hV H1 285 35 = hV H0 285 35 := (f6.1.2.1.1 285 35 kF_236_285_35)
  have e5 : hV H2 285 11 = hV H1 285 11 := (f10.1.2.1.1 285 11 kF_216_285_11)
  have e7 : hV H2 285 13 = hV H1 285 13 := (f10.1.2.1.1 285 13 kF_216_285_13)
  have e10 : hV H2 288 = hV H0 288 := (fRow f10.1.2.1 288 kR_216_288).trans (fRow f6.1.2.1 288 kR_236_288)
  have e12 : hV H3 285 11 = hV H1 285 11 := ((f15.1.2.1.1 285 11 kF_216_285_11)).trans (f10.1.2.1.1 285 11 kF_216_285_11)
  have e15 : hV H3 285 12 = hV H1 285 12 := ((f15.1.2.1.1 285 12 kF_216_285_12)).trans (f10.1.2.1.1 285 12 kF_216_285_12)
  have e17 : hV H3 285 13 = hV H1 285 13 := ((f15.1.2.1.1 285 13 kF_216_285_13)).trans (f10.1.2.1.1 285 13 kF_216_285_13)
  have e20 : hV H3 285 35 = hV H0 285 35 := ((f15.1.2.1.1 285 35 kF_216_285_35)).trans (((f10.1.2.1.1 285 35 kF_216_285_35)).trans (f6.1.2.1.1 285 35 kF_236_285_35))
  have e23 : hV H3 285 51 = hV H1 285 51 := ((f15.1.2.1.1 285 51 kF_216_285_51)).trans (f10.1.2.1.1 285 51 kF_216_285_51)
  have e26 : hV H3 285 55 = hV H1 285 55 := ((f15.1.2.1.1 285 55 kF_216_285_55)).trans (f10.1.2.1.1 285 55 kF_216_285_55)
  have e28 : hV H3 288 = hV H0 288 := (fRow f15.1.2.1 288 kR_216_288).trans e10
  have e31 : hV H3 320 = hV H1 320 := (fRow f15.1.2.1 320 kR_216_320).trans (fRow f10.1.2.1 320 kR_216_320)
  have e34 : hV H3 321 = hV H1 321 := (fRow f15.1.2.1 321 kR_216_321).trans (fRow f10.1.2.1 321 kR_216_321)
  have e37 : hV H3 322 = hV H1 322 := (fRow f15.1.2.1 322 kR_216_322).trans (fRow f10.1.2.1 322 kR_216_322)
  have e38 : RR H2 = RR H1 := RR_fr f10.1.2.1 (by decide +kernel)
  have e39 : RR H3 = RR H2 := RR_fr f15.1.2.1 (by decide +kernel)
  have e40 : RR H3 = RR H1 := e39.trans e38
  have e41 : (0 : Int) ≤ hV H1 285 11 ∧ hV H1 285 11 ≤ 500 := f6.1.2.2 285 11 _ _ kW_285_11
  have e42 : (0 : Int) ≤ hV H1 285 12 ∧ hV H1 285 12 ≤ 7 := f6.1.2.2 285 12 _ _ kW_285_12
  have e43 : (0 : Int) ≤ hV H1 285 13 ∧ hV H1 285 13 ≤ 2 := f6.1.2.2 285 13 _ _ kW_285_13
  have e44 : (0 : Int) ≤ hV H0 285 34 ∧ hV H0 285 34 ≤ 1 := bTo ((f6.1.2.1.1 285 34 kF_236_285_34)) (f6.1.2.2 285 34 _ _ kW_285_34)
  have e45 : (0 : Int) ≤ hV H0 285 35 ∧ hV H0 285 35 ≤ 1 := bTo e3 (f6.1.2.2 285 35 _ _ kW_285_35)
  have e46 : (0 : Int) ≤ hV H1 285 51 ∧ hV H1 285 51 ≤ 1200 := f6.1.2.2 285 51 _ _ kW_285_51
  have e47 : (0 : Int) ≤ hV H1 285 55 ∧ hV H1 285 55 ≤ 64 := f6.1.2.2 285 55 _ _ kW_285_55
  try simp only [e12, e15, e17, e20, e23, e26, e28, e31, e34, e37, e40]
  have y0 := g4.1
  have y1 := g4.2.1
  have y2 := g4.2.2.1
  have y3 := g4.2.2.2.1
  have y4 := g4.2.2.2.2.1
  have y5 := g4.2.2.2.2.2.1
  have y6 := g4.2.2.2.2.2.2.1
  have y7 := g4.2.2.2.2.2.2.2.1
  have y8 := g4.2.2.2.2.2.2.2.2.1
  have y9 := g4.2.2.2.2.2.2.2.2.2.1
  have y10 := g4.2.2.2.2.2.2.2.2.2.2
  have p0 := g3.1
  have p1 := g3.2.1
  have p2 := g3.2.2.1
  have p3 := g3.2.2.2.1
  have p4 := g3.2.2.2.2
  have r0_0 := f10.2.1
  have r1_0 := f15.2.1
  have r1_1 := f15.2.2.resolve_right (fun z => f16 z.1)
  try simp only [e3] at y7
  try simp only [e7] at r0_0
  try simp only [e17] at r1_0
  try simp only [e5, e7, e10, e12, e15, e17, e20, e23, e26, e28, e31, e34, e37, e40] at r1_1
  clear g3
  clear g4
  clear e3 e5 e7 e10 e12 e15 e17 e20 e23 e26 e28 e31 e34 e37 e38 e39 e40
  clear f6 f10 f15
  try have wl := wo_leI (w := hV H1 322) (n := hV H1 285 55) (by omega)
  try have wb := WT_bound y2 (by omega)
  try have wl2 := wo_leI (w := hV H1 322) (n := hV H2 285 55) (by omega)
  try have wl3 := wo_leI (w := hV H1 322) (n := hV H3 285 55) (by omega)
  try have wl4 := wo_leI (w := hV H1 322) (n := hV H4 285 55) (by omega)
  try have wl5 := wo_leI (w := hV H1 322) (n := hV H5 285 55) (by omega)
  try have wl6 := wo_leI (w := hV H1 322) (n := hV H6 285 55) (by omega)
  try have wl7 := wo_leI (w := hV H1 322) (n := hV H7 285 55) (by omega)
  try have wl8 := wo_leI (w := hV H1 322) (n := hV H8 285 55) (by omega)
  try have wl9 := wo_leI (w := hV H1 322) (n := hV H9 285 55) (by omega)
  try have wl10 := wo_leI (w := hV H1 322) (n := hV H10 285 55) (by omega)

  refine ⟨⟨?_, ?_, ?_, ?_, ?_, ?_, ?_, ?_, ?_, ?_, ?_⟩, fun q hq => ?_⟩
  · exact y0
  · intro z
    exact y1 (by omega)
  · exact y2
  · first | omega | (rw [wo_push] <;> omega)
  · first | omega | (rw [wo_push] <;> omega)
  · first | omega | (rw [wo_push] <;> omega)
  · first | omega | (rw [wo_push] <;> omega)
  · first | omega | (rw [wo_push] <;> omega)
  · first | omega | (rw [wo_push] <;> omega)
  · first | omega | (rw [wo_push] <;> omega)
  · first | omega | (rw [wo_push] <;> omega)
  · have g6 := Option.some.inj hq
    subst g6
    omega
def g_236_96_0 : vG := ([(0, [8], [], 1), (31, [7], [], 0), (1216, [7, 1, 6], [2, 3], 0), (90, [7], [], 0), (91, [7], [], 1), (0, [6], [], 8), (30, [5], [], 0), (1216, [5, 1, 4], [1, 2], 0), (90, [5], [], 0), (91, [5], [], 1), (0, [4], [], 7), (5000, [0, 1, 2, 3], [0, 1], 96), (0, [0], [], 285), (0, [1], [], 285), (90, [2], [], 0), (91, [2], [], 7), (90, [3], [], -2147483648), (91, [3], [], 2147483647)], (4000, [1, 2, 8], [3], 187))
theorem c_236_96_0 {q0 : Nat} : vOkm T0 (eP e_236 L_236 A_236 mu_236 (some q0)) 1 g_236_96_0 := vOk_inI fun ρ η f0 f1 f2 f3 f4 f5 f6 f7 f8 f9 f10 f11 f12 f13 f14 f15 f16 f17 => q_236_17 (q0 := q0) (n0 := ρ 3) (n1 := ρ 2) (n2 := ρ 1) (n3 := ρ 0) (n4 := ρ 4) (n5 := ρ 5) (n6 := ρ 6) (n7 := ρ 7) (n8 := ρ 8) (H0 := η 0) (H1 := η 1) (H2 := η 2) (H3 := η 3) f17 f16 f15 f14 f13 f12 f11 f10 f9 f8 f7 f6 f5 f4 f3 f2 f1 f0
set_option maxHeartbeats 20000000 in
theorem q_236_18 {q0 : Nat} {n0 n1 n2 n3 n4 n5 n6 n7 n8 n9 n10 : Int} {H0 H1 H2 H3 H4 : gH} (f0 : n0 ≤ 2147483647) (f1 : (-2147483648) ≤ n0) (f2 : n1 ≤ 7) (f3 : 0 ≤ n1) (f4 : n2 = 285) (f5 : n3 = 285) (f6 : (hLe T0 H0 H1 ∧ hFr s_236.2.2.2.2 H0 H1 ∧ hWt T0 H1) ∧ (Ab_236_96 n3 n2 n1 n0 H0 H1 ∧ preb_236 n3 H0) ∧ some q0 = some (mub_236_96 n3 n2 n1 n0 H0 H1)) (f7 : n4 = 7) (f8 : n5 ≤ 1) (f9 : 0 ≤ n5) (f10 : (hLe T0 H1 H2 ∧ hFr s_216.2.2.2.2 H1 H2 ∧ ((0 : Int) = 0 → H2.length = H1.length) ∧ hWt T0 H2) ∧ postb_216 n5 n2 n4 H1 H2) (f11 : n5 = 0) (f12 : n6 = 8) (f13 : n7 ≤ 1) (f14 : 0 ≤ n7) (f15 : (hLe T0 H2 H3 ∧ hFr s_216.2.2.2.2 H2 H3 ∧ ((0 : Int) = 0 → H3.length = H2.length) ∧ hWt T0 H3) ∧ postb_216 n7 n2 n6 H2 H3) (f16 : n7 = 0) (f17 : n8 = 9) (f18 : n9 ≤ 1) (f19 : 0 ≤ n9) (f20 : (hLe T0 H3 H4 ∧ hFr s_216.2.2.2.2 H3 H4 ∧ ((0 : Int) = 0 → H4.length = H3.length) ∧ hWt T0 H4) ∧ postb_216 n9 n2 n8 H3 H4) (f21 : n9 ≠ 0) (f22 : n10 = 1) : Ab_236_187 n3 n2 n1 n10 H0 H4 ∧ ∀ q, some q0 = some q → mub_236_187 n3 n2 n1 n10 H0 H4 < q := by
  have g4 := f6.2.1.1
  unfold Ab_236_96 at g4
  have g3 := f6.2.1.2
  unfold preb_236 at g3
  have g5 := Option.some.inj f6.2.2
  unfold mub_236_96 at g5
  unfold postb_216 at f10
  unfold postb_216 at f15
  unfold postb_216 at f20
  unfold Ab_236_187
  unfold mub_236_187
  have e3 : hV H1 285 35 = hV H0 285 35 := (f6.1.2.1.1 285 35 kF_236_285_35)
  have e7 : hV H2 285 13 = hV H1 285 13 := (f10.1.2.1.1 285 13 kF_216_285_13)
  have e12 : hV H3 285 11 = hV H1 285 11 := ((f15.1.2.1.1 285 11 kF_216_285_11)).trans (f10.1.2.1.1 285 11 kF_216_285_11)
  have e14 : hV H3 285 13 = hV H1 285 13 := ((f15.1.2.1.1 285 13 kF_216_285_13)).trans (f10.1.2.1.1 285 13 kF_216_285_13)
  have e16 : hV H3 288 = hV H0 288 := (fRow f15.1.2.1 288 kR_216_288).trans ((fRow f10.1.2.1 288 kR_216_288).trans (fRow f6.1.2.1 288 kR_236_288))
  have e18 : hV H4 285 11 = hV H1 285 11 := ((f20.1.2.1.1 285 11 kF_216_285_11)).trans (((f15.1.2.1.1 285 11 kF_216_285_11)).trans (f10.1.2.1.1 285 11 kF_216_285_11))
  have e22 : hV H4 285 12 = hV H1 285 12 := ((f20.1.2.1.1 285 12 kF_216_285_12)).trans (((f15.1.2.1.1 285 12 kF_216_285_12)).trans (f10.1.2.1.1 285 12 kF_216_285_12))
  have e24 : hV H4 285 13 = hV H1 285 13 := ((f20.1.2.1.1 285 13 kF_216_285_13)).trans (((f15.1.2.1.1 285 13 kF_216_285_13)).trans (f10.1.2.1.1 285 13 kF_216_285_13))
  have e28 : hV H4 285 35 = hV H0 285 35 := ((f20.1.2.1.1 285 35 kF_216_285_35)).trans (((f15.1.2.1.1 285 35 kF_216_285_35)).trans (((f10.1.2.1.1 285 35 kF_216_285_35)).trans (f6.1.2.1.1 285 35 kF_236_285_35)))
  have e32 : hV H4 285 51 = hV H1 285 51 := ((f20.1.2.1.1 285 51 kF_216_285_51)).trans (((f15.1.2.1.1 285 51 kF_216_285_51)).trans (f10.1.2.1.1 285 51 kF_216_285_51))
  have e36 : hV H4 285 55 = hV H1 285 55 := ((f20.1.2.1.1 285 55 kF_216_285_55)).trans (((f15.1.2.1.1 285 55 kF_216_285_55)).trans (f10.1.2.1.1 285 55 kF_216_285_55))
  have e38 : hV H4 288 = hV H0 288 := (fRow f20.1.2.1 288 kR_216_288).trans e16
  have e43 : hV H4 320 = hV H1 320 := (fRow f20.1.2.1 320 kR_216_320).trans ((fRow f15.1.2.1 320 kR_216_320).trans (fRow f10.1.2.1 320 kR_216_320))
  have e48 : hV H4 321 = hV H1 321 := (fRow f20.1.2.1 321 kR_216_321).trans ((fRow f15.1.2.1 321 kR_216_321).trans (fRow f10.1.2.1 321 kR_216_321))
  have e53 : hV H4 322 = hV H1 322 := (fRow f20.1.2.1 322 kR_216_322).trans ((fRow f15.1.2.1 322 kR_216_322).trans (fRow f10.1.2.1 322 kR_216_322))
  have e54 : RR H2 = RR H1 := RR_fr f10.1.2.1 (by decide +kernel)
  have e55 : RR H3 = RR H2 := RR_fr f15.1.2.1 (by decide +kernel)
  have e56 : RR H3 = RR H1 := e55.trans e54
  have e57 : RR H4 = RR H3 := RR_fr f20.1.2.1 (by decide +kernel)
  have e58 : RR H4 = RR H1 := e57.trans e56
  have e59 : (0 : Int) ≤ hV H1 285 11 ∧ hV H1 285 11 ≤ 500 := f6.1.2.2 285 11 _ _ kW_285_11
  have e60 : (0 : Int) ≤ hV H1 285 12 ∧ hV H1 285 12 ≤ 7 := f6.1.2.2 285 12 _ _ kW_285_12
  have e61 : (0 : Int) ≤ hV H1 285 13 ∧ hV H1 285 13 ≤ 2 := f6.1.2.2 285 13 _ _ kW_285_13
  have e62 : (0 : Int) ≤ hV H0 285 34 ∧ hV H0 285 34 ≤ 1 := bTo ((f6.1.2.1.1 285 34 kF_236_285_34)) (f6.1.2.2 285 34 _ _ kW_285_34)
  have e63 : (0 : Int) ≤ hV H0 285 35 ∧ hV H0 285 35 ≤ 1 := bTo e3 (f6.1.2.2 285 35 _ _ kW_285_35)
  have e64 : (0 : Int) ≤ hV H1 285 51 ∧ hV H1 285 51 ≤ 1200 := f6.1.2.2 285 51 _ _ kW_285_51
  have e65 : (0 : Int) ≤ hV H1 285 55 ∧ hV H1 285 55 ≤ 64 := f6.1.2.2 285 55 _ _ kW_285_55
  try simp only [e18, e22, e24, e28, e32, e36, e38, e43, e48, e53, e58]
  have y0 := g4.1
  have y1 := g4.2.1
  have y2 := g4.2.2.1
  have y3 := g4.2.2.2.1
  have y4 := g4.2.2.2.2.1
  have y5 := g4.2.2.2.2.2.1
  have y6 := g4.2.2.2.2.2.2.1
  have y7 := g4.2.2.2.2.2.2.2.1
  have y8 := g4.2.2.2.2.2.2.2.2.1
  have y9 := g4.2.2.2.2.2.2.2.2.2.1
  have y10 := g4.2.2.2.2.2.2.2.2.2.2
  have p0 := g3.1
  have p1 := g3.2.1
  have p2 := g3.2.2.1
  have p3 := g3.2.2.2.1
  have p4 := g3.2.2.2.2
  have r0_0 := f10.2.1
  have r1_0 := f15.2.1
  have r2_0 := f20.2.1
  have r2_1 := f20.2.2.resolve_right (fun z => f21 z.1)
  try simp only [e3] at y7
  try simp only [e7] at r0_0
  try simp only [e14] at r1_0
  try simp only [e24] at r2_0
  try simp only [e12, e14, e16, e18, e22, e24, e28, e32, e36, e38, e43, e48, e53, e58] at r2_1
  clear g3
  clear g4
  clear e3 e7 e12 e14 e16 e18 e22 e24 e28 e32 e36 e38 e43 e48 e53 e54 e55 e56 e57 e58
  clear f6 f10 f15 f20
  try have wl := wo_leI (w := hV H1 322) (n := hV H1 285 55) (by omega)
  try have wb := WT_bound y2 (by omega)
  try have wl2 := wo_leI (w := hV H1 322) (n := hV H2 285 55) (by omega)
  try have wl3 := wo_leI (w := hV H1 322) (n := hV H3 285 55) (by omega)
  try have wl4 := wo_leI (w := hV H1 322) (n := hV H4 285 55) (by omega)
  try have wl5 := wo_leI (w := hV H1 322) (n := hV H5 285 55) (by omega)
  try have wl6 := wo_leI (w := hV H1 322) (n := hV H6 285 55) (by omega)
  try have wl7 := wo_leI (w := hV H1 322) (n := hV H7 285 55) (by omega)
  try have wl8 := wo_leI (w := hV H1 322) (n := hV H8 285 55) (by omega)
  try have wl9 := wo_leI (w := hV H1 322) (n := hV H9 285 55) (by omega)
  try have wl10 := wo_leI (w := hV H1 322) (n := hV H10 285 55) (by omega)

  refine ⟨⟨?_, ?_, ?_, ?_, ?_, ?_, ?_, ?_, ?_, ?_, ?_⟩, fun q hq => ?_⟩
  · exact y0
  · intro z
    exact y1 (by omega)
  · exact y2
  · first | omega | (rw [wo_push] <;> omega)
  · first | omega | (rw [wo_push] <;> omega)
  · first | omega | (rw [wo_push] <;> omega)
  · first | omega | (rw [wo_push] <;> omega)
  · first | omega | (rw [wo_push] <;> omega)
  · first | omega | (rw [wo_push] <;> omega)
  · first | omega | (rw [wo_push] <;> omega)
  · first | omega | (rw [wo_push] <;> omega)
  · have g6 := Option.some.inj hq
    subst g6
    omega
def g_236_96_1 : vG := ([(0, [10], [], 1), (31, [9], [], 0), (1216, [9, 1, 8], [3, 4], 0), (90, [9], [], 0), (91, [9], [], 1), (0, [8], [], 9), (30, [7], [], 0), (1216, [7, 1, 6], [2, 3], 0), (90, [7], [], 0), (91, [7], [], 1), (0, [6], [], 8), (30, [5], [], 0), (1216, [5, 1, 4], [1, 2], 0), (90, [5], [], 0), (91, [5], [], 1), (0, [4], [], 7), (5000, [0, 1, 2, 3], [0, 1], 96), (0, [0], [], 285), (0, [1], [], 285), (90, [2], [], 0), (91, [2], [], 7), (90, [3], [], -2147483648), (91, [3], [], 2147483647)], (4000, [1, 2, 10], [4], 187))
theorem c_236_96_1 {q0 : Nat} : vOkm T0 (eP e_236 L_236 A_236 mu_236 (some q0)) 1 g_236_96_1 := vOk_inI fun ρ η f0 f1 f2 f3 f4 f5 f6 f7 f8 f9 f10 f11 f12 f13 f14 f15 f16 f17 f18 f19 f20 f21 f22 => q_236_18 (q0 := q0) (n0 := ρ 3) (n1 := ρ 2) (n2 := ρ 1) (n3 := ρ 0) (n4 := ρ 4) (n5 := ρ 5) (n6 := ρ 6) (n7 := ρ 7) (n8 := ρ 8) (n9 := ρ 9) (n10 := ρ 10) (H0 := η 0) (H1 := η 1) (H2 := η 2) (H3 := η 3) (H4 := η 4) f22 f21 f20 f19 f18 f17 f16 f15 f14 f13 f12 f11 f10 f9 f8 f7 f6 f5 f4 f3 f2 f1 f0
set_option maxHeartbeats 20000000 in
theorem q_236_19 {q0 : Nat} {n0 n1 n2 n3 n4 n5 n6 n7 n8 n9 n10 n11 n12 : Int} {H0 H1 H2 H3 H4 H5 : gH} (f0 : n0 ≤ 2147483647) (f1 : (-2147483648) ≤ n0) (f2 : n1 ≤ 7) (f3 : 0 ≤ n1) (f4 : n2 = 285) (f5 : n3 = 285) (f6 : (hLe T0 H0 H1 ∧ hFr s_236.2.2.2.2 H0 H1 ∧ hWt T0 H1) ∧ (Ab_236_96 n3 n2 n1 n0 H0 H1 ∧ preb_236 n3 H0) ∧ some q0 = some (mub_236_96 n3 n2 n1 n0 H0 H1)) (f7 : n4 = 7) (f8 : n5 ≤ 1) (f9 : 0 ≤ n5) (f10 : (hLe T0 H1 H2 ∧ hFr s_216.2.2.2.2 H1 H2 ∧ ((0 : Int) = 0 → H2.length = H1.length) ∧ hWt T0 H2) ∧ postb_216 n5 n2 n4 H1 H2) (f11 : n5 = 0) (f12 : n6 = 8) (f13 : n7 ≤ 1) (f14 : 0 ≤ n7) (f15 : (hLe T0 H2 H3 ∧ hFr s_216.2.2.2.2 H2 H3 ∧ ((0 : Int) = 0 → H3.length = H2.length) ∧ hWt T0 H3) ∧ postb_216 n7 n2 n6 H2 H3) (f16 : n7 = 0) (f17 : n8 = 9) (f18 : n9 ≤ 1) (f19 : 0 ≤ n9) (f20 : (hLe T0 H3 H4 ∧ hFr s_216.2.2.2.2 H3 H4 ∧ ((0 : Int) = 0 → H4.length = H3.length) ∧ hWt T0 H4) ∧ postb_216 n9 n2 n8 H3 H4) (f21 : n9 = 0) (f22 : n10 = 10) (f23 : n11 ≤ 1) (f24 : 0 ≤ n11) (f25 : (hLe T0 H4 H5 ∧ hFr s_216.2.2.2.2 H4 H5 ∧ ((0 : Int) = 0 → H5.length = H4.length) ∧ hWt T0 H5) ∧ postb_216 n11 n2 n10 H4 H5) (f26 : n11 ≠ 0) (f27 : n12 = 1) : Ab_236_187 n3 n2 n1 n12 H0 H5 ∧ ∀ q, some q0 = some q → mub_236_187 n3 n2 n1 n12 H0 H5 < q := by
  have g4 := f6.2.1.1
  unfold Ab_236_96 at g4
  have g3 := f6.2.1.2
  unfold preb_236 at g3
  have g5 := Option.some.inj f6.2.2
  unfold mub_236_96 at g5
  unfold postb_216 at f10
  unfold postb_216 at f15
  unfold postb_216 at f20
  unfold postb_216 at f25
  unfold Ab_236_187
  unfold mub_236_187
  have e3 : hV H1 285 35 = hV H0 285 35 := (f6.1.2.1.1 285 35 kF_236_285_35)
  have e7 : hV H2 285 13 = hV H1 285 13 := (f10.1.2.1.1 285 13 kF_216_285_13)
  have e14 : hV H3 285 13 = hV H1 285 13 := ((f15.1.2.1.1 285 13 kF_216_285_13)).trans (f10.1.2.1.1 285 13 kF_216_285_13)
  have e18 : hV H4 285 11 = hV H1 285 11 := ((f20.1.2.1.1 285 11 kF_216_285_11)).trans (((f15.1.2.1.1 285 11 kF_216_285_11)).trans (f10.1.2.1.1 285 11 kF_216_285_11))
  have e20 : hV H4 285 13 = hV H1 285 13 := ((f20.1.2.1.1 285 13 kF_216_285_13)).trans (((f15.1.2.1.1 285 13 kF_216_285_13)).trans (f10.1.2.1.1 285 13 kF_216_285_13))
  have e22 : hV H4 288 = hV H0 288 := (fRow f20.1.2.1 288 kR_216_288).trans ((fRow f15.1.2.1 288 kR_216_288).trans ((fRow f10.1.2.1 288 kR_216_288).trans (fRow f6.1.2.1 288 kR_236_288)))
  have e24 : hV H5 285 11 = hV H1 285 11 := ((f25.1.2.1.1 285 11 kF_216_285_11)).trans (((f20.1.2.1.1 285 11 kF_216_285_11)).trans (((f15.1.2.1.1 285 11 kF_216_285_11)).trans (f10.1.2.1.1 285 11 kF_216_285_11)))
  have e29 : hV H5 285 12 = hV H1 285 12 := ((f25.1.2.1.1 285 12 kF_216_285_12)).trans (((f20.1.2.1.1 285 12 kF_216_285_12)).trans (((f15.1.2.1.1 285 12 kF_216_285_12)).trans (f10.1.2.1.1 285 12 kF_216_285_12)))
  have e31 : hV H5 285 13 = hV H1 285 13 := ((f25.1.2.1.1 285 13 kF_216_285_13)).trans (((f20.1.2.1.1 285 13 kF_216_285_13)).trans (((f15.1.2.1.1 285 13 kF_216_285_13)).trans (f10.1.2.1.1 285 13 kF_216_285_13)))
  have e36 : hV H5 285 35 = hV H0 285 35 := ((f25.1.2.1.1 285 35 kF_216_285_35)).trans (((f20.1.2.1.1 285 35 kF_216_285_35)).trans (((f15.1.2.1.1 285 35 kF_216_285_35)).trans (((f10.1.2.1.1 285 35 kF_216_285_35)).trans (f6.1.2.1.1 285 35 kF_236_285_35))))
  have e41 : hV H5 285 51 = hV H1 285 51 := ((f25.1.2.1.1 285 51 kF_216_285_51)).trans (((f20.1.2.1.1 285 51 kF_216_285_51)).trans (((f15.1.2.1.1 285 51 kF_216_285_51)).trans (f10.1.2.1.1 285 51 kF_216_285_51)))
  have e46 : hV H5 285 55 = hV H1 285 55 := ((f25.1.2.1.1 285 55 kF_216_285_55)).trans (((f20.1.2.1.1 285 55 kF_216_285_55)).trans (((f15.1.2.1.1 285 55 kF_216_285_55)).trans (f10.1.2.1.1 285 55 kF_216_285_55)))
  have e48 : hV H5 288 = hV H0 288 := (fRow f25.1.2.1 288 kR_216_288).trans e22
  have e55 : hV H5 320 = hV H1 320 := (fRow f25.1.2.1 320 kR_216_320).trans ((fRow f20.1.2.1 320 kR_216_320).trans ((fRow f15.1.2.1 320 kR_216_320).trans (fRow f10.1.2.1 320 kR_216_320)))
  have e62 : hV H5 321 = hV H1 321 := (fRow f25.1.2.1 321 kR_216_321).trans ((fRow f20.1.2.1 321 kR_216_321).trans ((fRow f15.1.2.1 321 kR_216_321).trans (fRow f10.1.2.1 321 kR_216_321)))
  have e69 : hV H5 322 = hV H1 322 := (fRow f25.1.2.1 322 kR_216_322).trans ((fRow f20.1.2.1 322 kR_216_322).trans ((fRow f15.1.2.1 322 kR_216_322).trans (fRow f10.1.2.1 322 kR_216_322)))
  have e70 : RR H2 = RR H1 := RR_fr f10.1.2.1 (by decide +kernel)
  have e71 : RR H3 = RR H2 := RR_fr f15.1.2.1 (by decide +kernel)
  have e72 : RR H3 = RR H1 := e71.trans e70
  have e73 : RR H4 = RR H3 := RR_fr f20.1.2.1 (by decide +kernel)
  have e74 : RR H4 = RR H1 := e73.trans e72
  have e75 : RR H5 = RR H4 := RR_fr f25.1.2.1 (by decide +kernel)
  have e76 : RR H5 = RR H1 := e75.trans e74
  have e77 : (0 : Int) ≤ hV H1 285 11 ∧ hV H1 285 11 ≤ 500 := f6.1.2.2 285 11 _ _ kW_285_11
  have e78 : (0 : Int) ≤ hV H1 285 12 ∧ hV H1 285 12 ≤ 7 := f6.1.2.2 285 12 _ _ kW_285_12
  have e79 : (0 : Int) ≤ hV H1 285 13 ∧ hV H1 285 13 ≤ 2 := f6.1.2.2 285 13 _ _ kW_285_13
  have e80 : (0 : Int) ≤ hV H0 285 34 ∧ hV H0 285 34 ≤ 1 := bTo ((f6.1.2.1.1 285 34 kF_236_285_34)) (f6.1.2.2 285 34 _ _ kW_285_34)
  have e81 : (0 : Int) ≤ hV H0 285 35 ∧ hV H0 285 35 ≤ 1 := bTo e3 (f6.1.2.2 285 35 _ _ kW_285_35)
  have e82 : (0 : Int) ≤ hV H1 285 51 ∧ hV H1 285 51 ≤ 1200 := f6.1.2.2 285 51 _ _ kW_285_51
  have e83 : (0 : Int) ≤ hV H1 285 55 ∧ hV H1 285 55 ≤ 64 := f6.1.2.2 285 55 _ _ kW_285_55
  try simp only [e24, e29, e31, e36, e41, e46, e48, e55, e62, e69, e76]
  have y0 := g4.1
  have y1 := g4.2.1
  have y2 := g4.2.2.1
  have y3 := g4.2.2.2.1
  have y4 := g4.2.2.2.2.1
  have y5 := g4.2.2.2.2.2.1
  have y6 := g4.2.2.2.2.2.2.1
  have y7 := g4.2.2.2.2.2.2.2.1
  have y8 := g4.2.2.2.2.2.2.2.2.1
  have y9 := g4.2.2.2.2.2.2.2.2.2.1
  have y10 := g4.2.2.2.2.2.2.2.2.2.2
  have p0 := g3.1
  have p1 := g3.2.1
  have p2 := g3.2.2.1
  have p3 := g3.2.2.2.1
  have p4 := g3.2.2.2.2
  have r0_0 := f10.2.1
  have r1_0 := f15.2.1
  have r2_0 := f20.2.1
  have r3_0 := f25.2.1
  have r3_1 := f25.2.2.resolve_right (fun z => f26 z.1)
  try simp only [e3] at y7
  try simp only [e7] at r0_0
  try simp only [e14] at r1_0
  try simp only [e20] at r2_0
  try simp only [e31] at r3_0
  try simp only [e18, e20, e22, e24, e29, e31, e36, e41, e46, e48, e55, e62, e69, e76] at r3_1
  clear g3
  clear g4
  clear e3 e7 e14 e18 e20 e22 e24 e29 e31 e36 e41 e46 e48 e55 e62 e69 e70 e71 e72 e73 e74 e75 e76
  clear f6 f10 f15 f20 f25
  try have wl := wo_leI (w := hV H1 322) (n := hV H1 285 55) (by omega)
  try have wb := WT_bound y2 (by omega)
  try have wl2 := wo_leI (w := hV H1 322) (n := hV H2 285 55) (by omega)
  try have wl3 := wo_leI (w := hV H1 322) (n := hV H3 285 55) (by omega)
  try have wl4 := wo_leI (w := hV H1 322) (n := hV H4 285 55) (by omega)
  try have wl5 := wo_leI (w := hV H1 322) (n := hV H5 285 55) (by omega)
  try have wl6 := wo_leI (w := hV H1 322) (n := hV H6 285 55) (by omega)
  try have wl7 := wo_leI (w := hV H1 322) (n := hV H7 285 55) (by omega)
  try have wl8 := wo_leI (w := hV H1 322) (n := hV H8 285 55) (by omega)
  try have wl9 := wo_leI (w := hV H1 322) (n := hV H9 285 55) (by omega)
  try have wl10 := wo_leI (w := hV H1 322) (n := hV H10 285 55) (by omega)

  refine ⟨⟨?_, ?_, ?_, ?_, ?_, ?_, ?_, ?_, ?_, ?_, ?_⟩, fun q hq => ?_⟩
  · exact y0
  · intro z
    exact y1 (by omega)
  · exact y2
  · first | omega | (rw [wo_push] <;> omega)
  · first | omega | (rw [wo_push] <;> omega)
  · first | omega | (rw [wo_push] <;> omega)
  · first | omega | (rw [wo_push] <;> omega)
  · first | omega | (rw [wo_push] <;> omega)
  · first | omega | (rw [wo_push] <;> omega)
  · first | omega | (rw [wo_push] <;> omega)
  · first | omega | (rw [wo_push] <;> omega)
  · have g6 := Option.some.inj hq
    subst g6
    omega
def g_236_96_2 : vG := ([(0, [12], [], 1), (31, [11], [], 0), (1216, [11, 1, 10], [4, 5], 0), (90, [11], [], 0), (91, [11], [], 1), (0, [10], [], 10), (30, [9], [], 0), (1216, [9, 1, 8], [3, 4], 0), (90, [9], [], 0), (91, [9], [], 1), (0, [8], [], 9), (30, [7], [], 0), (1216, [7, 1, 6], [2, 3], 0), (90, [7], [], 0), (91, [7], [], 1), (0, [6], [], 8), (30, [5], [], 0), (1216, [5, 1, 4], [1, 2], 0), (90, [5], [], 0), (91, [5], [], 1), (0, [4], [], 7), (5000, [0, 1, 2, 3], [0, 1], 96), (0, [0], [], 285), (0, [1], [], 285), (90, [2], [], 0), (91, [2], [], 7), (90, [3], [], -2147483648), (91, [3], [], 2147483647)], (4000, [1, 2, 12], [5], 187))
theorem c_236_96_2 {q0 : Nat} : vOkm T0 (eP e_236 L_236 A_236 mu_236 (some q0)) 1 g_236_96_2 := vOk_inI fun ρ η f0 f1 f2 f3 f4 f5 f6 f7 f8 f9 f10 f11 f12 f13 f14 f15 f16 f17 f18 f19 f20 f21 f22 f23 f24 f25 f26 f27 => q_236_19 (q0 := q0) (n0 := ρ 3) (n1 := ρ 2) (n2 := ρ 1) (n3 := ρ 0) (n4 := ρ 4) (n5 := ρ 5) (n6 := ρ 6) (n7 := ρ 7) (n8 := ρ 8) (n9 := ρ 9) (n10 := ρ 10) (n11 := ρ 11) (n12 := ρ 12) (H0 := η 0) (H1 := η 1) (H2 := η 2) (H3 := η 3) (H4 := η 4) (H5 := η 5) f27 f26 f25 f24 f23 f22 f21 f20 f19 f18 f17 f16 f15 f14 f13 f12 f11 f10 f9 f8 f7 f6 f5 f4 f3 f2 f1 f0
set_option maxHeartbeats 20000000 in
theorem q_236_20 {q0 : Nat} {n0 n1 n2 n3 n4 n5 n6 n7 n8 n9 n10 n11 n12 n13 n14 : Int} {H0 H1 H2 H3 H4 H5 H6 : gH} (f0 : n0 ≤ 2147483647) (f1 : (-2147483648) ≤ n0) (f2 : n1 ≤ 7) (f3 : 0 ≤ n1) (f4 : n2 = 285) (f5 : n3 = 285) (f6 : (hLe T0 H0 H1 ∧ hFr s_236.2.2.2.2 H0 H1 ∧ hWt T0 H1) ∧ (Ab_236_96 n3 n2 n1 n0 H0 H1 ∧ preb_236 n3 H0) ∧ some q0 = some (mub_236_96 n3 n2 n1 n0 H0 H1)) (f7 : n4 = 7) (f8 : n5 ≤ 1) (f9 : 0 ≤ n5) (f10 : (hLe T0 H1 H2 ∧ hFr s_216.2.2.2.2 H1 H2 ∧ ((0 : Int) = 0 → H2.length = H1.length) ∧ hWt T0 H2) ∧ postb_216 n5 n2 n4 H1 H2) (f11 : n5 = 0) (f12 : n6 = 8) (f13 : n7 ≤ 1) (f14 : 0 ≤ n7) (f15 : (hLe T0 H2 H3 ∧ hFr s_216.2.2.2.2 H2 H3 ∧ ((0 : Int) = 0 → H3.length = H2.length) ∧ hWt T0 H3) ∧ postb_216 n7 n2 n6 H2 H3) (f16 : n7 = 0) (f17 : n8 = 9) (f18 : n9 ≤ 1) (f19 : 0 ≤ n9) (f20 : (hLe T0 H3 H4 ∧ hFr s_216.2.2.2.2 H3 H4 ∧ ((0 : Int) = 0 → H4.length = H3.length) ∧ hWt T0 H4) ∧ postb_216 n9 n2 n8 H3 H4) (f21 : n9 = 0) (f22 : n10 = 10) (f23 : n11 ≤ 1) (f24 : 0 ≤ n11) (f25 : (hLe T0 H4 H5 ∧ hFr s_216.2.2.2.2 H4 H5 ∧ ((0 : Int) = 0 → H5.length = H4.length) ∧ hWt T0 H5) ∧ postb_216 n11 n2 n10 H4 H5) (f26 : n11 = 0) (f27 : n12 = 15) (f28 : n13 ≤ 1) (f29 : 0 ≤ n13) (f30 : (hLe T0 H5 H6 ∧ hFr s_216.2.2.2.2 H5 H6 ∧ ((0 : Int) = 0 → H6.length = H5.length) ∧ hWt T0 H6) ∧ postb_216 n13 n2 n12 H5 H6) (f31 : n13 = 0) (f32 : n14 = 0) : Ab_236_187 n3 n2 n1 n14 H0 H6 ∧ ∀ q, some q0 = some q → mub_236_187 n3 n2 n1 n14 H0 H6 < q := by
  have g4 := f6.2.1.1
  unfold Ab_236_96 at g4
  have g3 := f6.2.1.2
  unfold preb_236 at g3
  have g5 := Option.some.inj f6.2.2
  unfold mub_236_96 at g5
  unfold postb_216 at f10
  unfold postb_216 at f15
  unfold postb_216 at f20
  unfold postb_216 at f25
  unfold postb_216 at f30
  unfold Ab_236_187
  unfold mub_236_187
  have e3 : hV H1 285 35 = hV H0 285 35 := (f6.1.2.1.1 285 35 kF_236_285_35)
  have e7 : hV H2 285 13 = hV H1 285 13 := (f10.1.2.1.1 285 13 kF_216_285_13)
  have e14 : hV H3 285 13 = hV H1 285 13 := ((f15.1.2.1.1 285 13 kF_216_285_13)).trans (f10.1.2.1.1 285 13 kF_216_285_13)
  have e20 : hV H4 285 13 = hV H1 285 13 := ((f20.1.2.1.1 285 13 kF_216_285_13)).trans (((f15.1.2.1.1 285 13 kF_216_285_13)).trans (f10.1.2.1.1 285 13 kF_216_285_13))
  have e26 : hV H5 285 13 = hV H1 285 13 := ((f25.1.2.1.1 285 13 kF_216_285_13)).trans (((f20.1.2.1.1 285 13 kF_216_285_13)).trans (((f15.1.2.1.1 285 13 kF_216_285_13)).trans (f10.1.2.1.1 285 13 kF_216_285_13)))
  have e30 : hV H6 285 11 = hV H1 285 11 := ((f30.1.2.1.1 285 11 kF_216_285_11)).trans (((f25.1.2.1.1 285 11 kF_216_285_11)).trans (((f20.1.2.1.1 285 11 kF_216_285_11)).trans (((f15.1.2.1.1 285 11 kF_216_285_11)).trans (f10.1.2.1.1 285 11 kF_216_285_11))))
  have e36 : hV H6 285 12 = hV H1 285 12 := ((f30.1.2.1.1 285 12 kF_216_285_12)).trans (((f25.1.2.1.1 285 12 kF_216_285_12)).trans (((f20.1.2.1.1 285 12 kF_216_285_12)).trans (((f15.1.2.1.1 285 12 kF_216_285_12)).trans (f10.1.2.1.1 285 12 kF_216_285_12))))
  have e38 : hV H6 285 13 = hV H1 285 13 := ((f30.1.2.1.1 285 13 kF_216_285_13)).trans (((f25.1.2.1.1 285 13 kF_216_285_13)).trans (((f20.1.2.1.1 285 13 kF_216_285_13)).trans (((f15.1.2.1.1 285 13 kF_216_285_13)).trans (f10.1.2.1.1 285 13 kF_216_285_13))))
  have e44 : hV H6 285 35 = hV H0 285 35 := ((f30.1.2.1.1 285 35 kF_216_285_35)).trans (((f25.1.2.1.1 285 35 kF_216_285_35)).trans (((f20.1.2.1.1 285 35 kF_216_285_35)).trans (((f15.1.2.1.1 285 35 kF_216_285_35)).trans (((f10.1.2.1.1 285 35 kF_216_285_35)).trans (f6.1.2.1.1 285 35 kF_236_285_35)))))
  have e50 : hV H6 285 51 = hV H1 285 51 := ((f30.1.2.1.1 285 51 kF_216_285_51)).trans (((f25.1.2.1.1 285 51 kF_216_285_51)).trans (((f20.1.2.1.1 285 51 kF_216_285_51)).trans (((f15.1.2.1.1 285 51 kF_216_285_51)).trans (f10.1.2.1.1 285 51 kF_216_285_51))))
  have e56 : hV H6 285 55 = hV H1 285 55 := ((f30.1.2.1.1 285 55 kF_216_285_55)).trans (((f25.1.2.1.1 285 55 kF_216_285_55)).trans (((f20.1.2.1.1 285 55 kF_216_285_55)).trans (((f15.1.2.1.1 285 55 kF_216_285_55)).trans (f10.1.2.1.1 285 55 kF_216_285_55))))
  have e58 : hV H6 288 = hV H0 288 := (fRow f30.1.2.1 288 kR_216_288).trans ((fRow f25.1.2.1 288 kR_216_288).trans ((fRow f20.1.2.1 288 kR_216_288).trans ((fRow f15.1.2.1 288 kR_216_288).trans ((fRow f10.1.2.1 288 kR_216_288).trans (fRow f6.1.2.1 288 kR_236_288)))))
  have e67 : hV H6 320 = hV H1 320 := (fRow f30.1.2.1 320 kR_216_320).trans ((fRow f25.1.2.1 320 kR_216_320).trans ((fRow f20.1.2.1 320 kR_216_320).trans ((fRow f15.1.2.1 320 kR_216_320).trans (fRow f10.1.2.1 320 kR_216_320))))
  have e76 : hV H6 321 = hV H1 321 := (fRow f30.1.2.1 321 kR_216_321).trans ((fRow f25.1.2.1 321 kR_216_321).trans ((fRow f20.1.2.1 321 kR_216_321).trans ((fRow f15.1.2.1 321 kR_216_321).trans (fRow f10.1.2.1 321 kR_216_321))))
  have e85 : hV H6 322 = hV H1 322 := (fRow f30.1.2.1 322 kR_216_322).trans ((fRow f25.1.2.1 322 kR_216_322).trans ((fRow f20.1.2.1 322 kR_216_322).trans ((fRow f15.1.2.1 322 kR_216_322).trans (fRow f10.1.2.1 322 kR_216_322))))
  have e86 : RR H2 = RR H1 := RR_fr f10.1.2.1 (by decide +kernel)
  have e87 : RR H3 = RR H2 := RR_fr f15.1.2.1 (by decide +kernel)
  have e88 : RR H3 = RR H1 := e87.trans e86
  have e89 : RR H4 = RR H3 := RR_fr f20.1.2.1 (by decide +kernel)
  have e90 : RR H4 = RR H1 := e89.trans e88
  have e91 : RR H5 = RR H4 := RR_fr f25.1.2.1 (by decide +kernel)
  have e92 : RR H5 = RR H1 := e91.trans e90
  have e93 : RR H6 = RR H5 := RR_fr f30.1.2.1 (by decide +kernel)
  have e94 : RR H6 = RR H1 := e93.trans e92
  have e95 : (0 : Int) ≤ hV H1 285 11 ∧ hV H1 285 11 ≤ 500 := f6.1.2.2 285 11 _ _ kW_285_11
  have e96 : (0 : Int) ≤ hV H1 285 12 ∧ hV H1 285 12 ≤ 7 := f6.1.2.2 285 12 _ _ kW_285_12
  have e97 : (0 : Int) ≤ hV H1 285 13 ∧ hV H1 285 13 ≤ 2 := f6.1.2.2 285 13 _ _ kW_285_13
  have e98 : (0 : Int) ≤ hV H0 285 34 ∧ hV H0 285 34 ≤ 1 := bTo ((f6.1.2.1.1 285 34 kF_236_285_34)) (f6.1.2.2 285 34 _ _ kW_285_34)
  have e99 : (0 : Int) ≤ hV H0 285 35 ∧ hV H0 285 35 ≤ 1 := bTo e3 (f6.1.2.2 285 35 _ _ kW_285_35)
  have e100 : (0 : Int) ≤ hV H1 285 51 ∧ hV H1 285 51 ≤ 1200 := f6.1.2.2 285 51 _ _ kW_285_51
  have e101 : (0 : Int) ≤ hV H1 285 55 ∧ hV H1 285 55 ≤ 64 := f6.1.2.2 285 55 _ _ kW_285_55
  try simp only [e30, e36, e38, e44, e50, e56, e58, e67, e76, e85, e94]
  have y0 := g4.1
  have y1 := g4.2.1
  have y2 := g4.2.2.1
  have y3 := g4.2.2.2.1
  have y4 := g4.2.2.2.2.1
  have y5 := g4.2.2.2.2.2.1
  have y6 := g4.2.2.2.2.2.2.1
  have y7 := g4.2.2.2.2.2.2.2.1
  have y8 := g4.2.2.2.2.2.2.2.2.1
  have y9 := g4.2.2.2.2.2.2.2.2.2.1
  have y10 := g4.2.2.2.2.2.2.2.2.2.2
  have p0 := g3.1
  have p1 := g3.2.1
  have p2 := g3.2.2.1
  have p3 := g3.2.2.2.1
  have p4 := g3.2.2.2.2
  have r0_0 := f10.2.1
  have r1_0 := f15.2.1
  have r2_0 := f20.2.1
  have r3_0 := f25.2.1
  have r4_0 := f30.2.1
  try simp only [e3] at y7
  try simp only [e7] at r0_0
  try simp only [e14] at r1_0
  try simp only [e20] at r2_0
  try simp only [e26] at r3_0
  try simp only [e38] at r4_0
  clear g3
  clear g4
  clear e3 e7 e14 e20 e26 e30 e36 e38 e44 e50 e56 e58 e67 e76 e85 e86 e87 e88 e89 e90 e91 e92 e93 e94
  clear f6 f10 f15 f20 f25 f30
  try have wl := wo_leI (w := hV H1 322) (n := hV H1 285 55) (by omega)
  try have wb := WT_bound y2 (by omega)
  try have wl2 := wo_leI (w := hV H1 322) (n := hV H2 285 55) (by omega)
  try have wl3 := wo_leI (w := hV H1 322) (n := hV H3 285 55) (by omega)
  try have wl4 := wo_leI (w := hV H1 322) (n := hV H4 285 55) (by omega)
  try have wl5 := wo_leI (w := hV H1 322) (n := hV H5 285 55) (by omega)
  try have wl6 := wo_leI (w := hV H1 322) (n := hV H6 285 55) (by omega)
  try have wl7 := wo_leI (w := hV H1 322) (n := hV H7 285 55) (by omega)
  try have wl8 := wo_leI (w := hV H1 322) (n := hV H8 285 55) (by omega)
  try have wl9 := wo_leI (w := hV H1 322) (n := hV H9 285 55) (by omega)
  try have wl10 := wo_leI (w := hV H1 322) (n := hV H10 285 55) (by omega)

  refine ⟨⟨?_, ?_, ?_, ?_, ?_, ?_, ?_, ?_, ?_, ?_, ?_⟩, fun q hq => ?_⟩
  · exact y0
  · intro z
    exact y1 (by omega)
  · exact y2
  · first | omega | (rw [wo_push] <;> omega)
  · first | omega | (rw [wo_push] <;> omega)
  · first | omega | (rw [wo_push] <;> omega)
  · first | omega | (rw [wo_push] <;> omega)
  · first | omega | (rw [wo_push] <;> omega)
  · first | omega | (rw [wo_push] <;> omega)
  · first | omega | (rw [wo_push] <;> omega)
  · first | omega | (rw [wo_push] <;> omega)
  · have g6 := Option.some.inj hq
    subst g6
    omega
def g_236_96_3 : vG := ([(0, [14], [], 0), (30, [13], [], 0), (1216, [13, 1, 12], [5, 6], 0), (90, [13], [], 0), (91, [13], [], 1), (0, [12], [], 15), (30, [11], [], 0), (1216, [11, 1, 10], [4, 5], 0), (90, [11], [], 0), (91, [11], [], 1), (0, [10], [], 10), (30, [9], [], 0), (1216, [9, 1, 8], [3, 4], 0), (90, [9], [], 0), (91, [9], [], 1), (0, [8], [], 9), (30, [7], [], 0), (1216, [7, 1, 6], [2, 3], 0), (90, [7], [], 0), (91, [7], [], 1), (0, [6], [], 8), (30, [5], [], 0), (1216, [5, 1, 4], [1, 2], 0), (90, [5], [], 0), (91, [5], [], 1), (0, [4], [], 7), (5000, [0, 1, 2, 3], [0, 1], 96), (0, [0], [], 285), (0, [1], [], 285), (90, [2], [], 0), (91, [2], [], 7), (90, [3], [], -2147483648), (91, [3], [], 2147483647)], (4000, [1, 2, 14], [6], 187))
theorem c_236_96_3 {q0 : Nat} : vOkm T0 (eP e_236 L_236 A_236 mu_236 (some q0)) 1 g_236_96_3 := vOk_inI fun ρ η f0 f1 f2 f3 f4 f5 f6 f7 f8 f9 f10 f11 f12 f13 f14 f15 f16 f17 f18 f19 f20 f21 f22 f23 f24 f25 f26 f27 f28 f29 f30 f31 f32 => q_236_20 (q0 := q0) (n0 := ρ 3) (n1 := ρ 2) (n2 := ρ 1) (n3 := ρ 0) (n4 := ρ 4) (n5 := ρ 5) (n6 := ρ 6) (n7 := ρ 7) (n8 := ρ 8) (n9 := ρ 9) (n10 := ρ 10) (n11 := ρ 11) (n12 := ρ 12) (n13 := ρ 13) (n14 := ρ 14) (H0 := η 0) (H1 := η 1) (H2 := η 2) (H3 := η 3) (H4 := η 4) (H5 := η 5) (H6 := η 6) f32 f31 f30 f29 f28 f27 f26 f25 f24 f23 f22 f21 f20 f19 f18 f17 f16 f15 f14 f13 f12 f11 f10 f9 f8 f7 f6 f5 f4 f3 f2 f1 f0
set_option maxHeartbeats 20000000 in
theorem q_236_21 {q0 : Nat} {n0 n1 n2 n3 n4 n5 n6 n7 n8 n9 n10 n11 n12 n13 n14 : Int} {H0 H1 H2 H3 H4 H5 H6 : gH} (f0 : n0 ≤ 2147483647) (f1 : (-2147483648) ≤ n0) (f2 : n1 ≤ 7) (f3 : 0 ≤ n1) (f4 : n2 = 285) (f5 : n3 = 285) (f6 : (hLe T0 H0 H1 ∧ hFr s_236.2.2.2.2 H0 H1 ∧ hWt T0 H1) ∧ (Ab_236_96 n3 n2 n1 n0 H0 H1 ∧ preb_236 n3 H0) ∧ some q0 = some (mub_236_96 n3 n2 n1 n0 H0 H1)) (f7 : n4 = 7) (f8 : n5 ≤ 1) (f9 : 0 ≤ n5) (f10 : (hLe T0 H1 H2 ∧ hFr s_216.2.2.2.2 H1 H2 ∧ ((0 : Int) = 0 → H2.length = H1.length) ∧ hWt T0 H2) ∧ postb_216 n5 n2 n4 H1 H2) (f11 : n5 = 0) (f12 : n6 = 8) (f13 : n7 ≤ 1) (f14 : 0 ≤ n7) (f15 : (hLe T0 H2 H3 ∧ hFr s_216.2.2.2.2 H2 H3 ∧ ((0 : Int) = 0 → H3.length = H2.length) ∧ hWt T0 H3) ∧ postb_216 n7 n2 n6 H2 H3) (f16 : n7 = 0) (f17 : n8 = 9) (f18 : n9 ≤ 1) (f19 : 0 ≤ n9) (f20 : (hLe T0 H3 H4 ∧ hFr s_216.2.2.2.2 H3 H4 ∧ ((0 : Int) = 0 → H4.length = H3.length) ∧ hWt T0 H4) ∧ postb_216 n9 n2 n8 H3 H4) (f21 : n9 = 0) (f22 : n10 = 10) (f23 : n11 ≤ 1) (f24 : 0 ≤ n11) (f25 : (hLe T0 H4 H5 ∧ hFr s_216.2.2.2.2 H4 H5 ∧ ((0 : Int) = 0 → H5.length = H4.length) ∧ hWt T0 H5) ∧ postb_216 n11 n2 n10 H4 H5) (f26 : n11 = 0) (f27 : n12 = 15) (f28 : n13 ≤ 1) (f29 : 0 ≤ n13) (f30 : (hLe T0 H5 H6 ∧ hFr s_216.2.2.2.2 H5 H6 ∧ ((0 : Int) = 0 → H6.length = H5.length) ∧ hWt T0 H6) ∧ postb_216 n13 n2 n12 H5 H6) (f31 : n13 ≠ 0) (f32 : n14 = 1) : Ab_236_187 n3 n2 n1 n14 H0 H6 ∧ ∀ q, some q0 = some q → mub_236_187 n3 n2 n1 n14 H0 H6 < q := by
  have g4 := f6.2.1.1
  unfold Ab_236_96 at g4
  have g3 := f6.2.1.2
  unfold preb_236 at g3
  have g5 := Option.some.inj f6.2.2
  unfold mub_236_96 at g5
  unfold postb_216 at f10
  unfold postb_216 at f15
  unfold postb_216 at f20
  unfold postb_216 at f25
  unfold postb_216 at f30
  unfold Ab_236_187
  unfold mub_236_187
  have e3 : hV H1 285 35 = hV H0 285 35 := (f6.1.2.1.1 285 35 kF_236_285_35)
  have e7 : hV H2 285 13 = hV H1 285 13 := (f10.1.2.1.1 285 13 kF_216_285_13)
  have e14 : hV H3 285 13 = hV H1 285 13 := ((f15.1.2.1.1 285 13 kF_216_285_13)).trans (f10.1.2.1.1 285 13 kF_216_285_13)
  have e20 : hV H4 285 13 = hV H1 285 13 := ((f20.1.2.1.1 285 13 kF_216_285_13)).trans (((f15.1.2.1.1 285 13 kF_216_285_13)).trans (f10.1.2.1.1 285 13 kF_216_285_13))
  have e24 : hV H5 285 11 = hV H1 285 11 := ((f25.1.2.1.1 285 11 kF_216_285_11)).trans (((f20.1.2.1.1 285 11 kF_216_285_11)).trans (((f15.1.2.1.1 285 11 kF_216_285_11)).trans (f10.1.2.1.1 285 11 kF_216_285_11)))
  have e26 : hV H5 285 13 = hV H1 285 13 := ((f25.1.2.1.1 285 13 kF_216_285_13)).trans (((f20.1.2.1.1 285 13 kF_216_285_13)).trans (((f15.1.2.1.1 285 13 kF_216_285_13)).trans (f10.1.2.1.1 285 13 kF_216_285_13)))
  have e28 : hV H5 288 = hV H0 288 := (fRow f25.1.2.1 288 kR_216_288).trans ((fRow f20.1.2.1 288 kR_216_288).trans ((fRow f15.1.2.1 288 kR_216_288).trans ((fRow f10.1.2.1 288 kR_216_288).trans (fRow f6.1.2.1 288 kR_236_288))))
  have e30 : hV H6 285 11 = hV H1 285 11 := ((f30.1.2.1.1 285 11 kF_216_285_11)).trans (((f25.1.2.1.1 285 11 kF_216_285_11)).trans (((f20.1.2.1.1 285 11 kF_216_285_11)).trans (((f15.1.2.1.1 285 11 kF_216_285_11)).trans (f10.1.2.1.1 285 11 kF_216_285_11))))
  have e36 : hV H6 285 12 = hV H1 285 12 := ((f30.1.2.1.1 285 12 kF_216_285_12)).trans (((f25.1.2.1.1 285 12 kF_216_285_12)).trans (((f20.1.2.1.1 285 12 kF_216_285_12)).trans (((f15.1.2.1.1 285 12 kF_216_285_12)).trans (f10.1.2.1.1 285 12 kF_216_285_12))))
  have e38 : hV H6 285 13 = hV H1 285 13 := ((f30.1.2.1.1 285 13 kF_216_285_13)).trans (((f25.1.2.1.1 285 13 kF_216_285_13)).trans (((f20.1.2.1.1 285 13 kF_216_285_13)).trans (((f15.1.2.1.1 285 13 kF_216_285_13)).trans (f10.1.2.1.1 285 13 kF_216_285_13))))
  have e44 : hV H6 285 35 = hV H0 285 35 := ((f30.1.2.1.1 285 35 kF_216_285_35)).trans (((f25.1.2.1.1 285 35 kF_216_285_35)).trans (((f20.1.2.1.1 285 35 kF_216_285_35)).trans (((f15.1.2.1.1 285 35 kF_216_285_35)).trans (((f10.1.2.1.1 285 35 kF_216_285_35)).trans (f6.1.2.1.1 285 35 kF_236_285_35)))))
  have e50 : hV H6 285 51 = hV H1 285 51 := ((f30.1.2.1.1 285 51 kF_216_285_51)).trans (((f25.1.2.1.1 285 51 kF_216_285_51)).trans (((f20.1.2.1.1 285 51 kF_216_285_51)).trans (((f15.1.2.1.1 285 51 kF_216_285_51)).trans (f10.1.2.1.1 285 51 kF_216_285_51))))
  have e56 : hV H6 285 55 = hV H1 285 55 := ((f30.1.2.1.1 285 55 kF_216_285_55)).trans (((f25.1.2.1.1 285 55 kF_216_285_55)).trans (((f20.1.2.1.1 285 55 kF_216_285_55)).trans (((f15.1.2.1.1 285 55 kF_216_285_55)).trans (f10.1.2.1.1 285 55 kF_216_285_55))))
  have e58 : hV H6 288 = hV H0 288 := (fRow f30.1.2.1 288 kR_216_288).trans e28
  have e67 : hV H6 320 = hV H1 320 := (fRow f30.1.2.1 320 kR_216_320).trans ((fRow f25.1.2.1 320 kR_216_320).trans ((fRow f20.1.2.1 320 kR_216_320).trans ((fRow f15.1.2.1 320 kR_216_320).trans (fRow f10.1.2.1 320 kR_216_320))))
  have e76 : hV H6 321 = hV H1 321 := (fRow f30.1.2.1 321 kR_216_321).trans ((fRow f25.1.2.1 321 kR_216_321).trans ((fRow f20.1.2.1 321 kR_216_321).trans ((fRow f15.1.2.1 321 kR_216_321).trans (fRow f10.1.2.1 321 kR_216_321))))
  have e85 : hV H6 322 = hV H1 322 := (fRow f30.1.2.1 322 kR_216_322).trans ((fRow f25.1.2.1 322 kR_216_322).trans ((fRow f20.1.2.1 322 kR_216_322).trans ((fRow f15.1.2.1 322 kR_216_322).trans (fRow f10.1.2.1 322 kR_216_322))))
  have e86 : RR H2 = RR H1 := RR_fr f10.1.2.1 (by decide +kernel)
  have e87 : RR H3 = RR H2 := RR_fr f15.1.2.1 (by decide +kernel)
  have e88 : RR H3 = RR H1 := e87.trans e86
  have e89 : RR H4 = RR H3 := RR_fr f20.1.2.1 (by decide +kernel)
  have e90 : RR H4 = RR H1 := e89.trans e88
  have e91 : RR H5 = RR H4 := RR_fr f25.1.2.1 (by decide +kernel)
  have e92 : RR H5 = RR H1 := e91.trans e90
  have e93 : RR H6 = RR H5 := RR_fr f30.1.2.1 (by decide +kernel)
  have e94 : RR H6 = RR H1 := e93.trans e92
  have e95 : (0 : Int) ≤ hV H1 285 11 ∧ hV H1 285 11 ≤ 500 := f6.1.2.2 285 11 _ _ kW_285_11
  have e96 : (0 : Int) ≤ hV H1 285 12 ∧ hV H1 285 12 ≤ 7 := f6.1.2.2 285 12 _ _ kW_285_12
  have e97 : (0 : Int) ≤ hV H1 285 13 ∧ hV H1 285 13 ≤ 2 := f6.1.2.2 285 13 _ _ kW_285_13
  have e98 : (0 : Int) ≤ hV H0 285 34 ∧ hV H0 285 34 ≤ 1 := bTo ((f6.1.2.1.1 285 34 kF_236_285_34)) (f6.1.2.2 285 34 _ _ kW_285_34)
  have e99 : (0 : Int) ≤ hV H0 285 35 ∧ hV H0 285 35 ≤ 1 := bTo e3 (f6.1.2.2 285 35 _ _ kW_285_35)
  have e100 : (0 : Int) ≤ hV H1 285 51 ∧ hV H1 285 51 ≤ 1200 := f6.1.2.2 285 51 _ _ kW_285_51
  have e101 : (0 : Int) ≤ hV H1 285 55 ∧ hV H1 285 55 ≤ 64 := f6.1.2.2 285 55 _ _ kW_285_55
  try simp only [e30, e36, e38, e44, e50, e56, e58, e67, e76, e85, e94]
  have y0 := g4.1
  have y1 := g4.2.1
  have y2 := g4.2.2.1
  have y3 := g4.2.2.2.1
  have y4 := g4.2.2.2.2.1
  have y5 := g4.2.2.2.2.2.1
  have y6 := g4.2.2.2.2.2.2.1
  have y7 := g4.2.2.2.2.2.2.2.1
  have y8 := g4.2.2.2.2.2.2.2.2.1
  have y9 := g4.2.2.2.2.2.2.2.2.2.1
  have y10 := g4.2.2.2.2.2.2.2.2.2.2
  have p0 := g3.1
  have p1 := g3.2.1
  have p2 := g3.2.2.1
  have p3 := g3.2.2.2.1
  have p4 := g3.2.2.2.2
  have r0_0 := f10.2.1
  have r1_0 := f15.2.1
  have r2_0 := f20.2.1
  have r3_0 := f25.2.1
  have r4_0 := f30.2.1
  have r4_1 := f30.2.2.resolve_right (fun z => f31 z.1)
  try simp only [e3] at y7
  try simp only [e7] at r0_0
  try simp only [e14] at r1_0
  try simp only [e20] at r2_0
  try simp only [e26] at r3_0
  try simp only [e38] at r4_0
  try simp only [e24, e26, e28, e30, e36, e38, e44, e50, e56, e58, e67, e76, e85, e94] at r4_1
  clear g3
  clear g4
  clear e3 e7 e14 e20 e24 e26 e28 e30 e36 e38 e44 e50 e56 e58 e67 e76 e85 e86 e87 e88 e89 e90 e91 e92 e93 e94
  clear f6 f10 f15 f20 f25 f30
  try have wl := wo_leI (w := hV H1 322) (n := hV H1 285 55) (by omega)
  try have wb := WT_bound y2 (by omega)
  try have wl2 := wo_leI (w := hV H1 322) (n := hV H2 285 55) (by omega)
  try have wl3 := wo_leI (w := hV H1 322) (n := hV H3 285 55) (by omega)
  try have wl4 := wo_leI (w := hV H1 322) (n := hV H4 285 55) (by omega)
  try have wl5 := wo_leI (w := hV H1 322) (n := hV H5 285 55) (by omega)
  try have wl6 := wo_leI (w := hV H1 322) (n := hV H6 285 55) (by omega)
  try have wl7 := wo_leI (w := hV H1 322) (n := hV H7 285 55) (by omega)
  try have wl8 := wo_leI (w := hV H1 322) (n := hV H8 285 55) (by omega)
  try have wl9 := wo_leI (w := hV H1 322) (n := hV H9 285 55) (by omega)
  try have wl10 := wo_leI (w := hV H1 322) (n := hV H10 285 55) (by omega)

  refine ⟨⟨?_, ?_, ?_, ?_, ?_, ?_, ?_, ?_, ?_, ?_, ?_⟩, fun q hq => ?_⟩
  · exact y0
  · intro z
    exact y1 (by omega)
  · exact y2
  · first | omega | (rw [wo_push] <;> omega)
  · first | omega | (rw [wo_push] <;> omega)
  · first | omega | (rw [wo_push] <;> omega)
  · first | omega | (rw [wo_push] <;> omega)
  · first | omega | (rw [wo_push] <;> omega)
  · first | omega | (rw [wo_push] <;> omega)
  · first | omega | (rw [wo_push] <;> omega)
  · first | omega | (rw [wo_push] <;> omega)
  · have g6 := Option.some.inj hq
    subst g6
    omega
def g_236_96_4 : vG := ([(0, [14], [], 1), (31, [13], [], 0), (1216, [13, 1, 12], [5, 6], 0), (90, [13], [], 0), (91, [13], [], 1), (0, [12], [], 15), (30, [11], [], 0), (1216, [11, 1, 10], [4, 5], 0), (90, [11], [], 0), (91, [11], [], 1), (0, [10], [], 10), (30, [9], [], 0), (1216, [9, 1, 8], [3, 4], 0), (90, [9], [], 0), (91, [9], [], 1), (0, [8], [], 9), (30, [7], [], 0), (1216, [7, 1, 6], [2, 3], 0), (90, [7], [], 0), (91, [7], [], 1), (0, [6], [], 8), (30, [5], [], 0), (1216, [5, 1, 4], [1, 2], 0), (90, [5], [], 0), (91, [5], [], 1), (0, [4], [], 7), (5000, [0, 1, 2, 3], [0, 1], 96), (0, [0], [], 285), (0, [1], [], 285), (90, [2], [], 0), (91, [2], [], 7), (90, [3], [], -2147483648), (91, [3], [], 2147483647)], (4000, [1, 2, 14], [6], 187))
theorem c_236_96_4 {q0 : Nat} : vOkm T0 (eP e_236 L_236 A_236 mu_236 (some q0)) 1 g_236_96_4 := vOk_inI fun ρ η f0 f1 f2 f3 f4 f5 f6 f7 f8 f9 f10 f11 f12 f13 f14 f15 f16 f17 f18 f19 f20 f21 f22 f23 f24 f25 f26 f27 f28 f29 f30 f31 f32 => q_236_21 (q0 := q0) (n0 := ρ 3) (n1 := ρ 2) (n2 := ρ 1) (n3 := ρ 0) (n4 := ρ 4) (n5 := ρ 5) (n6 := ρ 6) (n7 := ρ 7) (n8 := ρ 8) (n9 := ρ 9) (n10 := ρ 10) (n11 := ρ 11) (n12 := ρ 12) (n13 := ρ 13) (n14 := ρ 14) (H0 := η 0) (H1 := η 1) (H2 := η 2) (H3 := η 3) (H4 := η 4) (H5 := η 5) (H6 := η 6) f32 f31 f30 f29 f28 f27 f26 f25 f24 f23 f22 f21 f20 f19 f18 f17 f16 f15 f14 f13 f12 f11 f10 f9 f8 f7 f6 f5 f4 f3 f2 f1 f0
set_option maxHeartbeats 20000000 in
theorem q_236_22 {q0 : Nat} {n0 n1 n2 n3 n4 n5 n6 n7 n8 n9 : Int} {H0 H1 H2 H3 : gH} (f0 : n0 ≤ 2147483647) (f1 : (-2147483648) ≤ n0) (f2 : n1 ≤ 7) (f3 : 0 ≤ n1) (f4 : n2 = 285) (f5 : n3 = 285) (f6 : (hLe T0 H0 H1 ∧ hFr s_236.2.2.2.2 H0 H1 ∧ hWt T0 H1) ∧ (Ab_236_96 n3 n2 n1 n0 H0 H1 ∧ preb_236 n3 H0) ∧ some q0 = some (mub_236_96 n3 n2 n1 n0 H0 H1)) (f7 : n4 = 7) (f8 : n5 ≤ 1) (f9 : 0 ≤ n5) (f10 : (hLe T0 H1 H2 ∧ hFr s_216.2.2.2.2 H1 H2 ∧ ((0 : Int) = 0 → H2.length = H1.length) ∧ hWt T0 H2) ∧ postb_216 n5 n2 n4 H1 H2) (f11 : n5 ≠ 0) (f12 : n6 ≤ 7) (f13 : 0 ≤ n6) (f14 : n6 = hV H2 (n2).toNat 12) (f15 : n6 ≤ n1) (f16 : n7 = 8) (f17 : n8 ≤ 1) (f18 : 0 ≤ n8) (f19 : (hLe T0 H2 H3 ∧ hFr s_216.2.2.2.2 H2 H3 ∧ ((0 : Int) = 0 → H3.length = H2.length) ∧ hWt T0 H3) ∧ postb_216 n8 n2 n7 H2 H3) (f20 : n8 ≠ 0) (f21 : n9 = 1) : Ab_236_187 n3 n2 n1 n9 H0 H3 ∧ ∀ q, some q0 = some q → mub_236_187 n3 n2 n1 n9 H0 H3 < q := by
  have g4 := f6.2.1.1
  unfold Ab_236_96 at g4
  have g3 := f6.2.1.2
  unfold preb_236 at g3
  have g5 := Option.some.inj f6.2.2
  unfold mub_236_96 at g5
  unfold postb_216 at f10
  unfold postb_216 at f19
  unfold Ab_236_187
  unfold mub_236_187
  have e1 : n6 = hV H1 285 12 := (by rw [f4] at f14; exact f14 : n6 = hV H2 285 12).trans ((f10.1.2.1.1 285 12 kF_216_285_12))
  have e3 : hV H1 285 34 = hV H0 285 34 := (f6.1.2.1.1 285 34 kF_236_285_34)
  have e5 : hV H1 285 35 = hV H0 285 35 := (f6.1.2.1.1 285 35 kF_236_285_35)
  have e7 : hV H2 285 11 = hV H1 285 11 := (f10.1.2.1.1 285 11 kF_216_285_11)
  have e9 : hV H2 285 13 = hV H1 285 13 := (f10.1.2.1.1 285 13 kF_216_285_13)
  have e12 : hV H2 288 = hV H0 288 := (fRow f10.1.2.1 288 kR_216_288).trans (fRow f6.1.2.1 288 kR_236_288)
  have e14 : hV H3 285 11 = hV H1 285 11 := ((f19.1.2.1.1 285 11 kF_216_285_11)).trans (f10.1.2.1.1 285 11 kF_216_285_11)
  have e16 : hV H3 285 12 = hV H1 285 12 := ((f19.1.2.1.1 285 12 kF_216_285_12)).trans (f10.1.2.1.1 285 12 kF_216_285_12)
  have e18 : hV H3 285 13 = hV H1 285 13 := ((f19.1.2.1.1 285 13 kF_216_285_13)).trans (f10.1.2.1.1 285 13 kF_216_285_13)
  have e21 : hV H3 285 35 = hV H0 285 35 := ((f19.1.2.1.1 285 35 kF_216_285_35)).trans (((f10.1.2.1.1 285 35 kF_216_285_35)).trans (f6.1.2.1.1 285 35 kF_236_285_35))
  have e24 : hV H3 285 51 = hV H1 285 51 := ((f19.1.2.1.1 285 51 kF_216_285_51)).trans (f10.1.2.1.1 285 51 kF_216_285_51)
  have e27 : hV H3 285 55 = hV H1 285 55 := ((f19.1.2.1.1 285 55 kF_216_285_55)).trans (f10.1.2.1.1 285 55 kF_216_285_55)
  have e29 : hV H3 288 = hV H0 288 := (fRow f19.1.2.1 288 kR_216_288).trans e12
  have e32 : hV H3 320 = hV H1 320 := (fRow f19.1.2.1 320 kR_216_320).trans (fRow f10.1.2.1 320 kR_216_320)
  have e35 : hV H3 321 = hV H1 321 := (fRow f19.1.2.1 321 kR_216_321).trans (fRow f10.1.2.1 321 kR_216_321)
  have e38 : hV H3 322 = hV H1 322 := (fRow f19.1.2.1 322 kR_216_322).trans (fRow f10.1.2.1 322 kR_216_322)
  have e39 : RR H2 = RR H1 := RR_fr f10.1.2.1 (by decide +kernel)
  have e40 : RR H3 = RR H2 := RR_fr f19.1.2.1 (by decide +kernel)
  have e41 : RR H3 = RR H1 := e40.trans e39
  have e42 : (0 : Int) ≤ hV H1 285 11 ∧ hV H1 285 11 ≤ 500 := f6.1.2.2 285 11 _ _ kW_285_11
  have e43 : (0 : Int) ≤ hV H1 285 12 ∧ hV H1 285 12 ≤ 7 := f6.1.2.2 285 12 _ _ kW_285_12
  have e44 : (0 : Int) ≤ hV H1 285 13 ∧ hV H1 285 13 ≤ 2 := f6.1.2.2 285 13 _ _ kW_285_13
  have e45 : (0 : Int) ≤ hV H0 285 34 ∧ hV H0 285 34 ≤ 1 := bTo e3 (f6.1.2.2 285 34 _ _ kW_285_34)
  have e46 : (0 : Int) ≤ hV H0 285 35 ∧ hV H0 285 35 ≤ 1 := bTo e5 (f6.1.2.2 285 35 _ _ kW_285_35)
  have e47 : (0 : Int) ≤ hV H1 285 51 ∧ hV H1 285 51 ≤ 1200 := f6.1.2.2 285 51 _ _ kW_285_51
  have e48 : (0 : Int) ≤ hV H1 285 55 ∧ hV H1 285 55 ≤ 64 := f6.1.2.2 285 55 _ _ kW_285_55
  try simp only [e14, e16, e18, e21, e24, e27, e29, e32, e35, e38, e41]
  have y0 := g4.1
  have y1 := g4.2.1
  have y2 := g4.2.2.1
  have y3 := g4.2.2.2.1
  have y4 := g4.2.2.2.2.1
  have y5 := g4.2.2.2.2.2.1
  have y6 := g4.2.2.2.2.2.2.1
  have y7 := g4.2.2.2.2.2.2.2.1
  have y8 := g4.2.2.2.2.2.2.2.2.1
  have y9 := g4.2.2.2.2.2.2.2.2.2.1
  have y10 := g4.2.2.2.2.2.2.2.2.2.2
  have p0 := g3.1
  have p1 := g3.2.1
  have p2 := g3.2.2.1
  have p3 := g3.2.2.2.1
  have p4 := g3.2.2.2.2
  have r0_0 := f10.2.1
  have r0_1 := f10.2.2.resolve_right (fun z => f11 z.1)
  have r1_0 := f19.2.1
  have r1_1 := f19.2.2.resolve_right (fun z => f20 z.1)
  try simp only [e5] at y7
  try simp only [e9] at r0_0
  try simp only [e3, e5, e7, e9, e12] at r0_1
  try simp only [e18] at r1_0
  try simp only [e7, e9, e12, e14, e16, e18, e21, e24, e27, e29, e32, e35, e38, e41] at r1_1
  clear g3
  clear g4
  clear f14 e3 e5 e7 e9 e12 e14 e16 e18 e21 e24 e27 e29 e32 e35 e38 e39 e40 e41
  clear f6 f10 f19
  subst e1
  try have wl := wo_leI (w := hV H1 322) (n := hV H1 285 55) (by omega)
  try have wb := WT_bound y2 (by omega)
  try have wl2 := wo_leI (w := hV H1 322) (n := hV H2 285 55) (by omega)
  try have wl3 := wo_leI (w := hV H1 322) (n := hV H3 285 55) (by omega)
  try have wl4 := wo_leI (w := hV H1 322) (n := hV H4 285 55) (by omega)
  try have wl5 := wo_leI (w := hV H1 322) (n := hV H5 285 55) (by omega)
  try have wl6 := wo_leI (w := hV H1 322) (n := hV H6 285 55) (by omega)
  try have wl7 := wo_leI (w := hV H1 322) (n := hV H7 285 55) (by omega)
  try have wl8 := wo_leI (w := hV H1 322) (n := hV H8 285 55) (by omega)
  try have wl9 := wo_leI (w := hV H1 322) (n := hV H9 285 55) (by omega)
  try have wl10 := wo_leI (w := hV H1 322) (n := hV H10 285 55) (by omega)

  refine ⟨⟨?_, ?_, ?_, ?_, ?_, ?_, ?_, ?_, ?_, ?_, ?_⟩, fun q hq => ?_⟩
  · exact y0
  · intro z
    exact y1 (by omega)
  · exact y2
  · first | omega | (rw [wo_push] <;> omega)
  · first | omega | (rw [wo_push] <;> omega)
  · first | omega | (rw [wo_push] <;> omega)
  · first | omega | (rw [wo_push] <;> omega)
  · first | omega | (rw [wo_push] <;> omega)
  · first | omega | (rw [wo_push] <;> omega)
  · first | omega | (rw [wo_push] <;> omega)
  · first | omega | (rw [wo_push] <;> omega)
  · have g6 := Option.some.inj hq
    subst g6
    omega
def g_236_96_5 : vG := ([(0, [9], [], 1), (31, [8], [], 0), (1216, [8, 1, 7], [2, 3], 0), (90, [8], [], 0), (91, [8], [], 1), (0, [7], [], 8), (45, [6, 2], [], 0), (20, [6, 1], [2], 12), (90, [6], [], 0), (91, [6], [], 7), (31, [5], [], 0), (1216, [5, 1, 4], [1, 2], 0), (90, [5], [], 0), (91, [5], [], 1), (0, [4], [], 7), (5000, [0, 1, 2, 3], [0, 1], 96), (0, [0], [], 285), (0, [1], [], 285), (90, [2], [], 0), (91, [2], [], 7), (90, [3], [], -2147483648), (91, [3], [], 2147483647)], (4000, [1, 2, 9], [3], 187))
theorem c_236_96_5 {q0 : Nat} : vOkm T0 (eP e_236 L_236 A_236 mu_236 (some q0)) 1 g_236_96_5 := vOk_inI fun ρ η f0 f1 f2 f3 f4 f5 f6 f7 f8 f9 f10 f11 f12 f13 f14 f15 f16 f17 f18 f19 f20 f21 => q_236_22 (q0 := q0) (n0 := ρ 3) (n1 := ρ 2) (n2 := ρ 1) (n3 := ρ 0) (n4 := ρ 4) (n5 := ρ 5) (n6 := ρ 6) (n7 := ρ 7) (n8 := ρ 8) (n9 := ρ 9) (H0 := η 0) (H1 := η 1) (H2 := η 2) (H3 := η 3) f21 f20 f19 f18 f17 f16 f15 f14 f13 f12 f11 f10 f9 f8 f7 f6 f5 f4 f3 f2 f1 f0
set_option maxHeartbeats 20000000 in
theorem q_236_23 {q0 : Nat} {n0 n1 n2 n3 n4 n5 n6 n7 n8 n9 n10 n11 : Int} {H0 H1 H2 H3 H4 : gH} (f0 : n0 ≤ 2147483647) (f1 : (-2147483648) ≤ n0) (f2 : n1 ≤ 7) (f3 : 0 ≤ n1) (f4 : n2 = 285) (f5 : n3 = 285) (f6 : (hLe T0 H0 H1 ∧ hFr s_236.2.2.2.2 H0 H1 ∧ hWt T0 H1) ∧ (Ab_236_96 n3 n2 n1 n0 H0 H1 ∧ preb_236 n3 H0) ∧ some q0 = some (mub_236_96 n3 n2 n1 n0 H0 H1)) (f7 : n4 = 7) (f8 : n5 ≤ 1) (f9 : 0 ≤ n5) (f10 : (hLe T0 H1 H2 ∧ hFr s_216.2.2.2.2 H1 H2 ∧ ((0 : Int) = 0 → H2.length = H1.length) ∧ hWt T0 H2) ∧ postb_216 n5 n2 n4 H1 H2) (f11 : n5 ≠ 0) (f12 : n6 ≤ 7) (f13 : 0 ≤ n6) (f14 : n6 = hV H2 (n2).toNat 12) (f15 : n6 ≤ n1) (f16 : n7 = 8) (f17 : n8 ≤ 1) (f18 : 0 ≤ n8) (f19 : (hLe T0 H2 H3 ∧ hFr s_216.2.2.2.2 H2 H3 ∧ ((0 : Int) = 0 → H3.length = H2.length) ∧ hWt T0 H3) ∧ postb_216 n8 n2 n7 H2 H3) (f20 : n8 = 0) (f21 : n9 = 9) (f22 : n10 ≤ 1) (f23 : 0 ≤ n10) (f24 : (hLe T0 H3 H4 ∧ hFr s_216.2.2.2.2 H3 H4 ∧ ((0 : Int) = 0 → H4.length = H3.length) ∧ hWt T0 H4) ∧ postb_216 n10 n2 n9 H3 H4) (f25 : n10 ≠ 0) (f26 : n11 = 1) : Ab_236_187 n3 n2 n1 n11 H0 H4 ∧ ∀ q, some q0 = some q → mub_236_187 n3 n2 n1 n11 H0 H4 < q := by
  have g4 := f6.2.1.1
  unfold Ab_236_96 at g4
  have g3 := f6.2.1.2
  unfold preb_236 at g3
  have g5 := Option.some.inj f6.2.2
  unfold mub_236_96 at g5
  unfold postb_216 at f10
  unfold postb_216 at f19
  unfold postb_216 at f24
  unfold Ab_236_187
  unfold mub_236_187
  have e1 : n6 = hV H1 285 12 := (by rw [f4] at f14; exact f14 : n6 = hV H2 285 12).trans ((f10.1.2.1.1 285 12 kF_216_285_12))
  have e3 : hV H1 285 34 = hV H0 285 34 := (f6.1.2.1.1 285 34 kF_236_285_34)
  have e5 : hV H1 285 35 = hV H0 285 35 := (f6.1.2.1.1 285 35 kF_236_285_35)
  have e7 : hV H2 285 11 = hV H1 285 11 := (f10.1.2.1.1 285 11 kF_216_285_11)
  have e9 : hV H2 285 13 = hV H1 285 13 := (f10.1.2.1.1 285 13 kF_216_285_13)
  have e12 : hV H2 288 = hV H0 288 := (fRow f10.1.2.1 288 kR_216_288).trans (fRow f6.1.2.1 288 kR_236_288)
  have e14 : hV H3 285 11 = hV H1 285 11 := ((f19.1.2.1.1 285 11 kF_216_285_11)).trans (f10.1.2.1.1 285 11 kF_216_285_11)
  have e16 : hV H3 285 13 = hV H1 285 13 := ((f19.1.2.1.1 285 13 kF_216_285_13)).trans (f10.1.2.1.1 285 13 kF_216_285_13)
  have e18 : hV H3 288 = hV H0 288 := (fRow f19.1.2.1 288 kR_216_288).trans e12
  have e20 : hV H4 285 11 = hV H1 285 11 := ((f24.1.2.1.1 285 11 kF_216_285_11)).trans (((f19.1.2.1.1 285 11 kF_216_285_11)).trans (f10.1.2.1.1 285 11 kF_216_285_11))
  have e23 : hV H4 285 12 = hV H1 285 12 := ((f24.1.2.1.1 285 12 kF_216_285_12)).trans (((f19.1.2.1.1 285 12 kF_216_285_12)).trans (f10.1.2.1.1 285 12 kF_216_285_12))
  have e25 : hV H4 285 13 = hV H1 285 13 := ((f24.1.2.1.1 285 13 kF_216_285_13)).trans (((f19.1.2.1.1 285 13 kF_216_285_13)).trans (f10.1.2.1.1 285 13 kF_216_285_13))
  have e29 : hV H4 285 35 = hV H0 285 35 := ((f24.1.2.1.1 285 35 kF_216_285_35)).trans (((f19.1.2.1.1 285 35 kF_216_285_35)).trans (((f10.1.2.1.1 285 35 kF_216_285_35)).trans (f6.1.2.1.1 285 35 kF_236_285_35)))
  have e33 : hV H4 285 51 = hV H1 285 51 := ((f24.1.2.1.1 285 51 kF_216_285_51)).trans (((f19.1.2.1.1 285 51 kF_216_285_51)).trans (f10.1.2.1.1 285 51 kF_216_285_51))
  have e37 : hV H4 285 55 = hV H1 285 55 := ((f24.1.2.1.1 285 55 kF_216_285_55)).trans (((f19.1.2.1.1 285 55 kF_216_285_55)).trans (f10.1.2.1.1 285 55 kF_216_285_55))
  have e39 : hV H4 288 = hV H0 288 := (fRow f24.1.2.1 288 kR_216_288).trans e18
  have e44 : hV H4 320 = hV H1 320 := (fRow f24.1.2.1 320 kR_216_320).trans ((fRow f19.1.2.1 320 kR_216_320).trans (fRow f10.1.2.1 320 kR_216_320))
  have e49 : hV H4 321 = hV H1 321 := (fRow f24.1.2.1 321 kR_216_321).trans ((fRow f19.1.2.1 321 kR_216_321).trans (fRow f10.1.2.1 321 kR_216_321))
  have e54 : hV H4 322 = hV H1 322 := (fRow f24.1.2.1 322 kR_216_322).trans ((fRow f19.1.2.1 322 kR_216_322).trans (fRow f10.1.2.1 322 kR_216_322))
  have e55 : RR H2 = RR H1 := RR_fr f10.1.2.1 (by decide +kernel)
  have e56 : RR H3 = RR H2 := RR_fr f19.1.2.1 (by decide +kernel)
  have e57 : RR H3 = RR H1 := e56.trans e55
  have e58 : RR H4 = RR H3 := RR_fr f24.1.2.1 (by decide +kernel)
  have e59 : RR H4 = RR H1 := e58.trans e57
  have e60 : (0 : Int) ≤ hV H1 285 11 ∧ hV H1 285 11 ≤ 500 := f6.1.2.2 285 11 _ _ kW_285_11
  have e61 : (0 : Int) ≤ hV H1 285 12 ∧ hV H1 285 12 ≤ 7 := f6.1.2.2 285 12 _ _ kW_285_12
  have e62 : (0 : Int) ≤ hV H1 285 13 ∧ hV H1 285 13 ≤ 2 := f6.1.2.2 285 13 _ _ kW_285_13
  have e63 : (0 : Int) ≤ hV H0 285 34 ∧ hV H0 285 34 ≤ 1 := bTo e3 (f6.1.2.2 285 34 _ _ kW_285_34)
  have e64 : (0 : Int) ≤ hV H0 285 35 ∧ hV H0 285 35 ≤ 1 := bTo e5 (f6.1.2.2 285 35 _ _ kW_285_35)
  have e65 : (0 : Int) ≤ hV H1 285 51 ∧ hV H1 285 51 ≤ 1200 := f6.1.2.2 285 51 _ _ kW_285_51
  have e66 : (0 : Int) ≤ hV H1 285 55 ∧ hV H1 285 55 ≤ 64 := f6.1.2.2 285 55 _ _ kW_285_55
  try simp only [e20, e23, e25, e29, e33, e37, e39, e44, e49, e54, e59]
  have y0 := g4.1
  have y1 := g4.2.1
  have y2 := g4.2.2.1
  have y3 := g4.2.2.2.1
  have y4 := g4.2.2.2.2.1
  have y5 := g4.2.2.2.2.2.1
  have y6 := g4.2.2.2.2.2.2.1
  have y7 := g4.2.2.2.2.2.2.2.1
  have y8 := g4.2.2.2.2.2.2.2.2.1
  have y9 := g4.2.2.2.2.2.2.2.2.2.1
  have y10 := g4.2.2.2.2.2.2.2.2.2.2
  have p0 := g3.1
  have p1 := g3.2.1
  have p2 := g3.2.2.1
  have p3 := g3.2.2.2.1
  have p4 := g3.2.2.2.2
  have r0_0 := f10.2.1
  have r0_1 := f10.2.2.resolve_right (fun z => f11 z.1)
  have r1_0 := f19.2.1
  have r2_0 := f24.2.1
  have r2_1 := f24.2.2.resolve_right (fun z => f25 z.1)
  try simp only [e5] at y7
  try simp only [e9] at r0_0
  try simp only [e3, e5, e7, e9, e12] at r0_1
  try simp only [e16] at r1_0
  try simp only [e25] at r2_0
  try simp only [e14, e16, e18, e20, e23, e25, e29, e33, e37, e39, e44, e49, e54, e59] at r2_1
  clear g3
  clear g4
  clear f14 e3 e5 e7 e9 e12 e14 e16 e18 e20 e23 e25 e29 e33 e37 e39 e44 e49 e54 e55 e56 e57 e58 e59
  clear f6 f10 f19 f24
  subst e1
  try have wl := wo_leI (w := hV H1 322) (n := hV H1 285 55) (by omega)
  try have wb := WT_bound y2 (by omega)
  try have wl2 := wo_leI (w := hV H1 322) (n := hV H2 285 55) (by omega)
  try have wl3 := wo_leI (w := hV H1 322) (n := hV H3 285 55) (by omega)
  try have wl4 := wo_leI (w := hV H1 322) (n := hV H4 285 55) (by omega)
  try have wl5 := wo_leI (w := hV H1 322) (n := hV H5 285 55) (by omega)
  try have wl6 := wo_leI (w := hV H1 322) (n := hV H6 285 55) (by omega)
  try have wl7 := wo_leI (w := hV H1 322) (n := hV H7 285 55) (by omega)
  try have wl8 := wo_leI (w := hV H1 322) (n := hV H8 285 55) (by omega)
  try have wl9 := wo_leI (w := hV H1 322) (n := hV H9 285 55) (by omega)
  try have wl10 := wo_leI (w := hV H1 322) (n := hV H10 285 55) (by omega)

  refine ⟨⟨?_, ?_, ?_, ?_, ?_, ?_, ?_, ?_, ?_, ?_, ?_⟩, fun q hq => ?_⟩
  · exact y0
  · intro z
    exact y1 (by omega)
  · exact y2
  · first | omega | (rw [wo_push] <;> omega)
  · first | omega | (rw [wo_push] <;> omega)
  · first | omega | (rw [wo_push] <;> omega)
  · first | omega | (rw [wo_push] <;> omega)
  · first | omega | (rw [wo_push] <;> omega)
  · first | omega | (rw [wo_push] <;> omega)
  · first | omega | (rw [wo_push] <;> omega)
  · first | omega | (rw [wo_push] <;> omega)
  · have g6 := Option.some.inj hq
    subst g6
    omega
def g_236_96_6 : vG := ([(0, [11], [], 1), (31, [10], [], 0), (1216, [10, 1, 9], [3, 4], 0), (90, [10], [], 0), (91, [10], [], 1), (0, [9], [], 9), (30, [8], [], 0), (1216, [8, 1, 7], [2, 3], 0), (90, [8], [], 0), (91, [8], [], 1), (0, [7], [], 8), (45, [6, 2], [], 0), (20, [6, 1], [2], 12), (90, [6], [], 0), (91, [6], [], 7), (31, [5], [], 0), (1216, [5, 1, 4], [1, 2], 0), (90, [5], [], 0), (91, [5], [], 1), (0, [4], [], 7), (5000, [0, 1, 2, 3], [0, 1], 96), (0, [0], [], 285), (0, [1], [], 285), (90, [2], [], 0), (91, [2], [], 7), (90, [3], [], -2147483648), (91, [3], [], 2147483647)], (4000, [1, 2, 11], [4], 187))
theorem c_236_96_6 {q0 : Nat} : vOkm T0 (eP e_236 L_236 A_236 mu_236 (some q0)) 1 g_236_96_6 := vOk_inI fun ρ η f0 f1 f2 f3 f4 f5 f6 f7 f8 f9 f10 f11 f12 f13 f14 f15 f16 f17 f18 f19 f20 f21 f22 f23 f24 f25 f26 => q_236_23 (q0 := q0) (n0 := ρ 3) (n1 := ρ 2) (n2 := ρ 1) (n3 := ρ 0) (n4 := ρ 4) (n5 := ρ 5) (n6 := ρ 6) (n7 := ρ 7) (n8 := ρ 8) (n9 := ρ 9) (n10 := ρ 10) (n11 := ρ 11) (H0 := η 0) (H1 := η 1) (H2 := η 2) (H3 := η 3) (H4 := η 4) f26 f25 f24 f23 f22 f21 f20 f19 f18 f17 f16 f15 f14 f13 f12 f11 f10 f9 f8 f7 f6 f5 f4 f3 f2 f1 f0
set_option maxHeartbeats 20000000 in
theorem q_236_24 {q0 : Nat} {n0 n1 n2 n3 n4 n5 n6 n7 n8 n9 n10 n11 n12 n13 : Int} {H0 H1 H2 H3 H4 H5 : gH} (f0 : n0 ≤ 2147483647) (f1 : (-2147483648) ≤ n0) (f2 : n1 ≤ 7) (f3 : 0 ≤ n1) (f4 : n2 = 285) (f5 : n3 = 285) (f6 : (hLe T0 H0 H1 ∧ hFr s_236.2.2.2.2 H0 H1 ∧ hWt T0 H1) ∧ (Ab_236_96 n3 n2 n1 n0 H0 H1 ∧ preb_236 n3 H0) ∧ some q0 = some (mub_236_96 n3 n2 n1 n0 H0 H1)) (f7 : n4 = 7) (f8 : n5 ≤ 1) (f9 : 0 ≤ n5) (f10 : (hLe T0 H1 H2 ∧ hFr s_216.2.2.2.2 H1 H2 ∧ ((0 : Int) = 0 → H2.length = H1.length) ∧ hWt T0 H2) ∧ postb_216 n5 n2 n4 H1 H2) (f11 : n5 ≠ 0) (f12 : n6 ≤ 7) (f13 : 0 ≤ n6) (f14 : n6 = hV H2 (n2).toNat 12) (f15 : n6 ≤ n1) (f16 : n7 = 8) (f17 : n8 ≤ 1) (f18 : 0 ≤ n8) (f19 : (hLe T0 H2 H3 ∧ hFr s_216.2.2.2.2 H2 H3 ∧ ((0 : Int) = 0 → H3.length = H2.length) ∧ hWt T0 H3) ∧ postb_216 n8 n2 n7 H2 H3) (f20 : n8 = 0) (f21 : n9 = 9) (f22 : n10 ≤ 1) (f23 : 0 ≤ n10) (f24 : (hLe T0 H3 H4 ∧ hFr s_216.2.2.2.2 H3 H4 ∧ ((0 : Int) = 0 → H4.length = H3.length) ∧ hWt T0 H4) ∧ postb_216 n10 n2 n9 H3 H4) (f25 : n10 = 0) (f26 : n11 = 10) (f27 : n12 ≤ 1) (f28 : 0 ≤ n12) (f29 : (hLe T0 H4 H5 ∧ hFr s_216.2.2.2.2 H4 H5 ∧ ((0 : Int) = 0 → H5.length = H4.length) ∧ hWt T0 H5) ∧ postb_216 n12 n2 n11 H4 H5) (f30 : n12 ≠ 0) (f31 : n13 = 1) : Ab_236_187 n3 n2 n1 n13 H0 H5 ∧ ∀ q, some q0 = some q → mub_236_187 n3 n2 n1 n13 H0 H5 < q := by
  have g4 := f6.2.1.1
  unfold Ab_236_96 at g4
  have g3 := f6.2.1.2
  unfold preb_236 at g3
  have g5 := Option.some.inj f6.2.2
  unfold mub_236_96 at g5
  unfold postb_216 at f10
  unfold postb_216 at f19
  unfold postb_216 at f24
  unfold postb_216 at f29
  unfold Ab_236_187
  unfold mub_236_187
  have e1 : n6 = hV H1 285 12 := (by rw [f4] at f14; exact f14 : n6 = hV H2 285 12).trans ((f10.1.2.1.1 285 12 kF_216_285_12))
  have e3 : hV H1 285 34 = hV H0 285 34 := (f6.1.2.1.1 285 34 kF_236_285_34)
  have e5 : hV H1 285 35 = hV H0 285 35 := (f6.1.2.1.1 285 35 kF_236_285_35)
  have e7 : hV H2 285 11 = hV H1 285 11 := (f10.1.2.1.1 285 11 kF_216_285_11)
  have e9 : hV H2 285 13 = hV H1 285 13 := (f10.1.2.1.1 285 13 kF_216_285_13)
  have e12 : hV H2 288 = hV H0 288 := (fRow f10.1.2.1 288 kR_216_288).trans (fRow f6.1.2.1 288 kR_236_288)
  have e16 : hV H3 285 13 = hV H1 285 13 := ((f19.1.2.1.1 285 13 kF_216_285_13)).trans (f10.1.2.1.1 285 13 kF_216_285_13)
  have e20 : hV H4 285 11 = hV H1 285 11 := ((f24.1.2.1.1 285 11 kF_216_285_11)).trans (((f19.1.2.1.1 285 11 kF_216_285_11)).trans (f10.1.2.1.1 285 11 kF_216_285_11))
  have e22 : hV H4 285 13 = hV H1 285 13 := ((f24.1.2.1.1 285 13 kF_216_285_13)).trans (((f19.1.2.1.1 285 13 kF_216_285_13)).trans (f10.1.2.1.1 285 13 kF_216_285_13))
  have e24 : hV H4 288 = hV H0 288 := (fRow f24.1.2.1 288 kR_216_288).trans ((fRow f19.1.2.1 288 kR_216_288).trans e12)
  have e26 : hV H5 285 11 = hV H1 285 11 := ((f29.1.2.1.1 285 11 kF_216_285_11)).trans (((f24.1.2.1.1 285 11 kF_216_285_11)).trans (((f19.1.2.1.1 285 11 kF_216_285_11)).trans (f10.1.2.1.1 285 11 kF_216_285_11)))
  have e30 : hV H5 285 12 = hV H1 285 12 := ((f29.1.2.1.1 285 12 kF_216_285_12)).trans (((f24.1.2.1.1 285 12 kF_216_285_12)).trans (((f19.1.2.1.1 285 12 kF_216_285_12)).trans (f10.1.2.1.1 285 12 kF_216_285_12)))
  have e32 : hV H5 285 13 = hV H1 285 13 := ((f29.1.2.1.1 285 13 kF_216_285_13)).trans (((f24.1.2.1.1 285 13 kF_216_285_13)).trans (((f19.1.2.1.1 285 13 kF_216_285_13)).trans (f10.1.2.1.1 285 13 kF_216_285_13)))
  have e37 : hV H5 285 35 = hV H0 285 35 := ((f29.1.2.1.1 285 35 kF_216_285_35)).trans (((f24.1.2.1.1 285 35 kF_216_285_35)).trans (((f19.1.2.1.1 285 35 kF_216_285_35)).trans (((f10.1.2.1.1 285 35 kF_216_285_35)).trans (f6.1.2.1.1 285 35 kF_236_285_35))))
  have e42 : hV H5 285 51 = hV H1 285 51 := ((f29.1.2.1.1 285 51 kF_216_285_51)).trans (((f24.1.2.1.1 285 51 kF_216_285_51)).trans (((f19.1.2.1.1 285 51 kF_216_285_51)).trans (f10.1.2.1.1 285 51 kF_216_285_51)))
  have e47 : hV H5 285 55 = hV H1 285 55 := ((f29.1.2.1.1 285 55 kF_216_285_55)).trans (((f24.1.2.1.1 285 55 kF_216_285_55)).trans (((f19.1.2.1.1 285 55 kF_216_285_55)).trans (f10.1.2.1.1 285 55 kF_216_285_55)))
  have e49 : hV H5 288 = hV H0 288 := (fRow f29.1.2.1 288 kR_216_288).trans e24
  have e56 : hV H5 320 = hV H1 320 := (fRow f29.1.2.1 320 kR_216_320).trans ((fRow f24.1.2.1 320 kR_216_320).trans ((fRow f19.1.2.1 320 kR_216_320).trans (fRow f10.1.2.1 320 kR_216_320)))
  have e63 : hV H5 321 = hV H1 321 := (fRow f29.1.2.1 321 kR_216_321).trans ((fRow f24.1.2.1 321 kR_216_321).trans ((fRow f19.1.2.1 321 kR_216_321).trans (fRow f10.1.2.1 321 kR_216_321)))
  have e70 : hV H5 322 = hV H1 322 := (fRow f29.1.2.1 322 kR_216_322).trans ((fRow f24.1.2.1 322 kR_216_322).trans ((fRow f19.1.2.1 322 kR_216_322).trans (fRow f10.1.2.1 322 kR_216_322)))
  have e71 : RR H2 = RR H1 := RR_fr f10.1.2.1 (by decide +kernel)
  have e72 : RR H3 = RR H2 := RR_fr f19.1.2.1 (by decide +kernel)
  have e73 : RR H3 = RR H1 := e72.trans e71
  have e74 : RR H4 = RR H3 := RR_fr f24.1.2.1 (by decide +kernel)
  have e75 : RR H4 = RR H1 := e74.trans e73
  have e76 : RR H5 = RR H4 := RR_fr f29.1.2.1 (by decide +kernel)
  have e77 : RR H5 = RR H1 := e76.trans e75
  have e78 : (0 : Int) ≤ hV H1 285 11 ∧ hV H1 285 11 ≤ 500 := f6.1.2.2 285 11 _ _ kW_285_11
  have e79 : (0 : Int) ≤ hV H1 285 12 ∧ hV H1 285 12 ≤ 7 := f6.1.2.2 285 12 _ _ kW_285_12
  have e80 : (0 : Int) ≤ hV H1 285 13 ∧ hV H1 285 13 ≤ 2 := f6.1.2.2 285 13 _ _ kW_285_13
  have e81 : (0 : Int) ≤ hV H0 285 34 ∧ hV H0 285 34 ≤ 1 := bTo e3 (f6.1.2.2 285 34 _ _ kW_285_34)
  have e82 : (0 : Int) ≤ hV H0 285 35 ∧ hV H0 285 35 ≤ 1 := bTo e5 (f6.1.2.2 285 35 _ _ kW_285_35)
  have e83 : (0 : Int) ≤ hV H1 285 51 ∧ hV H1 285 51 ≤ 1200 := f6.1.2.2 285 51 _ _ kW_285_51
  have e84 : (0 : Int) ≤ hV H1 285 55 ∧ hV H1 285 55 ≤ 64 := f6.1.2.2 285 55 _ _ kW_285_55
  try simp only [e26, e30, e32, e37, e42, e47, e49, e56, e63, e70, e77]
  have y0 := g4.1
  have y1 := g4.2.1
  have y2 := g4.2.2.1
  have y3 := g4.2.2.2.1
  have y4 := g4.2.2.2.2.1
  have y5 := g4.2.2.2.2.2.1
  have y6 := g4.2.2.2.2.2.2.1
  have y7 := g4.2.2.2.2.2.2.2.1
  have y8 := g4.2.2.2.2.2.2.2.2.1
  have y9 := g4.2.2.2.2.2.2.2.2.2.1
  have y10 := g4.2.2.2.2.2.2.2.2.2.2
  have p0 := g3.1
  have p1 := g3.2.1
  have p2 := g3.2.2.1
  have p3 := g3.2.2.2.1
  have p4 := g3.2.2.2.2
  have r0_0 := f10.2.1
  have r0_1 := f10.2.2.resolve_right (fun z => f11 z.1)
  have r1_0 := f19.2.1
  have r2_0 := f24.2.1
  have r3_0 := f29.2.1
  have r3_1 := f29.2.2.resolve_right (fun z => f30 z.1)
  try simp only [e5] at y7
  try simp only [e9] at r0_0
  try simp only [e3, e5, e7, e9, e12] at r0_1
  try simp only [e16] at r1_0
  try simp only [e22] at r2_0
  try simp only [e32] at r3_0
  try simp only [e20, e22, e24, e26, e30, e32, e37, e42, e47, e49, e56, e63, e70, e77] at r3_1
  clear g3
  clear g4
  clear f14 e3 e5 e7 e9 e12 e16 e20 e22 e24 e26 e30 e32 e37 e42 e47 e49 e56 e63 e70 e71 e72 e73 e74 e75 e76 e77
  clear f6 f10 f19 f24 f29
  subst e1
  try have wl := wo_leI (w := hV H1 322) (n := hV H1 285 55) (by omega)
  try have wb := WT_bound y2 (by omega)
  try have wl2 := wo_leI (w := hV H1 322) (n := hV H2 285 55) (by omega)
  try have wl3 := wo_leI (w := hV H1 322) (n := hV H3 285 55) (by omega)
  try have wl4 := wo_leI (w := hV H1 322) (n := hV H4 285 55) (by omega)
  try have wl5 := wo_leI (w := hV H1 322) (n := hV H5 285 55) (by omega)
  try have wl6 := wo_leI (w := hV H1 322) (n := hV H6 285 55) (by omega)
  try have wl7 := wo_leI (w := hV H1 322) (n := hV H7 285 55) (by omega)
  try have wl8 := wo_leI (w := hV H1 322) (n := hV H8 285 55) (by omega)
  try have wl9 := wo_leI (w := hV H1 322) (n := hV H9 285 55) (by omega)
  try have wl10 := wo_leI (w := hV H1 322) (n := hV H10 285 55) (by omega)

  refine ⟨⟨?_, ?_, ?_, ?_, ?_, ?_, ?_, ?_, ?_, ?_, ?_⟩, fun q hq => ?_⟩
  · exact y0
  · intro z
    exact y1 (by omega)
  · exact y2
  · first | omega | (rw [wo_push] <;> omega)
  · first | omega | (rw [wo_push] <;> omega)
  · first | omega | (rw [wo_push] <;> omega)
  · first | omega | (rw [wo_push] <;> omega)
  · first | omega | (rw [wo_push] <;> omega)
  · first | omega | (rw [wo_push] <;> omega)
  · first | omega | (rw [wo_push] <;> omega)
  · first | omega | (rw [wo_push] <;> omega)
  · have g6 := Option.some.inj hq
    subst g6
    omega
def g_236_96_7 : vG := ([(0, [13], [], 1), (31, [12], [], 0), (1216, [12, 1, 11], [4, 5], 0), (90, [12], [], 0), (91, [12], [], 1), (0, [11], [], 10), (30, [10], [], 0), (1216, [10, 1, 9], [3, 4], 0), (90, [10], [], 0), (91, [10], [], 1), (0, [9], [], 9), (30, [8], [], 0), (1216, [8, 1, 7], [2, 3], 0), (90, [8], [], 0), (91, [8], [], 1), (0, [7], [], 8), (45, [6, 2], [], 0), (20, [6, 1], [2], 12), (90, [6], [], 0), (91, [6], [], 7), (31, [5], [], 0), (1216, [5, 1, 4], [1, 2], 0), (90, [5], [], 0), (91, [5], [], 1), (0, [4], [], 7), (5000, [0, 1, 2, 3], [0, 1], 96), (0, [0], [], 285), (0, [1], [], 285), (90, [2], [], 0), (91, [2], [], 7), (90, [3], [], -2147483648), (91, [3], [], 2147483647)], (4000, [1, 2, 13], [5], 187))
theorem c_236_96_7 {q0 : Nat} : vOkm T0 (eP e_236 L_236 A_236 mu_236 (some q0)) 1 g_236_96_7 := vOk_inI fun ρ η f0 f1 f2 f3 f4 f5 f6 f7 f8 f9 f10 f11 f12 f13 f14 f15 f16 f17 f18 f19 f20 f21 f22 f23 f24 f25 f26 f27 f28 f29 f30 f31 => q_236_24 (q0 := q0) (n0 := ρ 3) (n1 := ρ 2) (n2 := ρ 1) (n3 := ρ 0) (n4 := ρ 4) (n5 := ρ 5) (n6 := ρ 6) (n7 := ρ 7) (n8 := ρ 8) (n9 := ρ 9) (n10 := ρ 10) (n11 := ρ 11) (n12 := ρ 12) (n13 := ρ 13) (H0 := η 0) (H1 := η 1) (H2 := η 2) (H3 := η 3) (H4 := η 4) (H5 := η 5) f31 f30 f29 f28 f27 f26 f25 f24 f23 f22 f21 f20 f19 f18 f17 f16 f15 f14 f13 f12 f11 f10 f9 f8 f7 f6 f5 f4 f3 f2 f1 f0
set_option maxHeartbeats 20000000 in
theorem q_236_25 {q0 : Nat} {n0 n1 n2 n3 n4 n5 n6 n7 n8 n9 n10 n11 n12 n13 n14 n15 : Int} {H0 H1 H2 H3 H4 H5 H6 : gH} (f0 : n0 ≤ 2147483647) (f1 : (-2147483648) ≤ n0) (f2 : n1 ≤ 7) (f3 : 0 ≤ n1) (f4 : n2 = 285) (f5 : n3 = 285) (f6 : (hLe T0 H0 H1 ∧ hFr s_236.2.2.2.2 H0 H1 ∧ hWt T0 H1) ∧ (Ab_236_96 n3 n2 n1 n0 H0 H1 ∧ preb_236 n3 H0) ∧ some q0 = some (mub_236_96 n3 n2 n1 n0 H0 H1)) (f7 : n4 = 7) (f8 : n5 ≤ 1) (f9 : 0 ≤ n5) (f10 : (hLe T0 H1 H2 ∧ hFr s_216.2.2.2.2 H1 H2 ∧ ((0 : Int) = 0 → H2.length = H1.length) ∧ hWt T0 H2) ∧ postb_216 n5 n2 n4 H1 H2) (f11 : n5 ≠ 0) (f12 : n6 ≤ 7) (f13 : 0 ≤ n6) (f14 : n6 = hV H2 (n2).toNat 12) (f15 : n6 ≤ n1) (f16 : n7 = 8) (f17 : n8 ≤ 1) (f18 : 0 ≤ n8) (f19 : (hLe T0 H2 H3 ∧ hFr s_216.2.2.2.2 H2 H3 ∧ ((0 : Int) = 0 → H3.length = H2.length) ∧ hWt T0 H3) ∧ postb_216 n8 n2 n7 H2 H3) (f20 : n8 = 0) (f21 : n9 = 9) (f22 : n10 ≤ 1) (f23 : 0 ≤ n10) (f24 : (hLe T0 H3 H4 ∧ hFr s_216.2.2.2.2 H3 H4 ∧ ((0 : Int) = 0 → H4.length = H3.length) ∧ hWt T0 H4) ∧ postb_216 n10 n2 n9 H3 H4) (f25 : n10 = 0) (f26 : n11 = 10) (f27 : n12 ≤ 1) (f28 : 0 ≤ n12) (f29 : (hLe T0 H4 H5 ∧ hFr s_216.2.2.2.2 H4 H5 ∧ ((0 : Int) = 0 → H5.length = H4.length) ∧ hWt T0 H5) ∧ postb_216 n12 n2 n11 H4 H5) (f30 : n12 = 0) (f31 : n13 = 15) (f32 : n14 ≤ 1) (f33 : 0 ≤ n14) (f34 : (hLe T0 H5 H6 ∧ hFr s_216.2.2.2.2 H5 H6 ∧ ((0 : Int) = 0 → H6.length = H5.length) ∧ hWt T0 H6) ∧ postb_216 n14 n2 n13 H5 H6) (f35 : n14 = 0) (f36 : n15 = 0) : Ab_236_187 n3 n2 n1 n15 H0 H6 ∧ ∀ q, some q0 = some q → mub_236_187 n3 n2 n1 n15 H0 H6 < q := by
  have g4 := f6.2.1.1
  unfold Ab_236_96 at g4
  have g3 := f6.2.1.2
  unfold preb_236 at g3
  have g5 := Option.some.inj f6.2.2
  unfold mub_236_96 at g5
  unfold postb_216 at f10
  unfold postb_216 at f19
  unfold postb_216 at f24
  unfold postb_216 at f29
  unfold postb_216 at f34
  unfold Ab_236_187
  unfold mub_236_187
  have e1 : n6 = hV H1 285 12 := (by rw [f4] at f14; exact f14 : n6 = hV H2 285 12).trans ((f10.1.2.1.1 285 12 kF_216_285_12))
  have e3 : hV H1 285 34 = hV H0 285 34 := (f6.1.2.1.1 285 34 kF_236_285_34)
  have e5 : hV H1 285 35 = hV H0 285 35 := (f6.1.2.1.1 285 35 kF_236_285_35)
  have e7 : hV H2 285 11 = hV H1 285 11 := (f10.1.2.1.1 285 11 kF_216_285_11)
  have e9 : hV H2 285 13 = hV H1 285 13 := (f10.1.2.1.1 285 13 kF_216_285_13)
  have e12 : hV H2 288 = hV H0 288 := (fRow f10.1.2.1 288 kR_216_288).trans (fRow f6.1.2.1 288 kR_236_288)
  have e16 : hV H3 285 13 = hV H1 285 13 := ((f19.1.2.1.1 285 13 kF_216_285_13)).trans (f10.1.2.1.1 285 13 kF_216_285_13)
  have e22 : hV H4 285 13 = hV H1 285 13 := ((f24.1.2.1.1 285 13 kF_216_285_13)).trans (((f19.1.2.1.1 285 13 kF_216_285_13)).trans (f10.1.2.1.1 285 13 kF_216_285_13))
  have e28 : hV H5 285 13 = hV H1 285 13 := ((f29.1.2.1.1 285 13 kF_216_285_13)).trans (((f24.1.2.1.1 285 13 kF_216_285_13)).trans (((f19.1.2.1.1 285 13 kF_216_285_13)).trans (f10.1.2.1.1 285 13 kF_216_285_13)))
  have e32 : hV H6 285 11 = hV H1 285 11 := ((f34.1.2.1.1 285 11 kF_216_285_11)).trans (((f29.1.2.1.1 285 11 kF_216_285_11)).trans (((f24.1.2.1.1 285 11 kF_216_285_11)).trans (((f19.1.2.1.1 285 11 kF_216_285_11)).trans (f10.1.2.1.1 285 11 kF_216_285_11))))
  have e37 : hV H6 285 12 = hV H1 285 12 := ((f34.1.2.1.1 285 12 kF_216_285_12)).trans (((f29.1.2.1.1 285 12 kF_216_285_12)).trans (((f24.1.2.1.1 285 12 kF_216_285_12)).trans (((f19.1.2.1.1 285 12 kF_216_285_12)).trans (f10.1.2.1.1 285 12 kF_216_285_12))))
  have e39 : hV H6 285 13 = hV H1 285 13 := ((f34.1.2.1.1 285 13 kF_216_285_13)).trans (((f29.1.2.1.1 285 13 kF_216_285_13)).trans (((f24.1.2.1.1 285 13 kF_216_285_13)).trans (((f19.1.2.1.1 285 13 kF_216_285_13)).trans (f10.1.2.1.1 285 13 kF_216_285_13))))
  have e45 : hV H6 285 35 = hV H0 285 35 := ((f34.1.2.1.1 285 35 kF_216_285_35)).trans (((f29.1.2.1.1 285 35 kF_216_285_35)).trans (((f24.1.2.1.1 285 35 kF_216_285_35)).trans (((f19.1.2.1.1 285 35 kF_216_285_35)).trans (((f10.1.2.1.1 285 35 kF_216_285_35)).trans (f6.1.2.1.1 285 35 kF_236_285_35)))))
  have e51 : hV H6 285 51 = hV H1 285 51 := ((f34.1.2.1.1 285 51 kF_216_285_51)).trans (((f29.1.2.1.1 285 51 kF_216_285_51)).trans (((f24.1.2.1.1 285 51 kF_216_285_51)).trans (((f19.1.2.1.1 285 51 kF_216_285_51)).trans (f10.1.2.1.1 285 51 kF_216_285_51))))
  have e57 : hV H6 285 55 = hV H1 285 55 := ((f34.1.2.1.1 285 55 kF_216_285_55)).trans (((f29.1.2.1.1 285 55 kF_216_285_55)).trans (((f24.1.2.1.1 285 55 kF_216_285_55)).trans (((f19.1.2.1.1 285 55 kF_216_285_55)).trans (f10.1.2.1.1 285 55 kF_216_285_55))))
  have e59 : hV H6 288 = hV H0 288 := (fRow f34.1.2.1 288 kR_216_288).trans ((fRow f29.1.2.1 288 kR_216_288).trans ((fRow f24.1.2.1 288 kR_216_288).trans ((fRow f19.1.2.1 288 kR_216_288).trans e12)))
  have e68 : hV H6 320 = hV H1 320 := (fRow f34.1.2.1 320 kR_216_320).trans ((fRow f29.1.2.1 320 kR_216_320).trans ((fRow f24.1.2.1 320 kR_216_320).trans ((fRow f19.1.2.1 320 kR_216_320).trans (fRow f10.1.2.1 320 kR_216_320))))
  have e77 : hV H6 321 = hV H1 321 := (fRow f34.1.2.1 321 kR_216_321).trans ((fRow f29.1.2.1 321 kR_216_321).trans ((fRow f24.1.2.1 321 kR_216_321).trans ((fRow f19.1.2.1 321 kR_216_321).trans (fRow f10.1.2.1 321 kR_216_321))))
  have e86 : hV H6 322 = hV H1 322 := (fRow f34.1.2.1 322 kR_216_322).trans ((fRow f29.1.2.1 322 kR_216_322).trans ((fRow f24.1.2.1 322 kR_216_322).trans ((fRow f19.1.2.1 322 kR_216_322).trans (fRow f10.1.2.1 322 kR_216_322))))
  have e87 : RR H2 = RR H1 := RR_fr f10.1.2.1 (by decide +kernel)
  have e88 : RR H3 = RR H2 := RR_fr f19.1.2.1 (by decide +kernel)
  have e89 : RR H3 = RR H1 := e88.trans e87
  have e90 : RR H4 = RR H3 := RR_fr f24.1.2.1 (by decide +kernel)
  have e91 : RR H4 = RR H1 := e90.trans e89
  have e92 : RR H5 = RR H4 := RR_fr f29.1.2.1 (by decide +kernel)
  have e93 : RR H5 = RR H1 := e92.trans e91
  have e94 : RR H6 = RR H5 := RR_fr f34.1.2.1 (by decide +kernel)
  have e95 : RR H6 = RR H1 := e94.trans e93
  have e96 : (0 : Int) ≤ hV H1 285 11 ∧ hV H1 285 11 ≤ 500 := f6.1.2.2 285 11 _ _ kW_285_11
  have e97 : (0 : Int) ≤ hV H1 285 12 ∧ hV H1 285 12 ≤ 7 := f6.1.2.2 285 12 _ _ kW_285_12
  have e98 : (0 : Int) ≤ hV H1 285 13 ∧ hV H1 285 13 ≤ 2 := f6.1.2.2 285 13 _ _ kW_285_13
  have e99 : (0 : Int) ≤ hV H0 285 34 ∧ hV H0 285 34 ≤ 1 := bTo e3 (f6.1.2.2 285 34 _ _ kW_285_34)
  have e100 : (0 : Int) ≤ hV H0 285 35 ∧ hV H0 285 35 ≤ 1 := bTo e5 (f6.1.2.2 285 35 _ _ kW_285_35)
  have e101 : (0 : Int) ≤ hV H1 285 51 ∧ hV H1 285 51 ≤ 1200 := f6.1.2.2 285 51 _ _ kW_285_51
  have e102 : (0 : Int) ≤ hV H1 285 55 ∧ hV H1 285 55 ≤ 64 := f6.1.2.2 285 55 _ _ kW_285_55
  try simp only [e32, e37, e39, e45, e51, e57, e59, e68, e77, e86, e95]
  have y0 := g4.1
  have y1 := g4.2.1
  have y2 := g4.2.2.1
  have y3 := g4.2.2.2.1
  have y4 := g4.2.2.2.2.1
  have y5 := g4.2.2.2.2.2.1
  have y6 := g4.2.2.2.2.2.2.1
  have y7 := g4.2.2.2.2.2.2.2.1
  have y8 := g4.2.2.2.2.2.2.2.2.1
  have y9 := g4.2.2.2.2.2.2.2.2.2.1
  have y10 := g4.2.2.2.2.2.2.2.2.2.2
  have p0 := g3.1
  have p1 := g3.2.1
  have p2 := g3.2.2.1
  have p3 := g3.2.2.2.1
  have p4 := g3.2.2.2.2
  have r0_0 := f10.2.1
  have r0_1 := f10.2.2.resolve_right (fun z => f11 z.1)
  have r1_0 := f19.2.1
  have r2_0 := f24.2.1
  have r3_0 := f29.2.1
  have r4_0 := f34.2.1
  try simp only [e5] at y7
  try simp only [e9] at r0_0
  try simp only [e3, e5, e7, e9, e12] at r0_1
  try simp only [e16] at r1_0
  try simp only [e22] at r2_0
  try simp only [e28] at r3_0
  try simp only [e39] at r4_0
  clear g3
  clear g4
  clear f14 e3 e5 e7 e9 e12 e16 e22 e28 e32 e37 e39 e45 e51 e57 e59 e68 e77 e86 e87 e88 e89 e90 e91 e92 e93 e94 e95
  clear f6 f10 f19 f24 f29 f34
  subst e1
  try have wl := wo_leI (w := hV H1 322) (n := hV H1 285 55) (by omega)
  try have wb := WT_bound y2 (by omega)
  try have wl2 := wo_leI (w := hV H1 322) (n := hV H2 285 55) (by omega)
  try have wl3 := wo_leI (w := hV H1 322) (n := hV H3 285 55) (by omega)
  try have wl4 := wo_leI (w := hV H1 322) (n := hV H4 285 55) (by omega)
  try have wl5 := wo_leI (w := hV H1 322) (n := hV H5 285 55) (by omega)
  try have wl6 := wo_leI (w := hV H1 322) (n := hV H6 285 55) (by omega)
  try have wl7 := wo_leI (w := hV H1 322) (n := hV H7 285 55) (by omega)
  try have wl8 := wo_leI (w := hV H1 322) (n := hV H8 285 55) (by omega)
  try have wl9 := wo_leI (w := hV H1 322) (n := hV H9 285 55) (by omega)
  try have wl10 := wo_leI (w := hV H1 322) (n := hV H10 285 55) (by omega)

  refine ⟨⟨?_, ?_, ?_, ?_, ?_, ?_, ?_, ?_, ?_, ?_, ?_⟩, fun q hq => ?_⟩
  · exact y0
  · intro z
    exact y1 (by omega)
  · exact y2
  · first | omega | (rw [wo_push] <;> omega)
  · first | omega | (rw [wo_push] <;> omega)
  · first | omega | (rw [wo_push] <;> omega)
  · first | omega | (rw [wo_push] <;> omega)
  · first | omega | (rw [wo_push] <;> omega)
  · first | omega | (rw [wo_push] <;> omega)
  · first | omega | (rw [wo_push] <;> omega)
  · first | omega | (rw [wo_push] <;> omega)
  · have g6 := Option.some.inj hq
    subst g6
    omega
def g_236_96_8 : vG := ([(0, [15], [], 0), (30, [14], [], 0), (1216, [14, 1, 13], [5, 6], 0), (90, [14], [], 0), (91, [14], [], 1), (0, [13], [], 15), (30, [12], [], 0), (1216, [12, 1, 11], [4, 5], 0), (90, [12], [], 0), (91, [12], [], 1), (0, [11], [], 10), (30, [10], [], 0), (1216, [10, 1, 9], [3, 4], 0), (90, [10], [], 0), (91, [10], [], 1), (0, [9], [], 9), (30, [8], [], 0), (1216, [8, 1, 7], [2, 3], 0), (90, [8], [], 0), (91, [8], [], 1), (0, [7], [], 8), (45, [6, 2], [], 0), (20, [6, 1], [2], 12), (90, [6], [], 0), (91, [6], [], 7), (31, [5], [], 0), (1216, [5, 1, 4], [1, 2], 0), (90, [5], [], 0), (91, [5], [], 1), (0, [4], [], 7), (5000, [0, 1, 2, 3], [0, 1], 96), (0, [0], [], 285), (0, [1], [], 285), (90, [2], [], 0), (91, [2], [], 7), (90, [3], [], -2147483648), (91, [3], [], 2147483647)], (4000, [1, 2, 15], [6], 187))
theorem c_236_96_8 {q0 : Nat} : vOkm T0 (eP e_236 L_236 A_236 mu_236 (some q0)) 1 g_236_96_8 := vOk_inI fun ρ η f0 f1 f2 f3 f4 f5 f6 f7 f8 f9 f10 f11 f12 f13 f14 f15 f16 f17 f18 f19 f20 f21 f22 f23 f24 f25 f26 f27 f28 f29 f30 f31 f32 f33 f34 f35 f36 => q_236_25 (q0 := q0) (n0 := ρ 3) (n1 := ρ 2) (n2 := ρ 1) (n3 := ρ 0) (n4 := ρ 4) (n5 := ρ 5) (n6 := ρ 6) (n7 := ρ 7) (n8 := ρ 8) (n9 := ρ 9) (n10 := ρ 10) (n11 := ρ 11) (n12 := ρ 12) (n13 := ρ 13) (n14 := ρ 14) (n15 := ρ 15) (H0 := η 0) (H1 := η 1) (H2 := η 2) (H3 := η 3) (H4 := η 4) (H5 := η 5) (H6 := η 6) f36 f35 f34 f33 f32 f31 f30 f29 f28 f27 f26 f25 f24 f23 f22 f21 f20 f19 f18 f17 f16 f15 f14 f13 f12 f11 f10 f9 f8 f7 f6 f5 f4 f3 f2 f1 f0
set_option maxHeartbeats 20000000 in
theorem q_236_26 {q0 : Nat} {n0 n1 n2 n3 n4 n5 n6 n7 n8 n9 n10 n11 n12 n13 n14 n15 : Int} {H0 H1 H2 H3 H4 H5 H6 : gH} (f0 : n0 ≤ 2147483647) (f1 : (-2147483648) ≤ n0) (f2 : n1 ≤ 7) (f3 : 0 ≤ n1) (f4 : n2 = 285) (f5 : n3 = 285) (f6 : (hLe T0 H0 H1 ∧ hFr s_236.2.2.2.2 H0 H1 ∧ hWt T0 H1) ∧ (Ab_236_96 n3 n2 n1 n0 H0 H1 ∧ preb_236 n3 H0) ∧ some q0 = some (mub_236_96 n3 n2 n1 n0 H0 H1)) (f7 : n4 = 7) (f8 : n5 ≤ 1) (f9 : 0 ≤ n5) (f10 : (hLe T0 H1 H2 ∧ hFr s_216.2.2.2.2 H1 H2 ∧ ((0 : Int) = 0 → H2.length = H1.length) ∧ hWt T0 H2) ∧ postb_216 n5 n2 n4 H1 H2) (f11 : n5 ≠ 0) (f12 : n6 ≤ 7) (f13 : 0 ≤ n6) (f14 : n6 = hV H2 (n2).toNat 12) (f15 : n6 ≤ n1) (f16 : n7 = 8) (f17 : n8 ≤ 1) (f18 : 0 ≤ n8) (f19 : (hLe T0 H2 H3 ∧ hFr s_216.2.2.2.2 H2 H3 ∧ ((0 : Int) = 0 → H3.length = H2.length) ∧ hWt T0 H3) ∧ postb_216 n8 n2 n7 H2 H3) (f20 : n8 = 0) (f21 : n9 = 9) (f22 : n10 ≤ 1) (f23 : 0 ≤ n10) (f24 : (hLe T0 H3 H4 ∧ hFr s_216.2.2.2.2 H3 H4 ∧ ((0 : Int) = 0 → H4.length = H3.length) ∧ hWt T0 H4) ∧ postb_216 n10 n2 n9 H3 H4) (f25 : n10 = 0) (f26 : n11 = 10) (f27 : n12 ≤ 1) (f28 : 0 ≤ n12) (f29 : (hLe T0 H4 H5 ∧ hFr s_216.2.2.2.2 H4 H5 ∧ ((0 : Int) = 0 → H5.length = H4.length) ∧ hWt T0 H5) ∧ postb_216 n12 n2 n11 H4 H5) (f30 : n12 = 0) (f31 : n13 = 15) (f32 : n14 ≤ 1) (f33 : 0 ≤ n14) (f34 : (hLe T0 H5 H6 ∧ hFr s_216.2.2.2.2 H5 H6 ∧ ((0 : Int) = 0 → H6.length = H5.length) ∧ hWt T0 H6) ∧ postb_216 n14 n2 n13 H5 H6) (f35 : n14 ≠ 0) (f36 : n15 = 1) : Ab_236_187 n3 n2 n1 n15 H0 H6 ∧ ∀ q, some q0 = some q → mub_236_187 n3 n2 n1 n15 H0 H6 < q := by
  have g4 := f6.2.1.1
  unfold Ab_236_96 at g4
  have g3 := f6.2.1.2
  unfold preb_236 at g3
  have g5 := Option.some.inj f6.2.2
  unfold mub_236_96 at g5
  unfold postb_216 at f10
  unfold postb_216 at f19
  unfold postb_216 at f24
  unfold postb_216 at f29
  unfold postb_216 at f34
  unfold Ab_236_187
  unfold mub_236_187
  have e1 : n6 = hV H1 285 12 := (by rw [f4] at f14; exact f14 : n6 = hV H2 285 12).trans ((f10.1.2.1.1 285 12 kF_216_285_12))
  have e3 : hV H1 285 34 = hV H0 285 34 := (f6.1.2.1.1 285 34 kF_236_285_34)
  have e5 : hV H1 285 35 = hV H0 285 35 := (f6.1.2.1.1 285 35 kF_236_285_35)
  have e7 : hV H2 285 11 = hV H1 285 11 := (f10.1.2.1.1 285 11 kF_216_285_11)
  have e9 : hV H2 285 13 = hV H1 285 13 := (f10.1.2.1.1 285 13 kF_216_285_13)
  have e12 : hV H2 288 = hV H0 288 := (fRow f10.1.2.1 288 kR_216_288).trans (fRow f6.1.2.1 288 kR_236_288)
  have e16 : hV H3 285 13 = hV H1 285 13 := ((f19.1.2.1.1 285 13 kF_216_285_13)).trans (f10.1.2.1.1 285 13 kF_216_285_13)
  have e22 : hV H4 285 13 = hV H1 285 13 := ((f24.1.2.1.1 285 13 kF_216_285_13)).trans (((f19.1.2.1.1 285 13 kF_216_285_13)).trans (f10.1.2.1.1 285 13 kF_216_285_13))
  have e26 : hV H5 285 11 = hV H1 285 11 := ((f29.1.2.1.1 285 11 kF_216_285_11)).trans (((f24.1.2.1.1 285 11 kF_216_285_11)).trans (((f19.1.2.1.1 285 11 kF_216_285_11)).trans (f10.1.2.1.1 285 11 kF_216_285_11)))
  have e28 : hV H5 285 13 = hV H1 285 13 := ((f29.1.2.1.1 285 13 kF_216_285_13)).trans (((f24.1.2.1.1 285 13 kF_216_285_13)).trans (((f19.1.2.1.1 285 13 kF_216_285_13)).trans (f10.1.2.1.1 285 13 kF_216_285_13)))
  have e30 : hV H5 288 = hV H0 288 := (fRow f29.1.2.1 288 kR_216_288).trans ((fRow f24.1.2.1 288 kR_216_288).trans ((fRow f19.1.2.1 288 kR_216_288).trans e12))
  have e32 : hV H6 285 11 = hV H1 285 11 := ((f34.1.2.1.1 285 11 kF_216_285_11)).trans (((f29.1.2.1.1 285 11 kF_216_285_11)).trans (((f24.1.2.1.1 285 11 kF_216_285_11)).trans (((f19.1.2.1.1 285 11 kF_216_285_11)).trans (f10.1.2.1.1 285 11 kF_216_285_11))))
  have e37 : hV H6 285 12 = hV H1 285 12 := ((f34.1.2.1.1 285 12 kF_216_285_12)).trans (((f29.1.2.1.1 285 12 kF_216_285_12)).trans (((f24.1.2.1.1 285 12 kF_216_285_12)).trans (((f19.1.2.1.1 285 12 kF_216_285_12)).trans (f10.1.2.1.1 285 12 kF_216_285_12))))
  have e39 : hV H6 285 13 = hV H1 285 13 := ((f34.1.2.1.1 285 13 kF_216_285_13)).trans (((f29.1.2.1.1 285 13 kF_216_285_13)).trans (((f24.1.2.1.1 285 13 kF_216_285_13)).trans (((f19.1.2.1.1 285 13 kF_216_285_13)).trans (f10.1.2.1.1 285 13 kF_216_285_13))))
  have e45 : hV H6 285 35 = hV H0 285 35 := ((f34.1.2.1.1 285 35 kF_216_285_35)).trans (((f29.1.2.1.1 285 35 kF_216_285_35)).trans (((f24.1.2.1.1 285 35 kF_216_285_35)).trans (((f19.1.2.1.1 285 35 kF_216_285_35)).trans (((f10.1.2.1.1 285 35 kF_216_285_35)).trans (f6.1.2.1.1 285 35 kF_236_285_35)))))
  have e51 : hV H6 285 51 = hV H1 285 51 := ((f34.1.2.1.1 285 51 kF_216_285_51)).trans (((f29.1.2.1.1 285 51 kF_216_285_51)).trans (((f24.1.2.1.1 285 51 kF_216_285_51)).trans (((f19.1.2.1.1 285 51 kF_216_285_51)).trans (f10.1.2.1.1 285 51 kF_216_285_51))))
  have e57 : hV H6 285 55 = hV H1 285 55 := ((f34.1.2.1.1 285 55 kF_216_285_55)).trans (((f29.1.2.1.1 285 55 kF_216_285_55)).trans (((f24.1.2.1.1 285 55 kF_216_285_55)).trans (((f19.1.2.1.1 285 55 kF_216_285_55)).trans (f10.1.2.1.1 285 55 kF_216_285_55))))
  have e59 : hV H6 288 = hV H0 288 := (fRow f34.1.2.1 288 kR_216_288).trans e30
  have e68 : hV H6 320 = hV H1 320 := (fRow f34.1.2.1 320 kR_216_320).trans ((fRow f29.1.2.1 320 kR_216_320).trans ((fRow f24.1.2.1 320 kR_216_320).trans ((fRow f19.1.2.1 320 kR_216_320).trans (fRow f10.1.2.1 320 kR_216_320))))
  have e77 : hV H6 321 = hV H1 321 := (fRow f34.1.2.1 321 kR_216_321).trans ((fRow f29.1.2.1 321 kR_216_321).trans ((fRow f24.1.2.1 321 kR_216_321).trans ((fRow f19.1.2.1 321 kR_216_321).trans (fRow f10.1.2.1 321 kR_216_321))))
  have e86 : hV H6 322 = hV H1 322 := (fRow f34.1.2.1 322 kR_216_322).trans ((fRow f29.1.2.1 322 kR_216_322).trans ((fRow f24.1.2.1 322 kR_216_322).trans ((fRow f19.1.2.1 322 kR_216_322).trans (fRow f10.1.2.1 322 kR_216_322))))
  have e87 : RR H2 = RR H1 := RR_fr f10.1.2.1 (by decide +kernel)
  have e88 : RR H3 = RR H2 := RR_fr f19.1.2.1 (by decide +kernel)
  have e89 : RR H3 = RR H1 := e88.trans e87
  have e90 : RR H4 = RR H3 := RR_fr f24.1.2.1 (by decide +kernel)
  have e91 : RR H4 = RR H1 := e90.trans e89
  have e92 : RR H5 = RR H4 := RR_fr f29.1.2.1 (by decide +kernel)
  have e93 : RR H5 = RR H1 := e92.trans e91
  have e94 : RR H6 = RR H5 := RR_fr f34.1.2.1 (by decide +kernel)
  have e95 : RR H6 = RR H1 := e94.trans e93
  have e96 : (0 : Int) ≤ hV H1 285 11 ∧ hV H1 285 11 ≤ 500 := f6.1.2.2 285 11 _ _ kW_285_11
  have e97 : (0 : Int) ≤ hV H1 285 12 ∧ hV H1 285 12 ≤ 7 := f6.1.2.2 285 12 _ _ kW_285_12
  have e98 : (0 : Int) ≤ hV H1 285 13 ∧ hV H1 285 13 ≤ 2 := f6.1.2.2 285 13 _ _ kW_285_13
  have e99 : (0 : Int) ≤ hV H0 285 34 ∧ hV H0 285 34 ≤ 1 := bTo e3 (f6.1.2.2 285 34 _ _ kW_285_34)
  have e100 : (0 : Int) ≤ hV H0 285 35 ∧ hV H0 285 35 ≤ 1 := bTo e5 (f6.1.2.2 285 35 _ _ kW_285_35)
  have e101 : (0 : Int) ≤ hV H1 285 51 ∧ hV H1 285 51 ≤ 1200 := f6.1.2.2 285 51 _ _ kW_285_51
  have e102 : (0 : Int) ≤ hV H1 285 55 ∧ hV H1 285 55 ≤ 64 := f6.1.2.2 285 55 _ _ kW_285_55
  try simp only [e32, e37, e39, e45, e51, e57, e59, e68, e77, e86, e95]
  have y0 := g4.1
  have y1 := g4.2.1
  have y2 := g4.2.2.1
  have y3 := g4.2.2.2.1
  have y4 := g4.2.2.2.2.1
  have y5 := g4.2.2.2.2.2.1
  have y6 := g4.2.2.2.2.2.2.1
  have y7 := g4.2.2.2.2.2.2.2.1
  have y8 := g4.2.2.2.2.2.2.2.2.1
  have y9 := g4.2.2.2.2.2.2.2.2.2.1
  have y10 := g4.2.2.2.2.2.2.2.2.2.2
  have p0 := g3.1
  have p1 := g3.2.1
  have p2 := g3.2.2.1
  have p3 := g3.2.2.2.1
  have p4 := g3.2.2.2.2
  have r0_0 := f10.2.1
  have r0_1 := f10.2.2.resolve_right (fun z => f11 z.1)
  have r1_0 := f19.2.1
  have r2_0 := f24.2.1
  have r3_0 := f29.2.1
  have r4_0 := f34.2.1
  have r4_1 := f34.2.2.resolve_right (fun z => f35 z.1)
  try simp only [e5] at y7
  try simp only [e9] at r0_0
  try simp only [e3, e5, e7, e9, e12] at r0_1
  try simp only [e16] at r1_0
  try simp only [e22] at r2_0
  try simp only [e28] at r3_0
  try simp only [e39] at r4_0
  try simp only [e26, e28, e30, e32, e37, e39, e45, e51, e57, e59, e68, e77, e86, e95] at r4_1
  clear g3
  clear g4
  clear f14 e3 e5 e7 e9 e12 e16 e22 e26 e28 e30 e32 e37 e39 e45 e51 e57 e59 e68 e77 e86 e87 e88 e89 e90 e91 e92 e93 e94 e95
  clear f6 f10 f19 f24 f29 f34
  subst e1
  try have wl := wo_leI (w := hV H1 322) (n := hV H1 285 55) (by omega)
  try have wb := WT_bound y2 (by omega)
  try have wl2 := wo_leI (w := hV H1 322) (n := hV H2 285 55) (by omega)
  try have wl3 := wo_leI (w := hV H1 322) (n := hV H3 285 55) (by omega)
  try have wl4 := wo_leI (w := hV H1 322) (n := hV H4 285 55) (by omega)
  try have wl5 := wo_leI (w := hV H1 322) (n := hV H5 285 55) (by omega)
  try have wl6 := wo_leI (w := hV H1 322) (n := hV H6 285 55) (by omega)
  try have wl7 := wo_leI (w := hV H1 322) (n := hV H7 285 55) (by omega)
  try have wl8 := wo_leI (w := hV H1 322) (n := hV H8 285 55) (by omega)
  try have wl9 := wo_leI (w := hV H1 322) (n := hV H9 285 55) (by omega)
  try have wl10 := wo_leI (w := hV H1 322) (n := hV H10 285 55) (by omega)

  refine ⟨⟨?_, ?_, ?_, ?_, ?_, ?_, ?_, ?_, ?_, ?_, ?_⟩, fun q hq => ?_⟩
  · exact y0
  · intro z
    exact y1 (by omega)
  · exact y2
  · first | omega | (rw [wo_push] <;> omega)
  · first | omega | (rw [wo_push] <;> omega)
  · first | omega | (rw [wo_push] <;> omega)
  · first | omega | (rw [wo_push] <;> omega)
  · first | omega | (rw [wo_push] <;> omega)
  · first | omega | (rw [wo_push] <;> omega)
  · first | omega | (rw [wo_push] <;> omega)
  · first | omega | (rw [wo_push] <;> omega)
  · have g6 := Option.some.inj hq
    subst g6
    omega
def g_236_96_9 : vG := ([(0, [15], [], 1), (31, [14], [], 0), (1216, [14, 1, 13], [5, 6], 0), (90, [14], [], 0), (91, [14], [], 1), (0, [13], [], 15), (30, [12], [], 0), (1216, [12, 1, 11], [4, 5], 0), (90, [12], [], 0), (91, [12], [], 1), (0, [11], [], 10), (30, [10], [], 0), (1216, [10, 1, 9], [3, 4], 0), (90, [10], [], 0), (91, [10], [], 1), (0, [9], [], 9), (30, [8], [], 0), (1216, [8, 1, 7], [2, 3], 0), (90, [8], [], 0), (91, [8], [], 1), (0, [7], [], 8), (45, [6, 2], [], 0), (20, [6, 1], [2], 12), (90, [6], [], 0), (91, [6], [], 7), (31, [5], [], 0), (1216, [5, 1, 4], [1, 2], 0), (90, [5], [], 0), (91, [5], [], 1), (0, [4], [], 7), (5000, [0, 1, 2, 3], [0, 1], 96), (0, [0], [], 285), (0, [1], [], 285), (90, [2], [], 0), (91, [2], [], 7), (90, [3], [], -2147483648), (91, [3], [], 2147483647)], (4000, [1, 2, 15], [6], 187))
theorem c_236_96_9 {q0 : Nat} : vOkm T0 (eP e_236 L_236 A_236 mu_236 (some q0)) 1 g_236_96_9 := vOk_inI fun ρ η f0 f1 f2 f3 f4 f5 f6 f7 f8 f9 f10 f11 f12 f13 f14 f15 f16 f17 f18 f19 f20 f21 f22 f23 f24 f25 f26 f27 f28 f29 f30 f31 f32 f33 f34 f35 f36 => q_236_26 (q0 := q0) (n0 := ρ 3) (n1 := ρ 2) (n2 := ρ 1) (n3 := ρ 0) (n4 := ρ 4) (n5 := ρ 5) (n6 := ρ 6) (n7 := ρ 7) (n8 := ρ 8) (n9 := ρ 9) (n10 := ρ 10) (n11 := ρ 11) (n12 := ρ 12) (n13 := ρ 13) (n14 := ρ 14) (n15 := ρ 15) (H0 := η 0) (H1 := η 1) (H2 := η 2) (H3 := η 3) (H4 := η 4) (H5 := η 5) (H6 := η 6) f36 f35 f34 f33 f32 f31 f30 f29 f28 f27 f26 f25 f24 f23 f22 f21 f20 f19 f18 f17 f16 f15 f14 f13 f12 f11 f10 f9 f8 f7 f6 f5 f4 f3 f2 f1 f0
set_option maxHeartbeats 20000000 in
theorem q_236_27 {q0 : Nat} {n0 n1 n2 n3 n4 n5 n6 n7 : Int} {H0 H1 H2 : gH} (f0 : n0 ≤ 2147483647) (f1 : (-2147483648) ≤ n0) (f2 : n1 ≤ 7) (f3 : 0 ≤ n1) (f4 : n2 = 285) (f5 : n3 = 285) (f6 : (hLe T0 H0 H1 ∧ hFr s_236.2.2.2.2 H0 H1 ∧ hWt T0 H1) ∧ (Ab_236_96 n3 n2 n1 n0 H0 H1 ∧ preb_236 n3 H0) ∧ some q0 = some (mub_236_96 n3 n2 n1 n0 H0 H1)) (f7 : n4 = 7) (f8 : n5 ≤ 1) (f9 : 0 ≤ n5) (f10 : (hLe T0 H1 H2 ∧ hFr s_216.2.2.2.2 H1 H2 ∧ ((0 : Int) = 0 → H2.length = H1.length) ∧ hWt T0 H2) ∧ postb_216 n5 n2 n4 H1 H2) (f11 : n5 ≠ 0) (f12 : n6 ≤ 7) (f13 : 0 ≤ n6) (f14 : n6 = hV H2 (n2).toNat 12) (f15 : n1 < n6) (f16 : n7 = 0) : preb_235 n2 n7 H2 := by
  have g4 := f6.2.1.1
  unfold Ab_236_96 at g4
  have g3 := f6.2.1.2
  unfold preb_236 at g3
  unfold postb_216 at f10
  unfold preb_235
  have e1 : n6 = hV H1 285 12 := (by rw [f4] at f14; exact f14 : n6 = hV H2 285 12).trans ((f10.1.2.1.1 285 12 kF_216_285_12))
  have e3 : hV H1 285 34 = hV H0 285 34 := (f6.1.2.1.1 285 34 kF_236_285_34)
  have e5 : hV H1 285 35 = hV H0 285 35 := (f6.1.2.1.1 285 35 kF_236_285_35)
  have e7 : hV H2 285 11 = hV H1 285 11 := (f10.1.2.1.1 285 11 kF_216_285_11)
  have e9 : hV H2 285 13 = hV H1 285 13 := (f10.1.2.1.1 285 13 kF_216_285_13)
  have e11 : hV H2 285 34 = hV H0 285 34 := ((f10.1.2.1.1 285 34 kF_216_285_34)).trans (f6.1.2.1.1 285 34 kF_236_285_34)
  have e13 : hV H2 285 35 = hV H0 285 35 := ((f10.1.2.1.1 285 35 kF_216_285_35)).trans (f6.1.2.1.1 285 35 kF_236_285_35)
  have e15 : hV H2 285 51 = hV H1 285 51 := (f10.1.2.1.1 285 51 kF_216_285_51)
  have e17 : hV H2 285 55 = hV H1 285 55 := (f10.1.2.1.1 285 55 kF_216_285_55)
  have e20 : hV H2 288 = hV H0 288 := (fRow f10.1.2.1 288 kR_216_288).trans (fRow f6.1.2.1 288 kR_236_288)
  have e21 : hV H2 322 = hV H1 322 := fRow f10.1.2.1 322 kR_216_322
  have e22 : RR H2 = RR H1 := RR_fr f10.1.2.1 (by decide +kernel)
  have e23 : (0 : Int) ≤ hV H1 285 11 ∧ hV H1 285 11 ≤ 500 := f6.1.2.2 285 11 _ _ kW_285_11
  have e24 : (0 : Int) ≤ hV H1 285 12 ∧ hV H1 285 12 ≤ 7 := f6.1.2.2 285 12 _ _ kW_285_12
  have e25 : (0 : Int) ≤ hV H1 285 13 ∧ hV H1 285 13 ≤ 2 := f6.1.2.2 285 13 _ _ kW_285_13
  have e26 : (0 : Int) ≤ hV H0 285 34 ∧ hV H0 285 34 ≤ 1 := bTo e3 (f6.1.2.2 285 34 _ _ kW_285_34)
  have e27 : (0 : Int) ≤ hV H0 285 35 ∧ hV H0 285 35 ≤ 1 := bTo e5 (f6.1.2.2 285 35 _ _ kW_285_35)
  have e28 : (0 : Int) ≤ hV H1 285 51 ∧ hV H1 285 51 ≤ 1200 := f6.1.2.2 285 51 _ _ kW_285_51
  have e29 : (0 : Int) ≤ hV H1 285 55 ∧ hV H1 285 55 ≤ 64 := f6.1.2.2 285 55 _ _ kW_285_55
  try simp only [e11, e13, e15, e17, e21, e22]
  have y0 := g4.1
  have y1 := g4.2.1
  have y2 := g4.2.2.1
  have y3 := g4.2.2.2.1
  have y4 := g4.2.2.2.2.1
  have y5 := g4.2.2.2.2.2.1
  have y6 := g4.2.2.2.2.2.2.1
  have y7 := g4.2.2.2.2.2.2.2.1
  have y8 := g4.2.2.2.2.2.2.2.2.1
  have y9 := g4.2.2.2.2.2.2.2.2.2.1
  have y10 := g4.2.2.2.2.2.2.2.2.2.2
  have p0 := g3.1
  have p1 := g3.2.1
  have p2 := g3.2.2.1
  have p3 := g3.2.2.2.1
  have p4 := g3.2.2.2.2
  have r0_0 := f10.2.1
  have r0_1 := f10.2.2.resolve_right (fun z => f11 z.1)
  try simp only [e5] at y7
  try simp only [e9] at r0_0
  try simp only [e3, e5, e7, e9, e11, e13, e15, e17, e20, e21, e22] at r0_1
  clear g3
  clear g4
  clear f14 e3 e5 e7 e9 e11 e13 e15 e17 e20 e21 e22
  clear f6 f10
  subst e1
  try have wl := wo_leI (w := hV H1 322) (n := hV H1 285 55) (by omega)
  try have wb := WT_bound y2 (by omega)
  try have wl2 := wo_leI (w := hV H1 322) (n := hV H2 285 55) (by omega)
  try have wl3 := wo_leI (w := hV H1 322) (n := hV H3 285 55) (by omega)
  try have wl4 := wo_leI (w := hV H1 322) (n := hV H4 285 55) (by omega)
  try have wl5 := wo_leI (w := hV H1 322) (n := hV H5 285 55) (by omega)
  try have wl6 := wo_leI (w := hV H1 322) (n := hV H6 285 55) (by omega)
  try have wl7 := wo_leI (w := hV H1 322) (n := hV H7 285 55) (by omega)
  try have wl8 := wo_leI (w := hV H1 322) (n := hV H8 285 55) (by omega)
  try have wl9 := wo_leI (w := hV H1 322) (n := hV H9 285 55) (by omega)
  try have wl10 := wo_leI (w := hV H1 322) (n := hV H10 285 55) (by omega)
  subst y3
  refine ⟨?_, ?_, ?_, ?_⟩ <;> first | assumption | omega | trivial
def g_236_96_10 : vG := ([(0, [7], [], 0), (44, [6, 2], [], 0), (20, [6, 1], [2], 12), (90, [6], [], 0), (91, [6], [], 7), (31, [5], [], 0), (1216, [5, 1, 4], [1, 2], 0), (90, [5], [], 0), (91, [5], [], 1), (0, [4], [], 7), (5000, [0, 1, 2, 3], [0, 1], 96), (0, [0], [], 285), (0, [1], [], 285), (90, [2], [], 0), (91, [2], [], 7), (90, [3], [], -2147483648), (91, [3], [], 2147483647)], (2235, [1, 7], [2], 0))
theorem c_236_96_10 {q0 : Nat} : vOkm T0 (eP e_236 L_236 A_236 mu_236 (some q0)) 1 g_236_96_10 := vOk_inI fun ρ η f0 f1 f2 f3 f4 f5 f6 f7 f8 f9 f10 f11 f12 f13 f14 f15 f16 => q_236_27 (q0 := q0) (n0 := ρ 3) (n1 := ρ 2) (n2 := ρ 1) (n3 := ρ 0) (n4 := ρ 4) (n5 := ρ 5) (n6 := ρ 6) (n7 := ρ 7) (H0 := η 0) (H1 := η 1) (H2 := η 2) f16 f15 f14 f13 f12 f11 f10 f9 f8 f7 f6 f5 f4 f3 f2 f1 f0
set_option maxHeartbeats 20000000 in
theorem q_236_28 {q0 : Nat} {n0 n1 n2 n3 n4 n5 n6 n7 n8 n9 n10 : Int} {H0 H1 H2 H3 : gH} (f0 : n0 ≤ 2147483647) (f1 : (-2147483648) ≤ n0) (f2 : n1 ≤ 7) (f3 : 0 ≤ n1) (f4 : n2 = 285) (f5 : n3 = 285) (f6 : (hLe T0 H0 H1 ∧ hFr s_236.2.2.2.2 H0 H1 ∧ hWt T0 H1) ∧ (Ab_236_96 n3 n2 n1 n0 H0 H1 ∧ preb_236 n3 H0) ∧ some q0 = some (mub_236_96 n3 n2 n1 n0 H0 H1)) (f7 : n4 = 7) (f8 : n5 ≤ 1) (f9 : 0 ≤ n5) (f10 : (hLe T0 H1 H2 ∧ hFr s_216.2.2.2.2 H1 H2 ∧ ((0 : Int) = 0 → H2.length = H1.length) ∧ hWt T0 H2) ∧ postb_216 n5 n2 n4 H1 H2) (f11 : n5 ≠ 0) (f12 : n6 ≤ 7) (f13 : 0 ≤ n6) (f14 : n6 = hV H2 (n2).toNat 12) (f15 : n1 < n6) (f16 : n7 = 0) (f17 : (hLe T0 H2 H3 ∧ hFr s_235.2.2.2.2 H2 H3 ∧ ((0 : Int) = 0 → H3.length = H2.length) ∧ hWt T0 H3) ∧ postb_235 n2 n7 H2 H3) (f18 : n8 ≤ 64) (f19 : 0 ≤ n8) (f20 : n8 = hV H3 (n2).toNat 55) (f21 : n9 = 1) (f22 : n10 = w32 (n8 - n9)) : 0 ≤ n10 := by
  have g4 := f6.2.1.1
  unfold Ab_236_96 at g4
  have g3 := f6.2.1.2
  unfold preb_236 at g3
  unfold postb_216 at f10
  unfold postb_235 at f17
  have e1 : n6 = hV H1 285 12 := (by rw [f4] at f14; exact f14 : n6 = hV H2 285 12).trans ((f10.1.2.1.1 285 12 kF_216_285_12))
  have e2 : n8 = hV H3 285 55 := (by rw [f4] at f20; exact f20 : n8 = hV H3 285 55)
  have e4 : hV H1 285 34 = hV H0 285 34 := (f6.1.2.1.1 285 34 kF_236_285_34)
  have e6 : hV H1 285 35 = hV H0 285 35 := (f6.1.2.1.1 285 35 kF_236_285_35)
  have e8 : hV H2 285 11 = hV H1 285 11 := (f10.1.2.1.1 285 11 kF_216_285_11)
  have e10 : hV H2 285 13 = hV H1 285 13 := (f10.1.2.1.1 285 13 kF_216_285_13)
  have e12 : hV H2 285 51 = hV H1 285 51 := (f10.1.2.1.1 285 51 kF_216_285_51)
  have e14 : hV H2 285 55 = hV H1 285 55 := (f10.1.2.1.1 285 55 kF_216_285_55)
  have e17 : hV H2 288 = hV H0 288 := (fRow f10.1.2.1 288 kR_216_288).trans (fRow f6.1.2.1 288 kR_236_288)
  have e18 : hV H2 320 = hV H1 320 := fRow f10.1.2.1 320 kR_216_320
  have e19 : hV H2 321 = hV H1 321 := fRow f10.1.2.1 321 kR_216_321
  have e20 : hV H2 322 = hV H1 322 := fRow f10.1.2.1 322 kR_216_322
  have e22 : hV H3 322 = hV H1 322 := (fRow f17.1.2.1 322 kR_235_322).trans e20
  have e23 : (0 : Int) ≤ hV H1 285 11 ∧ hV H1 285 11 ≤ 500 := f6.1.2.2 285 11 _ _ kW_285_11
  have e24 : (0 : Int) ≤ hV H1 285 12 ∧ hV H1 285 12 ≤ 7 := f6.1.2.2 285 12 _ _ kW_285_12
  have e25 : (0 : Int) ≤ hV H1 285 13 ∧ hV H1 285 13 ≤ 2 := f6.1.2.2 285 13 _ _ kW_285_13
  have e26 : (0 : Int) ≤ hV H0 285 34 ∧ hV H0 285 34 ≤ 1 := bTo e4 (f6.1.2.2 285 34 _ _ kW_285_34)
  have e27 : (0 : Int) ≤ hV H0 285 35 ∧ hV H0 285 35 ≤ 1 := bTo e6 (f6.1.2.2 285 35 _ _ kW_285_35)
  have e28 : (0 : Int) ≤ hV H1 285 51 ∧ hV H1 285 51 ≤ 1200 := f6.1.2.2 285 51 _ _ kW_285_51
  have e29 : (0 : Int) ≤ hV H1 285 55 ∧ hV H1 285 55 ≤ 64 := f6.1.2.2 285 55 _ _ kW_285_55
  have e34 : (0 : Int) ≤ hV H3 285 51 ∧ hV H3 285 51 ≤ 1200 := f17.1.2.2.2 285 51 _ _ kW_285_51
  have e35 : (0 : Int) ≤ hV H3 285 55 ∧ hV H3 285 55 ≤ 64 := f17.1.2.2.2 285 55 _ _ kW_285_55
  have y0 := g4.1
  have y1 := g4.2.1
  have y2 := g4.2.2.1
  have y3 := g4.2.2.2.1
  have y4 := g4.2.2.2.2.1
  have y5 := g4.2.2.2.2.2.1
  have y6 := g4.2.2.2.2.2.2.1
  have y7 := g4.2.2.2.2.2.2.2.1
  have y8 := g4.2.2.2.2.2.2.2.2.1
  have y9 := g4.2.2.2.2.2.2.2.2.2.1
  have y10 := g4.2.2.2.2.2.2.2.2.2.2
  have p0 := g3.1
  have p1 := g3.2.1
  have p2 := g3.2.2.1
  have p3 := g3.2.2.2.1
  have p4 := g3.2.2.2.2
  have r0_0 := f10.2.1
  have r0_1 := f10.2.2.resolve_right (fun z => f11 z.1)
  have r1_0 := f17.2.1
  have r1_1 := f17.2.2.1
  have r1_2 := f17.2.2.2.1
  have r1_3 := f17.2.2.2.2.1
  have r1_4 := f17.2.2.2.2.2.1
  have r1_5 := f17.2.2.2.2.2.2
  try simp only [e6] at y7
  try simp only [e10] at r0_0
  try simp only [e4, e6, e8, e10, e12, e14, e17, e18, e19, e20] at r0_1
  try simp only [e12, e14, e18, e19, e20, e22] at r1_1
  try simp only [e12, e14] at r1_2
  try simp only [e14] at r1_3
  try simp only [e14, e20, e22] at r1_4
  try simp only [e22] at r1_5
  clear g3
  clear g4
  clear f14 f20 e4 e6 e8 e10 e12 e14 e17 e18 e19 e20 e22
  clear f6 f10 f17
  subst e1
  subst e2
  try have wl := wo_leI (w := hV H1 322) (n := hV H1 285 55) (by omega)
  try have wb := WT_bound y2 (by omega)
  try have wl2 := wo_leI (w := hV H1 322) (n := hV H2 285 55) (by omega)
  try have wl3 := wo_leI (w := hV H1 322) (n := hV H3 285 55) (by omega)
  try have wl4 := wo_leI (w := hV H1 322) (n := hV H4 285 55) (by omega)
  try have wl5 := wo_leI (w := hV H1 322) (n := hV H5 285 55) (by omega)
  try have wl6 := wo_leI (w := hV H1 322) (n := hV H6 285 55) (by omega)
  try have wl7 := wo_leI (w := hV H1 322) (n := hV H7 285 55) (by omega)
  try have wl8 := wo_leI (w := hV H1 322) (n := hV H8 285 55) (by omega)
  try have wl9 := wo_leI (w := hV H1 322) (n := hV H9 285 55) (by omega)
  try have wl10 := wo_leI (w := hV H1 322) (n := hV H10 285 55) (by omega)
  first
  | (have ix0 : n10 = hV H3 285 55 - 1 := Eq.trans f22 (w32_iv (Isu (Iat f19 f18) (IC 1)) (by decide)); subst ix0; clear f22)
  | (have ix0 : n10 = hV H3 285 55 - 1 := Eq.trans f22 (w32_id (by omega) (by omega)); subst ix0; clear f22)
  | (unfold w32 at f22; have ix0 : n10 = hV H3 285 55 - 1 := (by omega); subst ix0)
  | skip
  try unfold w32 at f22
  subst y3
  omega
def g_236_96_11 : vG := ([(2, [10, 8, 9], [], 0), (0, [9], [], 1), (20, [8, 1], [3], 55), (90, [8], [], 0), (91, [8], [], 64), (1235, [1, 7], [2, 3], 0), (0, [7], [], 0), (44, [6, 2], [], 0), (20, [6, 1], [2], 12), (90, [6], [], 0), (91, [6], [], 7), (31, [5], [], 0), (1216, [5, 1, 4], [1, 2], 0), (90, [5], [], 0), (91, [5], [], 1), (0, [4], [], 7), (5000, [0, 1, 2, 3], [0, 1], 96), (0, [0], [], 285), (0, [1], [], 285), (90, [2], [], 0), (91, [2], [], 7), (90, [3], [], -2147483648), (91, [3], [], 2147483647)], (90, [10], [], 0))
theorem c_236_96_11 {q0 : Nat} : vOkm T0 (eP e_236 L_236 A_236 mu_236 (some q0)) 1 g_236_96_11 := vOk_inI fun ρ η f0 f1 f2 f3 f4 f5 f6 f7 f8 f9 f10 f11 f12 f13 f14 f15 f16 f17 f18 f19 f20 f21 f22 => q_236_28 (q0 := q0) (n0 := ρ 3) (n1 := ρ 2) (n2 := ρ 1) (n3 := ρ 0) (n4 := ρ 4) (n5 := ρ 5) (n6 := ρ 6) (n7 := ρ 7) (n8 := ρ 8) (n9 := ρ 9) (n10 := ρ 10) (H0 := η 0) (H1 := η 1) (H2 := η 2) (H3 := η 3) f22 f21 f20 f19 f18 f17 f16 f15 f14 f13 f12 f11 f10 f9 f8 f7 f6 f5 f4 f3 f2 f1 f0
set_option maxHeartbeats 20000000 in
theorem q_236_29 {q0 : Nat} {n0 n1 n2 : Int} {H0 : gH} (f0 : n0 ≤ 64) (f1 : 0 ≤ n0) (f2 : n1 = 1) (f3 : n2 = w32 (n0 - n1)) : n2 ≤ 64 := by
  first
  | (have ix0 : n2 = n0 - 1 := Eq.trans f3 (w32_iv (Isu (Iat f1 f0) (IC 1)) (by decide)); subst ix0; clear f3)
  | (have ix0 : n2 = n0 - 1 := Eq.trans f3 (w32_id (by omega) (by omega)); subst ix0; clear f3)
  | (unfold w32 at f3; have ix0 : n2 = n0 - 1 := (by omega); subst ix0)
  | skip
  try unfold w32 at f3
  omega
def g_236_96_12 : vG := ([(2, [10, 8, 9], [], 0), (0, [9], [], 1), (90, [8], [], 0), (91, [8], [], 64)], (91, [10], [], 64))
theorem c_236_96_12 {q0 : Nat} : vOkm T0 (eP e_236 L_236 A_236 mu_236 (some q0)) 1 g_236_96_12 := vOk_inI fun ρ η f0 f1 f2 f3 => q_236_29 (q0 := q0) (n0 := ρ 8) (n1 := ρ 9) (n2 := ρ 10) (H0 := η 0) f3 f2 f1 f0
set_option maxHeartbeats 20000000 in
theorem kF_235_285_12 : vFree s_235.2.2.2.2 285 12 = true := by decide +kernel
theorem q_236_30 {q0 : Nat} {n0 n1 n2 n3 n4 n5 n6 n7 n8 : Int} {H0 H1 H2 H3 : gH} (f0 : 0 ≤ n0) (f1 : n1 = 285) (f2 : n2 = hV H1 (n1).toNat 12) (f3 : n0 < n2) (f4 : n3 = 0) (f5 : (hLe T0 H1 H2 ∧ hFr s_235.2.2.2.2 H1 H2 ∧ ((0 : Int) = 0 → H2.length = H1.length) ∧ hWt T0 H2) ∧ postb_235 n1 n3 H1 H2) (f6 : n4 = 55) (f7 : hUpd H3 H2 n1 n4 n5) (f8 : n6 ≤ 7) (f9 : n6 = hV H3 (n1).toNat 12) (f10 : n7 = 1) (f11 : n8 = w32 (n6 - n7)) : 0 ≤ n8 := by
  unfold postb_235 at f5
  have e0 : n2 = hV H1 285 12 := (by rw [f1] at f2; exact f2 : n2 = hV H1 285 12)
  have e3 : n6 = hV H1 285 12 := (by rw [f1] at f9; exact f9 : n6 = hV H3 285 12).trans (((uSlot f7 285 12 (iS (show n4 = ((55 : Nat) : Int) from f6) rfl))).trans (f5.1.2.1.1 285 12 kF_235_285_12))
  have e4 : hV H2 322 = hV H1 322 := fRow f5.1.2.1 322 kR_235_322
  have e5 : (0 : Int) ≤ hV H2 285 51 ∧ hV H2 285 51 ≤ 1200 := f5.1.2.2.2 285 51 _ _ kW_285_51
  have e6 : (0 : Int) ≤ hV H2 285 55 ∧ hV H2 285 55 ≤ 64 := f5.1.2.2.2 285 55 _ _ kW_285_55
  have r0_0 := f5.2.1
  have r0_1 := f5.2.2.1
  have r0_2 := f5.2.2.2.1
  have r0_3 := f5.2.2.2.2.1
  have r0_4 := f5.2.2.2.2.2.1
  have r0_5 := f5.2.2.2.2.2.2
  try simp only [e4] at r0_1
  try simp only [e4] at r0_4
  try simp only [e4] at r0_5
  clear f2 f9 e4
  clear f5
  subst e0
  subst e3
  first
  | (have ix0 : n8 = hV H1 285 12 - 1 := Eq.trans f11 (w32_id (by omega) (by omega)); subst ix0; clear f11)
  | (unfold w32 at f11; have ix0 : n8 = hV H1 285 12 - 1 := (by omega); subst ix0)
  | skip
  try unfold w32 at f11
  omega
def g_236_96_13 : vG := ([(2, [14, 12, 13], [], 0), (0, [13], [], 1), (20, [12, 1], [4], 12), (91, [12], [], 7), (80, [1, 11, 10], [4, 3], 0), (0, [11], [], 55), (1235, [1, 7], [2, 3], 0), (0, [7], [], 0), (44, [6, 2], [], 0), (20, [6, 1], [2], 12), (0, [1], [], 285), (90, [2], [], 0)], (90, [14], [], 0))
theorem c_236_96_13 {q0 : Nat} : vOkm T0 (eP e_236 L_236 A_236 mu_236 (some q0)) 1 g_236_96_13 := vOk_inI fun ρ η f0 f1 f2 f3 f4 f5 f6 f7 f8 f9 f10 f11 => q_236_30 (q0 := q0) (n0 := ρ 2) (n1 := ρ 1) (n2 := ρ 6) (n3 := ρ 7) (n4 := ρ 11) (n5 := ρ 10) (n6 := ρ 12) (n7 := ρ 13) (n8 := ρ 14) (H0 := η 0) (H1 := η 2) (H2 := η 3) (H3 := η 4) f11 f10 f9 f8 f7 f6 f5 f4 f3 f2 f1 f0
set_option maxHeartbeats 20000000 in
theorem q_236_31 {q0 : Nat} {n0 n1 n2 : Int} {H0 : gH} (f0 : n0 ≤ 7) (f1 : 0 ≤ n0) (f2 : n1 = 1) (f3 : n2 = w32 (n0 - n1)) : n2 ≤ 7 := by
  first
  | (have ix0 : n2 = n0 - 1 := Eq.trans f3 (w32_iv (Isu (Iat f1 f0) (IC 1)) (by decide)); subst ix0; clear f3)
  | (have ix0 : n2 = n0 - 1 := Eq.trans f3 (w32_id (by omega) (by omega)); subst ix0; clear f3)
  | (unfold w32 at f3; have ix0 : n2 = n0 - 1 := (by omega); subst ix0)
  | skip
  try unfold w32 at f3
  omega
def g_236_96_14 : vG := ([(2, [14, 12, 13], [], 0), (0, [13], [], 1), (90, [12], [], 0), (91, [12], [], 7)], (91, [14], [], 7))
theorem c_236_96_14 {q0 : Nat} : vOkm T0 (eP e_236 L_236 A_236 mu_236 (some q0)) 1 g_236_96_14 := vOk_inI fun ρ η f0 f1 f2 f3 => q_236_31 (q0 := q0) (n0 := ρ 12) (n1 := ρ 13) (n2 := ρ 14) (H0 := η 0) f3 f2 f1 f0
set_option maxHeartbeats 20000000 in
theorem kF_235_285_11 : vFree s_235.2.2.2.2 285 11 = true := by decide +kernel
theorem kF_235_285_13 : vFree s_235.2.2.2.2 285 13 = true := by decide +kernel
theorem q_236_32 {q0 : Nat} {n0 n1 n2 n3 n4 n5 n6 n7 n8 n9 n10 n11 n12 n13 n14 n15 : Int} {H0 H1 H2 H3 H4 H5 H6 : gH} (f0 : n0 ≤ 2147483647) (f1 : (-2147483648) ≤ n0) (f2 : n1 ≤ 7) (f3 : 0 ≤ n1) (f4 : n2 = 285) (f5 : n3 = 285) (f6 : (hLe T0 H0 H1 ∧ hFr s_236.2.2.2.2 H0 H1 ∧ hWt T0 H1) ∧ (Ab_236_96 n3 n2 n1 n0 H0 H1 ∧ preb_236 n3 H0) ∧ some q0 = some (mub_236_96 n3 n2 n1 n0 H0 H1)) (f7 : n4 = 7) (f8 : n5 ≤ 1) (f9 : 0 ≤ n5) (f10 : (hLe T0 H1 H2 ∧ hFr s_216.2.2.2.2 H1 H2 ∧ ((0 : Int) = 0 → H2.length = H1.length) ∧ hWt T0 H2) ∧ postb_216 n5 n2 n4 H1 H2) (f11 : n5 ≠ 0) (f12 : n6 ≤ 7) (f13 : 0 ≤ n6) (f14 : n6 = hV H2 (n2).toNat 12) (f15 : n1 < n6) (f16 : n7 = 0) (f17 : (hLe T0 H2 H3 ∧ hFr s_235.2.2.2.2 H2 H3 ∧ ((0 : Int) = 0 → H3.length = H2.length) ∧ hWt T0 H3) ∧ postb_235 n2 n7 H2 H3) (f18 : n8 ≤ 64) (f19 : 0 ≤ n8) (f20 : n8 = hV H3 (n2).toNat 55) (f21 : n9 = 1) (f22 : n10 = w32 (n8 - n9)) (f23 : n11 = 55) (f24 : hUpd H4 H3 n2 n11 n10) (f25 : n12 ≤ 7) (f26 : 0 ≤ n12) (f27 : n12 = hV H4 (n2).toNat 12) (f28 : n13 = 1) (f29 : n14 = w32 (n12 - n13)) (f30 : n15 = 12) (f31 : hUpd H5 H4 n2 n15 n14) (f32 : (hLe T0 H5 H6 ∧ hFr s_219.2.2.2.2 H5 H6 ∧ ((0 : Int) = 0 → H6.length = H5.length) ∧ hWt T0 H6) ∧ postb_219 n2 H5 H6) : Ab_236_96 n3 n2 n1 n0 H0 H6 ∧ ∀ q, some q0 = some q → mub_236_96 n3 n2 n1 n0 H0 H6 < q := by
  have g4 := f6.2.1.1
  unfold Ab_236_96 at g4
  have g3 := f6.2.1.2
  unfold preb_236 at g3
  have g5 := Option.some.inj f6.2.2
  unfold mub_236_96 at g5
  unfold postb_216 at f10
  unfold postb_235 at f17
  unfold postb_219 at f32
  unfold Ab_236_96
  unfold mub_236_96
  have e1 : n6 = hV H1 285 12 := (by rw [f4] at f14; exact f14 : n6 = hV H2 285 12).trans ((f10.1.2.1.1 285 12 kF_216_285_12))
  have e2 : n8 = hV H3 285 55 := (by rw [f4] at f20; exact f20 : n8 = hV H3 285 55)
  have e5 : n12 = hV H1 285 12 := (by rw [f4] at f27; exact f27 : n12 = hV H4 285 12).trans (((uSlot f24 285 12 (iS (show n11 = ((55 : Nat) : Int) from f23) rfl))).trans (((f17.1.2.1.1 285 12 kF_235_285_12)).trans (f10.1.2.1.1 285 12 kF_216_285_12)))
  have e7 : hV H1 285 34 = hV H0 285 34 := (f6.1.2.1.1 285 34 kF_236_285_34)
  have e9 : hV H1 285 35 = hV H0 285 35 := (f6.1.2.1.1 285 35 kF_236_285_35)
  have e11 : hV H2 285 11 = hV H1 285 11 := (f10.1.2.1.1 285 11 kF_216_285_11)
  have e13 : hV H2 285 13 = hV H1 285 13 := (f10.1.2.1.1 285 13 kF_216_285_13)
  have e15 : hV H2 285 51 = hV H1 285 51 := (f10.1.2.1.1 285 51 kF_216_285_51)
  have e17 : hV H2 285 55 = hV H1 285 55 := (f10.1.2.1.1 285 55 kF_216_285_55)
  have e20 : hV H2 288 = hV H0 288 := (fRow f10.1.2.1 288 kR_216_288).trans (fRow f6.1.2.1 288 kR_236_288)
  have e21 : hV H2 320 = hV H1 320 := fRow f10.1.2.1 320 kR_216_320
  have e22 : hV H2 321 = hV H1 321 := fRow f10.1.2.1 321 kR_216_321
  have e23 : hV H2 322 = hV H1 322 := fRow f10.1.2.1 322 kR_216_322
  have e25 : hV H3 322 = hV H1 322 := (fRow f17.1.2.1 322 kR_235_322).trans e23
  have e29 : hV H5 285 11 = hV H1 285 11 := ((uSlot f31 285 11 (iS (show n15 = ((12 : Nat) : Int) from f30) rfl))).trans (((uSlot f24 285 11 (iS (show n11 = ((55 : Nat) : Int) from f23) rfl))).trans (((f17.1.2.1.1 285 11 kF_235_285_11)).trans (f10.1.2.1.1 285 11 kF_216_285_11)))
  have e33 : hV H5 285 13 = hV H1 285 13 := ((uSlot f31 285 13 (iS (show n15 = ((12 : Nat) : Int) from f30) rfl))).trans (((uSlot f24 285 13 (iS (show n11 = ((55 : Nat) : Int) from f23) rfl))).trans (((f17.1.2.1.1 285 13 kF_235_285_13)).trans (f10.1.2.1.1 285 13 kF_216_285_13)))
  have e36 : hV H6 285 12 = n14 := ((f32.1.2.1.1 285 12 kF_219_285_12)).trans (uSame f31 285 12 f4.symm f30.symm)
  have e42 : hV H6 285 35 = hV H0 285 35 := ((f32.1.2.1.1 285 35 kF_219_285_35)).trans (((uSlot f31 285 35 (iS (show n15 = ((12 : Nat) : Int) from f30) rfl))).trans (((uSlot f24 285 35 (iS (show n11 = ((55 : Nat) : Int) from f23) rfl))).trans (((f17.1.2.1.1 285 35 kF_235_285_35)).trans (((f10.1.2.1.1 285 35 kF_216_285_35)).trans (f6.1.2.1.1 285 35 kF_236_285_35)))))
  have e46 : hV H6 285 51 = hV H3 285 51 := ((f32.1.2.1.1 285 51 kF_219_285_51)).trans (((uSlot f31 285 51 (iS (show n15 = ((12 : Nat) : Int) from f30) rfl))).trans (uSlot f24 285 51 (iS (show n11 = ((55 : Nat) : Int) from f23) rfl)))
  have e50 : hV H6 285 55 = n10 := ((f32.1.2.1.1 285 55 kF_219_285_55)).trans (((uSlot f31 285 55 (iS (show n15 = ((12 : Nat) : Int) from f30) rfl))).trans (uSame f24 285 55 f4.symm f23.symm))
  have e55 : hV H6 320 = hV H3 320 := (fRow f32.1.2.1 320 kR_219_320).trans ((uRowNe f31 320 (iS (show n2 = ((285 : Nat) : Int) from f4) rfl)).trans (uRowNe f24 320 (iS (show n2 = ((285 : Nat) : Int) from f4) rfl)))
  have e60 : hV H6 321 = hV H3 321 := (fRow f32.1.2.1 321 kR_219_321).trans ((uRowNe f31 321 (iS (show n2 = ((285 : Nat) : Int) from f4) rfl)).trans (uRowNe f24 321 (iS (show n2 = ((285 : Nat) : Int) from f4) rfl)))
  have e66 : hV H6 322 = hV H1 322 := (fRow f32.1.2.1 322 kR_219_322).trans ((uRowNe f31 322 (iS (show n2 = ((285 : Nat) : Int) from f4) rfl)).trans ((uRowNe f24 322 (iS (show n2 = ((285 : Nat) : Int) from f4) rfl)).trans e25))
  have e67 : RR H4 = RR H3 := RR_upF f24 f4 (show n11 = ((55 : Nat) : Int) from f23) (by decide)
  have e68 : RR H5 = RR H4 := RR_upF f31 f4 (show n15 = ((12 : Nat) : Int) from f30) (by decide)
  have e69 : RR H5 = RR H3 := e68.trans e67
  have e70 : RR H6 = RR H5 := RR_fr f32.1.2.1 (by decide +kernel)
  have e71 : RR H6 = RR H3 := e70.trans e69
  have e72 : (0 : Int) ≤ hV H1 285 11 ∧ hV H1 285 11 ≤ 500 := f6.1.2.2 285 11 _ _ kW_285_11
  have e73 : (0 : Int) ≤ hV H1 285 12 ∧ hV H1 285 12 ≤ 7 := f6.1.2.2 285 12 _ _ kW_285_12
  have e74 : (0 : Int) ≤ hV H1 285 13 ∧ hV H1 285 13 ≤ 2 := f6.1.2.2 285 13 _ _ kW_285_13
  have e75 : (0 : Int) ≤ hV H0 285 34 ∧ hV H0 285 34 ≤ 1 := bTo e7 (f6.1.2.2 285 34 _ _ kW_285_34)
  have e76 : (0 : Int) ≤ hV H0 285 35 ∧ hV H0 285 35 ≤ 1 := bTo e9 (f6.1.2.2 285 35 _ _ kW_285_35)
  have e77 : (0 : Int) ≤ hV H1 285 51 ∧ hV H1 285 51 ≤ 1200 := f6.1.2.2 285 51 _ _ kW_285_51
  have e78 : (0 : Int) ≤ hV H1 285 55 ∧ hV H1 285 55 ≤ 64 := f6.1.2.2 285 55 _ _ kW_285_55
  have e83 : (0 : Int) ≤ hV H3 285 51 ∧ hV H3 285 51 ≤ 1200 := f17.1.2.2.2 285 51 _ _ kW_285_51
  have e84 : (0 : Int) ≤ hV H3 285 55 ∧ hV H3 285 55 ≤ 64 := f17.1.2.2.2 285 55 _ _ kW_285_55
  have e85 : (0 : Int) ≤ hV H6 285 11 ∧ hV H6 285 11 ≤ 500 := f32.1.2.2.2 285 11 _ _ kW_285_11
  have e86 : (0 : Int) ≤ hV H6 285 12 ∧ hV H6 285 12 ≤ 7 := f32.1.2.2.2 285 12 _ _ kW_285_12
  have e87 : (0 : Int) ≤ hV H6 285 13 ∧ hV H6 285 13 ≤ 2 := f32.1.2.2.2 285 13 _ _ kW_285_13
  have e90 : (0 : Int) ≤ hV H6 285 55 ∧ hV H6 285 55 ≤ 64 := f32.1.2.2.2 285 55 _ _ kW_285_55
  try simp only [e36] at e86
  try simp only [e50] at e90
  try simp only [e36, e42, e46, e50, e55, e60, e66, e71]
  have y0 := g4.1
  have y1 := g4.2.1
  have y2 := g4.2.2.1
  have y3 := g4.2.2.2.1
  have y4 := g4.2.2.2.2.1
  have y5 := g4.2.2.2.2.2.1
  have y6 := g4.2.2.2.2.2.2.1
  have y7 := g4.2.2.2.2.2.2.2.1
  have y8 := g4.2.2.2.2.2.2.2.2.1
  have y9 := g4.2.2.2.2.2.2.2.2.2.1
  have y10 := g4.2.2.2.2.2.2.2.2.2.2
  have p0 := g3.1
  have p1 := g3.2.1
  have p2 := g3.2.2.1
  have p3 := g3.2.2.2.1
  have p4 := g3.2.2.2.2
  have r0_0 := f10.2.1
  have r0_1 := f10.2.2.resolve_right (fun z => f11 z.1)
  have r1_0 := f17.2.1
  have r1_1 := f17.2.2.1
  have r1_2 := f17.2.2.2.1
  have r1_3 := f17.2.2.2.2.1
  have r1_4 := f17.2.2.2.2.2.1
  have r1_5 := f17.2.2.2.2.2.2
  have r2_0 := f32.2.1
  have r2_1 := f32.2.2.1
  have r2_2 := f32.2.2.2.1
  have r2_3 := f32.2.2.2.2
  try simp only [e9] at y7
  try simp only [e13] at r0_0
  try simp only [e7, e9, e11, e13, e15, e17, e20, e21, e22, e23] at r0_1
  try simp only [e15, e17, e21, e22, e23, e25] at r1_1
  try simp only [e15, e17] at r1_2
  try simp only [e17] at r1_3
  try simp only [e17, e23, e25] at r1_4
  try simp only [e25] at r1_5
  try simp only [e29] at r2_0
  try simp only [e29] at r2_1
  try simp only [e33] at r2_2
  try simp only [e29] at r2_3
  clear g3
  clear g4
  clear f14 f20 f27 e7 e9 e11 e13 e15 e17 e20 e21 e22 e23 e25 e29 e33 e42 e46 e55 e60 e66 e67 e68 e69 e70 e71
  clear f6 f10 f17 f32
  subst e1
  subst e2
  subst e5
  try have wl := wo_leI (w := hV H1 322) (n := hV H1 285 55) (by omega)
  try have wb := WT_bound y2 (by omega)
  try have wl2 := wo_leI (w := hV H1 322) (n := hV H2 285 55) (by omega)
  try have wl3 := wo_leI (w := hV H1 322) (n := hV H3 285 55) (by omega)
  try have wl4 := wo_leI (w := hV H1 322) (n := hV H4 285 55) (by omega)
  try have wl5 := wo_leI (w := hV H1 322) (n := hV H5 285 55) (by omega)
  try have wl6 := wo_leI (w := hV H1 322) (n := hV H6 285 55) (by omega)
  try have wl7 := wo_leI (w := hV H1 322) (n := hV H7 285 55) (by omega)
  try have wl8 := wo_leI (w := hV H1 322) (n := hV H8 285 55) (by omega)
  try have wl9 := wo_leI (w := hV H1 322) (n := hV H9 285 55) (by omega)
  try have wl10 := wo_leI (w := hV H1 322) (n := hV H10 285 55) (by omega)
  first
  | (have ix0 : n10 = hV H3 285 55 - 1 := Eq.trans f22 (w32_iv (Isu (Iat f19 f18) (IC 1)) (by decide)); subst ix0; clear f22)
  | (have ix0 : n10 = hV H3 285 55 - 1 := Eq.trans f22 (w32_id (by omega) (by omega)); subst ix0; clear f22)
  | (unfold w32 at f22; have ix0 : n10 = hV H3 285 55 - 1 := (by omega); subst ix0)
  | skip
  first
  | (have ix1 : n14 = hV H1 285 12 - 1 := Eq.trans f29 (w32_iv (Isu (Iat f13 f12) (IC 1)) (by decide)); subst ix1; clear f29)
  | (have ix1 : n14 = hV H1 285 12 - 1 := Eq.trans f29 (w32_id (by omega) (by omega)); subst ix1; clear f29)
  | (unfold w32 at f29; have ix1 : n14 = hV H1 285 12 - 1 := (by omega); subst ix1)
  | skip
  try unfold w32 at f22
  try unfold w32 at f29

  have wp := wo_pop (w := hV H1 322) (n := hV H3 285 55) (by omega)
  refine ⟨⟨?_, ?_, ?_, ?_, ?_, ?_, ?_, ?_, ?_, ?_⟩, fun q hq => ?_⟩
  · exact r1_0
  · intro z
    exact CO_trans (y1 (by omega)) rfl (CO_d r1_1 (by omega))
  · exact WT_pop y2 (by omega)
  · first | omega | (rw [wo_push] <;> omega)
  · first | omega | (rw [wo_push] <;> omega)
  · first | omega | (rw [wo_push] <;> omega)
  · first | omega | (rw [wo_push] <;> omega)
  · first | omega | (rw [wo_push] <;> omega)
  · first | omega | (rw [wo_push] <;> omega)
  · first | omega | (rw [wo_push] <;> omega)
  · have g6 := Option.some.inj hq
    subst g6
    omega
def g_236_96_15 : vG := ([(1219, [1], [5, 6], 0), (80, [1, 15, 14], [5, 4], 0), (0, [15], [], 12), (2, [14, 12, 13], [], 0), (0, [13], [], 1), (20, [12, 1], [4], 12), (90, [12], [], 0), (91, [12], [], 7), (80, [1, 11, 10], [4, 3], 0), (0, [11], [], 55), (2, [10, 8, 9], [], 0), (0, [9], [], 1), (20, [8, 1], [3], 55), (90, [8], [], 0), (91, [8], [], 64), (1235, [1, 7], [2, 3], 0), (0, [7], [], 0), (44, [6, 2], [], 0), (20, [6, 1], [2], 12), (90, [6], [], 0), (91, [6], [], 7), (31, [5], [], 0), (1216, [5, 1, 4], [1, 2], 0), (90, [5], [], 0), (91, [5], [], 1), (0, [4], [], 7), (5000, [0, 1, 2, 3], [0, 1], 96), (0, [0], [], 285), (0, [1], [], 285), (90, [2], [], 0), (91, [2], [], 7), (90, [3], [], -2147483648), (91, [3], [], 2147483647)], (4000, [1, 2, 3], [6], 96))
theorem c_236_96_15 {q0 : Nat} : vOkm T0 (eP e_236 L_236 A_236 mu_236 (some q0)) 1 g_236_96_15 := vOk_inI fun ρ η f0 f1 f2 f3 f4 f5 f6 f7 f8 f9 f10 f11 f12 f13 f14 f15 f16 f17 f18 f19 f20 f21 f22 f23 f24 f25 f26 f27 f28 f29 f30 f31 f32 => q_236_32 (q0 := q0) (n0 := ρ 3) (n1 := ρ 2) (n2 := ρ 1) (n3 := ρ 0) (n4 := ρ 4) (n5 := ρ 5) (n6 := ρ 6) (n7 := ρ 7) (n8 := ρ 8) (n9 := ρ 9) (n10 := ρ 10) (n11 := ρ 11) (n12 := ρ 12) (n13 := ρ 13) (n14 := ρ 14) (n15 := ρ 15) (H0 := η 0) (H1 := η 1) (H2 := η 2) (H3 := η 3) (H4 := η 4) (H5 := η 5) (H6 := η 6) f32 f31 f30 f29 f28 f27 f26 f25 f24 f23 f22 f21 f20 f19 f18 f17 f16 f15 f14 f13 f12 f11 f10 f9 f8 f7 f6 f5 f4 f3 f2 f1 f0
def p_236_96 : List vG := [g_236_96_0,
  g_236_96_1,
  g_236_96_2,
  g_236_96_3,
  g_236_96_4,
  g_236_96_5,
  g_236_96_6,
  g_236_96_7,
  g_236_96_8,
  g_236_96_9,
  g_236_96_10,
  g_236_96_11,
  g_236_96_12,
  g_236_96_13,
  g_236_96_14,
  g_236_96_15]
theorem r_236_96 : vCovO false (eRc e_236 L_236 cs_236 2000 (96, [(0, (3, 12, 285, 0)), (1, (0, 0, 7, 0)), (2, (0, -2147483648, 2147483647, 0))])) p_236_96 = true := by decide +kernel
set_option maxHeartbeats 20000000 in
theorem q_236_33 {q0 : Nat} {n0 n1 n2 n3 n4 n5 n6 : Int} {H0 H1 H2 : gH} (f0 : n0 ≤ 1) (f1 : 0 ≤ n0) (f2 : n1 ≤ 7) (f3 : 0 ≤ n1) (f4 : n2 = 285) (f5 : n3 = 285) (f6 : (hLe T0 H0 H1 ∧ hFr s_236.2.2.2.2 H0 H1 ∧ hWt T0 H1) ∧ (Ab_236_187 n3 n2 n1 n0 H0 H1 ∧ preb_236 n3 H0) ∧ some q0 = some (mub_236_187 n3 n2 n1 n0 H0 H1)) (f7 : n0 ≠ 0) (f8 : n4 = 10) (f9 : n5 ≤ 1) (f10 : 0 ≤ n5) (f11 : (hLe T0 H1 H2 ∧ hFr s_216.2.2.2.2 H1 H2 ∧ ((0 : Int) = 0 → H2.length = H1.length) ∧ hWt T0 H2) ∧ postb_216 n5 n2 n4 H1 H2) (f12 : n5 ≠ 0) (f13 : n6 = 1) : preb_235 n2 n6 H2 := by
  have g4 := f6.2.1.1
  unfold Ab_236_187 at g4
  have g3 := f6.2.1.2
  unfold preb_236 at g3
  unfold postb_216 at f11
  unfold preb_235
  have e1 : hV H1 285 34 = hV H0 285 34 := (f6.1.2.1.1 285 34 kF_236_285_34)
  have e3 : hV H1 285 35 = hV H0 285 35 := (f6.1.2.1.1 285 35 kF_236_285_35)
  have e4 : hV H1 288 = hV H0 288 := fRow f6.1.2.1 288 kR_236_288
  have e6 : hV H2 285 11 = hV H1 285 11 := (f11.1.2.1.1 285 11 kF_216_285_11)
  have e8 : hV H2 285 13 = hV H1 285 13 := (f11.1.2.1.1 285 13 kF_216_285_13)
  have e10 : hV H2 285 34 = hV H0 285 34 := ((f11.1.2.1.1 285 34 kF_216_285_34)).trans (f6.1.2.1.1 285 34 kF_236_285_34)
  have e12 : hV H2 285 35 = hV H0 285 35 := ((f11.1.2.1.1 285 35 kF_216_285_35)).trans (f6.1.2.1.1 285 35 kF_236_285_35)
  have e14 : hV H2 285 51 = hV H1 285 51 := (f11.1.2.1.1 285 51 kF_216_285_51)
  have e16 : hV H2 285 55 = hV H1 285 55 := (f11.1.2.1.1 285 55 kF_216_285_55)
  have e18 : hV H2 288 = hV H0 288 := (fRow f11.1.2.1 288 kR_216_288).trans e4
  have e19 : hV H2 322 = hV H1 322 := fRow f11.1.2.1 322 kR_216_322
  have e20 : RR H2 = RR H1 := RR_fr f11.1.2.1 (by decide +kernel)
  have e21 : (0 : Int) ≤ hV H1 285 11 ∧ hV H1 285 11 ≤ 500 := f6.1.2.2 285 11 _ _ kW_285_11
  have e22 : (0 : Int) ≤ hV H1 285 12 ∧ hV H1 285 12 ≤ 7 := f6.1.2.2 285 12 _ _ kW_285_12
  have e23 : (0 : Int) ≤ hV H1 285 13 ∧ hV H1 285 13 ≤ 2 := f6.1.2.2 285 13 _ _ kW_285_13
  have e24 : (0 : Int) ≤ hV H0 285 34 ∧ hV H0 285 34 ≤ 1 := bTo e1 (f6.1.2.2 285 34 _ _ kW_285_34)
  have e25 : (0 : Int) ≤ hV H0 285 35 ∧ hV H0 285 35 ≤ 1 := bTo e3 (f6.1.2.2 285 35 _ _ kW_285_35)
  have e26 : (0 : Int) ≤ hV H1 285 51 ∧ hV H1 285 51 ≤ 1200 := f6.1.2.2 285 51 _ _ kW_285_51
  have e27 : (0 : Int) ≤ hV H1 285 55 ∧ hV H1 285 55 ≤ 64 := f6.1.2.2 285 55 _ _ kW_285_55
  try simp only [e10, e12, e14, e16, e19, e20]
  have y0 := g4.1
  have y1 := g4.2.1
  have y2 := g4.2.2.1
  have y3 := g4.2.2.2.1
  have y4 := g4.2.2.2.2.1
  have y5 := g4.2.2.2.2.2.1
  have y6 := g4.2.2.2.2.2.2.1
  have y7 := g4.2.2.2.2.2.2.2.1
  have y8 := g4.2.2.2.2.2.2.2.2.1
  have y9 := g4.2.2.2.2.2.2.2.2.2.1
  have y10 := g4.2.2.2.2.2.2.2.2.2.2.1
  have y11 := g4.2.2.2.2.2.2.2.2.2.2.2
  have p0 := g3.1
  have p1 := g3.2.1
  have p2 := g3.2.2.1
  have p3 := g3.2.2.2.1
  have p4 := g3.2.2.2.2
  have r0_0 := f11.2.1
  have r0_1 := f11.2.2.resolve_right (fun z => f12 z.1)
  try simp only [e3] at y7
  try simp only [e4] at y11
  try simp only [e8] at r0_0
  try simp only [e1, e3, e4, e6, e8, e10, e12, e14, e16, e18, e19, e20] at r0_1
  clear g3
  clear g4
  clear e1 e3 e4 e6 e8 e10 e12 e14 e16 e18 e19 e20
  clear f6 f11
  try have wl := wo_leI (w := hV H1 322) (n := hV H1 285 55) (by omega)
  try have wb := WT_bound y2 (by omega)
  try have wl2 := wo_leI (w := hV H1 322) (n := hV H2 285 55) (by omega)
  try have wl3 := wo_leI (w := hV H1 322) (n := hV H3 285 55) (by omega)
  try have wl4 := wo_leI (w := hV H1 322) (n := hV H4 285 55) (by omega)
  try have wl5 := wo_leI (w := hV H1 322) (n := hV H5 285 55) (by omega)
  try have wl6 := wo_leI (w := hV H1 322) (n := hV H6 285 55) (by omega)
  try have wl7 := wo_leI (w := hV H1 322) (n := hV H7 285 55) (by omega)
  try have wl8 := wo_leI (w := hV H1 322) (n := hV H8 285 55) (by omega)
  try have wl9 := wo_leI (w := hV H1 322) (n := hV H9 285 55) (by omega)
  try have wl10 := wo_leI (w := hV H1 322) (n := hV H10 285 55) (by omega)
  subst y3
  refine ⟨?_, ?_, ?_, ?_⟩ <;> first | assumption | omega | trivial
def g_236_187_0 : vG := ([(0, [6], [], 1), (31, [5], [], 0), (1216, [5, 1, 4], [1, 2], 0), (90, [5], [], 0), (91, [5], [], 1), (0, [4], [], 10), (31, [3], [], 0), (5000, [0, 1, 2, 3], [0, 1], 187), (0, [0], [], 285), (0, [1], [], 285), (90, [2], [], 0), (91, [2], [], 7), (90, [3], [], 0), (91, [3], [], 1)], (2235, [1, 6], [2], 0))
theorem c_236_187_0 {q0 : Nat} : vOkm T0 (eP e_236 L_236 A_236 mu_236 (some q0)) 1 g_236_187_0 := vOk_inI fun ρ η f0 f1 f2 f3 f4 f5 f6 f7 f8 f9 f10 f11 f12 f13 => q_236_33 (q0 := q0) (n0 := ρ 3) (n1 := ρ 2) (n2 := ρ 1) (n3 := ρ 0) (n4 := ρ 4) (n5 := ρ 5) (n6 := ρ 6) (H0 := η 0) (H1 := η 1) (H2 := η 2) f13 f12 f11 f10 f9 f8 f7 f6 f5 f4 f3 f2 f1 f0
set_option maxHeartbeats 20000000 in
theorem kR_235_288 : vFreeR s_235.2.2.2.2 288 = true := by decide +kernel
theorem q_236_34 {q0 : Nat} {n0 n1 n2 n3 n4 n5 n6 n7 n8 n9 n10 : Int} {H0 H1 H2 H3 : gH} (f0 : n0 ≤ 1) (f1 : 0 ≤ n0) (f2 : n1 ≤ 7) (f3 : 0 ≤ n1) (f4 : n2 = 285) (f5 : n3 = 285) (f6 : (hLe T0 H0 H1 ∧ hFr s_236.2.2.2.2 H0 H1 ∧ hWt T0 H1) ∧ (Ab_236_187 n3 n2 n1 n0 H0 H1 ∧ preb_236 n3 H0) ∧ some q0 = some (mub_236_187 n3 n2 n1 n0 H0 H1)) (f7 : n0 ≠ 0) (f8 : n4 = 10) (f9 : n5 ≤ 1) (f10 : 0 ≤ n5) (f11 : (hLe T0 H1 H2 ∧ hFr s_216.2.2.2.2 H1 H2 ∧ ((0 : Int) = 0 → H2.length = H1.length) ∧ hWt T0 H2) ∧ postb_216 n5 n2 n4 H1 H2) (f12 : n5 ≠ 0) (f13 : n6 = 1) (f14 : (hLe T0 H2 H3 ∧ hFr s_235.2.2.2.2 H2 H3 ∧ ((0 : Int) = 0 → H3.length = H2.length) ∧ hWt T0 H3) ∧ postb_235 n2 n6 H2 H3) (f15 : n7 ≤ 64) (f16 : 0 ≤ n7) (f17 : n7 = hV H3 (n2).toNat 55) (f18 : n8 = 288) (f19 : n8 = hV H3 (n2).toNat 5) (f20 : n9 ≤ 500) (f21 : 0 ≤ n9) (f22 : n9 = hV H3 (n2).toNat 11) (f23 : n10 ≤ 53) (f24 : 0 ≤ n10) (f25 : n10 = hV H3 (n8).toNat (n9).toNat) : 0 ≤ n7 ∧ n7 < 64 := by
  have g4 := f6.2.1.1
  unfold Ab_236_187 at g4
  have g3 := f6.2.1.2
  unfold preb_236 at g3
  unfold postb_216 at f11
  unfold postb_235 at f14
  have e0 : n7 = hV H3 285 55 := (by rw [f4] at f17; exact f17 : n7 = hV H3 285 55)
  have e3 : n9 = hV H1 285 11 := (by rw [f4] at f22; exact f22 : n9 = hV H3 285 11).trans (((f14.1.2.1.1 285 11 kF_235_285_11)).trans (f11.1.2.1.1 285 11 kF_216_285_11))
  have e6 : hV H1 288 = hV H0 288 := fRow f6.1.2.1 288 kR_236_288
  have e7 : n10 = hV H0 288 (n9).toNat := (by rw [f18] at f25; exact f25 : n10 = hV H3 288 (n9).toNat).trans (((congrFun (fRow f14.1.2.1 288 kR_235_288) _)).trans (((congrFun (fRow f11.1.2.1 288 kR_216_288) _)).trans ((congrFun e6 _))))
  have e9 : hV H1 285 34 = hV H0 285 34 := (f6.1.2.1.1 285 34 kF_236_285_34)
  have e11 : hV H1 285 35 = hV H0 285 35 := (f6.1.2.1.1 285 35 kF_236_285_35)
  have e12 : hV H2 285 11 = hV H1 285 11 := (f11.1.2.1.1 285 11 kF_216_285_11)
  have e14 : hV H2 285 13 = hV H1 285 13 := (f11.1.2.1.1 285 13 kF_216_285_13)
  have e16 : hV H2 285 51 = hV H1 285 51 := (f11.1.2.1.1 285 51 kF_216_285_51)
  have e18 : hV H2 285 55 = hV H1 285 55 := (f11.1.2.1.1 285 55 kF_216_285_55)
  have e19 : hV H2 288 = hV H0 288 := (fRow f11.1.2.1 288 kR_216_288).trans e6
  have e20 : hV H2 320 = hV H1 320 := fRow f11.1.2.1 320 kR_216_320
  have e21 : hV H2 321 = hV H1 321 := fRow f11.1.2.1 321 kR_216_321
  have e22 : hV H2 322 = hV H1 322 := fRow f11.1.2.1 322 kR_216_322
  have e24 : hV H3 322 = hV H1 322 := (fRow f14.1.2.1 322 kR_235_322).trans e22
  have e25 : (0 : Int) ≤ hV H1 285 11 ∧ hV H1 285 11 ≤ 500 := f6.1.2.2 285 11 _ _ kW_285_11
  have e26 : (0 : Int) ≤ hV H1 285 12 ∧ hV H1 285 12 ≤ 7 := f6.1.2.2 285 12 _ _ kW_285_12
  have e27 : (0 : Int) ≤ hV H1 285 13 ∧ hV H1 285 13 ≤ 2 := f6.1.2.2 285 13 _ _ kW_285_13
  have e28 : (0 : Int) ≤ hV H0 285 34 ∧ hV H0 285 34 ≤ 1 := bTo e9 (f6.1.2.2 285 34 _ _ kW_285_34)
  have e29 : (0 : Int) ≤ hV H0 285 35 ∧ hV H0 285 35 ≤ 1 := bTo e11 (f6.1.2.2 285 35 _ _ kW_285_35)
  have e30 : (0 : Int) ≤ hV H1 285 51 ∧ hV H1 285 51 ≤ 1200 := f6.1.2.2 285 51 _ _ kW_285_51
  have e31 : (0 : Int) ≤ hV H1 285 55 ∧ hV H1 285 55 ≤ 64 := f6.1.2.2 285 55 _ _ kW_285_55
  have e36 : (0 : Int) ≤ hV H3 285 51 ∧ hV H3 285 51 ≤ 1200 := f14.1.2.2.2 285 51 _ _ kW_285_51
  have e37 : (0 : Int) ≤ hV H3 285 55 ∧ hV H3 285 55 ≤ 64 := f14.1.2.2.2 285 55 _ _ kW_285_55
  have y0 := g4.1
  have y1 := g4.2.1
  have y2 := g4.2.2.1
  have y3 := g4.2.2.2.1
  have y4 := g4.2.2.2.2.1
  have y5 := g4.2.2.2.2.2.1
  have y6 := g4.2.2.2.2.2.2.1
  have y7 := g4.2.2.2.2.2.2.2.1
  have y8 := g4.2.2.2.2.2.2.2.2.1
  have y9 := g4.2.2.2.2.2.2.2.2.2.1
  have y10 := g4.2.2.2.2.2.2.2.2.2.2.1
  have y11 := g4.2.2.2.2.2.2.2.2.2.2.2
  have p0 := g3.1
  have p1 := g3.2.1
  have p2 := g3.2.2.1
  have p3 := g3.2.2.2.1
  have p4 := g3.2.2.2.2
  have r0_0 := f11.2.1
  have r0_1 := f11.2.2.resolve_right (fun z => f12 z.1)
  have r1_0 := f14.2.1
  have r1_1 := f14.2.2.1
  have r1_2 := f14.2.2.2.1
  have r1_3 := f14.2.2.2.2.1
  have r1_4 := f14.2.2.2.2.2.1
  have r1_5 := f14.2.2.2.2.2.2
  try simp only [e11] at y7
  try simp only [e6] at y11
  try simp only [e14] at r0_0
  try simp only [e9, e11, e6, e12, e14, e16, e18, e19, e20, e21, e22] at r0_1
  try simp only [e16, e18, e20, e21, e22, e24] at r1_1
  try simp only [e16, e18] at r1_2
  try simp only [e18] at r1_3
  try simp only [e18, e22, e24] at r1_4
  try simp only [e24] at r1_5
  clear g3
  clear g4
  clear f17 f19 f22 f25 e6 e9 e11 e12 e14 e16 e18 e19 e20 e21 e22 e24
  clear f6 f11 f14
  subst e0
  subst e3
  subst e7
  try have wl := wo_leI (w := hV H1 322) (n := hV H1 285 55) (by omega)
  try have wb := WT_bound y2 (by omega)
  try have wl2 := wo_leI (w := hV H1 322) (n := hV H2 285 55) (by omega)
  try have wl3 := wo_leI (w := hV H1 322) (n := hV H3 285 55) (by omega)
  try have wl4 := wo_leI (w := hV H1 322) (n := hV H4 285 55) (by omega)
  try have wl5 := wo_leI (w := hV H1 322) (n := hV H5 285 55) (by omega)
  try have wl6 := wo_leI (w := hV H1 322) (n := hV H6 285 55) (by omega)
  try have wl7 := wo_leI (w := hV H1 322) (n := hV H7 285 55) (by omega)
  try have wl8 := wo_leI (w := hV H1 322) (n := hV H8 285 55) (by omega)
  try have wl9 := wo_leI (w := hV H1 322) (n := hV H9 285 55) (by omega)
  try have wl10 := wo_leI (w := hV H1 322) (n := hV H10 285 55) (by omega)
  subst y3
  omega
def g_236_187_1 : vG := ([(22, [11, 9, 10], [3], 0), (90, [11], [], 0), (91, [11], [], 53), (20, [10, 1], [3], 11), (90, [10], [], 0), (91, [10], [], 500), (20, [9, 1], [3], 5), (0, [9], [], 288), (20, [8, 1], [3], 55), (90, [8], [], 0), (91, [8], [], 64), (1235, [1, 6], [2, 3], 0), (0, [6], [], 1), (31, [5], [], 0), (1216, [5, 1, 4], [1, 2], 0), (90, [5], [], 0), (91, [5], [], 1), (0, [4], [], 10), (31, [3], [], 0), (5000, [0, 1, 2, 3], [0, 1], 187), (0, [0], [], 285), (0, [1], [], 285), (90, [2], [], 0), (91, [2], [], 7), (90, [3], [], 0), (91, [3], [], 1)], (70, [8], [], 64))
theorem c_236_187_1 {q0 : Nat} : vOkm T0 (eP e_236 L_236 A_236 mu_236 (some q0)) 1 g_236_187_1 := vOk_inI fun ρ η f0 f1 f2 f3 f4 f5 f6 f7 f8 f9 f10 f11 f12 f13 f14 f15 f16 f17 f18 f19 f20 f21 f22 f23 f24 f25 => q_236_34 (q0 := q0) (n0 := ρ 3) (n1 := ρ 2) (n2 := ρ 1) (n3 := ρ 0) (n4 := ρ 4) (n5 := ρ 5) (n6 := ρ 6) (n7 := ρ 8) (n8 := ρ 9) (n9 := ρ 10) (n10 := ρ 11) (H0 := η 0) (H1 := η 1) (H2 := η 2) (H3 := η 3) f25 f24 f23 f22 f21 f20 f19 f18 f17 f16 f15 f14 f13 f12 f11 f10 f9 f8 f7 f6 f5 f4 f3 f2 f1 f0
def g_236_187_2 : vG := ([(1, [14, 12, 13], [], 0), (0, [13], [], 1), (90, [12], [], 0), (91, [12], [], 64)], (90, [14], [], 0))
theorem c_236_187_2 {q0 : Nat} : vOkm T0 (eP e_236 L_236 A_236 mu_236 (some q0)) 1 g_236_187_2 := vOk_inI fun ρ η f0 f1 f2 f3 => q_236_10 (q0 := q0) (n0 := ρ 12) (n1 := ρ 13) (n2 := ρ 14) (H0 := η 0) f3 f2 f1 f0
set_option maxHeartbeats 20000000 in
theorem q_236_35 {q0 : Nat} {n0 n1 n2 n3 n4 n5 n6 n7 n8 n9 n10 n11 n12 n13 n14 : Int} {H0 H1 H2 H3 H4 : gH} (f0 : n0 ≤ 1) (f1 : 0 ≤ n0) (f2 : n1 ≤ 7) (f3 : 0 ≤ n1) (f4 : n2 = 285) (f5 : n3 = 285) (f6 : (hLe T0 H0 H1 ∧ hFr s_236.2.2.2.2 H0 H1 ∧ hWt T0 H1) ∧ (Ab_236_187 n3 n2 n1 n0 H0 H1 ∧ preb_236 n3 H0) ∧ some q0 = some (mub_236_187 n3 n2 n1 n0 H0 H1)) (f7 : n0 ≠ 0) (f8 : n4 = 10) (f9 : n5 ≤ 1) (f10 : 0 ≤ n5) (f11 : (hLe T0 H1 H2 ∧ hFr s_216.2.2.2.2 H1 H2 ∧ ((0 : Int) = 0 → H2.length = H1.length) ∧ hWt T0 H2) ∧ postb_216 n5 n2 n4 H1 H2) (f12 : n5 ≠ 0) (f13 : n6 = 1) (f14 : (hLe T0 H2 H3 ∧ hFr s_235.2.2.2.2 H2 H3 ∧ ((0 : Int) = 0 → H3.length = H2.length) ∧ hWt T0 H3) ∧ postb_235 n2 n6 H2 H3) (f15 : n7 = 322) (f16 : n7 = hV H3 (n2).toNat 54) (f17 : n8 ≤ 64) (f18 : 0 ≤ n8) (f19 : n8 = hV H3 (n2).toNat 55) (f20 : n9 = 288) (f21 : n9 = hV H3 (n2).toNat 5) (f22 : n10 ≤ 500) (f23 : 0 ≤ n10) (f24 : n10 = hV H3 (n2).toNat 11) (f25 : n11 ≤ 53) (f26 : 0 ≤ n11) (f27 : n11 = hV H3 (n9).toNat (n10).toNat) (f28 : hUpd H4 H3 n7 n8 n11) (f29 : n12 ≤ 64) (f30 : 0 ≤ n12) (f31 : n12 = hV H4 (n2).toNat 55) (f32 : n13 = 1) (f33 : n14 = w32 (n12 + n13)) : n14 ≤ 64 := by
  have g4 := f6.2.1.1
  unfold Ab_236_187 at g4
  have g3 := f6.2.1.2
  unfold preb_236 at g3
  unfold postb_216 at f11
  unfold postb_235 at f14
  have e0 : n8 = hV H3 285 55 := (by rw [f4] at f19; exact f19 : n8 = hV H3 285 55)
  have e3 : n10 = hV H1 285 11 := (by rw [f4] at f24; exact f24 : n10 = hV H3 285 11).trans (((f14.1.2.1.1 285 11 kF_235_285_11)).trans (f11.1.2.1.1 285 11 kF_216_285_11))
  have e6 : hV H1 288 = hV H0 288 := fRow f6.1.2.1 288 kR_236_288
  have e7 : n11 = hV H0 288 (n10).toNat := (by rw [f20] at f27; exact f27 : n11 = hV H3 288 (n10).toNat).trans (((congrFun (fRow f14.1.2.1 288 kR_235_288) _)).trans (((congrFun (fRow f11.1.2.1 288 kR_216_288) _)).trans ((congrFun e6 _))))
  have e9 : n12 = hV H3 285 55 := (by rw [f4] at f31; exact f31 : n12 = hV H4 285 55).trans ((uPlace f28 285 55 (iS (show n7 = ((322 : Nat) : Int) from f15) rfl)))
  have e11 : hV H1 285 34 = hV H0 285 34 := (f6.1.2.1.1 285 34 kF_236_285_34)
  have e13 : hV H1 285 35 = hV H0 285 35 := (f6.1.2.1.1 285 35 kF_236_285_35)
  have e14 : hV H2 285 11 = hV H1 285 11 := (f11.1.2.1.1 285 11 kF_216_285_11)
  have e16 : hV H2 285 13 = hV H1 285 13 := (f11.1.2.1.1 285 13 kF_216_285_13)
  have e18 : hV H2 285 51 = hV H1 285 51 := (f11.1.2.1.1 285 51 kF_216_285_51)
  have e20 : hV H2 285 55 = hV H1 285 55 := (f11.1.2.1.1 285 55 kF_216_285_55)
  have e21 : hV H2 288 = hV H0 288 := (fRow f11.1.2.1 288 kR_216_288).trans e6
  have e22 : hV H2 320 = hV H1 320 := fRow f11.1.2.1 320 kR_216_320
  have e23 : hV H2 321 = hV H1 321 := fRow f11.1.2.1 321 kR_216_321
  have e24 : hV H2 322 = hV H1 322 := fRow f11.1.2.1 322 kR_216_322
  have e26 : hV H3 322 = hV H1 322 := (fRow f14.1.2.1 322 kR_235_322).trans e24
  have e27 : (0 : Int) ≤ hV H1 285 11 ∧ hV H1 285 11 ≤ 500 := f6.1.2.2 285 11 _ _ kW_285_11
  have e28 : (0 : Int) ≤ hV H1 285 12 ∧ hV H1 285 12 ≤ 7 := f6.1.2.2 285 12 _ _ kW_285_12
  have e29 : (0 : Int) ≤ hV H1 285 13 ∧ hV H1 285 13 ≤ 2 := f6.1.2.2 285 13 _ _ kW_285_13
  have e30 : (0 : Int) ≤ hV H0 285 34 ∧ hV H0 285 34 ≤ 1 := bTo e11 (f6.1.2.2 285 34 _ _ kW_285_34)
  have e31 : (0 : Int) ≤ hV H0 285 35 ∧ hV H0 285 35 ≤ 1 := bTo e13 (f6.1.2.2 285 35 _ _ kW_285_35)
  have e32 : (0 : Int) ≤ hV H1 285 51 ∧ hV H1 285 51 ≤ 1200 := f6.1.2.2 285 51 _ _ kW_285_51
  have e33 : (0 : Int) ≤ hV H1 285 55 ∧ hV H1 285 55 ≤ 64 := f6.1.2.2 285 55 _ _ kW_285_55
  have e38 : (0 : Int) ≤ hV H3 285 51 ∧ hV H3 285 51 ≤ 1200 := f14.1.2.2.2 285 51 _ _ kW_285_51
  have e39 : (0 : Int) ≤ hV H3 285 55 ∧ hV H3 285 55 ≤ 64 := f14.1.2.2.2 285 55 _ _ kW_285_55
  have y0 := g4.1
  have y1 := g4.2.1
  have y2 := g4.2.2.1
  have y3 := g4.2.2.2.1
  have y4 := g4.2.2.2.2.1
  have y5 := g4.2.2.2.2.2.1
  have y6 := g4.2.2.2.2.2.2.1
  have y7 := g4.2.2.2.2.2.2.2.1
  have y8 := g4.2.2.2.2.2.2.2.2.1
  have y9 := g4.2.2.2.2.2.2.2.2.2.1
  have y10 := g4.2.2.2.2.2.2.2.2.2.2.1
  have y11 := g4.2.2.2.2.2.2.2.2.2.2.2
  have p0 := g3.1
  have p1 := g3.2.1
  have p2 := g3.2.2.1
  have p3 := g3.2.2.2.1
  have p4 := g3.2.2.2.2
  have r0_0 := f11.2.1
  have r0_1 := f11.2.2.resolve_right (fun z => f12 z.1)
  have r1_0 := f14.2.1
  have r1_1 := f14.2.2.1
  have r1_2 := f14.2.2.2.1
  have r1_3 := f14.2.2.2.2.1
  have r1_4 := f14.2.2.2.2.2.1
  have r1_5 := f14.2.2.2.2.2.2
  try simp only [e13] at y7
  try simp only [e6] at y11
  try simp only [e16] at r0_0
  try simp only [e11, e13, e6, e14, e16, e18, e20, e21, e22, e23, e24] at r0_1
  try simp only [e18, e20, e22, e23, e24, e26] at r1_1
  try simp only [e18, e20] at r1_2
  try simp only [e20] at r1_3
  try simp only [e20, e24, e26] at r1_4
  try simp only [e26] at r1_5
  clear g3
  clear g4
  clear f16 f19 f21 f24 f27 f31 e6 e11 e13 e14 e16 e18 e20 e21 e22 e23 e24 e26
  clear f6 f11 f14
  subst e0
  subst e3
  subst e7
  subst e9
  try have wl := wo_leI (w := hV H1 322) (n := hV H1 285 55) (by omega)
  try have wb := WT_bound y2 (by omega)
  try have wl2 := wo_leI (w := hV H1 322) (n := hV H2 285 55) (by omega)
  try have wl3 := wo_leI (w := hV H1 322) (n := hV H3 285 55) (by omega)
  try have wl4 := wo_leI (w := hV H1 322) (n := hV H4 285 55) (by omega)
  try have wl5 := wo_leI (w := hV H1 322) (n := hV H5 285 55) (by omega)
  try have wl6 := wo_leI (w := hV H1 322) (n := hV H6 285 55) (by omega)
  try have wl7 := wo_leI (w := hV H1 322) (n := hV H7 285 55) (by omega)
  try have wl8 := wo_leI (w := hV H1 322) (n := hV H8 285 55) (by omega)
  try have wl9 := wo_leI (w := hV H1 322) (n := hV H9 285 55) (by omega)
  try have wl10 := wo_leI (w := hV H1 322) (n := hV H10 285 55) (by omega)
  first
  | (have ix0 : n14 = hV H3 285 55 + 1 := Eq.trans f33 (w32_iv (Iad (Iat f18 f17) (IC 1)) (by decide)); subst ix0; clear f33)
  | (have ix0 : n14 = hV H3 285 55 + 1 := Eq.trans f33 (w32_id (by omega) (by omega)); subst ix0; clear f33)
  | (unfold w32 at f33; have ix0 : n14 = hV H3 285 55 + 1 := (by omega); subst ix0)
  | skip
  try unfold w32 at f33
  subst y3
  omega
def g_236_187_3 : vG := ([(1, [14, 12, 13], [], 0), (0, [13], [], 1), (20, [12, 1], [4], 55), (90, [12], [], 0), (91, [12], [], 64), (80, [7, 8, 11], [4, 3], 0), (22, [11, 9, 10], [3], 0), (90, [11], [], 0), (91, [11], [], 53), (20, [10, 1], [3], 11), (90, [10], [], 0), (91, [10], [], 500), (20, [9, 1], [3], 5), (0, [9], [], 288), (20, [8, 1], [3], 55), (90, [8], [], 0), (91, [8], [], 64), (20, [7, 1], [3], 54), (0, [7], [], 322), (1235, [1, 6], [2, 3], 0), (0, [6], [], 1), (31, [5], [], 0), (1216, [5, 1, 4], [1, 2], 0), (90, [5], [], 0), (91, [5], [], 1), (0, [4], [], 10), (31, [3], [], 0), (5000, [0, 1, 2, 3], [0, 1], 187), (0, [0], [], 285), (0, [1], [], 285), (90, [2], [], 0), (91, [2], [], 7), (90, [3], [], 0), (91, [3], [], 1)], (91, [14], [], 64))
theorem c_236_187_3 {q0 : Nat} : vOkm T0 (eP e_236 L_236 A_236 mu_236 (some q0)) 1 g_236_187_3 := vOk_inI fun ρ η f0 f1 f2 f3 f4 f5 f6 f7 f8 f9 f10 f11 f12 f13 f14 f15 f16 f17 f18 f19 f20 f21 f22 f23 f24 f25 f26 f27 f28 f29 f30 f31 f32 f33 => q_236_35 (q0 := q0) (n0 := ρ 3) (n1 := ρ 2) (n2 := ρ 1) (n3 := ρ 0) (n4 := ρ 4) (n5 := ρ 5) (n6 := ρ 6) (n7 := ρ 7) (n8 := ρ 8) (n9 := ρ 9) (n10 := ρ 10) (n11 := ρ 11) (n12 := ρ 12) (n13 := ρ 13) (n14 := ρ 14) (H0 := η 0) (H1 := η 1) (H2 := η 2) (H3 := η 3) (H4 := η 4) f33 f32 f31 f30 f29 f28 f27 f26 f25 f24 f23 f22 f21 f20 f19 f18 f17 f16 f15 f14 f13 f12 f11 f10 f9 f8 f7 f6 f5 f4 f3 f2 f1 f0
set_option maxHeartbeats 20000000 in
theorem q_236_36 {q0 : Nat} {n0 n1 n2 n3 n4 n5 n6 n7 n8 n9 n10 n11 n12 n13 n14 n15 : Int} {H0 H1 H2 H3 H4 H5 H6 : gH} (f0 : n0 ≤ 1) (f1 : 0 ≤ n0) (f2 : n1 ≤ 7) (f3 : 0 ≤ n1) (f4 : n2 = 285) (f5 : n3 = 285) (f6 : (hLe T0 H0 H1 ∧ hFr s_236.2.2.2.2 H0 H1 ∧ hWt T0 H1) ∧ (Ab_236_187 n3 n2 n1 n0 H0 H1 ∧ preb_236 n3 H0) ∧ some q0 = some (mub_236_187 n3 n2 n1 n0 H0 H1)) (f7 : n0 ≠ 0) (f8 : n4 = 10) (f9 : n5 ≤ 1) (f10 : 0 ≤ n5) (f11 : (hLe T0 H1 H2 ∧ hFr s_216.2.2.2.2 H1 H2 ∧ ((0 : Int) = 0 → H2.length = H1.length) ∧ hWt T0 H2) ∧ postb_216 n5 n2 n4 H1 H2) (f12 : n5 ≠ 0) (f13 : n6 = 1) (f14 : (hLe T0 H2 H3 ∧ hFr s_235.2.2.2.2 H2 H3 ∧ ((0 : Int) = 0 → H3.length = H2.length) ∧ hWt T0 H3) ∧ postb_235 n2 n6 H2 H3) (f15 : n7 = 322) (f16 : n7 = hV H3 (n2).toNat 54) (f17 : n8 ≤ 64) (f18 : 0 ≤ n8) (f19 : n8 = hV H3 (n2).toNat 55) (f20 : n9 = 288) (f21 : n9 = hV H3 (n2).toNat 5) (f22 : n10 ≤ 500) (f23 : 0 ≤ n10) (f24 : n10 = hV H3 (n2).toNat 11) (f25 : n11 ≤ 53) (f26 : 0 ≤ n11) (f27 : n11 = hV H3 (n9).toNat (n10).toNat) (f28 : hUpd H4 H3 n7 n8 n11) (f29 : n12 ≤ 64) (f30 : 0 ≤ n12) (f31 : n12 = hV H4 (n2).toNat 55) (f32 : n13 = 1) (f33 : n14 = w32 (n12 + n13)) (f34 : n15 = 55) (f35 : hUpd H5 H4 n2 n15 n14) (f36 : (hLe T0 H5 H6 ∧ hFr s_219.2.2.2.2 H5 H6 ∧ ((0 : Int) = 0 → H6.length = H5.length) ∧ hWt T0 H6) ∧ postb_219 n2 H5 H6) : Ab_236_12 n3 n2 n1 n0 H0 H6 ∧ ∀ q, some q0 = some q → mub_236_12 n3 n2 n1 n0 H0 H6 < q := by
  have g4 := f6.2.1.1
  unfold Ab_236_187 at g4
  have g3 := f6.2.1.2
  unfold preb_236 at g3
  have g5 := Option.some.inj f6.2.2
  unfold mub_236_187 at g5
  unfold postb_216 at f11
  unfold postb_235 at f14
  unfold postb_219 at f36
  unfold Ab_236_12
  unfold mub_236_12
  have e0 : n8 = hV H3 285 55 := (by rw [f4] at f19; exact f19 : n8 = hV H3 285 55)
  have e3 : n10 = hV H1 285 11 := (by rw [f4] at f24; exact f24 : n10 = hV H3 285 11).trans (((f14.1.2.1.1 285 11 kF_235_285_11)).trans (f11.1.2.1.1 285 11 kF_216_285_11))
  have e6 : hV H1 288 = hV H0 288 := fRow f6.1.2.1 288 kR_236_288
  have e7 : n11 = hV H0 288 (n10).toNat := (by rw [f20] at f27; exact f27 : n11 = hV H3 288 (n10).toNat).trans (((congrFun (fRow f14.1.2.1 288 kR_235_288) _)).trans (((congrFun (fRow f11.1.2.1 288 kR_216_288) _)).trans ((congrFun e6 _))))
  have e9 : n12 = hV H3 285 55 := (by rw [f4] at f31; exact f31 : n12 = hV H4 285 55).trans ((uPlace f28 285 55 (iS (show n7 = ((322 : Nat) : Int) from f15) rfl)))
  have e11 : hV H1 285 34 = hV H0 285 34 := (f6.1.2.1.1 285 34 kF_236_285_34)
  have e13 : hV H1 285 35 = hV H0 285 35 := (f6.1.2.1.1 285 35 kF_236_285_35)
  have e14 : hV H2 285 11 = hV H1 285 11 := (f11.1.2.1.1 285 11 kF_216_285_11)
  have e16 : hV H2 285 13 = hV H1 285 13 := (f11.1.2.1.1 285 13 kF_216_285_13)
  have e18 : hV H2 285 51 = hV H1 285 51 := (f11.1.2.1.1 285 51 kF_216_285_51)
  have e20 : hV H2 285 55 = hV H1 285 55 := (f11.1.2.1.1 285 55 kF_216_285_55)
  have e21 : hV H2 288 = hV H0 288 := (fRow f11.1.2.1 288 kR_216_288).trans e6
  have e22 : hV H2 320 = hV H1 320 := fRow f11.1.2.1 320 kR_216_320
  have e23 : hV H2 321 = hV H1 321 := fRow f11.1.2.1 321 kR_216_321
  have e24 : hV H2 322 = hV H1 322 := fRow f11.1.2.1 322 kR_216_322
  have e26 : hV H3 322 = hV H1 322 := (fRow f14.1.2.1 322 kR_235_322).trans e24
  have e29 : hV H5 285 11 = hV H1 285 11 := ((uSlot f35 285 11 (iS (show n15 = ((55 : Nat) : Int) from f34) rfl))).trans (((uPlace f28 285 11 (iS (show n7 = ((322 : Nat) : Int) from f15) rfl))).trans (((f14.1.2.1.1 285 11 kF_235_285_11)).trans (f11.1.2.1.1 285 11 kF_216_285_11)))
  have e33 : hV H5 285 13 = hV H1 285 13 := ((uSlot f35 285 13 (iS (show n15 = ((55 : Nat) : Int) from f34) rfl))).trans (((uPlace f28 285 13 (iS (show n7 = ((322 : Nat) : Int) from f15) rfl))).trans (((f14.1.2.1.1 285 13 kF_235_285_13)).trans (f11.1.2.1.1 285 13 kF_216_285_13)))
  have e39 : hV H6 285 12 = hV H1 285 12 := ((f36.1.2.1.1 285 12 kF_219_285_12)).trans (((uSlot f35 285 12 (iS (show n15 = ((55 : Nat) : Int) from f34) rfl))).trans (((uPlace f28 285 12 (iS (show n7 = ((322 : Nat) : Int) from f15) rfl))).trans (((f14.1.2.1.1 285 12 kF_235_285_12)).trans (f11.1.2.1.1 285 12 kF_216_285_12))))
  have e45 : hV H6 285 35 = hV H0 285 35 := ((f36.1.2.1.1 285 35 kF_219_285_35)).trans (((uSlot f35 285 35 (iS (show n15 = ((55 : Nat) : Int) from f34) rfl))).trans (((uPlace f28 285 35 (iS (show n7 = ((322 : Nat) : Int) from f15) rfl))).trans (((f14.1.2.1.1 285 35 kF_235_285_35)).trans (((f11.1.2.1.1 285 35 kF_216_285_35)).trans (f6.1.2.1.1 285 35 kF_236_285_35)))))
  have e49 : hV H6 285 51 = hV H3 285 51 := ((f36.1.2.1.1 285 51 kF_219_285_51)).trans (((uSlot f35 285 51 (iS (show n15 = ((55 : Nat) : Int) from f34) rfl))).trans (uPlace f28 285 51 (iS (show n7 = ((322 : Nat) : Int) from f15) rfl)))
  have e52 : hV H6 285 55 = n14 := ((f36.1.2.1.1 285 55 kF_219_285_55)).trans (uSame f35 285 55 f4.symm f34.symm)
  have e57 : hV H6 320 = hV H3 320 := (fRow f36.1.2.1 320 kR_219_320).trans ((uRowNe f35 320 (iS (show n2 = ((285 : Nat) : Int) from f4) rfl)).trans (uRowNe f28 320 (iS (show n7 = ((322 : Nat) : Int) from f15) rfl)))
  have e62 : hV H6 321 = hV H3 321 := (fRow f36.1.2.1 321 kR_219_321).trans ((uRowNe f35 321 (iS (show n2 = ((285 : Nat) : Int) from f4) rfl)).trans (uRowNe f28 321 (iS (show n7 = ((322 : Nat) : Int) from f15) rfl)))
  have e68 : hV H6 322 = (uF (hV H1 322) n8 n11) := (fRow f36.1.2.1 322 kR_219_322).trans ((uRowNe f35 322 (iS (show n2 = ((285 : Nat) : Int) from f4) rfl)).trans ((uRow f28 322 f15.symm).trans (congrArg (fun z => uF z n8 n11) e26)))
  have e69 : RR H4 = RR H3 := RR_upR f28 (show n7 = ((322 : Nat) : Int) from f15) (by decide)
  have e70 : RR H5 = RR H4 := RR_upF f35 f4 (show n15 = ((55 : Nat) : Int) from f34) (by decide)
  have e71 : RR H5 = RR H3 := e70.trans e69
  have e72 : RR H6 = RR H5 := RR_fr f36.1.2.1 (by decide +kernel)
  have e73 : RR H6 = RR H3 := e72.trans e71
  have e74 : (0 : Int) ≤ hV H1 285 11 ∧ hV H1 285 11 ≤ 500 := f6.1.2.2 285 11 _ _ kW_285_11
  have e75 : (0 : Int) ≤ hV H1 285 12 ∧ hV H1 285 12 ≤ 7 := f6.1.2.2 285 12 _ _ kW_285_12
  have e76 : (0 : Int) ≤ hV H1 285 13 ∧ hV H1 285 13 ≤ 2 := f6.1.2.2 285 13 _ _ kW_285_13
  have e77 : (0 : Int) ≤ hV H0 285 34 ∧ hV H0 285 34 ≤ 1 := bTo e11 (f6.1.2.2 285 34 _ _ kW_285_34)
  have e78 : (0 : Int) ≤ hV H0 285 35 ∧ hV H0 285 35 ≤ 1 := bTo e13 (f6.1.2.2 285 35 _ _ kW_285_35)
  have e79 : (0 : Int) ≤ hV H1 285 51 ∧ hV H1 285 51 ≤ 1200 := f6.1.2.2 285 51 _ _ kW_285_51
  have e80 : (0 : Int) ≤ hV H1 285 55 ∧ hV H1 285 55 ≤ 64 := f6.1.2.2 285 55 _ _ kW_285_55
  have e85 : (0 : Int) ≤ hV H3 285 51 ∧ hV H3 285 51 ≤ 1200 := f14.1.2.2.2 285 51 _ _ kW_285_51
  have e86 : (0 : Int) ≤ hV H3 285 55 ∧ hV H3 285 55 ≤ 64 := f14.1.2.2.2 285 55 _ _ kW_285_55
  have e87 : (0 : Int) ≤ hV H6 285 11 ∧ hV H6 285 11 ≤ 500 := f36.1.2.2.2 285 11 _ _ kW_285_11
  have e89 : (0 : Int) ≤ hV H6 285 13 ∧ hV H6 285 13 ≤ 2 := f36.1.2.2.2 285 13 _ _ kW_285_13
  have e92 : (0 : Int) ≤ hV H6 285 55 ∧ hV H6 285 55 ≤ 64 := f36.1.2.2.2 285 55 _ _ kW_285_55
  try simp only [e52] at e92
  try simp only [e39, e45, e49, e52, e57, e62, e68, e73]
  have y0 := g4.1
  have y1 := g4.2.1
  have y2 := g4.2.2.1
  have y3 := g4.2.2.2.1
  have y4 := g4.2.2.2.2.1
  have y5 := g4.2.2.2.2.2.1
  have y6 := g4.2.2.2.2.2.2.1
  have y7 := g4.2.2.2.2.2.2.2.1
  have y8 := g4.2.2.2.2.2.2.2.2.1
  have y9 := g4.2.2.2.2.2.2.2.2.2.1
  have y10 := g4.2.2.2.2.2.2.2.2.2.2.1
  have y11 := g4.2.2.2.2.2.2.2.2.2.2.2
  have p0 := g3.1
  have p1 := g3.2.1
  have p2 := g3.2.2.1
  have p3 := g3.2.2.2.1
  have p4 := g3.2.2.2.2
  have r0_0 := f11.2.1
  have r0_1 := f11.2.2.resolve_right (fun z => f12 z.1)
  have r1_0 := f14.2.1
  have r1_1 := f14.2.2.1
  have r1_2 := f14.2.2.2.1
  have r1_3 := f14.2.2.2.2.1
  have r1_4 := f14.2.2.2.2.2.1
  have r1_5 := f14.2.2.2.2.2.2
  have r2_0 := f36.2.1
  have r2_1 := f36.2.2.1
  have r2_2 := f36.2.2.2.1
  have r2_3 := f36.2.2.2.2
  try simp only [e13] at y7
  try simp only [e6] at y11
  try simp only [e16] at r0_0
  try simp only [e11, e13, e6, e14, e16, e18, e20, e21, e22, e23, e24] at r0_1
  try simp only [e18, e20, e22, e23, e24, e26] at r1_1
  try simp only [e18, e20] at r1_2
  try simp only [e20] at r1_3
  try simp only [e20, e24, e26] at r1_4
  try simp only [e26] at r1_5
  try simp only [e29] at r2_0
  try simp only [e29] at r2_1
  try simp only [e33] at r2_2
  try simp only [e29] at r2_3
  clear g3
  clear g4
  clear f16 f19 f21 f24 f27 f31 e6 e11 e13 e14 e16 e18 e20 e21 e22 e23 e24 e26 e29 e33 e39 e45 e49 e57 e62 e68 e69 e70 e71 e72 e73
  clear f6 f11 f14 f36
  subst e0
  subst e3
  subst e7
  subst e9
  try have wl := wo_leI (w := hV H1 322) (n := hV H1 285 55) (by omega)
  try have wb := WT_bound y2 (by omega)
  try have wl2 := wo_leI (w := hV H1 322) (n := hV H2 285 55) (by omega)
  try have wl3 := wo_leI (w := hV H1 322) (n := hV H3 285 55) (by omega)
  try have wl4 := wo_leI (w := hV H1 322) (n := hV H4 285 55) (by omega)
  try have wl5 := wo_leI (w := hV H1 322) (n := hV H5 285 55) (by omega)
  try have wl6 := wo_leI (w := hV H1 322) (n := hV H6 285 55) (by omega)
  try have wl7 := wo_leI (w := hV H1 322) (n := hV H7 285 55) (by omega)
  try have wl8 := wo_leI (w := hV H1 322) (n := hV H8 285 55) (by omega)
  try have wl9 := wo_leI (w := hV H1 322) (n := hV H9 285 55) (by omega)
  try have wl10 := wo_leI (w := hV H1 322) (n := hV H10 285 55) (by omega)
  first
  | (have ix0 : n14 = hV H3 285 55 + 1 := Eq.trans f33 (w32_iv (Iad (Iat f18 f17) (IC 1)) (by decide)); subst ix0; clear f33)
  | (have ix0 : n14 = hV H3 285 55 + 1 := Eq.trans f33 (w32_id (by omega) (by omega)); subst ix0; clear f33)
  | (unfold w32 at f33; have ix0 : n14 = hV H3 285 55 + 1 := (by omega); subst ix0)
  | skip
  try unfold w32 at f33

  refine ⟨⟨?_, ?_, ?_, ?_, ?_, ?_, ?_, ?_, ?_, ?_⟩, fun q hq => ?_⟩
  · exact r1_0
  · intro z
    exact CO_trans (y1 (by omega)) rfl (CO_d r1_1 (by first | omega | (rw [wo_push] <;> omega)))
  · first
    | exact WT_push (WT_pop y2 (by assumption)) (by omega) (by omega) (by omega) (.inr (.inl ⟨by omega, by omega⟩))
    | exact WT_push (WT_pop y2 (by assumption)) (by omega) (by omega) (by omega) (.inr (.inr ⟨by omega, by omega, by omega⟩))
    | exact WT_push (WT_pop y2 (by assumption)) (by omega) (by omega) (by omega) (by omega)
  · first | omega | (rw [wo_push] <;> omega)
  · first | omega | (rw [wo_push] <;> omega)
  · first | omega | (rw [wo_push] <;> omega)
  · first | omega | (rw [wo_push] <;> omega)
  · first | omega | (rw [wo_push] <;> omega)
  · first | omega | (rw [wo_push] <;> omega)
  · first | omega | (rw [wo_push] <;> omega)
  · have g6 := Option.some.inj hq
    subst g6
    omega
def g_236_187_4 : vG := ([(1219, [1], [5, 6], 0), (80, [1, 15, 14], [5, 4], 0), (0, [15], [], 55), (1, [14, 12, 13], [], 0), (0, [13], [], 1), (20, [12, 1], [4], 55), (90, [12], [], 0), (91, [12], [], 64), (80, [7, 8, 11], [4, 3], 0), (22, [11, 9, 10], [3], 0), (90, [11], [], 0), (91, [11], [], 53), (20, [10, 1], [3], 11), (90, [10], [], 0), (91, [10], [], 500), (20, [9, 1], [3], 5), (0, [9], [], 288), (20, [8, 1], [3], 55), (90, [8], [], 0), (91, [8], [], 64), (20, [7, 1], [3], 54), (0, [7], [], 322), (1235, [1, 6], [2, 3], 0), (0, [6], [], 1), (31, [5], [], 0), (1216, [5, 1, 4], [1, 2], 0), (90, [5], [], 0), (91, [5], [], 1), (0, [4], [], 10), (31, [3], [], 0), (5000, [0, 1, 2, 3], [0, 1], 187), (0, [0], [], 285), (0, [1], [], 285), (90, [2], [], 0), (91, [2], [], 7), (90, [3], [], 0), (91, [3], [], 1)], (4000, [1, 2, 3], [6], 12))
theorem c_236_187_4 {q0 : Nat} : vOkm T0 (eP e_236 L_236 A_236 mu_236 (some q0)) 1 g_236_187_4 := vOk_inI fun ρ η f0 f1 f2 f3 f4 f5 f6 f7 f8 f9 f10 f11 f12 f13 f14 f15 f16 f17 f18 f19 f20 f21 f22 f23 f24 f25 f26 f27 f28 f29 f30 f31 f32 f33 f34 f35 f36 => q_236_36 (q0 := q0) (n0 := ρ 3) (n1 := ρ 2) (n2 := ρ 1) (n3 := ρ 0) (n4 := ρ 4) (n5 := ρ 5) (n6 := ρ 6) (n7 := ρ 7) (n8 := ρ 8) (n9 := ρ 9) (n10 := ρ 10) (n11 := ρ 11) (n12 := ρ 12) (n13 := ρ 13) (n14 := ρ 14) (n15 := ρ 15) (H0 := η 0) (H1 := η 1) (H2 := η 2) (H3 := η 3) (H4 := η 4) (H5 := η 5) (H6 := η 6) f36 f35 f34 f33 f32 f31 f30 f29 f28 f27 f26 f25 f24 f23 f22 f21 f20 f19 f18 f17 f16 f15 f14 f13 f12 f11 f10 f9 f8 f7 f6 f5 f4 f3 f2 f1 f0
set_option maxHeartbeats 20000000 in
theorem q_236_37 {q0 : Nat} {n0 n1 n2 n3 n4 n5 n6 n7 n8 : Int} {H0 H1 H2 H3 : gH} (f0 : n0 ≤ 1) (f1 : 0 ≤ n0) (f2 : n1 ≤ 7) (f3 : 0 ≤ n1) (f4 : n2 = 285) (f5 : n3 = 285) (f6 : (hLe T0 H0 H1 ∧ hFr s_236.2.2.2.2 H0 H1 ∧ hWt T0 H1) ∧ (Ab_236_187 n3 n2 n1 n0 H0 H1 ∧ preb_236 n3 H0) ∧ some q0 = some (mub_236_187 n3 n2 n1 n0 H0 H1)) (f7 : n0 ≠ 0) (f8 : n4 = 10) (f9 : n5 ≤ 1) (f10 : 0 ≤ n5) (f11 : (hLe T0 H1 H2 ∧ hFr s_216.2.2.2.2 H1 H2 ∧ ((0 : Int) = 0 → H2.length = H1.length) ∧ hWt T0 H2) ∧ postb_216 n5 n2 n4 H1 H2) (f12 : n5 = 0) (f13 : n6 = 15) (f14 : n7 ≤ 1) (f15 : 0 ≤ n7) (f16 : (hLe T0 H2 H3 ∧ hFr s_216.2.2.2.2 H2 H3 ∧ ((0 : Int) = 0 → H3.length = H2.length) ∧ hWt T0 H3) ∧ postb_216 n7 n2 n6 H2 H3) (f17 : n7 = 0) (f18 : n8 = 0) : preb_235 n2 n8 H3 := by
  have g4 := f6.2.1.1
  unfold Ab_236_187 at g4
  have g3 := f6.2.1.2
  unfold preb_236 at g3
  unfold postb_216 at f11
  unfold postb_216 at f16
  unfold preb_235
  have e3 : hV H1 285 35 = hV H0 285 35 := (f6.1.2.1.1 285 35 kF_236_285_35)
  have e4 : hV H1 288 = hV H0 288 := fRow f6.1.2.1 288 kR_236_288
  have e6 : hV H2 285 11 = hV H1 285 11 := (f11.1.2.1.1 285 11 kF_216_285_11)
  have e8 : hV H2 285 13 = hV H1 285 13 := (f11.1.2.1.1 285 13 kF_216_285_13)
  have e10 : hV H2 288 = hV H0 288 := (fRow f11.1.2.1 288 kR_216_288).trans e4
  have e12 : hV H3 285 11 = hV H1 285 11 := ((f16.1.2.1.1 285 11 kF_216_285_11)).trans (f11.1.2.1.1 285 11 kF_216_285_11)
  have e14 : hV H3 285 13 = hV H1 285 13 := ((f16.1.2.1.1 285 13 kF_216_285_13)).trans (f11.1.2.1.1 285 13 kF_216_285_13)
  have e17 : hV H3 285 34 = hV H0 285 34 := ((f16.1.2.1.1 285 34 kF_216_285_34)).trans (((f11.1.2.1.1 285 34 kF_216_285_34)).trans (f6.1.2.1.1 285 34 kF_236_285_34))
  have e20 : hV H3 285 35 = hV H0 285 35 := ((f16.1.2.1.1 285 35 kF_216_285_35)).trans (((f11.1.2.1.1 285 35 kF_216_285_35)).trans (f6.1.2.1.1 285 35 kF_236_285_35))
  have e23 : hV H3 285 51 = hV H1 285 51 := ((f16.1.2.1.1 285 51 kF_216_285_51)).trans (f11.1.2.1.1 285 51 kF_216_285_51)
  have e26 : hV H3 285 55 = hV H1 285 55 := ((f16.1.2.1.1 285 55 kF_216_285_55)).trans (f11.1.2.1.1 285 55 kF_216_285_55)
  have e28 : hV H3 288 = hV H0 288 := (fRow f16.1.2.1 288 kR_216_288).trans e10
  have e31 : hV H3 322 = hV H1 322 := (fRow f16.1.2.1 322 kR_216_322).trans (fRow f11.1.2.1 322 kR_216_322)
  have e32 : RR H2 = RR H1 := RR_fr f11.1.2.1 (by decide +kernel)
  have e33 : RR H3 = RR H2 := RR_fr f16.1.2.1 (by decide +kernel)
  have e34 : RR H3 = RR H1 := e33.trans e32
  have e35 : (0 : Int) ≤ hV H1 285 11 ∧ hV H1 285 11 ≤ 500 := f6.1.2.2 285 11 _ _ kW_285_11
  have e36 : (0 : Int) ≤ hV H1 285 12 ∧ hV H1 285 12 ≤ 7 := f6.1.2.2 285 12 _ _ kW_285_12
  have e37 : (0 : Int) ≤ hV H1 285 13 ∧ hV H1 285 13 ≤ 2 := f6.1.2.2 285 13 _ _ kW_285_13
  have e38 : (0 : Int) ≤ hV H0 285 34 ∧ hV H0 285 34 ≤ 1 := bTo ((f6.1.2.1.1 285 34 kF_236_285_34)) (f6.1.2.2 285 34 _ _ kW_285_34)
  have e39 : (0 : Int) ≤ hV H0 285 35 ∧ hV H0 285 35 ≤ 1 := bTo e3 (f6.1.2.2 285 35 _ _ kW_285_35)
  have e40 : (0 : Int) ≤ hV H1 285 51 ∧ hV H1 285 51 ≤ 1200 := f6.1.2.2 285 51 _ _ kW_285_51
  have e41 : (0 : Int) ≤ hV H1 285 55 ∧ hV H1 285 55 ≤ 64 := f6.1.2.2 285 55 _ _ kW_285_55
  try simp only [e17, e20, e23, e26, e31, e34]
  have y0 := g4.1
  have y1 := g4.2.1
  have y2 := g4.2.2.1
  have y3 := g4.2.2.2.1
  have y4 := g4.2.2.2.2.1
  have y5 := g4.2.2.2.2.2.1
  have y6 := g4.2.2.2.2.2.2.1
  have y7 := g4.2.2.2.2.2.2.2.1
  have y8 := g4.2.2.2.2.2.2.2.2.1
  have y9 := g4.2.2.2.2.2.2.2.2.2.1
  have y10 := g4.2.2.2.2.2.2.2.2.2.2.1
  have y11 := g4.2.2.2.2.2.2.2.2.2.2.2
  have p0 := g3.1
  have p1 := g3.2.1
  have p2 := g3.2.2.1
  have p3 := g3.2.2.2.1
  have p4 := g3.2.2.2.2
  have r0_0 := f11.2.1
  have r0_1 := f11.2.2
  have r1_0 := f16.2.1
  have r1_1 := f16.2.2
  try simp only [e3] at y7
  try simp only [e4] at y11
  try simp only [e8] at r0_0
  try simp only [e6, e8, e10] at r0_1
  try simp only [e14] at r1_0
  try simp only [e12, e14, e28] at r1_1
  clear g3
  clear g4
  clear e3 e4 e6 e8 e10 e12 e14 e17 e20 e23 e26 e28 e31 e32 e33 e34
  clear f6 f11 f16
  try have wl := wo_leI (w := hV H1 322) (n := hV H1 285 55) (by omega)
  try have wb := WT_bound y2 (by omega)
  try have wl2 := wo_leI (w := hV H1 322) (n := hV H2 285 55) (by omega)
  try have wl3 := wo_leI (w := hV H1 322) (n := hV H3 285 55) (by omega)
  try have wl4 := wo_leI (w := hV H1 322) (n := hV H4 285 55) (by omega)
  try have wl5 := wo_leI (w := hV H1 322) (n := hV H5 285 55) (by omega)
  try have wl6 := wo_leI (w := hV H1 322) (n := hV H6 285 55) (by omega)
  try have wl7 := wo_leI (w := hV H1 322) (n := hV H7 285 55) (by omega)
  try have wl8 := wo_leI (w := hV H1 322) (n := hV H8 285 55) (by omega)
  try have wl9 := wo_leI (w := hV H1 322) (n := hV H9 285 55) (by omega)
  try have wl10 := wo_leI (w := hV H1 322) (n := hV H10 285 55) (by omega)
  subst y3
  refine ⟨?_, ?_, ?_, ?_⟩ <;> first | assumption | omega | trivial
def g_236_187_5 : vG := ([(0, [8], [], 0), (30, [7], [], 0), (1216, [7, 1, 6], [2, 3], 0), (90, [7], [], 0), (91, [7], [], 1), (0, [6], [], 15), (30, [5], [], 0), (1216, [5, 1, 4], [1, 2], 0), (90, [5], [], 0), (91, [5], [], 1), (0, [4], [], 10), (31, [3], [], 0), (5000, [0, 1, 2, 3], [0, 1], 187), (0, [0], [], 285), (0, [1], [], 285), (90, [2], [], 0), (91, [2], [], 7), (90, [3], [], 0), (91, [3], [], 1)], (2235, [1, 8], [3], 0))
theorem c_236_187_5 {q0 : Nat} : vOkm T0 (eP e_236 L_236 A_236 mu_236 (some q0)) 1 g_236_187_5 := vOk_inI fun ρ η f0 f1 f2 f3 f4 f5 f6 f7 f8 f9 f10 f11 f12 f13 f14 f15 f16 f17 f18 => q_236_37 (q0 := q0) (n0 := ρ 3) (n1 := ρ 2) (n2 := ρ 1) (n3 := ρ 0) (n4 := ρ 4) (n5 := ρ 5) (n6 := ρ 6) (n7 := ρ 7) (n8 := ρ 8) (H0 := η 0) (H1 := η 1) (H2 := η 2) (H3 := η 3) f18 f17 f16 f15 f14 f13 f12 f11 f10 f9 f8 f7 f6 f5 f4 f3 f2 f1 f0
set_option maxHeartbeats 20000000 in
theorem q_236_38 {q0 : Nat} {n0 n1 n2 n3 n4 n5 n6 n7 n8 n9 n10 n11 n12 : Int} {H0 H1 H2 H3 H4 : gH} (f0 : n0 ≤ 1) (f1 : 0 ≤ n0) (f2 : n1 ≤ 7) (f3 : 0 ≤ n1) (f4 : n2 = 285) (f5 : n3 = 285) (f6 : (hLe T0 H0 H1 ∧ hFr s_236.2.2.2.2 H0 H1 ∧ hWt T0 H1) ∧ (Ab_236_187 n3 n2 n1 n0 H0 H1 ∧ preb_236 n3 H0) ∧ some q0 = some (mub_236_187 n3 n2 n1 n0 H0 H1)) (f7 : n0 ≠ 0) (f8 : n4 = 10) (f9 : n5 ≤ 1) (f10 : 0 ≤ n5) (f11 : (hLe T0 H1 H2 ∧ hFr s_216.2.2.2.2 H1 H2 ∧ ((0 : Int) = 0 → H2.length = H1.length) ∧ hWt T0 H2) ∧ postb_216 n5 n2 n4 H1 H2) (f12 : n5 = 0) (f13 : n6 = 15) (f14 : n7 ≤ 1) (f15 : 0 ≤ n7) (f16 : (hLe T0 H2 H3 ∧ hFr s_216.2.2.2.2 H2 H3 ∧ ((0 : Int) = 0 → H3.length = H2.length) ∧ hWt T0 H3) ∧ postb_216 n7 n2 n6 H2 H3) (f17 : n7 = 0) (f18 : n8 = 0) (f19 : (hLe T0 H3 H4 ∧ hFr s_235.2.2.2.2 H3 H4 ∧ ((0 : Int) = 0 → H4.length = H3.length) ∧ hWt T0 H4) ∧ postb_235 n2 n8 H3 H4) (f20 : n9 ≤ 64) (f21 : 0 ≤ n9) (f22 : n9 = hV H4 (n2).toNat 55) (f23 : n10 = 288) (f24 : n10 = hV H4 (n2).toNat 5) (f25 : n11 ≤ 500) (f26 : 0 ≤ n11) (f27 : n11 = hV H4 (n2).toNat 11) (f28 : n12 ≤ 53) (f29 : 0 ≤ n12) (f30 : n12 = hV H4 (n10).toNat (n11).toNat) : 0 ≤ n9 ∧ n9 < 64 := by
  have g4 := f6.2.1.1
  unfold Ab_236_187 at g4
  have g3 := f6.2.1.2
  unfold preb_236 at g3
  unfold postb_216 at f11
  unfold postb_216 at f16
  unfold postb_235 at f19
  have e0 : n9 = hV H4 285 55 := (by rw [f4] at f22; exact f22 : n9 = hV H4 285 55)
  have e4 : n11 = hV H1 285 11 := (by rw [f4] at f27; exact f27 : n11 = hV H4 285 11).trans (((f19.1.2.1.1 285 11 kF_235_285_11)).trans (((f16.1.2.1.1 285 11 kF_216_285_11)).trans (f11.1.2.1.1 285 11 kF_216_285_11)))
  have e8 : hV H1 288 = hV H0 288 := fRow f6.1.2.1 288 kR_236_288
  have e9 : n12 = hV H0 288 (n11).toNat := (by rw [f23] at f30; exact f30 : n12 = hV H4 288 (n11).toNat).trans (((congrFun (fRow f19.1.2.1 288 kR_235_288) _)).trans (((congrFun (fRow f16.1.2.1 288 kR_216_288) _)).trans (((congrFun (fRow f11.1.2.1 288 kR_216_288) _)).trans ((congrFun e8 _)))))
  have e13 : hV H1 285 35 = hV H0 285 35 := (f6.1.2.1.1 285 35 kF_236_285_35)
  have e14 : hV H2 285 11 = hV H1 285 11 := (f11.1.2.1.1 285 11 kF_216_285_11)
  have e16 : hV H2 285 13 = hV H1 285 13 := (f11.1.2.1.1 285 13 kF_216_285_13)
  have e17 : hV H2 288 = hV H0 288 := (fRow f11.1.2.1 288 kR_216_288).trans e8
  have e18 : hV H3 285 11 = hV H1 285 11 := ((f16.1.2.1.1 285 11 kF_216_285_11)).trans (f11.1.2.1.1 285 11 kF_216_285_11)
  have e20 : hV H3 285 13 = hV H1 285 13 := ((f16.1.2.1.1 285 13 kF_216_285_13)).trans (f11.1.2.1.1 285 13 kF_216_285_13)
  have e23 : hV H3 285 51 = hV H1 285 51 := ((f16.1.2.1.1 285 51 kF_216_285_51)).trans (f11.1.2.1.1 285 51 kF_216_285_51)
  have e26 : hV H3 285 55 = hV H1 285 55 := ((f16.1.2.1.1 285 55 kF_216_285_55)).trans (f11.1.2.1.1 285 55 kF_216_285_55)
  have e27 : hV H3 288 = hV H0 288 := (fRow f16.1.2.1 288 kR_216_288).trans e17
  have e30 : hV H3 320 = hV H1 320 := (fRow f16.1.2.1 320 kR_216_320).trans (fRow f11.1.2.1 320 kR_216_320)
  have e33 : hV H3 321 = hV H1 321 := (fRow f16.1.2.1 321 kR_216_321).trans (fRow f11.1.2.1 321 kR_216_321)
  have e36 : hV H3 322 = hV H1 322 := (fRow f16.1.2.1 322 kR_216_322).trans (fRow f11.1.2.1 322 kR_216_322)
  have e38 : hV H4 322 = hV H1 322 := (fRow f19.1.2.1 322 kR_235_322).trans e36
  have e39 : (0 : Int) ≤ hV H1 285 11 ∧ hV H1 285 11 ≤ 500 := f6.1.2.2 285 11 _ _ kW_285_11
  have e40 : (0 : Int) ≤ hV H1 285 12 ∧ hV H1 285 12 ≤ 7 := f6.1.2.2 285 12 _ _ kW_285_12
  have e41 : (0 : Int) ≤ hV H1 285 13 ∧ hV H1 285 13 ≤ 2 := f6.1.2.2 285 13 _ _ kW_285_13
  have e42 : (0 : Int) ≤ hV H0 285 34 ∧ hV H0 285 34 ≤ 1 := bTo ((f6.1.2.1.1 285 34 kF_236_285_34)) (f6.1.2.2 285 34 _ _ kW_285_34)
  have e43 : (0 : Int) ≤ hV H0 285 35 ∧ hV H0 285 35 ≤ 1 := bTo e13 (f6.1.2.2 285 35 _ _ kW_285_35)
  have e44 : (0 : Int) ≤ hV H1 285 51 ∧ hV H1 285 51 ≤ 1200 := f6.1.2.2 285 51 _ _ kW_285_51
  have e45 : (0 : Int) ≤ hV H1 285 55 ∧ hV H1 285 55 ≤ 64 := f6.1.2.2 285 55 _ _ kW_285_55
  have e52 : (0 : Int) ≤ hV H4 285 51 ∧ hV H4 285 51 ≤ 1200 := f19.1.2.2.2 285 51 _ _ kW_285_51
  have e53 : (0 : Int) ≤ hV H4 285 55 ∧ hV H4 285 55 ≤ 64 := f19.1.2.2.2 285 55 _ _ kW_285_55
  have y0 := g4.1
  have y1 := g4.2.1
  have y2 := g4.2.2.1
  have y3 := g4.2.2.2.1
  have y4 := g4.2.2.2.2.1
  have y5 := g4.2.2.2.2.2.1
  have y6 := g4.2.2.2.2.2.2.1
  have y7 := g4.2.2.2.2.2.2.2.1
  have y8 := g4.2.2.2.2.2.2.2.2.1
  have y9 := g4.2.2.2.2.2.2.2.2.2.1
  have y10 := g4.2.2.2.2.2.2.2.2.2.2.1
  have y11 := g4.2.2.2.2.2.2.2.2.2.2.2
  have p0 := g3.1
  have p1 := g3.2.1
  have p2 := g3.2.2.1
  have p3 := g3.2.2.2.1
  have p4 := g3.2.2.2.2
  have r0_0 := f11.2.1
  have r0_1 := f11.2.2
  have r1_0 := f16.2.1
  have r1_1 := f16.2.2
  have r2_0 := f19.2.1
  have r2_1 := f19.2.2.1
  have r2_2 := f19.2.2.2.1
  have r2_3 := f19.2.2.2.2.1
  have r2_4 := f19.2.2.2.2.2.1
  have r2_5 := f19.2.2.2.2.2.2
  try simp only [e13] at y7
  try simp only [e8] at y11
  try simp only [e16] at r0_0
  try simp only [e14, e16, e17] at r0_1
  try simp only [e20] at r1_0
  try simp only [e18, e20, e27] at r1_1
  try simp only [e23, e26, e30, e33, e36, e38] at r2_1
  try simp only [e23, e26] at r2_2
  try simp only [e26] at r2_3
  try simp only [e26, e36, e38] at r2_4
  try simp only [e38] at r2_5
  clear g3
  clear g4
  clear f22 f24 f27 f30 e8 e13 e14 e16 e17 e18 e20 e23 e26 e27 e30 e33 e36 e38
  clear f6 f11 f16 f19
  subst e0
  subst e4
  subst e9
  try have wl := wo_leI (w := hV H1 322) (n := hV H1 285 55) (by omega)
  try have wb := WT_bound y2 (by omega)
  try have wl2 := wo_leI (w := hV H1 322) (n := hV H2 285 55) (by omega)
  try have wl3 := wo_leI (w := hV H1 322) (n := hV H3 285 55) (by omega)
  try have wl4 := wo_leI (w := hV H1 322) (n := hV H4 285 55) (by omega)
  try have wl5 := wo_leI (w := hV H1 322) (n := hV H5 285 55) (by omega)
  try have wl6 := wo_leI (w := hV H1 322) (n := hV H6 285 55) (by omega)
  try have wl7 := wo_leI (w := hV H1 322) (n := hV H7 285 55) (by omega)
  try have wl8 := wo_leI (w := hV H1 322) (n := hV H8 285 55) (by omega)
  try have wl9 := wo_leI (w := hV H1 322) (n := hV H9 285 55) (by omega)
  try have wl10 := wo_leI (w := hV H1 322) (n := hV H10 285 55) (by omega)
  subst y3
  omega
def g_236_187_6 : vG := ([(22, [13, 11, 12], [4], 0), (90, [13], [], 0), (91, [13], [], 53), (20, [12, 1], [4], 11), (90, [12], [], 0), (91, [12], [], 500), (20, [11, 1], [4], 5), (0, [11], [], 288), (20, [10, 1], [4], 55), (90, [10], [], 0), (91, [10], [], 64), (1235, [1, 8], [3, 4], 0), (0, [8], [], 0), (30, [7], [], 0), (1216, [7, 1, 6], [2, 3], 0), (90, [7], [], 0), (91, [7], [], 1), (0, [6], [], 15), (30, [5], [], 0), (1216, [5, 1, 4], [1, 2], 0), (90, [5], [], 0), (91, [5], [], 1), (0, [4], [], 10), (31, [3], [], 0), (5000, [0, 1, 2, 3], [0, 1], 187), (0, [0], [], 285), (0, [1], [], 285), (90, [2], [], 0), (91, [2], [], 7), (90, [3], [], 0), (91, [3], [], 1)], (70, [10], [], 64))
theorem c_236_187_6 {q0 : Nat} : vOkm T0 (eP e_236 L_236 A_236 mu_236 (some q0)) 1 g_236_187_6 := vOk_inI fun ρ η f0 f1 f2 f3 f4 f5 f6 f7 f8 f9 f10 f11 f12 f13 f14 f15 f16 f17 f18 f19 f20 f21 f22 f23 f24 f25 f26 f27 f28 f29 f30 => q_236_38 (q0 := q0) (n0 := ρ 3) (n1 := ρ 2) (n2 := ρ 1) (n3 := ρ 0) (n4 := ρ 4) (n5 := ρ 5) (n6 := ρ 6) (n7 := ρ 7) (n8 := ρ 8) (n9 := ρ 10) (n10 := ρ 11) (n11 := ρ 12) (n12 := ρ 13) (H0 := η 0) (H1 := η 1) (H2 := η 2) (H3 := η 3) (H4 := η 4) f30 f29 f28 f27 f26 f25 f24 f23 f22 f21 f20 f19 f18 f17 f16 f15 f14 f13 f12 f11 f10 f9 f8 f7 f6 f5 f4 f3 f2 f1 f0
def g_236_187_7 : vG := ([(1, [16, 14, 15], [], 0), (0, [15], [], 1), (90, [14], [], 0), (91, [14], [], 64)], (90, [16], [], 0))
theorem c_236_187_7 {q0 : Nat} : vOkm T0 (eP e_236 L_236 A_236 mu_236 (some q0)) 1 g_236_187_7 := vOk_inI fun ρ η f0 f1 f2 f3 => q_236_10 (q0 := q0) (n0 := ρ 14) (n1 := ρ 15) (n2 := ρ 16) (H0 := η 0) f3 f2 f1 f0
set_option maxHeartbeats 20000000 in
theorem q_236_39 {q0 : Nat} {n0 n1 n2 n3 n4 n5 n6 n7 n8 n9 n10 n11 n12 n13 n14 n15 n16 : Int} {H0 H1 H2 H3 H4 H5 : gH} (f0 : n0 ≤ 1) (f1 : 0 ≤ n0) (f2 : n1 ≤ 7) (f3 : 0 ≤ n1) (f4 : n2 = 285) (f5 : n3 = 285) (f6 : (hLe T0 H0 H1 ∧ hFr s_236.2.2.2.2 H0 H1 ∧ hWt T0 H1) ∧ (Ab_236_187 n3 n2 n1 n0 H0 H1 ∧ preb_236 n3 H0) ∧ some q0 = some (mub_236_187 n3 n2 n1 n0 H0 H1)) (f7 : n0 ≠ 0) (f8 : n4 = 10) (f9 : n5 ≤ 1) (f10 : 0 ≤ n5) (f11 : (hLe T0 H1 H2 ∧ hFr s_216.2.2.2.2 H1 H2 ∧ ((0 : Int) = 0 → H2.length = H1.length) ∧ hWt T0 H2) ∧ postb_216 n5 n2 n4 H1 H2) (f12 : n5 = 0) (f13 : n6 = 15) (f14 : n7 ≤ 1) (f15 : 0 ≤ n7) (f16 : (hLe T0 H2 H3 ∧ hFr s_216.2.2.2.2 H2 H3 ∧ ((0 : Int) = 0 → H3.length = H2.length) ∧ hWt T0 H3) ∧ postb_216 n7 n2 n6 H2 H3) (f17 : n7 = 0) (f18 : n8 = 0) (f19 : (hLe T0 H3 H4 ∧ hFr s_235.2.2.2.2 H3 H4 ∧ ((0 : Int) = 0 → H4.length = H3.length) ∧ hWt T0 H4) ∧ postb_235 n2 n8 H3 H4) (f20 : n9 = 322) (f21 : n9 = hV H4 (n2).toNat 54) (f22 : n10 ≤ 64) (f23 : 0 ≤ n10) (f24 : n10 = hV H4 (n2).toNat 55) (f25 : n11 = 288) (f26 : n11 = hV H4 (n2).toNat 5) (f27 : n12 ≤ 500) (f28 : 0 ≤ n12) (f29 : n12 = hV H4 (n2).toNat 11) (f30 : n13 ≤ 53) (f31 : 0 ≤ n13) (f32 : n13 = hV H4 (n11).toNat (n12).toNat) (f33 : hUpd H5 H4 n9 n10 n13) (f34 : n14 ≤ 64) (f35 : 0 ≤ n14) (f36 : n14 = hV H5 (n2).toNat 55) (f37 : n15 = 1) (f38 : n16 = w32 (n14 + n15)) : n16 ≤ 64 := by
  have g4 := f6.2.1.1
  unfold Ab_236_187 at g4
  have g3 := f6.2.1.2
  unfold preb_236 at g3
  unfold postb_216 at f11
  unfold postb_216 at f16
  unfold postb_235 at f19
  have e0 : n10 = hV H4 285 55 := (by rw [f4] at f24; exact f24 : n10 = hV H4 285 55)
  have e4 : n12 = hV H1 285 11 := (by rw [f4] at f29; exact f29 : n12 = hV H4 285 11).trans (((f19.1.2.1.1 285 11 kF_235_285_11)).trans (((f16.1.2.1.1 285 11 kF_216_285_11)).trans (f11.1.2.1.1 285 11 kF_216_285_11)))
  have e8 : hV H1 288 = hV H0 288 := fRow f6.1.2.1 288 kR_236_288
  have e9 : n13 = hV H0 288 (n12).toNat := (by rw [f25] at f32; exact f32 : n13 = hV H4 288 (n12).toNat).trans (((congrFun (fRow f19.1.2.1 288 kR_235_288) _)).trans (((congrFun (fRow f16.1.2.1 288 kR_216_288) _)).trans (((congrFun (fRow f11.1.2.1 288 kR_216_288) _)).trans ((congrFun e8 _)))))
  have e11 : n14 = hV H4 285 55 := (by rw [f4] at f36; exact f36 : n14 = hV H5 285 55).trans ((uPlace f33 285 55 (iS (show n9 = ((322 : Nat) : Int) from f20) rfl)))
  have e15 : hV H1 285 35 = hV H0 285 35 := (f6.1.2.1.1 285 35 kF_236_285_35)
  have e16 : hV H2 285 11 = hV H1 285 11 := (f11.1.2.1.1 285 11 kF_216_285_11)
  have e18 : hV H2 285 13 = hV H1 285 13 := (f11.1.2.1.1 285 13 kF_216_285_13)
  have e19 : hV H2 288 = hV H0 288 := (fRow f11.1.2.1 288 kR_216_288).trans e8
  have e20 : hV H3 285 11 = hV H1 285 11 := ((f16.1.2.1.1 285 11 kF_216_285_11)).trans (f11.1.2.1.1 285 11 kF_216_285_11)
  have e22 : hV H3 285 13 = hV H1 285 13 := ((f16.1.2.1.1 285 13 kF_216_285_13)).trans (f11.1.2.1.1 285 13 kF_216_285_13)
  have e25 : hV H3 285 51 = hV H1 285 51 := ((f16.1.2.1.1 285 51 kF_216_285_51)).trans (f11.1.2.1.1 285 51 kF_216_285_51)
  have e28 : hV H3 285 55 = hV H1 285 55 := ((f16.1.2.1.1 285 55 kF_216_285_55)).trans (f11.1.2.1.1 285 55 kF_216_285_55)
  have e29 : hV H3 288 = hV H0 288 := (fRow f16.1.2.1 288 kR_216_288).trans e19
  have e32 : hV H3 320 = hV H1 320 := (fRow f16.1.2.1 320 kR_216_320).trans (fRow f11.1.2.1 320 kR_216_320)
  have e35 : hV H3 321 = hV H1 321 := (fRow f16.1.2.1 321 kR_216_321).trans (fRow f11.1.2.1 321 kR_216_321)
  have e38 : hV H3 322 = hV H1 322 := (fRow f16.1.2.1 322 kR_216_322).trans (fRow f11.1.2.1 322 kR_216_322)
  have e40 : hV H4 322 = hV H1 322 := (fRow f19.1.2.1 322 kR_235_322).trans e38
  have e41 : (0 : Int) ≤ hV H1 285 11 ∧ hV H1 285 11 ≤ 500 := f6.1.2.2 285 11 _ _ kW_285_11
  have e42 : (0 : Int) ≤ hV H1 285 12 ∧ hV H1 285 12 ≤ 7 := f6.1.2.2 285 12 _ _ kW_285_12
  have e43 : (0 : Int) ≤ hV H1 285 13 ∧ hV H1 285 13 ≤ 2 := f6.1.2.2 285 13 _ _ kW_285_13
  have e44 : (0 : Int) ≤ hV H0 285 34 ∧ hV H0 285 34 ≤ 1 := bTo ((f6.1.2.1.1 285 34 kF_236_285_34)) (f6.1.2.2 285 34 _ _ kW_285_34)
  have e45 : (0 : Int) ≤ hV H0 285 35 ∧ hV H0 285 35 ≤ 1 := bTo e15 (f6.1.2.2 285 35 _ _ kW_285_35)
  have e46 : (0 : Int) ≤ hV H1 285 51 ∧ hV H1 285 51 ≤ 1200 := f6.1.2.2 285 51 _ _ kW_285_51
  have e47 : (0 : Int) ≤ hV H1 285 55 ∧ hV H1 285 55 ≤ 64 := f6.1.2.2 285 55 _ _ kW_285_55
  have e54 : (0 : Int) ≤ hV H4 285 51 ∧ hV H4 285 51 ≤ 1200 := f19.1.2.2.2 285 51 _ _ kW_285_51
  have e55 : (0 : Int) ≤ hV H4 285 55 ∧ hV H4 285 55 ≤ 64 := f19.1.2.2.2 285 55 _ _ kW_285_55
  have y0 := g4.1
  have y1 := g4.2.1
  have y2 := g4.2.2.1
  have y3 := g4.2.2.2.1
  have y4 := g4.2.2.2.2.1
  have y5 := g4.2.2.2.2.2.1
  have y6 := g4.2.2.2.2.2.2.1
  have y7 := g4.2.2.2.2.2.2.2.1
  have y8 := g4.2.2.2.2.2.2.2.2.1
  have y9 := g4.2.2.2.2.2.2.2.2.2.1
  have y10 := g4.2.2.2.2.2.2.2.2.2.2.1
  have y11 := g4.2.2.2.2.2.2.2.2.2.2.2
  have p0 := g3.1
  have p1 := g3.2.1
  have p2 := g3.2.2.1
  have p3 := g3.2.2.2.1
  have p4 := g3.2.2.2.2
  have r0_0 := f11.2.1
  have r0_1 := f11.2.2
  have r1_0 := f16.2.1
  have r1_1 := f16.2.2
  have r2_0 := f19.2.1
  have r2_1 := f19.2.2.1
  have r2_2 := f19.2.2.2.1
  have r2_3 := f19.2.2.2.2.1
  have r2_4 := f19.2.2.2.2.2.1
  have r2_5 := f19.2.2.2.2.2.2
  try simp only [e15] at y7
  try simp only [e8] at y11
  try simp only [e18] at r0_0
  try simp only [e16, e18, e19] at r0_1
  try simp only [e22] at r1_0
  try simp only [e20, e22, e29] at r1_1
  try simp only [e25, e28, e32, e35, e38, e40] at r2_1
  try simp only [e25, e28] at r2_2
  try simp only [e28] at r2_3
  try simp only [e28, e38, e40] at r2_4
  try simp only [e40] at r2_5
  clear g3
  clear g4
  clear f21 f24 f26 f29 f32 f36 e8 e15 e16 e18 e19 e20 e22 e25 e28 e29 e32 e35 e38 e40
  clear f6 f11 f16 f19
  subst e0
  subst e4
  subst e9
  subst e11
  try have wl := wo_leI (w := hV H1 322) (n := hV H1 285 55) (by omega)
  try have wb := WT_bound y2 (by omega)
  try have wl2 := wo_leI (w := hV H1 322) (n := hV H2 285 55) (by omega)
  try have wl3 := wo_leI (w := hV H1 322) (n := hV H3 285 55) (by omega)
  try have wl4 := wo_leI (w := hV H1 322) (n := hV H4 285 55) (by omega)
  try have wl5 := wo_leI (w := hV H1 322) (n := hV H5 285 55) (by omega)
  try have wl6 := wo_leI (w := hV H1 322) (n := hV H6 285 55) (by omega)
  try have wl7 := wo_leI (w := hV H1 322) (n := hV H7 285 55) (by omega)
  try have wl8 := wo_leI (w := hV H1 322) (n := hV H8 285 55) (by omega)
  try have wl9 := wo_leI (w := hV H1 322) (n := hV H9 285 55) (by omega)
  try have wl10 := wo_leI (w := hV H1 322) (n := hV H10 285 55) (by omega)
  first
  | (have ix0 : n16 = hV H4 285 55 + 1 := Eq.trans f38 (w32_iv (Iad (Iat f23 f22) (IC 1)) (by decide)); subst ix0; clear f38)
  | (have ix0 : n16 = hV H4 285 55 + 1 := Eq.trans f38 (w32_id (by omega) (by omega)); subst ix0; clear f38)
  | (unfold w32 at f38; have ix0 : n16 = hV H4 285 55 + 1 := (by omega); subst ix0)
  | skip
  try unfold w32 at f38
  subst y3
  omega
def g_236_187_8 : vG := ([(1, [16, 14, 15], [], 0), (0, [15], [], 1), (20, [14, 1], [5], 55), (90, [14], [], 0), (91, [14], [], 64), (80, [9, 10, 13], [5, 4], 0), (22, [13, 11, 12], [4], 0), (90, [13], [], 0), (91, [13], [], 53), (20, [12, 1], [4], 11), (90, [12], [], 0), (91, [12], [], 500), (20, [11, 1], [4], 5), (0, [11], [], 288), (20, [10, 1], [4], 55), (90, [10], [], 0), (91, [10], [], 64), (20, [9, 1], [4], 54), (0, [9], [], 322), (1235, [1, 8], [3, 4], 0), (0, [8], [], 0), (30, [7], [], 0), (1216, [7, 1, 6], [2, 3], 0), (90, [7], [], 0), (91, [7], [], 1), (0, [6], [], 15), (30, [5], [], 0), (1216, [5, 1, 4], [1, 2], 0), (90, [5], [], 0), (91, [5], [], 1), (0, [4], [], 10), (31, [3], [], 0), (5000, [0, 1, 2, 3], [0, 1], 187), (0, [0], [], 285), (0, [1], [], 285), (90, [2], [], 0), (91, [2], [], 7), (90, [3], [], 0), (91, [3], [], 1)], (91, [16], [], 64))
theorem c_236_187_8 {q0 : Nat} : vOkm T0 (eP e_236 L_236 A_236 mu_236 (some q0)) 1 g_236_187_8 := vOk_inI fun ρ η f0 f1 f2 f3 f4 f5 f6 f7 f8 f9 f10 f11 f12 f13 f14 f15 f16 f17 f18 f19 f20 f21 f22 f23 f24 f25 f26 f27 f28 f29 f30 f31 f32 f33 f34 f35 f36 f37 f38 => q_236_39 (q0 := q0) (n0 := ρ 3) (n1 := ρ 2) (n2 := ρ 1) (n3 := ρ 0) (n4 := ρ 4) (n5 := ρ 5) (n6 := ρ 6) (n7 := ρ 7) (n8 := ρ 8) (n9 := ρ 9) (n10 := ρ 10) (n11 := ρ 11) (n12 := ρ 12) (n13 := ρ 13) (n14 := ρ 14) (n15 := ρ 15) (n16 := ρ 16) (H0 := η 0) (H1 := η 1) (H2 := η 2) (H3 := η 3) (H4 := η 4) (H5 := η 5) f38 f37 f36 f35 f34 f33 f32 f31 f30 f29 f28 f27 f26 f25 f24 f23 f22 f21 f20 f19 f18 f17 f16 f15 f14 f13 f12 f11 f10 f9 f8 f7 f6 f5 f4 f3 f2 f1 f0
set_option maxHeartbeats 20000000 in
theorem q_236_40 {q0 : Nat} {n0 n1 n2 n3 n4 n5 n6 n7 n8 n9 n10 n11 n12 n13 n14 n15 n16 n17 : Int} {H0 H1 H2 H3 H4 H5 H6 H7 : gH} (f0 : n0 ≤ 1) (f1 : 0 ≤ n0) (f2 : n1 ≤ 7) (f3 : 0 ≤ n1) (f4 : n2 = 285) (f5 : n3 = 285) (f6 : (hLe T0 H0 H1 ∧ hFr s_236.2.2.2.2 H0 H1 ∧ hWt T0 H1) ∧ (Ab_236_187 n3 n2 n1 n0 H0 H1 ∧ preb_236 n3 H0) ∧ some q0 = some (mub_236_187 n3 n2 n1 n0 H0 H1)) (f7 : n0 ≠ 0) (f8 : n4 = 10) (f9 : n5 ≤ 1) (f10 : 0 ≤ n5) (f11 : (hLe T0 H1 H2 ∧ hFr s_216.2.2.2.2 H1 H2 ∧ ((0 : Int) = 0 → H2.length = H1.length) ∧ hWt T0 H2) ∧ postb_216 n5 n2 n4 H1 H2) (f12 : n5 = 0) (f13 : n6 = 15) (f14 : n7 ≤ 1) (f15 : 0 ≤ n7) (f16 : (hLe T0 H2 H3 ∧ hFr s_216.2.2.2.2 H2 H3 ∧ ((0 : Int) = 0 → H3.length = H2.length) ∧ hWt T0 H3) ∧ postb_216 n7 n2 n6 H2 H3) (f17 : n7 = 0) (f18 : n8 = 0) (f19 : (hLe T0 H3 H4 ∧ hFr s_235.2.2.2.2 H3 H4 ∧ ((0 : Int) = 0 → H4.length = H3.length) ∧ hWt T0 H4) ∧ postb_235 n2 n8 H3 H4) (f20 : n9 = 322) (f21 : n9 = hV H4 (n2).toNat 54) (f22 : n10 ≤ 64) (f23 : 0 ≤ n10) (f24 : n10 = hV H4 (n2).toNat 55) (f25 : n11 = 288) (f26 : n11 = hV H4 (n2).toNat 5) (f27 : n12 ≤ 500) (f28 : 0 ≤ n12) (f29 : n12 = hV H4 (n2).toNat 11) (f30 : n13 ≤ 53) (f31 : 0 ≤ n13) (f32 : n13 = hV H4 (n11).toNat (n12).toNat) (f33 : hUpd H5 H4 n9 n10 n13) (f34 : n14 ≤ 64) (f35 : 0 ≤ n14) (f36 : n14 = hV H5 (n2).toNat 55) (f37 : n15 = 1) (f38 : n16 = w32 (n14 + n15)) (f39 : n17 = 55) (f40 : hUpd H6 H5 n2 n17 n16) (f41 : (hLe T0 H6 H7 ∧ hFr s_219.2.2.2.2 H6 H7 ∧ ((0 : Int) = 0 → H7.length = H6.length) ∧ hWt T0 H7) ∧ postb_219 n2 H6 H7) : Ab_236_12 n3 n2 n1 n0 H0 H7 ∧ ∀ q, some q0 = some q → mub_236_12 n3 n2 n1 n0 H0 H7 < q := by
  have g4 := f6.2.1.1
  unfold Ab_236_187 at g4
  have g3 := f6.2.1.2
  unfold preb_236 at g3
  have g5 := Option.some.inj f6.2.2
  unfold mub_236_187 at g5
  unfold postb_216 at f11
  unfold postb_216 at f16
  unfold postb_235 at f19
  unfold postb_219 at f41
  unfold Ab_236_12
  unfold mub_236_12
  have e0 : n10 = hV H4 285 55 := (by rw [f4] at f24; exact f24 : n10 = hV H4 285 55)
  have e4 : n12 = hV H1 285 11 := (by rw [f4] at f29; exact f29 : n12 = hV H4 285 11).trans (((f19.1.2.1.1 285 11 kF_235_285_11)).trans (((f16.1.2.1.1 285 11 kF_216_285_11)).trans (f11.1.2.1.1 285 11 kF_216_285_11)))
  have e8 : hV H1 288 = hV H0 288 := fRow f6.1.2.1 288 kR_236_288
  have e9 : n13 = hV H0 288 (n12).toNat := (by rw [f25] at f32; exact f32 : n13 = hV H4 288 (n12).toNat).trans (((congrFun (fRow f19.1.2.1 288 kR_235_288) _)).trans (((congrFun (fRow f16.1.2.1 288 kR_216_288) _)).trans (((congrFun (fRow f11.1.2.1 288 kR_216_288) _)).trans ((congrFun e8 _)))))
  have e11 : n14 = hV H4 285 55 := (by rw [f4] at f36; exact f36 : n14 = hV H5 285 55).trans ((uPlace f33 285 55 (iS (show n9 = ((322 : Nat) : Int) from f20) rfl)))
  have e15 : hV H1 285 35 = hV H0 285 35 := (f6.1.2.1.1 285 35 kF_236_285_35)
  have e16 : hV H2 285 11 = hV H1 285 11 := (f11.1.2.1.1 285 11 kF_216_285_11)
  have e18 : hV H2 285 13 = hV H1 285 13 := (f11.1.2.1.1 285 13 kF_216_285_13)
  have e19 : hV H2 288 = hV H0 288 := (fRow f11.1.2.1 288 kR_216_288).trans e8
  have e20 : hV H3 285 11 = hV H1 285 11 := ((f16.1.2.1.1 285 11 kF_216_285_11)).trans (f11.1.2.1.1 285 11 kF_216_285_11)
  have e22 : hV H3 285 13 = hV H1 285 13 := ((f16.1.2.1.1 285 13 kF_216_285_13)).trans (f11.1.2.1.1 285 13 kF_216_285_13)
  have e25 : hV H3 285 51 = hV H1 285 51 := ((f16.1.2.1.1 285 51 kF_216_285_51)).trans (f11.1.2.1.1 285 51 kF_216_285_51)
  have e28 : hV H3 285 55 = hV H1 285 55 := ((f16.1.2.1.1 285 55 kF_216_285_55)).trans (f11.1.2.1.1 285 55 kF_216_285_55)
  have e29 : hV H3 288 = hV H0 288 := (fRow f16.1.2.1 288 kR_216_288).trans e19
  have e32 : hV H3 320 = hV H1 320 := (fRow f16.1.2.1 320 kR_216_320).trans (fRow f11.1.2.1 320 kR_216_320)
  have e35 : hV H3 321 = hV H1 321 := (fRow f16.1.2.1 321 kR_216_321).trans (fRow f11.1.2.1 321 kR_216_321)
  have e38 : hV H3 322 = hV H1 322 := (fRow f16.1.2.1 322 kR_216_322).trans (fRow f11.1.2.1 322 kR_216_322)
  have e40 : hV H4 322 = hV H1 322 := (fRow f19.1.2.1 322 kR_235_322).trans e38
  have e43 : hV H6 285 11 = hV H1 285 11 := ((uSlot f40 285 11 (iS (show n17 = ((55 : Nat) : Int) from f39) rfl))).trans (((uPlace f33 285 11 (iS (show n9 = ((322 : Nat) : Int) from f20) rfl))).trans (((f19.1.2.1.1 285 11 kF_235_285_11)).trans (((f16.1.2.1.1 285 11 kF_216_285_11)).trans (f11.1.2.1.1 285 11 kF_216_285_11))))
  have e47 : hV H6 285 13 = hV H1 285 13 := ((uSlot f40 285 13 (iS (show n17 = ((55 : Nat) : Int) from f39) rfl))).trans (((uPlace f33 285 13 (iS (show n9 = ((322 : Nat) : Int) from f20) rfl))).trans (((f19.1.2.1.1 285 13 kF_235_285_13)).trans (((f16.1.2.1.1 285 13 kF_216_285_13)).trans (f11.1.2.1.1 285 13 kF_216_285_13))))
  have e54 : hV H7 285 12 = hV H1 285 12 := ((f41.1.2.1.1 285 12 kF_219_285_12)).trans (((uSlot f40 285 12 (iS (show n17 = ((55 : Nat) : Int) from f39) rfl))).trans (((uPlace f33 285 12 (iS (show n9 = ((322 : Nat) : Int) from f20) rfl))).trans (((f19.1.2.1.1 285 12 kF_235_285_12)).trans (((f16.1.2.1.1 285 12 kF_216_285_12)).trans (f11.1.2.1.1 285 12 kF_216_285_12)))))
  have e61 : hV H7 285 35 = hV H0 285 35 := ((f41.1.2.1.1 285 35 kF_219_285_35)).trans (((uSlot f40 285 35 (iS (show n17 = ((55 : Nat) : Int) from f39) rfl))).trans (((uPlace f33 285 35 (iS (show n9 = ((322 : Nat) : Int) from f20) rfl))).trans (((f19.1.2.1.1 285 35 kF_235_285_35)).trans (((f16.1.2.1.1 285 35 kF_216_285_35)).trans (((f11.1.2.1.1 285 35 kF_216_285_35)).trans (f6.1.2.1.1 285 35 kF_236_285_35))))))
  have e65 : hV H7 285 51 = hV H4 285 51 := ((f41.1.2.1.1 285 51 kF_219_285_51)).trans (((uSlot f40 285 51 (iS (show n17 = ((55 : Nat) : Int) from f39) rfl))).trans (uPlace f33 285 51 (iS (show n9 = ((322 : Nat) : Int) from f20) rfl)))
  have e68 : hV H7 285 55 = n16 := ((f41.1.2.1.1 285 55 kF_219_285_55)).trans (uSame f40 285 55 f4.symm f39.symm)
  have e73 : hV H7 320 = hV H4 320 := (fRow f41.1.2.1 320 kR_219_320).trans ((uRowNe f40 320 (iS (show n2 = ((285 : Nat) : Int) from f4) rfl)).trans (uRowNe f33 320 (iS (show n9 = ((322 : Nat) : Int) from f20) rfl)))
  have e78 : hV H7 321 = hV H4 321 := (fRow f41.1.2.1 321 kR_219_321).trans ((uRowNe f40 321 (iS (show n2 = ((285 : Nat) : Int) from f4) rfl)).trans (uRowNe f33 321 (iS (show n9 = ((322 : Nat) : Int) from f20) rfl)))
  have e84 : hV H7 322 = (uF (hV H1 322) n10 n13) := (fRow f41.1.2.1 322 kR_219_322).trans ((uRowNe f40 322 (iS (show n2 = ((285 : Nat) : Int) from f4) rfl)).trans ((uRow f33 322 f20.symm).trans (congrArg (fun z => uF z n10 n13) e40)))
  have e85 : RR H5 = RR H4 := RR_upR f33 (show n9 = ((322 : Nat) : Int) from f20) (by decide)
  have e86 : RR H6 = RR H5 := RR_upF f40 f4 (show n17 = ((55 : Nat) : Int) from f39) (by decide)
  have e87 : RR H6 = RR H4 := e86.trans e85
  have e88 : RR H7 = RR H6 := RR_fr f41.1.2.1 (by decide +kernel)
  have e89 : RR H7 = RR H4 := e88.trans e87
  have e90 : (0 : Int) ≤ hV H1 285 11 ∧ hV H1 285 11 ≤ 500 := f6.1.2.2 285 11 _ _ kW_285_11
  have e91 : (0 : Int) ≤ hV H1 285 12 ∧ hV H1 285 12 ≤ 7 := f6.1.2.2 285 12 _ _ kW_285_12
  have e92 : (0 : Int) ≤ hV H1 285 13 ∧ hV H1 285 13 ≤ 2 := f6.1.2.2 285 13 _ _ kW_285_13
  have e93 : (0 : Int) ≤ hV H0 285 34 ∧ hV H0 285 34 ≤ 1 := bTo ((f6.1.2.1.1 285 34 kF_236_285_34)) (f6.1.2.2 285 34 _ _ kW_285_34)
  have e94 : (0 : Int) ≤ hV H0 285 35 ∧ hV H0 285 35 ≤ 1 := bTo e15 (f6.1.2.2 285 35 _ _ kW_285_35)
  have e95 : (0 : Int) ≤ hV H1 285 51 ∧ hV H1 285 51 ≤ 1200 := f6.1.2.2 285 51 _ _ kW_285_51
  have e96 : (0 : Int) ≤ hV H1 285 55 ∧ hV H1 285 55 ≤ 64 := f6.1.2.2 285 55 _ _ kW_285_55
  have e103 : (0 : Int) ≤ hV H4 285 51 ∧ hV H4 285 51 ≤ 1200 := f19.1.2.2.2 285 51 _ _ kW_285_51
  have e104 : (0 : Int) ≤ hV H4 285 55 ∧ hV H4 285 55 ≤ 64 := f19.1.2.2.2 285 55 _ _ kW_285_55
  have e105 : (0 : Int) ≤ hV H7 285 11 ∧ hV H7 285 11 ≤ 500 := f41.1.2.2.2 285 11 _ _ kW_285_11
  have e107 : (0 : Int) ≤ hV H7 285 13 ∧ hV H7 285 13 ≤ 2 := f41.1.2.2.2 285 13 _ _ kW_285_13
  have e110 : (0 : Int) ≤ hV H7 285 55 ∧ hV H7 285 55 ≤ 64 := f41.1.2.2.2 285 55 _ _ kW_285_55
  try simp only [e68] at e110
  try simp only [e54, e61, e65, e68, e73, e78, e84, e89]
  have y0 := g4.1
  have y1 := g4.2.1
  have y2 := g4.2.2.1
  have y3 := g4.2.2.2.1
  have y4 := g4.2.2.2.2.1
  have y5 := g4.2.2.2.2.2.1
  have y6 := g4.2.2.2.2.2.2.1
  have y7 := g4.2.2.2.2.2.2.2.1
  have y8 := g4.2.2.2.2.2.2.2.2.1
  have y9 := g4.2.2.2.2.2.2.2.2.2.1
  have y10 := g4.2.2.2.2.2.2.2.2.2.2.1
  have y11 := g4.2.2.2.2.2.2.2.2.2.2.2
  have p0 := g3.1
  have p1 := g3.2.1
  have p2 := g3.2.2.1
  have p3 := g3.2.2.2.1
  have p4 := g3.2.2.2.2
  have r0_0 := f11.2.1
  have r0_1 := f11.2.2
  have r1_0 := f16.2.1
  have r1_1 := f16.2.2
  have r2_0 := f19.2.1
  have r2_1 := f19.2.2.1
  have r2_2 := f19.2.2.2.1
  have r2_3 := f19.2.2.2.2.1
  have r2_4 := f19.2.2.2.2.2.1
  have r2_5 := f19.2.2.2.2.2.2
  have r3_0 := f41.2.1
  have r3_1 := f41.2.2.1
  have r3_2 := f41.2.2.2.1
  have r3_3 := f41.2.2.2.2
  try simp only [e15] at y7
  try simp only [e8] at y11
  try simp only [e18] at r0_0
  try simp only [e16, e18, e19] at r0_1
  try simp only [e22] at r1_0
  try simp only [e20, e22, e29] at r1_1
  try simp only [e25, e28, e32, e35, e38, e40] at r2_1
  try simp only [e25, e28] at r2_2
  try simp only [e28] at r2_3
  try simp only [e28, e38, e40] at r2_4
  try simp only [e40] at r2_5
  try simp only [e43] at r3_0
  try simp only [e43] at r3_1
  try simp only [e47] at r3_2
  try simp only [e43] at r3_3
  clear g3
  clear g4
  clear f21 f24 f26 f29 f32 f36 e8 e15 e16 e18 e19 e20 e22 e25 e28 e29 e32 e35 e38 e40 e43 e47 e54 e61 e65 e73 e78 e84 e85 e86 e87 e88 e89
  clear f6 f11 f16 f19 f41
  subst e0
  subst e4
  subst e9
  subst e11
  try have wl := wo_leI (w := hV H1 322) (n := hV H1 285 55) (by omega)
  try have wb := WT_bound y2 (by omega)
  try have wl2 := wo_leI (w := hV H1 322) (n := hV H2 285 55) (by omega)
  try have wl3 := wo_leI (w := hV H1 322) (n := hV H3 285 55) (by omega)
  try have wl4 := wo_leI (w := hV H1 322) (n := hV H4 285 55) (by omega)
  try have wl5 := wo_leI (w := hV H1 322) (n := hV H5 285 55) (by omega)
  try have wl6 := wo_leI (w := hV H1 322) (n := hV H6 285 55) (by omega)
  try have wl7 := wo_leI (w := hV H1 322) (n := hV H7 285 55) (by omega)
  try have wl8 := wo_leI (w := hV H1 322) (n := hV H8 285 55) (by omega)
  try have wl9 := wo_leI (w := hV H1 322) (n := hV H9 285 55) (by omega)
  try have wl10 := wo_leI (w := hV H1 322) (n := hV H10 285 55) (by omega)
  first
  | (have ix0 : n16 = hV H4 285 55 + 1 := Eq.trans f38 (w32_iv (Iad (Iat f23 f22) (IC 1)) (by decide)); subst ix0; clear f38)
  | (have ix0 : n16 = hV H4 285 55 + 1 := Eq.trans f38 (w32_id (by omega) (by omega)); subst ix0; clear f38)
  | (unfold w32 at f38; have ix0 : n16 = hV H4 285 55 + 1 := (by omega); subst ix0)
  | skip
  try unfold w32 at f38

  refine ⟨⟨?_, ?_, ?_, ?_, ?_, ?_, ?_, ?_, ?_, ?_⟩, fun q hq => ?_⟩
  · exact r2_0
  · intro z
    exact CO_trans (y1 (by omega)) rfl (CO_d r2_1 (by first | omega | (rw [wo_push] <;> omega)))
  · first
    | exact WT_push (WT_pop y2 (by assumption)) (by omega) (by omega) (by omega) (.inr (.inl ⟨by omega, by omega⟩))
    | exact WT_push (WT_pop y2 (by assumption)) (by omega) (by omega) (by omega) (.inr (.inr ⟨by omega, by omega, by omega⟩))
    | exact WT_push (WT_pop y2 (by assumption)) (by omega) (by omega) (by omega) (by omega)
  · first | omega | (rw [wo_push] <;> omega)
  · first | omega | (rw [wo_push] <;> omega)
  · first | omega | (rw [wo_push] <;> omega)
  · first | omega | (rw [wo_push] <;> omega)
  · first | omega | (rw [wo_push] <;> omega)
  · first | omega | (rw [wo_push] <;> omega)
  · first | omega | (rw [wo_push] <;> omega)
  · have g6 := Option.some.inj hq
    subst g6
    omega
def g_236_187_9 : vG := ([(1219, [1], [6, 7], 0), (80, [1, 17, 16], [6, 5], 0), (0, [17], [], 55), (1, [16, 14, 15], [], 0), (0, [15], [], 1), (20, [14, 1], [5], 55), (90, [14], [], 0), (91, [14], [], 64), (80, [9, 10, 13], [5, 4], 0), (22, [13, 11, 12], [4], 0), (90, [13], [], 0), (91, [13], [], 53), (20, [12, 1], [4], 11), (90, [12], [], 0), (91, [12], [], 500), (20, [11, 1], [4], 5), (0, [11], [], 288), (20, [10, 1], [4], 55), (90, [10], [], 0), (91, [10], [], 64), (20, [9, 1], [4], 54), (0, [9], [], 322), (1235, [1, 8], [3, 4], 0), (0, [8], [], 0), (30, [7], [], 0), (1216, [7, 1, 6], [2, 3], 0), (90, [7], [], 0), (91, [7], [], 1), (0, [6], [], 15), (30, [5], [], 0), (1216, [5, 1, 4], [1, 2], 0), (90, [5], [], 0), (91, [5], [], 1), (0, [4], [], 10), (31, [3], [], 0), (5000, [0, 1, 2, 3], [0, 1], 187), (0, [0], [], 285), (0, [1], [], 285), (90, [2], [], 0), (91, [2], [], 7), (90, [3], [], 0), (91, [3], [], 1)], (4000, [1, 2, 3], [7], 12))
theorem c_236_187_9 {q0 : Nat} : vOkm T0 (eP e_236 L_236 A_236 mu_236 (some q0)) 1 g_236_187_9 := vOk_inI fun ρ η f0 f1 f2 f3 f4 f5 f6 f7 f8 f9 f10 f11 f12 f13 f14 f15 f16 f17 f18 f19 f20 f21 f22 f23 f24 f25 f26 f27 f28 f29 f30 f31 f32 f33 f34 f35 f36 f37 f38 f39 f40 f41 => q_236_40 (q0 := q0) (n0 := ρ 3) (n1 := ρ 2) (n2 := ρ 1) (n3 := ρ 0) (n4 := ρ 4) (n5 := ρ 5) (n6 := ρ 6) (n7 := ρ 7) (n8 := ρ 8) (n9 := ρ 9) (n10 := ρ 10) (n11 := ρ 11) (n12 := ρ 12) (n13 := ρ 13) (n14 := ρ 14) (n15 := ρ 15) (n16 := ρ 16) (n17 := ρ 17) (H0 := η 0) (H1 := η 1) (H2 := η 2) (H3 := η 3) (H4 := η 4) (H5 := η 5) (H6 := η 6) (H7 := η 7) f41 f40 f39 f38 f37 f36 f35 f34 f33 f32 f31 f30 f29 f28 f27 f26 f25 f24 f23 f22 f21 f20 f19 f18 f17 f16 f15 f14 f13 f12 f11 f10 f9 f8 f7 f6 f5 f4 f3 f2 f1 f0
set_option maxHeartbeats 20000000 in
theorem q_236_41 {q0 : Nat} {n0 n1 n2 n3 n4 n5 n6 n7 n8 : Int} {H0 H1 H2 H3 : gH} (f0 : n0 ≤ 1) (f1 : 0 ≤ n0) (f2 : n1 ≤ 7) (f3 : 0 ≤ n1) (f4 : n2 = 285) (f5 : n3 = 285) (f6 : (hLe T0 H0 H1 ∧ hFr s_236.2.2.2.2 H0 H1 ∧ hWt T0 H1) ∧ (Ab_236_187 n3 n2 n1 n0 H0 H1 ∧ preb_236 n3 H0) ∧ some q0 = some (mub_236_187 n3 n2 n1 n0 H0 H1)) (f7 : n0 ≠ 0) (f8 : n4 = 10) (f9 : n5 ≤ 1) (f10 : 0 ≤ n5) (f11 : (hLe T0 H1 H2 ∧ hFr s_216.2.2.2.2 H1 H2 ∧ ((0 : Int) = 0 → H2.length = H1.length) ∧ hWt T0 H2) ∧ postb_216 n5 n2 n4 H1 H2) (f12 : n5 = 0) (f13 : n6 = 15) (f14 : n7 ≤ 1) (f15 : 0 ≤ n7) (f16 : (hLe T0 H2 H3 ∧ hFr s_216.2.2.2.2 H2 H3 ∧ ((0 : Int) = 0 → H3.length = H2.length) ∧ hWt T0 H3) ∧ postb_216 n7 n2 n6 H2 H3) (f17 : n7 ≠ 0) (f18 : n8 = 1) : preb_235 n2 n8 H3 := by
  have g4 := f6.2.1.1
  unfold Ab_236_187 at g4
  have g3 := f6.2.1.2
  unfold preb_236 at g3
  unfold postb_216 at f11
  unfold postb_216 at f16
  unfold preb_235
  have e3 : hV H1 285 35 = hV H0 285 35 := (f6.1.2.1.1 285 35 kF_236_285_35)
  have e4 : hV H1 288 = hV H0 288 := fRow f6.1.2.1 288 kR_236_288
  have e6 : hV H2 285 11 = hV H1 285 11 := (f11.1.2.1.1 285 11 kF_216_285_11)
  have e8 : hV H2 285 13 = hV H1 285 13 := (f11.1.2.1.1 285 13 kF_216_285_13)
  have e10 : hV H2 288 = hV H0 288 := (fRow f11.1.2.1 288 kR_216_288).trans e4
  have e12 : hV H3 285 11 = hV H1 285 11 := ((f16.1.2.1.1 285 11 kF_216_285_11)).trans (f11.1.2.1.1 285 11 kF_216_285_11)
  have e14 : hV H3 285 13 = hV H1 285 13 := ((f16.1.2.1.1 285 13 kF_216_285_13)).trans (f11.1.2.1.1 285 13 kF_216_285_13)
  have e17 : hV H3 285 34 = hV H0 285 34 := ((f16.1.2.1.1 285 34 kF_216_285_34)).trans (((f11.1.2.1.1 285 34 kF_216_285_34)).trans (f6.1.2.1.1 285 34 kF_236_285_34))
  have e20 : hV H3 285 35 = hV H0 285 35 := ((f16.1.2.1.1 285 35 kF_216_285_35)).trans (((f11.1.2.1.1 285 35 kF_216_285_35)).trans (f6.1.2.1.1 285 35 kF_236_285_35))
  have e23 : hV H3 285 51 = hV H1 285 51 := ((f16.1.2.1.1 285 51 kF_216_285_51)).trans (f11.1.2.1.1 285 51 kF_216_285_51)
  have e26 : hV H3 285 55 = hV H1 285 55 := ((f16.1.2.1.1 285 55 kF_216_285_55)).trans (f11.1.2.1.1 285 55 kF_216_285_55)
  have e28 : hV H3 288 = hV H0 288 := (fRow f16.1.2.1 288 kR_216_288).trans e10
  have e31 : hV H3 322 = hV H1 322 := (fRow f16.1.2.1 322 kR_216_322).trans (fRow f11.1.2.1 322 kR_216_322)
  have e32 : RR H2 = RR H1 := RR_fr f11.1.2.1 (by decide +kernel)
  have e33 : RR H3 = RR H2 := RR_fr f16.1.2.1 (by decide +kernel)
  have e34 : RR H3 = RR H1 := e33.trans e32
  have e35 : (0 : Int) ≤ hV H1 285 11 ∧ hV H1 285 11 ≤ 500 := f6.1.2.2 285 11 _ _ kW_285_11
  have e36 : (0 : Int) ≤ hV H1 285 12 ∧ hV H1 285 12 ≤ 7 := f6.1.2.2 285 12 _ _ kW_285_12
  have e37 : (0 : Int) ≤ hV H1 285 13 ∧ hV H1 285 13 ≤ 2 := f6.1.2.2 285 13 _ _ kW_285_13
  have e38 : (0 : Int) ≤ hV H0 285 34 ∧ hV H0 285 34 ≤ 1 := bTo ((f6.1.2.1.1 285 34 kF_236_285_34)) (f6.1.2.2 285 34 _ _ kW_285_34)
  have e39 : (0 : Int) ≤ hV H0 285 35 ∧ hV H0 285 35 ≤ 1 := bTo e3 (f6.1.2.2 285 35 _ _ kW_285_35)
  have e40 : (0 : Int) ≤ hV H1 285 51 ∧ hV H1 285 51 ≤ 1200 := f6.1.2.2 285 51 _ _ kW_285_51
  have e41 : (0 : Int) ≤ hV H1 285 55 ∧ hV H1 285 55 ≤ 64 := f6.1.2.2 285 55 _ _ kW_285_55
  try simp only [e17, e20, e23, e26, e31, e34]
  have y0 := g4.1
  have y1 := g4.2.1
  have y2 := g4.2.2.1
  have y3 := g4.2.2.2.1
  have y4 := g4.2.2.2.2.1
  have y5 := g4.2.2.2.2.2.1
  have y6 := g4.2.2.2.2.2.2.1
  have y7 := g4.2.2.2.2.2.2.2.1
  have y8 := g4.2.2.2.2.2.2.2.2.1
  have y9 := g4.2.2.2.2.2.2.2.2.2.1
  have y10 := g4.2.2.2.2.2.2.2.2.2.2.1
  have y11 := g4.2.2.2.2.2.2.2.2.2.2.2
  have p0 := g3.1
  have p1 := g3.2.1
  have p2 := g3.2.2.1
  have p3 := g3.2.2.2.1
  have p4 := g3.2.2.2.2
  have r0_0 := f11.2.1
  have r0_1 := f11.2.2
  have r1_0 := f16.2.1
  have r1_1 := f16.2.2.resolve_right (fun z => f17 z.1)
  try simp only [e3] at y7
  try simp only [e4] at y11
  try simp only [e8] at r0_0
  try simp only [e6, e8, e10] at r0_1
  try simp only [e14] at r1_0
  try simp only [e6, e8, e10, e12, e14, e17, e20, e23, e26, e28, e31, e34] at r1_1
  clear g3
  clear g4
  clear e3 e4 e6 e8 e10 e12 e14 e17 e20 e23 e26 e28 e31 e32 e33 e34
  clear f6 f11 f16
  try have wl := wo_leI (w := hV H1 322) (n := hV H1 285 55) (by omega)
  try have wb := WT_bound y2 (by omega)
  try have wl2 := wo_leI (w := hV H1 322) (n := hV H2 285 55) (by omega)
  try have wl3 := wo_leI (w := hV H1 322) (n := hV H3 285 55) (by omega)
  try have wl4 := wo_leI (w := hV H1 322) (n := hV H4 285 55) (by omega)
  try have wl5 := wo_leI (w := hV H1 322) (n := hV H5 285 55) (by omega)
  try have wl6 := wo_leI (w := hV H1 322) (n := hV H6 285 55) (by omega)
  try have wl7 := wo_leI (w := hV H1 322) (n := hV H7 285 55) (by omega)
  try have wl8 := wo_leI (w := hV H1 322) (n := hV H8 285 55) (by omega)
  try have wl9 := wo_leI (w := hV H1 322) (n := hV H9 285 55) (by omega)
  try have wl10 := wo_leI (w := hV H1 322) (n := hV H10 285 55) (by omega)
  subst y3
  refine ⟨?_, ?_, ?_, ?_⟩ <;> first | assumption | omega | trivial
def g_236_187_10 : vG := ([(0, [8], [], 1), (31, [7], [], 0), (1216, [7, 1, 6], [2, 3], 0), (90, [7], [], 0), (91, [7], [], 1), (0, [6], [], 15), (30, [5], [], 0), (1216, [5, 1, 4], [1, 2], 0), (90, [5], [], 0), (91, [5], [], 1), (0, [4], [], 10), (31, [3], [], 0), (5000, [0, 1, 2, 3], [0, 1], 187), (0, [0], [], 285), (0, [1], [], 285), (90, [2], [], 0), (91, [2], [], 7), (90, [3], [], 0), (91, [3], [], 1)], (2235, [1, 8], [3], 0))
theorem c_236_187_10 {q0 : Nat} : vOkm T0 (eP e_236 L_236 A_236 mu_236 (some q0)) 1 g_236_187_10 := vOk_inI fun ρ η f0 f1 f2 f3 f4 f5 f6 f7 f8 f9 f10 f11 f12 f13 f14 f15 f16 f17 f18 => q_236_41 (q0 := q0) (n0 := ρ 3) (n1 := ρ 2) (n2 := ρ 1) (n3 := ρ 0) (n4 := ρ 4) (n5 := ρ 5) (n6 := ρ 6) (n7 := ρ 7) (n8 := ρ 8) (H0 := η 0) (H1 := η 1) (H2 := η 2) (H3 := η 3) f18 f17 f16 f15 f14 f13 f12 f11 f10 f9 f8 f7 f6 f5 f4 f3 f2 f1 f0
set_option maxHeartbeats 20000000 in
theorem q_236_42 {q0 : Nat} {n0 n1 n2 n3 n4 n5 n6 n7 n8 n9 n10 n11 n12 : Int} {H0 H1 H2 H3 H4 : gH} (f0 : n0 ≤ 1) (f1 : 0 ≤ n0) (f2 : n1 ≤ 7) (f3 : 0 ≤ n1) (f4 : n2 = 285) (f5 : n3 = 285) (f6 : (hLe T0 H0 H1 ∧ hFr s_236.2.2.2.2 H0 H1 ∧ hWt T0 H1) ∧ (Ab_236_187 n3 n2 n1 n0 H0 H1 ∧ preb_236 n3 H0) ∧ some q0 = some (mub_236_187 n3 n2 n1 n0 H0 H1)) (f7 : n0 ≠ 0) (f8 : n4 = 10) (f9 : n5 ≤ 1) (f10 : 0 ≤ n5) (f11 : (hLe T0 H1 H2 ∧ hFr s_216.2.2.2.2 H1 H2 ∧ ((0 : Int) = 0 → H2.length = H1.length) ∧ hWt T0 H2) ∧ postb_216 n5 n2 n4 H1 H2) (f12 : n5 = 0) (f13 : n6 = 15) (f14 : n7 ≤ 1) (f15 : 0 ≤ n7) (f16 : (hLe T0 H2 H3 ∧ hFr s_216.2.2.2.2 H2 H3 ∧ ((0 : Int) = 0 → H3.length = H2.length) ∧ hWt T0 H3) ∧ postb_216 n7 n2 n6 H2 H3) (f17 : n7 ≠ 0) (f18 : n8 = 1) (f19 : (hLe T0 H3 H4 ∧ hFr s_235.2.2.2.2 H3 H4 ∧ ((0 : Int) = 0 → H4.length = H3.length) ∧ hWt T0 H4) ∧ postb_235 n2 n8 H3 H4) (f20 : n9 ≤ 64) (f21 : 0 ≤ n9) (f22 : n9 = hV H4 (n2).toNat 55) (f23 : n10 = 288) (f24 : n10 = hV H4 (n2).toNat 5) (f25 : n11 ≤ 500) (f26 : 0 ≤ n11) (f27 : n11 = hV H4 (n2).toNat 11) (f28 : n12 ≤ 53) (f29 : 0 ≤ n12) (f30 : n12 = hV H4 (n10).toNat (n11).toNat) : 0 ≤ n9 ∧ n9 < 64 := by
  have g4 := f6.2.1.1
  unfold Ab_236_187 at g4
  have g3 := f6.2.1.2
  unfold preb_236 at g3
  unfold postb_216 at f11
  unfold postb_216 at f16
  unfold postb_235 at f19
  have e0 : n9 = hV H4 285 55 := (by rw [f4] at f22; exact f22 : n9 = hV H4 285 55)
  have e4 : n11 = hV H1 285 11 := (by rw [f4] at f27; exact f27 : n11 = hV H4 285 11).trans (((f19.1.2.1.1 285 11 kF_235_285_11)).trans (((f16.1.2.1.1 285 11 kF_216_285_11)).trans (f11.1.2.1.1 285 11 kF_216_285_11)))
  have e8 : hV H1 288 = hV H0 288 := fRow f6.1.2.1 288 kR_236_288
  have e9 : n12 = hV H0 288 (n11).toNat := (by rw [f23] at f30; exact f30 : n12 = hV H4 288 (n11).toNat).trans (((congrFun (fRow f19.1.2.1 288 kR_235_288) _)).trans (((congrFun (fRow f16.1.2.1 288 kR_216_288) _)).trans (((congrFun (fRow f11.1.2.1 288 kR_216_288) _)).trans ((congrFun e8 _)))))
  have e13 : hV H1 285 35 = hV H0 285 35 := (f6.1.2.1.1 285 35 kF_236_285_35)
  have e14 : hV H2 285 11 = hV H1 285 11 := (f11.1.2.1.1 285 11 kF_216_285_11)
  have e16 : hV H2 285 13 = hV H1 285 13 := (f11.1.2.1.1 285 13 kF_216_285_13)
  have e17 : hV H2 288 = hV H0 288 := (fRow f11.1.2.1 288 kR_216_288).trans e8
  have e18 : hV H3 285 11 = hV H1 285 11 := ((f16.1.2.1.1 285 11 kF_216_285_11)).trans (f11.1.2.1.1 285 11 kF_216_285_11)
  have e20 : hV H3 285 13 = hV H1 285 13 := ((f16.1.2.1.1 285 13 kF_216_285_13)).trans (f11.1.2.1.1 285 13 kF_216_285_13)
  have e23 : hV H3 285 51 = hV H1 285 51 := ((f16.1.2.1.1 285 51 kF_216_285_51)).trans (f11.1.2.1.1 285 51 kF_216_285_51)
  have e26 : hV H3 285 55 = hV H1 285 55 := ((f16.1.2.1.1 285 55 kF_216_285_55)).trans (f11.1.2.1.1 285 55 kF_216_285_55)
  have e27 : hV H3 288 = hV H0 288 := (fRow f16.1.2.1 288 kR_216_288).trans e17
  have e30 : hV H3 320 = hV H1 320 := (fRow f16.1.2.1 320 kR_216_320).trans (fRow f11.1.2.1 320 kR_216_320)
  have e33 : hV H3 321 = hV H1 321 := (fRow f16.1.2.1 321 kR_216_321).trans (fRow f11.1.2.1 321 kR_216_321)
  have e36 : hV H3 322 = hV H1 322 := (fRow f16.1.2.1 322 kR_216_322).trans (fRow f11.1.2.1 322 kR_216_322)
  have e38 : hV H4 322 = hV H1 322 := (fRow f19.1.2.1 322 kR_235_322).trans e36
  have e39 : (0 : Int) ≤ hV H1 285 11 ∧ hV H1 285 11 ≤ 500 := f6.1.2.2 285 11 _ _ kW_285_11
  have e40 : (0 : Int) ≤ hV H1 285 12 ∧ hV H1 285 12 ≤ 7 := f6.1.2.2 285 12 _ _ kW_285_12
  have e41 : (0 : Int) ≤ hV H1 285 13 ∧ hV H1 285 13 ≤ 2 := f6.1.2.2 285 13 _ _ kW_285_13
  have e42 : (0 : Int) ≤ hV H0 285 34 ∧ hV H0 285 34 ≤ 1 := bTo ((f6.1.2.1.1 285 34 kF_236_285_34)) (f6.1.2.2 285 34 _ _ kW_285_34)
  have e43 : (0 : Int) ≤ hV H0 285 35 ∧ hV H0 285 35 ≤ 1 := bTo e13 (f6.1.2.2 285 35 _ _ kW_285_35)
  have e44 : (0 : Int) ≤ hV H1 285 51 ∧ hV H1 285 51 ≤ 1200 := f6.1.2.2 285 51 _ _ kW_285_51
  have e45 : (0 : Int) ≤ hV H1 285 55 ∧ hV H1 285 55 ≤ 64 := f6.1.2.2 285 55 _ _ kW_285_55
  have e52 : (0 : Int) ≤ hV H4 285 51 ∧ hV H4 285 51 ≤ 1200 := f19.1.2.2.2 285 51 _ _ kW_285_51
  have e53 : (0 : Int) ≤ hV H4 285 55 ∧ hV H4 285 55 ≤ 64 := f19.1.2.2.2 285 55 _ _ kW_285_55
  have y0 := g4.1
  have y1 := g4.2.1
  have y2 := g4.2.2.1
  have y3 := g4.2.2.2.1
  have y4 := g4.2.2.2.2.1
  have y5 := g4.2.2.2.2.2.1
  have y6 := g4.2.2.2.2.2.2.1
  have y7 := g4.2.2.2.2.2.2.2.1
  have y8 := g4.2.2.2.2.2.2.2.2.1
  have y9 := g4.2.2.2.2.2.2.2.2.2.1
  have y10 := g4.2.2.2.2.2.2.2.2.2.2.1
  have y11 := g4.2.2.2.2.2.2.2.2.2.2.2
  have p0 := g3.1
  have p1 := g3.2.1
  have p2 := g3.2.2.1
  have p3 := g3.2.2.2.1
  have p4 := g3.2.2.2.2
  have r0_0 := f11.2.1
  have r0_1 := f11.2.2
  have r1_0 := f16.2.1
  have r1_1 := f16.2.2.resolve_right (fun z => f17 z.1)
  have r2_0 := f19.2.1
  have r2_1 := f19.2.2.1
  have r2_2 := f19.2.2.2.1
  have r2_3 := f19.2.2.2.2.1
  have r2_4 := f19.2.2.2.2.2.1
  have r2_5 := f19.2.2.2.2.2.2
  try simp only [e13] at y7
  try simp only [e8] at y11
  try simp only [e16] at r0_0
  try simp only [e14, e16, e17] at r0_1
  try simp only [e20] at r1_0
  try simp only [e14, e16, e17, e18, e20, e23, e26, e27, e30, e33, e36] at r1_1
  try simp only [e23, e26, e30, e33, e36, e38] at r2_1
  try simp only [e23, e26] at r2_2
  try simp only [e26] at r2_3
  try simp only [e26, e36, e38] at r2_4
  try simp only [e38] at r2_5
  clear g3
  clear g4
  clear f22 f24 f27 f30 e8 e13 e14 e16 e17 e18 e20 e23 e26 e27 e30 e33 e36 e38
  clear f6 f11 f16 f19
  subst e0
  subst e4
  subst e9
  try have wl := wo_leI (w := hV H1 322) (n := hV H1 285 55) (by omega)
  try have wb := WT_bound y2 (by omega)
  try have wl2 := wo_leI (w := hV H1 322) (n := hV H2 285 55) (by omega)
  try have wl3 := wo_leI (w := hV H1 322) (n := hV H3 285 55) (by omega)
  try have wl4 := wo_leI (w := hV H1 322) (n := hV H4 285 55) (by omega)
  try have wl5 := wo_leI (w := hV H1 322) (n := hV H5 285 55) (by omega)
  try have wl6 := wo_leI (w := hV H1 322) (n := hV H6 285 55) (by omega)
  try have wl7 := wo_leI (w := hV H1 322) (n := hV H7 285 55) (by omega)
  try have wl8 := wo_leI (w := hV H1 322) (n := hV H8 285 55) (by omega)
  try have wl9 := wo_leI (w := hV H1 322) (n := hV H9 285 55) (by omega)
  try have wl10 := wo_leI (w := hV H1 322) (n := hV H10 285 55) (by omega)
  subst y3
  omega
def g_236_187_11 : vG := ([(22, [13, 11, 12], [4], 0), (90, [13], [], 0), (91, [13], [], 53), (20, [12, 1], [4], 11), (90, [12], [], 0), (91, [12], [], 500), (20, [11, 1], [4], 5), (0, [11], [], 288), (20, [10, 1], [4], 55), (90, [10], [], 0), (91, [10], [], 64), (1235, [1, 8], [3, 4], 0), (0, [8], [], 1), (31, [7], [], 0), (1216, [7, 1, 6], [2, 3], 0), (90, [7], [], 0), (91, [7], [], 1), (0, [6], [], 15), (30, [5], [], 0), (1216, [5, 1, 4], [1, 2], 0), (90, [5], [], 0), (91, [5], [], 1), (0, [4], [], 10), (31, [3], [], 0), (5000, [0, 1, 2, 3], [0, 1], 187), (0, [0], [], 285), (0, [1], [], 285), (90, [2], [], 0), (91, [2], [], 7), (90, [3], [], 0), (91, [3], [], 1)], (70, [10], [], 64))
theorem c_236_187_11 {q0 : Nat} : vOkm T0 (eP e_236 L_236 A_236 mu_236 (some q0)) 1 g_236_187_11 := vOk_inI fun ρ η f0 f1 f2 f3 f4 f5 f6 f7 f8 f9 f10 f11 f12 f13 f14 f15 f16 f17 f18 f19 f20 f21 f22 f23 f24 f25 f26 f27 f28 f29 f30 => q_236_42 (q0 := q0) (n0 := ρ 3) (n1 := ρ 2) (n2 := ρ 1) (n3 := ρ 0) (n4 := ρ 4) (n5 := ρ 5) (n6 := ρ 6) (n7 := ρ 7) (n8 := ρ 8) (n9 := ρ 10) (n10 := ρ 11) (n11 := ρ 12) (n12 := ρ 13) (H0 := η 0) (H1 := η 1) (H2 := η 2) (H3 := η 3) (H4 := η 4) f30 f29 f28 f27 f26 f25 f24 f23 f22 f21 f20 f19 f18 f17 f16 f15 f14 f13 f12 f11 f10 f9 f8 f7 f6 f5 f4 f3 f2 f1 f0
def g_236_187_12 : vG := ([(1, [16, 14, 15], [], 0), (0, [15], [], 1), (90, [14], [], 0), (91, [14], [], 64)], (90, [16], [], 0))
theorem c_236_187_12 {q0 : Nat} : vOkm T0 (eP e_236 L_236 A_236 mu_236 (some q0)) 1 g_236_187_12 := vOk_inI fun ρ η f0 f1 f2 f3 => q_236_10 (q0 := q0) (n0 := ρ 14) (n1 := ρ 15) (n2 := ρ 16) (H0 := η 0) f3 f2 f1 f0
set_option maxHeartbeats 20000000 in
theorem q_236_43 {q0 : Nat} {n0 n1 n2 n3 n4 n5 n6 n7 n8 n9 n10 n11 n12 n13 n14 n15 n16 : Int} {H0 H1 H2 H3 H4 H5 : gH} (f0 : n0 ≤ 1) (f1 : 0 ≤ n0) (f2 : n1 ≤ 7) (f3 : 0 ≤ n1) (f4 : n2 = 285) (f5 : n3 = 285) (f6 : (hLe T0 H0 H1 ∧ hFr s_236.2.2.2.2 H0 H1 ∧ hWt T0 H1) ∧ (Ab_236_187 n3 n2 n1 n0 H0 H1 ∧ preb_236 n3 H0) ∧ some q0 = some (mub_236_187 n3 n2 n1 n0 H0 H1)) (f7 : n0 ≠ 0) (f8 : n4 = 10) (f9 : n5 ≤ 1) (f10 : 0 ≤ n5) (f11 : (hLe T0 H1 H2 ∧ hFr s_216.2.2.2.2 H1 H2 ∧ ((0 : Int) = 0 → H2.length = H1.length) ∧ hWt T0 H2) ∧ postb_216 n5 n2 n4 H1 H2) (f12 : n5 = 0) (f13 : n6 = 15) (f14 : n7 ≤ 1) (f15 : 0 ≤ n7) (f16 : (hLe T0 H2 H3 ∧ hFr s_216.2.2.2.2 H2 H3 ∧ ((0 : Int) = 0 → H3.length = H2.length) ∧ hWt T0 H3) ∧ postb_216 n7 n2 n6 H2 H3) (f17 : n7 ≠ 0) (f18 : n8 = 1) (f19 : (hLe T0 H3 H4 ∧ hFr s_235.2.2.2.2 H3 H4 ∧ ((0 : Int) = 0 → H4.length = H3.length) ∧ hWt T0 H4) ∧ postb_235 n2 n8 H3 H4) (f20 : n9 = 322) (f21 : n9 = hV H4 (n2).toNat 54) (f22 : n10 ≤ 64) (f23 : 0 ≤ n10) (f24 : n10 = hV H4 (n2).toNat 55) (f25 : n11 = 288) (f26 : n11 = hV H4 (n2).toNat 5) (f27 : n12 ≤ 500) (f28 : 0 ≤ n12) (f29 : n12 = hV H4 (n2).toNat 11) (f30 : n13 ≤ 53) (f31 : 0 ≤ n13) (f32 : n13 = hV H4 (n11).toNat (n12).toNat) (f33 : hUpd H5 H4 n9 n10 n13) (f34 : n14 ≤ 64) (f35 : 0 ≤ n14) (f36 : n14 = hV H5 (n2).toNat 55) (f37 : n15 = 1) (f38 : n16 = w32 (n14 + n15)) : n16 ≤ 64 := by
  have g4 := f6.2.1.1
  unfold Ab_236_187 at g4
  have g3 := f6.2.1.2
  unfold preb_236 at g3
  unfold postb_216 at f11
  unfold postb_216 at f16
  unfold postb_235 at f19
  have e0 : n10 = hV H4 285 55 := (by rw [f4] at f24; exact f24 : n10 = hV H4 285 55)
  have e4 : n12 = hV H1 285 11 := (by rw [f4] at f29; exact f29 : n12 = hV H4 285 11).trans (((f19.1.2.1.1 285 11 kF_235_285_11)).trans (((f16.1.2.1.1 285 11 kF_216_285_11)).trans (f11.1.2.1.1 285 11 kF_216_285_11)))
  have e8 : hV H1 288 = hV H0 288 := fRow f6.1.2.1 288 kR_236_288
  have e9 : n13 = hV H0 288 (n12).toNat := (by rw [f25] at f32; exact f32 : n13 = hV H4 288 (n12).toNat).trans (((congrFun (fRow f19.1.2.1 288 kR_235_288) _)).trans (((congrFun (fRow f16.1.2.1 288 kR_216_288) _)).trans (((congrFun (fRow f11.1.2.1 288 kR_216_288) _)).trans ((congrFun e8 _)))))
  have e11 : n14 = hV H4 285 55 := (by rw [f4] at f36; exact f36 : n14 = hV H5 285 55).trans ((uPlace f33 285 55 (iS (show n9 = ((322 : Nat) : Int) from f20) rfl)))
  have e15 : hV H1 285 35 = hV H0 285 35 := (f6.1.2.1.1 285 35 kF_236_285_35)
  have e16 : hV H2 285 11 = hV H1 285 11 := (f11.1.2.1.1 285 11 kF_216_285_11)
  have e18 : hV H2 285 13 = hV H1 285 13 := (f11.1.2.1.1 285 13 kF_216_285_13)
  have e19 : hV H2 288 = hV H0 288 := (fRow f11.1.2.1 288 kR_216_288).trans e8
  have e20 : hV H3 285 11 = hV H1 285 11 := ((f16.1.2.1.1 285 11 kF_216_285_11)).trans (f11.1.2.1.1 285 11 kF_216_285_11)
  have e22 : hV H3 285 13 = hV H1 285 13 := ((f16.1.2.1.1 285 13 kF_216_285_13)).trans (f11.1.2.1.1 285 13 kF_216_285_13)
  have e25 : hV H3 285 51 = hV H1 285 51 := ((f16.1.2.1.1 285 51 kF_216_285_51)).trans (f11.1.2.1.1 285 51 kF_216_285_51)
  have e28 : hV H3 285 55 = hV H1 285 55 := ((f16.1.2.1.1 285 55 kF_216_285_55)).trans (f11.1.2.1.1 285 55 kF_216_285_55)
  have e29 : hV H3 288 = hV H0 288 := (fRow f16.1.2.1 288 kR_216_288).trans e19
  have e32 : hV H3 320 = hV H1 320 := (fRow f16.1.2.1 320 kR_216_320).trans (fRow f11.1.2.1 320 kR_216_320)
  have e35 : hV H3 321 = hV H1 321 := (fRow f16.1.2.1 321 kR_216_321).trans (fRow f11.1.2.1 321 kR_216_321)
  have e38 : hV H3 322 = hV H1 322 := (fRow f16.1.2.1 322 kR_216_322).trans (fRow f11.1.2.1 322 kR_216_322)
  have e40 : hV H4 322 = hV H1 322 := (fRow f19.1.2.1 322 kR_235_322).trans e38
  have e41 : (0 : Int) ≤ hV H1 285 11 ∧ hV H1 285 11 ≤ 500 := f6.1.2.2 285 11 _ _ kW_285_11
  have e42 : (0 : Int) ≤ hV H1 285 12 ∧ hV H1 285 12 ≤ 7 := f6.1.2.2 285 12 _ _ kW_285_12
  have e43 : (0 : Int) ≤ hV H1 285 13 ∧ hV H1 285 13 ≤ 2 := f6.1.2.2 285 13 _ _ kW_285_13
  have e44 : (0 : Int) ≤ hV H0 285 34 ∧ hV H0 285 34 ≤ 1 := bTo ((f6.1.2.1.1 285 34 kF_236_285_34)) (f6.1.2.2 285 34 _ _ kW_285_34)
  have e45 : (0 : Int) ≤ hV H0 285 35 ∧ hV H0 285 35 ≤ 1 := bTo e15 (f6.1.2.2 285 35 _ _ kW_285_35)
  have e46 : (0 : Int) ≤ hV H1 285 51 ∧ hV H1 285 51 ≤ 1200 := f6.1.2.2 285 51 _ _ kW_285_51
  have e47 : (0 : Int) ≤ hV H1 285 55 ∧ hV H1 285 55 ≤ 64 := f6.1.2.2 285 55 _ _ kW_285_55
  have e54 : (0 : Int) ≤ hV H4 285 51 ∧ hV H4 285 51 ≤ 1200 := f19.1.2.2.2 285 51 _ _ kW_285_51
  have e55 : (0 : Int) ≤ hV H4 285 55 ∧ hV H4 285 55 ≤ 64 := f19.1.2.2.2 285 55 _ _ kW_285_55
  have y0 := g4.1
  have y1 := g4.2.1
  have y2 := g4.2.2.1
  have y3 := g4.2.2.2.1
  have y4 := g4.2.2.2.2.1
  have y5 := g4.2.2.2.2.2.1
  have y6 := g4.2.2.2.2.2.2.1
  have y7 := g4.2.2.2.2.2.2.2.1
  have y8 := g4.2.2.2.2.2.2.2.2.1
  have y9 := g4.2.2.2.2.2.2.2.2.2.1
  have y10 := g4.2.2.2.2.2.2.2.2.2.2.1
  have y11 := g4.2.2.2.2.2.2.2.2.2.2.2
  have p0 := g3.1
  have p1 := g3.2.1
  have p2 := g3.2.2.1
  have p3 := g3.2.2.2.1
  have p4 := g3.2.2.2.2
  have r0_0 := f11.2.1
  have r0_1 := f11.2.2
  have r1_0 := f16.2.1
  have r1_1 := f16.2.2.resolve_right (fun z => f17 z.1)
  have r2_0 := f19.2.1
  have r2_1 := f19.2.2.1
  have r2_2 := f19.2.2.2.1
  have r2_3 := f19.2.2.2.2.1
  have r2_4 := f19.2.2.2.2.2.1
  have r2_5 := f19.2.2.2.2.2.2
  try simp only [e15] at y7
  try simp only [e8] at y11
  try simp only [e18] at r0_0
  try simp only [e16, e18, e19] at r0_1
  try simp only [e22] at r1_0
  try simp only [e16, e18, e19, e20, e22, e25, e28, e29, e32, e35, e38] at r1_1
  try simp only [e25, e28, e32, e35, e38, e40] at r2_1
  try simp only [e25, e28] at r2_2
  try simp only [e28] at r2_3
  try simp only [e28, e38, e40] at r2_4
  try simp only [e40] at r2_5
  clear g3
  clear g4
  clear f21 f24 f26 f29 f32 f36 e8 e15 e16 e18 e19 e20 e22 e25 e28 e29 e32 e35 e38 e40
  clear f6 f11 f16 f19
  subst e0
  subst e4
  subst e9
  subst e11
  try have wl := wo_leI (w := hV H1 322) (n := hV H1 285 55) (by omega)
  try have wb := WT_bound y2 (by omega)
  try have wl2 := wo_leI (w := hV H1 322) (n := hV H2 285 55) (by omega)
  try have wl3 := wo_leI (w := hV H1 322) (n := hV H3 285 55) (by omega)
  try have wl4 := wo_leI (w := hV H1 322) (n := hV H4 285 55) (by omega)
  try have wl5 := wo_leI (w := hV H1 322) (n := hV H5 285 55) (by omega)
  try have wl6 := wo_leI (w := hV H1 322) (n := hV H6 285 55) (by omega)
  try have wl7 := wo_leI (w := hV H1 322) (n := hV H7 285 55) (by omega)
  try have wl8 := wo_leI (w := hV H1 322) (n := hV H8 285 55) (by omega)
  try have wl9 := wo_leI (w := hV H1 322) (n := hV H9 285 55) (by omega)
  try have wl10 := wo_leI (w := hV H1 322) (n := hV H10 285 55) (by omega)
  first
  | (have ix0 : n16 = hV H4 285 55 + 1 := Eq.trans f38 (w32_iv (Iad (Iat f23 f22) (IC 1)) (by decide)); subst ix0; clear f38)
  | (have ix0 : n16 = hV H4 285 55 + 1 := Eq.trans f38 (w32_id (by omega) (by omega)); subst ix0; clear f38)
  | (unfold w32 at f38; have ix0 : n16 = hV H4 285 55 + 1 := (by omega); subst ix0)
  | skip
  try unfold w32 at f38
  subst y3
  omega
def g_236_187_13 : vG := ([(1, [16, 14, 15], [], 0), (0, [15], [], 1), (20, [14, 1], [5], 55), (90, [14], [], 0), (91, [14], [], 64), (80, [9, 10, 13], [5, 4], 0), (22, [13, 11, 12], [4], 0), (90, [13], [], 0), (91, [13], [], 53), (20, [12, 1], [4], 11), (90, [12], [], 0), (91, [12], [], 500), (20, [11, 1], [4], 5), (0, [11], [], 288), (20, [10, 1], [4], 55), (90, [10], [], 0), (91, [10], [], 64), (20, [9, 1], [4], 54), (0, [9], [], 322), (1235, [1, 8], [3, 4], 0), (0, [8], [], 1), (31, [7], [], 0), (1216, [7, 1, 6], [2, 3], 0), (90, [7], [], 0), (91, [7], [], 1), (0, [6], [], 15), (30, [5], [], 0), (1216, [5, 1, 4], [1, 2], 0), (90, [5], [], 0), (91, [5], [], 1), (0, [4], [], 10), (31, [3], [], 0), (5000, [0, 1, 2, 3], [0, 1], 187), (0, [0], [], 285), (0, [1], [], 285), (90, [2], [], 0), (91, [2], [], 7), (90, [3], [], 0), (91, [3], [], 1)], (91, [16], [], 64))
theorem c_236_187_13 {q0 : Nat} : vOkm T0 (eP e_236 L_236 A_236 mu_236 (some q0)) 1 g_236_187_13 := vOk_inI fun ρ η f0 f1 f2 f3 f4 f5 f6 f7 f8 f9 f10 f11 f12 f13 f14 f15 f16 f17 f18 f19 f20 f21 f22 f23 f24 f25 f26 f27 f28 f29 f30 f31 f32 f33 f34 f35 f36 f37 f38 => q_236_43 (q0 := q0) (n0 := ρ 3) (n1 := ρ 2) (n2 := ρ 1) (n3 := ρ 0) (n4 := ρ 4) (n5 := ρ 5) (n6 := ρ 6) (n7 := ρ 7) (n8 := ρ 8) (n9 := ρ 9) (n10 := ρ 10) (n11 := ρ 11) (n12 := ρ 12) (n13 := ρ 13) (n14 := ρ 14) (n15 := ρ 15) (n16 := ρ 16) (H0 := η 0) (H1 := η 1) (H2 := η 2) (H3 := η 3) (H4 := η 4) (H5 := η 5) f38 f37 f36 f35 f34 f33 f32 f31 f30 f29 f28 f27 f26 f25 f24 f23 f22 f21 f20 f19 f18 f17 f16 f15 f14 f13 f12 f11 f10 f9 f8 f7 f6 f5 f4 f3 f2 f1 f0
set_option maxHeartbeats 20000000 in
theorem q_236_44 {q0 : Nat} {n0 n1 n2 n3 n4 n5 n6 n7 n8 n9 n10 n11 n12 n13 n14 n15 n16 n17 : Int} {H0 H1 H2 H3 H4 H5 H6 H7 : gH} (f0 : n0 ≤ 1) (f1 : 0 ≤ n0) (f2 : n1 ≤ 7) (f3 : 0 ≤ n1) (f4 : n2 = 285) (f5 : n3 = 285) (f6 : (hLe T0 H0 H1 ∧ hFr s_236.2.2.2.2 H0 H1 ∧ hWt T0 H1) ∧ (Ab_236_187 n3 n2 n1 n0 H0 H1 ∧ preb_236 n3 H0) ∧ some q0 = some (mub_236_187 n3 n2 n1 n0 H0 H1)) (f7 : n0 ≠ 0) (f8 : n4 = 10) (f9 : n5 ≤ 1) (f10 : 0 ≤ n5) (f11 : (hLe T0 H1 H2 ∧ hFr s_216.2.2.2.2 H1 H2 ∧ ((0 : Int) = 0 → H2.length = H1.length) ∧ hWt T0 H2) ∧ postb_216 n5 n2 n4 H1 H2) (f12 : n5 = 0) (f13 : n6 = 15) (f14 : n7 ≤ 1) (f15 : 0 ≤ n7) (f16 : (hLe T0 H2 H3 ∧ hFr s_216.2.2.2.2 H2 H3 ∧ ((0 : Int) = 0 → H3.length = H2.length) ∧ hWt T0 H3) ∧ postb_216 n7 n2 n6 H2 H3) (f17 : n7 ≠ 0) (f18 : n8 = 1) (f19 : (hLe T0 H3 H4 ∧ hFr s_235.2.2.2.2 H3 H4 ∧ ((0 : Int) = 0 → H4.length = H3.length) ∧ hWt T0 H4) ∧ postb_235 n2 n8 H3 H4) (f20 : n9 = 322) (f21 : n9 = hV H4 (n2).toNat 54) (f22 : n10 ≤ 64) (f23 : 0 ≤ n10) (f24 : n10 = hV H4 (n2).toNat 55) (f25 : n11 = 288) (f26 : n11 = hV H4 (n2).toNat 5) (f27 : n12 ≤ 500) (f28 : 0 ≤ n12) (f29 : n12 = hV H4 (n2).toNat 11) (f30 : n13 ≤ 53) (f31 : 0 ≤ n13) (f32 : n13 = hV H4 (n11).toNat (n12).toNat) (f33 : hUpd H5 H4 n9 n10 n13) (f34 : n14 ≤ 64) (f35 : 0 ≤ n14) (f36 : n14 = hV H5 (n2).toNat 55) (f37 : n15 = 1) (f38 : n16 = w32 (n14 + n15)) (f39 : n17 = 55) (f40 : hUpd H6 H5 n2 n17 n16) (f41 : (hLe T0 H6 H7 ∧ hFr s_219.2.2.2.2 H6 H7 ∧ ((0 : Int) = 0 → H7.length = H6.length) ∧ hWt T0 H7) ∧ postb_219 n2 H6 H7) : Ab_236_12 n3 n2 n1 n0 H0 H7 ∧ ∀ q, some q0 = some q → mub_236_12 n3 n2 n1 n0 H0 H7 < q := by
  have g4 := f6.2.1.1
  unfold Ab_236_187 at g4
  have g3 := f6.2.1.2
  unfold preb_236 at g3
  have g5 := Option.some.inj f6.2.2
  unfold mub_236_187 at g5
  unfold postb_216 at f11
  unfold postb_216 at f16
  unfold postb_235 at f19
  unfold postb_219 at f41
  unfold Ab_236_12
  unfold mub_236_12
  have e0 : n10 = hV H4 285 55 := (by rw [f4] at f24; exact f24 : n10 = hV H4 285 55)
  have e4 : n12 = hV H1 285 11 := (by rw [f4] at f29; exact f29 : n12 = hV H4 285 11).trans (((f19.1.2.1.1 285 11 kF_235_285_11)).trans (((f16.1.2.1.1 285 11 kF_216_285_11)).trans (f11.1.2.1.1 285 11 kF_216_285_11)))
  have e8 : hV H1 288 = hV H0 288 := fRow f6.1.2.1 288 kR_236_288
  have e9 : n13 = hV H0 288 (n12).toNat := (by rw [f25] at f32; exact f32 : n13 = hV H4 288 (n12).toNat).trans (((congrFun (fRow f19.1.2.1 288 kR_235_288) _)).trans (((congrFun (fRow f16.1.2.1 288 kR_216_288) _)).trans (((congrFun (fRow f11.1.2.1 288 kR_216_288) _)).trans ((congrFun e8 _)))))
  have e11 : n14 = hV H4 285 55 := (by rw [f4] at f36; exact f36 : n14 = hV H5 285 55).trans ((uPlace f33 285 55 (iS (show n9 = ((322 : Nat) : Int) from f20) rfl)))
  have e15 : hV H1 285 35 = hV H0 285 35 := (f6.1.2.1.1 285 35 kF_236_285_35)
  have e16 : hV H2 285 11 = hV H1 285 11 := (f11.1.2.1.1 285 11 kF_216_285_11)
  have e18 : hV H2 285 13 = hV H1 285 13 := (f11.1.2.1.1 285 13 kF_216_285_13)
  have e19 : hV H2 288 = hV H0 288 := (fRow f11.1.2.1 288 kR_216_288).trans e8
  have e20 : hV H3 285 11 = hV H1 285 11 := ((f16.1.2.1.1 285 11 kF_216_285_11)).trans (f11.1.2.1.1 285 11 kF_216_285_11)
  have e22 : hV H3 285 13 = hV H1 285 13 := ((f16.1.2.1.1 285 13 kF_216_285_13)).trans (f11.1.2.1.1 285 13 kF_216_285_13)
  have e25 : hV H3 285 51 = hV H1 285 51 := ((f16.1.2.1.1 285 51 kF_216_285_51)).trans (f11.1.2.1.1 285 51 kF_216_285_51)
  have e28 : hV H3 285 55 = hV H1 285 55 := ((f16.1.2.1.1 285 55 kF_216_285_55)).trans (f11.1.2.1.1 285 55 kF_216_285_55)
  have e29 : hV H3 288 = hV H0 288 := (fRow f16.1.2.1 288 kR_216_288).trans e19
  have e32 : hV H3 320 = hV H1 320 := (fRow f16.1.2.1 320 kR_216_320).trans (fRow f11.1.2.1 320 kR_216_320)
  have e35 : hV H3 321 = hV H1 321 := (fRow f16.1.2.1 321 kR_216_321).trans (fRow f11.1.2.1 321 kR_216_321)
  have e38 : hV H3 322 = hV H1 322 := (fRow f16.1.2.1 322 kR_216_322).trans (fRow f11.1.2.1 322 kR_216_322)
  have e40 : hV H4 322 = hV H1 322 := (fRow f19.1.2.1 322 kR_235_322).trans e38
  have e43 : hV H6 285 11 = hV H1 285 11 := ((uSlot f40 285 11 (iS (show n17 = ((55 : Nat) : Int) from f39) rfl))).trans (((uPlace f33 285 11 (iS (show n9 = ((322 : Nat) : Int) from f20) rfl))).trans (((f19.1.2.1.1 285 11 kF_235_285_11)).trans (((f16.1.2.1.1 285 11 kF_216_285_11)).trans (f11.1.2.1.1 285 11 kF_216_285_11))))
  have e47 : hV H6 285 13 = hV H1 285 13 := ((uSlot f40 285 13 (iS (show n17 = ((55 : Nat) : Int) from f39) rfl))).trans (((uPlace f33 285 13 (iS (show n9 = ((322 : Nat) : Int) from f20) rfl))).trans (((f19.1.2.1.1 285 13 kF_235_285_13)).trans (((f16.1.2.1.1 285 13 kF_216_285_13)).trans (f11.1.2.1.1 285 13 kF_216_285_13))))
  have e54 : hV H7 285 12 = hV H1 285 12 := ((f41.1.2.1.1 285 12 kF_219_285_12)).trans (((uSlot f40 285 12 (iS (show n17 = ((55 : Nat) : Int) from f39) rfl))).trans (((uPlace f33 285 12 (iS (show n9 = ((322 : Nat) : Int) from f20) rfl))).trans (((f19.1.2.1.1 285 12 kF_235_285_12)).trans (((f16.1.2.1.1 285 12 kF_216_285_12)).trans (f11.1.2.1.1 285 12 kF_216_285_12)))))
  have e61 : hV H7 285 35 = hV H0 285 35 := ((f41.1.2.1.1 285 35 kF_219_285_35)).trans (((uSlot f40 285 35 (iS (show n17 = ((55 : Nat) : Int) from f39) rfl))).trans (((uPlace f33 285 35 (iS (show n9 = ((322 : Nat) : Int) from f20) rfl))).trans (((f19.1.2.1.1 285 35 kF_235_285_35)).trans (((f16.1.2.1.1 285 35 kF_216_285_35)).trans (((f11.1.2.1.1 285 35 kF_216_285_35)).trans (f6.1.2.1.1 285 35 kF_236_285_35))))))
  have e65 : hV H7 285 51 = hV H4 285 51 := ((f41.1.2.1.1 285 51 kF_219_285_51)).trans (((uSlot f40 285 51 (iS (show n17 = ((55 : Nat) : Int) from f39) rfl))).trans (uPlace f33 285 51 (iS (show n9 = ((322 : Nat) : Int) from f20) rfl)))
  have e68 : hV H7 285 55 = n16 := ((f41.1.2.1.1 285 55 kF_219_285_55)).trans (uSame f40 285 55 f4.symm f39.symm)
  have e73 : hV H7 320 = hV H4 320 := (fRow f41.1.2.1 320 kR_219_320).trans ((uRowNe f40 320 (iS (show n2 = ((285 : Nat) : Int) from f4) rfl)).trans (uRowNe f33 320 (iS (show n9 = ((322 : Nat) : Int) from f20) rfl)))
  have e78 : hV H7 321 = hV H4 321 := (fRow f41.1.2.1 321 kR_219_321).trans ((uRowNe f40 321 (iS (show n2 = ((285 : Nat) : Int) from f4) rfl)).trans (uRowNe f33 321 (iS (show n9 = ((322 : Nat) : Int) from f20) rfl)))
  have e84 : hV H7 322 = (uF (hV H1 322) n10 n13) := (fRow f41.1.2.1 322 kR_219_322).trans ((uRowNe f40 322 (iS (show n2 = ((285 : Nat) : Int) from f4) rfl)).trans ((uRow f33 322 f20.symm).trans (congrArg (fun z => uF z n10 n13) e40)))
  have e85 : RR H5 = RR H4 := RR_upR f33 (show n9 = ((322 : Nat) : Int) from f20) (by decide)
  have e86 : RR H6 = RR H5 := RR_upF f40 f4 (show n17 = ((55 : Nat) : Int) from f39) (by decide)
  have e87 : RR H6 = RR H4 := e86.trans e85
  have e88 : RR H7 = RR H6 := RR_fr f41.1.2.1 (by decide +kernel)
  have e89 : RR H7 = RR H4 := e88.trans e87
  have e90 : (0 : Int) ≤ hV H1 285 11 ∧ hV H1 285 11 ≤ 500 := f6.1.2.2 285 11 _ _ kW_285_11
  have e91 : (0 : Int) ≤ hV H1 285 12 ∧ hV H1 285 12 ≤ 7 := f6.1.2.2 285 12 _ _ kW_285_12
  have e92 : (0 : Int) ≤ hV H1 285 13 ∧ hV H1 285 13 ≤ 2 := f6.1.2.2 285 13 _ _ kW_285_13
  have e93 : (0 : Int) ≤ hV H0 285 34 ∧ hV H0 285 34 ≤ 1 := bTo ((f6.1.2.1.1 285 34 kF_236_285_34)) (f6.1.2.2 285 34 _ _ kW_285_34)
  have e94 : (0 : Int) ≤ hV H0 285 35 ∧ hV H0 285 35 ≤ 1 := bTo e15 (f6.1.2.2 285 35 _ _ kW_285_35)
  have e95 : (0 : Int) ≤ hV H1 285 51 ∧ hV H1 285 51 ≤ 1200 := f6.1.2.2 285 51 _ _ kW_285_51
  have e96 : (0 : Int) ≤ hV H1 285 55 ∧ hV H1 285 55 ≤ 64 := f6.1.2.2 285 55 _ _ kW_285_55
  have e103 : (0 : Int) ≤ hV H4 285 51 ∧ hV H4 285 51 ≤ 1200 := f19.1.2.2.2 285 51 _ _ kW_285_51
  have e104 : (0 : Int) ≤ hV H4 285 55 ∧ hV H4 285 55 ≤ 64 := f19.1.2.2.2 285 55 _ _ kW_285_55
  have e105 : (0 : Int) ≤ hV H7 285 11 ∧ hV H7 285 11 ≤ 500 := f41.1.2.2.2 285 11 _ _ kW_285_11
  have e107 : (0 : Int) ≤ hV H7 285 13 ∧ hV H7 285 13 ≤ 2 := f41.1.2.2.2 285 13 _ _ kW_285_13
  have e110 : (0 : Int) ≤ hV H7 285 55 ∧ hV H7 285 55 ≤ 64 := f41.1.2.2.2 285 55 _ _ kW_285_55
  try simp only [e68] at e110
  try simp only [e54, e61, e65, e68, e73, e78, e84, e89]
  have y0 := g4.1
  have y1 := g4.2.1
  have y2 := g4.2.2.1
  have y3 := g4.2.2.2.1
  have y4 := g4.2.2.2.2.1
  have y5 := g4.2.2.2.2.2.1
  have y6 := g4.2.2.2.2.2.2.1
  have y7 := g4.2.2.2.2.2.2.2.1
  have y8 := g4.2.2.2.2.2.2.2.2.1
  have y9 := g4.2.2.2.2.2.2.2.2.2.1
  have y10 := g4.2.2.2.2.2.2.2.2.2.2.1
  have y11 := g4.2.2.2.2.2.2.2.2.2.2.2
  have p0 := g3.1
  have p1 := g3.2.1
  have p2 := g3.2.2.1
  have p3 := g3.2.2.2.1
  have p4 := g3.2.2.2.2
  have r0_0 := f11.2.1
  have r0_1 := f11.2.2
  have r1_0 := f16.2.1
  have r1_1 := f16.2.2.resolve_right (fun z => f17 z.1)
  have r2_0 := f19.2.1
  have r2_1 := f19.2.2.1
  have r2_2 := f19.2.2.2.1
  have r2_3 := f19.2.2.2.2.1
  have r2_4 := f19.2.2.2.2.2.1
  have r2_5 := f19.2.2.2.2.2.2
  have r3_0 := f41.2.1
  have r3_1 := f41.2.2.1
  have r3_2 := f41.2.2.2.1
  have r3_3 := f41.2.2.2.2
  try simp only [e15] at y7
  try simp only [e8] at y11
  try simp only [e18] at r0_0
  try simp only [e16, e18, e19] at r0_1
  try simp only [e22] at r1_0
  try simp only [e16, e18, e19, e20, e22, e25, e28, e29, e32, e35, e38] at r1_1
  try simp only [e25, e28, e32, e35, e38, e40] at r2_1
  try simp only [e25, e28] at r2_2
  try simp only [e28] at r2_3
  try simp only [e28, e38, e40] at r2_4
  try simp only [e40] at r2_5
  try simp only [e43] at r3_0
  try simp only [e43] at r3_1
  try simp only [e47] at r3_2
  try simp only [e43] at r3_3
  clear g3
  clear g4
  clear f21 f24 f26 f29 f32 f36 e8 e15 e16 e18 e19 e20 e22 e25 e28 e29 e32 e35 e38 e40 e43 e47 e54 e61 e65 e73 e78 e84 e85 e86 e87 e88 e89
  clear f6 f11 f16 f19 f41
  subst e0
  subst e4
  subst e9
  subst e11
  try have wl := wo_leI (w := hV H1 322) (n := hV H1 285 55) (by omega)
  try have wb := WT_bound y2 (by omega)
  try have wl2 := wo_leI (w := hV H1 322) (n := hV H2 285 55) (by omega)
  try have wl3 := wo_leI (w := hV H1 322) (n := hV H3 285 55) (by omega)
  try have wl4 := wo_leI (w := hV H1 322) (n := hV H4 285 55) (by omega)
  try have wl5 := wo_leI (w := hV H1 322) (n := hV H5 285 55) (by omega)
  try have wl6 := wo_leI (w := hV H1 322) (n := hV H6 285 55) (by omega)
  try have wl7 := wo_leI (w := hV H1 322) (n := hV H7 285 55) (by omega)
  try have wl8 := wo_leI (w := hV H1 322) (n := hV H8 285 55) (by omega)
  try have wl9 := wo_leI (w := hV H1 322) (n := hV H9 285 55) (by omega)
  try have wl10 := wo_leI (w := hV H1 322) (n := hV H10 285 55) (by omega)
  first
  | (have ix0 : n16 = hV H4 285 55 + 1 := Eq.trans f38 (w32_iv (Iad (Iat f23 f22) (IC 1)) (by decide)); subst ix0; clear f38)
  | (have ix0 : n16 = hV H4 285 55 + 1 := Eq.trans f38 (w32_id (by omega) (by omega)); subst ix0; clear f38)
  | (unfold w32 at f38; have ix0 : n16 = hV H4 285 55 + 1 := (by omega); subst ix0)
  | skip
  try unfold w32 at f38

  refine ⟨⟨?_, ?_, ?_, ?_, ?_, ?_, ?_, ?_, ?_, ?_⟩, fun q hq => ?_⟩
  · exact r2_0
  · intro z
    exact CO_trans (y1 (by omega)) rfl (CO_d r2_1 (by first | omega | (rw [wo_push] <;> omega)))
  · first
    | exact WT_push (WT_pop y2 (by assumption)) (by omega) (by omega) (by omega) (.inr (.inl ⟨by omega, by omega⟩))
    | exact WT_push (WT_pop y2 (by assumption)) (by omega) (by omega) (by omega) (.inr (.inr ⟨by omega, by omega, by omega⟩))
    | exact WT_push (WT_pop y2 (by assumption)) (by omega) (by omega) (by omega) (by omega)
  · first | omega | (rw [wo_push] <;> omega)
  · first | omega | (rw [wo_push] <;> omega)
  · first | omega | (rw [wo_push] <;> omega)
  · first | omega | (rw [wo_push] <;> omega)
  · first | omega | (rw [wo_push] <;> omega)
  · first | omega | (rw [wo_push] <;> omega)
  · first | omega | (rw [wo_push] <;> omega)
  · have g6 := Option.some.inj hq
    subst g6
    omega
def g_236_187_14 : vG := ([(1219, [1], [6, 7], 0), (80, [1, 17, 16], [6, 5], 0), (0, [17], [], 55), (1, [16, 14, 15], [], 0), (0, [15], [], 1), (20, [14, 1], [5], 55), (90, [14], [], 0), (91, [14], [], 64), (80, [9, 10, 13], [5, 4], 0), (22, [13, 11, 12], [4], 0), (90, [13], [], 0), (91, [13], [], 53), (20, [12, 1], [4], 11), (90, [12], [], 0), (91, [12], [], 500), (20, [11, 1], [4], 5), (0, [11], [], 288), (20, [10, 1], [4], 55), (90, [10], [], 0), (91, [10], [], 64), (20, [9, 1], [4], 54), (0, [9], [], 322), (1235, [1, 8], [3, 4], 0), (0, [8], [], 1), (31, [7], [], 0), (1216, [7, 1, 6], [2, 3], 0), (90, [7], [], 0), (91, [7], [], 1), (0, [6], [], 15), (30, [5], [], 0), (1216, [5, 1, 4], [1, 2], 0), (90, [5], [], 0), (91, [5], [], 1), (0, [4], [], 10), (31, [3], [], 0), (5000, [0, 1, 2, 3], [0, 1], 187), (0, [0], [], 285), (0, [1], [], 285), (90, [2], [], 0), (91, [2], [], 7), (90, [3], [], 0), (91, [3], [], 1)], (4000, [1, 2, 3], [7], 12))
theorem c_236_187_14 {q0 : Nat} : vOkm T0 (eP e_236 L_236 A_236 mu_236 (some q0)) 1 g_236_187_14 := vOk_inI fun ρ η f0 f1 f2 f3 f4 f5 f6 f7 f8 f9 f10 f11 f12 f13 f14 f15 f16 f17 f18 f19 f20 f21 f22 f23 f24 f25 f26 f27 f28 f29 f30 f31 f32 f33 f34 f35 f36 f37 f38 f39 f40 f41 => q_236_44 (q0 := q0) (n0 := ρ 3) (n1 := ρ 2) (n2 := ρ 1) (n3 := ρ 0) (n4 := ρ 4) (n5 := ρ 5) (n6 := ρ 6) (n7 := ρ 7) (n8 := ρ 8) (n9 := ρ 9) (n10 := ρ 10) (n11 := ρ 11) (n12 := ρ 12) (n13 := ρ 13) (n14 := ρ 14) (n15 := ρ 15) (n16 := ρ 16) (n17 := ρ 17) (H0 := η 0) (H1 := η 1) (H2 := η 2) (H3 := η 3) (H4 := η 4) (H5 := η 5) (H6 := η 6) (H7 := η 7) f41 f40 f39 f38 f37 f36 f35 f34 f33 f32 f31 f30 f29 f28 f27 f26 f25 f24 f23 f22 f21 f20 f19 f18 f17 f16 f15 f14 f13 f12 f11 f10 f9 f8 f7 f6 f5 f4 f3 f2 f1 f0
set_option maxHeartbeats 20000000 in
theorem q_236_45 {q0 : Nat} {n0 n1 n2 n3 n4 n5 : Int} {H0 H1 : gH} (f0 : n0 ≤ 1) (f1 : 0 ≤ n0) (f2 : n1 ≤ 7) (f3 : 0 ≤ n1) (f4 : n2 = 285) (f5 : n3 = 285) (f6 : (hLe T0 H0 H1 ∧ hFr s_236.2.2.2.2 H0 H1 ∧ hWt T0 H1) ∧ (Ab_236_187 n3 n2 n1 n0 H0 H1 ∧ preb_236 n3 H0) ∧ some q0 = some (mub_236_187 n3 n2 n1 n0 H0 H1)) (f7 : n0 = 0) (f8 : n4 ≤ 7) (f9 : 0 ≤ n4) (f10 : n4 = hV H1 (n2).toNat 12) (f11 : n4 ≤ n1) (f12 : n5 = 0) : preb_235 n2 n5 H1 := by
  have g4 := f6.2.1.1
  unfold Ab_236_187 at g4
  have g3 := f6.2.1.2
  unfold preb_236 at g3
  unfold preb_235
  have e0 : n4 = hV H1 285 12 := (by rw [f4] at f10; exact f10 : n4 = hV H1 285 12)
  have e2 : hV H1 285 34 = hV H0 285 34 := (f6.1.2.1.1 285 34 kF_236_285_34)
  have e4 : hV H1 285 35 = hV H0 285 35 := (f6.1.2.1.1 285 35 kF_236_285_35)
  have e5 : hV H1 288 = hV H0 288 := fRow f6.1.2.1 288 kR_236_288
  have e6 : (0 : Int) ≤ hV H1 285 11 ∧ hV H1 285 11 ≤ 500 := f6.1.2.2 285 11 _ _ kW_285_11
  have e7 : (0 : Int) ≤ hV H1 285 12 ∧ hV H1 285 12 ≤ 7 := f6.1.2.2 285 12 _ _ kW_285_12
  have e8 : (0 : Int) ≤ hV H1 285 13 ∧ hV H1 285 13 ≤ 2 := f6.1.2.2 285 13 _ _ kW_285_13
  have e9 : (0 : Int) ≤ hV H0 285 34 ∧ hV H0 285 34 ≤ 1 := bTo e2 (f6.1.2.2 285 34 _ _ kW_285_34)
  have e10 : (0 : Int) ≤ hV H0 285 35 ∧ hV H0 285 35 ≤ 1 := bTo e4 (f6.1.2.2 285 35 _ _ kW_285_35)
  have e11 : (0 : Int) ≤ hV H1 285 51 ∧ hV H1 285 51 ≤ 1200 := f6.1.2.2 285 51 _ _ kW_285_51
  have e12 : (0 : Int) ≤ hV H1 285 55 ∧ hV H1 285 55 ≤ 64 := f6.1.2.2 285 55 _ _ kW_285_55
  try simp only [e2, e4]
  have y0 := g4.1
  have y1 := g4.2.1
  have y2 := g4.2.2.1
  have y3 := g4.2.2.2.1
  have y4 := g4.2.2.2.2.1
  have y5 := g4.2.2.2.2.2.1
  have y6 := g4.2.2.2.2.2.2.1
  have y7 := g4.2.2.2.2.2.2.2.1
  have y8 := g4.2.2.2.2.2.2.2.2.1
  have y9 := g4.2.2.2.2.2.2.2.2.2.1
  have y10 := g4.2.2.2.2.2.2.2.2.2.2.1
  have y11 := g4.2.2.2.2.2.2.2.2.2.2.2
  have p0 := g3.1
  have p1 := g3.2.1
  have p2 := g3.2.2.1
  have p3 := g3.2.2.2.1
  have p4 := g3.2.2.2.2
  try simp only [e4] at y7
  try simp only [e5] at y11
  clear g3
  clear g4
  clear f10 e2 e4 e5
  clear f6
  subst e0
  try have wl := wo_leI (w := hV H1 322) (n := hV H1 285 55) (by omega)
  try have wb := WT_bound y2 (by omega)
  try have wl2 := wo_leI (w := hV H1 322) (n := hV H2 285 55) (by omega)
  try have wl3 := wo_leI (w := hV H1 322) (n := hV H3 285 55) (by omega)
  try have wl4 := wo_leI (w := hV H1 322) (n := hV H4 285 55) (by omega)
  try have wl5 := wo_leI (w := hV H1 322) (n := hV H5 285 55) (by omega)
  try have wl6 := wo_leI (w := hV H1 322) (n := hV H6 285 55) (by omega)
  try have wl7 := wo_leI (w := hV H1 322) (n := hV H7 285 55) (by omega)
  try have wl8 := wo_leI (w := hV H1 322) (n := hV H8 285 55) (by omega)
  try have wl9 := wo_leI (w := hV H1 322) (n := hV H9 285 55) (by omega)
  try have wl10 := wo_leI (w := hV H1 322) (n := hV H10 285 55) (by omega)
  subst y3
  refine ⟨?_, ?_, ?_, ?_⟩ <;> first | assumption | omega | trivial
def g_236_187_15 : vG := ([(0, [5], [], 0), (45, [4, 2], [], 0), (20, [4, 1], [1], 12), (90, [4], [], 0), (91, [4], [], 7), (30, [3], [], 0), (5000, [0, 1, 2, 3], [0, 1], 187), (0, [0], [], 285), (0, [1], [], 285), (90, [2], [], 0), (91, [2], [], 7), (90, [3], [], 0), (91, [3], [], 1)], (2235, [1, 5], [1], 0))
theorem c_236_187_15 {q0 : Nat} : vOkm T0 (eP e_236 L_236 A_236 mu_236 (some q0)) 1 g_236_187_15 := vOk_inI fun ρ η f0 f1 f2 f3 f4 f5 f6 f7 f8 f9 f10 f11 f12 => q_236_45 (q0 := q0) (n0 := ρ 3) (n1 := ρ 2) (n2 := ρ 1) (n3 := ρ 0) (n4 := ρ 4) (n5 := ρ 5) (H0 := η 0) (H1 := η 1) f12 f11 f10 f9 f8 f7 f6 f5 f4 f3 f2 f1 f0
set_option maxHeartbeats 20000000 in
theorem q_236_46 {q0 : Nat} {n0 n1 n2 n3 n4 n5 : Int} {H0 H1 H2 : gH} (f0 : n0 ≤ 1) (f1 : 0 ≤ n0) (f2 : n1 ≤ 7) (f3 : 0 ≤ n1) (f4 : n2 = 285) (f5 : n3 = 285) (f6 : (hLe T0 H0 H1 ∧ hFr s_236.2.2.2.2 H0 H1 ∧ hWt T0 H1) ∧ (Ab_236_187 n3 n2 n1 n0 H0 H1 ∧ preb_236 n3 H0) ∧ some q0 = some (mub_236_187 n3 n2 n1 n0 H0 H1)) (f7 : n0 = 0) (f8 : n4 ≤ 7) (f9 : 0 ≤ n4) (f10 : n4 = hV H1 (n2).toNat 12) (f11 : n4 ≤ n1) (f12 : n5 = 0) (f13 : (hLe T0 H1 H2 ∧ hFr s_235.2.2.2.2 H1 H2 ∧ ((0 : Int) = 0 → H2.length = H1.length) ∧ hWt T0 H2) ∧ postb_235 n2 n5 H1 H2) : postb_236 n3 H0 H2 := by
  have g4 := f6.2.1.1
  unfold Ab_236_187 at g4
  have g3 := f6.2.1.2
  unfold preb_236 at g3
  unfold postb_235 at f13
  unfold postb_236
  have e0 : n4 = hV H1 285 12 := (by rw [f4] at f10; exact f10 : n4 = hV H1 285 12)
  have e4 : hV H1 285 35 = hV H0 285 35 := (f6.1.2.1.1 285 35 kF_236_285_35)
  have e5 : hV H1 288 = hV H0 288 := fRow f6.1.2.1 288 kR_236_288
  have e7 : hV H2 285 11 = hV H1 285 11 := (f13.1.2.1.1 285 11 kF_235_285_11)
  have e9 : hV H2 285 12 = hV H1 285 12 := (f13.1.2.1.1 285 12 kF_235_285_12)
  have e11 : hV H2 285 13 = hV H1 285 13 := (f13.1.2.1.1 285 13 kF_235_285_13)
  have e13 : hV H2 285 35 = hV H0 285 35 := ((f13.1.2.1.1 285 35 kF_235_285_35)).trans (f6.1.2.1.1 285 35 kF_236_285_35)
  have e14 : hV H2 322 = hV H1 322 := fRow f13.1.2.1 322 kR_235_322
  have e15 : (0 : Int) ≤ hV H1 285 11 ∧ hV H1 285 11 ≤ 500 := f6.1.2.2 285 11 _ _ kW_285_11
  have e16 : (0 : Int) ≤ hV H1 285 12 ∧ hV H1 285 12 ≤ 7 := f6.1.2.2 285 12 _ _ kW_285_12
  have e17 : (0 : Int) ≤ hV H1 285 13 ∧ hV H1 285 13 ≤ 2 := f6.1.2.2 285 13 _ _ kW_285_13
  have e18 : (0 : Int) ≤ hV H0 285 34 ∧ hV H0 285 34 ≤ 1 := bTo ((f6.1.2.1.1 285 34 kF_236_285_34)) (f6.1.2.2 285 34 _ _ kW_285_34)
  have e19 : (0 : Int) ≤ hV H0 285 35 ∧ hV H0 285 35 ≤ 1 := bTo e4 (f6.1.2.2 285 35 _ _ kW_285_35)
  have e20 : (0 : Int) ≤ hV H1 285 51 ∧ hV H1 285 51 ≤ 1200 := f6.1.2.2 285 51 _ _ kW_285_51
  have e21 : (0 : Int) ≤ hV H1 285 55 ∧ hV H1 285 55 ≤ 64 := f6.1.2.2 285 55 _ _ kW_285_55
  have e26 : (0 : Int) ≤ hV H2 285 51 ∧ hV H2 285 51 ≤ 1200 := f13.1.2.2.2 285 51 _ _ kW_285_51
  have e27 : (0 : Int) ≤ hV H2 285 55 ∧ hV H2 285 55 ≤ 64 := f13.1.2.2.2 285 55 _ _ kW_285_55
  try simp only [e7, e9, e11, e13]
  have y0 := g4.1
  have y1 := g4.2.1
  have y2 := g4.2.2.1
  have y3 := g4.2.2.2.1
  have y4 := g4.2.2.2.2.1
  have y5 := g4.2.2.2.2.2.1
  have y6 := g4.2.2.2.2.2.2.1
  have y7 := g4.2.2.2.2.2.2.2.1
  have y8 := g4.2.2.2.2.2.2.2.2.1
  have y9 := g4.2.2.2.2.2.2.2.2.2.1
  have y10 := g4.2.2.2.2.2.2.2.2.2.2.1
  have y11 := g4.2.2.2.2.2.2.2.2.2.2.2
  have p0 := g3.1
  have p1 := g3.2.1
  have p2 := g3.2.2.1
  have p3 := g3.2.2.2.1
  have p4 := g3.2.2.2.2
  have r0_0 := f13.2.1
  have r0_1 := f13.2.2.1
  have r0_2 := f13.2.2.2.1
  have r0_3 := f13.2.2.2.2.1
  have r0_4 := f13.2.2.2.2.2.1
  have r0_5 := f13.2.2.2.2.2.2
  try simp only [e4] at y7
  try simp only [e5] at y11
  try simp only [e14] at r0_1
  try simp only [e14] at r0_4
  try simp only [e14] at r0_5
  clear g3
  clear g4
  clear f10 e4 e5 e7 e9 e11 e13 e14
  clear f6 f13
  subst e0
  try have wl := wo_leI (w := hV H1 322) (n := hV H1 285 55) (by omega)
  try have wb := WT_bound y2 (by omega)
  try have wl2 := wo_leI (w := hV H1 322) (n := hV H2 285 55) (by omega)
  try have wl3 := wo_leI (w := hV H1 322) (n := hV H3 285 55) (by omega)
  try have wl4 := wo_leI (w := hV H1 322) (n := hV H4 285 55) (by omega)
  try have wl5 := wo_leI (w := hV H1 322) (n := hV H5 285 55) (by omega)
  try have wl6 := wo_leI (w := hV H1 322) (n := hV H6 285 55) (by omega)
  try have wl7 := wo_leI (w := hV H1 322) (n := hV H7 285 55) (by omega)
  try have wl8 := wo_leI (w := hV H1 322) (n := hV H8 285 55) (by omega)
  try have wl9 := wo_leI (w := hV H1 322) (n := hV H9 285 55) (by omega)
  try have wl10 := wo_leI (w := hV H1 322) (n := hV H10 285 55) (by omega)

  have wp : 0 < hV H2 285 55 → wo (hV H1 322) (hV H2 285 55).toNat = wo (hV H1 322) (hV H2 285 55 - 1).toNat + if hV H1 322 (hV H2 285 55 - 1).toNat = 6 then 1 else 0 := wo_pop
  have wz := wo_le (w := hV H1 322) (hV H2 285 55 - 1).toNat
  refine ⟨r0_0, fun z => ?_, ?_, ?_, ?_, ?_, ?_, ?_⟩
  · exact CO_trans (y1 (by omega)) rfl (CO_d r0_1 (by omega))
  all_goals omega
def g_236_187_16 : vG := ([(1235, [1, 5], [1, 2], 0), (0, [5], [], 0), (45, [4, 2], [], 0), (20, [4, 1], [1], 12), (90, [4], [], 0), (91, [4], [], 7), (30, [3], [], 0), (5000, [0, 1, 2, 3], [0, 1], 187), (0, [0], [], 285), (0, [1], [], 285), (90, [2], [], 0), (91, [2], [], 7), (90, [3], [], 0), (91, [3], [], 1)], (3000, [], [2], 209))
theorem c_236_187_16 {q0 : Nat} : vOkm T0 (eP e_236 L_236 A_236 mu_236 (some q0)) 1 g_236_187_16 := vOk_inI fun ρ η f0 f1 f2 f3 f4 f5 f6 f7 f8 f9 f10 f11 f12 f13 => q_236_46 (q0 := q0) (n0 := ρ 3) (n1 := ρ 2) (n2 := ρ 1) (n3 := ρ 0) (n4 := ρ 4) (n5 := ρ 5) (H0 := η 0) (H1 := η 1) (H2 := η 2) f13 f12 f11 f10 f9 f8 f7 f6 f5 f4 f3 f2 f1 f0
set_option maxHeartbeats 20000000 in
theorem kF_217_285_34 : vFree s_217.2.2.2.2 285 34 = true := by decide +kernel
theorem q_236_47 {q0 : Nat} {n0 n1 n2 n3 n4 n5 n6 : Int} {H0 H1 H2 : gH} (f0 : n0 ≤ 1) (f1 : 0 ≤ n0) (f2 : n1 ≤ 7) (f3 : 0 ≤ n1) (f4 : n2 = 285) (f5 : n3 = 285) (f6 : (hLe T0 H0 H1 ∧ hFr s_236.2.2.2.2 H0 H1 ∧ hWt T0 H1) ∧ (Ab_236_187 n3 n2 n1 n0 H0 H1 ∧ preb_236 n3 H0) ∧ some q0 = some (mub_236_187 n3 n2 n1 n0 H0 H1)) (f7 : n0 = 0) (f8 : n4 ≤ 7) (f9 : 0 ≤ n4) (f10 : n4 = hV H1 (n2).toNat 12) (f11 : n1 < n4) (f12 : n5 = 1) (f13 : (hLe T0 H1 H2 ∧ hFr s_217.2.2.2.2 H1 H2 ∧ ((0 : Int) = 0 → H2.length = H1.length) ∧ hWt T0 H2) ∧ postb_217 n2 n5 H1 H2) (f14 : n6 = 0) : preb_235 n2 n6 H2 := by
  have g4 := f6.2.1.1
  unfold Ab_236_187 at g4
  have g3 := f6.2.1.2
  unfold preb_236 at g3
  unfold postb_217 at f13
  unfold preb_235
  have e0 : n4 = hV H1 285 12 := (by rw [f4] at f10; exact f10 : n4 = hV H1 285 12)
  have e4 : hV H1 285 35 = hV H0 285 35 := (f6.1.2.1.1 285 35 kF_236_285_35)
  have e5 : hV H1 288 = hV H0 288 := fRow f6.1.2.1 288 kR_236_288
  have e7 : hV H2 285 34 = hV H0 285 34 := ((f13.1.2.1.1 285 34 kF_217_285_34)).trans (f6.1.2.1.1 285 34 kF_236_285_34)
  have e9 : hV H2 285 35 = hV H0 285 35 := ((f13.1.2.1.1 285 35 kF_217_285_35)).trans (f6.1.2.1.1 285 35 kF_236_285_35)
  have e11 : hV H2 285 51 = hV H1 285 51 := (f13.1.2.1.1 285 51 kF_217_285_51)
  have e13 : hV H2 285 55 = hV H1 285 55 := (f13.1.2.1.1 285 55 kF_217_285_55)
  have e14 : hV H2 322 = hV H1 322 := fRow f13.1.2.1 322 kR_217_322
  have e15 : RR H2 = RR H1 := RR_fr f13.1.2.1 (by decide +kernel)
  have e16 : (0 : Int) ≤ hV H1 285 11 ∧ hV H1 285 11 ≤ 500 := f6.1.2.2 285 11 _ _ kW_285_11
  have e17 : (0 : Int) ≤ hV H1 285 12 ∧ hV H1 285 12 ≤ 7 := f6.1.2.2 285 12 _ _ kW_285_12
  have e18 : (0 : Int) ≤ hV H1 285 13 ∧ hV H1 285 13 ≤ 2 := f6.1.2.2 285 13 _ _ kW_285_13
  have e19 : (0 : Int) ≤ hV H0 285 34 ∧ hV H0 285 34 ≤ 1 := bTo ((f6.1.2.1.1 285 34 kF_236_285_34)) (f6.1.2.2 285 34 _ _ kW_285_34)
  have e20 : (0 : Int) ≤ hV H0 285 35 ∧ hV H0 285 35 ≤ 1 := bTo e4 (f6.1.2.2 285 35 _ _ kW_285_35)
  have e21 : (0 : Int) ≤ hV H1 285 51 ∧ hV H1 285 51 ≤ 1200 := f6.1.2.2 285 51 _ _ kW_285_51
  have e22 : (0 : Int) ≤ hV H1 285 55 ∧ hV H1 285 55 ≤ 64 := f6.1.2.2 285 55 _ _ kW_285_55
  have e23 : (0 : Int) ≤ hV H2 285 13 ∧ hV H2 285 13 ≤ 2 := f13.1.2.2.2 285 13 _ _ kW_285_13
  try simp only [e7, e9, e11, e13, e14, e15]
  have y0 := g4.1
  have y1 := g4.2.1
  have y2 := g4.2.2.1
  have y3 := g4.2.2.2.1
  have y4 := g4.2.2.2.2.1
  have y5 := g4.2.2.2.2.2.1
  have y6 := g4.2.2.2.2.2.2.1
  have y7 := g4.2.2.2.2.2.2.2.1
  have y8 := g4.2.2.2.2.2.2.2.2.1
  have y9 := g4.2.2.2.2.2.2.2.2.2.1
  have y10 := g4.2.2.2.2.2.2.2.2.2.2.1
  have y11 := g4.2.2.2.2.2.2.2.2.2.2.2
  have p0 := g3.1
  have p1 := g3.2.1
  have p2 := g3.2.2.1
  have p3 := g3.2.2.2.1
  have p4 := g3.2.2.2.2
  have r0_0 := f13.2.1
  have r0_1 := f13.2.2
  try simp only [e4] at y7
  try simp only [e5] at y11
  clear g3
  clear g4
  clear f10 e4 e5 e7 e9 e11 e13 e14 e15
  clear f6 f13
  subst e0
  try have wl := wo_leI (w := hV H1 322) (n := hV H1 285 55) (by omega)
  try have wb := WT_bound y2 (by omega)
  try have wl2 := wo_leI (w := hV H1 322) (n := hV H2 285 55) (by omega)
  try have wl3 := wo_leI (w := hV H1 322) (n := hV H3 285 55) (by omega)
  try have wl4 := wo_leI (w := hV H1 322) (n := hV H4 285 55) (by omega)
  try have wl5 := wo_leI (w := hV H1 322) (n := hV H5 285 55) (by omega)
  try have wl6 := wo_leI (w := hV H1 322) (n := hV H6 285 55) (by omega)
  try have wl7 := wo_leI (w := hV H1 322) (n := hV H7 285 55) (by omega)
  try have wl8 := wo_leI (w := hV H1 322) (n := hV H8 285 55) (by omega)
  try have wl9 := wo_leI (w := hV H1 322) (n := hV H9 285 55) (by omega)
  try have wl10 := wo_leI (w := hV H1 322) (n := hV H10 285 55) (by omega)
  subst y3
  refine ⟨?_, ?_, ?_, ?_⟩ <;> first | assumption | omega | trivial
def g_236_187_17 : vG := ([(0, [6], [], 0), (1217, [1, 5], [1, 2], 0), (0, [5], [], 1), (44, [4, 2], [], 0), (20, [4, 1], [1], 12), (90, [4], [], 0), (91, [4], [], 7), (30, [3], [], 0), (5000, [0, 1, 2, 3], [0, 1], 187), (0, [0], [], 285), (0, [1], [], 285), (90, [2], [], 0), (91, [2], [], 7), (90, [3], [], 0), (91, [3], [], 1)], (2235, [1, 6], [2], 0))
theorem c_236_187_17 {q0 : Nat} : vOkm T0 (eP e_236 L_236 A_236 mu_236 (some q0)) 1 g_236_187_17 := vOk_inI fun ρ η f0 f1 f2 f3 f4 f5 f6 f7 f8 f9 f10 f11 f12 f13 f14 => q_236_47 (q0 := q0) (n0 := ρ 3) (n1 := ρ 2) (n2 := ρ 1) (n3 := ρ 0) (n4 := ρ 4) (n5 := ρ 5) (n6 := ρ 6) (H0 := η 0) (H1 := η 1) (H2 := η 2) f14 f13 f12 f11 f10 f9 f8 f7 f6 f5 f4 f3 f2 f1 f0
set_option maxHeartbeats 20000000 in
theorem q_236_48 {q0 : Nat} {n0 n1 n2 n3 n4 n5 n6 : Int} {H0 H1 H2 H3 : gH} (f0 : n0 ≤ 1) (f1 : 0 ≤ n0) (f2 : n1 ≤ 7) (f3 : 0 ≤ n1) (f4 : n2 = 285) (f5 : n3 = 285) (f6 : (hLe T0 H0 H1 ∧ hFr s_236.2.2.2.2 H0 H1 ∧ hWt T0 H1) ∧ (Ab_236_187 n3 n2 n1 n0 H0 H1 ∧ preb_236 n3 H0) ∧ some q0 = some (mub_236_187 n3 n2 n1 n0 H0 H1)) (f7 : n0 = 0) (f8 : n4 ≤ 7) (f9 : 0 ≤ n4) (f10 : n4 = hV H1 (n2).toNat 12) (f11 : n1 < n4) (f12 : n5 = 1) (f13 : (hLe T0 H1 H2 ∧ hFr s_217.2.2.2.2 H1 H2 ∧ ((0 : Int) = 0 → H2.length = H1.length) ∧ hWt T0 H2) ∧ postb_217 n2 n5 H1 H2) (f14 : n6 = 0) (f15 : (hLe T0 H2 H3 ∧ hFr s_235.2.2.2.2 H2 H3 ∧ ((0 : Int) = 0 → H3.length = H2.length) ∧ hWt T0 H3) ∧ postb_235 n2 n6 H2 H3) : postb_236 n3 H0 H3 := by
  have g4 := f6.2.1.1
  unfold Ab_236_187 at g4
  have g3 := f6.2.1.2
  unfold preb_236 at g3
  unfold postb_217 at f13
  unfold postb_235 at f15
  unfold postb_236
  have e0 : n4 = hV H1 285 12 := (by rw [f4] at f10; exact f10 : n4 = hV H1 285 12)
  have e4 : hV H1 285 35 = hV H0 285 35 := (f6.1.2.1.1 285 35 kF_236_285_35)
  have e5 : hV H1 288 = hV H0 288 := fRow f6.1.2.1 288 kR_236_288
  have e7 : hV H2 285 51 = hV H1 285 51 := (f13.1.2.1.1 285 51 kF_217_285_51)
  have e9 : hV H2 285 55 = hV H1 285 55 := (f13.1.2.1.1 285 55 kF_217_285_55)
  have e10 : hV H2 320 = hV H1 320 := fRow f13.1.2.1 320 kR_217_320
  have e11 : hV H2 321 = hV H1 321 := fRow f13.1.2.1 321 kR_217_321
  have e12 : hV H2 322 = hV H1 322 := fRow f13.1.2.1 322 kR_217_322
  have e15 : hV H3 285 11 = hV H1 285 11 := ((f15.1.2.1.1 285 11 kF_235_285_11)).trans (f13.1.2.1.1 285 11 kF_217_285_11)
  have e18 : hV H3 285 12 = hV H1 285 12 := ((f15.1.2.1.1 285 12 kF_235_285_12)).trans (f13.1.2.1.1 285 12 kF_217_285_12)
  have e20 : hV H3 285 13 = hV H2 285 13 := (f15.1.2.1.1 285 13 kF_235_285_13)
  have e23 : hV H3 285 35 = hV H0 285 35 := ((f15.1.2.1.1 285 35 kF_235_285_35)).trans (((f13.1.2.1.1 285 35 kF_217_285_35)).trans (f6.1.2.1.1 285 35 kF_236_285_35))
  have e25 : hV H3 322 = hV H1 322 := (fRow f15.1.2.1 322 kR_235_322).trans e12
  have e26 : (0 : Int) ≤ hV H1 285 11 ∧ hV H1 285 11 ≤ 500 := f6.1.2.2 285 11 _ _ kW_285_11
  have e27 : (0 : Int) ≤ hV H1 285 12 ∧ hV H1 285 12 ≤ 7 := f6.1.2.2 285 12 _ _ kW_285_12
  have e28 : (0 : Int) ≤ hV H1 285 13 ∧ hV H1 285 13 ≤ 2 := f6.1.2.2 285 13 _ _ kW_285_13
  have e29 : (0 : Int) ≤ hV H0 285 34 ∧ hV H0 285 34 ≤ 1 := bTo ((f6.1.2.1.1 285 34 kF_236_285_34)) (f6.1.2.2 285 34 _ _ kW_285_34)
  have e30 : (0 : Int) ≤ hV H0 285 35 ∧ hV H0 285 35 ≤ 1 := bTo e4 (f6.1.2.2 285 35 _ _ kW_285_35)
  have e31 : (0 : Int) ≤ hV H1 285 51 ∧ hV H1 285 51 ≤ 1200 := f6.1.2.2 285 51 _ _ kW_285_51
  have e32 : (0 : Int) ≤ hV H1 285 55 ∧ hV H1 285 55 ≤ 64 := f6.1.2.2 285 55 _ _ kW_285_55
  have e33 : (0 : Int) ≤ hV H2 285 13 ∧ hV H2 285 13 ≤ 2 := f13.1.2.2.2 285 13 _ _ kW_285_13
  have e40 : (0 : Int) ≤ hV H3 285 51 ∧ hV H3 285 51 ≤ 1200 := f15.1.2.2.2 285 51 _ _ kW_285_51
  have e41 : (0 : Int) ≤ hV H3 285 55 ∧ hV H3 285 55 ≤ 64 := f15.1.2.2.2 285 55 _ _ kW_285_55
  try simp only [e15, e18, e20, e23]
  have y0 := g4.1
  have y1 := g4.2.1
  have y2 := g4.2.2.1
  have y3 := g4.2.2.2.1
  have y4 := g4.2.2.2.2.1
  have y5 := g4.2.2.2.2.2.1
  have y6 := g4.2.2.2.2.2.2.1
  have y7 := g4.2.2.2.2.2.2.2.1
  have y8 := g4.2.2.2.2.2.2.2.2.1
  have y9 := g4.2.2.2.2.2.2.2.2.2.1
  have y10 := g4.2.2.2.2.2.2.2.2.2.2.1
  have y11 := g4.2.2.2.2.2.2.2.2.2.2.2
  have p0 := g3.1
  have p1 := g3.2.1
  have p2 := g3.2.2.1
  have p3 := g3.2.2.2.1
  have p4 := g3.2.2.2.2
  have r0_0 := f13.2.1
  have r0_1 := f13.2.2
  have r1_0 := f15.2.1
  have r1_1 := f15.2.2.1
  have r1_2 := f15.2.2.2.1
  have r1_3 := f15.2.2.2.2.1
  have r1_4 := f15.2.2.2.2.2.1
  have r1_5 := f15.2.2.2.2.2.2
  try simp only [e4] at y7
  try simp only [e5] at y11
  try simp only [e7, e9, e10, e11, e12, e25] at r1_1
  try simp only [e7, e9] at r1_2
  try simp only [e9] at r1_3
  try simp only [e9, e12, e25] at r1_4
  try simp only [e25] at r1_5
  clear g3
  clear g4
  clear f10 e4 e5 e7 e9 e10 e11 e12 e15 e18 e20 e23 e25
  clear f6 f13 f15
  subst e0
  try have wl := wo_leI (w := hV H1 322) (n := hV H1 285 55) (by omega)
  try have wb := WT_bound y2 (by omega)
  try have wl2 := wo_leI (w := hV H1 322) (n := hV H2 285 55) (by omega)
  try have wl3 := wo_leI (w := hV H1 322) (n := hV H3 285 55) (by omega)
  try have wl4 := wo_leI (w := hV H1 322) (n := hV H4 285 55) (by omega)
  try have wl5 := wo_leI (w := hV H1 322) (n := hV H5 285 55) (by omega)
  try have wl6 := wo_leI (w := hV H1 322) (n := hV H6 285 55) (by omega)
  try have wl7 := wo_leI (w := hV H1 322) (n := hV H7 285 55) (by omega)
  try have wl8 := wo_leI (w := hV H1 322) (n := hV H8 285 55) (by omega)
  try have wl9 := wo_leI (w := hV H1 322) (n := hV H9 285 55) (by omega)
  try have wl10 := wo_leI (w := hV H1 322) (n := hV H10 285 55) (by omega)

  have wp : 0 < hV H3 285 55 → wo (hV H1 322) (hV H3 285 55).toNat = wo (hV H1 322) (hV H3 285 55 - 1).toNat + if hV H1 322 (hV H3 285 55 - 1).toNat = 6 then 1 else 0 := wo_pop
  have wz := wo_le (w := hV H1 322) (hV H3 285 55 - 1).toNat
  refine ⟨r1_0, fun z => ?_, ?_, ?_, ?_, ?_, ?_, ?_⟩
  · exact CO_trans (y1 (by omega)) rfl (CO_d r1_1 (by omega))
  all_goals omega
def g_236_187_18 : vG := ([(1235, [1, 6], [2, 3], 0), (0, [6], [], 0), (1217, [1, 5], [1, 2], 0), (0, [5], [], 1), (44, [4, 2], [], 0), (20, [4, 1], [1], 12), (90, [4], [], 0), (91, [4], [], 7), (30, [3], [], 0), (5000, [0, 1, 2, 3], [0, 1], 187), (0, [0], [], 285), (0, [1], [], 285), (90, [2], [], 0), (91, [2], [], 7), (90, [3], [], 0), (91, [3], [], 1)], (3000, [], [3], 209))
theorem c_236_187_18 {q0 : Nat} : vOkm T0 (eP e_236 L_236 A_236 mu_236 (some q0)) 1 g_236_187_18 := vOk_inI fun ρ η f0 f1 f2 f3 f4 f5 f6 f7 f8 f9 f10 f11 f12 f13 f14 f15 => q_236_48 (q0 := q0) (n0 := ρ 3) (n1 := ρ 2) (n2 := ρ 1) (n3 := ρ 0) (n4 := ρ 4) (n5 := ρ 5) (n6 := ρ 6) (H0 := η 0) (H1 := η 1) (H2 := η 2) (H3 := η 3) f15 f14 f13 f12 f11 f10 f9 f8 f7 f6 f5 f4 f3 f2 f1 f0
def p_236_187 : List vG := [g_236_187_0,
  g_236_187_1,
  g_236_187_2,
  g_236_187_3,
  g_236_187_4,
  g_236_187_5,
  g_236_187_6,
  g_236_187_7,
  g_236_187_8,
  g_236_187_9,
  g_236_187_10,
  g_236_187_11,
  g_236_187_12,
  g_236_187_13,
  g_236_187_14,
  g_236_187_15,
  g_236_187_16,
  g_236_187_17,
  g_236_187_18]
theorem r_236_187 : vCovO false (eRc e_236 L_236 cs_236 2000 (187, [(0, (3, 12, 285, 0)), (1, (0, 0, 7, 0)), (2, (0, 0, 1, 0))])) p_236_187 = true := by decide +kernel
theorem m_236 (d : Nat) : eC e_236 (d + 4) := eC_ok (e := e_236) (L := L_236) (cs := cs_236) (n := 2000) (d := d + 3) (A := A_236) (μ := mu_236) (tp := false) (p0 := p_236_s) rfl ⟨m_216 (d + 2), ⟨m_217 (d + 2), ⟨m_219 (d + 1), ⟨m_235 (d + 1), ⟨m_237 d, trivial⟩⟩⟩⟩⟩ rfl (.inl rfl) (by decide +kernel) (fun z => nomatch z) r_236_s (allC c_236_s_0 allN) (allC (.inl ⟨p_236_12, r_236_12, fun q0 => (allC c_236_12_0 (allC c_236_12_1 (allC c_236_12_2 allN)))⟩) (allC (.inl ⟨p_236_23, r_236_23, fun q0 => (allC c_236_23_0 (allC c_236_23_1 (allC c_236_23_2 (allC c_236_23_3 (allC c_236_23_4 (allC c_236_23_5 (allC c_236_23_6 (allC c_236_23_7 (allC c_236_23_8 (allC c_236_23_9 (allC c_236_23_10 (allC c_236_23_11 (allC c_236_23_12 (allC c_236_23_13 (allC c_236_23_14 allN)))))))))))))))⟩) (allC (.inl ⟨p_236_96, r_236_96, fun q0 => (allC c_236_96_0 (allC c_236_96_1 (allC c_236_96_2 (allC c_236_96_3 (allC c_236_96_4 (allC c_236_96_5 (allC c_236_96_6 (allC c_236_96_7 (allC c_236_96_8 (allC c_236_96_9 (allC c_236_96_10 (allC c_236_96_11 (allC c_236_96_12 (allC c_236_96_13 (allC c_236_96_14 (allC c_236_96_15 allN))))))))))))))))⟩) (allC (.inl ⟨p_236_187, r_236_187, fun q0 => (allC c_236_187_0 (allC c_236_187_1 (allC c_236_187_2 (allC c_236_187_3 (allC c_236_187_4 (allC c_236_187_5 (allC c_236_187_6 (allC c_236_187_7 (allC c_236_187_8 (allC c_236_187_9 (allC c_236_187_10 (allC c_236_187_11 (allC c_236_187_12 (allC c_236_187_13 (allC c_236_187_14 (allC c_236_187_15 (allC c_236_187_16 (allC c_236_187_17 (allC c_236_187_18 allN)))))))))))))))))))⟩) allN))))
