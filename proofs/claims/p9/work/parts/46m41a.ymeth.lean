/-! CONTRACTS of methods (printed by wip/gen/emit.py). -/
/- MixStageModel.reel (I)Z -/
noncomputable def s_240 : vM := ([(3, 12, 285, 0), (0, -2147483648, 2147483647, 0)], (0, 0, 1, 0), 0, 0, [(428, 0)])
noncomputable def e_240 : vE := (240, s_240, pre0, post0)
noncomputable def L_240 : List vE := []
def cs_240 : List vC := []
def A_240 : Int → List Int → gH → gH → Prop := fun c xs h0 h => True
def mu_240 : Int → List Int → gH → gH → Nat := fun c xs h0 h => 0
theorem q_240_0 {n0 n1 n2 n3 : Int} {H0 : gH} (f0 : n0 ≤ 2147483647) (f1 : (-2147483648) ≤ n0) (f2 : n1 = 285) (f3 : hWt T0 H0 ∧ True) (f4 : n2 = 1) (f5 : n2 ≤ n0) (f6 : n3 = 60) (f7 : n0 ≤ n3) : 0 ≤ n0 := by
  omega
theorem c_240_s_0 : vOkm T0 (eP e_240 L_240 A_240 mu_240 none) 2 ([(45, [1, 3], [], 0), (0, [3], [], 60), (43, [1, 2], [], 0), (0, [2], [], 1), (6000, [0, 1], [0], 0), (0, [0], [], 285), (90, [1], [], -2147483648), (91, [1], [], 2147483647)], (90, [1], [], 0)) := vOk_inI fun ρ η f0 f1 f2 f3 f4 f5 f6 f7 => q_240_0 (n0 := ρ 1) (n1 := ρ 0) (n2 := ρ 2) (n3 := ρ 3) (H0 := η 0) f7 f6 f5 f4 f3 f2 f1 f0
theorem q_240_1 {n0 n1 n2 n3 : Int} {H0 : gH} (f0 : n0 ≤ 2147483647) (f1 : (-2147483648) ≤ n0) (f2 : n1 = 285) (f3 : hWt T0 H0 ∧ True) (f4 : n2 = 1) (f5 : n2 ≤ n0) (f6 : n3 = 60) (f7 : n0 ≤ n3) : n0 ≤ 60 := by
  omega
theorem c_240_s_1 : vOkm T0 (eP e_240 L_240 A_240 mu_240 none) 2 ([(45, [1, 3], [], 0), (0, [3], [], 60), (43, [1, 2], [], 0), (0, [2], [], 1), (6000, [0, 1], [0], 0), (0, [0], [], 285), (90, [1], [], -2147483648), (91, [1], [], 2147483647)], (91, [1], [], 60)) := vOk_inI fun ρ η f0 f1 f2 f3 f4 f5 f6 f7 => q_240_1 (n0 := ρ 1) (n1 := ρ 0) (n2 := ρ 2) (n3 := ρ 3) (H0 := η 0) f7 f6 f5 f4 f3 f2 f1 f0
def p_240_s : List vG := [([(45, [1, 3], [], 0), (0, [3], [], 60), (43, [1, 2], [], 0), (0, [2], [], 1), (6000, [0, 1], [0], 0), (0, [0], [], 285), (90, [1], [], -2147483648), (91, [1], [], 2147483647)], (90, [1], [], 0)),
  ([(45, [1, 3], [], 0), (0, [3], [], 60), (43, [1, 2], [], 0), (0, [2], [], 1), (6000, [0, 1], [0], 0), (0, [0], [], 285), (90, [1], [], -2147483648), (91, [1], [], 2147483647)], (91, [1], [], 60))]
theorem r_240_s : vCovO true (eR0 e_240 L_240 cs_240 2000) p_240_s = true := by decide +kernel
theorem m_240 (d : Nat) : eC e_240 (d + 1) := eC_ok (e := e_240) (L := L_240) (cs := cs_240) (n := 2000) (d := d + 0) (A := A_240) (μ := mu_240) (tp := true) (p0 := p_240_s) rfl trivial rfl (.inr pre0_ok) (by decide +kernel) (fun _ => post0_ok) r_240_s (allC c_240_s_0 (allC c_240_s_1 allN)) allN
/- MixStageModel.edition ()I -/
noncomputable def s_241 : vM := ([(3, 12, 285, 0)], (0, -2147483648, 2147483647, 0), 0, 0, [(12, 60), (428, 0), (436, 0)])
noncomputable def e_241 : vE := (241, s_241, pre0, post0)
noncomputable def L_241 : List vE := []
def cs_241 : List vC := []
def A_241 : Int → List Int → gH → gH → Prop := fun c xs h0 h => True
def mu_241 : Int → List Int → gH → gH → Nat := fun c xs h0 h => 0
theorem q_241_0 {n0 n1 n2 n3 n4 n5 : Int} {H0 : gH} (f0 : n0 = 285) (f1 : hWt T0 H0 ∧ True) (f2 : n1 ≤ 6) (f3 : 1 ≤ n1) (f4 : n1 = hV H0 (n0).toNat 60) (f5 : n2 = 6) (f6 : n1 ≠ n2) (f7 : n3 ≤ 6) (f8 : 1 ≤ n3) (f9 : n3 = hV H0 (n0).toNat 60) (f10 : n4 = 1) (f11 : n5 = w32 (n3 - n4)) : 0 ≤ n5 ∧ n5 < 6 := by
  have e0 : n1 = hV H0 285 60 := (by rw [f0] at f4; exact f4 : n1 = hV H0 285 60)
  have e1 : n3 = hV H0 285 60 := (by rw [f0] at f9; exact f9 : n3 = hV H0 285 60)
  clear f4 f9
  subst e0
  subst e1
  first
  | (have ix0 : n5 = hV H0 285 60 - 1 := Eq.trans f11 (w32_iv (Isu (Iat f3 f2) (IC 1)) (by decide)); subst ix0; clear f11)
  | (have ix0 : n5 = hV H0 285 60 - 1 := Eq.trans f11 (w32_id (by omega) (by omega)); subst ix0; clear f11)
  | (unfold w32 at f11; have ix0 : n5 = hV H0 285 60 - 1 := (by omega); subst ix0)
  | skip
  try unfold w32 at f11
  omega
theorem c_241_s_0 : vOkm T0 (eP e_241 L_241 A_241 mu_241 none) 1 ([(2, [6, 4, 5], [], 0), (0, [5], [], 1), (20, [4, 0], [0], 60), (90, [4], [], 1), (91, [4], [], 6), (41, [1, 2], [], 0), (0, [2], [], 6), (20, [1, 0], [0], 60), (90, [1], [], 1), (91, [1], [], 6), (6000, [0], [0], 0), (0, [0], [], 285)], (70, [6], [], 6)) := vOk_inI fun ρ η f0 f1 f2 f3 f4 f5 f6 f7 f8 f9 f10 f11 => q_241_0 (n0 := ρ 0) (n1 := ρ 1) (n2 := ρ 2) (n3 := ρ 4) (n4 := ρ 5) (n5 := ρ 6) (H0 := η 0) f11 f10 f9 f8 f7 f6 f5 f4 f3 f2 f1 f0
theorem q_241_1 {n0 n1 n2 n3 n4 n5 n6 : Int} {H0 : gH} (f0 : n0 = 285) (f1 : hWt T0 H0 ∧ True) (f2 : n1 ≤ 6) (f3 : 1 ≤ n1) (f4 : n1 = hV H0 (n0).toNat 60) (f5 : n2 = 6) (f6 : n1 ≠ n2) (f7 : n3 ≤ 6) (f8 : 1 ≤ n3) (f9 : n3 = hV H0 (n0).toNat 60) (f10 : n4 = 1) (f11 : n5 = w32 (n3 - n4)) (f12 : n6 ≤ 6) (f13 : 1 ≤ n6) (f14 : n6 = hV H0 (n0).toNat 60) : 0 ≤ n6 ∧ n6 < 6 := by
  have e0 : n1 = hV H0 285 60 := (by rw [f0] at f4; exact f4 : n1 = hV H0 285 60)
  have e1 : n3 = hV H0 285 60 := (by rw [f0] at f9; exact f9 : n3 = hV H0 285 60)
  have e2 : n6 = hV H0 285 60 := (by rw [f0] at f14; exact f14 : n6 = hV H0 285 60)
  clear f4 f9 f14
  subst e0
  subst e1
  subst e2
  unfold w32 at f11
  omega
theorem c_241_s_1 : vOkm T0 (eP e_241 L_241 A_241 mu_241 none) 1 ([(20, [9, 0], [0], 60), (90, [9], [], 1), (91, [9], [], 6), (2, [6, 4, 5], [], 0), (0, [5], [], 1), (20, [4, 0], [0], 60), (90, [4], [], 1), (91, [4], [], 6), (41, [1, 2], [], 0), (0, [2], [], 6), (20, [1, 0], [0], 60), (90, [1], [], 1), (91, [1], [], 6), (6000, [0], [0], 0), (0, [0], [], 285)], (70, [9], [], 6)) := vOk_inI fun ρ η f0 f1 f2 f3 f4 f5 f6 f7 f8 f9 f10 f11 f12 f13 f14 => q_241_1 (n0 := ρ 0) (n1 := ρ 1) (n2 := ρ 2) (n3 := ρ 4) (n4 := ρ 5) (n5 := ρ 6) (n6 := ρ 9) (H0 := η 0) f14 f13 f12 f11 f10 f9 f8 f7 f6 f5 f4 f3 f2 f1 f0
theorem q_241_2 {n0 n1 n2 n3 n4 n5 n6 n7 n8 n9 n10 : Int} {H0 H1 : gH} (f0 : n0 = 285) (f1 : hWt T0 H0 ∧ True) (f2 : n1 ≤ 6) (f3 : 1 ≤ n1) (f4 : n1 = hV H0 (n0).toNat 60) (f5 : n2 = 6) (f6 : n1 ≠ n2) (f7 : n3 = 325) (f8 : n3 = hV H0 (n0).toNat 61) (f9 : n4 ≤ 6) (f10 : 1 ≤ n4) (f11 : n4 = hV H0 (n0).toNat 60) (f12 : n5 = 1) (f13 : n6 = w32 (n4 - n5)) (f14 : n7 = 325) (f15 : n7 = hV H0 (n0).toNat 61) (f16 : n8 ≤ 6) (f17 : 1 ≤ n8) (f18 : n8 = hV H0 (n0).toNat 60) (f19 : n9 = 0) (f20 : hUpd H1 H0 n7 n8 n9) (f21 : n10 ≤ 6) (f22 : 1 ≤ n10) (f23 : n10 = hV H1 (n0).toNat 60) : 0 ≤ n10 ∧ n10 < 6 := by
  have e0 : n1 = hV H0 285 60 := (by rw [f0] at f4; exact f4 : n1 = hV H0 285 60)
  have e1 : n4 = hV H0 285 60 := (by rw [f0] at f11; exact f11 : n4 = hV H0 285 60)
  have e2 : n8 = hV H0 285 60 := (by rw [f0] at f18; exact f18 : n8 = hV H0 285 60)
  have e4 : n10 = hV H0 285 60 := (by rw [f0] at f23; exact f23 : n10 = hV H1 285 60).trans ((uPlace f20 285 60 (iS (show n7 = ((325 : Nat) : Int) from f14) rfl)))
  clear f4 f8 f11 f15 f18 f23
  subst e0
  subst e1
  subst e2
  subst e4
  unfold w32 at f13
  omega
theorem c_241_s_2 : vOkm T0 (eP e_241 L_241 A_241 mu_241 none) 1 ([(20, [12, 0], [1], 60), (90, [12], [], 1), (91, [12], [], 6), (80, [8, 9, 10], [1, 0], 0), (0, [10], [], 0), (20, [9, 0], [0], 60), (90, [9], [], 1), (91, [9], [], 6), (20, [8, 0], [0], 61), (0, [8], [], 325), (2, [6, 4, 5], [], 0), (0, [5], [], 1), (20, [4, 0], [0], 60), (90, [4], [], 1), (91, [4], [], 6), (20, [3, 0], [0], 61), (0, [3], [], 325), (41, [1, 2], [], 0), (0, [2], [], 6), (20, [1, 0], [0], 60), (90, [1], [], 1), (91, [1], [], 6), (6000, [0], [0], 0), (0, [0], [], 285)], (70, [12], [], 6)) := vOk_inI fun ρ η f0 f1 f2 f3 f4 f5 f6 f7 f8 f9 f10 f11 f12 f13 f14 f15 f16 f17 f18 f19 f20 f21 f22 f23 => q_241_2 (n0 := ρ 0) (n1 := ρ 1) (n2 := ρ 2) (n3 := ρ 3) (n4 := ρ 4) (n5 := ρ 5) (n6 := ρ 6) (n7 := ρ 8) (n8 := ρ 9) (n9 := ρ 10) (n10 := ρ 12) (H0 := η 0) (H1 := η 1) f23 f22 f21 f20 f19 f18 f17 f16 f15 f14 f13 f12 f11 f10 f9 f8 f7 f6 f5 f4 f3 f2 f1 f0
theorem q_241_3 {n0 n1 n2 n3 n4 n5 n6 n7 n8 n9 n10 n11 n12 n13 n14 n15 : Int} {H0 H1 H2 : gH} (f0 : n0 = 285) (f1 : hWt T0 H0 ∧ True) (f2 : n1 ≤ 6) (f3 : 1 ≤ n1) (f4 : n1 = hV H0 (n0).toNat 60) (f5 : n2 = 6) (f6 : n1 ≠ n2) (f7 : n3 = 325) (f8 : n3 = hV H0 (n0).toNat 61) (f9 : n4 ≤ 6) (f10 : 1 ≤ n4) (f11 : n4 = hV H0 (n0).toNat 60) (f12 : n5 = 1) (f13 : n6 = w32 (n4 - n5)) (f14 : n7 = 325) (f15 : n7 = hV H0 (n0).toNat 61) (f16 : n8 ≤ 6) (f17 : 1 ≤ n8) (f18 : n8 = hV H0 (n0).toNat 60) (f19 : n9 = 0) (f20 : hUpd H1 H0 n7 n8 n9) (f21 : n10 = 326) (f22 : n10 = hV H1 (n0).toNat 62) (f23 : n11 ≤ 6) (f24 : 1 ≤ n11) (f25 : n11 = hV H1 (n0).toNat 60) (f26 : n12 = 0) (f27 : hUpd H2 H1 n10 n11 n12) (f28 : n13 ≤ 6) (f29 : 1 ≤ n13) (f30 : n13 = hV H2 (n0).toNat 60) (f31 : n14 = 1) (f32 : n15 = w32 (n13 + n14)) : 1 ≤ n15 := by
  have e0 : n1 = hV H0 285 60 := (by rw [f0] at f4; exact f4 : n1 = hV H0 285 60)
  have e1 : n4 = hV H0 285 60 := (by rw [f0] at f11; exact f11 : n4 = hV H0 285 60)
  have e2 : n8 = hV H0 285 60 := (by rw [f0] at f18; exact f18 : n8 = hV H0 285 60)
  have e4 : n11 = hV H0 285 60 := (by rw [f0] at f25; exact f25 : n11 = hV H1 285 60).trans ((uPlace f20 285 60 (iS (show n7 = ((325 : Nat) : Int) from f14) rfl)))
  have e6 : n13 = hV H0 285 60 := (by rw [f0] at f30; exact f30 : n13 = hV H2 285 60).trans (((uPlace f27 285 60 (iS (show n10 = ((326 : Nat) : Int) from f21) rfl))).trans (uPlace f20 285 60 (iS (show n7 = ((325 : Nat) : Int) from f14) rfl)))
  clear f4 f8 f11 f15 f18 f22 f25 f30
  subst e0
  subst e1
  subst e2
  subst e4
  subst e6
  first
  | (have ix0 : n15 = hV H0 285 60 + 1 := Eq.trans f32 (w32_iv (Iad (Iat f3 f2) (IC 1)) (by decide)); subst ix0; clear f32)
  | (have ix0 : n15 = hV H0 285 60 + 1 := Eq.trans f32 (w32_id (by omega) (by omega)); subst ix0; clear f32)
  | (unfold w32 at f32; have ix0 : n15 = hV H0 285 60 + 1 := (by omega); subst ix0)
  | skip
  try unfold w32 at f13
  try unfold w32 at f32
  omega
theorem c_241_s_3 : vOkm T0 (eP e_241 L_241 A_241 mu_241 none) 1 ([(1, [16, 14, 15], [], 0), (0, [15], [], 1), (20, [14, 0], [2], 60), (90, [14], [], 1), (91, [14], [], 6), (80, [11, 12, 13], [2, 1], 0), (0, [13], [], 0), (20, [12, 0], [1], 60), (90, [12], [], 1), (91, [12], [], 6), (20, [11, 0], [1], 62), (0, [11], [], 326), (80, [8, 9, 10], [1, 0], 0), (0, [10], [], 0), (20, [9, 0], [0], 60), (90, [9], [], 1), (91, [9], [], 6), (20, [8, 0], [0], 61), (0, [8], [], 325), (2, [6, 4, 5], [], 0), (0, [5], [], 1), (20, [4, 0], [0], 60), (90, [4], [], 1), (91, [4], [], 6), (20, [3, 0], [0], 61), (0, [3], [], 325), (41, [1, 2], [], 0), (0, [2], [], 6), (20, [1, 0], [0], 60), (90, [1], [], 1), (91, [1], [], 6), (6000, [0], [0], 0), (0, [0], [], 285)], (90, [16], [], 1)) := vOk_inI fun ρ η f0 f1 f2 f3 f4 f5 f6 f7 f8 f9 f10 f11 f12 f13 f14 f15 f16 f17 f18 f19 f20 f21 f22 f23 f24 f25 f26 f27 f28 f29 f30 f31 f32 => q_241_3 (n0 := ρ 0) (n1 := ρ 1) (n2 := ρ 2) (n3 := ρ 3) (n4 := ρ 4) (n5 := ρ 5) (n6 := ρ 6) (n7 := ρ 8) (n8 := ρ 9) (n9 := ρ 10) (n10 := ρ 11) (n11 := ρ 12) (n12 := ρ 13) (n13 := ρ 14) (n14 := ρ 15) (n15 := ρ 16) (H0 := η 0) (H1 := η 1) (H2 := η 2) f32 f31 f30 f29 f28 f27 f26 f25 f24 f23 f22 f21 f20 f19 f18 f17 f16 f15 f14 f13 f12 f11 f10 f9 f8 f7 f6 f5 f4 f3 f2 f1 f0
theorem q_241_4 {n0 n1 n2 n3 n4 n5 n6 n7 n8 n9 n10 n11 n12 n13 n14 n15 : Int} {H0 H1 H2 : gH} (f0 : n0 = 285) (f1 : hWt T0 H0 ∧ True) (f2 : n1 ≤ 6) (f3 : 1 ≤ n1) (f4 : n1 = hV H0 (n0).toNat 60) (f5 : n2 = 6) (f6 : n1 ≠ n2) (f7 : n3 = 325) (f8 : n3 = hV H0 (n0).toNat 61) (f9 : n4 ≤ 6) (f10 : 1 ≤ n4) (f11 : n4 = hV H0 (n0).toNat 60) (f12 : n5 = 1) (f13 : n6 = w32 (n4 - n5)) (f14 : n7 = 325) (f15 : n7 = hV H0 (n0).toNat 61) (f16 : n8 ≤ 6) (f17 : 1 ≤ n8) (f18 : n8 = hV H0 (n0).toNat 60) (f19 : n9 = 0) (f20 : hUpd H1 H0 n7 n8 n9) (f21 : n10 = 326) (f22 : n10 = hV H1 (n0).toNat 62) (f23 : n11 ≤ 6) (f24 : 1 ≤ n11) (f25 : n11 = hV H1 (n0).toNat 60) (f26 : n12 = 0) (f27 : hUpd H2 H1 n10 n11 n12) (f28 : n13 ≤ 6) (f29 : 1 ≤ n13) (f30 : n13 = hV H2 (n0).toNat 60) (f31 : n14 = 1) (f32 : n15 = w32 (n13 + n14)) : n15 ≤ 6 := by
  have e0 : n1 = hV H0 285 60 := (by rw [f0] at f4; exact f4 : n1 = hV H0 285 60)
  have e1 : n4 = hV H0 285 60 := (by rw [f0] at f11; exact f11 : n4 = hV H0 285 60)
  have e2 : n8 = hV H0 285 60 := (by rw [f0] at f18; exact f18 : n8 = hV H0 285 60)
  have e4 : n11 = hV H0 285 60 := (by rw [f0] at f25; exact f25 : n11 = hV H1 285 60).trans ((uPlace f20 285 60 (iS (show n7 = ((325 : Nat) : Int) from f14) rfl)))
  have e6 : n13 = hV H0 285 60 := (by rw [f0] at f30; exact f30 : n13 = hV H2 285 60).trans (((uPlace f27 285 60 (iS (show n10 = ((326 : Nat) : Int) from f21) rfl))).trans (uPlace f20 285 60 (iS (show n7 = ((325 : Nat) : Int) from f14) rfl)))
  clear f4 f8 f11 f15 f18 f22 f25 f30
  subst e0
  subst e1
  subst e2
  subst e4
  subst e6
  first
  | (have ix0 : n15 = hV H0 285 60 + 1 := Eq.trans f32 (w32_iv (Iad (Iat f3 f2) (IC 1)) (by decide)); subst ix0; clear f32)
  | (have ix0 : n15 = hV H0 285 60 + 1 := Eq.trans f32 (w32_id (by omega) (by omega)); subst ix0; clear f32)
  | (unfold w32 at f32; have ix0 : n15 = hV H0 285 60 + 1 := (by omega); subst ix0)
  | skip
  try unfold w32 at f13
  try unfold w32 at f32
  omega
theorem c_241_s_4 : vOkm T0 (eP e_241 L_241 A_241 mu_241 none) 1 ([(1, [16, 14, 15], [], 0), (0, [15], [], 1), (20, [14, 0], [2], 60), (90, [14], [], 1), (91, [14], [], 6), (80, [11, 12, 13], [2, 1], 0), (0, [13], [], 0), (20, [12, 0], [1], 60), (90, [12], [], 1), (91, [12], [], 6), (20, [11, 0], [1], 62), (0, [11], [], 326), (80, [8, 9, 10], [1, 0], 0), (0, [10], [], 0), (20, [9, 0], [0], 60), (90, [9], [], 1), (91, [9], [], 6), (20, [8, 0], [0], 61), (0, [8], [], 325), (2, [6, 4, 5], [], 0), (0, [5], [], 1), (20, [4, 0], [0], 60), (90, [4], [], 1), (91, [4], [], 6), (20, [3, 0], [0], 61), (0, [3], [], 325), (41, [1, 2], [], 0), (0, [2], [], 6), (20, [1, 0], [0], 60), (90, [1], [], 1), (91, [1], [], 6), (6000, [0], [0], 0), (0, [0], [], 285)], (91, [16], [], 6)) := vOk_inI fun ρ η f0 f1 f2 f3 f4 f5 f6 f7 f8 f9 f10 f11 f12 f13 f14 f15 f16 f17 f18 f19 f20 f21 f22 f23 f24 f25 f26 f27 f28 f29 f30 f31 f32 => q_241_4 (n0 := ρ 0) (n1 := ρ 1) (n2 := ρ 2) (n3 := ρ 3) (n4 := ρ 4) (n5 := ρ 5) (n6 := ρ 6) (n7 := ρ 8) (n8 := ρ 9) (n9 := ρ 10) (n10 := ρ 11) (n11 := ρ 12) (n12 := ρ 13) (n13 := ρ 14) (n14 := ρ 15) (n15 := ρ 16) (H0 := η 0) (H1 := η 1) (H2 := η 2) f32 f31 f30 f29 f28 f27 f26 f25 f24 f23 f22 f21 f20 f19 f18 f17 f16 f15 f14 f13 f12 f11 f10 f9 f8 f7 f6 f5 f4 f3 f2 f1 f0
def p_241_s : List vG := [([(2, [6, 4, 5], [], 0), (0, [5], [], 1), (20, [4, 0], [0], 60), (90, [4], [], 1), (91, [4], [], 6), (41, [1, 2], [], 0), (0, [2], [], 6), (20, [1, 0], [0], 60), (90, [1], [], 1), (91, [1], [], 6), (6000, [0], [0], 0), (0, [0], [], 285)], (70, [6], [], 6)),
  ([(20, [9, 0], [0], 60), (90, [9], [], 1), (91, [9], [], 6), (2, [6, 4, 5], [], 0), (0, [5], [], 1), (20, [4, 0], [0], 60), (90, [4], [], 1), (91, [4], [], 6), (41, [1, 2], [], 0), (0, [2], [], 6), (20, [1, 0], [0], 60), (90, [1], [], 1), (91, [1], [], 6), (6000, [0], [0], 0), (0, [0], [], 285)], (70, [9], [], 6)),
  ([(20, [12, 0], [1], 60), (90, [12], [], 1), (91, [12], [], 6), (80, [8, 9, 10], [1, 0], 0), (0, [10], [], 0), (20, [9, 0], [0], 60), (90, [9], [], 1), (91, [9], [], 6), (20, [8, 0], [0], 61), (0, [8], [], 325), (2, [6, 4, 5], [], 0), (0, [5], [], 1), (20, [4, 0], [0], 60), (90, [4], [], 1), (91, [4], [], 6), (20, [3, 0], [0], 61), (0, [3], [], 325), (41, [1, 2], [], 0), (0, [2], [], 6), (20, [1, 0], [0], 60), (90, [1], [], 1), (91, [1], [], 6), (6000, [0], [0], 0), (0, [0], [], 285)], (70, [12], [], 6)),
  ([(1, [16, 14, 15], [], 0), (0, [15], [], 1), (20, [14, 0], [2], 60), (90, [14], [], 1), (91, [14], [], 6), (80, [11, 12, 13], [2, 1], 0), (0, [13], [], 0), (20, [12, 0], [1], 60), (90, [12], [], 1), (91, [12], [], 6), (20, [11, 0], [1], 62), (0, [11], [], 326), (80, [8, 9, 10], [1, 0], 0), (0, [10], [], 0), (20, [9, 0], [0], 60), (90, [9], [], 1), (91, [9], [], 6), (20, [8, 0], [0], 61), (0, [8], [], 325), (2, [6, 4, 5], [], 0), (0, [5], [], 1), (20, [4, 0], [0], 60), (90, [4], [], 1), (91, [4], [], 6), (20, [3, 0], [0], 61), (0, [3], [], 325), (41, [1, 2], [], 0), (0, [2], [], 6), (20, [1, 0], [0], 60), (90, [1], [], 1), (91, [1], [], 6), (6000, [0], [0], 0), (0, [0], [], 285)], (90, [16], [], 1)),
  ([(1, [16, 14, 15], [], 0), (0, [15], [], 1), (20, [14, 0], [2], 60), (90, [14], [], 1), (91, [14], [], 6), (80, [11, 12, 13], [2, 1], 0), (0, [13], [], 0), (20, [12, 0], [1], 60), (90, [12], [], 1), (91, [12], [], 6), (20, [11, 0], [1], 62), (0, [11], [], 326), (80, [8, 9, 10], [1, 0], 0), (0, [10], [], 0), (20, [9, 0], [0], 60), (90, [9], [], 1), (91, [9], [], 6), (20, [8, 0], [0], 61), (0, [8], [], 325), (2, [6, 4, 5], [], 0), (0, [5], [], 1), (20, [4, 0], [0], 60), (90, [4], [], 1), (91, [4], [], 6), (20, [3, 0], [0], 61), (0, [3], [], 325), (41, [1, 2], [], 0), (0, [2], [], 6), (20, [1, 0], [0], 60), (90, [1], [], 1), (91, [1], [], 6), (6000, [0], [0], 0), (0, [0], [], 285)], (91, [16], [], 6))]
theorem r_241_s : vCovO true (eR0 e_241 L_241 cs_241 2000) p_241_s = true := by decide +kernel
theorem m_241 (d : Nat) : eC e_241 (d + 1) := eC_ok (e := e_241) (L := L_241) (cs := cs_241) (n := 2000) (d := d + 0) (A := A_241) (μ := mu_241) (tp := true) (p0 := p_241_s) rfl trivial rfl (.inr pre0_ok) (by decide +kernel) (fun _ => post0_ok) r_241_s (allC c_241_s_0 (allC c_241_s_1 (allC c_241_s_2 (allC c_241_s_3 (allC c_241_s_4 allN))))) allN
/- MixStageModel.mayCut (I)Z -/
noncomputable def s_242 : vM := ([(3, 12, 285, 0), (0, 0, 60, 0)], (0, 0, 1, 0), 0, 0, [])
def postb_242 (r a0 a1 : Int) (h0 h : gH) : Prop := r ≠ 0 → 1 ≤ hV h 285 60 - 1 ∧ hV h 326 ((hV h 285 60 - 1).toNat) ≤ 9 ∧ hV h 325 ((hV h 285 60 - 1).toNat) + a1 ≤ 60
def post_242 : List Int → gH → gH → Prop := fun xs h0 h => match xs with
  | [r, a0, a1] => postb_242 r a0 a1 h0 h
  | _ => True
noncomputable def e_242 : vE := (242, s_242, pre0, post_242)
noncomputable def L_242 : List vE := []
def cs_242 : List vC := [(39, [(0, (3, 12, 285, 0)), (1, (0, 0, 60, 0)), (2, (0, -2147483648, 2147483647, 0)), (3, (0, -2147483648, 2147483647, 0))])]
def Ab_242_39 (a0 a1 x0 x1 x2 x3 : Int) (h0 h : gH) : Prop := x1 = a1 ∧ x2 = hV h 285 60 - 1 ∧ 1 ≤ x2 ∧ hV h 326 ((x2).toNat) ≤ 9 ∧ hV h 325 ((x2).toNat) + a1 ≤ 60 ∧ 0 ≤ x3
def mub_242_39 (a0 a1 x0 x1 x2 x3 : Int) (h0 h : gH) : Nat := (2147483648 - x3).toNat
def A_242 : Int → List Int → gH → gH → Prop := fun c xs h0 h => match c.toNat with
  | 39 => (match xs with
    | [a0, a1, x0, x1, x2, x3] => Ab_242_39 a0 a1 x0 x1 x2 x3 h0 h
    | _ => False)
  | _ => True
def mu_242 : Int → List Int → gH → gH → Nat := fun c xs h0 h => match c.toNat with
  | 39 => (match xs with
    | [a0, a1, x0, x1, x2, x3] => mub_242_39 a0 a1 x0 x1 x2 x3 h0 h
    | _ => 0)
  | _ => 0
theorem kW_285_60 : vRg T0 285 60 (1) (6) = true := by decide +kernel
theorem q_242_0 {n0 n1 n2 n3 n4 n5 : Int} {H0 : gH} (f0 : n0 ≤ 60) (f1 : 0 ≤ n0) (f2 : n1 = 285) (f3 : hWt T0 H0 ∧ True) (f4 : n2 ≤ 6) (f5 : 1 ≤ n2) (f6 : n2 = hV H0 (n1).toNat 60) (f7 : n3 = 1) (f8 : n4 = w32 (n2 - n3)) (f9 : n4 = 0) (f10 : n5 = 0) : postb_242 n5 n1 n0 H0 H0 := by
  unfold postb_242
  have e0 : n2 = hV H0 285 60 := (by rw [f2] at f6; exact f6 : n2 = hV H0 285 60)
  have e1 : (1 : Int) ≤ hV H0 285 60 ∧ hV H0 285 60 ≤ 6 := f3.1 285 60 _ _ kW_285_60
  clear f6
  subst e0
  unfold w32 at f8
  first | assumption | omega | trivial
theorem c_242_s_0 : vOkm T0 (eP e_242 L_242 A_242 mu_242 none) 2 ([(0, [5], [], 0), (30, [4], [], 0), (2, [4, 2, 3], [], 0), (0, [3], [], 1), (20, [2, 0], [0], 60), (90, [2], [], 1), (91, [2], [], 6), (6000, [0, 1], [0], 0), (0, [0], [], 285), (90, [1], [], 0), (91, [1], [], 60)], (3000, [5], [0], 36)) := vOk_inI fun ρ η f0 f1 f2 f3 f4 f5 f6 f7 f8 f9 f10 => q_242_0 (n0 := ρ 1) (n1 := ρ 0) (n2 := ρ 2) (n3 := ρ 3) (n4 := ρ 4) (n5 := ρ 5) (H0 := η 0) f10 f9 f8 f7 f6 f5 f4 f3 f2 f1 f0
theorem q_242_1 {n0 n1 n2 n3 n4 : Int} {H0 : gH} (f0 : n0 ≤ 60) (f1 : 0 ≤ n0) (f2 : n1 = 285) (f3 : hWt T0 H0 ∧ True) (f4 : n2 ≤ 6) (f5 : 1 ≤ n2) (f6 : n2 = hV H0 (n1).toNat 60) (f7 : n3 = 1) (f8 : n4 = w32 (n2 - n3)) (f9 : n4 ≠ 0) : 0 ≤ n4 ∧ n4 < 6 := by
  have e0 : n2 = hV H0 285 60 := (by rw [f2] at f6; exact f6 : n2 = hV H0 285 60)
  clear f6
  subst e0
  first
  | (have ix0 : n4 = hV H0 285 60 - 1 := Eq.trans f8 (w32_iv (Isu (Iat f5 f4) (IC 1)) (by decide)); subst ix0; clear f8)
  | (have ix0 : n4 = hV H0 285 60 - 1 := Eq.trans f8 (w32_id (by omega) (by omega)); subst ix0; clear f8)
  | (unfold w32 at f8; have ix0 : n4 = hV H0 285 60 - 1 := (by omega); subst ix0)
  | skip
  try unfold w32 at f8
  omega
theorem c_242_s_1 : vOkm T0 (eP e_242 L_242 A_242 mu_242 none) 2 ([(31, [4], [], 0), (2, [4, 2, 3], [], 0), (0, [3], [], 1), (20, [2, 0], [0], 60), (90, [2], [], 1), (91, [2], [], 6), (6000, [0, 1], [0], 0), (0, [0], [], 285), (90, [1], [], 0), (91, [1], [], 60)], (70, [4], [], 6)) := vOk_inI fun ρ η f0 f1 f2 f3 f4 f5 f6 f7 f8 f9 => q_242_1 (n0 := ρ 1) (n1 := ρ 0) (n2 := ρ 2) (n3 := ρ 3) (n4 := ρ 4) (H0 := η 0) f9 f8 f7 f6 f5 f4 f3 f2 f1 f0
theorem q_242_2 {n0 n1 n2 n3 n4 n5 n6 n7 n8 : Int} {H0 : gH} (f0 : n0 ≤ 60) (f1 : 0 ≤ n0) (f2 : n1 = 285) (f3 : hWt T0 H0 ∧ True) (f4 : n2 ≤ 6) (f5 : 1 ≤ n2) (f6 : n2 = hV H0 (n1).toNat 60) (f7 : n3 = 1) (f8 : n4 = w32 (n2 - n3)) (f9 : n4 ≠ 0) (f10 : n5 = 326) (f11 : n5 = hV H0 (n1).toNat 62) (f12 : n6 ≤ 10) (f13 : 0 ≤ n6) (f14 : n6 = hV H0 (n5).toNat (n4).toNat) (f15 : n7 = 10) (f16 : n6 = n7) (f17 : n8 = 0) : postb_242 n8 n1 n0 H0 H0 := by
  unfold postb_242
  have e0 : n2 = hV H0 285 60 := (by rw [f2] at f6; exact f6 : n2 = hV H0 285 60)
  have e1 : n6 = hV H0 326 (n4).toNat := (by rw [f10] at f14; exact f14 : n6 = hV H0 326 (n4).toNat)
  have e2 : (1 : Int) ≤ hV H0 285 60 ∧ hV H0 285 60 ≤ 6 := f3.1 285 60 _ _ kW_285_60
  clear f6 f11 f14
  subst e0
  subst e1
  first
  | (have ix0 : n4 = hV H0 285 60 - 1 := Eq.trans f8 (w32_iv (Isu (Iat f5 f4) (IC 1)) (by decide)); subst ix0; clear f8)
  | (have ix0 : n4 = hV H0 285 60 - 1 := Eq.trans f8 (w32_id (by omega) (by omega)); subst ix0; clear f8)
  | (unfold w32 at f8; have ix0 : n4 = hV H0 285 60 - 1 := (by omega); subst ix0)
  | skip
  try unfold w32 at f8
  first | assumption | omega | trivial
theorem c_242_s_2 : vOkm T0 (eP e_242 L_242 A_242 mu_242 none) 2 ([(0, [8], [], 0), (40, [6, 7], [], 0), (0, [7], [], 10), (22, [6, 5, 4], [0], 0), (90, [6], [], 0), (91, [6], [], 10), (20, [5, 0], [0], 62), (0, [5], [], 326), (31, [4], [], 0), (2, [4, 2, 3], [], 0), (0, [3], [], 1), (20, [2, 0], [0], 60), (90, [2], [], 1), (91, [2], [], 6), (6000, [0, 1], [0], 0), (0, [0], [], 285), (90, [1], [], 0), (91, [1], [], 60)], (3000, [8], [0], 36)) := vOk_inI fun ρ η f0 f1 f2 f3 f4 f5 f6 f7 f8 f9 f10 f11 f12 f13 f14 f15 f16 f17 => q_242_2 (n0 := ρ 1) (n1 := ρ 0) (n2 := ρ 2) (n3 := ρ 3) (n4 := ρ 4) (n5 := ρ 5) (n6 := ρ 6) (n7 := ρ 7) (n8 := ρ 8) (H0 := η 0) f17 f16 f15 f14 f13 f12 f11 f10 f9 f8 f7 f6 f5 f4 f3 f2 f1 f0
theorem c_242_s_3 : vOkm T0 (eP e_242 L_242 A_242 mu_242 none) 2 ([(31, [4], [], 0), (2, [4, 2, 3], [], 0), (0, [3], [], 1), (20, [2, 0], [0], 60), (90, [2], [], 1), (91, [2], [], 6), (6000, [0, 1], [0], 0), (0, [0], [], 285), (90, [1], [], 0), (91, [1], [], 60)], (70, [4], [], 6)) := vOk_inI fun ρ η f0 f1 f2 f3 f4 f5 f6 f7 f8 f9 => q_242_1 (n0 := ρ 1) (n1 := ρ 0) (n2 := ρ 2) (n3 := ρ 3) (n4 := ρ 4) (H0 := η 0) f9 f8 f7 f6 f5 f4 f3 f2 f1 f0
theorem q_242_3 {n0 n1 n2 n3 n4 n5 n6 n7 n8 n9 n10 n11 n12 : Int} {H0 : gH} (f0 : n0 ≤ 60) (f1 : 0 ≤ n0) (f2 : n1 = 285) (f3 : hWt T0 H0 ∧ True) (f4 : n2 ≤ 6) (f5 : 1 ≤ n2) (f6 : n2 = hV H0 (n1).toNat 60) (f7 : n3 = 1) (f8 : n4 = w32 (n2 - n3)) (f9 : n4 ≠ 0) (f10 : n5 = 326) (f11 : n5 = hV H0 (n1).toNat 62) (f12 : n6 ≤ 10) (f13 : 0 ≤ n6) (f14 : n6 = hV H0 (n5).toNat (n4).toNat) (f15 : n7 = 10) (f16 : n6 ≠ n7) (f17 : n8 = 325) (f18 : n8 = hV H0 (n1).toNat 61) (f19 : n9 ≤ 60) (f20 : 0 ≤ n9) (f21 : n9 = hV H0 (n8).toNat (n4).toNat) (f22 : n10 = w32 (n9 + n0)) (f23 : n11 = 60) (f24 : n10 ≤ n11) (f25 : n12 = 0) : Ab_242_39 n1 n0 n1 n0 n4 n12 H0 H0 ∧ ∀ q, none = some q → mub_242_39 n1 n0 n1 n0 n4 n12 H0 H0 < q := by
  unfold Ab_242_39
  have e0 : n2 = hV H0 285 60 := (by rw [f2] at f6; exact f6 : n2 = hV H0 285 60)
  have e1 : n6 = hV H0 326 (n4).toNat := (by rw [f10] at f14; exact f14 : n6 = hV H0 326 (n4).toNat)
  have e2 : n9 = hV H0 325 (n4).toNat := (by rw [f17] at f21; exact f21 : n9 = hV H0 325 (n4).toNat)
  have e3 : (1 : Int) ≤ hV H0 285 60 ∧ hV H0 285 60 ≤ 6 := f3.1 285 60 _ _ kW_285_60
  clear f6 f11 f14 f18 f21
  subst e0
  subst e1
  subst e2
  first
  | (have ix0 : n4 = hV H0 285 60 - 1 := Eq.trans f8 (w32_iv (Isu (Iat f5 f4) (IC 1)) (by decide)); subst ix0; clear f8)
  | (have ix0 : n4 = hV H0 285 60 - 1 := Eq.trans f8 (w32_id (by omega) (by omega)); subst ix0; clear f8)
  | (unfold w32 at f8; have ix0 : n4 = hV H0 285 60 - 1 := (by omega); subst ix0)
  | skip
  try unfold w32 at f8
  try unfold w32 at f22
  refine ⟨?_, fun q hq => ?_⟩
  · refine ⟨?_, ?_, ?_, ?_, ?_, ?_⟩ <;> first | assumption | omega | trivial
  · exact nomatch hq
theorem c_242_s_4 : vOkm T0 (eP e_242 L_242 A_242 mu_242 none) 2 ([(0, [12], [], 0), (45, [10, 11], [], 0), (0, [11], [], 60), (1, [10, 9, 1], [], 0), (22, [9, 8, 4], [0], 0), (90, [9], [], 0), (91, [9], [], 60), (20, [8, 0], [0], 61), (0, [8], [], 325), (41, [6, 7], [], 0), (0, [7], [], 10), (22, [6, 5, 4], [0], 0), (90, [6], [], 0), (91, [6], [], 10), (20, [5, 0], [0], 62), (0, [5], [], 326), (31, [4], [], 0), (2, [4, 2, 3], [], 0), (0, [3], [], 1), (20, [2, 0], [0], 60), (90, [2], [], 1), (91, [2], [], 6), (6000, [0, 1], [0], 0), (0, [0], [], 285), (90, [1], [], 0), (91, [1], [], 60)], (4000, [0, 1, 4, 12], [0], 39)) := vOk_inI fun ρ η f0 f1 f2 f3 f4 f5 f6 f7 f8 f9 f10 f11 f12 f13 f14 f15 f16 f17 f18 f19 f20 f21 f22 f23 f24 f25 => q_242_3 (n0 := ρ 1) (n1 := ρ 0) (n2 := ρ 2) (n3 := ρ 3) (n4 := ρ 4) (n5 := ρ 5) (n6 := ρ 6) (n7 := ρ 7) (n8 := ρ 8) (n9 := ρ 9) (n10 := ρ 10) (n11 := ρ 11) (n12 := ρ 12) (H0 := η 0) f25 f24 f23 f22 f21 f20 f19 f18 f17 f16 f15 f14 f13 f12 f11 f10 f9 f8 f7 f6 f5 f4 f3 f2 f1 f0
theorem q_242_4 {n0 n1 n2 n3 n4 n5 n6 n7 n8 n9 n10 n11 n12 : Int} {H0 : gH} (f0 : n0 ≤ 60) (f1 : 0 ≤ n0) (f2 : n1 = 285) (f3 : hWt T0 H0 ∧ True) (f4 : n2 ≤ 6) (f5 : 1 ≤ n2) (f6 : n2 = hV H0 (n1).toNat 60) (f7 : n3 = 1) (f8 : n4 = w32 (n2 - n3)) (f9 : n4 ≠ 0) (f10 : n5 = 326) (f11 : n5 = hV H0 (n1).toNat 62) (f12 : n6 ≤ 10) (f13 : 0 ≤ n6) (f14 : n6 = hV H0 (n5).toNat (n4).toNat) (f15 : n7 = 10) (f16 : n6 ≠ n7) (f17 : n8 = 325) (f18 : n8 = hV H0 (n1).toNat 61) (f19 : n9 ≤ 60) (f20 : 0 ≤ n9) (f21 : n9 = hV H0 (n8).toNat (n4).toNat) (f22 : n10 = w32 (n9 + n0)) (f23 : n11 = 60) (f24 : n11 < n10) (f25 : n12 = 0) : postb_242 n12 n1 n0 H0 H0 := by
  unfold postb_242
  have e0 : n2 = hV H0 285 60 := (by rw [f2] at f6; exact f6 : n2 = hV H0 285 60)
  have e1 : n6 = hV H0 326 (n4).toNat := (by rw [f10] at f14; exact f14 : n6 = hV H0 326 (n4).toNat)
  have e2 : n9 = hV H0 325 (n4).toNat := (by rw [f17] at f21; exact f21 : n9 = hV H0 325 (n4).toNat)
  have e3 : (1 : Int) ≤ hV H0 285 60 ∧ hV H0 285 60 ≤ 6 := f3.1 285 60 _ _ kW_285_60
  clear f6 f11 f14 f18 f21
  subst e0
  subst e1
  subst e2
  first
  | (have ix0 : n4 = hV H0 285 60 - 1 := Eq.trans f8 (w32_iv (Isu (Iat f5 f4) (IC 1)) (by decide)); subst ix0; clear f8)
  | (have ix0 : n4 = hV H0 285 60 - 1 := Eq.trans f8 (w32_id (by omega) (by omega)); subst ix0; clear f8)
  | (unfold w32 at f8; have ix0 : n4 = hV H0 285 60 - 1 := (by omega); subst ix0)
  | skip
  try unfold w32 at f8
  try unfold w32 at f22
  first | assumption | omega | trivial
theorem c_242_s_5 : vOkm T0 (eP e_242 L_242 A_242 mu_242 none) 2 ([(0, [12], [], 0), (44, [10, 11], [], 0), (0, [11], [], 60), (1, [10, 9, 1], [], 0), (22, [9, 8, 4], [0], 0), (90, [9], [], 0), (91, [9], [], 60), (20, [8, 0], [0], 61), (0, [8], [], 325), (41, [6, 7], [], 0), (0, [7], [], 10), (22, [6, 5, 4], [0], 0), (90, [6], [], 0), (91, [6], [], 10), (20, [5, 0], [0], 62), (0, [5], [], 326), (31, [4], [], 0), (2, [4, 2, 3], [], 0), (0, [3], [], 1), (20, [2, 0], [0], 60), (90, [2], [], 1), (91, [2], [], 6), (6000, [0, 1], [0], 0), (0, [0], [], 285), (90, [1], [], 0), (91, [1], [], 60)], (3000, [12], [0], 36)) := vOk_inI fun ρ η f0 f1 f2 f3 f4 f5 f6 f7 f8 f9 f10 f11 f12 f13 f14 f15 f16 f17 f18 f19 f20 f21 f22 f23 f24 f25 => q_242_4 (n0 := ρ 1) (n1 := ρ 0) (n2 := ρ 2) (n3 := ρ 3) (n4 := ρ 4) (n5 := ρ 5) (n6 := ρ 6) (n7 := ρ 7) (n8 := ρ 8) (n9 := ρ 9) (n10 := ρ 10) (n11 := ρ 11) (n12 := ρ 12) (H0 := η 0) f25 f24 f23 f22 f21 f20 f19 f18 f17 f16 f15 f14 f13 f12 f11 f10 f9 f8 f7 f6 f5 f4 f3 f2 f1 f0
def p_242_s : List vG := [([(0, [5], [], 0), (30, [4], [], 0), (2, [4, 2, 3], [], 0), (0, [3], [], 1), (20, [2, 0], [0], 60), (90, [2], [], 1), (91, [2], [], 6), (6000, [0, 1], [0], 0), (0, [0], [], 285), (90, [1], [], 0), (91, [1], [], 60)], (3000, [5], [0], 36)),
  ([(31, [4], [], 0), (2, [4, 2, 3], [], 0), (0, [3], [], 1), (20, [2, 0], [0], 60), (90, [2], [], 1), (91, [2], [], 6), (6000, [0, 1], [0], 0), (0, [0], [], 285), (90, [1], [], 0), (91, [1], [], 60)], (70, [4], [], 6)),
  ([(0, [8], [], 0), (40, [6, 7], [], 0), (0, [7], [], 10), (22, [6, 5, 4], [0], 0), (90, [6], [], 0), (91, [6], [], 10), (20, [5, 0], [0], 62), (0, [5], [], 326), (31, [4], [], 0), (2, [4, 2, 3], [], 0), (0, [3], [], 1), (20, [2, 0], [0], 60), (90, [2], [], 1), (91, [2], [], 6), (6000, [0, 1], [0], 0), (0, [0], [], 285), (90, [1], [], 0), (91, [1], [], 60)], (3000, [8], [0], 36)),
  ([(31, [4], [], 0), (2, [4, 2, 3], [], 0), (0, [3], [], 1), (20, [2, 0], [0], 60), (90, [2], [], 1), (91, [2], [], 6), (6000, [0, 1], [0], 0), (0, [0], [], 285), (90, [1], [], 0), (91, [1], [], 60)], (70, [4], [], 6)),
  ([(0, [12], [], 0), (45, [10, 11], [], 0), (0, [11], [], 60), (1, [10, 9, 1], [], 0), (22, [9, 8, 4], [0], 0), (90, [9], [], 0), (91, [9], [], 60), (20, [8, 0], [0], 61), (0, [8], [], 325), (41, [6, 7], [], 0), (0, [7], [], 10), (22, [6, 5, 4], [0], 0), (90, [6], [], 0), (91, [6], [], 10), (20, [5, 0], [0], 62), (0, [5], [], 326), (31, [4], [], 0), (2, [4, 2, 3], [], 0), (0, [3], [], 1), (20, [2, 0], [0], 60), (90, [2], [], 1), (91, [2], [], 6), (6000, [0, 1], [0], 0), (0, [0], [], 285), (90, [1], [], 0), (91, [1], [], 60)], (4000, [0, 1, 4, 12], [0], 39)),
  ([(0, [12], [], 0), (44, [10, 11], [], 0), (0, [11], [], 60), (1, [10, 9, 1], [], 0), (22, [9, 8, 4], [0], 0), (90, [9], [], 0), (91, [9], [], 60), (20, [8, 0], [0], 61), (0, [8], [], 325), (41, [6, 7], [], 0), (0, [7], [], 10), (22, [6, 5, 4], [0], 0), (90, [6], [], 0), (91, [6], [], 10), (20, [5, 0], [0], 62), (0, [5], [], 326), (31, [4], [], 0), (2, [4, 2, 3], [], 0), (0, [3], [], 1), (20, [2, 0], [0], 60), (90, [2], [], 1), (91, [2], [], 6), (6000, [0, 1], [0], 0), (0, [0], [], 285), (90, [1], [], 0), (91, [1], [], 60)], (3000, [12], [0], 36))]
theorem r_242_s : vCovO false (eR0 e_242 L_242 cs_242 2000) p_242_s = true := by decide +kernel
theorem kR_242_325 : vFreeR s_242.2.2.2.2 325 = true := by decide +kernel
theorem kR_242_326 : vFreeR s_242.2.2.2.2 326 = true := by decide +kernel
theorem kF_242_285_18 : vFree s_242.2.2.2.2 285 18 = true := by decide +kernel
theorem kF_242_285_60 : vFree s_242.2.2.2.2 285 60 = true := by decide +kernel
theorem q_242_5 {q0 : Nat} {n0 n1 n2 n3 n4 n5 n6 n7 : Int} {H0 H1 : gH} (f0 : n0 ≤ 2147483647) (f1 : (-2147483648) ≤ n0) (f2 : n1 ≤ 2147483647) (f3 : (-2147483648) ≤ n1) (f4 : n2 ≤ 60) (f5 : 0 ≤ n2) (f6 : n3 = 285) (f7 : n4 ≤ 60) (f8 : 0 ≤ n4) (f9 : n5 = 285) (f10 : (hLe T0 H0 H1 ∧ hFr s_242.2.2.2.2 H0 H1 ∧ hWt T0 H1) ∧ (Ab_242_39 n5 n4 n3 n2 n1 n0 H0 H1 ∧ True) ∧ some q0 = some (mub_242_39 n5 n4 n3 n2 n1 n0 H0 H1)) (f11 : n6 ≤ 8) (f12 : 0 ≤ n6) (f13 : n6 = hV H1 (n3).toNat 18) (f14 : n6 ≤ n0) (f15 : n7 = 1) : postb_242 n7 n5 n4 H0 H1 := by
  have g4 := f10.2.1.1
  unfold Ab_242_39 at g4
  unfold postb_242
  have e1 : n6 = hV H0 285 18 := (by rw [f6] at f13; exact f13 : n6 = hV H1 285 18).trans ((f10.1.2.1.1 285 18 kF_242_285_18))
  have e3 : hV H1 285 60 = hV H0 285 60 := (f10.1.2.1.1 285 60 kF_242_285_60)
  have e4 : hV H1 325 = hV H0 325 := fRow f10.1.2.1 325 kR_242_325
  have e5 : hV H1 326 = hV H0 326 := fRow f10.1.2.1 326 kR_242_326
  have e6 : (1 : Int) ≤ hV H0 285 60 ∧ hV H0 285 60 ≤ 6 := bTo e3 (f10.1.2.2 285 60 _ _ kW_285_60)
  try simp only [e3, e4, e5] at f10
  try simp only [e3, e4, e5] at g4
  try simp only [e3, e4, e5]
  have k0 := g4.1
  have y0 := g4.2.1
  have y1 := g4.2.2.1
  have y2 := g4.2.2.2.1
  have y3 := g4.2.2.2.2.1
  have y4 := g4.2.2.2.2.2
  clear g4
  clear f13 e3 e4 e5
  subst e1
  subst y0
  first | assumption | omega | trivial
theorem c_242_39_0 {q0 : Nat} : vOkm T0 (eP e_242 L_242 A_242 mu_242 (some q0)) 2 ([(0, [7], [], 1), (43, [5, 6], [], 0), (20, [6, 2], [1], 18), (90, [6], [], 0), (91, [6], [], 8), (5000, [0, 1, 2, 3, 4, 5], [0, 1], 39), (0, [0], [], 285), (90, [1], [], 0), (91, [1], [], 60), (0, [2], [], 285), (90, [3], [], 0), (91, [3], [], 60), (90, [4], [], -2147483648), (91, [4], [], 2147483647), (90, [5], [], -2147483648), (91, [5], [], 2147483647)], (3000, [7], [1], 66)) := vOk_inI fun ρ η f0 f1 f2 f3 f4 f5 f6 f7 f8 f9 f10 f11 f12 f13 f14 f15 => q_242_5 (q0 := q0) (n0 := ρ 5) (n1 := ρ 4) (n2 := ρ 3) (n3 := ρ 2) (n4 := ρ 1) (n5 := ρ 0) (n6 := ρ 6) (n7 := ρ 7) (H0 := η 0) (H1 := η 1) f15 f14 f13 f12 f11 f10 f9 f8 f7 f6 f5 f4 f3 f2 f1 f0
theorem q_242_6 {q0 : Nat} {n0 n1 n2 n3 n4 n5 n6 : Int} {H0 H1 : gH} (f0 : n0 ≤ 2147483647) (f1 : (-2147483648) ≤ n0) (f2 : n1 ≤ 2147483647) (f3 : (-2147483648) ≤ n1) (f4 : n2 ≤ 60) (f5 : 0 ≤ n2) (f6 : n3 = 285) (f7 : n4 ≤ 60) (f8 : 0 ≤ n4) (f9 : n5 = 285) (f10 : (hLe T0 H0 H1 ∧ hFr s_242.2.2.2.2 H0 H1 ∧ hWt T0 H1) ∧ (Ab_242_39 n5 n4 n3 n2 n1 n0 H0 H1 ∧ True) ∧ some q0 = some (mub_242_39 n5 n4 n3 n2 n1 n0 H0 H1)) (f11 : n6 ≤ 8) (f12 : 0 ≤ n6) (f13 : n6 = hV H1 (n3).toNat 18) (f14 : n0 < n6) : 0 ≤ n0 ∧ n0 < 9 := by
  have g4 := f10.2.1.1
  unfold Ab_242_39 at g4
  have e1 : n6 = hV H0 285 18 := (by rw [f6] at f13; exact f13 : n6 = hV H1 285 18).trans ((f10.1.2.1.1 285 18 kF_242_285_18))
  have e3 : hV H1 285 60 = hV H0 285 60 := (f10.1.2.1.1 285 60 kF_242_285_60)
  have e4 : hV H1 325 = hV H0 325 := fRow f10.1.2.1 325 kR_242_325
  have e5 : hV H1 326 = hV H0 326 := fRow f10.1.2.1 326 kR_242_326
  have e6 : (1 : Int) ≤ hV H0 285 60 ∧ hV H0 285 60 ≤ 6 := bTo e3 (f10.1.2.2 285 60 _ _ kW_285_60)
  try simp only [e3, e4, e5] at f10
  try simp only [e3, e4, e5] at g4
  have k0 := g4.1
  have y0 := g4.2.1
  have y1 := g4.2.2.1
  have y2 := g4.2.2.2.1
  have y3 := g4.2.2.2.2.1
  have y4 := g4.2.2.2.2.2
  clear g4
  clear f13 e3 e4 e5
  subst e1
  subst y0
  omega
theorem c_242_39_1 {q0 : Nat} : vOkm T0 (eP e_242 L_242 A_242 mu_242 (some q0)) 2 ([(42, [5, 6], [], 0), (20, [6, 2], [1], 18), (90, [6], [], 0), (91, [6], [], 8), (5000, [0, 1, 2, 3, 4, 5], [0, 1], 39), (0, [0], [], 285), (90, [1], [], 0), (91, [1], [], 60), (0, [2], [], 285), (90, [3], [], 0), (91, [3], [], 60), (90, [4], [], -2147483648), (91, [4], [], 2147483647), (90, [5], [], -2147483648), (91, [5], [], 2147483647)], (70, [5], [], 9)) := vOk_inI fun ρ η f0 f1 f2 f3 f4 f5 f6 f7 f8 f9 f10 f11 f12 f13 f14 => q_242_6 (q0 := q0) (n0 := ρ 5) (n1 := ρ 4) (n2 := ρ 3) (n3 := ρ 2) (n4 := ρ 1) (n5 := ρ 0) (n6 := ρ 6) (H0 := η 0) (H1 := η 1) f14 f13 f12 f11 f10 f9 f8 f7 f6 f5 f4 f3 f2 f1 f0
theorem kR_242_293 : vFreeR s_242.2.2.2.2 293 = true := by decide +kernel
theorem q_242_7 {q0 : Nat} {n0 n1 n2 n3 n4 n5 n6 n7 n8 n9 : Int} {H0 H1 : gH} (f0 : n0 ≤ 2147483647) (f1 : (-2147483648) ≤ n0) (f2 : n1 ≤ 2147483647) (f3 : (-2147483648) ≤ n1) (f4 : n2 ≤ 60) (f5 : 0 ≤ n2) (f6 : n3 = 285) (f7 : n4 ≤ 60) (f8 : 0 ≤ n4) (f9 : n5 = 285) (f10 : (hLe T0 H0 H1 ∧ hFr s_242.2.2.2.2 H0 H1 ∧ hWt T0 H1) ∧ (Ab_242_39 n5 n4 n3 n2 n1 n0 H0 H1 ∧ True) ∧ some q0 = some (mub_242_39 n5 n4 n3 n2 n1 n0 H0 H1)) (f11 : n6 ≤ 8) (f12 : 0 ≤ n6) (f13 : n6 = hV H1 (n3).toNat 18) (f14 : n0 < n6) (f15 : n7 = 293) (f16 : n7 = hV H1 (n3).toNat 19) (f17 : n8 ≤ 5) (f18 : 0 ≤ n8) (f19 : n8 = hV H1 (n7).toNat (n0).toNat) (f20 : n8 ≠ n1) (f21 : n9 = w32 (n0 + 1)) : Ab_242_39 n5 n4 n3 n2 n1 n9 H0 H1 ∧ ∀ q, some q0 = some q → mub_242_39 n5 n4 n3 n2 n1 n9 H0 H1 < q := by
  have g4 := f10.2.1.1
  unfold Ab_242_39 at g4
  have g5 := Option.some.inj f10.2.2
  unfold mub_242_39 at g5
  unfold Ab_242_39
  unfold mub_242_39
  have e1 : n6 = hV H0 285 18 := (by rw [f6] at f13; exact f13 : n6 = hV H1 285 18).trans ((f10.1.2.1.1 285 18 kF_242_285_18))
  have e3 : n8 = hV H0 293 (n0).toNat := (by rw [f15] at f19; exact f19 : n8 = hV H1 293 (n0).toNat).trans ((congrFun (fRow f10.1.2.1 293 kR_242_293) _))
  have e5 : hV H1 285 60 = hV H0 285 60 := (f10.1.2.1.1 285 60 kF_242_285_60)
  have e6 : hV H1 325 = hV H0 325 := fRow f10.1.2.1 325 kR_242_325
  have e7 : hV H1 326 = hV H0 326 := fRow f10.1.2.1 326 kR_242_326
  have e8 : (1 : Int) ≤ hV H0 285 60 ∧ hV H0 285 60 ≤ 6 := bTo e5 (f10.1.2.2 285 60 _ _ kW_285_60)
  try simp only [e5, e6, e7] at f10
  try simp only [e5, e6, e7] at g4
  try simp only [e5, e6, e7]
  have k0 := g4.1
  have y0 := g4.2.1
  have y1 := g4.2.2.1
  have y2 := g4.2.2.2.1
  have y3 := g4.2.2.2.2.1
  have y4 := g4.2.2.2.2.2
  clear g4
  clear f13 f16 f19 e5 e6 e7
  subst e1
  subst e3
  first
  | (have ix0 : n9 = n0 + 1 := Eq.trans f21 (w32_id (by omega) (by omega)); subst ix0; clear f21)
  | (unfold w32 at f21; have ix0 : n9 = n0 + 1 := (by omega); subst ix0)
  | skip
  try unfold w32 at f21
  subst y0
  refine ⟨?_, fun q hq => ?_⟩
  · refine ⟨?_, ?_, ?_, ?_, ?_, ?_⟩ <;> first | assumption | omega | trivial
  · have g6 := Option.some.inj hq
    subst g6
    omega
theorem c_242_39_2 {q0 : Nat} : vOkm T0 (eP e_242 L_242 A_242 mu_242 (some q0)) 2 ([(10, [9, 5], [], 1), (41, [8, 4], [], 0), (22, [8, 7, 5], [1], 0), (90, [8], [], 0), (91, [8], [], 5), (20, [7, 2], [1], 19), (0, [7], [], 293), (42, [5, 6], [], 0), (20, [6, 2], [1], 18), (90, [6], [], 0), (91, [6], [], 8), (5000, [0, 1, 2, 3, 4, 5], [0, 1], 39), (0, [0], [], 285), (90, [1], [], 0), (91, [1], [], 60), (0, [2], [], 285), (90, [3], [], 0), (91, [3], [], 60), (90, [4], [], -2147483648), (91, [4], [], 2147483647), (90, [5], [], -2147483648), (91, [5], [], 2147483647)], (4000, [2, 3, 4, 9], [1], 39)) := vOk_inI fun ρ η f0 f1 f2 f3 f4 f5 f6 f7 f8 f9 f10 f11 f12 f13 f14 f15 f16 f17 f18 f19 f20 f21 => q_242_7 (q0 := q0) (n0 := ρ 5) (n1 := ρ 4) (n2 := ρ 3) (n3 := ρ 2) (n4 := ρ 1) (n5 := ρ 0) (n6 := ρ 6) (n7 := ρ 7) (n8 := ρ 8) (n9 := ρ 9) (H0 := η 0) (H1 := η 1) f21 f20 f19 f18 f17 f16 f15 f14 f13 f12 f11 f10 f9 f8 f7 f6 f5 f4 f3 f2 f1 f0
theorem q_242_8 {q0 : Nat} {n0 n1 n2 n3 n4 n5 n6 n7 n8 n9 : Int} {H0 H1 : gH} (f0 : n0 ≤ 2147483647) (f1 : (-2147483648) ≤ n0) (f2 : n1 ≤ 2147483647) (f3 : (-2147483648) ≤ n1) (f4 : n2 ≤ 60) (f5 : 0 ≤ n2) (f6 : n3 = 285) (f7 : n4 ≤ 60) (f8 : 0 ≤ n4) (f9 : n5 = 285) (f10 : (hLe T0 H0 H1 ∧ hFr s_242.2.2.2.2 H0 H1 ∧ hWt T0 H1) ∧ (Ab_242_39 n5 n4 n3 n2 n1 n0 H0 H1 ∧ True) ∧ some q0 = some (mub_242_39 n5 n4 n3 n2 n1 n0 H0 H1)) (f11 : n6 ≤ 8) (f12 : 0 ≤ n6) (f13 : n6 = hV H1 (n3).toNat 18) (f14 : n0 < n6) (f15 : n7 = 293) (f16 : n7 = hV H1 (n3).toNat 19) (f17 : n8 ≤ 5) (f18 : 0 ≤ n8) (f19 : n8 = hV H1 (n7).toNat (n0).toNat) (f20 : n8 = n1) (f21 : n9 = 0) : postb_242 n9 n5 n4 H0 H1 := by
  have g4 := f10.2.1.1
  unfold Ab_242_39 at g4
  unfold postb_242
  have e1 : n6 = hV H0 285 18 := (by rw [f6] at f13; exact f13 : n6 = hV H1 285 18).trans ((f10.1.2.1.1 285 18 kF_242_285_18))
  have e3 : n8 = hV H0 293 (n0).toNat := (by rw [f15] at f19; exact f19 : n8 = hV H1 293 (n0).toNat).trans ((congrFun (fRow f10.1.2.1 293 kR_242_293) _))
  have e5 : hV H1 285 60 = hV H0 285 60 := (f10.1.2.1.1 285 60 kF_242_285_60)
  have e6 : hV H1 325 = hV H0 325 := fRow f10.1.2.1 325 kR_242_325
  have e7 : hV H1 326 = hV H0 326 := fRow f10.1.2.1 326 kR_242_326
  have e8 : (1 : Int) ≤ hV H0 285 60 ∧ hV H0 285 60 ≤ 6 := bTo e5 (f10.1.2.2 285 60 _ _ kW_285_60)
  try simp only [e5, e6, e7] at f10
  try simp only [e5, e6, e7] at g4
  try simp only [e5, e6, e7]
  have k0 := g4.1
  have y0 := g4.2.1
  have y1 := g4.2.2.1
  have y2 := g4.2.2.2.1
  have y3 := g4.2.2.2.2.1
  have y4 := g4.2.2.2.2.2
  clear g4
  clear f13 f16 f19 e5 e6 e7
  subst e1
  subst e3
  subst y0
  first | assumption | omega | trivial
theorem c_242_39_3 {q0 : Nat} : vOkm T0 (eP e_242 L_242 A_242 mu_242 (some q0)) 2 ([(0, [9], [], 0), (40, [8, 4], [], 0), (22, [8, 7, 5], [1], 0), (90, [8], [], 0), (91, [8], [], 5), (20, [7, 2], [1], 19), (0, [7], [], 293), (42, [5, 6], [], 0), (20, [6, 2], [1], 18), (90, [6], [], 0), (91, [6], [], 8), (5000, [0, 1, 2, 3, 4, 5], [0, 1], 39), (0, [0], [], 285), (90, [1], [], 0), (91, [1], [], 60), (0, [2], [], 285), (90, [3], [], 0), (91, [3], [], 60), (90, [4], [], -2147483648), (91, [4], [], 2147483647), (90, [5], [], -2147483648), (91, [5], [], 2147483647)], (3000, [9], [1], 58)) := vOk_inI fun ρ η f0 f1 f2 f3 f4 f5 f6 f7 f8 f9 f10 f11 f12 f13 f14 f15 f16 f17 f18 f19 f20 f21 => q_242_8 (q0 := q0) (n0 := ρ 5) (n1 := ρ 4) (n2 := ρ 3) (n3 := ρ 2) (n4 := ρ 1) (n5 := ρ 0) (n6 := ρ 6) (n7 := ρ 7) (n8 := ρ 8) (n9 := ρ 9) (H0 := η 0) (H1 := η 1) f21 f20 f19 f18 f17 f16 f15 f14 f13 f12 f11 f10 f9 f8 f7 f6 f5 f4 f3 f2 f1 f0
def p_242_39 : List vG := [([(0, [7], [], 1), (43, [5, 6], [], 0), (20, [6, 2], [1], 18), (90, [6], [], 0), (91, [6], [], 8), (5000, [0, 1, 2, 3, 4, 5], [0, 1], 39), (0, [0], [], 285), (90, [1], [], 0), (91, [1], [], 60), (0, [2], [], 285), (90, [3], [], 0), (91, [3], [], 60), (90, [4], [], -2147483648), (91, [4], [], 2147483647), (90, [5], [], -2147483648), (91, [5], [], 2147483647)], (3000, [7], [1], 66)),
  ([(42, [5, 6], [], 0), (20, [6, 2], [1], 18), (90, [6], [], 0), (91, [6], [], 8), (5000, [0, 1, 2, 3, 4, 5], [0, 1], 39), (0, [0], [], 285), (90, [1], [], 0), (91, [1], [], 60), (0, [2], [], 285), (90, [3], [], 0), (91, [3], [], 60), (90, [4], [], -2147483648), (91, [4], [], 2147483647), (90, [5], [], -2147483648), (91, [5], [], 2147483647)], (70, [5], [], 9)),
  ([(10, [9, 5], [], 1), (41, [8, 4], [], 0), (22, [8, 7, 5], [1], 0), (90, [8], [], 0), (91, [8], [], 5), (20, [7, 2], [1], 19), (0, [7], [], 293), (42, [5, 6], [], 0), (20, [6, 2], [1], 18), (90, [6], [], 0), (91, [6], [], 8), (5000, [0, 1, 2, 3, 4, 5], [0, 1], 39), (0, [0], [], 285), (90, [1], [], 0), (91, [1], [], 60), (0, [2], [], 285), (90, [3], [], 0), (91, [3], [], 60), (90, [4], [], -2147483648), (91, [4], [], 2147483647), (90, [5], [], -2147483648), (91, [5], [], 2147483647)], (4000, [2, 3, 4, 9], [1], 39)),
  ([(0, [9], [], 0), (40, [8, 4], [], 0), (22, [8, 7, 5], [1], 0), (90, [8], [], 0), (91, [8], [], 5), (20, [7, 2], [1], 19), (0, [7], [], 293), (42, [5, 6], [], 0), (20, [6, 2], [1], 18), (90, [6], [], 0), (91, [6], [], 8), (5000, [0, 1, 2, 3, 4, 5], [0, 1], 39), (0, [0], [], 285), (90, [1], [], 0), (91, [1], [], 60), (0, [2], [], 285), (90, [3], [], 0), (91, [3], [], 60), (90, [4], [], -2147483648), (91, [4], [], 2147483647), (90, [5], [], -2147483648), (91, [5], [], 2147483647)], (3000, [9], [1], 58))]
theorem r_242_39 : vCovO false (eRc e_242 L_242 cs_242 2000 (39, [(0, (3, 12, 285, 0)), (1, (0, 0, 60, 0)), (2, (0, -2147483648, 2147483647, 0)), (3, (0, -2147483648, 2147483647, 0))])) p_242_39 = true := by decide +kernel
theorem m_242 (d : Nat) : eC e_242 (d + 1) := eC_ok (e := e_242) (L := L_242) (cs := cs_242) (n := 2000) (d := d + 0) (A := A_242) (μ := mu_242) (tp := false) (p0 := p_242_s) rfl trivial rfl (.inr pre0_ok) (by decide +kernel) (fun z => nomatch z) r_242_s (allC c_242_s_0 (allC c_242_s_1 (allC c_242_s_2 (allC c_242_s_3 (allC c_242_s_4 (allC c_242_s_5 allN)))))) (allC (.inl ⟨p_242_39, r_242_39, fun q0 => (allC c_242_39_0 (allC c_242_39_1 (allC c_242_39_2 (allC c_242_39_3 allN))))⟩) allN)
/- MixStageModel.cuts (IIZ)I -/
noncomputable def s_243 : vM := ([(3, 12, 285, 0), (0, 0, 60, 0), (0, 0, 60, 0), (0, 0, 1, 0)], (0, -2147483648, 2147483647, 0), 1, 0, [(428, 0), (436, 0), (444, 0)])
def preb_243 (a0 a1 a2 a3 : Int) (h : gH) : Prop := a1 + a2 ≤ 60 ∧ 1 ≤ hV h 285 60 - 1 ∧ hV h 326 ((hV h 285 60 - 1).toNat) ≤ 9 ∧ hV h 325 ((hV h 285 60 - 1).toNat) + a2 ≤ 60
def pre_243 : List Int → gH → Prop := fun xs h => match xs with
  | [a0, a1, a2, a3] => preb_243 a0 a1 a2 a3 h
  | _ => False
noncomputable def e_243 : vE := (243, s_243, pre_243, post0)
noncomputable def L_243 : List vE := []
def cs_243 : List vC := [(11, [(0, (3, 12, 285, 0)), (1, (0, 0, 60, 0)), (2, (0, 0, 60, 0)), (3, (0, 0, 1, 0)), (4, (0, -2147483648, 2147483647, 0)), (5, (0, -2147483648, 2147483647, 0))])]
def Ab_243_11 (a0 a1 a2 a3 x0 x1 x2 x3 x4 x5 : Int) (h0 h : gH) : Prop := x1 = a1 ∧ x2 = a2 ∧ x3 = a3 ∧ x4 = hV h 285 60 - 1 ∧ 1 ≤ x4 ∧ 0 ≤ x5 ∧ x5 ≤ 60 ∧ hV h 326 ((x4).toNat) ≤ 9 ∧ hV h 325 ((x4).toNat) + a2 ≤ 60 ∧ a1 + a2 ≤ 60
def mub_243_11 (a0 a1 a2 a3 x0 x1 x2 x3 x4 x5 : Int) (h0 h : gH) : Nat := (2147483648 - x5).toNat
def A_243 : Int → List Int → gH → gH → Prop := fun c xs h0 h => match c.toNat with
  | 11 => (match xs with
    | [a0, a1, a2, a3, x0, x1, x2, x3, x4, x5] => Ab_243_11 a0 a1 a2 a3 x0 x1 x2 x3 x4 x5 h0 h
    | _ => False)
  | _ => True
def mu_243 : Int → List Int → gH → gH → Nat := fun c xs h0 h => match c.toNat with
  | 11 => (match xs with
    | [a0, a1, a2, a3, x0, x1, x2, x3, x4, x5] => mub_243_11 a0 a1 a2 a3 x0 x1 x2 x3 x4 x5 h0 h
    | _ => 0)
  | _ => 0
theorem q_243_0 {n0 n1 n2 n3 n4 n5 n6 n7 : Int} {H0 : gH} (f0 : n0 ≤ 1) (f1 : 0 ≤ n0) (f2 : n1 ≤ 60) (f3 : 0 ≤ n1) (f4 : n2 ≤ 60) (f5 : 0 ≤ n2) (f6 : n3 = 285) (f7 : hWt T0 H0 ∧ preb_243 n3 n2 n1 n0 H0) (f8 : n4 ≤ 6) (f9 : 1 ≤ n4) (f10 : n4 = hV H0 (n3).toNat 60) (f11 : n5 = 1) (f12 : n6 = w32 (n4 - n5)) (f13 : n7 = 0) : Ab_243_11 n3 n2 n1 n0 n3 n2 n1 n0 n6 n7 H0 H0 ∧ ∀ q, none = some q → mub_243_11 n3 n2 n1 n0 n3 n2 n1 n0 n6 n7 H0 H0 < q := by
  unfold preb_243 at f7
  unfold Ab_243_11
  have e0 : n4 = hV H0 285 60 := (by rw [f6] at f10; exact f10 : n4 = hV H0 285 60)
  have e1 : (1 : Int) ≤ hV H0 285 60 ∧ hV H0 285 60 ≤ 6 := f7.1 285 60 _ _ kW_285_60
  have p0 := f7.2.1
  have p1 := f7.2.2.1
  have p2 := f7.2.2.2.1
  have p3 := f7.2.2.2.2
  clear f10
  subst e0
  first
  | (have ix0 : n6 = hV H0 285 60 - 1 := Eq.trans f12 (w32_iv (Isu (Iat f9 f8) (IC 1)) (by decide)); subst ix0; clear f12)
  | (have ix0 : n6 = hV H0 285 60 - 1 := Eq.trans f12 (w32_id (by omega) (by omega)); subst ix0; clear f12)
  | (unfold w32 at f12; have ix0 : n6 = hV H0 285 60 - 1 := (by omega); subst ix0)
  | skip
  try unfold w32 at f12
  refine ⟨?_, fun q hq => ?_⟩
  · refine ⟨?_, ?_, ?_, ?_, ?_, ?_, ?_, ?_, ?_, ?_⟩ <;> first | assumption | omega | trivial
  · exact nomatch hq
theorem c_243_s_0 : vOkm T0 (eP e_243 L_243 A_243 mu_243 none) 4 ([(0, [7], [], 0), (2, [6, 4, 5], [], 0), (0, [5], [], 1), (20, [4, 0], [0], 60), (90, [4], [], 1), (91, [4], [], 6), (6000, [0, 1, 2, 3], [0], 0), (0, [0], [], 285), (90, [1], [], 0), (91, [1], [], 60), (90, [2], [], 0), (91, [2], [], 60), (90, [3], [], 0), (91, [3], [], 1)], (4000, [0, 1, 2, 3, 6, 7], [0], 11)) := vOk_inI fun ρ η f0 f1 f2 f3 f4 f5 f6 f7 f8 f9 f10 f11 f12 f13 => q_243_0 (n0 := ρ 3) (n1 := ρ 2) (n2 := ρ 1) (n3 := ρ 0) (n4 := ρ 4) (n5 := ρ 5) (n6 := ρ 6) (n7 := ρ 7) (H0 := η 0) f13 f12 f11 f10 f9 f8 f7 f6 f5 f4 f3 f2 f1 f0
def p_243_s : List vG := [([(0, [7], [], 0), (2, [6, 4, 5], [], 0), (0, [5], [], 1), (20, [4, 0], [0], 60), (90, [4], [], 1), (91, [4], [], 6), (6000, [0, 1, 2, 3], [0], 0), (0, [0], [], 285), (90, [1], [], 0), (91, [1], [], 60), (90, [2], [], 0), (91, [2], [], 60), (90, [3], [], 0), (91, [3], [], 1)], (4000, [0, 1, 2, 3, 6, 7], [0], 11))]
theorem r_243_s : vCovO true (eR0 e_243 L_243 cs_243 2000) p_243_s = true := by decide +kernel
theorem kF_243_285_60 : vFree s_243.2.2.2.2 285 60 = true := by decide +kernel
theorem q_243_1 {q0 : Nat} {n0 n1 n2 n3 n4 n5 n6 n7 n8 n9 : Int} {H0 H1 : gH} (f0 : n0 ≤ 2147483647) (f1 : (-2147483648) ≤ n0) (f2 : n1 ≤ 2147483647) (f3 : (-2147483648) ≤ n1) (f4 : n2 ≤ 1) (f5 : 0 ≤ n2) (f6 : n3 ≤ 60) (f7 : 0 ≤ n3) (f8 : n4 ≤ 60) (f9 : 0 ≤ n4) (f10 : n5 = 285) (f11 : n6 ≤ 1) (f12 : 0 ≤ n6) (f13 : n7 ≤ 60) (f14 : 0 ≤ n7) (f15 : n8 ≤ 60) (f16 : 0 ≤ n8) (f17 : n9 = 285) (f18 : (hLe T0 H0 H1 ∧ hFr s_243.2.2.2.2 H0 H1 ∧ hWt T0 H1) ∧ (Ab_243_11 n9 n8 n7 n6 n5 n4 n3 n2 n1 n0 H0 H1 ∧ preb_243 n9 n8 n7 n6 H0) ∧ some q0 = some (mub_243_11 n9 n8 n7 n6 n5 n4 n3 n2 n1 n0 H0 H1)) (f19 : n3 ≤ n0) : 0 ≤ n1 ∧ n1 < 6 := by
  have g4 := f18.2.1.1
  unfold Ab_243_11 at g4
  have g3 := f18.2.1.2
  unfold preb_243 at g3
  have e1 : hV H1 285 60 = hV H0 285 60 := (f18.1.2.1.1 285 60 kF_243_285_60)
  have e2 : (1 : Int) ≤ hV H0 285 60 ∧ hV H0 285 60 ≤ 6 := bTo e1 (f18.1.2.2 285 60 _ _ kW_285_60)
  try simp only [e1] at g4
  have k0 := g4.1
  have k1 := g4.2.1
  have k2 := g4.2.2.1
  have y0 := g4.2.2.2.1
  have y1 := g4.2.2.2.2.1
  have y2 := g4.2.2.2.2.2.1
  have y3 := g4.2.2.2.2.2.2.1
  have y4 := g4.2.2.2.2.2.2.2.1
  have y5 := g4.2.2.2.2.2.2.2.2.1
  have y6 := g4.2.2.2.2.2.2.2.2.2
  have p0 := g3.1
  have p1 := g3.2.1
  have p2 := g3.2.2.1
  have p3 := g3.2.2.2
  clear g3
  clear g4
  clear e1
  subst y0
  omega
theorem c_243_11_0 {q0 : Nat} : vOkm T0 (eP e_243 L_243 A_243 mu_243 (some q0)) 4 ([(43, [9, 6], [], 0), (5000, [0, 1, 2, 3, 4, 5, 6, 7, 8, 9], [0, 1], 11), (0, [0], [], 285), (90, [1], [], 0), (91, [1], [], 60), (90, [2], [], 0), (91, [2], [], 60), (90, [3], [], 0), (91, [3], [], 1), (0, [4], [], 285), (90, [5], [], 0), (91, [5], [], 60), (90, [6], [], 0), (91, [6], [], 60), (90, [7], [], 0), (91, [7], [], 1), (90, [8], [], -2147483648), (91, [8], [], 2147483647), (90, [9], [], -2147483648), (91, [9], [], 2147483647)], (70, [8], [], 6)) := vOk_inI fun ρ η f0 f1 f2 f3 f4 f5 f6 f7 f8 f9 f10 f11 f12 f13 f14 f15 f16 f17 f18 f19 => q_243_1 (q0 := q0) (n0 := ρ 9) (n1 := ρ 8) (n2 := ρ 7) (n3 := ρ 6) (n4 := ρ 5) (n5 := ρ 4) (n6 := ρ 3) (n7 := ρ 2) (n8 := ρ 1) (n9 := ρ 0) (H0 := η 0) (H1 := η 1) f19 f18 f17 f16 f15 f14 f13 f12 f11 f10 f9 f8 f7 f6 f5 f4 f3 f2 f1 f0
theorem q_243_2 {q0 : Nat} {n0 n1 n2 n3 n4 n5 n6 n7 n8 n9 n10 n11 n12 : Int} {H0 H1 : gH} (f0 : n0 ≤ 2147483647) (f1 : (-2147483648) ≤ n0) (f2 : n1 ≤ 2147483647) (f3 : (-2147483648) ≤ n1) (f4 : n2 ≤ 1) (f5 : 0 ≤ n2) (f6 : n3 ≤ 60) (f7 : 0 ≤ n3) (f8 : n4 ≤ 60) (f9 : 0 ≤ n4) (f10 : n5 = 285) (f11 : n6 ≤ 1) (f12 : 0 ≤ n6) (f13 : n7 ≤ 60) (f14 : 0 ≤ n7) (f15 : n8 ≤ 60) (f16 : 0 ≤ n8) (f17 : n9 = 285) (f18 : (hLe T0 H0 H1 ∧ hFr s_243.2.2.2.2 H0 H1 ∧ hWt T0 H1) ∧ (Ab_243_11 n9 n8 n7 n6 n5 n4 n3 n2 n1 n0 H0 H1 ∧ preb_243 n9 n8 n7 n6 H0) ∧ some q0 = some (mub_243_11 n9 n8 n7 n6 n5 n4 n3 n2 n1 n0 H0 H1)) (f19 : n3 ≤ n0) (f20 : n10 = 325) (f21 : n10 = hV H1 (n5).toNat 61) (f22 : n11 ≤ 60) (f23 : 0 ≤ n11) (f24 : n11 = hV H1 (n10).toNat (n1).toNat) (f25 : n12 = w32 (n11 + n3)) : 0 ≤ n1 ∧ n1 < 6 := by
  have g4 := f18.2.1.1
  unfold Ab_243_11 at g4
  have g3 := f18.2.1.2
  unfold preb_243 at g3
  have e0 : n11 = hV H1 325 (n1).toNat := (by rw [f20] at f24; exact f24 : n11 = hV H1 325 (n1).toNat)
  have e2 : hV H1 285 60 = hV H0 285 60 := (f18.1.2.1.1 285 60 kF_243_285_60)
  have e3 : (1 : Int) ≤ hV H0 285 60 ∧ hV H0 285 60 ≤ 6 := bTo e2 (f18.1.2.2 285 60 _ _ kW_285_60)
  try simp only [e2] at g4
  have k0 := g4.1
  have k1 := g4.2.1
  have k2 := g4.2.2.1
  have y0 := g4.2.2.2.1
  have y1 := g4.2.2.2.2.1
  have y2 := g4.2.2.2.2.2.1
  have y3 := g4.2.2.2.2.2.2.1
  have y4 := g4.2.2.2.2.2.2.2.1
  have y5 := g4.2.2.2.2.2.2.2.2.1
  have y6 := g4.2.2.2.2.2.2.2.2.2
  have p0 := g3.1
  have p1 := g3.2.1
  have p2 := g3.2.2.1
  have p3 := g3.2.2.2
  clear g3
  clear g4
  clear f21 f24 e2
  subst e0
  unfold w32 at f25
  subst y0
  omega
theorem c_243_11_1 {q0 : Nat} : vOkm T0 (eP e_243 L_243 A_243 mu_243 (some q0)) 4 ([(1, [12, 11, 6], [], 0), (22, [11, 10, 8], [1], 0), (90, [11], [], 0), (91, [11], [], 60), (20, [10, 4], [1], 61), (0, [10], [], 325), (43, [9, 6], [], 0), (5000, [0, 1, 2, 3, 4, 5, 6, 7, 8, 9], [0, 1], 11), (0, [0], [], 285), (90, [1], [], 0), (91, [1], [], 60), (90, [2], [], 0), (91, [2], [], 60), (90, [3], [], 0), (91, [3], [], 1), (0, [4], [], 285), (90, [5], [], 0), (91, [5], [], 60), (90, [6], [], 0), (91, [6], [], 60), (90, [7], [], 0), (91, [7], [], 1), (90, [8], [], -2147483648), (91, [8], [], 2147483647), (90, [9], [], -2147483648), (91, [9], [], 2147483647)], (70, [8], [], 6)) := vOk_inI fun ρ η f0 f1 f2 f3 f4 f5 f6 f7 f8 f9 f10 f11 f12 f13 f14 f15 f16 f17 f18 f19 f20 f21 f22 f23 f24 f25 => q_243_2 (q0 := q0) (n0 := ρ 9) (n1 := ρ 8) (n2 := ρ 7) (n3 := ρ 6) (n4 := ρ 5) (n5 := ρ 4) (n6 := ρ 3) (n7 := ρ 2) (n8 := ρ 1) (n9 := ρ 0) (n10 := ρ 10) (n11 := ρ 11) (n12 := ρ 12) (H0 := η 0) (H1 := η 1) f25 f24 f23 f22 f21 f20 f19 f18 f17 f16 f15 f14 f13 f12 f11 f10 f9 f8 f7 f6 f5 f4 f3 f2 f1 f0
theorem q_243_3 {q0 : Nat} {n0 n1 n2 n3 n4 n5 n6 n7 n8 n9 n10 n11 n12 : Int} {H0 H1 : gH} (f0 : n0 ≤ 2147483647) (f1 : (-2147483648) ≤ n0) (f2 : n1 ≤ 2147483647) (f3 : (-2147483648) ≤ n1) (f4 : n2 ≤ 1) (f5 : 0 ≤ n2) (f6 : n3 ≤ 60) (f7 : 0 ≤ n3) (f8 : n4 ≤ 60) (f9 : 0 ≤ n4) (f10 : n5 = 285) (f11 : n6 ≤ 1) (f12 : 0 ≤ n6) (f13 : n7 ≤ 60) (f14 : 0 ≤ n7) (f15 : n8 ≤ 60) (f16 : 0 ≤ n8) (f17 : n9 = 285) (f18 : (hLe T0 H0 H1 ∧ hFr s_243.2.2.2.2 H0 H1 ∧ hWt T0 H1) ∧ (Ab_243_11 n9 n8 n7 n6 n5 n4 n3 n2 n1 n0 H0 H1 ∧ preb_243 n9 n8 n7 n6 H0) ∧ some q0 = some (mub_243_11 n9 n8 n7 n6 n5 n4 n3 n2 n1 n0 H0 H1)) (f19 : n3 ≤ n0) (f20 : n10 = 325) (f21 : n10 = hV H1 (n5).toNat 61) (f22 : n11 ≤ 60) (f23 : 0 ≤ n11) (f24 : n11 = hV H1 (n10).toNat (n1).toNat) (f25 : n12 = w32 (n11 + n3)) : 0 ≤ n12 := by
  have g4 := f18.2.1.1
  unfold Ab_243_11 at g4
  have g3 := f18.2.1.2
  unfold preb_243 at g3
  have e0 : n11 = hV H1 325 (n1).toNat := (by rw [f20] at f24; exact f24 : n11 = hV H1 325 (n1).toNat)
  have e2 : hV H1 285 60 = hV H0 285 60 := (f18.1.2.1.1 285 60 kF_243_285_60)
  have e3 : (1 : Int) ≤ hV H0 285 60 ∧ hV H0 285 60 ≤ 6 := bTo e2 (f18.1.2.2 285 60 _ _ kW_285_60)
  try simp only [e2] at g4
  have k0 := g4.1
  have k1 := g4.2.1
  have k2 := g4.2.2.1
  have y0 := g4.2.2.2.1
  have y1 := g4.2.2.2.2.1
  have y2 := g4.2.2.2.2.2.1
  have y3 := g4.2.2.2.2.2.2.1
  have y4 := g4.2.2.2.2.2.2.2.1
  have y5 := g4.2.2.2.2.2.2.2.2.1
  have y6 := g4.2.2.2.2.2.2.2.2.2
  have p0 := g3.1
  have p1 := g3.2.1
  have p2 := g3.2.2.1
  have p3 := g3.2.2.2
  clear g3
  clear g4
  clear f21 f24 e2
  subst e0
  first
  | (have ix0 : n12 = hV H1 325 (n1).toNat + n3 := Eq.trans f25 (w32_iv (Iad (Iat f23 f22) (Iat f7 f6)) (by decide)); subst ix0; clear f25)
  | (have ix0 : n12 = hV H1 325 (n1).toNat + n3 := Eq.trans f25 (w32_id (by omega) (by omega)); subst ix0; clear f25)
  | (unfold w32 at f25; have ix0 : n12 = hV H1 325 (n1).toNat + n3 := (by omega); subst ix0)
  | skip
  try unfold w32 at f25
  subst y0
  omega
theorem c_243_11_2 {q0 : Nat} : vOkm T0 (eP e_243 L_243 A_243 mu_243 (some q0)) 4 ([(1, [12, 11, 6], [], 0), (22, [11, 10, 8], [1], 0), (90, [11], [], 0), (91, [11], [], 60), (20, [10, 4], [1], 61), (0, [10], [], 325), (43, [9, 6], [], 0), (5000, [0, 1, 2, 3, 4, 5, 6, 7, 8, 9], [0, 1], 11), (0, [0], [], 285), (90, [1], [], 0), (91, [1], [], 60), (90, [2], [], 0), (91, [2], [], 60), (90, [3], [], 0), (91, [3], [], 1), (0, [4], [], 285), (90, [5], [], 0), (91, [5], [], 60), (90, [6], [], 0), (91, [6], [], 60), (90, [7], [], 0), (91, [7], [], 1), (90, [8], [], -2147483648), (91, [8], [], 2147483647), (90, [9], [], -2147483648), (91, [9], [], 2147483647)], (90, [12], [], 0)) := vOk_inI fun ρ η f0 f1 f2 f3 f4 f5 f6 f7 f8 f9 f10 f11 f12 f13 f14 f15 f16 f17 f18 f19 f20 f21 f22 f23 f24 f25 => q_243_3 (q0 := q0) (n0 := ρ 9) (n1 := ρ 8) (n2 := ρ 7) (n3 := ρ 6) (n4 := ρ 5) (n5 := ρ 4) (n6 := ρ 3) (n7 := ρ 2) (n8 := ρ 1) (n9 := ρ 0) (n10 := ρ 10) (n11 := ρ 11) (n12 := ρ 12) (H0 := η 0) (H1 := η 1) f25 f24 f23 f22 f21 f20 f19 f18 f17 f16 f15 f14 f13 f12 f11 f10 f9 f8 f7 f6 f5 f4 f3 f2 f1 f0
theorem q_243_4 {q0 : Nat} {n0 n1 n2 n3 n4 n5 n6 n7 n8 n9 n10 n11 n12 : Int} {H0 H1 : gH} (f0 : n0 ≤ 2147483647) (f1 : (-2147483648) ≤ n0) (f2 : n1 ≤ 2147483647) (f3 : (-2147483648) ≤ n1) (f4 : n2 ≤ 1) (f5 : 0 ≤ n2) (f6 : n3 ≤ 60) (f7 : 0 ≤ n3) (f8 : n4 ≤ 60) (f9 : 0 ≤ n4) (f10 : n5 = 285) (f11 : n6 ≤ 1) (f12 : 0 ≤ n6) (f13 : n7 ≤ 60) (f14 : 0 ≤ n7) (f15 : n8 ≤ 60) (f16 : 0 ≤ n8) (f17 : n9 = 285) (f18 : (hLe T0 H0 H1 ∧ hFr s_243.2.2.2.2 H0 H1 ∧ hWt T0 H1) ∧ (Ab_243_11 n9 n8 n7 n6 n5 n4 n3 n2 n1 n0 H0 H1 ∧ preb_243 n9 n8 n7 n6 H0) ∧ some q0 = some (mub_243_11 n9 n8 n7 n6 n5 n4 n3 n2 n1 n0 H0 H1)) (f19 : n3 ≤ n0) (f20 : n10 = 325) (f21 : n10 = hV H1 (n5).toNat 61) (f22 : n11 ≤ 60) (f23 : 0 ≤ n11) (f24 : n11 = hV H1 (n10).toNat (n1).toNat) (f25 : n12 = w32 (n11 + n3)) : n12 ≤ 60 := by
  have g4 := f18.2.1.1
  unfold Ab_243_11 at g4
  have g3 := f18.2.1.2
  unfold preb_243 at g3
  have e0 : n11 = hV H1 325 (n1).toNat := (by rw [f20] at f24; exact f24 : n11 = hV H1 325 (n1).toNat)
  have e2 : hV H1 285 60 = hV H0 285 60 := (f18.1.2.1.1 285 60 kF_243_285_60)
  have e3 : (1 : Int) ≤ hV H0 285 60 ∧ hV H0 285 60 ≤ 6 := bTo e2 (f18.1.2.2 285 60 _ _ kW_285_60)
  try simp only [e2] at g4
  have k0 := g4.1
  have k1 := g4.2.1
  have k2 := g4.2.2.1
  have y0 := g4.2.2.2.1
  have y1 := g4.2.2.2.2.1
  have y2 := g4.2.2.2.2.2.1
  have y3 := g4.2.2.2.2.2.2.1
  have y4 := g4.2.2.2.2.2.2.2.1
  have y5 := g4.2.2.2.2.2.2.2.2.1
  have y6 := g4.2.2.2.2.2.2.2.2.2
  have p0 := g3.1
  have p1 := g3.2.1
  have p2 := g3.2.2.1
  have p3 := g3.2.2.2
  clear g3
  clear g4
  clear f21 f24 e2
  subst e0
  first
  | (have ix0 : n12 = hV H1 325 (n1).toNat + n3 := Eq.trans f25 (w32_iv (Iad (Iat f23 f22) (Iat f7 f6)) (by decide)); subst ix0; clear f25)
  | (have ix0 : n12 = hV H1 325 (n1).toNat + n3 := Eq.trans f25 (w32_id (by omega) (by omega)); subst ix0; clear f25)
  | (unfold w32 at f25; have ix0 : n12 = hV H1 325 (n1).toNat + n3 := (by omega); subst ix0)
  | skip
  try unfold w32 at f25
  subst y0
  omega
theorem c_243_11_3 {q0 : Nat} : vOkm T0 (eP e_243 L_243 A_243 mu_243 (some q0)) 4 ([(1, [12, 11, 6], [], 0), (22, [11, 10, 8], [1], 0), (90, [11], [], 0), (91, [11], [], 60), (20, [10, 4], [1], 61), (0, [10], [], 325), (43, [9, 6], [], 0), (5000, [0, 1, 2, 3, 4, 5, 6, 7, 8, 9], [0, 1], 11), (0, [0], [], 285), (90, [1], [], 0), (91, [1], [], 60), (90, [2], [], 0), (91, [2], [], 60), (90, [3], [], 0), (91, [3], [], 1), (0, [4], [], 285), (90, [5], [], 0), (91, [5], [], 60), (90, [6], [], 0), (91, [6], [], 60), (90, [7], [], 0), (91, [7], [], 1), (90, [8], [], -2147483648), (91, [8], [], 2147483647), (90, [9], [], -2147483648), (91, [9], [], 2147483647)], (91, [12], [], 60)) := vOk_inI fun ρ η f0 f1 f2 f3 f4 f5 f6 f7 f8 f9 f10 f11 f12 f13 f14 f15 f16 f17 f18 f19 f20 f21 f22 f23 f24 f25 => q_243_4 (q0 := q0) (n0 := ρ 9) (n1 := ρ 8) (n2 := ρ 7) (n3 := ρ 6) (n4 := ρ 5) (n5 := ρ 4) (n6 := ρ 3) (n7 := ρ 2) (n8 := ρ 1) (n9 := ρ 0) (n10 := ρ 10) (n11 := ρ 11) (n12 := ρ 12) (H0 := η 0) (H1 := η 1) f25 f24 f23 f22 f21 f20 f19 f18 f17 f16 f15 f14 f13 f12 f11 f10 f9 f8 f7 f6 f5 f4 f3 f2 f1 f0
theorem c_243_11_4 {q0 : Nat} : vOkm T0 (eP e_243 L_243 A_243 mu_243 (some q0)) 4 ([(1, [12, 11, 6], [], 0), (22, [11, 10, 8], [1], 0), (90, [11], [], 0), (91, [11], [], 60), (20, [10, 4], [1], 61), (0, [10], [], 325), (43, [9, 6], [], 0), (5000, [0, 1, 2, 3, 4, 5, 6, 7, 8, 9], [0, 1], 11), (0, [0], [], 285), (90, [1], [], 0), (91, [1], [], 60), (90, [2], [], 0), (91, [2], [], 60), (90, [3], [], 0), (91, [3], [], 1), (0, [4], [], 285), (90, [5], [], 0), (91, [5], [], 60), (90, [6], [], 0), (91, [6], [], 60), (90, [7], [], 0), (91, [7], [], 1), (90, [8], [], -2147483648), (91, [8], [], 2147483647), (90, [9], [], -2147483648), (91, [9], [], 2147483647)], (70, [8], [], 6)) := vOk_inI fun ρ η f0 f1 f2 f3 f4 f5 f6 f7 f8 f9 f10 f11 f12 f13 f14 f15 f16 f17 f18 f19 f20 f21 f22 f23 f24 f25 => q_243_2 (q0 := q0) (n0 := ρ 9) (n1 := ρ 8) (n2 := ρ 7) (n3 := ρ 6) (n4 := ρ 5) (n5 := ρ 4) (n6 := ρ 3) (n7 := ρ 2) (n8 := ρ 1) (n9 := ρ 0) (n10 := ρ 10) (n11 := ρ 11) (n12 := ρ 12) (H0 := η 0) (H1 := η 1) f25 f24 f23 f22 f21 f20 f19 f18 f17 f16 f15 f14 f13 f12 f11 f10 f9 f8 f7 f6 f5 f4 f3 f2 f1 f0
theorem q_243_5 {q0 : Nat} {n0 n1 n2 n3 n4 n5 n6 n7 n8 n9 n10 n11 n12 n13 n14 n15 n16 : Int} {H0 H1 H2 : gH} (f0 : n0 ≤ 2147483647) (f1 : (-2147483648) ≤ n0) (f2 : n1 ≤ 2147483647) (f3 : (-2147483648) ≤ n1) (f4 : n2 ≤ 1) (f5 : 0 ≤ n2) (f6 : n3 ≤ 60) (f7 : 0 ≤ n3) (f8 : n4 ≤ 60) (f9 : 0 ≤ n4) (f10 : n5 = 285) (f11 : n6 ≤ 1) (f12 : 0 ≤ n6) (f13 : n7 ≤ 60) (f14 : 0 ≤ n7) (f15 : n8 ≤ 60) (f16 : 0 ≤ n8) (f17 : n9 = 285) (f18 : (hLe T0 H0 H1 ∧ hFr s_243.2.2.2.2 H0 H1 ∧ hWt T0 H1) ∧ (Ab_243_11 n9 n8 n7 n6 n5 n4 n3 n2 n1 n0 H0 H1 ∧ preb_243 n9 n8 n7 n6 H0) ∧ some q0 = some (mub_243_11 n9 n8 n7 n6 n5 n4 n3 n2 n1 n0 H0 H1)) (f19 : n3 ≤ n0) (f20 : n10 = 325) (f21 : n10 = hV H1 (n5).toNat 61) (f22 : n11 ≤ 60) (f23 : 0 ≤ n11) (f24 : n11 = hV H1 (n10).toNat (n1).toNat) (f25 : n12 = w32 (n11 + n3)) (f26 : hUpd H2 H1 n10 n1 n12) (f27 : n13 = 326) (f28 : n13 = hV H2 (n5).toNat 62) (f29 : n14 ≤ 10) (f30 : 0 ≤ n14) (f31 : n14 = hV H2 (n13).toNat (n1).toNat) (f32 : n15 = 1) (f33 : n16 = w32 (n14 + n15)) : 0 ≤ n1 ∧ n1 < 6 := by
  have g4 := f18.2.1.1
  unfold Ab_243_11 at g4
  have g3 := f18.2.1.2
  unfold preb_243 at g3
  have e0 : n11 = hV H1 325 (n1).toNat := (by rw [f20] at f24; exact f24 : n11 = hV H1 325 (n1).toNat)
  have e2 : n14 = hV H1 326 (n1).toNat := (by rw [f27] at f31; exact f31 : n14 = hV H2 326 (n1).toNat).trans ((congrFun (uRowNe f26 326 (iS (show n10 = ((325 : Nat) : Int) from f20) rfl)) _))
  have e4 : hV H1 285 60 = hV H0 285 60 := (f18.1.2.1.1 285 60 kF_243_285_60)
  have e5 : (1 : Int) ≤ hV H0 285 60 ∧ hV H0 285 60 ≤ 6 := bTo e4 (f18.1.2.2 285 60 _ _ kW_285_60)
  try simp only [e4] at g4
  have k0 := g4.1
  have k1 := g4.2.1
  have k2 := g4.2.2.1
  have y0 := g4.2.2.2.1
  have y1 := g4.2.2.2.2.1
  have y2 := g4.2.2.2.2.2.1
  have y3 := g4.2.2.2.2.2.2.1
  have y4 := g4.2.2.2.2.2.2.2.1
  have y5 := g4.2.2.2.2.2.2.2.2.1
  have y6 := g4.2.2.2.2.2.2.2.2.2
  have p0 := g3.1
  have p1 := g3.2.1
  have p2 := g3.2.2.1
  have p3 := g3.2.2.2
  clear g3
  clear g4
  clear f21 f24 f28 f31 e4
  subst e0
  subst e2
  first
  | (have ix0 : n12 = hV H1 325 (n1).toNat + n3 := Eq.trans f25 (w32_iv (Iad (Iat f23 f22) (Iat f7 f6)) (by decide)); subst ix0; clear f25)
  | (have ix0 : n12 = hV H1 325 (n1).toNat + n3 := Eq.trans f25 (w32_id (by omega) (by omega)); subst ix0; clear f25)
  | (unfold w32 at f25; have ix0 : n12 = hV H1 325 (n1).toNat + n3 := (by omega); subst ix0)
  | skip
  try unfold w32 at f25
  try unfold w32 at f33
  subst y0
  omega
theorem c_243_11_5 {q0 : Nat} : vOkm T0 (eP e_243 L_243 A_243 mu_243 (some q0)) 4 ([(1, [16, 14, 15], [], 0), (0, [15], [], 1), (22, [14, 13, 8], [2], 0), (90, [14], [], 0), (91, [14], [], 10), (20, [13, 4], [2], 62), (0, [13], [], 326), (80, [10, 8, 12], [2, 1], 0), (1, [12, 11, 6], [], 0), (22, [11, 10, 8], [1], 0), (90, [11], [], 0), (91, [11], [], 60), (20, [10, 4], [1], 61), (0, [10], [], 325), (43, [9, 6], [], 0), (5000, [0, 1, 2, 3, 4, 5, 6, 7, 8, 9], [0, 1], 11), (0, [0], [], 285), (90, [1], [], 0), (91, [1], [], 60), (90, [2], [], 0), (91, [2], [], 60), (90, [3], [], 0), (91, [3], [], 1), (0, [4], [], 285), (90, [5], [], 0), (91, [5], [], 60), (90, [6], [], 0), (91, [6], [], 60), (90, [7], [], 0), (91, [7], [], 1), (90, [8], [], -2147483648), (91, [8], [], 2147483647), (90, [9], [], -2147483648), (91, [9], [], 2147483647)], (70, [8], [], 6)) := vOk_inI fun ρ η f0 f1 f2 f3 f4 f5 f6 f7 f8 f9 f10 f11 f12 f13 f14 f15 f16 f17 f18 f19 f20 f21 f22 f23 f24 f25 f26 f27 f28 f29 f30 f31 f32 f33 => q_243_5 (q0 := q0) (n0 := ρ 9) (n1 := ρ 8) (n2 := ρ 7) (n3 := ρ 6) (n4 := ρ 5) (n5 := ρ 4) (n6 := ρ 3) (n7 := ρ 2) (n8 := ρ 1) (n9 := ρ 0) (n10 := ρ 10) (n11 := ρ 11) (n12 := ρ 12) (n13 := ρ 13) (n14 := ρ 14) (n15 := ρ 15) (n16 := ρ 16) (H0 := η 0) (H1 := η 1) (H2 := η 2) f33 f32 f31 f30 f29 f28 f27 f26 f25 f24 f23 f22 f21 f20 f19 f18 f17 f16 f15 f14 f13 f12 f11 f10 f9 f8 f7 f6 f5 f4 f3 f2 f1 f0
theorem q_243_6 {q0 : Nat} {n0 n1 n2 n3 n4 n5 n6 n7 n8 n9 n10 n11 n12 n13 n14 n15 n16 : Int} {H0 H1 H2 : gH} (f0 : n0 ≤ 2147483647) (f1 : (-2147483648) ≤ n0) (f2 : n1 ≤ 2147483647) (f3 : (-2147483648) ≤ n1) (f4 : n2 ≤ 1) (f5 : 0 ≤ n2) (f6 : n3 ≤ 60) (f7 : 0 ≤ n3) (f8 : n4 ≤ 60) (f9 : 0 ≤ n4) (f10 : n5 = 285) (f11 : n6 ≤ 1) (f12 : 0 ≤ n6) (f13 : n7 ≤ 60) (f14 : 0 ≤ n7) (f15 : n8 ≤ 60) (f16 : 0 ≤ n8) (f17 : n9 = 285) (f18 : (hLe T0 H0 H1 ∧ hFr s_243.2.2.2.2 H0 H1 ∧ hWt T0 H1) ∧ (Ab_243_11 n9 n8 n7 n6 n5 n4 n3 n2 n1 n0 H0 H1 ∧ preb_243 n9 n8 n7 n6 H0) ∧ some q0 = some (mub_243_11 n9 n8 n7 n6 n5 n4 n3 n2 n1 n0 H0 H1)) (f19 : n3 ≤ n0) (f20 : n10 = 325) (f21 : n10 = hV H1 (n5).toNat 61) (f22 : n11 ≤ 60) (f23 : 0 ≤ n11) (f24 : n11 = hV H1 (n10).toNat (n1).toNat) (f25 : n12 = w32 (n11 + n3)) (f26 : hUpd H2 H1 n10 n1 n12) (f27 : n13 = 326) (f28 : n13 = hV H2 (n5).toNat 62) (f29 : n14 ≤ 10) (f30 : 0 ≤ n14) (f31 : n14 = hV H2 (n13).toNat (n1).toNat) (f32 : n15 = 1) (f33 : n16 = w32 (n14 + n15)) : 0 ≤ n16 := by
  have g4 := f18.2.1.1
  unfold Ab_243_11 at g4
  have g3 := f18.2.1.2
  unfold preb_243 at g3
  have e0 : n11 = hV H1 325 (n1).toNat := (by rw [f20] at f24; exact f24 : n11 = hV H1 325 (n1).toNat)
  have e2 : n14 = hV H1 326 (n1).toNat := (by rw [f27] at f31; exact f31 : n14 = hV H2 326 (n1).toNat).trans ((congrFun (uRowNe f26 326 (iS (show n10 = ((325 : Nat) : Int) from f20) rfl)) _))
  have e4 : hV H1 285 60 = hV H0 285 60 := (f18.1.2.1.1 285 60 kF_243_285_60)
  have e5 : (1 : Int) ≤ hV H0 285 60 ∧ hV H0 285 60 ≤ 6 := bTo e4 (f18.1.2.2 285 60 _ _ kW_285_60)
  try simp only [e4] at g4
  have k0 := g4.1
  have k1 := g4.2.1
  have k2 := g4.2.2.1
  have y0 := g4.2.2.2.1
  have y1 := g4.2.2.2.2.1
  have y2 := g4.2.2.2.2.2.1
  have y3 := g4.2.2.2.2.2.2.1
  have y4 := g4.2.2.2.2.2.2.2.1
  have y5 := g4.2.2.2.2.2.2.2.2.1
  have y6 := g4.2.2.2.2.2.2.2.2.2
  have p0 := g3.1
  have p1 := g3.2.1
  have p2 := g3.2.2.1
  have p3 := g3.2.2.2
  clear g3
  clear g4
  clear f21 f24 f28 f31 e4
  subst e0
  subst e2
  first
  | (have ix0 : n12 = hV H1 325 (n1).toNat + n3 := Eq.trans f25 (w32_iv (Iad (Iat f23 f22) (Iat f7 f6)) (by decide)); subst ix0; clear f25)
  | (have ix0 : n12 = hV H1 325 (n1).toNat + n3 := Eq.trans f25 (w32_id (by omega) (by omega)); subst ix0; clear f25)
  | (unfold w32 at f25; have ix0 : n12 = hV H1 325 (n1).toNat + n3 := (by omega); subst ix0)
  | skip
  first
  | (have ix1 : n16 = hV H1 326 (n1).toNat + 1 := Eq.trans f33 (w32_iv (Iad (Iat f30 f29) (IC 1)) (by decide)); subst ix1; clear f33)
  | (have ix1 : n16 = hV H1 326 (n1).toNat + 1 := Eq.trans f33 (w32_id (by omega) (by omega)); subst ix1; clear f33)
  | (unfold w32 at f33; have ix1 : n16 = hV H1 326 (n1).toNat + 1 := (by omega); subst ix1)
  | skip
  try unfold w32 at f25
  try unfold w32 at f33
  subst y0
  omega
theorem c_243_11_6 {q0 : Nat} : vOkm T0 (eP e_243 L_243 A_243 mu_243 (some q0)) 4 ([(1, [16, 14, 15], [], 0), (0, [15], [], 1), (22, [14, 13, 8], [2], 0), (90, [14], [], 0), (91, [14], [], 10), (20, [13, 4], [2], 62), (0, [13], [], 326), (80, [10, 8, 12], [2, 1], 0), (1, [12, 11, 6], [], 0), (22, [11, 10, 8], [1], 0), (90, [11], [], 0), (91, [11], [], 60), (20, [10, 4], [1], 61), (0, [10], [], 325), (43, [9, 6], [], 0), (5000, [0, 1, 2, 3, 4, 5, 6, 7, 8, 9], [0, 1], 11), (0, [0], [], 285), (90, [1], [], 0), (91, [1], [], 60), (90, [2], [], 0), (91, [2], [], 60), (90, [3], [], 0), (91, [3], [], 1), (0, [4], [], 285), (90, [5], [], 0), (91, [5], [], 60), (90, [6], [], 0), (91, [6], [], 60), (90, [7], [], 0), (91, [7], [], 1), (90, [8], [], -2147483648), (91, [8], [], 2147483647), (90, [9], [], -2147483648), (91, [9], [], 2147483647)], (90, [16], [], 0)) := vOk_inI fun ρ η f0 f1 f2 f3 f4 f5 f6 f7 f8 f9 f10 f11 f12 f13 f14 f15 f16 f17 f18 f19 f20 f21 f22 f23 f24 f25 f26 f27 f28 f29 f30 f31 f32 f33 => q_243_6 (q0 := q0) (n0 := ρ 9) (n1 := ρ 8) (n2 := ρ 7) (n3 := ρ 6) (n4 := ρ 5) (n5 := ρ 4) (n6 := ρ 3) (n7 := ρ 2) (n8 := ρ 1) (n9 := ρ 0) (n10 := ρ 10) (n11 := ρ 11) (n12 := ρ 12) (n13 := ρ 13) (n14 := ρ 14) (n15 := ρ 15) (n16 := ρ 16) (H0 := η 0) (H1 := η 1) (H2 := η 2) f33 f32 f31 f30 f29 f28 f27 f26 f25 f24 f23 f22 f21 f20 f19 f18 f17 f16 f15 f14 f13 f12 f11 f10 f9 f8 f7 f6 f5 f4 f3 f2 f1 f0
theorem q_243_7 {q0 : Nat} {n0 n1 n2 n3 n4 n5 n6 n7 n8 n9 n10 n11 n12 n13 n14 n15 n16 : Int} {H0 H1 H2 : gH} (f0 : n0 ≤ 2147483647) (f1 : (-2147483648) ≤ n0) (f2 : n1 ≤ 2147483647) (f3 : (-2147483648) ≤ n1) (f4 : n2 ≤ 1) (f5 : 0 ≤ n2) (f6 : n3 ≤ 60) (f7 : 0 ≤ n3) (f8 : n4 ≤ 60) (f9 : 0 ≤ n4) (f10 : n5 = 285) (f11 : n6 ≤ 1) (f12 : 0 ≤ n6) (f13 : n7 ≤ 60) (f14 : 0 ≤ n7) (f15 : n8 ≤ 60) (f16 : 0 ≤ n8) (f17 : n9 = 285) (f18 : (hLe T0 H0 H1 ∧ hFr s_243.2.2.2.2 H0 H1 ∧ hWt T0 H1) ∧ (Ab_243_11 n9 n8 n7 n6 n5 n4 n3 n2 n1 n0 H0 H1 ∧ preb_243 n9 n8 n7 n6 H0) ∧ some q0 = some (mub_243_11 n9 n8 n7 n6 n5 n4 n3 n2 n1 n0 H0 H1)) (f19 : n3 ≤ n0) (f20 : n10 = 325) (f21 : n10 = hV H1 (n5).toNat 61) (f22 : n11 ≤ 60) (f23 : 0 ≤ n11) (f24 : n11 = hV H1 (n10).toNat (n1).toNat) (f25 : n12 = w32 (n11 + n3)) (f26 : hUpd H2 H1 n10 n1 n12) (f27 : n13 = 326) (f28 : n13 = hV H2 (n5).toNat 62) (f29 : n14 ≤ 10) (f30 : 0 ≤ n14) (f31 : n14 = hV H2 (n13).toNat (n1).toNat) (f32 : n15 = 1) (f33 : n16 = w32 (n14 + n15)) : n16 ≤ 10 := by
  have g4 := f18.2.1.1
  unfold Ab_243_11 at g4
  have g3 := f18.2.1.2
  unfold preb_243 at g3
  have e0 : n11 = hV H1 325 (n1).toNat := (by rw [f20] at f24; exact f24 : n11 = hV H1 325 (n1).toNat)
  have e2 : n14 = hV H1 326 (n1).toNat := (by rw [f27] at f31; exact f31 : n14 = hV H2 326 (n1).toNat).trans ((congrFun (uRowNe f26 326 (iS (show n10 = ((325 : Nat) : Int) from f20) rfl)) _))
  have e4 : hV H1 285 60 = hV H0 285 60 := (f18.1.2.1.1 285 60 kF_243_285_60)
  have e5 : (1 : Int) ≤ hV H0 285 60 ∧ hV H0 285 60 ≤ 6 := bTo e4 (f18.1.2.2 285 60 _ _ kW_285_60)
  try simp only [e4] at g4
  have k0 := g4.1
  have k1 := g4.2.1
  have k2 := g4.2.2.1
  have y0 := g4.2.2.2.1
  have y1 := g4.2.2.2.2.1
  have y2 := g4.2.2.2.2.2.1
  have y3 := g4.2.2.2.2.2.2.1
  have y4 := g4.2.2.2.2.2.2.2.1
  have y5 := g4.2.2.2.2.2.2.2.2.1
  have y6 := g4.2.2.2.2.2.2.2.2.2
  have p0 := g3.1
  have p1 := g3.2.1
  have p2 := g3.2.2.1
  have p3 := g3.2.2.2
  clear g3
  clear g4
  clear f21 f24 f28 f31 e4
  subst e0
  subst e2
  first
  | (have ix0 : n12 = hV H1 325 (n1).toNat + n3 := Eq.trans f25 (w32_iv (Iad (Iat f23 f22) (Iat f7 f6)) (by decide)); subst ix0; clear f25)
  | (have ix0 : n12 = hV H1 325 (n1).toNat + n3 := Eq.trans f25 (w32_id (by omega) (by omega)); subst ix0; clear f25)
  | (unfold w32 at f25; have ix0 : n12 = hV H1 325 (n1).toNat + n3 := (by omega); subst ix0)
  | skip
  first
  | (have ix1 : n16 = hV H1 326 (n1).toNat + 1 := Eq.trans f33 (w32_iv (Iad (Iat f30 f29) (IC 1)) (by decide)); subst ix1; clear f33)
  | (have ix1 : n16 = hV H1 326 (n1).toNat + 1 := Eq.trans f33 (w32_id (by omega) (by omega)); subst ix1; clear f33)
  | (unfold w32 at f33; have ix1 : n16 = hV H1 326 (n1).toNat + 1 := (by omega); subst ix1)
  | skip
  try unfold w32 at f25
  try unfold w32 at f33
  subst y0
  omega
theorem c_243_11_7 {q0 : Nat} : vOkm T0 (eP e_243 L_243 A_243 mu_243 (some q0)) 4 ([(1, [16, 14, 15], [], 0), (0, [15], [], 1), (22, [14, 13, 8], [2], 0), (90, [14], [], 0), (91, [14], [], 10), (20, [13, 4], [2], 62), (0, [13], [], 326), (80, [10, 8, 12], [2, 1], 0), (1, [12, 11, 6], [], 0), (22, [11, 10, 8], [1], 0), (90, [11], [], 0), (91, [11], [], 60), (20, [10, 4], [1], 61), (0, [10], [], 325), (43, [9, 6], [], 0), (5000, [0, 1, 2, 3, 4, 5, 6, 7, 8, 9], [0, 1], 11), (0, [0], [], 285), (90, [1], [], 0), (91, [1], [], 60), (90, [2], [], 0), (91, [2], [], 60), (90, [3], [], 0), (91, [3], [], 1), (0, [4], [], 285), (90, [5], [], 0), (91, [5], [], 60), (90, [6], [], 0), (91, [6], [], 60), (90, [7], [], 0), (91, [7], [], 1), (90, [8], [], -2147483648), (91, [8], [], 2147483647), (90, [9], [], -2147483648), (91, [9], [], 2147483647)], (91, [16], [], 10)) := vOk_inI fun ρ η f0 f1 f2 f3 f4 f5 f6 f7 f8 f9 f10 f11 f12 f13 f14 f15 f16 f17 f18 f19 f20 f21 f22 f23 f24 f25 f26 f27 f28 f29 f30 f31 f32 f33 => q_243_7 (q0 := q0) (n0 := ρ 9) (n1 := ρ 8) (n2 := ρ 7) (n3 := ρ 6) (n4 := ρ 5) (n5 := ρ 4) (n6 := ρ 3) (n7 := ρ 2) (n8 := ρ 1) (n9 := ρ 0) (n10 := ρ 10) (n11 := ρ 11) (n12 := ρ 12) (n13 := ρ 13) (n14 := ρ 14) (n15 := ρ 15) (n16 := ρ 16) (H0 := η 0) (H1 := η 1) (H2 := η 2) f33 f32 f31 f30 f29 f28 f27 f26 f25 f24 f23 f22 f21 f20 f19 f18 f17 f16 f15 f14 f13 f12 f11 f10 f9 f8 f7 f6 f5 f4 f3 f2 f1 f0
theorem q_243_8 {q0 : Nat} {n0 n1 n2 n3 n4 n5 n6 n7 n8 n9 n10 n11 n12 n13 n14 n15 n16 n17 : Int} {H0 H1 H2 H3 : gH} (f0 : n0 ≤ 2147483647) (f1 : (-2147483648) ≤ n0) (f2 : n1 ≤ 2147483647) (f3 : (-2147483648) ≤ n1) (f4 : n2 ≤ 1) (f5 : 0 ≤ n2) (f6 : n3 ≤ 60) (f7 : 0 ≤ n3) (f8 : n4 ≤ 60) (f9 : 0 ≤ n4) (f10 : n5 = 285) (f11 : n6 ≤ 1) (f12 : 0 ≤ n6) (f13 : n7 ≤ 60) (f14 : 0 ≤ n7) (f15 : n8 ≤ 60) (f16 : 0 ≤ n8) (f17 : n9 = 285) (f18 : (hLe T0 H0 H1 ∧ hFr s_243.2.2.2.2 H0 H1 ∧ hWt T0 H1) ∧ (Ab_243_11 n9 n8 n7 n6 n5 n4 n3 n2 n1 n0 H0 H1 ∧ preb_243 n9 n8 n7 n6 H0) ∧ some q0 = some (mub_243_11 n9 n8 n7 n6 n5 n4 n3 n2 n1 n0 H0 H1)) (f19 : n3 ≤ n0) (f20 : n10 = 325) (f21 : n10 = hV H1 (n5).toNat 61) (f22 : n11 ≤ 60) (f23 : 0 ≤ n11) (f24 : n11 = hV H1 (n10).toNat (n1).toNat) (f25 : n12 = w32 (n11 + n3)) (f26 : hUpd H2 H1 n10 n1 n12) (f27 : n13 = 326) (f28 : n13 = hV H2 (n5).toNat 62) (f29 : n14 ≤ 10) (f30 : 0 ≤ n14) (f31 : n14 = hV H2 (n13).toNat (n1).toNat) (f32 : n15 = 1) (f33 : n16 = w32 (n14 + n15)) (f34 : hUpd H3 H2 n13 n1 n16) (f35 : n17 = 325) (f36 : n17 = hV H3 (n5).toNat 61) : 0 ≤ n1 ∧ n1 < 6 := by
  have g4 := f18.2.1.1
  unfold Ab_243_11 at g4
  have g3 := f18.2.1.2
  unfold preb_243 at g3
  have e0 : n11 = hV H1 325 (n1).toNat := (by rw [f20] at f24; exact f24 : n11 = hV H1 325 (n1).toNat)
  have e2 : n14 = hV H1 326 (n1).toNat := (by rw [f27] at f31; exact f31 : n14 = hV H2 326 (n1).toNat).trans ((congrFun (uRowNe f26 326 (iS (show n10 = ((325 : Nat) : Int) from f20) rfl)) _))
  have e4 : hV H1 285 60 = hV H0 285 60 := (f18.1.2.1.1 285 60 kF_243_285_60)
  have e5 : (1 : Int) ≤ hV H0 285 60 ∧ hV H0 285 60 ≤ 6 := bTo e4 (f18.1.2.2 285 60 _ _ kW_285_60)
  try simp only [e4] at g4
  have k0 := g4.1
  have k1 := g4.2.1
  have k2 := g4.2.2.1
  have y0 := g4.2.2.2.1
  have y1 := g4.2.2.2.2.1
  have y2 := g4.2.2.2.2.2.1
  have y3 := g4.2.2.2.2.2.2.1
  have y4 := g4.2.2.2.2.2.2.2.1
  have y5 := g4.2.2.2.2.2.2.2.2.1
  have y6 := g4.2.2.2.2.2.2.2.2.2
  have p0 := g3.1
  have p1 := g3.2.1
  have p2 := g3.2.2.1
  have p3 := g3.2.2.2
  clear g3
  clear g4
  clear f21 f24 f28 f31 f36 e4
  subst e0
  subst e2
  first
  | (have ix0 : n12 = hV H1 325 (n1).toNat + n3 := Eq.trans f25 (w32_iv (Iad (Iat f23 f22) (Iat f7 f6)) (by decide)); subst ix0; clear f25)
  | (have ix0 : n12 = hV H1 325 (n1).toNat + n3 := Eq.trans f25 (w32_id (by omega) (by omega)); subst ix0; clear f25)
  | (unfold w32 at f25; have ix0 : n12 = hV H1 325 (n1).toNat + n3 := (by omega); subst ix0)
  | skip
  first
  | (have ix1 : n16 = hV H1 326 (n1).toNat + 1 := Eq.trans f33 (w32_iv (Iad (Iat f30 f29) (IC 1)) (by decide)); subst ix1; clear f33)
  | (have ix1 : n16 = hV H1 326 (n1).toNat + 1 := Eq.trans f33 (w32_id (by omega) (by omega)); subst ix1; clear f33)
  | (unfold w32 at f33; have ix1 : n16 = hV H1 326 (n1).toNat + 1 := (by omega); subst ix1)
  | skip
  try unfold w32 at f25
  try unfold w32 at f33
  subst y0
  omega
theorem c_243_11_8 {q0 : Nat} : vOkm T0 (eP e_243 L_243 A_243 mu_243 (some q0)) 4 ([(20, [17, 4], [3], 61), (0, [17], [], 325), (80, [13, 8, 16], [3, 2], 0), (1, [16, 14, 15], [], 0), (0, [15], [], 1), (22, [14, 13, 8], [2], 0), (90, [14], [], 0), (91, [14], [], 10), (20, [13, 4], [2], 62), (0, [13], [], 326), (80, [10, 8, 12], [2, 1], 0), (1, [12, 11, 6], [], 0), (22, [11, 10, 8], [1], 0), (90, [11], [], 0), (91, [11], [], 60), (20, [10, 4], [1], 61), (0, [10], [], 325), (43, [9, 6], [], 0), (5000, [0, 1, 2, 3, 4, 5, 6, 7, 8, 9], [0, 1], 11), (0, [0], [], 285), (90, [1], [], 0), (91, [1], [], 60), (90, [2], [], 0), (91, [2], [], 60), (90, [3], [], 0), (91, [3], [], 1), (0, [4], [], 285), (90, [5], [], 0), (91, [5], [], 60), (90, [6], [], 0), (91, [6], [], 60), (90, [7], [], 0), (91, [7], [], 1), (90, [8], [], -2147483648), (91, [8], [], 2147483647), (90, [9], [], -2147483648), (91, [9], [], 2147483647)], (70, [8], [], 6)) := vOk_inI fun ρ η f0 f1 f2 f3 f4 f5 f6 f7 f8 f9 f10 f11 f12 f13 f14 f15 f16 f17 f18 f19 f20 f21 f22 f23 f24 f25 f26 f27 f28 f29 f30 f31 f32 f33 f34 f35 f36 => q_243_8 (q0 := q0) (n0 := ρ 9) (n1 := ρ 8) (n2 := ρ 7) (n3 := ρ 6) (n4 := ρ 5) (n5 := ρ 4) (n6 := ρ 3) (n7 := ρ 2) (n8 := ρ 1) (n9 := ρ 0) (n10 := ρ 10) (n11 := ρ 11) (n12 := ρ 12) (n13 := ρ 13) (n14 := ρ 14) (n15 := ρ 15) (n16 := ρ 16) (n17 := ρ 17) (H0 := η 0) (H1 := η 1) (H2 := η 2) (H3 := η 3) f36 f35 f34 f33 f32 f31 f30 f29 f28 f27 f26 f25 f24 f23 f22 f21 f20 f19 f18 f17 f16 f15 f14 f13 f12 f11 f10 f9 f8 f7 f6 f5 f4 f3 f2 f1 f0
theorem q_243_9 {q0 : Nat} {n0 n1 n2 n3 n4 n5 n6 n7 n8 n9 n10 n11 : Int} {H0 H1 : gH} (f0 : n0 ≤ 2147483647) (f1 : (-2147483648) ≤ n0) (f2 : n1 ≤ 2147483647) (f3 : (-2147483648) ≤ n1) (f4 : n2 ≤ 1) (f5 : 0 ≤ n2) (f6 : n3 ≤ 60) (f7 : 0 ≤ n3) (f8 : n4 ≤ 60) (f9 : 0 ≤ n4) (f10 : n5 = 285) (f11 : n6 ≤ 1) (f12 : 0 ≤ n6) (f13 : n7 ≤ 60) (f14 : 0 ≤ n7) (f15 : n8 ≤ 60) (f16 : 0 ≤ n8) (f17 : n9 = 285) (f18 : (hLe T0 H0 H1 ∧ hFr s_243.2.2.2.2 H0 H1 ∧ hWt T0 H1) ∧ (Ab_243_11 n9 n8 n7 n6 n5 n4 n3 n2 n1 n0 H0 H1 ∧ preb_243 n9 n8 n7 n6 H0) ∧ some q0 = some (mub_243_11 n9 n8 n7 n6 n5 n4 n3 n2 n1 n0 H0 H1)) (f19 : n0 < n3) (f20 : n10 = 60) (f21 : n11 = w32 (n10 * n1)) : 0 ≤ n1 ∧ n1 < 6 := by
  have g4 := f18.2.1.1
  unfold Ab_243_11 at g4
  have g3 := f18.2.1.2
  unfold preb_243 at g3
  have e1 : hV H1 285 60 = hV H0 285 60 := (f18.1.2.1.1 285 60 kF_243_285_60)
  have e2 : (1 : Int) ≤ hV H0 285 60 ∧ hV H0 285 60 ≤ 6 := bTo e1 (f18.1.2.2 285 60 _ _ kW_285_60)
  try simp only [e1] at g4
  have k0 := g4.1
  have k1 := g4.2.1
  have k2 := g4.2.2.1
  have y0 := g4.2.2.2.1
  have y1 := g4.2.2.2.2.1
  have y2 := g4.2.2.2.2.2.1
  have y3 := g4.2.2.2.2.2.2.1
  have y4 := g4.2.2.2.2.2.2.2.1
  have y5 := g4.2.2.2.2.2.2.2.2.1
  have y6 := g4.2.2.2.2.2.2.2.2.2
  have p0 := g3.1
  have p1 := g3.2.1
  have p2 := g3.2.2.1
  have p3 := g3.2.2.2
  clear g3
  clear g4
  clear e1
  rw [f20] at f21
  unfold w32 at f21
  subst y0
  omega
theorem c_243_11_9 {q0 : Nat} : vOkm T0 (eP e_243 L_243 A_243 mu_243 (some q0)) 4 ([(3, [12, 11, 8], [], 0), (0, [11], [], 60), (42, [9, 6], [], 0), (5000, [0, 1, 2, 3, 4, 5, 6, 7, 8, 9], [0, 1], 11), (0, [0], [], 285), (90, [1], [], 0), (91, [1], [], 60), (90, [2], [], 0), (91, [2], [], 60), (90, [3], [], 0), (91, [3], [], 1), (0, [4], [], 285), (90, [5], [], 0), (91, [5], [], 60), (90, [6], [], 0), (91, [6], [], 60), (90, [7], [], 0), (91, [7], [], 1), (90, [8], [], -2147483648), (91, [8], [], 2147483647), (90, [9], [], -2147483648), (91, [9], [], 2147483647)], (70, [8], [], 6)) := vOk_inI fun ρ η f0 f1 f2 f3 f4 f5 f6 f7 f8 f9 f10 f11 f12 f13 f14 f15 f16 f17 f18 f19 f20 f21 => q_243_9 (q0 := q0) (n0 := ρ 9) (n1 := ρ 8) (n2 := ρ 7) (n3 := ρ 6) (n4 := ρ 5) (n5 := ρ 4) (n6 := ρ 3) (n7 := ρ 2) (n8 := ρ 1) (n9 := ρ 0) (n10 := ρ 11) (n11 := ρ 12) (H0 := η 0) (H1 := η 1) f21 f20 f19 f18 f17 f16 f15 f14 f13 f12 f11 f10 f9 f8 f7 f6 f5 f4 f3 f2 f1 f0
theorem q_243_10 {q0 : Nat} {n0 n1 n2 n3 n4 n5 n6 n7 n8 n9 n10 n11 n12 n13 n14 n15 n16 : Int} {H0 H1 : gH} (f0 : n0 ≤ 2147483647) (f1 : (-2147483648) ≤ n0) (f2 : n1 ≤ 2147483647) (f3 : (-2147483648) ≤ n1) (f4 : n2 ≤ 1) (f5 : 0 ≤ n2) (f6 : n3 ≤ 60) (f7 : 0 ≤ n3) (f8 : n4 ≤ 60) (f9 : 0 ≤ n4) (f10 : n5 = 285) (f11 : n6 ≤ 1) (f12 : 0 ≤ n6) (f13 : n7 ≤ 60) (f14 : 0 ≤ n7) (f15 : n8 ≤ 60) (f16 : 0 ≤ n8) (f17 : n9 = 285) (f18 : (hLe T0 H0 H1 ∧ hFr s_243.2.2.2.2 H0 H1 ∧ hWt T0 H1) ∧ (Ab_243_11 n9 n8 n7 n6 n5 n4 n3 n2 n1 n0 H0 H1 ∧ preb_243 n9 n8 n7 n6 H0) ∧ some q0 = some (mub_243_11 n9 n8 n7 n6 n5 n4 n3 n2 n1 n0 H0 H1)) (f19 : n0 < n3) (f20 : n10 = 60) (f21 : n11 = w32 (n10 * n1)) (f22 : n12 = 325) (f23 : n12 = hV H1 (n5).toNat 61) (f24 : n13 ≤ 60) (f25 : 0 ≤ n13) (f26 : n13 = hV H1 (n12).toNat (n1).toNat) (f27 : n14 = w32 (n11 + n13)) (f28 : n15 = w32 (n14 + n0)) (f29 : n2 = 0) (f30 : n16 = w32 (n4 + n0)) : 0 ≤ n15 ∧ n15 < 360 := by
  have g4 := f18.2.1.1
  unfold Ab_243_11 at g4
  have g3 := f18.2.1.2
  unfold preb_243 at g3
  have e0 : n13 = hV H1 325 (n1).toNat := (by rw [f22] at f26; exact f26 : n13 = hV H1 325 (n1).toNat)
  have e2 : hV H1 285 60 = hV H0 285 60 := (f18.1.2.1.1 285 60 kF_243_285_60)
  have e3 : (1 : Int) ≤ hV H0 285 60 ∧ hV H0 285 60 ≤ 6 := bTo e2 (f18.1.2.2 285 60 _ _ kW_285_60)
  try simp only [e2] at g4
  have k0 := g4.1
  have k1 := g4.2.1
  have k2 := g4.2.2.1
  have y0 := g4.2.2.2.1
  have y1 := g4.2.2.2.2.1
  have y2 := g4.2.2.2.2.2.1
  have y3 := g4.2.2.2.2.2.2.1
  have y4 := g4.2.2.2.2.2.2.2.1
  have y5 := g4.2.2.2.2.2.2.2.2.1
  have y6 := g4.2.2.2.2.2.2.2.2.2
  have p0 := g3.1
  have p1 := g3.2.1
  have p2 := g3.2.2.1
  have p3 := g3.2.2.2
  clear g3
  clear g4
  clear f23 f26 e2
  subst e0
  rw [f20] at f21
  first
  | (have ix0 : n11 = 60 * n1 := Eq.trans f21 (w32_id (by omega) (by omega)); subst ix0; clear f21)
  | (unfold w32 at f21; have ix0 : n11 = 60 * n1 := (by omega); subst ix0)
  | skip
  first
  | (have ix1 : n14 = (60 * n1) + hV H1 325 (n1).toNat := Eq.trans f27 (w32_id (by omega) (by omega)); subst ix1; clear f27)
  | (unfold w32 at f27; have ix1 : n14 = (60 * n1) + hV H1 325 (n1).toNat := (by omega); subst ix1)
  | skip
  first
  | (have ix2 : n15 = ((60 * n1) + hV H1 325 (n1).toNat) + n0 := Eq.trans f28 (w32_id (by omega) (by omega)); subst ix2; clear f28)
  | (unfold w32 at f28; have ix2 : n15 = ((60 * n1) + hV H1 325 (n1).toNat) + n0 := (by omega); subst ix2)
  | skip
  try unfold w32 at f21
  try unfold w32 at f27
  try unfold w32 at f28
  try unfold w32 at f30
  subst y0
  omega
theorem c_243_11_10 {q0 : Nat} : vOkm T0 (eP e_243 L_243 A_243 mu_243 (some q0)) 4 ([(1, [17, 5, 9], [], 0), (30, [7], [], 0), (1, [16, 15, 9], [], 0), (1, [15, 12, 14], [], 0), (22, [14, 13, 8], [1], 0), (90, [14], [], 0), (91, [14], [], 60), (20, [13, 4], [1], 61), (0, [13], [], 325), (3, [12, 11, 8], [], 0), (0, [11], [], 60), (42, [9, 6], [], 0), (5000, [0, 1, 2, 3, 4, 5, 6, 7, 8, 9], [0, 1], 11), (0, [0], [], 285), (90, [1], [], 0), (91, [1], [], 60), (90, [2], [], 0), (91, [2], [], 60), (90, [3], [], 0), (91, [3], [], 1), (0, [4], [], 285), (90, [5], [], 0), (91, [5], [], 60), (90, [6], [], 0), (91, [6], [], 60), (90, [7], [], 0), (91, [7], [], 1), (90, [8], [], -2147483648), (91, [8], [], 2147483647), (90, [9], [], -2147483648), (91, [9], [], 2147483647)], (70, [16], [], 360)) := vOk_inI fun ρ η f0 f1 f2 f3 f4 f5 f6 f7 f8 f9 f10 f11 f12 f13 f14 f15 f16 f17 f18 f19 f20 f21 f22 f23 f24 f25 f26 f27 f28 f29 f30 => q_243_10 (q0 := q0) (n0 := ρ 9) (n1 := ρ 8) (n2 := ρ 7) (n3 := ρ 6) (n4 := ρ 5) (n5 := ρ 4) (n6 := ρ 3) (n7 := ρ 2) (n8 := ρ 1) (n9 := ρ 0) (n10 := ρ 11) (n11 := ρ 12) (n12 := ρ 13) (n13 := ρ 14) (n14 := ρ 15) (n15 := ρ 16) (n16 := ρ 17) (H0 := η 0) (H1 := η 1) f30 f29 f28 f27 f26 f25 f24 f23 f22 f21 f20 f19 f18 f17 f16 f15 f14 f13 f12 f11 f10 f9 f8 f7 f6 f5 f4 f3 f2 f1 f0
theorem q_243_11 {q0 : Nat} {n0 n1 n2 n3 n4 n5 n6 n7 n8 n9 n10 n11 n12 n13 n14 n15 n16 : Int} {H0 H1 : gH} (f0 : n0 ≤ 2147483647) (f1 : (-2147483648) ≤ n0) (f2 : n1 ≤ 2147483647) (f3 : (-2147483648) ≤ n1) (f4 : n2 ≤ 1) (f5 : 0 ≤ n2) (f6 : n3 ≤ 60) (f7 : 0 ≤ n3) (f8 : n4 ≤ 60) (f9 : 0 ≤ n4) (f10 : n5 = 285) (f11 : n6 ≤ 1) (f12 : 0 ≤ n6) (f13 : n7 ≤ 60) (f14 : 0 ≤ n7) (f15 : n8 ≤ 60) (f16 : 0 ≤ n8) (f17 : n9 = 285) (f18 : (hLe T0 H0 H1 ∧ hFr s_243.2.2.2.2 H0 H1 ∧ hWt T0 H1) ∧ (Ab_243_11 n9 n8 n7 n6 n5 n4 n3 n2 n1 n0 H0 H1 ∧ preb_243 n9 n8 n7 n6 H0) ∧ some q0 = some (mub_243_11 n9 n8 n7 n6 n5 n4 n3 n2 n1 n0 H0 H1)) (f19 : n0 < n3) (f20 : n10 = 60) (f21 : n11 = w32 (n10 * n1)) (f22 : n12 = 325) (f23 : n12 = hV H1 (n5).toNat 61) (f24 : n13 ≤ 60) (f25 : 0 ≤ n13) (f26 : n13 = hV H1 (n12).toNat (n1).toNat) (f27 : n14 = w32 (n11 + n13)) (f28 : n15 = w32 (n14 + n0)) (f29 : n2 = 0) (f30 : n16 = w32 (n4 + n0)) : (-1) ≤ n16 := by
  have g4 := f18.2.1.1
  unfold Ab_243_11 at g4
  have g3 := f18.2.1.2
  unfold preb_243 at g3
  have e0 : n13 = hV H1 325 (n1).toNat := (by rw [f22] at f26; exact f26 : n13 = hV H1 325 (n1).toNat)
  have e2 : hV H1 285 60 = hV H0 285 60 := (f18.1.2.1.1 285 60 kF_243_285_60)
  have e3 : (1 : Int) ≤ hV H0 285 60 ∧ hV H0 285 60 ≤ 6 := bTo e2 (f18.1.2.2 285 60 _ _ kW_285_60)
  try simp only [e2] at g4
  have k0 := g4.1
  have k1 := g4.2.1
  have k2 := g4.2.2.1
  have y0 := g4.2.2.2.1
  have y1 := g4.2.2.2.2.1
  have y2 := g4.2.2.2.2.2.1
  have y3 := g4.2.2.2.2.2.2.1
  have y4 := g4.2.2.2.2.2.2.2.1
  have y5 := g4.2.2.2.2.2.2.2.2.1
  have y6 := g4.2.2.2.2.2.2.2.2.2
  have p0 := g3.1
  have p1 := g3.2.1
  have p2 := g3.2.2.1
  have p3 := g3.2.2.2
  clear g3
  clear g4
  clear f23 f26 e2
  subst e0
  rw [f20] at f21
  first
  | (have ix0 : n16 = n4 + n0 := Eq.trans f30 (w32_id (by omega) (by omega)); subst ix0; clear f30)
  | (unfold w32 at f30; have ix0 : n16 = n4 + n0 := (by omega); subst ix0)
  | skip
  try unfold w32 at f21
  try unfold w32 at f27
  try unfold w32 at f28
  try unfold w32 at f30
  subst y0
  omega
theorem c_243_11_11 {q0 : Nat} : vOkm T0 (eP e_243 L_243 A_243 mu_243 (some q0)) 4 ([(1, [17, 5, 9], [], 0), (30, [7], [], 0), (1, [16, 15, 9], [], 0), (1, [15, 12, 14], [], 0), (22, [14, 13, 8], [1], 0), (90, [14], [], 0), (91, [14], [], 60), (20, [13, 4], [1], 61), (0, [13], [], 325), (3, [12, 11, 8], [], 0), (0, [11], [], 60), (42, [9, 6], [], 0), (5000, [0, 1, 2, 3, 4, 5, 6, 7, 8, 9], [0, 1], 11), (0, [0], [], 285), (90, [1], [], 0), (91, [1], [], 60), (90, [2], [], 0), (91, [2], [], 60), (90, [3], [], 0), (91, [3], [], 1), (0, [4], [], 285), (90, [5], [], 0), (91, [5], [], 60), (90, [6], [], 0), (91, [6], [], 60), (90, [7], [], 0), (91, [7], [], 1), (90, [8], [], -2147483648), (91, [8], [], 2147483647), (90, [9], [], -2147483648), (91, [9], [], 2147483647)], (90, [17], [], -1)) := vOk_inI fun ρ η f0 f1 f2 f3 f4 f5 f6 f7 f8 f9 f10 f11 f12 f13 f14 f15 f16 f17 f18 f19 f20 f21 f22 f23 f24 f25 f26 f27 f28 f29 f30 => q_243_11 (q0 := q0) (n0 := ρ 9) (n1 := ρ 8) (n2 := ρ 7) (n3 := ρ 6) (n4 := ρ 5) (n5 := ρ 4) (n6 := ρ 3) (n7 := ρ 2) (n8 := ρ 1) (n9 := ρ 0) (n10 := ρ 11) (n11 := ρ 12) (n12 := ρ 13) (n13 := ρ 14) (n14 := ρ 15) (n15 := ρ 16) (n16 := ρ 17) (H0 := η 0) (H1 := η 1) f30 f29 f28 f27 f26 f25 f24 f23 f22 f21 f20 f19 f18 f17 f16 f15 f14 f13 f12 f11 f10 f9 f8 f7 f6 f5 f4 f3 f2 f1 f0
theorem q_243_12 {q0 : Nat} {n0 n1 n2 n3 n4 n5 n6 n7 n8 n9 n10 n11 n12 n13 n14 n15 n16 : Int} {H0 H1 : gH} (f0 : n0 ≤ 2147483647) (f1 : (-2147483648) ≤ n0) (f2 : n1 ≤ 2147483647) (f3 : (-2147483648) ≤ n1) (f4 : n2 ≤ 1) (f5 : 0 ≤ n2) (f6 : n3 ≤ 60) (f7 : 0 ≤ n3) (f8 : n4 ≤ 60) (f9 : 0 ≤ n4) (f10 : n5 = 285) (f11 : n6 ≤ 1) (f12 : 0 ≤ n6) (f13 : n7 ≤ 60) (f14 : 0 ≤ n7) (f15 : n8 ≤ 60) (f16 : 0 ≤ n8) (f17 : n9 = 285) (f18 : (hLe T0 H0 H1 ∧ hFr s_243.2.2.2.2 H0 H1 ∧ hWt T0 H1) ∧ (Ab_243_11 n9 n8 n7 n6 n5 n4 n3 n2 n1 n0 H0 H1 ∧ preb_243 n9 n8 n7 n6 H0) ∧ some q0 = some (mub_243_11 n9 n8 n7 n6 n5 n4 n3 n2 n1 n0 H0 H1)) (f19 : n0 < n3) (f20 : n10 = 60) (f21 : n11 = w32 (n10 * n1)) (f22 : n12 = 325) (f23 : n12 = hV H1 (n5).toNat 61) (f24 : n13 ≤ 60) (f25 : 0 ≤ n13) (f26 : n13 = hV H1 (n12).toNat (n1).toNat) (f27 : n14 = w32 (n11 + n13)) (f28 : n15 = w32 (n14 + n0)) (f29 : n2 = 0) (f30 : n16 = w32 (n4 + n0)) : n16 ≤ 59 := by
  have g4 := f18.2.1.1
  unfold Ab_243_11 at g4
  have g3 := f18.2.1.2
  unfold preb_243 at g3
  have e0 : n13 = hV H1 325 (n1).toNat := (by rw [f22] at f26; exact f26 : n13 = hV H1 325 (n1).toNat)
  have e2 : hV H1 285 60 = hV H0 285 60 := (f18.1.2.1.1 285 60 kF_243_285_60)
  have e3 : (1 : Int) ≤ hV H0 285 60 ∧ hV H0 285 60 ≤ 6 := bTo e2 (f18.1.2.2 285 60 _ _ kW_285_60)
  try simp only [e2] at g4
  have k0 := g4.1
  have k1 := g4.2.1
  have k2 := g4.2.2.1
  have y0 := g4.2.2.2.1
  have y1 := g4.2.2.2.2.1
  have y2 := g4.2.2.2.2.2.1
  have y3 := g4.2.2.2.2.2.2.1
  have y4 := g4.2.2.2.2.2.2.2.1
  have y5 := g4.2.2.2.2.2.2.2.2.1
  have y6 := g4.2.2.2.2.2.2.2.2.2
  have p0 := g3.1
  have p1 := g3.2.1
  have p2 := g3.2.2.1
  have p3 := g3.2.2.2
  clear g3
  clear g4
  clear f23 f26 e2
  subst e0
  rw [f20] at f21
  first
  | (have ix0 : n16 = n4 + n0 := Eq.trans f30 (w32_id (by omega) (by omega)); subst ix0; clear f30)
  | (unfold w32 at f30; have ix0 : n16 = n4 + n0 := (by omega); subst ix0)
  | skip
  try unfold w32 at f21
  try unfold w32 at f27
  try unfold w32 at f28
  try unfold w32 at f30
  subst y0
  omega
theorem c_243_11_12 {q0 : Nat} : vOkm T0 (eP e_243 L_243 A_243 mu_243 (some q0)) 4 ([(1, [17, 5, 9], [], 0), (30, [7], [], 0), (1, [16, 15, 9], [], 0), (1, [15, 12, 14], [], 0), (22, [14, 13, 8], [1], 0), (90, [14], [], 0), (91, [14], [], 60), (20, [13, 4], [1], 61), (0, [13], [], 325), (3, [12, 11, 8], [], 0), (0, [11], [], 60), (42, [9, 6], [], 0), (5000, [0, 1, 2, 3, 4, 5, 6, 7, 8, 9], [0, 1], 11), (0, [0], [], 285), (90, [1], [], 0), (91, [1], [], 60), (90, [2], [], 0), (91, [2], [], 60), (90, [3], [], 0), (91, [3], [], 1), (0, [4], [], 285), (90, [5], [], 0), (91, [5], [], 60), (90, [6], [], 0), (91, [6], [], 60), (90, [7], [], 0), (91, [7], [], 1), (90, [8], [], -2147483648), (91, [8], [], 2147483647), (90, [9], [], -2147483648), (91, [9], [], 2147483647)], (91, [17], [], 59)) := vOk_inI fun ρ η f0 f1 f2 f3 f4 f5 f6 f7 f8 f9 f10 f11 f12 f13 f14 f15 f16 f17 f18 f19 f20 f21 f22 f23 f24 f25 f26 f27 f28 f29 f30 => q_243_12 (q0 := q0) (n0 := ρ 9) (n1 := ρ 8) (n2 := ρ 7) (n3 := ρ 6) (n4 := ρ 5) (n5 := ρ 4) (n6 := ρ 3) (n7 := ρ 2) (n8 := ρ 1) (n9 := ρ 0) (n10 := ρ 11) (n11 := ρ 12) (n12 := ρ 13) (n13 := ρ 14) (n14 := ρ 15) (n15 := ρ 16) (n16 := ρ 17) (H0 := η 0) (H1 := η 1) f30 f29 f28 f27 f26 f25 f24 f23 f22 f21 f20 f19 f18 f17 f16 f15 f14 f13 f12 f11 f10 f9 f8 f7 f6 f5 f4 f3 f2 f1 f0
theorem q_243_13 {q0 : Nat} {n0 n1 n2 n3 n4 n5 n6 n7 n8 n9 n10 n11 n12 n13 n14 n15 n16 n17 n18 : Int} {H0 H1 H2 : gH} (f0 : n0 ≤ 2147483647) (f1 : (-2147483648) ≤ n0) (f2 : n1 ≤ 2147483647) (f3 : (-2147483648) ≤ n1) (f4 : n2 ≤ 1) (f5 : 0 ≤ n2) (f6 : n3 ≤ 60) (f7 : 0 ≤ n3) (f8 : n4 ≤ 60) (f9 : 0 ≤ n4) (f10 : n5 = 285) (f11 : n6 ≤ 1) (f12 : 0 ≤ n6) (f13 : n7 ≤ 60) (f14 : 0 ≤ n7) (f15 : n8 ≤ 60) (f16 : 0 ≤ n8) (f17 : n9 = 285) (f18 : (hLe T0 H0 H1 ∧ hFr s_243.2.2.2.2 H0 H1 ∧ hWt T0 H1) ∧ (Ab_243_11 n9 n8 n7 n6 n5 n4 n3 n2 n1 n0 H0 H1 ∧ preb_243 n9 n8 n7 n6 H0) ∧ some q0 = some (mub_243_11 n9 n8 n7 n6 n5 n4 n3 n2 n1 n0 H0 H1)) (f19 : n0 < n3) (f20 : n10 = 327) (f21 : n10 = hV H1 (n5).toNat 63) (f22 : n11 = 60) (f23 : n12 = w32 (n11 * n1)) (f24 : n13 = 325) (f25 : n13 = hV H1 (n5).toNat 61) (f26 : n14 ≤ 60) (f27 : 0 ≤ n14) (f28 : n14 = hV H1 (n13).toNat (n1).toNat) (f29 : n15 = w32 (n12 + n14)) (f30 : n16 = w32 (n15 + n0)) (f31 : n2 = 0) (f32 : n17 = w32 (n4 + n0)) (f33 : hUpd H2 H1 n10 n16 n17) (f34 : n18 = w32 (n0 + 1)) : Ab_243_11 n9 n8 n7 n6 n5 n4 n3 n2 n1 n18 H0 H2 ∧ ∀ q, some q0 = some q → mub_243_11 n9 n8 n7 n6 n5 n4 n3 n2 n1 n18 H0 H2 < q := by
  have g4 := f18.2.1.1
  unfold Ab_243_11 at g4
  have g3 := f18.2.1.2
  unfold preb_243 at g3
  have g5 := Option.some.inj f18.2.2
  unfold mub_243_11 at g5
  unfold Ab_243_11
  unfold mub_243_11
  have e0 : n14 = hV H1 325 (n1).toNat := (by rw [f24] at f28; exact f28 : n14 = hV H1 325 (n1).toNat)
  have e2 : hV H1 285 60 = hV H0 285 60 := (f18.1.2.1.1 285 60 kF_243_285_60)
  have e4 : hV H2 285 60 = hV H0 285 60 := ((uPlace f33 285 60 (iS (show n10 = ((327 : Nat) : Int) from f20) rfl))).trans (f18.1.2.1.1 285 60 kF_243_285_60)
  have e5 : hV H2 325 = hV H1 325 := uRowNe f33 325 (iS (show n10 = ((327 : Nat) : Int) from f20) rfl)
  have e6 : hV H2 326 = hV H1 326 := uRowNe f33 326 (iS (show n10 = ((327 : Nat) : Int) from f20) rfl)
  have e7 : (1 : Int) ≤ hV H0 285 60 ∧ hV H0 285 60 ≤ 6 := bTo e2 (f18.1.2.2 285 60 _ _ kW_285_60)
  try simp only [e2] at g4
  try simp only [e4, e5, e6]
  have k0 := g4.1
  have k1 := g4.2.1
  have k2 := g4.2.2.1
  have y0 := g4.2.2.2.1
  have y1 := g4.2.2.2.2.1
  have y2 := g4.2.2.2.2.2.1
  have y3 := g4.2.2.2.2.2.2.1
  have y4 := g4.2.2.2.2.2.2.2.1
  have y5 := g4.2.2.2.2.2.2.2.2.1
  have y6 := g4.2.2.2.2.2.2.2.2.2
  have p0 := g3.1
  have p1 := g3.2.1
  have p2 := g3.2.2.1
  have p3 := g3.2.2.2
  clear g3
  clear g4
  clear f21 f25 f28 e2 e4 e5 e6
  subst e0
  rw [f22] at f23
  first
  | (have ix0 : n12 = 60 * n1 := Eq.trans f23 (w32_id (by omega) (by omega)); subst ix0; clear f23)
  | (unfold w32 at f23; have ix0 : n12 = 60 * n1 := (by omega); subst ix0)
  | skip
  first
  | (have ix1 : n15 = (60 * n1) + hV H1 325 (n1).toNat := Eq.trans f29 (w32_id (by omega) (by omega)); subst ix1; clear f29)
  | (unfold w32 at f29; have ix1 : n15 = (60 * n1) + hV H1 325 (n1).toNat := (by omega); subst ix1)
  | skip
  first
  | (have ix2 : n16 = ((60 * n1) + hV H1 325 (n1).toNat) + n0 := Eq.trans f30 (w32_id (by omega) (by omega)); subst ix2; clear f30)
  | (unfold w32 at f30; have ix2 : n16 = ((60 * n1) + hV H1 325 (n1).toNat) + n0 := (by omega); subst ix2)
  | skip
  first
  | (have ix3 : n17 = n4 + n0 := Eq.trans f32 (w32_id (by omega) (by omega)); subst ix3; clear f32)
  | (unfold w32 at f32; have ix3 : n17 = n4 + n0 := (by omega); subst ix3)
  | skip
  first
  | (have ix4 : n18 = n0 + 1 := Eq.trans f34 (w32_id (by omega) (by omega)); subst ix4; clear f34)
  | (unfold w32 at f34; have ix4 : n18 = n0 + 1 := (by omega); subst ix4)
  | skip
  try unfold w32 at f23
  try unfold w32 at f29
  try unfold w32 at f30
  try unfold w32 at f32
  try unfold w32 at f34
  subst y0
  refine ⟨?_, fun q hq => ?_⟩
  · refine ⟨?_, ?_, ?_, ?_, ?_, ?_, ?_, ?_, ?_, ?_⟩ <;> first | assumption | omega | trivial
  · have g6 := Option.some.inj hq
    subst g6
    omega
theorem c_243_11_13 {q0 : Nat} : vOkm T0 (eP e_243 L_243 A_243 mu_243 (some q0)) 4 ([(10, [18, 9], [], 1), (80, [10, 16, 17], [2, 1], 0), (1, [17, 5, 9], [], 0), (30, [7], [], 0), (1, [16, 15, 9], [], 0), (1, [15, 12, 14], [], 0), (22, [14, 13, 8], [1], 0), (90, [14], [], 0), (91, [14], [], 60), (20, [13, 4], [1], 61), (0, [13], [], 325), (3, [12, 11, 8], [], 0), (0, [11], [], 60), (20, [10, 4], [1], 63), (0, [10], [], 327), (42, [9, 6], [], 0), (5000, [0, 1, 2, 3, 4, 5, 6, 7, 8, 9], [0, 1], 11), (0, [0], [], 285), (90, [1], [], 0), (91, [1], [], 60), (90, [2], [], 0), (91, [2], [], 60), (90, [3], [], 0), (91, [3], [], 1), (0, [4], [], 285), (90, [5], [], 0), (91, [5], [], 60), (90, [6], [], 0), (91, [6], [], 60), (90, [7], [], 0), (91, [7], [], 1), (90, [8], [], -2147483648), (91, [8], [], 2147483647), (90, [9], [], -2147483648), (91, [9], [], 2147483647)], (4000, [4, 5, 6, 7, 8, 18], [2], 11)) := vOk_inI fun ρ η f0 f1 f2 f3 f4 f5 f6 f7 f8 f9 f10 f11 f12 f13 f14 f15 f16 f17 f18 f19 f20 f21 f22 f23 f24 f25 f26 f27 f28 f29 f30 f31 f32 f33 f34 => q_243_13 (q0 := q0) (n0 := ρ 9) (n1 := ρ 8) (n2 := ρ 7) (n3 := ρ 6) (n4 := ρ 5) (n5 := ρ 4) (n6 := ρ 3) (n7 := ρ 2) (n8 := ρ 1) (n9 := ρ 0) (n10 := ρ 10) (n11 := ρ 11) (n12 := ρ 12) (n13 := ρ 13) (n14 := ρ 14) (n15 := ρ 15) (n16 := ρ 16) (n17 := ρ 17) (n18 := ρ 18) (H0 := η 0) (H1 := η 1) (H2 := η 2) f34 f33 f32 f31 f30 f29 f28 f27 f26 f25 f24 f23 f22 f21 f20 f19 f18 f17 f16 f15 f14 f13 f12 f11 f10 f9 f8 f7 f6 f5 f4 f3 f2 f1 f0
theorem q_243_14 {q0 : Nat} {n0 n1 n2 n3 n4 n5 n6 n7 n8 n9 n10 n11 n12 n13 n14 n15 : Int} {H0 H1 : gH} (f0 : n0 ≤ 2147483647) (f1 : (-2147483648) ≤ n0) (f2 : n1 ≤ 2147483647) (f3 : (-2147483648) ≤ n1) (f4 : n2 ≤ 1) (f5 : 0 ≤ n2) (f6 : n3 ≤ 60) (f7 : 0 ≤ n3) (f8 : n4 ≤ 60) (f9 : 0 ≤ n4) (f10 : n5 = 285) (f11 : n6 ≤ 1) (f12 : 0 ≤ n6) (f13 : n7 ≤ 60) (f14 : 0 ≤ n7) (f15 : n8 ≤ 60) (f16 : 0 ≤ n8) (f17 : n9 = 285) (f18 : (hLe T0 H0 H1 ∧ hFr s_243.2.2.2.2 H0 H1 ∧ hWt T0 H1) ∧ (Ab_243_11 n9 n8 n7 n6 n5 n4 n3 n2 n1 n0 H0 H1 ∧ preb_243 n9 n8 n7 n6 H0) ∧ some q0 = some (mub_243_11 n9 n8 n7 n6 n5 n4 n3 n2 n1 n0 H0 H1)) (f19 : n0 < n3) (f20 : n10 = 60) (f21 : n11 = w32 (n10 * n1)) (f22 : n12 = 325) (f23 : n12 = hV H1 (n5).toNat 61) (f24 : n13 ≤ 60) (f25 : 0 ≤ n13) (f26 : n13 = hV H1 (n12).toNat (n1).toNat) (f27 : n14 = w32 (n11 + n13)) (f28 : n15 = w32 (n14 + n0)) (f29 : n2 ≠ 0) : 0 ≤ n15 ∧ n15 < 360 := by
  have g4 := f18.2.1.1
  unfold Ab_243_11 at g4
  have g3 := f18.2.1.2
  unfold preb_243 at g3
  have e0 : n13 = hV H1 325 (n1).toNat := (by rw [f22] at f26; exact f26 : n13 = hV H1 325 (n1).toNat)
  have e2 : hV H1 285 60 = hV H0 285 60 := (f18.1.2.1.1 285 60 kF_243_285_60)
  have e3 : (1 : Int) ≤ hV H0 285 60 ∧ hV H0 285 60 ≤ 6 := bTo e2 (f18.1.2.2 285 60 _ _ kW_285_60)
  try simp only [e2] at g4
  have k0 := g4.1
  have k1 := g4.2.1
  have k2 := g4.2.2.1
  have y0 := g4.2.2.2.1
  have y1 := g4.2.2.2.2.1
  have y2 := g4.2.2.2.2.2.1
  have y3 := g4.2.2.2.2.2.2.1
  have y4 := g4.2.2.2.2.2.2.2.1
  have y5 := g4.2.2.2.2.2.2.2.2.1
  have y6 := g4.2.2.2.2.2.2.2.2.2
  have p0 := g3.1
  have p1 := g3.2.1
  have p2 := g3.2.2.1
  have p3 := g3.2.2.2
  clear g3
  clear g4
  clear f23 f26 e2
  subst e0
  rw [f20] at f21
  first
  | (have ix0 : n11 = 60 * n1 := Eq.trans f21 (w32_id (by omega) (by omega)); subst ix0; clear f21)
  | (unfold w32 at f21; have ix0 : n11 = 60 * n1 := (by omega); subst ix0)
  | skip
  first
  | (have ix1 : n14 = (60 * n1) + hV H1 325 (n1).toNat := Eq.trans f27 (w32_id (by omega) (by omega)); subst ix1; clear f27)
  | (unfold w32 at f27; have ix1 : n14 = (60 * n1) + hV H1 325 (n1).toNat := (by omega); subst ix1)
  | skip
  first
  | (have ix2 : n15 = ((60 * n1) + hV H1 325 (n1).toNat) + n0 := Eq.trans f28 (w32_id (by omega) (by omega)); subst ix2; clear f28)
  | (unfold w32 at f28; have ix2 : n15 = ((60 * n1) + hV H1 325 (n1).toNat) + n0 := (by omega); subst ix2)
  | skip
  try unfold w32 at f21
  try unfold w32 at f27
  try unfold w32 at f28
  subst y0
  omega
theorem c_243_11_14 {q0 : Nat} : vOkm T0 (eP e_243 L_243 A_243 mu_243 (some q0)) 4 ([(31, [7], [], 0), (1, [16, 15, 9], [], 0), (1, [15, 12, 14], [], 0), (22, [14, 13, 8], [1], 0), (90, [14], [], 0), (91, [14], [], 60), (20, [13, 4], [1], 61), (0, [13], [], 325), (3, [12, 11, 8], [], 0), (0, [11], [], 60), (42, [9, 6], [], 0), (5000, [0, 1, 2, 3, 4, 5, 6, 7, 8, 9], [0, 1], 11), (0, [0], [], 285), (90, [1], [], 0), (91, [1], [], 60), (90, [2], [], 0), (91, [2], [], 60), (90, [3], [], 0), (91, [3], [], 1), (0, [4], [], 285), (90, [5], [], 0), (91, [5], [], 60), (90, [6], [], 0), (91, [6], [], 60), (90, [7], [], 0), (91, [7], [], 1), (90, [8], [], -2147483648), (91, [8], [], 2147483647), (90, [9], [], -2147483648), (91, [9], [], 2147483647)], (70, [16], [], 360)) := vOk_inI fun ρ η f0 f1 f2 f3 f4 f5 f6 f7 f8 f9 f10 f11 f12 f13 f14 f15 f16 f17 f18 f19 f20 f21 f22 f23 f24 f25 f26 f27 f28 f29 => q_243_14 (q0 := q0) (n0 := ρ 9) (n1 := ρ 8) (n2 := ρ 7) (n3 := ρ 6) (n4 := ρ 5) (n5 := ρ 4) (n6 := ρ 3) (n7 := ρ 2) (n8 := ρ 1) (n9 := ρ 0) (n10 := ρ 11) (n11 := ρ 12) (n12 := ρ 13) (n13 := ρ 14) (n14 := ρ 15) (n15 := ρ 16) (H0 := η 0) (H1 := η 1) f29 f28 f27 f26 f25 f24 f23 f22 f21 f20 f19 f18 f17 f16 f15 f14 f13 f12 f11 f10 f9 f8 f7 f6 f5 f4 f3 f2 f1 f0
theorem q_243_15 {q0 : Nat} {n0 n1 n2 n3 n4 n5 n6 n7 n8 n9 n10 n11 n12 n13 n14 n15 n16 n17 n18 : Int} {H0 H1 H2 : gH} (f0 : n0 ≤ 2147483647) (f1 : (-2147483648) ≤ n0) (f2 : n1 ≤ 2147483647) (f3 : (-2147483648) ≤ n1) (f4 : n2 ≤ 1) (f5 : 0 ≤ n2) (f6 : n3 ≤ 60) (f7 : 0 ≤ n3) (f8 : n4 ≤ 60) (f9 : 0 ≤ n4) (f10 : n5 = 285) (f11 : n6 ≤ 1) (f12 : 0 ≤ n6) (f13 : n7 ≤ 60) (f14 : 0 ≤ n7) (f15 : n8 ≤ 60) (f16 : 0 ≤ n8) (f17 : n9 = 285) (f18 : (hLe T0 H0 H1 ∧ hFr s_243.2.2.2.2 H0 H1 ∧ hWt T0 H1) ∧ (Ab_243_11 n9 n8 n7 n6 n5 n4 n3 n2 n1 n0 H0 H1 ∧ preb_243 n9 n8 n7 n6 H0) ∧ some q0 = some (mub_243_11 n9 n8 n7 n6 n5 n4 n3 n2 n1 n0 H0 H1)) (f19 : n0 < n3) (f20 : n10 = 327) (f21 : n10 = hV H1 (n5).toNat 63) (f22 : n11 = 60) (f23 : n12 = w32 (n11 * n1)) (f24 : n13 = 325) (f25 : n13 = hV H1 (n5).toNat 61) (f26 : n14 ≤ 60) (f27 : 0 ≤ n14) (f28 : n14 = hV H1 (n13).toNat (n1).toNat) (f29 : n15 = w32 (n12 + n14)) (f30 : n16 = w32 (n15 + n0)) (f31 : n2 ≠ 0) (f32 : n17 = (-1)) (f33 : hUpd H2 H1 n10 n16 n17) (f34 : n18 = w32 (n0 + 1)) : Ab_243_11 n9 n8 n7 n6 n5 n4 n3 n2 n1 n18 H0 H2 ∧ ∀ q, some q0 = some q → mub_243_11 n9 n8 n7 n6 n5 n4 n3 n2 n1 n18 H0 H2 < q := by
  have g4 := f18.2.1.1
  unfold Ab_243_11 at g4
  have g3 := f18.2.1.2
  unfold preb_243 at g3
  have g5 := Option.some.inj f18.2.2
  unfold mub_243_11 at g5
  unfold Ab_243_11
  unfold mub_243_11
  have e0 : n14 = hV H1 325 (n1).toNat := (by rw [f24] at f28; exact f28 : n14 = hV H1 325 (n1).toNat)
  have e2 : hV H1 285 60 = hV H0 285 60 := (f18.1.2.1.1 285 60 kF_243_285_60)
  have e4 : hV H2 285 60 = hV H0 285 60 := ((uPlace f33 285 60 (iS (show n10 = ((327 : Nat) : Int) from f20) rfl))).trans (f18.1.2.1.1 285 60 kF_243_285_60)
  have e5 : hV H2 325 = hV H1 325 := uRowNe f33 325 (iS (show n10 = ((327 : Nat) : Int) from f20) rfl)
  have e6 : hV H2 326 = hV H1 326 := uRowNe f33 326 (iS (show n10 = ((327 : Nat) : Int) from f20) rfl)
  have e7 : (1 : Int) ≤ hV H0 285 60 ∧ hV H0 285 60 ≤ 6 := bTo e2 (f18.1.2.2 285 60 _ _ kW_285_60)
  try simp only [e2] at g4
  try simp only [e4, e5, e6]
  have k0 := g4.1
  have k1 := g4.2.1
  have k2 := g4.2.2.1
  have y0 := g4.2.2.2.1
  have y1 := g4.2.2.2.2.1
  have y2 := g4.2.2.2.2.2.1
  have y3 := g4.2.2.2.2.2.2.1
  have y4 := g4.2.2.2.2.2.2.2.1
  have y5 := g4.2.2.2.2.2.2.2.2.1
  have y6 := g4.2.2.2.2.2.2.2.2.2
  have p0 := g3.1
  have p1 := g3.2.1
  have p2 := g3.2.2.1
  have p3 := g3.2.2.2
  clear g3
  clear g4
  clear f21 f25 f28 e2 e4 e5 e6
  subst e0
  rw [f22] at f23
  first
  | (have ix0 : n12 = 60 * n1 := Eq.trans f23 (w32_id (by omega) (by omega)); subst ix0; clear f23)
  | (unfold w32 at f23; have ix0 : n12 = 60 * n1 := (by omega); subst ix0)
  | skip
  first
  | (have ix1 : n15 = (60 * n1) + hV H1 325 (n1).toNat := Eq.trans f29 (w32_id (by omega) (by omega)); subst ix1; clear f29)
  | (unfold w32 at f29; have ix1 : n15 = (60 * n1) + hV H1 325 (n1).toNat := (by omega); subst ix1)
  | skip
  first
  | (have ix2 : n16 = ((60 * n1) + hV H1 325 (n1).toNat) + n0 := Eq.trans f30 (w32_id (by omega) (by omega)); subst ix2; clear f30)
  | (unfold w32 at f30; have ix2 : n16 = ((60 * n1) + hV H1 325 (n1).toNat) + n0 := (by omega); subst ix2)
  | skip
  first
  | (have ix3 : n18 = n0 + 1 := Eq.trans f34 (w32_id (by omega) (by omega)); subst ix3; clear f34)
  | (unfold w32 at f34; have ix3 : n18 = n0 + 1 := (by omega); subst ix3)
  | skip
  try unfold w32 at f23
  try unfold w32 at f29
  try unfold w32 at f30
  try unfold w32 at f34
  subst y0
  refine ⟨?_, fun q hq => ?_⟩
  · refine ⟨?_, ?_, ?_, ?_, ?_, ?_, ?_, ?_, ?_, ?_⟩ <;> first | assumption | omega | trivial
  · have g6 := Option.some.inj hq
    subst g6
    omega
theorem c_243_11_15 {q0 : Nat} : vOkm T0 (eP e_243 L_243 A_243 mu_243 (some q0)) 4 ([(10, [18, 9], [], 1), (80, [10, 16, 17], [2, 1], 0), (0, [17], [], -1), (31, [7], [], 0), (1, [16, 15, 9], [], 0), (1, [15, 12, 14], [], 0), (22, [14, 13, 8], [1], 0), (90, [14], [], 0), (91, [14], [], 60), (20, [13, 4], [1], 61), (0, [13], [], 325), (3, [12, 11, 8], [], 0), (0, [11], [], 60), (20, [10, 4], [1], 63), (0, [10], [], 327), (42, [9, 6], [], 0), (5000, [0, 1, 2, 3, 4, 5, 6, 7, 8, 9], [0, 1], 11), (0, [0], [], 285), (90, [1], [], 0), (91, [1], [], 60), (90, [2], [], 0), (91, [2], [], 60), (90, [3], [], 0), (91, [3], [], 1), (0, [4], [], 285), (90, [5], [], 0), (91, [5], [], 60), (90, [6], [], 0), (91, [6], [], 60), (90, [7], [], 0), (91, [7], [], 1), (90, [8], [], -2147483648), (91, [8], [], 2147483647), (90, [9], [], -2147483648), (91, [9], [], 2147483647)], (4000, [4, 5, 6, 7, 8, 18], [2], 11)) := vOk_inI fun ρ η f0 f1 f2 f3 f4 f5 f6 f7 f8 f9 f10 f11 f12 f13 f14 f15 f16 f17 f18 f19 f20 f21 f22 f23 f24 f25 f26 f27 f28 f29 f30 f31 f32 f33 f34 => q_243_15 (q0 := q0) (n0 := ρ 9) (n1 := ρ 8) (n2 := ρ 7) (n3 := ρ 6) (n4 := ρ 5) (n5 := ρ 4) (n6 := ρ 3) (n7 := ρ 2) (n8 := ρ 1) (n9 := ρ 0) (n10 := ρ 10) (n11 := ρ 11) (n12 := ρ 12) (n13 := ρ 13) (n14 := ρ 14) (n15 := ρ 15) (n16 := ρ 16) (n17 := ρ 17) (n18 := ρ 18) (H0 := η 0) (H1 := η 1) (H2 := η 2) f34 f33 f32 f31 f30 f29 f28 f27 f26 f25 f24 f23 f22 f21 f20 f19 f18 f17 f16 f15 f14 f13 f12 f11 f10 f9 f8 f7 f6 f5 f4 f3 f2 f1 f0
def p_243_11 : List vG := [([(43, [9, 6], [], 0), (5000, [0, 1, 2, 3, 4, 5, 6, 7, 8, 9], [0, 1], 11), (0, [0], [], 285), (90, [1], [], 0), (91, [1], [], 60), (90, [2], [], 0), (91, [2], [], 60), (90, [3], [], 0), (91, [3], [], 1), (0, [4], [], 285), (90, [5], [], 0), (91, [5], [], 60), (90, [6], [], 0), (91, [6], [], 60), (90, [7], [], 0), (91, [7], [], 1), (90, [8], [], -2147483648), (91, [8], [], 2147483647), (90, [9], [], -2147483648), (91, [9], [], 2147483647)], (70, [8], [], 6)),
  ([(1, [12, 11, 6], [], 0), (22, [11, 10, 8], [1], 0), (90, [11], [], 0), (91, [11], [], 60), (20, [10, 4], [1], 61), (0, [10], [], 325), (43, [9, 6], [], 0), (5000, [0, 1, 2, 3, 4, 5, 6, 7, 8, 9], [0, 1], 11), (0, [0], [], 285), (90, [1], [], 0), (91, [1], [], 60), (90, [2], [], 0), (91, [2], [], 60), (90, [3], [], 0), (91, [3], [], 1), (0, [4], [], 285), (90, [5], [], 0), (91, [5], [], 60), (90, [6], [], 0), (91, [6], [], 60), (90, [7], [], 0), (91, [7], [], 1), (90, [8], [], -2147483648), (91, [8], [], 2147483647), (90, [9], [], -2147483648), (91, [9], [], 2147483647)], (70, [8], [], 6)),
  ([(1, [12, 11, 6], [], 0), (22, [11, 10, 8], [1], 0), (90, [11], [], 0), (91, [11], [], 60), (20, [10, 4], [1], 61), (0, [10], [], 325), (43, [9, 6], [], 0), (5000, [0, 1, 2, 3, 4, 5, 6, 7, 8, 9], [0, 1], 11), (0, [0], [], 285), (90, [1], [], 0), (91, [1], [], 60), (90, [2], [], 0), (91, [2], [], 60), (90, [3], [], 0), (91, [3], [], 1), (0, [4], [], 285), (90, [5], [], 0), (91, [5], [], 60), (90, [6], [], 0), (91, [6], [], 60), (90, [7], [], 0), (91, [7], [], 1), (90, [8], [], -2147483648), (91, [8], [], 2147483647), (90, [9], [], -2147483648), (91, [9], [], 2147483647)], (90, [12], [], 0)),
  ([(1, [12, 11, 6], [], 0), (22, [11, 10, 8], [1], 0), (90, [11], [], 0), (91, [11], [], 60), (20, [10, 4], [1], 61), (0, [10], [], 325), (43, [9, 6], [], 0), (5000, [0, 1, 2, 3, 4, 5, 6, 7, 8, 9], [0, 1], 11), (0, [0], [], 285), (90, [1], [], 0), (91, [1], [], 60), (90, [2], [], 0), (91, [2], [], 60), (90, [3], [], 0), (91, [3], [], 1), (0, [4], [], 285), (90, [5], [], 0), (91, [5], [], 60), (90, [6], [], 0), (91, [6], [], 60), (90, [7], [], 0), (91, [7], [], 1), (90, [8], [], -2147483648), (91, [8], [], 2147483647), (90, [9], [], -2147483648), (91, [9], [], 2147483647)], (91, [12], [], 60)),
  ([(1, [12, 11, 6], [], 0), (22, [11, 10, 8], [1], 0), (90, [11], [], 0), (91, [11], [], 60), (20, [10, 4], [1], 61), (0, [10], [], 325), (43, [9, 6], [], 0), (5000, [0, 1, 2, 3, 4, 5, 6, 7, 8, 9], [0, 1], 11), (0, [0], [], 285), (90, [1], [], 0), (91, [1], [], 60), (90, [2], [], 0), (91, [2], [], 60), (90, [3], [], 0), (91, [3], [], 1), (0, [4], [], 285), (90, [5], [], 0), (91, [5], [], 60), (90, [6], [], 0), (91, [6], [], 60), (90, [7], [], 0), (91, [7], [], 1), (90, [8], [], -2147483648), (91, [8], [], 2147483647), (90, [9], [], -2147483648), (91, [9], [], 2147483647)], (70, [8], [], 6)),
  ([(1, [16, 14, 15], [], 0), (0, [15], [], 1), (22, [14, 13, 8], [2], 0), (90, [14], [], 0), (91, [14], [], 10), (20, [13, 4], [2], 62), (0, [13], [], 326), (80, [10, 8, 12], [2, 1], 0), (1, [12, 11, 6], [], 0), (22, [11, 10, 8], [1], 0), (90, [11], [], 0), (91, [11], [], 60), (20, [10, 4], [1], 61), (0, [10], [], 325), (43, [9, 6], [], 0), (5000, [0, 1, 2, 3, 4, 5, 6, 7, 8, 9], [0, 1], 11), (0, [0], [], 285), (90, [1], [], 0), (91, [1], [], 60), (90, [2], [], 0), (91, [2], [], 60), (90, [3], [], 0), (91, [3], [], 1), (0, [4], [], 285), (90, [5], [], 0), (91, [5], [], 60), (90, [6], [], 0), (91, [6], [], 60), (90, [7], [], 0), (91, [7], [], 1), (90, [8], [], -2147483648), (91, [8], [], 2147483647), (90, [9], [], -2147483648), (91, [9], [], 2147483647)], (70, [8], [], 6)),
  ([(1, [16, 14, 15], [], 0), (0, [15], [], 1), (22, [14, 13, 8], [2], 0), (90, [14], [], 0), (91, [14], [], 10), (20, [13, 4], [2], 62), (0, [13], [], 326), (80, [10, 8, 12], [2, 1], 0), (1, [12, 11, 6], [], 0), (22, [11, 10, 8], [1], 0), (90, [11], [], 0), (91, [11], [], 60), (20, [10, 4], [1], 61), (0, [10], [], 325), (43, [9, 6], [], 0), (5000, [0, 1, 2, 3, 4, 5, 6, 7, 8, 9], [0, 1], 11), (0, [0], [], 285), (90, [1], [], 0), (91, [1], [], 60), (90, [2], [], 0), (91, [2], [], 60), (90, [3], [], 0), (91, [3], [], 1), (0, [4], [], 285), (90, [5], [], 0), (91, [5], [], 60), (90, [6], [], 0), (91, [6], [], 60), (90, [7], [], 0), (91, [7], [], 1), (90, [8], [], -2147483648), (91, [8], [], 2147483647), (90, [9], [], -2147483648), (91, [9], [], 2147483647)], (90, [16], [], 0)),
  ([(1, [16, 14, 15], [], 0), (0, [15], [], 1), (22, [14, 13, 8], [2], 0), (90, [14], [], 0), (91, [14], [], 10), (20, [13, 4], [2], 62), (0, [13], [], 326), (80, [10, 8, 12], [2, 1], 0), (1, [12, 11, 6], [], 0), (22, [11, 10, 8], [1], 0), (90, [11], [], 0), (91, [11], [], 60), (20, [10, 4], [1], 61), (0, [10], [], 325), (43, [9, 6], [], 0), (5000, [0, 1, 2, 3, 4, 5, 6, 7, 8, 9], [0, 1], 11), (0, [0], [], 285), (90, [1], [], 0), (91, [1], [], 60), (90, [2], [], 0), (91, [2], [], 60), (90, [3], [], 0), (91, [3], [], 1), (0, [4], [], 285), (90, [5], [], 0), (91, [5], [], 60), (90, [6], [], 0), (91, [6], [], 60), (90, [7], [], 0), (91, [7], [], 1), (90, [8], [], -2147483648), (91, [8], [], 2147483647), (90, [9], [], -2147483648), (91, [9], [], 2147483647)], (91, [16], [], 10)),
  ([(20, [17, 4], [3], 61), (0, [17], [], 325), (80, [13, 8, 16], [3, 2], 0), (1, [16, 14, 15], [], 0), (0, [15], [], 1), (22, [14, 13, 8], [2], 0), (90, [14], [], 0), (91, [14], [], 10), (20, [13, 4], [2], 62), (0, [13], [], 326), (80, [10, 8, 12], [2, 1], 0), (1, [12, 11, 6], [], 0), (22, [11, 10, 8], [1], 0), (90, [11], [], 0), (91, [11], [], 60), (20, [10, 4], [1], 61), (0, [10], [], 325), (43, [9, 6], [], 0), (5000, [0, 1, 2, 3, 4, 5, 6, 7, 8, 9], [0, 1], 11), (0, [0], [], 285), (90, [1], [], 0), (91, [1], [], 60), (90, [2], [], 0), (91, [2], [], 60), (90, [3], [], 0), (91, [3], [], 1), (0, [4], [], 285), (90, [5], [], 0), (91, [5], [], 60), (90, [6], [], 0), (91, [6], [], 60), (90, [7], [], 0), (91, [7], [], 1), (90, [8], [], -2147483648), (91, [8], [], 2147483647), (90, [9], [], -2147483648), (91, [9], [], 2147483647)], (70, [8], [], 6)),
  ([(3, [12, 11, 8], [], 0), (0, [11], [], 60), (42, [9, 6], [], 0), (5000, [0, 1, 2, 3, 4, 5, 6, 7, 8, 9], [0, 1], 11), (0, [0], [], 285), (90, [1], [], 0), (91, [1], [], 60), (90, [2], [], 0), (91, [2], [], 60), (90, [3], [], 0), (91, [3], [], 1), (0, [4], [], 285), (90, [5], [], 0), (91, [5], [], 60), (90, [6], [], 0), (91, [6], [], 60), (90, [7], [], 0), (91, [7], [], 1), (90, [8], [], -2147483648), (91, [8], [], 2147483647), (90, [9], [], -2147483648), (91, [9], [], 2147483647)], (70, [8], [], 6)),
  ([(1, [17, 5, 9], [], 0), (30, [7], [], 0), (1, [16, 15, 9], [], 0), (1, [15, 12, 14], [], 0), (22, [14, 13, 8], [1], 0), (90, [14], [], 0), (91, [14], [], 60), (20, [13, 4], [1], 61), (0, [13], [], 325), (3, [12, 11, 8], [], 0), (0, [11], [], 60), (42, [9, 6], [], 0), (5000, [0, 1, 2, 3, 4, 5, 6, 7, 8, 9], [0, 1], 11), (0, [0], [], 285), (90, [1], [], 0), (91, [1], [], 60), (90, [2], [], 0), (91, [2], [], 60), (90, [3], [], 0), (91, [3], [], 1), (0, [4], [], 285), (90, [5], [], 0), (91, [5], [], 60), (90, [6], [], 0), (91, [6], [], 60), (90, [7], [], 0), (91, [7], [], 1), (90, [8], [], -2147483648), (91, [8], [], 2147483647), (90, [9], [], -2147483648), (91, [9], [], 2147483647)], (70, [16], [], 360)),
  ([(1, [17, 5, 9], [], 0), (30, [7], [], 0), (1, [16, 15, 9], [], 0), (1, [15, 12, 14], [], 0), (22, [14, 13, 8], [1], 0), (90, [14], [], 0), (91, [14], [], 60), (20, [13, 4], [1], 61), (0, [13], [], 325), (3, [12, 11, 8], [], 0), (0, [11], [], 60), (42, [9, 6], [], 0), (5000, [0, 1, 2, 3, 4, 5, 6, 7, 8, 9], [0, 1], 11), (0, [0], [], 285), (90, [1], [], 0), (91, [1], [], 60), (90, [2], [], 0), (91, [2], [], 60), (90, [3], [], 0), (91, [3], [], 1), (0, [4], [], 285), (90, [5], [], 0), (91, [5], [], 60), (90, [6], [], 0), (91, [6], [], 60), (90, [7], [], 0), (91, [7], [], 1), (90, [8], [], -2147483648), (91, [8], [], 2147483647), (90, [9], [], -2147483648), (91, [9], [], 2147483647)], (90, [17], [], -1)),
  ([(1, [17, 5, 9], [], 0), (30, [7], [], 0), (1, [16, 15, 9], [], 0), (1, [15, 12, 14], [], 0), (22, [14, 13, 8], [1], 0), (90, [14], [], 0), (91, [14], [], 60), (20, [13, 4], [1], 61), (0, [13], [], 325), (3, [12, 11, 8], [], 0), (0, [11], [], 60), (42, [9, 6], [], 0), (5000, [0, 1, 2, 3, 4, 5, 6, 7, 8, 9], [0, 1], 11), (0, [0], [], 285), (90, [1], [], 0), (91, [1], [], 60), (90, [2], [], 0), (91, [2], [], 60), (90, [3], [], 0), (91, [3], [], 1), (0, [4], [], 285), (90, [5], [], 0), (91, [5], [], 60), (90, [6], [], 0), (91, [6], [], 60), (90, [7], [], 0), (91, [7], [], 1), (90, [8], [], -2147483648), (91, [8], [], 2147483647), (90, [9], [], -2147483648), (91, [9], [], 2147483647)], (91, [17], [], 59)),
  ([(10, [18, 9], [], 1), (80, [10, 16, 17], [2, 1], 0), (1, [17, 5, 9], [], 0), (30, [7], [], 0), (1, [16, 15, 9], [], 0), (1, [15, 12, 14], [], 0), (22, [14, 13, 8], [1], 0), (90, [14], [], 0), (91, [14], [], 60), (20, [13, 4], [1], 61), (0, [13], [], 325), (3, [12, 11, 8], [], 0), (0, [11], [], 60), (20, [10, 4], [1], 63), (0, [10], [], 327), (42, [9, 6], [], 0), (5000, [0, 1, 2, 3, 4, 5, 6, 7, 8, 9], [0, 1], 11), (0, [0], [], 285), (90, [1], [], 0), (91, [1], [], 60), (90, [2], [], 0), (91, [2], [], 60), (90, [3], [], 0), (91, [3], [], 1), (0, [4], [], 285), (90, [5], [], 0), (91, [5], [], 60), (90, [6], [], 0), (91, [6], [], 60), (90, [7], [], 0), (91, [7], [], 1), (90, [8], [], -2147483648), (91, [8], [], 2147483647), (90, [9], [], -2147483648), (91, [9], [], 2147483647)], (4000, [4, 5, 6, 7, 8, 18], [2], 11)),
  ([(31, [7], [], 0), (1, [16, 15, 9], [], 0), (1, [15, 12, 14], [], 0), (22, [14, 13, 8], [1], 0), (90, [14], [], 0), (91, [14], [], 60), (20, [13, 4], [1], 61), (0, [13], [], 325), (3, [12, 11, 8], [], 0), (0, [11], [], 60), (42, [9, 6], [], 0), (5000, [0, 1, 2, 3, 4, 5, 6, 7, 8, 9], [0, 1], 11), (0, [0], [], 285), (90, [1], [], 0), (91, [1], [], 60), (90, [2], [], 0), (91, [2], [], 60), (90, [3], [], 0), (91, [3], [], 1), (0, [4], [], 285), (90, [5], [], 0), (91, [5], [], 60), (90, [6], [], 0), (91, [6], [], 60), (90, [7], [], 0), (91, [7], [], 1), (90, [8], [], -2147483648), (91, [8], [], 2147483647), (90, [9], [], -2147483648), (91, [9], [], 2147483647)], (70, [16], [], 360)),
  ([(10, [18, 9], [], 1), (80, [10, 16, 17], [2, 1], 0), (0, [17], [], -1), (31, [7], [], 0), (1, [16, 15, 9], [], 0), (1, [15, 12, 14], [], 0), (22, [14, 13, 8], [1], 0), (90, [14], [], 0), (91, [14], [], 60), (20, [13, 4], [1], 61), (0, [13], [], 325), (3, [12, 11, 8], [], 0), (0, [11], [], 60), (20, [10, 4], [1], 63), (0, [10], [], 327), (42, [9, 6], [], 0), (5000, [0, 1, 2, 3, 4, 5, 6, 7, 8, 9], [0, 1], 11), (0, [0], [], 285), (90, [1], [], 0), (91, [1], [], 60), (90, [2], [], 0), (91, [2], [], 60), (90, [3], [], 0), (91, [3], [], 1), (0, [4], [], 285), (90, [5], [], 0), (91, [5], [], 60), (90, [6], [], 0), (91, [6], [], 60), (90, [7], [], 0), (91, [7], [], 1), (90, [8], [], -2147483648), (91, [8], [], 2147483647), (90, [9], [], -2147483648), (91, [9], [], 2147483647)], (4000, [4, 5, 6, 7, 8, 18], [2], 11))]
theorem r_243_11 : vCovO true (eRc e_243 L_243 cs_243 2000 (11, [(0, (3, 12, 285, 0)), (1, (0, 0, 60, 0)), (2, (0, 0, 60, 0)), (3, (0, 0, 1, 0)), (4, (0, -2147483648, 2147483647, 0)), (5, (0, -2147483648, 2147483647, 0))])) p_243_11 = true := by decide +kernel
theorem m_243 (d : Nat) : eC e_243 (d + 1) := eC_ok (e := e_243) (L := L_243) (cs := cs_243) (n := 2000) (d := d + 0) (A := A_243) (μ := mu_243) (tp := true) (p0 := p_243_s) rfl trivial rfl (.inl rfl) (by decide +kernel) (fun _ => post0_ok) r_243_s (allC c_243_s_0 allN) (allC (.inl ⟨p_243_11, r_243_11, fun q0 => (allC c_243_11_0 (allC c_243_11_1 (allC c_243_11_2 (allC c_243_11_3 (allC c_243_11_4 (allC c_243_11_5 (allC c_243_11_6 (allC c_243_11_7 (allC c_243_11_8 (allC c_243_11_9 (allC c_243_11_10 (allC c_243_11_11 (allC c_243_11_12 (allC c_243_11_13 (allC c_243_11_14 (allC c_243_11_15 allN))))))))))))))))⟩) allN)
/- MixStageModel.keep (II)I -/
noncomputable def s_244 : vM := ([(3, 12, 285, 0), (0, -2147483648, 2147483647, 0), (0, -2147483648, 2147483647, 0)], (0, -2147483648, 2147483647, 0), 0, 0, [(428, 0), (436, 0), (444, 0)])
noncomputable def e_244 : vE := (244, s_244, pre0, post0)
noncomputable def L_244 : List vE := [e_242, e_243]
def cs_244 : List vC := []
def A_244 : Int → List Int → gH → gH → Prop := fun c xs h0 h => True
def mu_244 : Int → List Int → gH → gH → Nat := fun c xs h0 h => 0
theorem q_244_0 {n0 n1 n2 n3 n4 n5 n6 n7 : Int} {H0 : gH} (f0 : n0 ≤ 2147483647) (f1 : (-2147483648) ≤ n0) (f2 : n1 ≤ 2147483647) (f3 : (-2147483648) ≤ n1) (f4 : n2 = 285) (f5 : hWt T0 H0 ∧ True) (f6 : n3 ≤ 6) (f7 : 1 ≤ n3) (f8 : n3 = hV H0 (n2).toNat 60) (f9 : n4 = 1) (f10 : n5 = w32 (n3 - n4)) (f11 : n5 ≠ 0) (f12 : 0 ≤ n1) (f13 : n1 < n0) (f14 : n6 = 1) (f15 : n7 = w32 (n5 - n6)) : 0 ≤ n7 ∧ n7 < 6 := by
  have e0 : n3 = hV H0 285 60 := (by rw [f4] at f8; exact f8 : n3 = hV H0 285 60)
  clear f8
  subst e0
  first
  | (have ix0 : n5 = hV H0 285 60 - 1 := Eq.trans f10 (w32_iv (Isu (Iat f7 f6) (IC 1)) (by decide)); subst ix0; clear f10)
  | (have ix0 : n5 = hV H0 285 60 - 1 := Eq.trans f10 (w32_id (by omega) (by omega)); subst ix0; clear f10)
  | (unfold w32 at f10; have ix0 : n5 = hV H0 285 60 - 1 := (by omega); subst ix0)
  | skip
  first
  | (have ix1 : n7 = (hV H0 285 60 - 1) - 1 := Eq.trans f15 (w32_iv (Isu (Isu (Iat f7 f6) (IC 1)) (IC 1)) (by decide)); subst ix1; clear f15)
  | (have ix1 : n7 = (hV H0 285 60 - 1) - 1 := Eq.trans f15 (w32_id (by omega) (by omega)); subst ix1; clear f15)
  | (unfold w32 at f15; have ix1 : n7 = (hV H0 285 60 - 1) - 1 := (by omega); subst ix1)
  | skip
  try unfold w32 at f10
  try unfold w32 at f15
  omega
theorem c_244_s_0 : vOkm T0 (eP e_244 L_244 A_244 mu_244 none) 3 ([(2, [8, 5, 7], [], 0), (0, [7], [], 1), (42, [1, 2], [], 0), (33, [1], [], 0), (31, [5], [], 0), (2, [5, 3, 4], [], 0), (0, [4], [], 1), (20, [3, 0], [0], 60), (90, [3], [], 1), (91, [3], [], 6), (6000, [0, 1, 2], [0], 0), (0, [0], [], 285), (90, [1], [], -2147483648), (91, [1], [], 2147483647), (90, [2], [], -2147483648), (91, [2], [], 2147483647)], (70, [8], [], 6)) := vOk_inI fun ρ η f0 f1 f2 f3 f4 f5 f6 f7 f8 f9 f10 f11 f12 f13 f14 f15 => q_244_0 (n0 := ρ 2) (n1 := ρ 1) (n2 := ρ 0) (n3 := ρ 3) (n4 := ρ 4) (n5 := ρ 5) (n6 := ρ 7) (n7 := ρ 8) (H0 := η 0) f15 f14 f13 f12 f11 f10 f9 f8 f7 f6 f5 f4 f3 f2 f1 f0
theorem q_244_1 {n0 n1 n2 n3 n4 n5 n6 n7 n8 n9 n10 : Int} {H0 : gH} (f0 : n0 ≤ 2147483647) (f1 : (-2147483648) ≤ n0) (f2 : n1 ≤ 2147483647) (f3 : (-2147483648) ≤ n1) (f4 : n2 = 285) (f5 : hWt T0 H0 ∧ True) (f6 : n3 ≤ 6) (f7 : 1 ≤ n3) (f8 : n3 = hV H0 (n2).toNat 60) (f9 : n4 = 1) (f10 : n5 = w32 (n3 - n4)) (f11 : n5 ≠ 0) (f12 : 0 ≤ n1) (f13 : n1 < n0) (f14 : n6 = 325) (f15 : n6 = hV H0 (n2).toNat 61) (f16 : n7 = 1) (f17 : n8 = w32 (n5 - n7)) (f18 : n9 ≤ 60) (f19 : 0 ≤ n9) (f20 : n9 = hV H0 (n6).toNat (n8).toNat) (f21 : n0 ≤ n9) (f22 : n10 = w32 (n0 - n1)) : 0 ≤ n10 := by
  have e0 : n3 = hV H0 285 60 := (by rw [f4] at f8; exact f8 : n3 = hV H0 285 60)
  have e1 : n9 = hV H0 325 (n8).toNat := (by rw [f14] at f20; exact f20 : n9 = hV H0 325 (n8).toNat)
  clear f8 f15 f20
  subst e0
  subst e1
  first
  | (have ix0 : n5 = hV H0 285 60 - 1 := Eq.trans f10 (w32_iv (Isu (Iat f7 f6) (IC 1)) (by decide)); subst ix0; clear f10)
  | (have ix0 : n5 = hV H0 285 60 - 1 := Eq.trans f10 (w32_id (by omega) (by omega)); subst ix0; clear f10)
  | (unfold w32 at f10; have ix0 : n5 = hV H0 285 60 - 1 := (by omega); subst ix0)
  | skip
  first
  | (have ix1 : n8 = (hV H0 285 60 - 1) - 1 := Eq.trans f17 (w32_iv (Isu (Isu (Iat f7 f6) (IC 1)) (IC 1)) (by decide)); subst ix1; clear f17)
  | (have ix1 : n8 = (hV H0 285 60 - 1) - 1 := Eq.trans f17 (w32_id (by omega) (by omega)); subst ix1; clear f17)
  | (unfold w32 at f17; have ix1 : n8 = (hV H0 285 60 - 1) - 1 := (by omega); subst ix1)
  | skip
  first
  | (have ix2 : n10 = n0 - n1 := Eq.trans f22 (w32_id (by omega) (by omega)); subst ix2; clear f22)
  | (unfold w32 at f22; have ix2 : n10 = n0 - n1 := (by omega); subst ix2)
  | skip
  try unfold w32 at f10
  try unfold w32 at f17
  try unfold w32 at f22
  omega
theorem c_244_s_1 : vOkm T0 (eP e_244 L_244 A_244 mu_244 none) 3 ([(2, [10, 2, 1], [], 0), (45, [2, 9], [], 0), (22, [9, 6, 8], [0], 0), (90, [9], [], 0), (91, [9], [], 60), (2, [8, 5, 7], [], 0), (0, [7], [], 1), (20, [6, 0], [0], 61), (0, [6], [], 325), (42, [1, 2], [], 0), (33, [1], [], 0), (31, [5], [], 0), (2, [5, 3, 4], [], 0), (0, [4], [], 1), (20, [3, 0], [0], 60), (90, [3], [], 1), (91, [3], [], 6), (6000, [0, 1, 2], [0], 0), (0, [0], [], 285), (90, [1], [], -2147483648), (91, [1], [], 2147483647), (90, [2], [], -2147483648), (91, [2], [], 2147483647)], (90, [10], [], 0)) := vOk_inI fun ρ η f0 f1 f2 f3 f4 f5 f6 f7 f8 f9 f10 f11 f12 f13 f14 f15 f16 f17 f18 f19 f20 f21 f22 => q_244_1 (n0 := ρ 2) (n1 := ρ 1) (n2 := ρ 0) (n3 := ρ 3) (n4 := ρ 4) (n5 := ρ 5) (n6 := ρ 6) (n7 := ρ 7) (n8 := ρ 8) (n9 := ρ 9) (n10 := ρ 10) (H0 := η 0) f22 f21 f20 f19 f18 f17 f16 f15 f14 f13 f12 f11 f10 f9 f8 f7 f6 f5 f4 f3 f2 f1 f0
theorem q_244_2 {n0 n1 n2 n3 n4 n5 n6 n7 n8 n9 n10 : Int} {H0 : gH} (f0 : n0 ≤ 2147483647) (f1 : (-2147483648) ≤ n0) (f2 : n1 ≤ 2147483647) (f3 : (-2147483648) ≤ n1) (f4 : n2 = 285) (f5 : hWt T0 H0 ∧ True) (f6 : n3 ≤ 6) (f7 : 1 ≤ n3) (f8 : n3 = hV H0 (n2).toNat 60) (f9 : n4 = 1) (f10 : n5 = w32 (n3 - n4)) (f11 : n5 ≠ 0) (f12 : 0 ≤ n1) (f13 : n1 < n0) (f14 : n6 = 325) (f15 : n6 = hV H0 (n2).toNat 61) (f16 : n7 = 1) (f17 : n8 = w32 (n5 - n7)) (f18 : n9 ≤ 60) (f19 : 0 ≤ n9) (f20 : n9 = hV H0 (n6).toNat (n8).toNat) (f21 : n0 ≤ n9) (f22 : n10 = w32 (n0 - n1)) : n10 ≤ 60 := by
  have e0 : n3 = hV H0 285 60 := (by rw [f4] at f8; exact f8 : n3 = hV H0 285 60)
  have e1 : n9 = hV H0 325 (n8).toNat := (by rw [f14] at f20; exact f20 : n9 = hV H0 325 (n8).toNat)
  clear f8 f15 f20
  subst e0
  subst e1
  first
  | (have ix0 : n5 = hV H0 285 60 - 1 := Eq.trans f10 (w32_iv (Isu (Iat f7 f6) (IC 1)) (by decide)); subst ix0; clear f10)
  | (have ix0 : n5 = hV H0 285 60 - 1 := Eq.trans f10 (w32_id (by omega) (by omega)); subst ix0; clear f10)
  | (unfold w32 at f10; have ix0 : n5 = hV H0 285 60 - 1 := (by omega); subst ix0)
  | skip
  first
  | (have ix1 : n8 = (hV H0 285 60 - 1) - 1 := Eq.trans f17 (w32_iv (Isu (Isu (Iat f7 f6) (IC 1)) (IC 1)) (by decide)); subst ix1; clear f17)
  | (have ix1 : n8 = (hV H0 285 60 - 1) - 1 := Eq.trans f17 (w32_id (by omega) (by omega)); subst ix1; clear f17)
  | (unfold w32 at f17; have ix1 : n8 = (hV H0 285 60 - 1) - 1 := (by omega); subst ix1)
  | skip
  first
  | (have ix2 : n10 = n0 - n1 := Eq.trans f22 (w32_id (by omega) (by omega)); subst ix2; clear f22)
  | (unfold w32 at f22; have ix2 : n10 = n0 - n1 := (by omega); subst ix2)
  | skip
  try unfold w32 at f10
  try unfold w32 at f17
  try unfold w32 at f22
  omega
theorem c_244_s_2 : vOkm T0 (eP e_244 L_244 A_244 mu_244 none) 3 ([(2, [10, 2, 1], [], 0), (45, [2, 9], [], 0), (22, [9, 6, 8], [0], 0), (90, [9], [], 0), (91, [9], [], 60), (2, [8, 5, 7], [], 0), (0, [7], [], 1), (20, [6, 0], [0], 61), (0, [6], [], 325), (42, [1, 2], [], 0), (33, [1], [], 0), (31, [5], [], 0), (2, [5, 3, 4], [], 0), (0, [4], [], 1), (20, [3, 0], [0], 60), (90, [3], [], 1), (91, [3], [], 6), (6000, [0, 1, 2], [0], 0), (0, [0], [], 285), (90, [1], [], -2147483648), (91, [1], [], 2147483647), (90, [2], [], -2147483648), (91, [2], [], 2147483647)], (91, [10], [], 60)) := vOk_inI fun ρ η f0 f1 f2 f3 f4 f5 f6 f7 f8 f9 f10 f11 f12 f13 f14 f15 f16 f17 f18 f19 f20 f21 f22 => q_244_2 (n0 := ρ 2) (n1 := ρ 1) (n2 := ρ 0) (n3 := ρ 3) (n4 := ρ 4) (n5 := ρ 5) (n6 := ρ 6) (n7 := ρ 7) (n8 := ρ 8) (n9 := ρ 9) (n10 := ρ 10) (H0 := η 0) f22 f21 f20 f19 f18 f17 f16 f15 f14 f13 f12 f11 f10 f9 f8 f7 f6 f5 f4 f3 f2 f1 f0
theorem q_244_3 {n0 n1 n2 n3 n4 n5 n6 n7 n8 n9 n10 n11 n12 : Int} {H0 H1 : gH} (f0 : n0 ≤ 2147483647) (f1 : (-2147483648) ≤ n0) (f2 : n1 ≤ 2147483647) (f3 : (-2147483648) ≤ n1) (f4 : n2 = 285) (f5 : hWt T0 H0 ∧ True) (f6 : n3 ≤ 6) (f7 : 1 ≤ n3) (f8 : n3 = hV H0 (n2).toNat 60) (f9 : n4 = 1) (f10 : n5 = w32 (n3 - n4)) (f11 : n5 ≠ 0) (f12 : 0 ≤ n1) (f13 : n1 < n0) (f14 : n6 = 325) (f15 : n6 = hV H0 (n2).toNat 61) (f16 : n7 = 1) (f17 : n8 = w32 (n5 - n7)) (f18 : n9 ≤ 60) (f19 : 0 ≤ n9) (f20 : n9 = hV H0 (n6).toNat (n8).toNat) (f21 : n0 ≤ n9) (f22 : n10 = w32 (n0 - n1)) (f23 : n11 ≤ 1) (f24 : 0 ≤ n11) (f25 : (hLe T0 H0 H1 ∧ hFr s_242.2.2.2.2 H0 H1 ∧ ((0 : Int) = 0 → H1.length = H0.length) ∧ hWt T0 H1) ∧ postb_242 n11 n2 n10 H0 H1) (f26 : n11 ≠ 0) (f27 : n12 = w32 (n0 - n1)) : n1 ≤ 60 := by
  unfold postb_242 at f25
  have e0 : n3 = hV H0 285 60 := (by rw [f4] at f8; exact f8 : n3 = hV H0 285 60)
  have e1 : n9 = hV H0 325 (n8).toNat := (by rw [f14] at f20; exact f20 : n9 = hV H0 325 (n8).toNat)
  have e3 : hV H1 285 60 = hV H0 285 60 := (f25.1.2.1.1 285 60 kF_242_285_60)
  have e4 : hV H1 325 = hV H0 325 := fRow f25.1.2.1 325 kR_242_325
  have e5 : hV H1 326 = hV H0 326 := fRow f25.1.2.1 326 kR_242_326
  have e6 : (1 : Int) ≤ hV H0 285 60 ∧ hV H0 285 60 ≤ 6 := bTo e3 (f25.1.2.2.2 285 60 _ _ kW_285_60)
  try simp only [e3, e4, e5] at f25
  have r0_0 := f25.2
  clear f8 f15 f20 e3 e4 e5
  subst e0
  subst e1
  first
  | (have ix0 : n5 = hV H0 285 60 - 1 := Eq.trans f10 (w32_iv (Isu (Iat f7 f6) (IC 1)) (by decide)); subst ix0; clear f10)
  | (have ix0 : n5 = hV H0 285 60 - 1 := Eq.trans f10 (w32_id (by omega) (by omega)); subst ix0; clear f10)
  | (unfold w32 at f10; have ix0 : n5 = hV H0 285 60 - 1 := (by omega); subst ix0)
  | skip
  first
  | (have ix1 : n8 = (hV H0 285 60 - 1) - 1 := Eq.trans f17 (w32_iv (Isu (Isu (Iat f7 f6) (IC 1)) (IC 1)) (by decide)); subst ix1; clear f17)
  | (have ix1 : n8 = (hV H0 285 60 - 1) - 1 := Eq.trans f17 (w32_id (by omega) (by omega)); subst ix1; clear f17)
  | (unfold w32 at f17; have ix1 : n8 = (hV H0 285 60 - 1) - 1 := (by omega); subst ix1)
  | skip
  try unfold w32 at f10
  try unfold w32 at f17
  try unfold w32 at f22
  try unfold w32 at f27
  omega
theorem c_244_s_3 : vOkm T0 (eP e_244 L_244 A_244 mu_244 none) 3 ([(2, [12, 2, 1], [], 0), (31, [11], [], 0), (1242, [11, 0, 10], [0, 1], 0), (90, [11], [], 0), (91, [11], [], 1), (2, [10, 2, 1], [], 0), (45, [2, 9], [], 0), (22, [9, 6, 8], [0], 0), (90, [9], [], 0), (91, [9], [], 60), (2, [8, 5, 7], [], 0), (0, [7], [], 1), (20, [6, 0], [0], 61), (0, [6], [], 325), (42, [1, 2], [], 0), (33, [1], [], 0), (31, [5], [], 0), (2, [5, 3, 4], [], 0), (0, [4], [], 1), (20, [3, 0], [0], 60), (90, [3], [], 1), (91, [3], [], 6), (6000, [0, 1, 2], [0], 0), (0, [0], [], 285), (90, [1], [], -2147483648), (91, [1], [], 2147483647), (90, [2], [], -2147483648), (91, [2], [], 2147483647)], (91, [1], [], 60)) := vOk_inI fun ρ η f0 f1 f2 f3 f4 f5 f6 f7 f8 f9 f10 f11 f12 f13 f14 f15 f16 f17 f18 f19 f20 f21 f22 f23 f24 f25 f26 f27 => q_244_3 (n0 := ρ 2) (n1 := ρ 1) (n2 := ρ 0) (n3 := ρ 3) (n4 := ρ 4) (n5 := ρ 5) (n6 := ρ 6) (n7 := ρ 7) (n8 := ρ 8) (n9 := ρ 9) (n10 := ρ 10) (n11 := ρ 11) (n12 := ρ 12) (H0 := η 0) (H1 := η 1) f27 f26 f25 f24 f23 f22 f21 f20 f19 f18 f17 f16 f15 f14 f13 f12 f11 f10 f9 f8 f7 f6 f5 f4 f3 f2 f1 f0
theorem q_244_4 {n0 n1 n2 n3 n4 n5 n6 n7 n8 n9 n10 n11 n12 : Int} {H0 H1 : gH} (f0 : n0 ≤ 2147483647) (f1 : (-2147483648) ≤ n0) (f2 : n1 ≤ 2147483647) (f3 : (-2147483648) ≤ n1) (f4 : n2 = 285) (f5 : hWt T0 H0 ∧ True) (f6 : n3 ≤ 6) (f7 : 1 ≤ n3) (f8 : n3 = hV H0 (n2).toNat 60) (f9 : n4 = 1) (f10 : n5 = w32 (n3 - n4)) (f11 : n5 ≠ 0) (f12 : 0 ≤ n1) (f13 : n1 < n0) (f14 : n6 = 325) (f15 : n6 = hV H0 (n2).toNat 61) (f16 : n7 = 1) (f17 : n8 = w32 (n5 - n7)) (f18 : n9 ≤ 60) (f19 : 0 ≤ n9) (f20 : n9 = hV H0 (n6).toNat (n8).toNat) (f21 : n0 ≤ n9) (f22 : n10 = w32 (n0 - n1)) (f23 : n11 ≤ 1) (f24 : 0 ≤ n11) (f25 : (hLe T0 H0 H1 ∧ hFr s_242.2.2.2.2 H0 H1 ∧ ((0 : Int) = 0 → H1.length = H0.length) ∧ hWt T0 H1) ∧ postb_242 n11 n2 n10 H0 H1) (f26 : n11 ≠ 0) (f27 : n12 = w32 (n0 - n1)) : 0 ≤ n12 := by
  unfold postb_242 at f25
  have e0 : n3 = hV H0 285 60 := (by rw [f4] at f8; exact f8 : n3 = hV H0 285 60)
  have e1 : n9 = hV H0 325 (n8).toNat := (by rw [f14] at f20; exact f20 : n9 = hV H0 325 (n8).toNat)
  have e3 : hV H1 285 60 = hV H0 285 60 := (f25.1.2.1.1 285 60 kF_242_285_60)
  have e4 : hV H1 325 = hV H0 325 := fRow f25.1.2.1 325 kR_242_325
  have e5 : hV H1 326 = hV H0 326 := fRow f25.1.2.1 326 kR_242_326
  have e6 : (1 : Int) ≤ hV H0 285 60 ∧ hV H0 285 60 ≤ 6 := bTo e3 (f25.1.2.2.2 285 60 _ _ kW_285_60)
  try simp only [e3, e4, e5] at f25
  have r0_0 := f25.2
  clear f8 f15 f20 e3 e4 e5
  subst e0
  subst e1
  first
  | (have ix0 : n5 = hV H0 285 60 - 1 := Eq.trans f10 (w32_iv (Isu (Iat f7 f6) (IC 1)) (by decide)); subst ix0; clear f10)
  | (have ix0 : n5 = hV H0 285 60 - 1 := Eq.trans f10 (w32_id (by omega) (by omega)); subst ix0; clear f10)
  | (unfold w32 at f10; have ix0 : n5 = hV H0 285 60 - 1 := (by omega); subst ix0)
  | skip
  first
  | (have ix1 : n8 = (hV H0 285 60 - 1) - 1 := Eq.trans f17 (w32_iv (Isu (Isu (Iat f7 f6) (IC 1)) (IC 1)) (by decide)); subst ix1; clear f17)
  | (have ix1 : n8 = (hV H0 285 60 - 1) - 1 := Eq.trans f17 (w32_id (by omega) (by omega)); subst ix1; clear f17)
  | (unfold w32 at f17; have ix1 : n8 = (hV H0 285 60 - 1) - 1 := (by omega); subst ix1)
  | skip
  first
  | (have ix2 : n12 = n0 - n1 := Eq.trans f27 (w32_id (by omega) (by omega)); subst ix2; clear f27)
  | (unfold w32 at f27; have ix2 : n12 = n0 - n1 := (by omega); subst ix2)
  | skip
  try unfold w32 at f10
  try unfold w32 at f17
  try unfold w32 at f22
  try unfold w32 at f27
  omega
theorem c_244_s_4 : vOkm T0 (eP e_244 L_244 A_244 mu_244 none) 3 ([(2, [12, 2, 1], [], 0), (31, [11], [], 0), (1242, [11, 0, 10], [0, 1], 0), (90, [11], [], 0), (91, [11], [], 1), (2, [10, 2, 1], [], 0), (45, [2, 9], [], 0), (22, [9, 6, 8], [0], 0), (90, [9], [], 0), (91, [9], [], 60), (2, [8, 5, 7], [], 0), (0, [7], [], 1), (20, [6, 0], [0], 61), (0, [6], [], 325), (42, [1, 2], [], 0), (33, [1], [], 0), (31, [5], [], 0), (2, [5, 3, 4], [], 0), (0, [4], [], 1), (20, [3, 0], [0], 60), (90, [3], [], 1), (91, [3], [], 6), (6000, [0, 1, 2], [0], 0), (0, [0], [], 285), (90, [1], [], -2147483648), (91, [1], [], 2147483647), (90, [2], [], -2147483648), (91, [2], [], 2147483647)], (90, [12], [], 0)) := vOk_inI fun ρ η f0 f1 f2 f3 f4 f5 f6 f7 f8 f9 f10 f11 f12 f13 f14 f15 f16 f17 f18 f19 f20 f21 f22 f23 f24 f25 f26 f27 => q_244_4 (n0 := ρ 2) (n1 := ρ 1) (n2 := ρ 0) (n3 := ρ 3) (n4 := ρ 4) (n5 := ρ 5) (n6 := ρ 6) (n7 := ρ 7) (n8 := ρ 8) (n9 := ρ 9) (n10 := ρ 10) (n11 := ρ 11) (n12 := ρ 12) (H0 := η 0) (H1 := η 1) f27 f26 f25 f24 f23 f22 f21 f20 f19 f18 f17 f16 f15 f14 f13 f12 f11 f10 f9 f8 f7 f6 f5 f4 f3 f2 f1 f0
theorem q_244_5 {n0 n1 n2 n3 n4 n5 n6 n7 n8 n9 n10 n11 n12 : Int} {H0 H1 : gH} (f0 : n0 ≤ 2147483647) (f1 : (-2147483648) ≤ n0) (f2 : n1 ≤ 2147483647) (f3 : (-2147483648) ≤ n1) (f4 : n2 = 285) (f5 : hWt T0 H0 ∧ True) (f6 : n3 ≤ 6) (f7 : 1 ≤ n3) (f8 : n3 = hV H0 (n2).toNat 60) (f9 : n4 = 1) (f10 : n5 = w32 (n3 - n4)) (f11 : n5 ≠ 0) (f12 : 0 ≤ n1) (f13 : n1 < n0) (f14 : n6 = 325) (f15 : n6 = hV H0 (n2).toNat 61) (f16 : n7 = 1) (f17 : n8 = w32 (n5 - n7)) (f18 : n9 ≤ 60) (f19 : 0 ≤ n9) (f20 : n9 = hV H0 (n6).toNat (n8).toNat) (f21 : n0 ≤ n9) (f22 : n10 = w32 (n0 - n1)) (f23 : n11 ≤ 1) (f24 : 0 ≤ n11) (f25 : (hLe T0 H0 H1 ∧ hFr s_242.2.2.2.2 H0 H1 ∧ ((0 : Int) = 0 → H1.length = H0.length) ∧ hWt T0 H1) ∧ postb_242 n11 n2 n10 H0 H1) (f26 : n11 ≠ 0) (f27 : n12 = w32 (n0 - n1)) : n12 ≤ 60 := by
  unfold postb_242 at f25
  have e0 : n3 = hV H0 285 60 := (by rw [f4] at f8; exact f8 : n3 = hV H0 285 60)
  have e1 : n9 = hV H0 325 (n8).toNat := (by rw [f14] at f20; exact f20 : n9 = hV H0 325 (n8).toNat)
  have e3 : hV H1 285 60 = hV H0 285 60 := (f25.1.2.1.1 285 60 kF_242_285_60)
  have e4 : hV H1 325 = hV H0 325 := fRow f25.1.2.1 325 kR_242_325
  have e5 : hV H1 326 = hV H0 326 := fRow f25.1.2.1 326 kR_242_326
  have e6 : (1 : Int) ≤ hV H0 285 60 ∧ hV H0 285 60 ≤ 6 := bTo e3 (f25.1.2.2.2 285 60 _ _ kW_285_60)
  try simp only [e3, e4, e5] at f25
  have r0_0 := f25.2
  clear f8 f15 f20 e3 e4 e5
  subst e0
  subst e1
  first
  | (have ix0 : n5 = hV H0 285 60 - 1 := Eq.trans f10 (w32_iv (Isu (Iat f7 f6) (IC 1)) (by decide)); subst ix0; clear f10)
  | (have ix0 : n5 = hV H0 285 60 - 1 := Eq.trans f10 (w32_id (by omega) (by omega)); subst ix0; clear f10)
  | (unfold w32 at f10; have ix0 : n5 = hV H0 285 60 - 1 := (by omega); subst ix0)
  | skip
  first
  | (have ix1 : n8 = (hV H0 285 60 - 1) - 1 := Eq.trans f17 (w32_iv (Isu (Isu (Iat f7 f6) (IC 1)) (IC 1)) (by decide)); subst ix1; clear f17)
  | (have ix1 : n8 = (hV H0 285 60 - 1) - 1 := Eq.trans f17 (w32_id (by omega) (by omega)); subst ix1; clear f17)
  | (unfold w32 at f17; have ix1 : n8 = (hV H0 285 60 - 1) - 1 := (by omega); subst ix1)
  | skip
  first
  | (have ix2 : n12 = n0 - n1 := Eq.trans f27 (w32_id (by omega) (by omega)); subst ix2; clear f27)
  | (unfold w32 at f27; have ix2 : n12 = n0 - n1 := (by omega); subst ix2)
  | skip
  try unfold w32 at f10
  try unfold w32 at f17
  try unfold w32 at f22
  try unfold w32 at f27
  omega
theorem c_244_s_5 : vOkm T0 (eP e_244 L_244 A_244 mu_244 none) 3 ([(2, [12, 2, 1], [], 0), (31, [11], [], 0), (1242, [11, 0, 10], [0, 1], 0), (90, [11], [], 0), (91, [11], [], 1), (2, [10, 2, 1], [], 0), (45, [2, 9], [], 0), (22, [9, 6, 8], [0], 0), (90, [9], [], 0), (91, [9], [], 60), (2, [8, 5, 7], [], 0), (0, [7], [], 1), (20, [6, 0], [0], 61), (0, [6], [], 325), (42, [1, 2], [], 0), (33, [1], [], 0), (31, [5], [], 0), (2, [5, 3, 4], [], 0), (0, [4], [], 1), (20, [3, 0], [0], 60), (90, [3], [], 1), (91, [3], [], 6), (6000, [0, 1, 2], [0], 0), (0, [0], [], 285), (90, [1], [], -2147483648), (91, [1], [], 2147483647), (90, [2], [], -2147483648), (91, [2], [], 2147483647)], (91, [12], [], 60)) := vOk_inI fun ρ η f0 f1 f2 f3 f4 f5 f6 f7 f8 f9 f10 f11 f12 f13 f14 f15 f16 f17 f18 f19 f20 f21 f22 f23 f24 f25 f26 f27 => q_244_5 (n0 := ρ 2) (n1 := ρ 1) (n2 := ρ 0) (n3 := ρ 3) (n4 := ρ 4) (n5 := ρ 5) (n6 := ρ 6) (n7 := ρ 7) (n8 := ρ 8) (n9 := ρ 9) (n10 := ρ 10) (n11 := ρ 11) (n12 := ρ 12) (H0 := η 0) (H1 := η 1) f27 f26 f25 f24 f23 f22 f21 f20 f19 f18 f17 f16 f15 f14 f13 f12 f11 f10 f9 f8 f7 f6 f5 f4 f3 f2 f1 f0
theorem q_244_6 {n0 n1 n2 n3 n4 n5 n6 n7 n8 n9 n10 n11 n12 n13 : Int} {H0 H1 : gH} (f0 : n0 ≤ 2147483647) (f1 : (-2147483648) ≤ n0) (f2 : n1 ≤ 2147483647) (f3 : (-2147483648) ≤ n1) (f4 : n2 = 285) (f5 : hWt T0 H0 ∧ True) (f6 : n3 ≤ 6) (f7 : 1 ≤ n3) (f8 : n3 = hV H0 (n2).toNat 60) (f9 : n4 = 1) (f10 : n5 = w32 (n3 - n4)) (f11 : n5 ≠ 0) (f12 : 0 ≤ n1) (f13 : n1 < n0) (f14 : n6 = 325) (f15 : n6 = hV H0 (n2).toNat 61) (f16 : n7 = 1) (f17 : n8 = w32 (n5 - n7)) (f18 : n9 ≤ 60) (f19 : 0 ≤ n9) (f20 : n9 = hV H0 (n6).toNat (n8).toNat) (f21 : n0 ≤ n9) (f22 : n10 = w32 (n0 - n1)) (f23 : n11 ≤ 1) (f24 : 0 ≤ n11) (f25 : (hLe T0 H0 H1 ∧ hFr s_242.2.2.2.2 H0 H1 ∧ ((0 : Int) = 0 → H1.length = H0.length) ∧ hWt T0 H1) ∧ postb_242 n11 n2 n10 H0 H1) (f26 : n11 ≠ 0) (f27 : n12 = w32 (n0 - n1)) (f28 : n13 = 0) : preb_243 n2 n1 n12 n13 H1 := by
  unfold postb_242 at f25
  unfold preb_243
  have e0 : n3 = hV H0 285 60 := (by rw [f4] at f8; exact f8 : n3 = hV H0 285 60)
  have e1 : n9 = hV H0 325 (n8).toNat := (by rw [f14] at f20; exact f20 : n9 = hV H0 325 (n8).toNat)
  have e3 : hV H1 285 60 = hV H0 285 60 := (f25.1.2.1.1 285 60 kF_242_285_60)
  have e4 : hV H1 325 = hV H0 325 := fRow f25.1.2.1 325 kR_242_325
  have e5 : hV H1 326 = hV H0 326 := fRow f25.1.2.1 326 kR_242_326
  have e6 : (1 : Int) ≤ hV H0 285 60 ∧ hV H0 285 60 ≤ 6 := bTo e3 (f25.1.2.2.2 285 60 _ _ kW_285_60)
  try simp only [e3, e4, e5] at f25
  try simp only [e3, e4, e5]
  have r0_0 := f25.2
  clear f8 f15 f20 e3 e4 e5
  subst e0
  subst e1
  first
  | (have ix0 : n5 = hV H0 285 60 - 1 := Eq.trans f10 (w32_iv (Isu (Iat f7 f6) (IC 1)) (by decide)); subst ix0; clear f10)
  | (have ix0 : n5 = hV H0 285 60 - 1 := Eq.trans f10 (w32_id (by omega) (by omega)); subst ix0; clear f10)
  | (unfold w32 at f10; have ix0 : n5 = hV H0 285 60 - 1 := (by omega); subst ix0)
  | skip
  first
  | (have ix1 : n8 = (hV H0 285 60 - 1) - 1 := Eq.trans f17 (w32_iv (Isu (Isu (Iat f7 f6) (IC 1)) (IC 1)) (by decide)); subst ix1; clear f17)
  | (have ix1 : n8 = (hV H0 285 60 - 1) - 1 := Eq.trans f17 (w32_id (by omega) (by omega)); subst ix1; clear f17)
  | (unfold w32 at f17; have ix1 : n8 = (hV H0 285 60 - 1) - 1 := (by omega); subst ix1)
  | skip
  first
  | (have ix2 : n12 = n0 - n1 := Eq.trans f27 (w32_id (by omega) (by omega)); subst ix2; clear f27)
  | (unfold w32 at f27; have ix2 : n12 = n0 - n1 := (by omega); subst ix2)
  | skip
  try unfold w32 at f10
  try unfold w32 at f17
  try unfold w32 at f22
  try unfold w32 at f27
  refine ⟨?_, ?_, ?_, ?_⟩ <;> first | assumption | omega | trivial
theorem c_244_s_6 : vOkm T0 (eP e_244 L_244 A_244 mu_244 none) 3 ([(0, [13], [], 0), (2, [12, 2, 1], [], 0), (31, [11], [], 0), (1242, [11, 0, 10], [0, 1], 0), (90, [11], [], 0), (91, [11], [], 1), (2, [10, 2, 1], [], 0), (45, [2, 9], [], 0), (22, [9, 6, 8], [0], 0), (90, [9], [], 0), (91, [9], [], 60), (2, [8, 5, 7], [], 0), (0, [7], [], 1), (20, [6, 0], [0], 61), (0, [6], [], 325), (42, [1, 2], [], 0), (33, [1], [], 0), (31, [5], [], 0), (2, [5, 3, 4], [], 0), (0, [4], [], 1), (20, [3, 0], [0], 60), (90, [3], [], 1), (91, [3], [], 6), (6000, [0, 1, 2], [0], 0), (0, [0], [], 285), (90, [1], [], -2147483648), (91, [1], [], 2147483647), (90, [2], [], -2147483648), (91, [2], [], 2147483647)], (2243, [0, 1, 12, 13], [1], 0)) := vOk_inI fun ρ η f0 f1 f2 f3 f4 f5 f6 f7 f8 f9 f10 f11 f12 f13 f14 f15 f16 f17 f18 f19 f20 f21 f22 f23 f24 f25 f26 f27 f28 => q_244_6 (n0 := ρ 2) (n1 := ρ 1) (n2 := ρ 0) (n3 := ρ 3) (n4 := ρ 4) (n5 := ρ 5) (n6 := ρ 6) (n7 := ρ 7) (n8 := ρ 8) (n9 := ρ 9) (n10 := ρ 10) (n11 := ρ 11) (n12 := ρ 12) (n13 := ρ 13) (H0 := η 0) (H1 := η 1) f28 f27 f26 f25 f24 f23 f22 f21 f20 f19 f18 f17 f16 f15 f14 f13 f12 f11 f10 f9 f8 f7 f6 f5 f4 f3 f2 f1 f0
def p_244_s : List vG := [([(2, [8, 5, 7], [], 0), (0, [7], [], 1), (42, [1, 2], [], 0), (33, [1], [], 0), (31, [5], [], 0), (2, [5, 3, 4], [], 0), (0, [4], [], 1), (20, [3, 0], [0], 60), (90, [3], [], 1), (91, [3], [], 6), (6000, [0, 1, 2], [0], 0), (0, [0], [], 285), (90, [1], [], -2147483648), (91, [1], [], 2147483647), (90, [2], [], -2147483648), (91, [2], [], 2147483647)], (70, [8], [], 6)),
  ([(2, [10, 2, 1], [], 0), (45, [2, 9], [], 0), (22, [9, 6, 8], [0], 0), (90, [9], [], 0), (91, [9], [], 60), (2, [8, 5, 7], [], 0), (0, [7], [], 1), (20, [6, 0], [0], 61), (0, [6], [], 325), (42, [1, 2], [], 0), (33, [1], [], 0), (31, [5], [], 0), (2, [5, 3, 4], [], 0), (0, [4], [], 1), (20, [3, 0], [0], 60), (90, [3], [], 1), (91, [3], [], 6), (6000, [0, 1, 2], [0], 0), (0, [0], [], 285), (90, [1], [], -2147483648), (91, [1], [], 2147483647), (90, [2], [], -2147483648), (91, [2], [], 2147483647)], (90, [10], [], 0)),
  ([(2, [10, 2, 1], [], 0), (45, [2, 9], [], 0), (22, [9, 6, 8], [0], 0), (90, [9], [], 0), (91, [9], [], 60), (2, [8, 5, 7], [], 0), (0, [7], [], 1), (20, [6, 0], [0], 61), (0, [6], [], 325), (42, [1, 2], [], 0), (33, [1], [], 0), (31, [5], [], 0), (2, [5, 3, 4], [], 0), (0, [4], [], 1), (20, [3, 0], [0], 60), (90, [3], [], 1), (91, [3], [], 6), (6000, [0, 1, 2], [0], 0), (0, [0], [], 285), (90, [1], [], -2147483648), (91, [1], [], 2147483647), (90, [2], [], -2147483648), (91, [2], [], 2147483647)], (91, [10], [], 60)),
  ([(2, [12, 2, 1], [], 0), (31, [11], [], 0), (1242, [11, 0, 10], [0, 1], 0), (90, [11], [], 0), (91, [11], [], 1), (2, [10, 2, 1], [], 0), (45, [2, 9], [], 0), (22, [9, 6, 8], [0], 0), (90, [9], [], 0), (91, [9], [], 60), (2, [8, 5, 7], [], 0), (0, [7], [], 1), (20, [6, 0], [0], 61), (0, [6], [], 325), (42, [1, 2], [], 0), (33, [1], [], 0), (31, [5], [], 0), (2, [5, 3, 4], [], 0), (0, [4], [], 1), (20, [3, 0], [0], 60), (90, [3], [], 1), (91, [3], [], 6), (6000, [0, 1, 2], [0], 0), (0, [0], [], 285), (90, [1], [], -2147483648), (91, [1], [], 2147483647), (90, [2], [], -2147483648), (91, [2], [], 2147483647)], (91, [1], [], 60)),
  ([(2, [12, 2, 1], [], 0), (31, [11], [], 0), (1242, [11, 0, 10], [0, 1], 0), (90, [11], [], 0), (91, [11], [], 1), (2, [10, 2, 1], [], 0), (45, [2, 9], [], 0), (22, [9, 6, 8], [0], 0), (90, [9], [], 0), (91, [9], [], 60), (2, [8, 5, 7], [], 0), (0, [7], [], 1), (20, [6, 0], [0], 61), (0, [6], [], 325), (42, [1, 2], [], 0), (33, [1], [], 0), (31, [5], [], 0), (2, [5, 3, 4], [], 0), (0, [4], [], 1), (20, [3, 0], [0], 60), (90, [3], [], 1), (91, [3], [], 6), (6000, [0, 1, 2], [0], 0), (0, [0], [], 285), (90, [1], [], -2147483648), (91, [1], [], 2147483647), (90, [2], [], -2147483648), (91, [2], [], 2147483647)], (90, [12], [], 0)),
  ([(2, [12, 2, 1], [], 0), (31, [11], [], 0), (1242, [11, 0, 10], [0, 1], 0), (90, [11], [], 0), (91, [11], [], 1), (2, [10, 2, 1], [], 0), (45, [2, 9], [], 0), (22, [9, 6, 8], [0], 0), (90, [9], [], 0), (91, [9], [], 60), (2, [8, 5, 7], [], 0), (0, [7], [], 1), (20, [6, 0], [0], 61), (0, [6], [], 325), (42, [1, 2], [], 0), (33, [1], [], 0), (31, [5], [], 0), (2, [5, 3, 4], [], 0), (0, [4], [], 1), (20, [3, 0], [0], 60), (90, [3], [], 1), (91, [3], [], 6), (6000, [0, 1, 2], [0], 0), (0, [0], [], 285), (90, [1], [], -2147483648), (91, [1], [], 2147483647), (90, [2], [], -2147483648), (91, [2], [], 2147483647)], (91, [12], [], 60)),
  ([(0, [13], [], 0), (2, [12, 2, 1], [], 0), (31, [11], [], 0), (1242, [11, 0, 10], [0, 1], 0), (90, [11], [], 0), (91, [11], [], 1), (2, [10, 2, 1], [], 0), (45, [2, 9], [], 0), (22, [9, 6, 8], [0], 0), (90, [9], [], 0), (91, [9], [], 60), (2, [8, 5, 7], [], 0), (0, [7], [], 1), (20, [6, 0], [0], 61), (0, [6], [], 325), (42, [1, 2], [], 0), (33, [1], [], 0), (31, [5], [], 0), (2, [5, 3, 4], [], 0), (0, [4], [], 1), (20, [3, 0], [0], 60), (90, [3], [], 1), (91, [3], [], 6), (6000, [0, 1, 2], [0], 0), (0, [0], [], 285), (90, [1], [], -2147483648), (91, [1], [], 2147483647), (90, [2], [], -2147483648), (91, [2], [], 2147483647)], (2243, [0, 1, 12, 13], [1], 0))]
theorem r_244_s : vCovO true (eR0 e_244 L_244 cs_244 2000) p_244_s = true := by decide +kernel
theorem m_244 (d : Nat) : eC e_244 (d + 2) := eC_ok (e := e_244) (L := L_244) (cs := cs_244) (n := 2000) (d := d + 1) (A := A_244) (μ := mu_244) (tp := true) (p0 := p_244_s) rfl ⟨m_242 d, ⟨m_243 d, trivial⟩⟩ rfl (.inr pre0_ok) (by decide +kernel) (fun _ => post0_ok) r_244_s (allC c_244_s_0 (allC c_244_s_1 (allC c_244_s_2 (allC c_244_s_3 (allC c_244_s_4 (allC c_244_s_5 (allC c_244_s_6 allN))))))) allN
/- MixStageModel.blank (I)I -/
noncomputable def s_245 : vM := ([(3, 12, 285, 0), (0, -2147483648, 2147483647, 0)], (0, -2147483648, 2147483647, 0), 0, 0, [(428, 0), (436, 0), (444, 0)])
noncomputable def e_245 : vE := (245, s_245, pre0, post0)
noncomputable def L_245 : List vE := [e_242, e_243]
def cs_245 : List vC := []
def A_245 : Int → List Int → gH → gH → Prop := fun c xs h0 h => True
def mu_245 : Int → List Int → gH → gH → Nat := fun c xs h0 h => 0
theorem q_245_0 {n0 n1 n2 n3 : Int} {H0 : gH} (f0 : n0 ≤ 2147483647) (f1 : (-2147483648) ≤ n0) (f2 : n1 = 285) (f3 : hWt T0 H0 ∧ True) (f4 : n2 = 1) (f5 : n2 ≤ n0) (f6 : n3 = 60) (f7 : n0 ≤ n3) : 0 ≤ n0 := by
  omega
theorem c_245_s_0 : vOkm T0 (eP e_245 L_245 A_245 mu_245 none) 2 ([(45, [1, 3], [], 0), (0, [3], [], 60), (43, [1, 2], [], 0), (0, [2], [], 1), (6000, [0, 1], [0], 0), (0, [0], [], 285), (90, [1], [], -2147483648), (91, [1], [], 2147483647)], (90, [1], [], 0)) := vOk_inI fun ρ η f0 f1 f2 f3 f4 f5 f6 f7 => q_245_0 (n0 := ρ 1) (n1 := ρ 0) (n2 := ρ 2) (n3 := ρ 3) (H0 := η 0) f7 f6 f5 f4 f3 f2 f1 f0
theorem q_245_1 {n0 n1 n2 n3 : Int} {H0 : gH} (f0 : n0 ≤ 2147483647) (f1 : (-2147483648) ≤ n0) (f2 : n1 = 285) (f3 : hWt T0 H0 ∧ True) (f4 : n2 = 1) (f5 : n2 ≤ n0) (f6 : n3 = 60) (f7 : n0 ≤ n3) : n0 ≤ 60 := by
  omega
theorem c_245_s_1 : vOkm T0 (eP e_245 L_245 A_245 mu_245 none) 2 ([(45, [1, 3], [], 0), (0, [3], [], 60), (43, [1, 2], [], 0), (0, [2], [], 1), (6000, [0, 1], [0], 0), (0, [0], [], 285), (90, [1], [], -2147483648), (91, [1], [], 2147483647)], (91, [1], [], 60)) := vOk_inI fun ρ η f0 f1 f2 f3 f4 f5 f6 f7 => q_245_1 (n0 := ρ 1) (n1 := ρ 0) (n2 := ρ 2) (n3 := ρ 3) (H0 := η 0) f7 f6 f5 f4 f3 f2 f1 f0
theorem q_245_2 {n0 n1 n2 n3 n4 : Int} {H0 H1 : gH} (f0 : n0 ≤ 2147483647) (f1 : (-2147483648) ≤ n0) (f2 : n1 = 285) (f3 : hWt T0 H0 ∧ True) (f4 : n2 = 1) (f5 : n2 ≤ n0) (f6 : n3 = 60) (f7 : n0 ≤ n3) (f8 : n4 ≤ 1) (f9 : 0 ≤ n4) (f10 : (hLe T0 H0 H1 ∧ hFr s_242.2.2.2.2 H0 H1 ∧ ((0 : Int) = 0 → H1.length = H0.length) ∧ hWt T0 H1) ∧ postb_242 n4 n1 n0 H0 H1) (f11 : n4 ≠ 0) : 0 ≤ n0 := by
  unfold postb_242 at f10
  have e1 : hV H1 285 60 = hV H0 285 60 := (f10.1.2.1.1 285 60 kF_242_285_60)
  have e2 : hV H1 325 = hV H0 325 := fRow f10.1.2.1 325 kR_242_325
  have e3 : hV H1 326 = hV H0 326 := fRow f10.1.2.1 326 kR_242_326
  have e4 : (1 : Int) ≤ hV H0 285 60 ∧ hV H0 285 60 ≤ 6 := bTo e1 (f10.1.2.2.2 285 60 _ _ kW_285_60)
  try simp only [e1, e2, e3] at f10
  have r0_0 := f10.2
  clear e1 e2 e3
  omega
theorem c_245_s_2 : vOkm T0 (eP e_245 L_245 A_245 mu_245 none) 2 ([(31, [4], [], 0), (1242, [4, 0, 1], [0, 1], 0), (90, [4], [], 0), (91, [4], [], 1), (45, [1, 3], [], 0), (0, [3], [], 60), (43, [1, 2], [], 0), (0, [2], [], 1), (6000, [0, 1], [0], 0), (0, [0], [], 285), (90, [1], [], -2147483648), (91, [1], [], 2147483647)], (90, [1], [], 0)) := vOk_inI fun ρ η f0 f1 f2 f3 f4 f5 f6 f7 f8 f9 f10 f11 => q_245_2 (n0 := ρ 1) (n1 := ρ 0) (n2 := ρ 2) (n3 := ρ 3) (n4 := ρ 4) (H0 := η 0) (H1 := η 1) f11 f10 f9 f8 f7 f6 f5 f4 f3 f2 f1 f0
theorem q_245_3 {n0 n1 n2 n3 n4 : Int} {H0 H1 : gH} (f0 : n0 ≤ 2147483647) (f1 : (-2147483648) ≤ n0) (f2 : n1 = 285) (f3 : hWt T0 H0 ∧ True) (f4 : n2 = 1) (f5 : n2 ≤ n0) (f6 : n3 = 60) (f7 : n0 ≤ n3) (f8 : n4 ≤ 1) (f9 : 0 ≤ n4) (f10 : (hLe T0 H0 H1 ∧ hFr s_242.2.2.2.2 H0 H1 ∧ ((0 : Int) = 0 → H1.length = H0.length) ∧ hWt T0 H1) ∧ postb_242 n4 n1 n0 H0 H1) (f11 : n4 ≠ 0) : n0 ≤ 60 := by
  unfold postb_242 at f10
  have e1 : hV H1 285 60 = hV H0 285 60 := (f10.1.2.1.1 285 60 kF_242_285_60)
  have e2 : hV H1 325 = hV H0 325 := fRow f10.1.2.1 325 kR_242_325
  have e3 : hV H1 326 = hV H0 326 := fRow f10.1.2.1 326 kR_242_326
  have e4 : (1 : Int) ≤ hV H0 285 60 ∧ hV H0 285 60 ≤ 6 := bTo e1 (f10.1.2.2.2 285 60 _ _ kW_285_60)
  try simp only [e1, e2, e3] at f10
  have r0_0 := f10.2
  clear e1 e2 e3
  omega
theorem c_245_s_3 : vOkm T0 (eP e_245 L_245 A_245 mu_245 none) 2 ([(31, [4], [], 0), (1242, [4, 0, 1], [0, 1], 0), (90, [4], [], 0), (91, [4], [], 1), (45, [1, 3], [], 0), (0, [3], [], 60), (43, [1, 2], [], 0), (0, [2], [], 1), (6000, [0, 1], [0], 0), (0, [0], [], 285), (90, [1], [], -2147483648), (91, [1], [], 2147483647)], (91, [1], [], 60)) := vOk_inI fun ρ η f0 f1 f2 f3 f4 f5 f6 f7 f8 f9 f10 f11 => q_245_3 (n0 := ρ 1) (n1 := ρ 0) (n2 := ρ 2) (n3 := ρ 3) (n4 := ρ 4) (H0 := η 0) (H1 := η 1) f11 f10 f9 f8 f7 f6 f5 f4 f3 f2 f1 f0
theorem q_245_4 {n0 n1 n2 n3 n4 n5 n6 : Int} {H0 H1 : gH} (f0 : n0 ≤ 2147483647) (f1 : (-2147483648) ≤ n0) (f2 : n1 = 285) (f3 : hWt T0 H0 ∧ True) (f4 : n2 = 1) (f5 : n2 ≤ n0) (f6 : n3 = 60) (f7 : n0 ≤ n3) (f8 : n4 ≤ 1) (f9 : 0 ≤ n4) (f10 : (hLe T0 H0 H1 ∧ hFr s_242.2.2.2.2 H0 H1 ∧ ((0 : Int) = 0 → H1.length = H0.length) ∧ hWt T0 H1) ∧ postb_242 n4 n1 n0 H0 H1) (f11 : n4 ≠ 0) (f12 : n5 = 0) (f13 : n6 = 1) : preb_243 n1 n5 n0 n6 H1 := by
  unfold postb_242 at f10
  unfold preb_243
  have e1 : hV H1 285 60 = hV H0 285 60 := (f10.1.2.1.1 285 60 kF_242_285_60)
  have e2 : hV H1 325 = hV H0 325 := fRow f10.1.2.1 325 kR_242_325
  have e3 : hV H1 326 = hV H0 326 := fRow f10.1.2.1 326 kR_242_326
  have e4 : (1 : Int) ≤ hV H0 285 60 ∧ hV H0 285 60 ≤ 6 := bTo e1 (f10.1.2.2.2 285 60 _ _ kW_285_60)
  try simp only [e1, e2, e3] at f10
  try simp only [e1, e2, e3]
  have r0_0 := f10.2
  clear e1 e2 e3
  refine ⟨?_, ?_, ?_, ?_⟩ <;> first | assumption | omega | trivial
theorem c_245_s_4 : vOkm T0 (eP e_245 L_245 A_245 mu_245 none) 2 ([(0, [6], [], 1), (0, [5], [], 0), (31, [4], [], 0), (1242, [4, 0, 1], [0, 1], 0), (90, [4], [], 0), (91, [4], [], 1), (45, [1, 3], [], 0), (0, [3], [], 60), (43, [1, 2], [], 0), (0, [2], [], 1), (6000, [0, 1], [0], 0), (0, [0], [], 285), (90, [1], [], -2147483648), (91, [1], [], 2147483647)], (2243, [0, 5, 1, 6], [1], 0)) := vOk_inI fun ρ η f0 f1 f2 f3 f4 f5 f6 f7 f8 f9 f10 f11 f12 f13 => q_245_4 (n0 := ρ 1) (n1 := ρ 0) (n2 := ρ 2) (n3 := ρ 3) (n4 := ρ 4) (n5 := ρ 5) (n6 := ρ 6) (H0 := η 0) (H1 := η 1) f13 f12 f11 f10 f9 f8 f7 f6 f5 f4 f3 f2 f1 f0
def p_245_s : List vG := [([(45, [1, 3], [], 0), (0, [3], [], 60), (43, [1, 2], [], 0), (0, [2], [], 1), (6000, [0, 1], [0], 0), (0, [0], [], 285), (90, [1], [], -2147483648), (91, [1], [], 2147483647)], (90, [1], [], 0)),
  ([(45, [1, 3], [], 0), (0, [3], [], 60), (43, [1, 2], [], 0), (0, [2], [], 1), (6000, [0, 1], [0], 0), (0, [0], [], 285), (90, [1], [], -2147483648), (91, [1], [], 2147483647)], (91, [1], [], 60)),
  ([(31, [4], [], 0), (1242, [4, 0, 1], [0, 1], 0), (90, [4], [], 0), (91, [4], [], 1), (45, [1, 3], [], 0), (0, [3], [], 60), (43, [1, 2], [], 0), (0, [2], [], 1), (6000, [0, 1], [0], 0), (0, [0], [], 285), (90, [1], [], -2147483648), (91, [1], [], 2147483647)], (90, [1], [], 0)),
  ([(31, [4], [], 0), (1242, [4, 0, 1], [0, 1], 0), (90, [4], [], 0), (91, [4], [], 1), (45, [1, 3], [], 0), (0, [3], [], 60), (43, [1, 2], [], 0), (0, [2], [], 1), (6000, [0, 1], [0], 0), (0, [0], [], 285), (90, [1], [], -2147483648), (91, [1], [], 2147483647)], (91, [1], [], 60)),
  ([(0, [6], [], 1), (0, [5], [], 0), (31, [4], [], 0), (1242, [4, 0, 1], [0, 1], 0), (90, [4], [], 0), (91, [4], [], 1), (45, [1, 3], [], 0), (0, [3], [], 60), (43, [1, 2], [], 0), (0, [2], [], 1), (6000, [0, 1], [0], 0), (0, [0], [], 285), (90, [1], [], -2147483648), (91, [1], [], 2147483647)], (2243, [0, 5, 1, 6], [1], 0))]
theorem r_245_s : vCovO true (eR0 e_245 L_245 cs_245 2000) p_245_s = true := by decide +kernel
theorem m_245 (d : Nat) : eC e_245 (d + 2) := eC_ok (e := e_245) (L := L_245) (cs := cs_245) (n := 2000) (d := d + 1) (A := A_245) (μ := mu_245) (tp := true) (p0 := p_245_s) rfl ⟨m_242 d, ⟨m_243 d, trivial⟩⟩ rfl (.inr pre0_ok) (by decide +kernel) (fun _ => post0_ok) r_245_s (allC c_245_s_0 (allC c_245_s_1 (allC c_245_s_2 (allC c_245_s_3 (allC c_245_s_4 allN))))) allN
/- MixStageModel.isEdition (I)Z -/
noncomputable def s_246 : vM := ([(3, 12, 285, 0), (0, -2147483648, 2147483647, 0)], (0, 0, 1, 0), 0, 0, [])
def postb_246 (r a0 a1 : Int) (h0 h : gH) : Prop := (r = 1 ∧ 0 ≤ a1 ∧ a1 < hV h 285 60) ∨ (r = 0 ∧ ¬ (0 ≤ a1 ∧ a1 < hV h 285 60))
def post_246 : List Int → gH → gH → Prop := fun xs h0 h => match xs with
  | [r, a0, a1] => postb_246 r a0 a1 h0 h
  | _ => True
noncomputable def e_246 : vE := (246, s_246, pre0, post_246)
noncomputable def L_246 : List vE := []
def cs_246 : List vC := []
def A_246 : Int → List Int → gH → gH → Prop := fun c xs h0 h => True
def mu_246 : Int → List Int → gH → gH → Nat := fun c xs h0 h => 0
theorem q_246_0 {n0 n1 n2 : Int} {H0 : gH} (f0 : n0 ≤ 2147483647) (f1 : (-2147483648) ≤ n0) (f2 : n1 = 285) (f3 : hWt T0 H0 ∧ True) (f4 : n0 < 0) (f5 : n2 = 0) : postb_246 n2 n1 n0 H0 H0 := by
  unfold postb_246
  have e0 : (1 : Int) ≤ hV H0 285 60 ∧ hV H0 285 60 ≤ 6 := f3.1 285 60 _ _ kW_285_60
  first | assumption | omega | trivial
theorem c_246_s_0 : vOkm T0 (eP e_246 L_246 A_246 mu_246 none) 2 ([(0, [2], [], 0), (32, [1], [], 0), (6000, [0, 1], [0], 0), (0, [0], [], 285), (90, [1], [], -2147483648), (91, [1], [], 2147483647)], (3000, [2], [0], 17)) := vOk_inI fun ρ η f0 f1 f2 f3 f4 f5 => q_246_0 (n0 := ρ 1) (n1 := ρ 0) (n2 := ρ 2) (H0 := η 0) f5 f4 f3 f2 f1 f0
theorem q_246_1 {n0 n1 n2 n3 : Int} {H0 : gH} (f0 : n0 ≤ 2147483647) (f1 : (-2147483648) ≤ n0) (f2 : n1 = 285) (f3 : hWt T0 H0 ∧ True) (f4 : 0 ≤ n0) (f5 : n2 ≤ 6) (f6 : 1 ≤ n2) (f7 : n2 = hV H0 (n1).toNat 60) (f8 : n2 ≤ n0) (f9 : n3 = 0) : postb_246 n3 n1 n0 H0 H0 := by
  unfold postb_246
  have e0 : n2 = hV H0 285 60 := (by rw [f2] at f7; exact f7 : n2 = hV H0 285 60)
  have e1 : (1 : Int) ≤ hV H0 285 60 ∧ hV H0 285 60 ≤ 6 := f3.1 285 60 _ _ kW_285_60
  clear f7
  subst e0
  first | assumption | omega | trivial
theorem c_246_s_1 : vOkm T0 (eP e_246 L_246 A_246 mu_246 none) 2 ([(0, [3], [], 0), (43, [1, 2], [], 0), (20, [2, 0], [0], 60), (90, [2], [], 1), (91, [2], [], 6), (33, [1], [], 0), (6000, [0, 1], [0], 0), (0, [0], [], 285), (90, [1], [], -2147483648), (91, [1], [], 2147483647)], (3000, [3], [0], 17)) := vOk_inI fun ρ η f0 f1 f2 f3 f4 f5 f6 f7 f8 f9 => q_246_1 (n0 := ρ 1) (n1 := ρ 0) (n2 := ρ 2) (n3 := ρ 3) (H0 := η 0) f9 f8 f7 f6 f5 f4 f3 f2 f1 f0
theorem q_246_2 {n0 n1 n2 n3 : Int} {H0 : gH} (f0 : n0 ≤ 2147483647) (f1 : (-2147483648) ≤ n0) (f2 : n1 = 285) (f3 : hWt T0 H0 ∧ True) (f4 : 0 ≤ n0) (f5 : n2 ≤ 6) (f6 : 1 ≤ n2) (f7 : n2 = hV H0 (n1).toNat 60) (f8 : n0 < n2) (f9 : n3 = 1) : postb_246 n3 n1 n0 H0 H0 := by
  unfold postb_246
  have e0 : n2 = hV H0 285 60 := (by rw [f2] at f7; exact f7 : n2 = hV H0 285 60)
  have e1 : (1 : Int) ≤ hV H0 285 60 ∧ hV H0 285 60 ≤ 6 := f3.1 285 60 _ _ kW_285_60
  clear f7
  subst e0
  first | assumption | omega | trivial
theorem c_246_s_2 : vOkm T0 (eP e_246 L_246 A_246 mu_246 none) 2 ([(0, [3], [], 1), (42, [1, 2], [], 0), (20, [2, 0], [0], 60), (90, [2], [], 1), (91, [2], [], 6), (33, [1], [], 0), (6000, [0, 1], [0], 0), (0, [0], [], 285), (90, [1], [], -2147483648), (91, [1], [], 2147483647)], (3000, [3], [0], 17)) := vOk_inI fun ρ η f0 f1 f2 f3 f4 f5 f6 f7 f8 f9 => q_246_2 (n0 := ρ 1) (n1 := ρ 0) (n2 := ρ 2) (n3 := ρ 3) (H0 := η 0) f9 f8 f7 f6 f5 f4 f3 f2 f1 f0
def p_246_s : List vG := [([(0, [2], [], 0), (32, [1], [], 0), (6000, [0, 1], [0], 0), (0, [0], [], 285), (90, [1], [], -2147483648), (91, [1], [], 2147483647)], (3000, [2], [0], 17)),
  ([(0, [3], [], 0), (43, [1, 2], [], 0), (20, [2, 0], [0], 60), (90, [2], [], 1), (91, [2], [], 6), (33, [1], [], 0), (6000, [0, 1], [0], 0), (0, [0], [], 285), (90, [1], [], -2147483648), (91, [1], [], 2147483647)], (3000, [3], [0], 17)),
  ([(0, [3], [], 1), (42, [1, 2], [], 0), (20, [2, 0], [0], 60), (90, [2], [], 1), (91, [2], [], 6), (33, [1], [], 0), (6000, [0, 1], [0], 0), (0, [0], [], 285), (90, [1], [], -2147483648), (91, [1], [], 2147483647)], (3000, [3], [0], 17))]
theorem r_246_s : vCovO false (eR0 e_246 L_246 cs_246 2000) p_246_s = true := by decide +kernel
theorem m_246 (d : Nat) : eC e_246 (d + 1) := eC_ok (e := e_246) (L := L_246) (cs := cs_246) (n := 2000) (d := d + 0) (A := A_246) (μ := mu_246) (tp := false) (p0 := p_246_s) rfl trivial rfl (.inr pre0_ok) (by decide +kernel) (fun z => nomatch z) r_246_s (allC c_246_s_0 (allC c_246_s_1 (allC c_246_s_2 allN))) allN
/- MixStageModel.frames (I)I -/
noncomputable def s_247 : vM := ([(3, 12, 285, 0), (0, -2147483648, 2147483647, 0)], (0, -2147483648, 2147483647, 0), 0, 0, [])
noncomputable def e_247 : vE := (247, s_247, pre0, post0)
noncomputable def L_247 : List vE := [e_246]
def cs_247 : List vC := []
def A_247 : Int → List Int → gH → gH → Prop := fun c xs h0 h => True
def mu_247 : Int → List Int → gH → gH → Nat := fun c xs h0 h => 0
theorem kF_246_285_60 : vFree s_246.2.2.2.2 285 60 = true := by decide +kernel
theorem q_247_0 {n0 n1 n2 : Int} {H0 H1 : gH} (f0 : n0 ≤ 2147483647) (f1 : (-2147483648) ≤ n0) (f2 : n1 = 285) (f3 : hWt T0 H0 ∧ True) (f4 : n2 ≤ 1) (f5 : 0 ≤ n2) (f6 : (hLe T0 H0 H1 ∧ hFr s_246.2.2.2.2 H0 H1 ∧ ((0 : Int) = 0 → H1.length = H0.length) ∧ hWt T0 H1) ∧ postb_246 n2 n1 n0 H0 H1) (f7 : n2 ≠ 0) : 0 ≤ n0 ∧ n0 < 6 := by
  unfold postb_246 at f6
  have e1 : hV H1 285 60 = hV H0 285 60 := (f6.1.2.1.1 285 60 kF_246_285_60)
  have e2 : (1 : Int) ≤ hV H0 285 60 ∧ hV H0 285 60 ≤ 6 := bTo e1 (f6.1.2.2.2 285 60 _ _ kW_285_60)
  try simp only [e1] at f6
  have r0_0 := f6.2
  clear e1
  omega
theorem c_247_s_0 : vOkm T0 (eP e_247 L_247 A_247 mu_247 none) 2 ([(31, [2], [], 0), (1246, [2, 0, 1], [0, 1], 0), (90, [2], [], 0), (91, [2], [], 1), (6000, [0, 1], [0], 0), (0, [0], [], 285), (90, [1], [], -2147483648), (91, [1], [], 2147483647)], (70, [1], [], 6)) := vOk_inI fun ρ η f0 f1 f2 f3 f4 f5 f6 f7 => q_247_0 (n0 := ρ 1) (n1 := ρ 0) (n2 := ρ 2) (H0 := η 0) (H1 := η 1) f7 f6 f5 f4 f3 f2 f1 f0
def p_247_s : List vG := [([(31, [2], [], 0), (1246, [2, 0, 1], [0, 1], 0), (90, [2], [], 0), (91, [2], [], 1), (6000, [0, 1], [0], 0), (0, [0], [], 285), (90, [1], [], -2147483648), (91, [1], [], 2147483647)], (70, [1], [], 6))]
theorem r_247_s : vCovO true (eR0 e_247 L_247 cs_247 2000) p_247_s = true := by decide +kernel
theorem m_247 (d : Nat) : eC e_247 (d + 2) := eC_ok (e := e_247) (L := L_247) (cs := cs_247) (n := 2000) (d := d + 1) (A := A_247) (μ := mu_247) (tp := true) (p0 := p_247_s) rfl ⟨m_246 d, trivial⟩ rfl (.inr pre0_ok) (by decide +kernel) (fun _ => post0_ok) r_247_s (allC c_247_s_0 allN) allN
/- MixStageModel.oldOf (III)I -/
noncomputable def s_248 : vM := ([(3, 12, 285, 0), (0, 0, 5, 0), (0, -1, 59, 0), (0, 0, 2147483647, 0)], (0, -1, 59, 0), 0, 0, [])
noncomputable def e_248 : vE := (248, s_248, pre0, post0)
noncomputable def L_248 : List vE := []
def cs_248 : List vC := [(6, [(0, (3, 12, 285, 0)), (1, (0, 0, 5, 0)), (2, (0, -1, 59, 0)), (3, (0, 0, 2147483647, 0)), (4, (0, -1, 59, 0)), (5, (0, 0, 5, 0))])]
def Ab_248_6 (a0 a1 a2 a3 x0 x1 x2 x3 x4 x5 : Int) (h0 h : gH) : Prop := x1 = a1 ∧ x2 = a2 ∧ x3 = a3 ∧ 0 ≤ x5
def mub_248_6 (a0 a1 a2 a3 x0 x1 x2 x3 x4 x5 : Int) (h0 h : gH) : Nat := (x5 + 2147483648).toNat
def A_248 : Int → List Int → gH → gH → Prop := fun c xs h0 h => match c.toNat with
  | 6 => (match xs with
    | [a0, a1, a2, a3, x0, x1, x2, x3, x4, x5] => Ab_248_6 a0 a1 a2 a3 x0 x1 x2 x3 x4 x5 h0 h
    | _ => False)
  | _ => True
def mu_248 : Int → List Int → gH → gH → Nat := fun c xs h0 h => match c.toNat with
  | 6 => (match xs with
    | [a0, a1, a2, a3, x0, x1, x2, x3, x4, x5] => mub_248_6 a0 a1 a2 a3 x0 x1 x2 x3 x4 x5 h0 h
    | _ => 0)
  | _ => 0
theorem q_248_0 {n0 n1 n2 n3 : Int} {H0 : gH} (f0 : n0 ≤ 2147483647) (f1 : 0 ≤ n0) (f2 : n1 ≤ 59) (f3 : (-1) ≤ n1) (f4 : n2 ≤ 5) (f5 : 0 ≤ n2) (f6 : n3 = 285) (f7 : hWt T0 H0 ∧ True) : Ab_248_6 n3 n2 n1 n0 n3 n2 n1 n0 n1 n2 H0 H0 ∧ ∀ q, none = some q → mub_248_6 n3 n2 n1 n0 n3 n2 n1 n0 n1 n2 H0 H0 < q := by
  unfold Ab_248_6
  refine ⟨?_, fun q hq => ?_⟩
  · refine ⟨?_, ?_, ?_, ?_⟩ <;> first | assumption | omega | trivial
  · exact nomatch hq
theorem c_248_s_0 : vOkm T0 (eP e_248 L_248 A_248 mu_248 none) 4 ([(6000, [0, 1, 2, 3], [0], 0), (0, [0], [], 285), (90, [1], [], 0), (91, [1], [], 5), (90, [2], [], -1), (91, [2], [], 59), (90, [3], [], 0), (91, [3], [], 2147483647)], (4000, [0, 1, 2, 3, 2, 1], [0], 6)) := vOk_inI fun ρ η f0 f1 f2 f3 f4 f5 f6 f7 => q_248_0 (n0 := ρ 3) (n1 := ρ 2) (n2 := ρ 1) (n3 := ρ 0) (H0 := η 0) f7 f6 f5 f4 f3 f2 f1 f0
def p_248_s : List vG := [([(6000, [0, 1, 2, 3], [0], 0), (0, [0], [], 285), (90, [1], [], 0), (91, [1], [], 5), (90, [2], [], -1), (91, [2], [], 59), (90, [3], [], 0), (91, [3], [], 2147483647)], (4000, [0, 1, 2, 3, 2, 1], [0], 6))]
theorem r_248_s : vCovO true (eR0 e_248 L_248 cs_248 2000) p_248_s = true := by decide +kernel
theorem q_248_1 {q0 : Nat} {n0 n1 n2 n3 n4 n5 n6 n7 n8 n9 n10 n11 n12 n13 : Int} {H0 H1 : gH} (f0 : n0 ≤ 5) (f1 : 0 ≤ n0) (f2 : n1 ≤ 59) (f3 : (-1) ≤ n1) (f4 : n2 ≤ 2147483647) (f5 : 0 ≤ n2) (f6 : n3 ≤ 59) (f7 : (-1) ≤ n3) (f8 : n4 ≤ 5) (f9 : 0 ≤ n4) (f10 : n5 = 285) (f11 : n6 ≤ 2147483647) (f12 : 0 ≤ n6) (f13 : n7 ≤ 59) (f14 : (-1) ≤ n7) (f15 : n8 ≤ 5) (f16 : 0 ≤ n8) (f17 : n9 = 285) (f18 : (hLe T0 H0 H1 ∧ hFr s_248.2.2.2.2 H0 H1 ∧ hWt T0 H1) ∧ (Ab_248_6 n9 n8 n7 n6 n5 n4 n3 n2 n1 n0 H0 H1 ∧ True) ∧ some q0 = some (mub_248_6 n9 n8 n7 n6 n5 n4 n3 n2 n1 n0 H0 H1)) (f19 : n2 < n0) (f20 : n10 = (-1)) (f21 : n1 ≠ n10) (f22 : n11 = 60) (f23 : n12 = w32 (n11 * n0)) (f24 : n13 = w32 (n12 + n1)) : 0 ≤ n13 ∧ n13 < 360 := by
  have g4 := f18.2.1.1
  unfold Ab_248_6 at g4
  have k0 := g4.1
  have k1 := g4.2.1
  have k2 := g4.2.2.1
  have y0 := g4.2.2.2
  clear g4
  rw [f22] at f23
  first
  | (have ix0 : n12 = 60 * n0 := Eq.trans f23 (w32_iv (Iml 60 rfl (Iat f1 f0)) (by decide)); subst ix0; clear f23)
  | (have ix0 : n12 = 60 * n0 := Eq.trans f23 (w32_id (by omega) (by omega)); subst ix0; clear f23)
  | (unfold w32 at f23; have ix0 : n12 = 60 * n0 := (by omega); subst ix0)
  | skip
  first
  | (have ix1 : n13 = (60 * n0) + n1 := Eq.trans f24 (w32_iv (Iad (Iml 60 rfl (Iat f1 f0)) (Iat f3 f2)) (by decide)); subst ix1; clear f24)
  | (have ix1 : n13 = (60 * n0) + n1 := Eq.trans f24 (w32_id (by omega) (by omega)); subst ix1; clear f24)
  | (unfold w32 at f24; have ix1 : n13 = (60 * n0) + n1 := (by omega); subst ix1)
  | skip
  try unfold w32 at f23
  try unfold w32 at f24
  omega
theorem c_248_6_0 {q0 : Nat} : vOkm T0 (eP e_248 L_248 A_248 mu_248 (some q0)) 4 ([(1, [14, 13, 8], [], 0), (3, [13, 12, 9], [], 0), (0, [12], [], 60), (41, [8, 10], [], 0), (0, [10], [], -1), (44, [9, 7], [], 0), (5000, [0, 1, 2, 3, 4, 5, 6, 7, 8, 9], [0, 1], 6), (0, [0], [], 285), (90, [1], [], 0), (91, [1], [], 5), (90, [2], [], -1), (91, [2], [], 59), (90, [3], [], 0), (91, [3], [], 2147483647), (0, [4], [], 285), (90, [5], [], 0), (91, [5], [], 5), (90, [6], [], -1), (91, [6], [], 59), (90, [7], [], 0), (91, [7], [], 2147483647), (90, [8], [], -1), (91, [8], [], 59), (90, [9], [], 0), (91, [9], [], 5)], (70, [14], [], 360)) := vOk_inI fun ρ η f0 f1 f2 f3 f4 f5 f6 f7 f8 f9 f10 f11 f12 f13 f14 f15 f16 f17 f18 f19 f20 f21 f22 f23 f24 => q_248_1 (q0 := q0) (n0 := ρ 9) (n1 := ρ 8) (n2 := ρ 7) (n3 := ρ 6) (n4 := ρ 5) (n5 := ρ 4) (n6 := ρ 3) (n7 := ρ 2) (n8 := ρ 1) (n9 := ρ 0) (n10 := ρ 10) (n11 := ρ 12) (n12 := ρ 13) (n13 := ρ 14) (H0 := η 0) (H1 := η 1) f24 f23 f22 f21 f20 f19 f18 f17 f16 f15 f14 f13 f12 f11 f10 f9 f8 f7 f6 f5 f4 f3 f2 f1 f0
theorem q_248_2 {q0 : Nat} {n0 n1 n2 n3 n4 n5 n6 n7 n8 n9 n10 n11 n12 n13 n14 : Int} {H0 H1 : gH} (f0 : n0 ≤ 5) (f1 : 0 ≤ n0) (f2 : n1 ≤ 59) (f3 : (-1) ≤ n1) (f4 : n2 ≤ 2147483647) (f5 : 0 ≤ n2) (f6 : n3 ≤ 59) (f7 : (-1) ≤ n3) (f8 : n4 ≤ 5) (f9 : 0 ≤ n4) (f10 : n5 = 285) (f11 : n6 ≤ 2147483647) (f12 : 0 ≤ n6) (f13 : n7 ≤ 59) (f14 : (-1) ≤ n7) (f15 : n8 ≤ 5) (f16 : 0 ≤ n8) (f17 : n9 = 285) (f18 : (hLe T0 H0 H1 ∧ hFr s_248.2.2.2.2 H0 H1 ∧ hWt T0 H1) ∧ (Ab_248_6 n9 n8 n7 n6 n5 n4 n3 n2 n1 n0 H0 H1 ∧ True) ∧ some q0 = some (mub_248_6 n9 n8 n7 n6 n5 n4 n3 n2 n1 n0 H0 H1)) (f19 : n2 < n0) (f20 : n10 = (-1)) (f21 : n1 ≠ n10) (f22 : n11 = 60) (f23 : n12 = w32 (n11 * n0)) (f24 : n13 = w32 (n12 + n1)) (f25 : n14 = w32 (n0 + (-1))) : 0 ≤ n14 := by
  have g4 := f18.2.1.1
  unfold Ab_248_6 at g4
  have k0 := g4.1
  have k1 := g4.2.1
  have k2 := g4.2.2.1
  have y0 := g4.2.2.2
  clear g4
  rw [f22] at f23
  first
  | (have ix0 : n14 = n0 + -1 := Eq.trans f25 (w32_iv (Iad (Iat f1 f0) (IC (-1))) (by decide)); subst ix0; clear f25)
  | (have ix0 : n14 = n0 + -1 := Eq.trans f25 (w32_id (by omega) (by omega)); subst ix0; clear f25)
  | (unfold w32 at f25; have ix0 : n14 = n0 + -1 := (by omega); subst ix0)
  | skip
  try unfold w32 at f23
  try unfold w32 at f24
  try unfold w32 at f25
  omega
theorem c_248_6_1 {q0 : Nat} : vOkm T0 (eP e_248 L_248 A_248 mu_248 (some q0)) 4 ([(10, [16, 9], [], -1), (1, [14, 13, 8], [], 0), (3, [13, 12, 9], [], 0), (0, [12], [], 60), (41, [8, 10], [], 0), (0, [10], [], -1), (44, [9, 7], [], 0), (5000, [0, 1, 2, 3, 4, 5, 6, 7, 8, 9], [0, 1], 6), (0, [0], [], 285), (90, [1], [], 0), (91, [1], [], 5), (90, [2], [], -1), (91, [2], [], 59), (90, [3], [], 0), (91, [3], [], 2147483647), (0, [4], [], 285), (90, [5], [], 0), (91, [5], [], 5), (90, [6], [], -1), (91, [6], [], 59), (90, [7], [], 0), (91, [7], [], 2147483647), (90, [8], [], -1), (91, [8], [], 59), (90, [9], [], 0), (91, [9], [], 5)], (90, [16], [], 0)) := vOk_inI fun ρ η f0 f1 f2 f3 f4 f5 f6 f7 f8 f9 f10 f11 f12 f13 f14 f15 f16 f17 f18 f19 f20 f21 f22 f23 f24 f25 => q_248_2 (q0 := q0) (n0 := ρ 9) (n1 := ρ 8) (n2 := ρ 7) (n3 := ρ 6) (n4 := ρ 5) (n5 := ρ 4) (n6 := ρ 3) (n7 := ρ 2) (n8 := ρ 1) (n9 := ρ 0) (n10 := ρ 10) (n11 := ρ 12) (n12 := ρ 13) (n13 := ρ 14) (n14 := ρ 16) (H0 := η 0) (H1 := η 1) f25 f24 f23 f22 f21 f20 f19 f18 f17 f16 f15 f14 f13 f12 f11 f10 f9 f8 f7 f6 f5 f4 f3 f2 f1 f0
theorem q_248_3 {q0 : Nat} {n0 n1 n2 n3 n4 n5 n6 n7 n8 n9 n10 n11 n12 n13 n14 : Int} {H0 H1 : gH} (f0 : n0 ≤ 5) (f1 : 0 ≤ n0) (f2 : n1 ≤ 59) (f3 : (-1) ≤ n1) (f4 : n2 ≤ 2147483647) (f5 : 0 ≤ n2) (f6 : n3 ≤ 59) (f7 : (-1) ≤ n3) (f8 : n4 ≤ 5) (f9 : 0 ≤ n4) (f10 : n5 = 285) (f11 : n6 ≤ 2147483647) (f12 : 0 ≤ n6) (f13 : n7 ≤ 59) (f14 : (-1) ≤ n7) (f15 : n8 ≤ 5) (f16 : 0 ≤ n8) (f17 : n9 = 285) (f18 : (hLe T0 H0 H1 ∧ hFr s_248.2.2.2.2 H0 H1 ∧ hWt T0 H1) ∧ (Ab_248_6 n9 n8 n7 n6 n5 n4 n3 n2 n1 n0 H0 H1 ∧ True) ∧ some q0 = some (mub_248_6 n9 n8 n7 n6 n5 n4 n3 n2 n1 n0 H0 H1)) (f19 : n2 < n0) (f20 : n10 = (-1)) (f21 : n1 ≠ n10) (f22 : n11 = 60) (f23 : n12 = w32 (n11 * n0)) (f24 : n13 = w32 (n12 + n1)) (f25 : n14 = w32 (n0 + (-1))) : n14 ≤ 5 := by
  have g4 := f18.2.1.1
  unfold Ab_248_6 at g4
  have k0 := g4.1
  have k1 := g4.2.1
  have k2 := g4.2.2.1
  have y0 := g4.2.2.2
  clear g4
  rw [f22] at f23
  first
  | (have ix0 : n14 = n0 + -1 := Eq.trans f25 (w32_iv (Iad (Iat f1 f0) (IC (-1))) (by decide)); subst ix0; clear f25)
  | (have ix0 : n14 = n0 + -1 := Eq.trans f25 (w32_id (by omega) (by omega)); subst ix0; clear f25)
  | (unfold w32 at f25; have ix0 : n14 = n0 + -1 := (by omega); subst ix0)
  | skip
  try unfold w32 at f23
  try unfold w32 at f24
  try unfold w32 at f25
  omega
theorem c_248_6_2 {q0 : Nat} : vOkm T0 (eP e_248 L_248 A_248 mu_248 (some q0)) 4 ([(10, [16, 9], [], -1), (1, [14, 13, 8], [], 0), (3, [13, 12, 9], [], 0), (0, [12], [], 60), (41, [8, 10], [], 0), (0, [10], [], -1), (44, [9, 7], [], 0), (5000, [0, 1, 2, 3, 4, 5, 6, 7, 8, 9], [0, 1], 6), (0, [0], [], 285), (90, [1], [], 0), (91, [1], [], 5), (90, [2], [], -1), (91, [2], [], 59), (90, [3], [], 0), (91, [3], [], 2147483647), (0, [4], [], 285), (90, [5], [], 0), (91, [5], [], 5), (90, [6], [], -1), (91, [6], [], 59), (90, [7], [], 0), (91, [7], [], 2147483647), (90, [8], [], -1), (91, [8], [], 59), (90, [9], [], 0), (91, [9], [], 5)], (91, [16], [], 5)) := vOk_inI fun ρ η f0 f1 f2 f3 f4 f5 f6 f7 f8 f9 f10 f11 f12 f13 f14 f15 f16 f17 f18 f19 f20 f21 f22 f23 f24 f25 => q_248_3 (q0 := q0) (n0 := ρ 9) (n1 := ρ 8) (n2 := ρ 7) (n3 := ρ 6) (n4 := ρ 5) (n5 := ρ 4) (n6 := ρ 3) (n7 := ρ 2) (n8 := ρ 1) (n9 := ρ 0) (n10 := ρ 10) (n11 := ρ 12) (n12 := ρ 13) (n13 := ρ 14) (n14 := ρ 16) (H0 := η 0) (H1 := η 1) f25 f24 f23 f22 f21 f20 f19 f18 f17 f16 f15 f14 f13 f12 f11 f10 f9 f8 f7 f6 f5 f4 f3 f2 f1 f0
theorem kR_248_327 : vFreeR s_248.2.2.2.2 327 = true := by decide +kernel
theorem q_248_4 {q0 : Nat} {n0 n1 n2 n3 n4 n5 n6 n7 n8 n9 n10 n11 n12 n13 n14 n15 n16 : Int} {H0 H1 : gH} (f0 : n0 ≤ 5) (f1 : 0 ≤ n0) (f2 : n1 ≤ 59) (f3 : (-1) ≤ n1) (f4 : n2 ≤ 2147483647) (f5 : 0 ≤ n2) (f6 : n3 ≤ 59) (f7 : (-1) ≤ n3) (f8 : n4 ≤ 5) (f9 : 0 ≤ n4) (f10 : n5 = 285) (f11 : n6 ≤ 2147483647) (f12 : 0 ≤ n6) (f13 : n7 ≤ 59) (f14 : (-1) ≤ n7) (f15 : n8 ≤ 5) (f16 : 0 ≤ n8) (f17 : n9 = 285) (f18 : (hLe T0 H0 H1 ∧ hFr s_248.2.2.2.2 H0 H1 ∧ hWt T0 H1) ∧ (Ab_248_6 n9 n8 n7 n6 n5 n4 n3 n2 n1 n0 H0 H1 ∧ True) ∧ some q0 = some (mub_248_6 n9 n8 n7 n6 n5 n4 n3 n2 n1 n0 H0 H1)) (f19 : n2 < n0) (f20 : n10 = (-1)) (f21 : n1 ≠ n10) (f22 : n11 = 327) (f23 : n11 = hV H1 (n5).toNat 63) (f24 : n12 = 60) (f25 : n13 = w32 (n12 * n0)) (f26 : n14 = w32 (n13 + n1)) (f27 : n15 ≤ 59) (f28 : (-1) ≤ n15) (f29 : n15 = hV H1 (n11).toNat (n14).toNat) (f30 : n16 = w32 (n0 + (-1))) : Ab_248_6 n9 n8 n7 n6 n5 n4 n3 n2 n15 n16 H0 H1 ∧ ∀ q, some q0 = some q → mub_248_6 n9 n8 n7 n6 n5 n4 n3 n2 n15 n16 H0 H1 < q := by
  have g4 := f18.2.1.1
  unfold Ab_248_6 at g4
  have g5 := Option.some.inj f18.2.2
  unfold mub_248_6 at g5
  unfold Ab_248_6
  unfold mub_248_6
  have e1 : n15 = hV H0 327 (n14).toNat := (by rw [f22] at f29; exact f29 : n15 = hV H1 327 (n14).toNat).trans ((congrFun (fRow f18.1.2.1 327 kR_248_327) _))
  have k0 := g4.1
  have k1 := g4.2.1
  have k2 := g4.2.2.1
  have y0 := g4.2.2.2
  clear g4
  clear f23 f29
  subst e1
  rw [f24] at f25
  first
  | (have ix0 : n13 = 60 * n0 := Eq.trans f25 (w32_iv (Iml 60 rfl (Iat f1 f0)) (by decide)); subst ix0; clear f25)
  | (have ix0 : n13 = 60 * n0 := Eq.trans f25 (w32_id (by omega) (by omega)); subst ix0; clear f25)
  | (unfold w32 at f25; have ix0 : n13 = 60 * n0 := (by omega); subst ix0)
  | skip
  first
  | (have ix1 : n14 = (60 * n0) + n1 := Eq.trans f26 (w32_iv (Iad (Iml 60 rfl (Iat f1 f0)) (Iat f3 f2)) (by decide)); subst ix1; clear f26)
  | (have ix1 : n14 = (60 * n0) + n1 := Eq.trans f26 (w32_id (by omega) (by omega)); subst ix1; clear f26)
  | (unfold w32 at f26; have ix1 : n14 = (60 * n0) + n1 := (by omega); subst ix1)
  | skip
  first
  | (have ix2 : n16 = n0 + -1 := Eq.trans f30 (w32_iv (Iad (Iat f1 f0) (IC (-1))) (by decide)); subst ix2; clear f30)
  | (have ix2 : n16 = n0 + -1 := Eq.trans f30 (w32_id (by omega) (by omega)); subst ix2; clear f30)
  | (unfold w32 at f30; have ix2 : n16 = n0 + -1 := (by omega); subst ix2)
  | skip
  try unfold w32 at f25
  try unfold w32 at f26
  try unfold w32 at f30
  refine ⟨?_, fun q hq => ?_⟩
  · refine ⟨?_, ?_, ?_, ?_⟩ <;> first | assumption | omega | trivial
  · have g6 := Option.some.inj hq
    subst g6
    omega
theorem c_248_6_3 {q0 : Nat} : vOkm T0 (eP e_248 L_248 A_248 mu_248 (some q0)) 4 ([(10, [16, 9], [], -1), (22, [15, 11, 14], [1], 0), (90, [15], [], -1), (91, [15], [], 59), (1, [14, 13, 8], [], 0), (3, [13, 12, 9], [], 0), (0, [12], [], 60), (20, [11, 4], [1], 63), (0, [11], [], 327), (41, [8, 10], [], 0), (0, [10], [], -1), (44, [9, 7], [], 0), (5000, [0, 1, 2, 3, 4, 5, 6, 7, 8, 9], [0, 1], 6), (0, [0], [], 285), (90, [1], [], 0), (91, [1], [], 5), (90, [2], [], -1), (91, [2], [], 59), (90, [3], [], 0), (91, [3], [], 2147483647), (0, [4], [], 285), (90, [5], [], 0), (91, [5], [], 5), (90, [6], [], -1), (91, [6], [], 59), (90, [7], [], 0), (91, [7], [], 2147483647), (90, [8], [], -1), (91, [8], [], 59), (90, [9], [], 0), (91, [9], [], 5)], (4000, [4, 5, 6, 7, 15, 16], [1], 6)) := vOk_inI fun ρ η f0 f1 f2 f3 f4 f5 f6 f7 f8 f9 f10 f11 f12 f13 f14 f15 f16 f17 f18 f19 f20 f21 f22 f23 f24 f25 f26 f27 f28 f29 f30 => q_248_4 (q0 := q0) (n0 := ρ 9) (n1 := ρ 8) (n2 := ρ 7) (n3 := ρ 6) (n4 := ρ 5) (n5 := ρ 4) (n6 := ρ 3) (n7 := ρ 2) (n8 := ρ 1) (n9 := ρ 0) (n10 := ρ 10) (n11 := ρ 11) (n12 := ρ 12) (n13 := ρ 13) (n14 := ρ 14) (n15 := ρ 15) (n16 := ρ 16) (H0 := η 0) (H1 := η 1) f30 f29 f28 f27 f26 f25 f24 f23 f22 f21 f20 f19 f18 f17 f16 f15 f14 f13 f12 f11 f10 f9 f8 f7 f6 f5 f4 f3 f2 f1 f0
def p_248_6 : List vG := [([(1, [14, 13, 8], [], 0), (3, [13, 12, 9], [], 0), (0, [12], [], 60), (41, [8, 10], [], 0), (0, [10], [], -1), (44, [9, 7], [], 0), (5000, [0, 1, 2, 3, 4, 5, 6, 7, 8, 9], [0, 1], 6), (0, [0], [], 285), (90, [1], [], 0), (91, [1], [], 5), (90, [2], [], -1), (91, [2], [], 59), (90, [3], [], 0), (91, [3], [], 2147483647), (0, [4], [], 285), (90, [5], [], 0), (91, [5], [], 5), (90, [6], [], -1), (91, [6], [], 59), (90, [7], [], 0), (91, [7], [], 2147483647), (90, [8], [], -1), (91, [8], [], 59), (90, [9], [], 0), (91, [9], [], 5)], (70, [14], [], 360)),
  ([(10, [16, 9], [], -1), (1, [14, 13, 8], [], 0), (3, [13, 12, 9], [], 0), (0, [12], [], 60), (41, [8, 10], [], 0), (0, [10], [], -1), (44, [9, 7], [], 0), (5000, [0, 1, 2, 3, 4, 5, 6, 7, 8, 9], [0, 1], 6), (0, [0], [], 285), (90, [1], [], 0), (91, [1], [], 5), (90, [2], [], -1), (91, [2], [], 59), (90, [3], [], 0), (91, [3], [], 2147483647), (0, [4], [], 285), (90, [5], [], 0), (91, [5], [], 5), (90, [6], [], -1), (91, [6], [], 59), (90, [7], [], 0), (91, [7], [], 2147483647), (90, [8], [], -1), (91, [8], [], 59), (90, [9], [], 0), (91, [9], [], 5)], (90, [16], [], 0)),
  ([(10, [16, 9], [], -1), (1, [14, 13, 8], [], 0), (3, [13, 12, 9], [], 0), (0, [12], [], 60), (41, [8, 10], [], 0), (0, [10], [], -1), (44, [9, 7], [], 0), (5000, [0, 1, 2, 3, 4, 5, 6, 7, 8, 9], [0, 1], 6), (0, [0], [], 285), (90, [1], [], 0), (91, [1], [], 5), (90, [2], [], -1), (91, [2], [], 59), (90, [3], [], 0), (91, [3], [], 2147483647), (0, [4], [], 285), (90, [5], [], 0), (91, [5], [], 5), (90, [6], [], -1), (91, [6], [], 59), (90, [7], [], 0), (91, [7], [], 2147483647), (90, [8], [], -1), (91, [8], [], 59), (90, [9], [], 0), (91, [9], [], 5)], (91, [16], [], 5)),
  ([(10, [16, 9], [], -1), (22, [15, 11, 14], [1], 0), (90, [15], [], -1), (91, [15], [], 59), (1, [14, 13, 8], [], 0), (3, [13, 12, 9], [], 0), (0, [12], [], 60), (20, [11, 4], [1], 63), (0, [11], [], 327), (41, [8, 10], [], 0), (0, [10], [], -1), (44, [9, 7], [], 0), (5000, [0, 1, 2, 3, 4, 5, 6, 7, 8, 9], [0, 1], 6), (0, [0], [], 285), (90, [1], [], 0), (91, [1], [], 5), (90, [2], [], -1), (91, [2], [], 59), (90, [3], [], 0), (91, [3], [], 2147483647), (0, [4], [], 285), (90, [5], [], 0), (91, [5], [], 5), (90, [6], [], -1), (91, [6], [], 59), (90, [7], [], 0), (91, [7], [], 2147483647), (90, [8], [], -1), (91, [8], [], 59), (90, [9], [], 0), (91, [9], [], 5)], (4000, [4, 5, 6, 7, 15, 16], [1], 6))]
theorem r_248_6 : vCovO true (eRc e_248 L_248 cs_248 2000 (6, [(0, (3, 12, 285, 0)), (1, (0, 0, 5, 0)), (2, (0, -1, 59, 0)), (3, (0, 0, 2147483647, 0)), (4, (0, -1, 59, 0)), (5, (0, 0, 5, 0))])) p_248_6 = true := by decide +kernel
theorem m_248 (d : Nat) : eC e_248 (d + 1) := eC_ok (e := e_248) (L := L_248) (cs := cs_248) (n := 2000) (d := d + 0) (A := A_248) (μ := mu_248) (tp := true) (p0 := p_248_s) rfl trivial rfl (.inr pre0_ok) (by decide +kernel) (fun _ => post0_ok) r_248_s (allC c_248_s_0 allN) (allC (.inl ⟨p_248_6, r_248_6, fun q0 => (allC c_248_6_0 (allC c_248_6_1 (allC c_248_6_2 (allC c_248_6_3 allN))))⟩) allN)
/- MixStageModel.old (III)I -/
noncomputable def s_249 : vM := ([(3, 12, 285, 0), (0, -2147483648, 2147483647, 0), (0, -2147483648, 2147483647, 0), (0, -2147483648, 2147483647, 0)], (0, -2147483648, 2147483647, 0), 0, 0, [])
noncomputable def e_249 : vE := (249, s_249, pre0, post0)
noncomputable def L_249 : List vE := [e_246, e_248]
def cs_249 : List vC := []
def A_249 : Int → List Int → gH → gH → Prop := fun c xs h0 h => True
def mu_249 : Int → List Int → gH → gH → Nat := fun c xs h0 h => 0
theorem q_249_0 {n0 n1 n2 n3 n4 : Int} {H0 H1 : gH} (f0 : n0 ≤ 2147483647) (f1 : (-2147483648) ≤ n0) (f2 : n1 ≤ 2147483647) (f3 : (-2147483648) ≤ n1) (f4 : n2 ≤ 2147483647) (f5 : (-2147483648) ≤ n2) (f6 : n3 = 285) (f7 : hWt T0 H0 ∧ True) (f8 : n4 ≤ 1) (f9 : 0 ≤ n4) (f10 : (hLe T0 H0 H1 ∧ hFr s_246.2.2.2.2 H0 H1 ∧ ((0 : Int) = 0 → H1.length = H0.length) ∧ hWt T0 H1) ∧ postb_246 n4 n3 n2 H0 H1) (f11 : n4 ≠ 0) (f12 : 0 ≤ n0) (f13 : n0 ≤ n2) (f14 : 0 ≤ n1) : 0 ≤ n2 ∧ n2 < 6 := by
  unfold postb_246 at f10
  have e1 : hV H1 285 60 = hV H0 285 60 := (f10.1.2.1.1 285 60 kF_246_285_60)
  have e2 : (1 : Int) ≤ hV H0 285 60 ∧ hV H0 285 60 ≤ 6 := bTo e1 (f10.1.2.2.2 285 60 _ _ kW_285_60)
  try simp only [e1] at f10
  have r0_0 := f10.2
  clear e1
  omega
theorem c_249_s_0 : vOkm T0 (eP e_249 L_249 A_249 mu_249 none) 4 ([(33, [2], [], 0), (45, [3, 1], [], 0), (33, [3], [], 0), (31, [4], [], 0), (1246, [4, 0, 1], [0, 1], 0), (90, [4], [], 0), (91, [4], [], 1), (6000, [0, 1, 2, 3], [0], 0), (0, [0], [], 285), (90, [1], [], -2147483648), (91, [1], [], 2147483647), (90, [2], [], -2147483648), (91, [2], [], 2147483647), (90, [3], [], -2147483648), (91, [3], [], 2147483647)], (70, [1], [], 6)) := vOk_inI fun ρ η f0 f1 f2 f3 f4 f5 f6 f7 f8 f9 f10 f11 f12 f13 f14 => q_249_0 (n0 := ρ 3) (n1 := ρ 2) (n2 := ρ 1) (n3 := ρ 0) (n4 := ρ 4) (H0 := η 0) (H1 := η 1) f14 f13 f12 f11 f10 f9 f8 f7 f6 f5 f4 f3 f2 f1 f0
theorem kR_246_325 : vFreeR s_246.2.2.2.2 325 = true := by decide +kernel
theorem q_249_1 {n0 n1 n2 n3 n4 n5 n6 : Int} {H0 H1 : gH} (f0 : n0 ≤ 2147483647) (f1 : (-2147483648) ≤ n0) (f2 : n1 ≤ 2147483647) (f3 : (-2147483648) ≤ n1) (f4 : n2 ≤ 2147483647) (f5 : (-2147483648) ≤ n2) (f6 : n3 = 285) (f7 : hWt T0 H0 ∧ True) (f8 : n4 ≤ 1) (f9 : 0 ≤ n4) (f10 : (hLe T0 H0 H1 ∧ hFr s_246.2.2.2.2 H0 H1 ∧ ((0 : Int) = 0 → H1.length = H0.length) ∧ hWt T0 H1) ∧ postb_246 n4 n3 n2 H0 H1) (f11 : n4 ≠ 0) (f12 : 0 ≤ n0) (f13 : n0 ≤ n2) (f14 : 0 ≤ n1) (f15 : n5 = 325) (f16 : n5 = hV H1 (n3).toNat 61) (f17 : n6 ≤ 60) (f18 : 0 ≤ n6) (f19 : n6 = hV H1 (n5).toNat (n2).toNat) (f20 : n1 < n6) : 0 ≤ n2 := by
  unfold postb_246 at f10
  have e1 : n6 = hV H0 325 (n2).toNat := (by rw [f15] at f19; exact f19 : n6 = hV H1 325 (n2).toNat).trans ((congrFun (fRow f10.1.2.1 325 kR_246_325) _))
  have e3 : hV H1 285 60 = hV H0 285 60 := (f10.1.2.1.1 285 60 kF_246_285_60)
  have e4 : (1 : Int) ≤ hV H0 285 60 ∧ hV H0 285 60 ≤ 6 := bTo e3 (f10.1.2.2.2 285 60 _ _ kW_285_60)
  try simp only [e3] at f10
  have r0_0 := f10.2
  clear f16 f19 e3
  subst e1
  omega
theorem c_249_s_1 : vOkm T0 (eP e_249 L_249 A_249 mu_249 none) 4 ([(42, [2, 6], [], 0), (22, [6, 5, 1], [1], 0), (90, [6], [], 0), (91, [6], [], 60), (20, [5, 0], [1], 61), (0, [5], [], 325), (33, [2], [], 0), (45, [3, 1], [], 0), (33, [3], [], 0), (31, [4], [], 0), (1246, [4, 0, 1], [0, 1], 0), (90, [4], [], 0), (91, [4], [], 1), (6000, [0, 1, 2, 3], [0], 0), (0, [0], [], 285), (90, [1], [], -2147483648), (91, [1], [], 2147483647), (90, [2], [], -2147483648), (91, [2], [], 2147483647), (90, [3], [], -2147483648), (91, [3], [], 2147483647)], (90, [1], [], 0)) := vOk_inI fun ρ η f0 f1 f2 f3 f4 f5 f6 f7 f8 f9 f10 f11 f12 f13 f14 f15 f16 f17 f18 f19 f20 => q_249_1 (n0 := ρ 3) (n1 := ρ 2) (n2 := ρ 1) (n3 := ρ 0) (n4 := ρ 4) (n5 := ρ 5) (n6 := ρ 6) (H0 := η 0) (H1 := η 1) f20 f19 f18 f17 f16 f15 f14 f13 f12 f11 f10 f9 f8 f7 f6 f5 f4 f3 f2 f1 f0
theorem q_249_2 {n0 n1 n2 n3 n4 n5 n6 : Int} {H0 H1 : gH} (f0 : n0 ≤ 2147483647) (f1 : (-2147483648) ≤ n0) (f2 : n1 ≤ 2147483647) (f3 : (-2147483648) ≤ n1) (f4 : n2 ≤ 2147483647) (f5 : (-2147483648) ≤ n2) (f6 : n3 = 285) (f7 : hWt T0 H0 ∧ True) (f8 : n4 ≤ 1) (f9 : 0 ≤ n4) (f10 : (hLe T0 H0 H1 ∧ hFr s_246.2.2.2.2 H0 H1 ∧ ((0 : Int) = 0 → H1.length = H0.length) ∧ hWt T0 H1) ∧ postb_246 n4 n3 n2 H0 H1) (f11 : n4 ≠ 0) (f12 : 0 ≤ n0) (f13 : n0 ≤ n2) (f14 : 0 ≤ n1) (f15 : n5 = 325) (f16 : n5 = hV H1 (n3).toNat 61) (f17 : n6 ≤ 60) (f18 : 0 ≤ n6) (f19 : n6 = hV H1 (n5).toNat (n2).toNat) (f20 : n1 < n6) : n2 ≤ 5 := by
  unfold postb_246 at f10
  have e1 : n6 = hV H0 325 (n2).toNat := (by rw [f15] at f19; exact f19 : n6 = hV H1 325 (n2).toNat).trans ((congrFun (fRow f10.1.2.1 325 kR_246_325) _))
  have e3 : hV H1 285 60 = hV H0 285 60 := (f10.1.2.1.1 285 60 kF_246_285_60)
  have e4 : (1 : Int) ≤ hV H0 285 60 ∧ hV H0 285 60 ≤ 6 := bTo e3 (f10.1.2.2.2 285 60 _ _ kW_285_60)
  try simp only [e3] at f10
  have r0_0 := f10.2
  clear f16 f19 e3
  subst e1
  omega
theorem c_249_s_2 : vOkm T0 (eP e_249 L_249 A_249 mu_249 none) 4 ([(42, [2, 6], [], 0), (22, [6, 5, 1], [1], 0), (90, [6], [], 0), (91, [6], [], 60), (20, [5, 0], [1], 61), (0, [5], [], 325), (33, [2], [], 0), (45, [3, 1], [], 0), (33, [3], [], 0), (31, [4], [], 0), (1246, [4, 0, 1], [0, 1], 0), (90, [4], [], 0), (91, [4], [], 1), (6000, [0, 1, 2, 3], [0], 0), (0, [0], [], 285), (90, [1], [], -2147483648), (91, [1], [], 2147483647), (90, [2], [], -2147483648), (91, [2], [], 2147483647), (90, [3], [], -2147483648), (91, [3], [], 2147483647)], (91, [1], [], 5)) := vOk_inI fun ρ η f0 f1 f2 f3 f4 f5 f6 f7 f8 f9 f10 f11 f12 f13 f14 f15 f16 f17 f18 f19 f20 => q_249_2 (n0 := ρ 3) (n1 := ρ 2) (n2 := ρ 1) (n3 := ρ 0) (n4 := ρ 4) (n5 := ρ 5) (n6 := ρ 6) (H0 := η 0) (H1 := η 1) f20 f19 f18 f17 f16 f15 f14 f13 f12 f11 f10 f9 f8 f7 f6 f5 f4 f3 f2 f1 f0
theorem q_249_3 {n0 n1 n2 n3 n4 n5 n6 : Int} {H0 H1 : gH} (f0 : n0 ≤ 2147483647) (f1 : (-2147483648) ≤ n0) (f2 : n1 ≤ 2147483647) (f3 : (-2147483648) ≤ n1) (f4 : n2 ≤ 2147483647) (f5 : (-2147483648) ≤ n2) (f6 : n3 = 285) (f7 : hWt T0 H0 ∧ True) (f8 : n4 ≤ 1) (f9 : 0 ≤ n4) (f10 : (hLe T0 H0 H1 ∧ hFr s_246.2.2.2.2 H0 H1 ∧ ((0 : Int) = 0 → H1.length = H0.length) ∧ hWt T0 H1) ∧ postb_246 n4 n3 n2 H0 H1) (f11 : n4 ≠ 0) (f12 : 0 ≤ n0) (f13 : n0 ≤ n2) (f14 : 0 ≤ n1) (f15 : n5 = 325) (f16 : n5 = hV H1 (n3).toNat 61) (f17 : n6 ≤ 60) (f18 : 0 ≤ n6) (f19 : n6 = hV H1 (n5).toNat (n2).toNat) (f20 : n1 < n6) : n1 ≤ 59 := by
  unfold postb_246 at f10
  have e1 : n6 = hV H0 325 (n2).toNat := (by rw [f15] at f19; exact f19 : n6 = hV H1 325 (n2).toNat).trans ((congrFun (fRow f10.1.2.1 325 kR_246_325) _))
  have e3 : hV H1 285 60 = hV H0 285 60 := (f10.1.2.1.1 285 60 kF_246_285_60)
  have e4 : (1 : Int) ≤ hV H0 285 60 ∧ hV H0 285 60 ≤ 6 := bTo e3 (f10.1.2.2.2 285 60 _ _ kW_285_60)
  try simp only [e3] at f10
  have r0_0 := f10.2
  clear f16 f19 e3
  subst e1
  omega
theorem c_249_s_3 : vOkm T0 (eP e_249 L_249 A_249 mu_249 none) 4 ([(42, [2, 6], [], 0), (22, [6, 5, 1], [1], 0), (90, [6], [], 0), (91, [6], [], 60), (20, [5, 0], [1], 61), (0, [5], [], 325), (33, [2], [], 0), (45, [3, 1], [], 0), (33, [3], [], 0), (31, [4], [], 0), (1246, [4, 0, 1], [0, 1], 0), (90, [4], [], 0), (91, [4], [], 1), (6000, [0, 1, 2, 3], [0], 0), (0, [0], [], 285), (90, [1], [], -2147483648), (91, [1], [], 2147483647), (90, [2], [], -2147483648), (91, [2], [], 2147483647), (90, [3], [], -2147483648), (91, [3], [], 2147483647)], (91, [2], [], 59)) := vOk_inI fun ρ η f0 f1 f2 f3 f4 f5 f6 f7 f8 f9 f10 f11 f12 f13 f14 f15 f16 f17 f18 f19 f20 => q_249_3 (n0 := ρ 3) (n1 := ρ 2) (n2 := ρ 1) (n3 := ρ 0) (n4 := ρ 4) (n5 := ρ 5) (n6 := ρ 6) (H0 := η 0) (H1 := η 1) f20 f19 f18 f17 f16 f15 f14 f13 f12 f11 f10 f9 f8 f7 f6 f5 f4 f3 f2 f1 f0
def p_249_s : List vG := [([(33, [2], [], 0), (45, [3, 1], [], 0), (33, [3], [], 0), (31, [4], [], 0), (1246, [4, 0, 1], [0, 1], 0), (90, [4], [], 0), (91, [4], [], 1), (6000, [0, 1, 2, 3], [0], 0), (0, [0], [], 285), (90, [1], [], -2147483648), (91, [1], [], 2147483647), (90, [2], [], -2147483648), (91, [2], [], 2147483647), (90, [3], [], -2147483648), (91, [3], [], 2147483647)], (70, [1], [], 6)),
  ([(42, [2, 6], [], 0), (22, [6, 5, 1], [1], 0), (90, [6], [], 0), (91, [6], [], 60), (20, [5, 0], [1], 61), (0, [5], [], 325), (33, [2], [], 0), (45, [3, 1], [], 0), (33, [3], [], 0), (31, [4], [], 0), (1246, [4, 0, 1], [0, 1], 0), (90, [4], [], 0), (91, [4], [], 1), (6000, [0, 1, 2, 3], [0], 0), (0, [0], [], 285), (90, [1], [], -2147483648), (91, [1], [], 2147483647), (90, [2], [], -2147483648), (91, [2], [], 2147483647), (90, [3], [], -2147483648), (91, [3], [], 2147483647)], (90, [1], [], 0)),
  ([(42, [2, 6], [], 0), (22, [6, 5, 1], [1], 0), (90, [6], [], 0), (91, [6], [], 60), (20, [5, 0], [1], 61), (0, [5], [], 325), (33, [2], [], 0), (45, [3, 1], [], 0), (33, [3], [], 0), (31, [4], [], 0), (1246, [4, 0, 1], [0, 1], 0), (90, [4], [], 0), (91, [4], [], 1), (6000, [0, 1, 2, 3], [0], 0), (0, [0], [], 285), (90, [1], [], -2147483648), (91, [1], [], 2147483647), (90, [2], [], -2147483648), (91, [2], [], 2147483647), (90, [3], [], -2147483648), (91, [3], [], 2147483647)], (91, [1], [], 5)),
  ([(42, [2, 6], [], 0), (22, [6, 5, 1], [1], 0), (90, [6], [], 0), (91, [6], [], 60), (20, [5, 0], [1], 61), (0, [5], [], 325), (33, [2], [], 0), (45, [3, 1], [], 0), (33, [3], [], 0), (31, [4], [], 0), (1246, [4, 0, 1], [0, 1], 0), (90, [4], [], 0), (91, [4], [], 1), (6000, [0, 1, 2, 3], [0], 0), (0, [0], [], 285), (90, [1], [], -2147483648), (91, [1], [], 2147483647), (90, [2], [], -2147483648), (91, [2], [], 2147483647), (90, [3], [], -2147483648), (91, [3], [], 2147483647)], (91, [2], [], 59))]
theorem r_249_s : vCovO true (eR0 e_249 L_249 cs_249 2000) p_249_s = true := by decide +kernel
theorem m_249 (d : Nat) : eC e_249 (d + 2) := eC_ok (e := e_249) (L := L_249) (cs := cs_249) (n := 2000) (d := d + 1) (A := A_249) (μ := mu_249) (tp := true) (p0 := p_249_s) rfl ⟨m_246 d, ⟨m_248 d, trivial⟩⟩ rfl (.inr pre0_ok) (by decide +kernel) (fun _ => post0_ok) r_249_s (allC c_249_s_0 (allC c_249_s_1 (allC c_249_s_2 (allC c_249_s_3 allN)))) allN
