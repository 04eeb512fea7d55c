/- Rules.emit (I)V, more fully -/
def nbo_98 (a0 a1 : Int) (h0 h : gH) : Prop := EMp h0 h a0 a1
def no_98 : List Int → gH → gH → Prop := fun xs h0 h => match xs with
  | [a0, a1] => nbo_98 a0 a1 h0 h
  | _ => True
noncomputable def e_98o : vE := eV e_98 no_98
noncomputable def L_98o : List vE := []
def Bo_98 : Int → List Int → gH → gH → Prop := fun c xs h0 h => True
theorem q_98o_0 {n0 n1 n2 : Int} {H0 : gH} (f0 : n0 ≤ 2147483647) (f1 : (-2147483648) ≤ n0) (f2 : 0 ≤ n1) (f3 : hWt T0 H0 ∧ True) (f4 : n2 ≤ 2147483647) (f5 : (-2147483648) ≤ n2) (f6 : hK H0 (n1).toNat = 5) (f7 : n2 = hV H0 (n1).toNat 2) (f8 : n2 < 0) : nbo_98 n1 n0 H0 H0 := by
  unfold nbo_98
  exact emit_no f7 (by omega)
def g_98o_s_0 : vG := ([(32, [2], [], 0), (20, [2, 0], [0], 2), (23, [0], [0], 5), (90, [2], [], -2147483648), (91, [2], [], 2147483647), (6000, [0, 1], [0], 0), (51, [0], [], 0), (90, [1], [], -2147483648), (91, [1], [], 2147483647)], (3000, [], [0], 39))
theorem c_98o_s_0 : vOkm T0 (eN e_98 L_98o A_98 mu_98 no_98 Bo_98 none) 2 g_98o_s_0 := vOk_inI fun ρ η f0 f1 f2 f3 f4 f5 f6 f7 f8 => q_98o_0 (n0 := ρ 1) (n1 := ρ 0) (n2 := ρ 2) (H0 := η 0) f8 f7 f6 f5 f4 f3 f2 f1 f0
theorem q_98o_1 {n0 n1 n2 n3 n4 n5 : Int} {H0 : gH} (f0 : n0 ≤ 2147483647) (f1 : (-2147483648) ≤ n0) (f2 : 0 ≤ n1) (f3 : hWt T0 H0 ∧ True) (f4 : n2 ≤ 2147483647) (f5 : (-2147483648) ≤ n2) (f6 : hK H0 (n1).toNat = 5) (f7 : n2 = hV H0 (n1).toNat 2) (f8 : 0 ≤ n2) (f9 : n3 ≤ 2147483647) (f10 : (-2147483648) ≤ n3) (f11 : hK H0 (n1).toNat = 5) (f12 : n3 = hV H0 (n1).toNat 2) (f13 : 0 ≤ n4) (f14 : hK H0 (n1).toNat = 5) (f15 : n4 = hV H0 (n1).toNat 1) (f16 : n5 = (hN H0 (n4).toNat : Int)) (f17 : n5 = 1000) (f18 : n5 ≤ n3) : nbo_98 n1 n0 H0 H0 := by
  unfold nbo_98
  exact emit_no f12 (by omega)
def g_98o_s_1 : vG := ([(43, [3, 5], [], 0), (0, [5], [], 1000), (21, [5, 4], [0], 0), (20, [4, 0], [0], 1), (23, [0], [0], 5), (51, [4], [], 0), (20, [3, 0], [0], 2), (23, [0], [0], 5), (90, [3], [], -2147483648), (91, [3], [], 2147483647), (33, [2], [], 0), (20, [2, 0], [0], 2), (23, [0], [0], 5), (90, [2], [], -2147483648), (91, [2], [], 2147483647), (6000, [0, 1], [0], 0), (51, [0], [], 0), (90, [1], [], -2147483648), (91, [1], [], 2147483647)], (3000, [], [0], 39))
theorem c_98o_s_1 : vOkm T0 (eN e_98 L_98o A_98 mu_98 no_98 Bo_98 none) 2 g_98o_s_1 := vOk_inI fun ρ η f0 f1 f2 f3 f4 f5 f6 f7 f8 f9 f10 f11 f12 f13 f14 f15 f16 f17 f18 => q_98o_1 (n0 := ρ 1) (n1 := ρ 0) (n2 := ρ 2) (n3 := ρ 3) (n4 := ρ 4) (n5 := ρ 5) (H0 := η 0) f18 f17 f16 f15 f14 f13 f12 f11 f10 f9 f8 f7 f6 f5 f4 f3 f2 f1 f0
theorem q_98o_2 {n0 n1 n2 n3 n4 n5 n6 n7 n8 n9 n10 n11 : Int} {H0 H1 H2 : gH} (f0 : n0 ≤ 2147483647) (f1 : (-2147483648) ≤ n0) (f2 : 0 ≤ n1) (f3 : hWt T0 H0 ∧ True) (f4 : n2 ≤ 2147483647) (f5 : (-2147483648) ≤ n2) (f6 : hK H0 (n1).toNat = 5) (f7 : n2 = hV H0 (n1).toNat 2) (f8 : 0 ≤ n2) (f9 : n3 ≤ 2147483647) (f10 : (-2147483648) ≤ n3) (f11 : hK H0 (n1).toNat = 5) (f12 : n3 = hV H0 (n1).toNat 2) (f13 : 0 ≤ n4) (f14 : hK H0 (n1).toNat = 5) (f15 : n4 = hV H0 (n1).toNat 1) (f16 : n5 = (hN H0 (n4).toNat : Int)) (f17 : n5 = 1000) (f18 : n3 < n5) (f19 : 0 ≤ n6) (f20 : hK H0 (n1).toNat = 5) (f21 : n6 = hV H0 (n1).toNat 1) (f22 : n7 ≤ 2147483647) (f23 : (-2147483648) ≤ n7) (f24 : hK H0 (n1).toNat = 5) (f25 : n7 = hV H0 (n1).toNat 2) (f26 : hK H0 (n6).toNat = 100) (f27 : hUpd H1 H0 n6 n7 n0) (f28 : n8 ≤ 2147483647) (f29 : (-2147483648) ≤ n8) (f30 : hK H1 (n1).toNat = 5) (f31 : n8 = hV H1 (n1).toNat 2) (f32 : n9 = 1) (f33 : n10 = w32 (n8 + n9)) (f34 : hK H1 (n1).toNat = 5) (f35 : n11 = 2) (f36 : hUpd H2 H1 n1 n11 n10) : nbo_98 n1 n0 H0 H2 := by
  unfold nbo_98
  have w := f33
  rw [f32] at w
  exact emit_at f21 f25 f27 f31 w f36 f35
def g_98o_s_2 : vG := ([(80, [0, 11, 10], [2, 1], 0), (0, [11], [], 2), (23, [0], [1], 5), (1, [10, 8, 9], [], 0), (0, [9], [], 1), (20, [8, 0], [1], 2), (23, [0], [1], 5), (90, [8], [], -2147483648), (91, [8], [], 2147483647), (80, [6, 7, 1], [1, 0], 0), (23, [6], [0], 100), (20, [7, 0], [0], 2), (23, [0], [0], 5), (90, [7], [], -2147483648), (91, [7], [], 2147483647), (20, [6, 0], [0], 1), (23, [0], [0], 5), (51, [6], [], 0), (42, [3, 5], [], 0), (0, [5], [], 1000), (21, [5, 4], [0], 0), (20, [4, 0], [0], 1), (23, [0], [0], 5), (51, [4], [], 0), (20, [3, 0], [0], 2), (23, [0], [0], 5), (90, [3], [], -2147483648), (91, [3], [], 2147483647), (33, [2], [], 0), (20, [2, 0], [0], 2), (23, [0], [0], 5), (90, [2], [], -2147483648), (91, [2], [], 2147483647), (6000, [0, 1], [0], 0), (51, [0], [], 0), (90, [1], [], -2147483648), (91, [1], [], 2147483647)], (3000, [], [2], 39))
theorem c_98o_s_2 : vOkm T0 (eN e_98 L_98o A_98 mu_98 no_98 Bo_98 none) 2 g_98o_s_2 := vOk_inI fun ρ η f0 f1 f2 f3 f4 f5 f6 f7 f8 f9 f10 f11 f12 f13 f14 f15 f16 f17 f18 f19 f20 f21 f22 f23 f24 f25 f26 f27 f28 f29 f30 f31 f32 f33 f34 f35 f36 => q_98o_2 (n0 := ρ 1) (n1 := ρ 0) (n2 := ρ 2) (n3 := ρ 3) (n4 := ρ 4) (n5 := ρ 5) (n6 := ρ 6) (n7 := ρ 7) (n8 := ρ 8) (n9 := ρ 9) (n10 := ρ 10) (n11 := ρ 11) (H0 := η 0) (H1 := η 1) (H2 := η 2) f36 f35 f34 f33 f32 f31 f30 f29 f28 f27 f26 f25 f24 f23 f22 f21 f20 f19 f18 f17 f16 f15 f14 f13 f12 f11 f10 f9 f8 f7 f6 f5 f4 f3 f2 f1 f0
def p_98o_s : List vG := [g_98o_s_0,
  g_98o_s_1,
  g_98o_s_2]
theorem r_98o_s : vCovBO (eR0 e_98 L_98 cs_98 2000) p_98o_s = true := by decide +kernel
theorem m_98o (d : Nat) : eC e_98o (d + 1) := eC_ref (e := e_98) (L := L_98) (L' := L_98o) (cs := cs_98) (n := 2000) (d := d + 0) (A := A_98) (μ := mu_98) (tp := true) (p0 := p_98_s) (p1 := p_98o_s) (N := no_98) (B := Bo_98) rfl trivial rfl (.inr pre0_ok) (by decide +kernel) (fun _ => post0_ok) r_98_s (allC c_98_s_0 allN) allN trivial r_98o_s (allC c_98o_s_0 (allC c_98o_s_1 (allC c_98o_s_2 allN))) allN
/- Reader.hold (I)V, more fully -/
def nbo_94 (a0 a1 : Int) (h0 h : gH) : Prop := HOp h0 h a1
def no_94 : List Int → gH → gH → Prop := fun xs h0 h => match xs with
  | [a0, a1] => nbo_94 a0 a1 h0 h
  | _ => True
noncomputable def e_94o : vE := eV e_94 no_94
noncomputable def L_94o : List vE := [e_201vk740]
def Bo_94 : Int → List Int → gH → gH → Prop := fun c xs h0 h => True
theorem q_94o_0 {n0 n1 n2 n3 n4 n5 n6 n7 : Int} {H0 H1 H2 : gH} (f0 : n0 ≤ 2147483647) (f1 : (-2147483648) ≤ n0) (f2 : n1 = 30) (f3 : hWt T0 H0 ∧ True) (f4 : n2 = 49) (f5 : hK H0 (n1).toNat = 4) (f6 : n2 = hV H0 (n1).toNat 14) (f7 : n3 ≤ 2147483647) (f8 : (-2147483648) ≤ n3) (f9 : hK H0 (n1).toNat = 4) (f10 : n3 = hV H0 (n1).toNat 15) (f11 : (hLe T0 H0 H1 ∧ hFr s_201vk740.2.2.2.2 H0 H1 ∧ ((0 : Int) = 0 → H1.length = H0.length) ∧ hWt T0 H1) ∧ postb_201vk740 n2 n3 n0 H0 H1) (f12 : n4 ≤ 2147483647) (f13 : (-2147483648) ≤ n4) (f14 : hK H1 (n1).toNat = 4) (f15 : n4 = hV H1 (n1).toNat 15) (f16 : n5 = 1) (f17 : n6 = w32 (n4 + n5)) (f18 : hK H1 (n1).toNat = 4) (f19 : n7 = 15) (f20 : hUpd H2 H1 n1 n7 n6) : nbo_94 n1 n0 H0 H2 := by
  unfold nbo_94
  have r6 : n2 = hV H0 30 14 := by
    have w := f6
    rw [f2] at w
    exact w
  have r10 : n3 = hV H0 30 15 := by
    have w := f10
    rw [f2] at w
    exact w
  have r15 : n4 = hV H1 30 15 := by
    have w := f15
    rw [f2] at w
    exact w
  have pp := f11.2
  unfold postb_201vk740 at pp
  have w := f17
  rw [f16] at w
  exact hold_at f4 r10 pp r15 w f20 f2 f19
def g_94o_s_0 : vG := ([(80, [0, 7, 6], [2, 1], 0), (0, [7], [], 15), (23, [0], [1], 4), (1, [6, 4, 5], [], 0), (0, [5], [], 1), (20, [4, 0], [1], 15), (23, [0], [1], 4), (90, [4], [], -2147483648), (91, [4], [], 2147483647), (1201, [2, 3, 1], [0, 1], 0), (20, [3, 0], [0], 15), (23, [0], [0], 4), (90, [3], [], -2147483648), (91, [3], [], 2147483647), (20, [2, 0], [0], 14), (23, [0], [0], 4), (0, [2], [], 49), (6000, [0, 1], [0], 0), (0, [0], [], 30), (90, [1], [], -2147483648), (91, [1], [], 2147483647)], (3000, [], [2], 22))
theorem c_94o_s_0 : vOkm T0 (eN e_94 L_94o A_94 mu_94 no_94 Bo_94 none) 2 g_94o_s_0 := vOk_inI fun ρ η f0 f1 f2 f3 f4 f5 f6 f7 f8 f9 f10 f11 f12 f13 f14 f15 f16 f17 f18 f19 f20 => q_94o_0 (n0 := ρ 1) (n1 := ρ 0) (n2 := ρ 2) (n3 := ρ 3) (n4 := ρ 4) (n5 := ρ 5) (n6 := ρ 6) (n7 := ρ 7) (H0 := η 0) (H1 := η 1) (H2 := η 2) f20 f19 f18 f17 f16 f15 f14 f13 f12 f11 f10 f9 f8 f7 f6 f5 f4 f3 f2 f1 f0
def p_94o_s : List vG := [g_94o_s_0]
theorem r_94o_s : vCovBO (eR0 e_94 L_94 cs_94 2000) p_94o_s = true := by decide +kernel
theorem m_94o (d : Nat) : eC e_94o (d + 2) := eC_ref (e := e_94) (L := L_94) (L' := L_94o) (cs := cs_94) (n := 2000) (d := d + 1) (A := A_94) (μ := mu_94) (tp := true) (p0 := p_94_s) (p1 := p_94o_s) (N := no_94) (B := Bo_94) rfl ⟨m_201vk740 d, trivial⟩ rfl (.inr pre0_ok) (by decide +kernel) (fun _ => post0_ok) r_94_s allN allN ⟨⟨rfl, rfl, rfl, fun _ _ _ _ => trivial⟩, trivial⟩ r_94o_s (allC c_94o_s_0 allN) allN
/- Reader.rank (I)I, more fully -/
def nbo_93 (r a0 : Int) (h0 h : gH) : Prop := r = rkF a0
def no_93 : List Int → gH → gH → Prop := fun xs h0 h => match xs with
  | [r, a0] => nbo_93 r a0 h0 h
  | _ => True
noncomputable def e_93o : vE := eV e_93 no_93
noncomputable def L_93o : List vE := []
def Bo_93 : Int → List Int → gH → gH → Prop := fun c xs h0 h => True
theorem q_93o_0 {n0 n1 n2 n3 : Int} {H0 : gH} (f0 : n0 ≤ 2147483647) (f1 : (-2147483648) ≤ n0) (f2 : hWt T0 H0 ∧ True) (f3 : n1 = 10) (f4 : n0 ≠ n1) (f5 : n2 = 8) (f6 : n0 = n2) (f7 : n3 = 2) : nbo_93 n3 n0 H0 H0 := by
  unfold nbo_93 rkF
  have rc := f7
  rw [if_neg (by omega), if_pos (by omega)]
  exact rc
def g_93o_s_0 : vG := ([(0, [3], [], 2), (40, [0, 2], [], 0), (0, [2], [], 8), (41, [0, 1], [], 0), (0, [1], [], 10), (6000, [0], [0], 0), (90, [0], [], -2147483648), (91, [0], [], 2147483647)], (3000, [3], [0], 25))
theorem c_93o_s_0 : vOkm T0 (eN e_93 L_93o A_93 mu_93 no_93 Bo_93 none) 1 g_93o_s_0 := vOk_inI fun ρ η f0 f1 f2 f3 f4 f5 f6 f7 => q_93o_0 (n0 := ρ 0) (n1 := ρ 1) (n2 := ρ 2) (n3 := ρ 3) (H0 := η 0) f7 f6 f5 f4 f3 f2 f1 f0
theorem q_93o_1 {n0 n1 n2 n3 n4 : Int} {H0 : gH} (f0 : n0 ≤ 2147483647) (f1 : (-2147483648) ≤ n0) (f2 : hWt T0 H0 ∧ True) (f3 : n1 = 10) (f4 : n0 ≠ n1) (f5 : n2 = 8) (f6 : n0 ≠ n2) (f7 : n3 = 9) (f8 : n0 ≠ n3) (f9 : n4 = 1) : nbo_93 n4 n0 H0 H0 := by
  unfold nbo_93 rkF
  have rc := f9
  rw [if_neg (by omega), if_neg (by omega)]
  exact rc
def g_93o_s_1 : vG := ([(0, [4], [], 1), (41, [0, 3], [], 0), (0, [3], [], 9), (41, [0, 2], [], 0), (0, [2], [], 8), (41, [0, 1], [], 0), (0, [1], [], 10), (6000, [0], [0], 0), (90, [0], [], -2147483648), (91, [0], [], 2147483647)], (3000, [4], [0], 25))
theorem c_93o_s_1 : vOkm T0 (eN e_93 L_93o A_93 mu_93 no_93 Bo_93 none) 1 g_93o_s_1 := vOk_inI fun ρ η f0 f1 f2 f3 f4 f5 f6 f7 f8 f9 => q_93o_1 (n0 := ρ 0) (n1 := ρ 1) (n2 := ρ 2) (n3 := ρ 3) (n4 := ρ 4) (H0 := η 0) f9 f8 f7 f6 f5 f4 f3 f2 f1 f0
theorem q_93o_2 {n0 n1 n2 n3 n4 : Int} {H0 : gH} (f0 : n0 ≤ 2147483647) (f1 : (-2147483648) ≤ n0) (f2 : hWt T0 H0 ∧ True) (f3 : n1 = 10) (f4 : n0 ≠ n1) (f5 : n2 = 8) (f6 : n0 ≠ n2) (f7 : n3 = 9) (f8 : n0 = n3) (f9 : n4 = 2) : nbo_93 n4 n0 H0 H0 := by
  unfold nbo_93 rkF
  have rc := f9
  rw [if_neg (by omega), if_pos (by omega)]
  exact rc
def g_93o_s_2 : vG := ([(0, [4], [], 2), (40, [0, 3], [], 0), (0, [3], [], 9), (41, [0, 2], [], 0), (0, [2], [], 8), (41, [0, 1], [], 0), (0, [1], [], 10), (6000, [0], [0], 0), (90, [0], [], -2147483648), (91, [0], [], 2147483647)], (3000, [4], [0], 25))
theorem c_93o_s_2 : vOkm T0 (eN e_93 L_93o A_93 mu_93 no_93 Bo_93 none) 1 g_93o_s_2 := vOk_inI fun ρ η f0 f1 f2 f3 f4 f5 f6 f7 f8 f9 => q_93o_2 (n0 := ρ 0) (n1 := ρ 1) (n2 := ρ 2) (n3 := ρ 3) (n4 := ρ 4) (H0 := η 0) f9 f8 f7 f6 f5 f4 f3 f2 f1 f0
theorem q_93o_3 {n0 n1 n2 : Int} {H0 : gH} (f0 : n0 ≤ 2147483647) (f1 : (-2147483648) ≤ n0) (f2 : hWt T0 H0 ∧ True) (f3 : n1 = 10) (f4 : n0 = n1) (f5 : n2 = 0) : nbo_93 n2 n0 H0 H0 := by
  unfold nbo_93 rkF
  have rc := f5
  rw [if_pos (by omega)]
  exact rc
def g_93o_s_3 : vG := ([(0, [2], [], 0), (40, [0, 1], [], 0), (0, [1], [], 10), (6000, [0], [0], 0), (90, [0], [], -2147483648), (91, [0], [], 2147483647)], (3000, [2], [0], 7))
theorem c_93o_s_3 : vOkm T0 (eN e_93 L_93o A_93 mu_93 no_93 Bo_93 none) 1 g_93o_s_3 := vOk_inI fun ρ η f0 f1 f2 f3 f4 f5 => q_93o_3 (n0 := ρ 0) (n1 := ρ 1) (n2 := ρ 2) (H0 := η 0) f5 f4 f3 f2 f1 f0
def p_93o_s : List vG := [g_93o_s_0,
  g_93o_s_1,
  g_93o_s_2,
  g_93o_s_3]
theorem r_93o_s : vCovBO (eR0 e_93 L_93 cs_93 2000) p_93o_s = true := by decide +kernel
theorem m_93o (d : Nat) : eC e_93o (d + 1) := eC_ref (e := e_93) (L := L_93) (L' := L_93o) (cs := cs_93) (n := 2000) (d := d + 0) (A := A_93) (μ := mu_93) (tp := true) (p0 := p_93_s) (p1 := p_93o_s) (N := no_93) (B := Bo_93) rfl trivial rfl (.inr pre0_ok) (by decide +kernel) (fun _ => post0_ok) r_93_s allN allN trivial r_93o_s (allC c_93o_s_0 (allC c_93o_s_1 (allC c_93o_s_2 (allC c_93o_s_3 allN)))) allN
/- Reader.release (I)V, more fully -/
def nbo_95 (a0 a1 : Int) (h0 h : gH) : Prop := ∀ d : Int, d = hV h0 30 8 → (a1 = 1 ∨ a1 = 2) → RELp h0 h d (decide (a1 = 2))
def no_95 : List Int → gH → gH → Prop := fun xs h0 h => match xs with
  | [a0, a1] => nbo_95 a0 a1 h0 h
  | _ => True
noncomputable def e_95o : vE := eV e_95 no_95
noncomputable def L_95o : List vE := [e_93o, e_98o, e_199vk740]
def Bbo_95_0 (a0 a1 x0 x1 : Int) (h0 h : gH) : Prop := x0 = a0 ∧ x1 = a1 ∧ ∀ d : Int, d = hV h0 30 8 → (a1 = 1 ∨ a1 = 2) → RELi h0 h d (decide (a1 = 2))
def Bo_95 : Int → List Int → gH → gH → Prop := fun c xs h0 h => match c.toNat with
  | 0 => (match xs with
    | [a0, a1, x0, x1] => Bbo_95_0 a0 a1 x0 x1 h0 h
    | _ => False)
  | _ => True
theorem q_95o_0 {n0 n1 n2 : Int} {H0 : gH} (f0 : n0 ≤ 2147483647) (f1 : (-2147483648) ≤ n0) (f2 : n1 = 30) (f3 : hWt T0 H0 ∧ True) (f4 : n2 ≤ 2147483647) (f5 : (-2147483648) ≤ n2) (f6 : hK H0 (n1).toNat = 4) (f7 : n2 = hV H0 (n1).toNat 15) (f8 : n2 ≤ 0) : nbo_95 n1 n0 H0 H0 := by
  unfold nbo_95
  intro d ed ha
  have z0 : RELi H0 H0 d (decide (n0 = 2)) := REL_0
  have r7 : n2 = hV H0 30 15 := by
    have w := f7
    rw [f2] at w
    exact w
  have hm : (n0 = 1 ∧ decide (n0 = 2) = false) ∨ (n0 = 2 ∧ decide (n0 = 2) = true) := ha.elim (fun h => .inl ⟨h, decide_eq_false (by omega)⟩) (fun h => .inr ⟨h, decide_eq_true h⟩)
  exact REL_nil z0 r7 (by omega)
def g_95o_s_0 : vG := ([(35, [2], [], 0), (20, [2, 0], [0], 15), (23, [0], [0], 4), (90, [2], [], -2147483648), (91, [2], [], 2147483647), (6000, [0, 1], [0], 0), (0, [0], [], 30), (90, [1], [], -2147483648), (91, [1], [], 2147483647)], (3000, [], [0], 62))
theorem c_95o_s_0 : vOkm T0 (eN e_95 L_95o A_95 mu_95 no_95 Bo_95 none) 2 g_95o_s_0 := vOk_inI fun ρ η f0 f1 f2 f3 f4 f5 f6 f7 f8 => q_95o_0 (n0 := ρ 1) (n1 := ρ 0) (n2 := ρ 2) (H0 := η 0) f8 f7 f6 f5 f4 f3 f2 f1 f0
theorem q_95o_1 {n0 n1 n2 n3 n4 n5 n6 n7 n8 : Int} {H0 H1 H2 : gH} (f0 : n0 ≤ 2147483647) (f1 : (-2147483648) ≤ n0) (f2 : n1 = 30) (f3 : hWt T0 H0 ∧ True) (f4 : n2 ≤ 2147483647) (f5 : (-2147483648) ≤ n2) (f6 : hK H0 (n1).toNat = 4) (f7 : n2 = hV H0 (n1).toNat 15) (f8 : 0 < n2) (f9 : n3 = 49) (f10 : hK H0 (n1).toNat = 4) (f11 : n3 = hV H0 (n1).toNat 14) (f12 : n4 ≤ 2147483647) (f13 : (-2147483648) ≤ n4) (f14 : hK H0 (n1).toNat = 4) (f15 : n4 = hV H0 (n1).toNat 15) (f16 : n5 = 1) (f17 : n6 = w32 (n4 - n5)) (f18 : n7 ≤ 2147483647) (f19 : (-2147483648) ≤ n7) (f20 : (hLe T0 H0 H1 ∧ hFr s_199vk740.2.2.2.2 H0 H1 ∧ ((0 : Int) = 0 → H1.length = H0.length) ∧ hWt T0 H1) ∧ postb_199vk740 n7 n3 n6 H0 H1) (f21 : n8 ≤ 2147483647) (f22 : (-2147483648) ≤ n8) (f23 : (hLe T0 H1 H2 ∧ hFr s_93.2.2.2.2 H1 H2 ∧ ((0 : Int) = 0 → H2.length = H1.length) ∧ hWt T0 H2) ∧ (True ∧ nbo_93 n8 n7 H1 H2)) (f24 : n8 < n0) : nbo_95 n1 n0 H0 H2 := by
  unfold nbo_95
  intro d ed ha
  have z0 : RELi H0 H0 d (decide (n0 = 2)) := REL_0
  have r7 : n2 = hV H0 30 15 := by
    have w := f7
    rw [f2] at w
    exact w
  have r11 : n3 = hV H0 30 14 := by
    have w := f11
    rw [f2] at w
    exact w
  have r15 : n4 = hV H0 30 15 := by
    have w := f15
    rw [f2] at w
    exact w
  have hm : (n0 = 1 ∧ decide (n0 = 2) = false) ∨ (n0 = 2 ∧ decide (n0 = 2) = true) := ha.elim (fun h => .inl ⟨h, decide_eq_false (by omega)⟩) (fun h => .inr ⟨h, decide_eq_true h⟩)
  have e8 := f17
  rw [f16] at e8
  have e9 := f20.2
  unfold postb_199vk740 at e9
  rw [f9] at e9
  have rk := f23.2.2
  unfold nbo_93 at rk
  exact REL_end z0 (by omega) r15 e8 e9 rk (by omega) hm (SMf_tr (SMf_fr f20.1.1 f20.1.2.1 (by decide +kernel) (by decide +kernel)) (SMf_fr f23.1.1 f23.1.2.1 (by decide +kernel) (by decide +kernel))) ((f23.1.2.1.1 30 15 (by decide +kernel)).trans (f20.1.2.1.1 30 15 (by decide +kernel))) ((fRow f23.1.2.1 49 (by decide +kernel)).trans (fRow f20.1.2.1 49 (by decide +kernel)))
def g_95o_s_1 : vG := ([(42, [8, 1], [], 0), (1093, [8, 7], [1, 2], 0), (90, [8], [], -2147483648), (91, [8], [], 2147483647), (1199, [7, 3, 6], [0, 1], 0), (90, [7], [], -2147483648), (91, [7], [], 2147483647), (2, [6, 4, 5], [], 0), (0, [5], [], 1), (20, [4, 0], [0], 15), (23, [0], [0], 4), (90, [4], [], -2147483648), (91, [4], [], 2147483647), (20, [3, 0], [0], 14), (23, [0], [0], 4), (0, [3], [], 49), (34, [2], [], 0), (20, [2, 0], [0], 15), (23, [0], [0], 4), (90, [2], [], -2147483648), (91, [2], [], 2147483647), (6000, [0, 1], [0], 0), (0, [0], [], 30), (90, [1], [], -2147483648), (91, [1], [], 2147483647)], (3000, [], [2], 62))
theorem c_95o_s_1 : vOkm T0 (eN e_95 L_95o A_95 mu_95 no_95 Bo_95 none) 2 g_95o_s_1 := vOk_inI fun ρ η f0 f1 f2 f3 f4 f5 f6 f7 f8 f9 f10 f11 f12 f13 f14 f15 f16 f17 f18 f19 f20 f21 f22 f23 f24 => q_95o_1 (n0 := ρ 1) (n1 := ρ 0) (n2 := ρ 2) (n3 := ρ 3) (n4 := ρ 4) (n5 := ρ 5) (n6 := ρ 6) (n7 := ρ 7) (n8 := ρ 8) (H0 := η 0) (H1 := η 1) (H2 := η 2) f24 f23 f22 f21 f20 f19 f18 f17 f16 f15 f14 f13 f12 f11 f10 f9 f8 f7 f6 f5 f4 f3 f2 f1 f0
theorem q_95o_2 {n0 n1 n2 n3 n4 n5 n6 n7 n8 n9 n10 n11 n12 n13 n14 n15 n16 n17 n18 : Int} {H0 H1 H2 H3 H4 H5 : gH} (f0 : n0 ≤ 2147483647) (f1 : (-2147483648) ≤ n0) (f2 : n1 = 30) (f3 : hWt T0 H0 ∧ True) (f4 : n2 ≤ 2147483647) (f5 : (-2147483648) ≤ n2) (f6 : hK H0 (n1).toNat = 4) (f7 : n2 = hV H0 (n1).toNat 15) (f8 : 0 < n2) (f9 : n3 = 49) (f10 : hK H0 (n1).toNat = 4) (f11 : n3 = hV H0 (n1).toNat 14) (f12 : n4 ≤ 2147483647) (f13 : (-2147483648) ≤ n4) (f14 : hK H0 (n1).toNat = 4) (f15 : n4 = hV H0 (n1).toNat 15) (f16 : n5 = 1) (f17 : n6 = w32 (n4 - n5)) (f18 : n7 ≤ 2147483647) (f19 : (-2147483648) ≤ n7) (f20 : (hLe T0 H0 H1 ∧ hFr s_199vk740.2.2.2.2 H0 H1 ∧ ((0 : Int) = 0 → H1.length = H0.length) ∧ hWt T0 H1) ∧ postb_199vk740 n7 n3 n6 H0 H1) (f21 : n8 ≤ 2147483647) (f22 : (-2147483648) ≤ n8) (f23 : (hLe T0 H1 H2 ∧ hFr s_93.2.2.2.2 H1 H2 ∧ ((0 : Int) = 0 → H2.length = H1.length) ∧ hWt T0 H2) ∧ (True ∧ nbo_93 n8 n7 H1 H2)) (f24 : n0 ≤ n8) (f25 : n9 ≤ 2147483647) (f26 : (-2147483648) ≤ n9) (f27 : hK H2 (n1).toNat = 4) (f28 : n9 = hV H2 (n1).toNat 15) (f29 : n10 = 1) (f30 : n11 = w32 (n9 - n10)) (f31 : hK H2 (n1).toNat = 4) (f32 : n12 = 15) (f33 : hUpd H3 H2 n1 n12 n11) (f34 : 0 ≤ n13) (f35 : hK H3 (n1).toNat = 4) (f36 : n13 = hV H3 (n1).toNat 8) (f37 : n14 = 10000) (f38 : n15 = 49) (f39 : hK H3 (n1).toNat = 4) (f40 : n15 = hV H3 (n1).toNat 14) (f41 : n16 ≤ 2147483647) (f42 : (-2147483648) ≤ n16) (f43 : hK H3 (n1).toNat = 4) (f44 : n16 = hV H3 (n1).toNat 15) (f45 : n17 ≤ 2147483647) (f46 : (-2147483648) ≤ n17) (f47 : (hLe T0 H3 H4 ∧ hFr s_199vk740.2.2.2.2 H3 H4 ∧ ((0 : Int) = 0 → H4.length = H3.length) ∧ hWt T0 H4) ∧ postb_199vk740 n17 n15 n16 H3 H4) (f48 : n18 = w32 (n14 + n17)) (f49 : (hLe T0 H4 H5 ∧ hFr s_98.2.2.2.2 H4 H5 ∧ ((0 : Int) = 0 → H5.length = H4.length) ∧ hWt T0 H5) ∧ (True ∧ nbo_98 n13 n18 H4 H5)) : Bbo_95_0 n1 n0 n1 n0 H0 H5 := by
  unfold Bbo_95_0
  refine ⟨rfl, rfl, fun d ed ha => ?_⟩
  have z0 : RELi H0 H0 d (decide (n0 = 2)) := REL_0
  have r7 : n2 = hV H0 30 15 := by
    have w := f7
    rw [f2] at w
    exact w
  have r11 : n3 = hV H0 30 14 := by
    have w := f11
    rw [f2] at w
    exact w
  have r15 : n4 = hV H0 30 15 := by
    have w := f15
    rw [f2] at w
    exact w
  have r28 : n9 = hV H2 30 15 := by
    have w := f28
    rw [f2] at w
    exact w
  have r36 : n13 = hV H3 30 8 := by
    have w := f36
    rw [f2] at w
    exact w
  have r40 : n15 = hV H3 30 14 := by
    have w := f40
    rw [f2] at w
    exact w
  have r44 : n16 = hV H3 30 15 := by
    have w := f44
    rw [f2] at w
    exact w
  have hm : (n0 = 1 ∧ decide (n0 = 2) = false) ∨ (n0 = 2 ∧ decide (n0 = 2) = true) := ha.elim (fun h => .inl ⟨h, decide_eq_false (by omega)⟩) (fun h => .inr ⟨h, decide_eq_true h⟩)
  have e8 := f17
  rw [f16] at e8
  have e9 := f20.2
  unfold postb_199vk740 at e9
  rw [f9] at e9
  have rk := f23.2.2
  unfold nbo_93 at rk
  have e13 := f30
  rw [f29] at e13
  have e19 := f47.2
  unfold postb_199vk740 at e19
  rw [f38] at e19
  have w20 := f48
  rw [f37] at w20
  have em := f49.2.2
  unfold nbo_98 at em
  rw [r36, show hV H3 30 8 = d from ((uSlot f33 30 8 (by rw [f32]; decide)).trans ((f23.1.2.1.1 30 8 (by decide +kernel)).trans (f20.1.2.1.1 30 8 (by decide +kernel)))).trans (ed.symm)] at em
  have k30 : hK H2 30 = 4 := by
    have w := f27
    rw [f2] at w
    exact w
  exact REL_step z0 (by omega) r15 e8 e9 rk (by omega) hm (SMf_tr (SMf_fr f20.1.1 f20.1.2.1 (by decide +kernel) (by decide +kernel)) (SMf_fr f23.1.1 f23.1.2.1 (by decide +kernel) (by decide +kernel))) ((f23.1.2.1.1 30 15 (by decide +kernel)).trans (f20.1.2.1.1 30 15 (by decide +kernel))) ((fRow f23.1.2.1 49 (by decide +kernel)).trans (fRow f20.1.2.1 49 (by decide +kernel))) r28 e13 k30 f33 f2 f32 r44 e19 (SMf_fr f47.1.1 f47.1.2.1 (by decide +kernel) (by decide +kernel)) (f47.1.2.1.1 30 15 (by decide +kernel)) (fRow f47.1.2.1 49 (by decide +kernel)) w20 em (f49.1.2.1.1 30 15 (by decide +kernel)) (fRow f49.1.2.1 49 (by decide +kernel)) (fun w => W49_le f49.1.1 w)
def g_95o_s_2 : vG := ([(1098, [13, 18], [4, 5], 0), (1, [18, 14, 17], [], 0), (1199, [17, 15, 16], [3, 4], 0), (90, [17], [], -2147483648), (91, [17], [], 2147483647), (20, [16, 0], [3], 15), (23, [0], [3], 4), (90, [16], [], -2147483648), (91, [16], [], 2147483647), (20, [15, 0], [3], 14), (23, [0], [3], 4), (0, [15], [], 49), (0, [14], [], 10000), (20, [13, 0], [3], 8), (23, [0], [3], 4), (51, [13], [], 0), (80, [0, 12, 11], [3, 2], 0), (0, [12], [], 15), (23, [0], [2], 4), (2, [11, 9, 10], [], 0), (0, [10], [], 1), (20, [9, 0], [2], 15), (23, [0], [2], 4), (90, [9], [], -2147483648), (91, [9], [], 2147483647), (43, [8, 1], [], 0), (1093, [8, 7], [1, 2], 0), (90, [8], [], -2147483648), (91, [8], [], 2147483647), (1199, [7, 3, 6], [0, 1], 0), (90, [7], [], -2147483648), (91, [7], [], 2147483647), (2, [6, 4, 5], [], 0), (0, [5], [], 1), (20, [4, 0], [0], 15), (23, [0], [0], 4), (90, [4], [], -2147483648), (91, [4], [], 2147483647), (20, [3, 0], [0], 14), (23, [0], [0], 4), (0, [3], [], 49), (34, [2], [], 0), (20, [2, 0], [0], 15), (23, [0], [0], 4), (90, [2], [], -2147483648), (91, [2], [], 2147483647), (6000, [0, 1], [0], 0), (0, [0], [], 30), (90, [1], [], -2147483648), (91, [1], [], 2147483647)], (4000, [0, 1], [5], 0))
theorem c_95o_s_2 : vOkm T0 (eN e_95 L_95o A_95 mu_95 no_95 Bo_95 none) 2 g_95o_s_2 := vOk_inI fun ρ η f0 f1 f2 f3 f4 f5 f6 f7 f8 f9 f10 f11 f12 f13 f14 f15 f16 f17 f18 f19 f20 f21 f22 f23 f24 f25 f26 f27 f28 f29 f30 f31 f32 f33 f34 f35 f36 f37 f38 f39 f40 f41 f42 f43 f44 f45 f46 f47 f48 f49 => q_95o_2 (n0 := ρ 1) (n1 := ρ 0) (n2 := ρ 2) (n3 := ρ 3) (n4 := ρ 4) (n5 := ρ 5) (n6 := ρ 6) (n7 := ρ 7) (n8 := ρ 8) (n9 := ρ 9) (n10 := ρ 10) (n11 := ρ 11) (n12 := ρ 12) (n13 := ρ 13) (n14 := ρ 14) (n15 := ρ 15) (n16 := ρ 16) (n17 := ρ 17) (n18 := ρ 18) (H0 := η 0) (H1 := η 1) (H2 := η 2) (H3 := η 3) (H4 := η 4) (H5 := η 5) f49 f48 f47 f46 f45 f44 f43 f42 f41 f40 f39 f38 f37 f36 f35 f34 f33 f32 f31 f30 f29 f28 f27 f26 f25 f24 f23 f22 f21 f20 f19 f18 f17 f16 f15 f14 f13 f12 f11 f10 f9 f8 f7 f6 f5 f4 f3 f2 f1 f0
def p_95o_s : List vG := [g_95o_s_0,
  g_95o_s_1,
  g_95o_s_2]
theorem r_95o_s : vCovBO (eR0 e_95 L_95 cs_95 2000) p_95o_s = true := by decide +kernel
theorem q_95o_3 {q0 : Nat} {n0 n1 n2 n3 n4 : Int} {H0 H1 : gH} (f0 : n0 ≤ 2147483647) (f1 : (-2147483648) ≤ n0) (f2 : n1 = 30) (f3 : n2 ≤ 2147483647) (f4 : (-2147483648) ≤ n2) (f5 : n3 = 30) (f6 : (hLe T0 H0 H1 ∧ hFr s_95.2.2.2.2 H0 H1 ∧ hWt T0 H1) ∧ ((True ∧ Bbo_95_0 n3 n2 n1 n0 H0 H1) ∧ True) ∧ some q0 = some (mub_95_0 n3 n2 n1 n0 H0 H1)) (f7 : n4 ≤ 2147483647) (f8 : (-2147483648) ≤ n4) (f9 : hK H1 (n1).toNat = 4) (f10 : n4 = hV H1 (n1).toNat 15) (f11 : n4 ≤ 0) : nbo_95 n3 n2 H0 H1 := by
  have gb := f6.2.1.1.2
  unfold Bbo_95_0 at gb
  obtain ⟨e0, e1, gb⟩ := gb
  unfold nbo_95
  intro d ed ha
  have z0 := gb d ed ha
  have r10 : n4 = hV H1 30 15 := by
    have w := f10
    rw [f2] at w
    exact w
  have hm : (n2 = 1 ∧ decide (n2 = 2) = false) ∨ (n2 = 2 ∧ decide (n2 = 2) = true) := ha.elim (fun h => .inl ⟨h, decide_eq_false (by omega)⟩) (fun h => .inr ⟨h, decide_eq_true h⟩)
  exact REL_nil z0 r10 (by omega)
def g_95o_0_0 : vG := ([(35, [4], [], 0), (20, [4, 2], [1], 15), (23, [2], [1], 4), (90, [4], [], -2147483648), (91, [4], [], 2147483647), (5000, [0, 1, 2, 3], [0, 1], 0), (0, [0], [], 30), (90, [1], [], -2147483648), (91, [1], [], 2147483647), (0, [2], [], 30), (90, [3], [], -2147483648), (91, [3], [], 2147483647)], (3000, [], [1], 62))
theorem c_95o_0_0 {q0 : Nat} : vOkm T0 (eN e_95 L_95o A_95 mu_95 no_95 Bo_95 (some q0)) 2 g_95o_0_0 := vOk_inI fun ρ η f0 f1 f2 f3 f4 f5 f6 f7 f8 f9 f10 f11 => q_95o_3 (q0 := q0) (n0 := ρ 3) (n1 := ρ 2) (n2 := ρ 1) (n3 := ρ 0) (n4 := ρ 4) (H0 := η 0) (H1 := η 1) f11 f10 f9 f8 f7 f6 f5 f4 f3 f2 f1 f0
theorem q_95o_4 {q0 : Nat} {n0 n1 n2 n3 n4 n5 n6 n7 n8 n9 n10 : Int} {H0 H1 H2 H3 : gH} (f0 : n0 ≤ 2147483647) (f1 : (-2147483648) ≤ n0) (f2 : n1 = 30) (f3 : n2 ≤ 2147483647) (f4 : (-2147483648) ≤ n2) (f5 : n3 = 30) (f6 : (hLe T0 H0 H1 ∧ hFr s_95.2.2.2.2 H0 H1 ∧ hWt T0 H1) ∧ ((True ∧ Bbo_95_0 n3 n2 n1 n0 H0 H1) ∧ True) ∧ some q0 = some (mub_95_0 n3 n2 n1 n0 H0 H1)) (f7 : n4 ≤ 2147483647) (f8 : (-2147483648) ≤ n4) (f9 : hK H1 (n1).toNat = 4) (f10 : n4 = hV H1 (n1).toNat 15) (f11 : 0 < n4) (f12 : n5 = 49) (f13 : hK H1 (n1).toNat = 4) (f14 : n5 = hV H1 (n1).toNat 14) (f15 : n6 ≤ 2147483647) (f16 : (-2147483648) ≤ n6) (f17 : hK H1 (n1).toNat = 4) (f18 : n6 = hV H1 (n1).toNat 15) (f19 : n7 = 1) (f20 : n8 = w32 (n6 - n7)) (f21 : n9 ≤ 2147483647) (f22 : (-2147483648) ≤ n9) (f23 : (hLe T0 H1 H2 ∧ hFr s_199vk740.2.2.2.2 H1 H2 ∧ ((0 : Int) = 0 → H2.length = H1.length) ∧ hWt T0 H2) ∧ postb_199vk740 n9 n5 n8 H1 H2) (f24 : n10 ≤ 2147483647) (f25 : (-2147483648) ≤ n10) (f26 : (hLe T0 H2 H3 ∧ hFr s_93.2.2.2.2 H2 H3 ∧ ((0 : Int) = 0 → H3.length = H2.length) ∧ hWt T0 H3) ∧ (True ∧ nbo_93 n10 n9 H2 H3)) (f27 : n10 < n0) : nbo_95 n3 n2 H0 H3 := by
  have gb := f6.2.1.1.2
  unfold Bbo_95_0 at gb
  obtain ⟨e0, e1, gb⟩ := gb
  unfold nbo_95
  intro d ed ha
  have z0 := gb d ed ha
  have r10 : n4 = hV H1 30 15 := by
    have w := f10
    rw [f2] at w
    exact w
  have r14 : n5 = hV H1 30 14 := by
    have w := f14
    rw [f2] at w
    exact w
  have r18 : n6 = hV H1 30 15 := by
    have w := f18
    rw [f2] at w
    exact w
  have hm : (n2 = 1 ∧ decide (n2 = 2) = false) ∨ (n2 = 2 ∧ decide (n2 = 2) = true) := ha.elim (fun h => .inl ⟨h, decide_eq_false (by omega)⟩) (fun h => .inr ⟨h, decide_eq_true h⟩)
  have e8 := f20
  rw [f19] at e8
  have e9 := f23.2
  unfold postb_199vk740 at e9
  rw [f12] at e9
  have rk := f26.2.2
  unfold nbo_93 at rk
  exact REL_end z0 (by omega) r18 e8 e9 rk (by omega) hm (SMf_tr (SMf_fr f23.1.1 f23.1.2.1 (by decide +kernel) (by decide +kernel)) (SMf_fr f26.1.1 f26.1.2.1 (by decide +kernel) (by decide +kernel))) ((f26.1.2.1.1 30 15 (by decide +kernel)).trans (f23.1.2.1.1 30 15 (by decide +kernel))) ((fRow f26.1.2.1 49 (by decide +kernel)).trans (fRow f23.1.2.1 49 (by decide +kernel)))
def g_95o_0_1 : vG := ([(42, [10, 3], [], 0), (1093, [10, 9], [2, 3], 0), (90, [10], [], -2147483648), (91, [10], [], 2147483647), (1199, [9, 5, 8], [1, 2], 0), (90, [9], [], -2147483648), (91, [9], [], 2147483647), (2, [8, 6, 7], [], 0), (0, [7], [], 1), (20, [6, 2], [1], 15), (23, [2], [1], 4), (90, [6], [], -2147483648), (91, [6], [], 2147483647), (20, [5, 2], [1], 14), (23, [2], [1], 4), (0, [5], [], 49), (34, [4], [], 0), (20, [4, 2], [1], 15), (23, [2], [1], 4), (90, [4], [], -2147483648), (91, [4], [], 2147483647), (5000, [0, 1, 2, 3], [0, 1], 0), (0, [0], [], 30), (90, [1], [], -2147483648), (91, [1], [], 2147483647), (0, [2], [], 30), (90, [3], [], -2147483648), (91, [3], [], 2147483647)], (3000, [], [3], 62))
theorem c_95o_0_1 {q0 : Nat} : vOkm T0 (eN e_95 L_95o A_95 mu_95 no_95 Bo_95 (some q0)) 2 g_95o_0_1 := vOk_inI fun ρ η f0 f1 f2 f3 f4 f5 f6 f7 f8 f9 f10 f11 f12 f13 f14 f15 f16 f17 f18 f19 f20 f21 f22 f23 f24 f25 f26 f27 => q_95o_4 (q0 := q0) (n0 := ρ 3) (n1 := ρ 2) (n2 := ρ 1) (n3 := ρ 0) (n4 := ρ 4) (n5 := ρ 5) (n6 := ρ 6) (n7 := ρ 7) (n8 := ρ 8) (n9 := ρ 9) (n10 := ρ 10) (H0 := η 0) (H1 := η 1) (H2 := η 2) (H3 := η 3) f27 f26 f25 f24 f23 f22 f21 f20 f19 f18 f17 f16 f15 f14 f13 f12 f11 f10 f9 f8 f7 f6 f5 f4 f3 f2 f1 f0
theorem q_95o_5 {q0 : Nat} {n0 n1 n2 n3 n4 n5 n6 n7 n8 n9 n10 n11 n12 n13 n14 n15 n16 n17 n18 n19 n20 : Int} {H0 H1 H2 H3 H4 H5 H6 : gH} (f0 : n0 ≤ 2147483647) (f1 : (-2147483648) ≤ n0) (f2 : n1 = 30) (f3 : n2 ≤ 2147483647) (f4 : (-2147483648) ≤ n2) (f5 : n3 = 30) (f6 : (hLe T0 H0 H1 ∧ hFr s_95.2.2.2.2 H0 H1 ∧ hWt T0 H1) ∧ ((True ∧ Bbo_95_0 n3 n2 n1 n0 H0 H1) ∧ True) ∧ some q0 = some (mub_95_0 n3 n2 n1 n0 H0 H1)) (f7 : n4 ≤ 2147483647) (f8 : (-2147483648) ≤ n4) (f9 : hK H1 (n1).toNat = 4) (f10 : n4 = hV H1 (n1).toNat 15) (f11 : 0 < n4) (f12 : n5 = 49) (f13 : hK H1 (n1).toNat = 4) (f14 : n5 = hV H1 (n1).toNat 14) (f15 : n6 ≤ 2147483647) (f16 : (-2147483648) ≤ n6) (f17 : hK H1 (n1).toNat = 4) (f18 : n6 = hV H1 (n1).toNat 15) (f19 : n7 = 1) (f20 : n8 = w32 (n6 - n7)) (f21 : n9 ≤ 2147483647) (f22 : (-2147483648) ≤ n9) (f23 : (hLe T0 H1 H2 ∧ hFr s_199vk740.2.2.2.2 H1 H2 ∧ ((0 : Int) = 0 → H2.length = H1.length) ∧ hWt T0 H2) ∧ postb_199vk740 n9 n5 n8 H1 H2) (f24 : n10 ≤ 2147483647) (f25 : (-2147483648) ≤ n10) (f26 : (hLe T0 H2 H3 ∧ hFr s_93.2.2.2.2 H2 H3 ∧ ((0 : Int) = 0 → H3.length = H2.length) ∧ hWt T0 H3) ∧ (True ∧ nbo_93 n10 n9 H2 H3)) (f27 : n0 ≤ n10) (f28 : n11 ≤ 2147483647) (f29 : (-2147483648) ≤ n11) (f30 : hK H3 (n1).toNat = 4) (f31 : n11 = hV H3 (n1).toNat 15) (f32 : n12 = 1) (f33 : n13 = w32 (n11 - n12)) (f34 : hK H3 (n1).toNat = 4) (f35 : n14 = 15) (f36 : hUpd H4 H3 n1 n14 n13) (f37 : 0 ≤ n15) (f38 : hK H4 (n1).toNat = 4) (f39 : n15 = hV H4 (n1).toNat 8) (f40 : n16 = 10000) (f41 : n17 = 49) (f42 : hK H4 (n1).toNat = 4) (f43 : n17 = hV H4 (n1).toNat 14) (f44 : n18 ≤ 2147483647) (f45 : (-2147483648) ≤ n18) (f46 : hK H4 (n1).toNat = 4) (f47 : n18 = hV H4 (n1).toNat 15) (f48 : n19 ≤ 2147483647) (f49 : (-2147483648) ≤ n19) (f50 : (hLe T0 H4 H5 ∧ hFr s_199vk740.2.2.2.2 H4 H5 ∧ ((0 : Int) = 0 → H5.length = H4.length) ∧ hWt T0 H5) ∧ postb_199vk740 n19 n17 n18 H4 H5) (f51 : n20 = w32 (n16 + n19)) (f52 : (hLe T0 H5 H6 ∧ hFr s_98.2.2.2.2 H5 H6 ∧ ((0 : Int) = 0 → H6.length = H5.length) ∧ hWt T0 H6) ∧ (True ∧ nbo_98 n15 n20 H5 H6)) : Bbo_95_0 n3 n2 n1 n0 H0 H6 := by
  have gb := f6.2.1.1.2
  unfold Bbo_95_0 at gb
  obtain ⟨e0, e1, gb⟩ := gb
  unfold Bbo_95_0
  refine ⟨e0, e1, fun d ed ha => ?_⟩
  have z0 := gb d ed ha
  have r10 : n4 = hV H1 30 15 := by
    have w := f10
    rw [f2] at w
    exact w
  have r14 : n5 = hV H1 30 14 := by
    have w := f14
    rw [f2] at w
    exact w
  have r18 : n6 = hV H1 30 15 := by
    have w := f18
    rw [f2] at w
    exact w
  have r31 : n11 = hV H3 30 15 := by
    have w := f31
    rw [f2] at w
    exact w
  have r39 : n15 = hV H4 30 8 := by
    have w := f39
    rw [f2] at w
    exact w
  have r43 : n17 = hV H4 30 14 := by
    have w := f43
    rw [f2] at w
    exact w
  have r47 : n18 = hV H4 30 15 := by
    have w := f47
    rw [f2] at w
    exact w
  have hm : (n2 = 1 ∧ decide (n2 = 2) = false) ∨ (n2 = 2 ∧ decide (n2 = 2) = true) := ha.elim (fun h => .inl ⟨h, decide_eq_false (by omega)⟩) (fun h => .inr ⟨h, decide_eq_true h⟩)
  have e8 := f20
  rw [f19] at e8
  have e9 := f23.2
  unfold postb_199vk740 at e9
  rw [f12] at e9
  have rk := f26.2.2
  unfold nbo_93 at rk
  have e13 := f33
  rw [f32] at e13
  have e19 := f50.2
  unfold postb_199vk740 at e19
  rw [f41] at e19
  have w20 := f51
  rw [f40] at w20
  have em := f52.2.2
  unfold nbo_98 at em
  rw [r39, show hV H4 30 8 = d from ((uSlot f36 30 8 (by rw [f35]; decide)).trans ((f26.1.2.1.1 30 8 (by decide +kernel)).trans (f23.1.2.1.1 30 8 (by decide +kernel)))).trans ((f6.1.2.1.1 30 8 (by decide +kernel)).trans ed.symm)] at em
  have k30 : hK H3 30 = 4 := by
    have w := f30
    rw [f2] at w
    exact w
  exact REL_step z0 (by omega) r18 e8 e9 rk (by omega) hm (SMf_tr (SMf_fr f23.1.1 f23.1.2.1 (by decide +kernel) (by decide +kernel)) (SMf_fr f26.1.1 f26.1.2.1 (by decide +kernel) (by decide +kernel))) ((f26.1.2.1.1 30 15 (by decide +kernel)).trans (f23.1.2.1.1 30 15 (by decide +kernel))) ((fRow f26.1.2.1 49 (by decide +kernel)).trans (fRow f23.1.2.1 49 (by decide +kernel))) r31 e13 k30 f36 f2 f35 r47 e19 (SMf_fr f50.1.1 f50.1.2.1 (by decide +kernel) (by decide +kernel)) (f50.1.2.1.1 30 15 (by decide +kernel)) (fRow f50.1.2.1 49 (by decide +kernel)) w20 em (f52.1.2.1.1 30 15 (by decide +kernel)) (fRow f52.1.2.1 49 (by decide +kernel)) (fun w => W49_le f52.1.1 w)
def g_95o_0_2 : vG := ([(1098, [15, 20], [5, 6], 0), (1, [20, 16, 19], [], 0), (1199, [19, 17, 18], [4, 5], 0), (90, [19], [], -2147483648), (91, [19], [], 2147483647), (20, [18, 2], [4], 15), (23, [2], [4], 4), (90, [18], [], -2147483648), (91, [18], [], 2147483647), (20, [17, 2], [4], 14), (23, [2], [4], 4), (0, [17], [], 49), (0, [16], [], 10000), (20, [15, 2], [4], 8), (23, [2], [4], 4), (51, [15], [], 0), (80, [2, 14, 13], [4, 3], 0), (0, [14], [], 15), (23, [2], [3], 4), (2, [13, 11, 12], [], 0), (0, [12], [], 1), (20, [11, 2], [3], 15), (23, [2], [3], 4), (90, [11], [], -2147483648), (91, [11], [], 2147483647), (43, [10, 3], [], 0), (1093, [10, 9], [2, 3], 0), (90, [10], [], -2147483648), (91, [10], [], 2147483647), (1199, [9, 5, 8], [1, 2], 0), (90, [9], [], -2147483648), (91, [9], [], 2147483647), (2, [8, 6, 7], [], 0), (0, [7], [], 1), (20, [6, 2], [1], 15), (23, [2], [1], 4), (90, [6], [], -2147483648), (91, [6], [], 2147483647), (20, [5, 2], [1], 14), (23, [2], [1], 4), (0, [5], [], 49), (34, [4], [], 0), (20, [4, 2], [1], 15), (23, [2], [1], 4), (90, [4], [], -2147483648), (91, [4], [], 2147483647), (5000, [0, 1, 2, 3], [0, 1], 0), (0, [0], [], 30), (90, [1], [], -2147483648), (91, [1], [], 2147483647), (0, [2], [], 30), (90, [3], [], -2147483648), (91, [3], [], 2147483647)], (4000, [2, 3], [6], 0))
theorem c_95o_0_2 {q0 : Nat} : vOkm T0 (eN e_95 L_95o A_95 mu_95 no_95 Bo_95 (some q0)) 2 g_95o_0_2 := vOk_inI fun ρ η f0 f1 f2 f3 f4 f5 f6 f7 f8 f9 f10 f11 f12 f13 f14 f15 f16 f17 f18 f19 f20 f21 f22 f23 f24 f25 f26 f27 f28 f29 f30 f31 f32 f33 f34 f35 f36 f37 f38 f39 f40 f41 f42 f43 f44 f45 f46 f47 f48 f49 f50 f51 f52 => q_95o_5 (q0 := q0) (n0 := ρ 3) (n1 := ρ 2) (n2 := ρ 1) (n3 := ρ 0) (n4 := ρ 4) (n5 := ρ 5) (n6 := ρ 6) (n7 := ρ 7) (n8 := ρ 8) (n9 := ρ 9) (n10 := ρ 10) (n11 := ρ 11) (n12 := ρ 12) (n13 := ρ 13) (n14 := ρ 14) (n15 := ρ 15) (n16 := ρ 16) (n17 := ρ 17) (n18 := ρ 18) (n19 := ρ 19) (n20 := ρ 20) (H0 := η 0) (H1 := η 1) (H2 := η 2) (H3 := η 3) (H4 := η 4) (H5 := η 5) (H6 := η 6) f52 f51 f50 f49 f48 f47 f46 f45 f44 f43 f42 f41 f40 f39 f38 f37 f36 f35 f34 f33 f32 f31 f30 f29 f28 f27 f26 f25 f24 f23 f22 f21 f20 f19 f18 f17 f16 f15 f14 f13 f12 f11 f10 f9 f8 f7 f6 f5 f4 f3 f2 f1 f0
def p_95o_0 : List vG := [g_95o_0_0,
  g_95o_0_1,
  g_95o_0_2]
theorem r_95o_0 : vCovBO (eRc e_95 L_95 cs_95 2000 (0, [(0, (3, 4, 30, 0)), (1, (0, -2147483648, 2147483647, 0))])) p_95o_0 = true := by decide +kernel
theorem m_95o (d : Nat) : eC e_95o (d + 2) := eC_ref (e := e_95) (L := L_95) (L' := L_95o) (cs := cs_95) (n := 2000) (d := d + 1) (A := A_95) (μ := mu_95) (tp := true) (p0 := p_95_s) (p1 := p_95o_s) (N := no_95) (B := Bo_95) rfl ⟨m_93o d, ⟨m_98o d, ⟨m_199vk740 d, trivial⟩⟩⟩ rfl (.inr pre0_ok) (by decide +kernel) (fun _ => post0_ok) r_95_s (allC c_95_s_0 allN) (allC (.inl ⟨p_95_0, r_95_0, fun q0 => (allC c_95_0_0 allN)⟩) allN) (sub1 (sub1 ⟨⟨rfl, rfl, rfl, fun _ _ _ _ => trivial⟩, trivial⟩)) r_95o_s (allC c_95o_s_0 (allC c_95o_s_1 (allC c_95o_s_2 allN))) (allC ⟨p_95o_0, r_95o_0, fun q0 => (allC c_95o_0_0 (allC c_95o_0_1 (allC c_95o_0_2 allN)))⟩ allN)
