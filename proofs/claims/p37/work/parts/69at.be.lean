/- Rules.beginRule ()V, more fully -/
def nbo_99 (a0 : Int) (h0 h : gH) : Prop := RO h0 a0 → PUTr h0 h a0 2 (hV h0 (a0).toNat 0) (hV h0 (a0).toNat 2)
def no_99 : List Int → gH → gH → Prop := fun xs h0 h => match xs with
  | [a0] => nbo_99 a0 h0 h
  | _ => True
noncomputable def e_99o : vE := eV e_99 no_99
noncomputable def L_99o : List vE := [e_201vk100]
def Bo_99 : Int → List Int → gH → gH → Prop := fun c xs h0 h => True
theorem q_99o_0 {n0 n1 n2 n3 : Int} {H0 H1 : gH} (f0 : 0 ≤ n0) (f1 : hWt T0 H0 ∧ True) (f2 : 0 ≤ n1) (f3 : hK H0 (n0).toNat = 5) (f4 : n1 = hV H0 (n0).toNat 3) (f5 : n2 ≤ 2147483647) (f6 : (-2147483648) ≤ n2) (f7 : hK H0 (n0).toNat = 5) (f8 : n2 = hV H0 (n0).toNat 0) (f9 : n3 ≤ 2147483647) (f10 : (-2147483648) ≤ n3) (f11 : hK H0 (n0).toNat = 5) (f12 : n3 = hV H0 (n0).toNat 2) (f13 : (hLe T0 H0 H1 ∧ hFr s_201vk100.2.2.2.2 H0 H1 ∧ ((0 : Int) = 0 → H1.length = H0.length) ∧ hWt T0 H1) ∧ postb_201vk100 n1 n2 n3 H0 H1) : nbo_99 n0 H0 H1 := by
  unfold nbo_99
  intro z
  have pp := f13.2
  unfold postb_201vk100 at pp
  rw [f8, f12] at pp
  exact PUTr_at z f13.1.1 pp (by decide) (by decide) f4
def g_99o_s_0 : vG := ([(1201, [1, 2, 3], [0, 1], 0), (20, [3, 0], [0], 2), (23, [0], [0], 5), (90, [3], [], -2147483648), (91, [3], [], 2147483647), (20, [2, 0], [0], 0), (23, [0], [0], 5), (90, [2], [], -2147483648), (91, [2], [], 2147483647), (20, [1, 0], [0], 3), (23, [0], [0], 5), (51, [1], [], 0), (6000, [0], [0], 0), (51, [0], [], 0)], (3000, [], [1], 15))
theorem c_99o_s_0 : vOkm T0 (eN e_99 L_99o A_99 mu_99 no_99 Bo_99 none) 1 g_99o_s_0 := vOk_inI fun ρ η f0 f1 f2 f3 f4 f5 f6 f7 f8 f9 f10 f11 f12 f13 => q_99o_0 (n0 := ρ 0) (n1 := ρ 1) (n2 := ρ 2) (n3 := ρ 3) (H0 := η 0) (H1 := η 1) f13 f12 f11 f10 f9 f8 f7 f6 f5 f4 f3 f2 f1 f0
def p_99o_s : List vG := [g_99o_s_0]
theorem r_99o_s : vCovBO (eR0 e_99 L_99 cs_99 2000) p_99o_s = true := by decide +kernel
theorem m_99o (d : Nat) : eC e_99o (d + 2) := eC_ref (e := e_99) (L := L_99) (L' := L_99o) (cs := cs_99) (n := 2000) (d := d + 1) (A := A_99) (μ := mu_99) (tp := true) (p0 := p_99_s) (p1 := p_99o_s) (N := no_99) (B := Bo_99) rfl ⟨m_201vk100 d, trivial⟩ rfl (.inr pre0_ok) (by decide +kernel) (fun _ => post0_ok) r_99_s allN allN ⟨⟨rfl, rfl, rfl, fun _ _ _ _ => trivial⟩, trivial⟩ r_99o_s (allC c_99o_s_0 allN) allN
/- Rules.endSum ()V, more fully -/
def nbo_100 (a0 : Int) (h0 h : gH) : Prop := RO h0 a0 → PUTr h0 h a0 3 (hV h0 (a0).toNat 0) (hV h0 (a0).toNat 2)
def no_100 : List Int → gH → gH → Prop := fun xs h0 h => match xs with
  | [a0] => nbo_100 a0 h0 h
  | _ => True
noncomputable def e_100o : vE := eV e_100 no_100
noncomputable def L_100o : List vE := [e_201vk100]
def Bo_100 : Int → List Int → gH → gH → Prop := fun c xs h0 h => True
theorem q_100o_0 {n0 n1 n2 n3 : Int} {H0 H1 : gH} (f0 : 0 ≤ n0) (f1 : hWt T0 H0 ∧ True) (f2 : 0 ≤ n1) (f3 : hK H0 (n0).toNat = 5) (f4 : n1 = hV H0 (n0).toNat 4) (f5 : n2 ≤ 2147483647) (f6 : (-2147483648) ≤ n2) (f7 : hK H0 (n0).toNat = 5) (f8 : n2 = hV H0 (n0).toNat 0) (f9 : n3 ≤ 2147483647) (f10 : (-2147483648) ≤ n3) (f11 : hK H0 (n0).toNat = 5) (f12 : n3 = hV H0 (n0).toNat 2) (f13 : (hLe T0 H0 H1 ∧ hFr s_201vk100.2.2.2.2 H0 H1 ∧ ((0 : Int) = 0 → H1.length = H0.length) ∧ hWt T0 H1) ∧ postb_201vk100 n1 n2 n3 H0 H1) : nbo_100 n0 H0 H1 := by
  unfold nbo_100
  intro z
  have pp := f13.2
  unfold postb_201vk100 at pp
  rw [f8, f12] at pp
  exact PUTr_at z f13.1.1 pp (by decide) (by decide) f4
def g_100o_s_0 : vG := ([(1201, [1, 2, 3], [0, 1], 0), (20, [3, 0], [0], 2), (23, [0], [0], 5), (90, [3], [], -2147483648), (91, [3], [], 2147483647), (20, [2, 0], [0], 0), (23, [0], [0], 5), (90, [2], [], -2147483648), (91, [2], [], 2147483647), (20, [1, 0], [0], 4), (23, [0], [0], 5), (51, [1], [], 0), (6000, [0], [0], 0), (51, [0], [], 0)], (3000, [], [1], 15))
theorem c_100o_s_0 : vOkm T0 (eN e_100 L_100o A_100 mu_100 no_100 Bo_100 none) 1 g_100o_s_0 := vOk_inI fun ρ η f0 f1 f2 f3 f4 f5 f6 f7 f8 f9 f10 f11 f12 f13 => q_100o_0 (n0 := ρ 0) (n1 := ρ 1) (n2 := ρ 2) (n3 := ρ 3) (H0 := η 0) (H1 := η 1) f13 f12 f11 f10 f9 f8 f7 f6 f5 f4 f3 f2 f1 f0
def p_100o_s : List vG := [g_100o_s_0]
theorem r_100o_s : vCovBO (eR0 e_100 L_100 cs_100 2000) p_100o_s = true := by decide +kernel
theorem m_100o (d : Nat) : eC e_100o (d + 2) := eC_ref (e := e_100) (L := L_100) (L' := L_100o) (cs := cs_100) (n := 2000) (d := d + 1) (A := A_100) (μ := mu_100) (tp := true) (p0 := p_100_s) (p1 := p_100o_s) (N := no_100) (B := Bo_100) rfl ⟨m_201vk100 d, trivial⟩ rfl (.inr pre0_ok) (by decide +kernel) (fun _ => post0_ok) r_100_s allN allN ⟨⟨rfl, rfl, rfl, fun _ _ _ _ => trivial⟩, trivial⟩ r_100o_s (allC c_100o_s_0 allN) allN
/- Rules.endRight ()V, more fully -/
def nbo_101 (a0 : Int) (h0 h : gH) : Prop := ENDp h0 h a0 4 (hV h0 (a0).toNat 2) 0
def no_101 : List Int → gH → gH → Prop := fun xs h0 h => match xs with
  | [a0] => nbo_101 a0 h0 h
  | _ => True
noncomputable def e_101o : vE := eV e_101v no_101
noncomputable def L_101o : List vE := [e_201vk100]
def Bo_101 : Int → List Int → gH → gH → Prop := fun c xs h0 h => True
theorem q_101o_0 {n0 n1 n2 n3 n4 n5 n6 n7 n8 n9 n10 : Int} {H0 H1 H2 H3 : gH} (f0 : 0 ≤ n0) (f1 : hWt T0 H0 ∧ preb_101v n0 H0) (f2 : 0 ≤ n1) (f3 : hK H0 (n0).toNat = 5) (f4 : n1 = hV H0 (n0).toNat 5) (f5 : n2 ≤ 2147483647) (f6 : (-2147483648) ≤ n2) (f7 : hK H0 (n0).toNat = 5) (f8 : n2 = hV H0 (n0).toNat 0) (f9 : n3 ≤ 2147483647) (f10 : (-2147483648) ≤ n3) (f11 : hK H0 (n0).toNat = 5) (f12 : n3 = hV H0 (n0).toNat 2) (f13 : (hLe T0 H0 H1 ∧ hFr s_201vk100.2.2.2.2 H0 H1 ∧ ((0 : Int) = 0 → H1.length = H0.length) ∧ hWt T0 H1) ∧ postb_201vk100 n1 n2 n3 H0 H1) (f14 : 0 ≤ n4) (f15 : hK H1 (n0).toNat = 5) (f16 : n4 = hV H1 (n0).toNat 7) (f17 : n5 ≤ 2147483647) (f18 : (-2147483648) ≤ n5) (f19 : hK H1 (n0).toNat = 5) (f20 : n5 = hV H1 (n0).toNat 0) (f21 : n6 = 0) (f22 : (hLe T0 H1 H2 ∧ hFr s_201vk100.2.2.2.2 H1 H2 ∧ ((0 : Int) = 0 → H2.length = H1.length) ∧ hWt T0 H2) ∧ postb_201vk100 n4 n5 n6 H1 H2) (f23 : n7 ≤ 2147483647) (f24 : (-2147483648) ≤ n7) (f25 : hK H2 (n0).toNat = 5) (f26 : n7 = hV H2 (n0).toNat 0) (f27 : n8 = 1) (f28 : n9 = w32 (n7 + n8)) (f29 : hK H2 (n0).toNat = 5) (f30 : n10 = 0) (f31 : hUpd H3 H2 n0 n10 n9) : nbo_101 n0 H0 H3 := by
  unfold nbo_101
  have pp := f13.2
  unfold postb_201vk100 at pp
  have pq := f22.2
  unfold postb_201vk100 at pq
  have w := f28
  rw [f27] at w
  rw [f12] at pp
  rw [f21] at pq
  exact END_at (s := 5) (by decide) (by decide) f4 f8 f13.1.1 pp f16 f20 f22.1.1 pq f26 w f31 rfl f30
def g_101o_s_0 : vG := ([(80, [0, 10, 9], [3, 2], 0), (0, [10], [], 0), (23, [0], [2], 5), (1, [9, 7, 8], [], 0), (0, [8], [], 1), (20, [7, 0], [2], 0), (23, [0], [2], 5), (90, [7], [], -2147483648), (91, [7], [], 2147483647), (1201, [4, 5, 6], [1, 2], 0), (0, [6], [], 0), (20, [5, 0], [1], 0), (23, [0], [1], 5), (90, [5], [], -2147483648), (91, [5], [], 2147483647), (20, [4, 0], [1], 7), (23, [0], [1], 5), (51, [4], [], 0), (1201, [1, 2, 3], [0, 1], 0), (20, [3, 0], [0], 2), (23, [0], [0], 5), (90, [3], [], -2147483648), (91, [3], [], 2147483647), (20, [2, 0], [0], 0), (23, [0], [0], 5), (90, [2], [], -2147483648), (91, [2], [], 2147483647), (20, [1, 0], [0], 5), (23, [0], [0], 5), (51, [1], [], 0), (6000, [0], [0], 0), (51, [0], [], 0)], (3000, [], [3], 37))
theorem c_101o_s_0 : vOkm T0 (eN e_101v L_101o A_101v mu_101v no_101 Bo_101 none) 1 g_101o_s_0 := vOk_inI fun ρ η f0 f1 f2 f3 f4 f5 f6 f7 f8 f9 f10 f11 f12 f13 f14 f15 f16 f17 f18 f19 f20 f21 f22 f23 f24 f25 f26 f27 f28 f29 f30 f31 => q_101o_0 (n0 := ρ 0) (n1 := ρ 1) (n2 := ρ 2) (n3 := ρ 3) (n4 := ρ 4) (n5 := ρ 5) (n6 := ρ 6) (n7 := ρ 7) (n8 := ρ 8) (n9 := ρ 9) (n10 := ρ 10) (H0 := η 0) (H1 := η 1) (H2 := η 2) (H3 := η 3) f31 f30 f29 f28 f27 f26 f25 f24 f23 f22 f21 f20 f19 f18 f17 f16 f15 f14 f13 f12 f11 f10 f9 f8 f7 f6 f5 f4 f3 f2 f1 f0
def p_101o_s : List vG := [g_101o_s_0]
theorem r_101o_s : vCovBO (eR0 e_101v L_101v cs_101v 2000) p_101o_s = true := by decide +kernel
theorem m_101o (d : Nat) : eC e_101o (d + 2) := eC_ref (e := e_101v) (L := L_101v) (L' := L_101o) (cs := cs_101v) (n := 2000) (d := d + 1) (A := A_101v) (μ := mu_101v) (tp := false) (p0 := p_101v_s) (p1 := p_101o_s) (N := no_101) (B := Bo_101) rfl ⟨m_201vk100 d, trivial⟩ rfl (.inl rfl) (by decide +kernel) (fun z => nomatch z) r_101v_s (allC c_101v_s_0 allN) allN ⟨⟨rfl, rfl, rfl, fun _ _ _ z => z⟩, trivial⟩ r_101o_s (allC c_101o_s_0 allN) allN
/- Rules.endLoud (II)V, more fully -/
def nbo_102 (a0 a1 a2 : Int) (h0 h : gH) : Prop := ENDp h0 h a0 5 a1 a2
def no_102 : List Int → gH → gH → Prop := fun xs h0 h => match xs with
  | [a0, a1, a2] => nbo_102 a0 a1 a2 h0 h
  | _ => True
noncomputable def e_102o : vE := eV e_102v no_102
noncomputable def L_102o : List vE := [e_201vk100]
def Bo_102 : Int → List Int → gH → gH → Prop := fun c xs h0 h => True
theorem q_102o_0 {n0 n1 n2 n3 n4 n5 n6 n7 n8 n9 n10 : Int} {H0 H1 H2 H3 : gH} (f0 : n0 ≤ 2147483647) (f1 : (-2147483648) ≤ n0) (f2 : n1 ≤ 2147483647) (f3 : (-2147483648) ≤ n1) (f4 : 0 ≤ n2) (f5 : hWt T0 H0 ∧ preb_102v n2 n1 n0 H0) (f6 : 0 ≤ n3) (f7 : hK H0 (n2).toNat = 5) (f8 : n3 = hV H0 (n2).toNat 6) (f9 : n4 ≤ 2147483647) (f10 : (-2147483648) ≤ n4) (f11 : hK H0 (n2).toNat = 5) (f12 : n4 = hV H0 (n2).toNat 0) (f13 : (hLe T0 H0 H1 ∧ hFr s_201vk100.2.2.2.2 H0 H1 ∧ ((0 : Int) = 0 → H1.length = H0.length) ∧ hWt T0 H1) ∧ postb_201vk100 n3 n4 n1 H0 H1) (f14 : 0 ≤ n5) (f15 : hK H1 (n2).toNat = 5) (f16 : n5 = hV H1 (n2).toNat 7) (f17 : n6 ≤ 2147483647) (f18 : (-2147483648) ≤ n6) (f19 : hK H1 (n2).toNat = 5) (f20 : n6 = hV H1 (n2).toNat 0) (f21 : (hLe T0 H1 H2 ∧ hFr s_201vk100.2.2.2.2 H1 H2 ∧ ((0 : Int) = 0 → H2.length = H1.length) ∧ hWt T0 H2) ∧ postb_201vk100 n5 n6 n0 H1 H2) (f22 : n7 ≤ 2147483647) (f23 : (-2147483648) ≤ n7) (f24 : hK H2 (n2).toNat = 5) (f25 : n7 = hV H2 (n2).toNat 0) (f26 : n8 = 1) (f27 : n9 = w32 (n7 + n8)) (f28 : hK H2 (n2).toNat = 5) (f29 : n10 = 0) (f30 : hUpd H3 H2 n2 n10 n9) : nbo_102 n2 n1 n0 H0 H3 := by
  unfold nbo_102
  have pp := f13.2
  unfold postb_201vk100 at pp
  have pq := f21.2
  unfold postb_201vk100 at pq
  have w := f27
  rw [f26] at w
  exact END_at (s := 6) (by decide) (by decide) f8 f12 f13.1.1 pp f16 f20 f21.1.1 pq f25 w f30 rfl f29
def g_102o_s_0 : vG := ([(80, [0, 10, 9], [3, 2], 0), (0, [10], [], 0), (23, [0], [2], 5), (1, [9, 7, 8], [], 0), (0, [8], [], 1), (20, [7, 0], [2], 0), (23, [0], [2], 5), (90, [7], [], -2147483648), (91, [7], [], 2147483647), (1201, [5, 6, 2], [1, 2], 0), (20, [6, 0], [1], 0), (23, [0], [1], 5), (90, [6], [], -2147483648), (91, [6], [], 2147483647), (20, [5, 0], [1], 7), (23, [0], [1], 5), (51, [5], [], 0), (1201, [3, 4, 1], [0, 1], 0), (20, [4, 0], [0], 0), (23, [0], [0], 5), (90, [4], [], -2147483648), (91, [4], [], 2147483647), (20, [3, 0], [0], 6), (23, [0], [0], 5), (51, [3], [], 0), (6000, [0, 1, 2], [0], 0), (51, [0], [], 0), (90, [1], [], -2147483648), (91, [1], [], 2147483647), (90, [2], [], -2147483648), (91, [2], [], 2147483647)], (3000, [], [3], 34))
theorem c_102o_s_0 : vOkm T0 (eN e_102v L_102o A_102v mu_102v no_102 Bo_102 none) 3 g_102o_s_0 := vOk_inI fun ρ η f0 f1 f2 f3 f4 f5 f6 f7 f8 f9 f10 f11 f12 f13 f14 f15 f16 f17 f18 f19 f20 f21 f22 f23 f24 f25 f26 f27 f28 f29 f30 => q_102o_0 (n0 := ρ 2) (n1 := ρ 1) (n2 := ρ 0) (n3 := ρ 3) (n4 := ρ 4) (n5 := ρ 5) (n6 := ρ 6) (n7 := ρ 7) (n8 := ρ 8) (n9 := ρ 9) (n10 := ρ 10) (H0 := η 0) (H1 := η 1) (H2 := η 2) (H3 := η 3) f30 f29 f28 f27 f26 f25 f24 f23 f22 f21 f20 f19 f18 f17 f16 f15 f14 f13 f12 f11 f10 f9 f8 f7 f6 f5 f4 f3 f2 f1 f0
def p_102o_s : List vG := [g_102o_s_0]
theorem r_102o_s : vCovBO (eR0 e_102v L_102v cs_102v 2000) p_102o_s = true := by decide +kernel
theorem m_102o (d : Nat) : eC e_102o (d + 2) := eC_ref (e := e_102v) (L := L_102v) (L' := L_102o) (cs := cs_102v) (n := 2000) (d := d + 1) (A := A_102v) (μ := mu_102v) (tp := false) (p0 := p_102v_s) (p1 := p_102o_s) (N := no_102) (B := Bo_102) rfl ⟨m_201vk100 d, trivial⟩ rfl (.inl rfl) (by decide +kernel) (fun z => nomatch z) r_102v_s (allC c_102v_s_0 allN) allN ⟨⟨rfl, rfl, rfl, fun _ _ _ z => z⟩, trivial⟩ r_102o_s (allC c_102o_s_0 allN) allN
/- Rules.empty ()V, more fully -/
def nbo_97 (a0 : Int) (h0 h : gH) : Prop := RO h0 a0 → RO h a0 ∧ OT h0 h a0 ∧ (∀ k : Nat, 1 ≤ k → hV h ((a0).toNat + k) = hV h0 ((a0).toNat + k)) ∧ hV h (a0).toNat 0 = 0 ∧ hV h (a0).toNat 2 = 0
def no_97 : List Int → gH → gH → Prop := fun xs h0 h => match xs with
  | [a0] => nbo_97 a0 h0 h
  | _ => True
noncomputable def e_97o : vE := eV e_97v no_97
noncomputable def L_97o : List vE := []
def Bo_97 : Int → List Int → gH → gH → Prop := fun c xs h0 h => True
theorem q_97o_0 {n0 n1 n2 n3 n4 : Int} {H0 H1 H2 : gH} (f0 : 0 ≤ n0) (f1 : hWt T0 H0 ∧ preb_97v n0 H0) (f2 : n1 = 0) (f3 : hK H0 (n0).toNat = 5) (f4 : n2 = 0) (f5 : hUpd H1 H0 n0 n2 n1) (f6 : n3 = 0) (f7 : hK H1 (n0).toNat = 5) (f8 : n4 = 2) (f9 : hUpd H2 H1 n0 n4 n3) : nbo_97 n0 H0 H2 := by
  unfold nbo_97
  intro z
  obtain ⟨a1, a2, a3, a4, a5⟩ := slot_up z f5 rfl (.inl f4)
  obtain ⟨b1, b2, b3, b4, b5⟩ := slot_up a1 f9 rfl (.inr f8)
  rw [f4] at a5
  rw [f8] at b5
  exact ⟨b1, OT_tr a2 b2, fun k k1 => (b3 k k1).trans (a3 k k1), (b4 0 (by omega)).trans (a5.trans f2), b5.trans f6⟩
def g_97o_s_0 : vG := ([(80, [0, 4, 3], [2, 1], 0), (0, [4], [], 2), (23, [0], [1], 5), (0, [3], [], 0), (80, [0, 2, 1], [1, 0], 0), (0, [2], [], 0), (23, [0], [0], 5), (0, [1], [], 0), (6000, [0], [0], 0), (51, [0], [], 0)], (3000, [], [2], 10))
theorem c_97o_s_0 : vOkm T0 (eN e_97v L_97o A_97v mu_97v no_97 Bo_97 none) 1 g_97o_s_0 := vOk_inI fun ρ η f0 f1 f2 f3 f4 f5 f6 f7 f8 f9 => q_97o_0 (n0 := ρ 0) (n1 := ρ 1) (n2 := ρ 2) (n3 := ρ 3) (n4 := ρ 4) (H0 := η 0) (H1 := η 1) (H2 := η 2) f9 f8 f7 f6 f5 f4 f3 f2 f1 f0
def p_97o_s : List vG := [g_97o_s_0]
theorem r_97o_s : vCovBO (eR0 e_97v L_97v cs_97v 2000) p_97o_s = true := by decide +kernel
theorem m_97o (d : Nat) : eC e_97o (d + 1) := eC_ref (e := e_97v) (L := L_97v) (L' := L_97o) (cs := cs_97v) (n := 2000) (d := d + 0) (A := A_97v) (μ := mu_97v) (tp := false) (p0 := p_97v_s) (p1 := p_97o_s) (N := no_97) (B := Bo_97) rfl trivial rfl (.inl rfl) (by decide +kernel) (fun z => nomatch z) r_97v_s (allC c_97v_s_0 allN) allN trivial r_97o_s (allC c_97o_s_0 allN) allN
