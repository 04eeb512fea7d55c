/-! CONTRACTS of methods told more fully. -/
def postb_82w (a0 a1 : Int) (h0 h : gH) : Prop := postb_82 a0 a1 h0 h ∧ nb_82 a0 a1 h0 h
/- MixStage.tellSheet ()V -/
noncomputable def s_193y : vM := ([(3, 11, 7, 0)], (9, 0, 0, 0), 1, 1, [(1, 0), (1, 1), (1, 2), (1, 3), (1, 4), (1, 5), (1, 6), (1, 7), (1, 8), (1, 9), (1, 10), (1, 11), (1, 12), (1, 13), (1, 14), (1, 15), (1, 16), (1, 18), (3, 4), (6, 2), (6, 3), (6, 4), (11, 4), (104, 0), (106, 0), (796, 0)])
def preb_193y (a0 : Int) (h : gH) : Prop := True
def pre_193y : List Int → gH → Prop := fun xs h => match xs with
  | [a0] => preb_193y a0 h
  | _ => False
def postb_193y (a0 : Int) (h0 h : gH) : Prop := TSW h0 → TSY h0 h
def post_193y : List Int → gH → gH → Prop := fun xs h0 h => match xs with
  | [a0] => postb_193y a0 h0 h
  | _ => True
noncomputable def e_193y : vE := (193, s_193y, pre_193y, post_193y)
noncomputable def L_193y : List vE := [e_56, e_82w]
def cs_193y : List vC := [(20, [(0, (3, 11, 7, 0))]), (35, [(0, (3, 11, 7, 0)), (1, (3, 6, -1, 0))])]
def Ab_193y_20 (a0 x0 : Int) (h0 h : gH) : Prop := 0 ≤ hV h 7 4 ∧ hV h 7 4 < 8 ∧ h.length = h0.length ∧ hV h 7 4 = hV h0 7 4 ∧ h = h0
def mub_193y_20 (a0 x0 : Int) (h0 h : gH) : Nat := 1
def Ab_193y_35 (a0 x0 x1 : Int) (h0 h : gH) : Prop := 0 ≤ hV h 7 4 ∧ hV h 7 4 < 8 ∧ hK h (x1).toNat = 6 ∧ hV h (x1).toNat 2 = 0 ∧ h.length = h0.length + 2 ∧ hV h 7 4 = hV h0 7 4 ∧ x1 = (h0.length : Int) ∧ NSH h0 h
def mub_193y_35 (a0 x0 x1 : Int) (h0 h : gH) : Nat := 0
def A_193y : Int → List Int → gH → gH → Prop := fun c xs h0 h => match c.toNat with
  | 20 => 0 ≤ hV h 7 4 ∧ hV h 7 4 < 8 ∧ h.length = h0.length ∧ hV h 7 4 = hV h0 7 4 ∧ h = h0
  | 35 => (match xs with
    | [a0, x0, x1] => Ab_193y_35 a0 x0 x1 h0 h
    | _ => False)
  | _ => True
def mu_193y : Int → List Int → gH → gH → Nat := fun c xs h0 h => match c.toNat with
  | 20 => 1
  | 35 => 0
  | _ => 0
theorem q_193y_0 {n0 n1 : Int} {H0 : gH} (f0 : n0 = 7) (f1 : hWt T0 H0 ∧ preb_193y n0 H0) (f2 : n1 ≤ 8) (f3 : 0 ≤ n1) (f4 : n1 = hV H0 (n0).toNat 4) (f5 : n1 < 0) : postb_193y n0 H0 H0 := by
  exfalso
  clear f0 f1 f2 f4
  omega
theorem c_193y_s_0 : vOkm T0 (eP e_193y L_193y A_193y mu_193y none) 1 ([(32, [1], [], 0), (20, [1, 0], [0], 4), (90, [1], [], 0), (91, [1], [], 8), (6000, [0], [0], 0), (0, [0], [], 7)], (3000, [], [0], 19)) := vOk_in fun ρ η h => by
  obtain ⟨f0, f1, f2, f3, f4, f5, _⟩ := h
  exact q_193y_0 (n0 := ρ 0) (n1 := ρ 1) (H0 := η 0) f5 f4 f3 f2 f1 f0
theorem q_193y_1 {n0 n1 n2 n3 n4 : Int} {H0 : gH} (f0 : n0 = 7) (f1 : hWt T0 H0 ∧ preb_193y n0 H0) (f2 : n1 ≤ 8) (f3 : 0 ≤ n1) (f4 : n1 = hV H0 (n0).toNat 4) (f5 : 0 ≤ n1) (f6 : n2 ≤ 8) (f7 : 0 ≤ n2) (f8 : n2 = hV H0 (n0).toNat 4) (f9 : n3 = 9) (f10 : n3 = hV H0 (n0).toNat 3) (f11 : n4 = (hN H0 (n3).toNat : Int)) (f12 : n4 = 8) (f13 : n2 < n4) : Ab_193y_20 n0 n0 H0 H0 ∧ ∀ q, none = some q → mub_193y_20 n0 n0 H0 H0 < q := by
  have w4 : n1 = hV H0 7 4 := by
    have u := f4
    rw [f0] at u
    exact u
  have w8 : n2 = hV H0 7 4 := by
    have u := f8
    rw [f0] at u
    exact u
  unfold Ab_193y_20
  exact ⟨⟨by omega, by omega, rfl, rfl, rfl⟩, fun q hq => nomatch hq⟩
theorem c_193y_s_1 : vOkm T0 (eP e_193y L_193y A_193y mu_193y none) 1 ([(42, [2, 4], [], 0), (0, [4], [], 8), (21, [4, 3], [0], 0), (20, [3, 0], [0], 3), (0, [3], [], 9), (20, [2, 0], [0], 4), (90, [2], [], 0), (91, [2], [], 8), (33, [1], [], 0), (20, [1, 0], [0], 4), (90, [1], [], 0), (91, [1], [], 8), (6000, [0], [0], 0), (0, [0], [], 7)], (4000, [0], [0], 20)) := vOk_in fun ρ η h => by
  obtain ⟨f0, f1, f2, f3, f4, f5, f6, f7, f8, f9, f10, f11, f12, f13, _⟩ := h
  exact q_193y_1 (n0 := ρ 0) (n1 := ρ 1) (n2 := ρ 2) (n3 := ρ 3) (n4 := ρ 4) (H0 := η 0) f13 f12 f11 f10 f9 f8 f7 f6 f5 f4 f3 f2 f1 f0
theorem q_193y_2 {n0 n1 n2 n3 n4 : Int} {H0 : gH} (f0 : n0 = 7) (f1 : hWt T0 H0 ∧ preb_193y n0 H0) (f2 : n1 ≤ 8) (f3 : 0 ≤ n1) (f4 : n1 = hV H0 (n0).toNat 4) (f5 : 0 ≤ n1) (f6 : n2 ≤ 8) (f7 : 0 ≤ n2) (f8 : n2 = hV H0 (n0).toNat 4) (f9 : n3 = 9) (f10 : n3 = hV H0 (n0).toNat 3) (f11 : n4 = (hN H0 (n3).toNat : Int)) (f12 : n4 = 8) (f13 : n4 ≤ n2) : postb_193y n0 H0 H0 := by
  have w4 : n1 = hV H0 7 4 := by
    have u := f4
    rw [f0] at u
    exact u
  have w8 : n2 = hV H0 7 4 := by
    have u := f8
    rw [f0] at u
    exact u
  unfold postb_193y
  intro tw
  obtain ⟨ck, cu, k47, n47, b16, k79, r0, r6, e1, c0, c8⟩ := tw
  exfalso
  omega
theorem c_193y_s_2 : vOkm T0 (eP e_193y L_193y A_193y mu_193y none) 1 ([(43, [2, 4], [], 0), (0, [4], [], 8), (21, [4, 3], [0], 0), (20, [3, 0], [0], 3), (0, [3], [], 9), (20, [2, 0], [0], 4), (90, [2], [], 0), (91, [2], [], 8), (33, [1], [], 0), (20, [1, 0], [0], 4), (90, [1], [], 0), (91, [1], [], 8), (6000, [0], [0], 0), (0, [0], [], 7)], (3000, [], [0], 19)) := vOk_in fun ρ η h => by
  obtain ⟨f0, f1, f2, f3, f4, f5, f6, f7, f8, f9, f10, f11, f12, f13, _⟩ := h
  exact q_193y_2 (n0 := ρ 0) (n1 := ρ 1) (n2 := ρ 2) (n3 := ρ 3) (n4 := ρ 4) (H0 := η 0) f13 f12 f11 f10 f9 f8 f7 f6 f5 f4 f3 f2 f1 f0
def p_193y_s : List vG := [([(32, [1], [], 0), (20, [1, 0], [0], 4), (90, [1], [], 0), (91, [1], [], 8), (6000, [0], [0], 0), (0, [0], [], 7)], (3000, [], [0], 19)),
  ([(42, [2, 4], [], 0), (0, [4], [], 8), (21, [4, 3], [0], 0), (20, [3, 0], [0], 3), (0, [3], [], 9), (20, [2, 0], [0], 4), (90, [2], [], 0), (91, [2], [], 8), (33, [1], [], 0), (20, [1, 0], [0], 4), (90, [1], [], 0), (91, [1], [], 8), (6000, [0], [0], 0), (0, [0], [], 7)], (4000, [0], [0], 20)),
  ([(43, [2, 4], [], 0), (0, [4], [], 8), (21, [4, 3], [0], 0), (20, [3, 0], [0], 3), (0, [3], [], 9), (20, [2, 0], [0], 4), (90, [2], [], 0), (91, [2], [], 8), (33, [1], [], 0), (20, [1, 0], [0], 4), (90, [1], [], 0), (91, [1], [], 8), (6000, [0], [0], 0), (0, [0], [], 7)], (3000, [], [0], 19))]
theorem r_193y_s : vCovO false (eR0 e_193y L_193y cs_193y 2000) p_193y_s = true := by decide +kernel
theorem q_193y_3 {q0 : Nat} {n0 n1 n2 n3 : Int} {H0 H1 : gH} (f0 : 0 ≤ n0) (f1 : n1 = 7) (f2 : n2 = 7) (f3 : (hLe T0 H0 H1 ∧ hFr s_193y.2.2.2.2 H0 H1 ∧ hWt T0 H1) ∧ (Ab_193y_35 n2 n1 n0 H0 H1 ∧ preb_193y n2 H0) ∧ some q0 = some (mub_193y_35 n2 n1 n0 H0 H1)) (f4 : n3 = 30) (f5 : n3 = hV H1 (n1).toNat 8) : preb_82 n3 n0 H1 := by
  have g4 := f3.2.1.1
  unfold Ab_193y_35 at g4
  have g3 := f3.2.1.2
  unfold preb_193y at g3
  have g5 := Option.some.inj f3.2.2
  unfold mub_193y_35 at g5
  unfold preb_82
  have e0 : hV H1 7 8 = hV H0 7 8 := f3.1.2.1.1 7 8 (by decide +kernel)
  first | trivial | omega
theorem c_193y_35_0 {q0 : Nat} : vOkm T0 (eP e_193y L_193y A_193y mu_193y (some q0)) 1 ([(20, [3, 1], [1], 8), (0, [3], [], 30), (5000, [0, 1, 2], [0, 1], 35), (0, [0], [], 7), (0, [1], [], 7), (51, [2], [], 0)], (2082, [3, 2], [1], 0)) := vOk_in fun ρ η h => by
  obtain ⟨f0, f1, f2, f3, f4, f5, _⟩ := h
  exact q_193y_3 (q0 := q0) (n0 := ρ 2) (n1 := ρ 1) (n2 := ρ 0) (n3 := ρ 3) (H0 := η 0) (H1 := η 1) f5 f4 f3 f2 f1 f0
theorem q_193y_4 {q0 : Nat} {n0 n1 n2 n3 n4 n5 n6 : Int} {H0 H1 H2 H3 : gH} (f0 : 0 ≤ n0) (f1 : n1 = 7) (f2 : n2 = 7) (f3 : (hLe T0 H0 H1 ∧ hFr s_193y.2.2.2.2 H0 H1 ∧ hWt T0 H1) ∧ (Ab_193y_35 n2 n1 n0 H0 H1 ∧ preb_193y n2 H0) ∧ some q0 = some (mub_193y_35 n2 n1 n0 H0 H1)) (f4 : n3 = 30) (f5 : n3 = hV H1 (n1).toNat 8) (f6 : (hLe T0 H1 H2 ∧ hFr s_82.2.2.2.2 H1 H2 ∧ ((1 : Int) = 0 → H2.length = H1.length) ∧ hWt T0 H2) ∧ postb_82w n3 n0 H1 H2) (f7 : n4 = 19) (f8 : n4 = hV H2 (n1).toNat 6) (f9 : (hLe T0 H2 H3 ∧ hFr s_56.2.2.2.2 H2 H3 ∧ ((0 : Int) = 0 → H3.length = H2.length) ∧ hWt T0 H3) ∧ True) (f10 : n5 = 9) (f11 : n5 = hV H3 (n1).toNat 3) (f12 : n6 ≤ 8) (f13 : 0 ≤ n6) (f14 : n6 = hV H3 (n1).toNat 4) : 0 ≤ n6 ∧ n6 < 8 := by
  have g4 := f3.2.1.1
  unfold Ab_193y_35 at g4
  have g3 := f3.2.1.2
  unfold preb_193y at g3
  have g5 := Option.some.inj f3.2.2
  unfold mub_193y_35 at g5
  unfold postb_82w at f6
  have e0 : hV H1 7 8 = hV H0 7 8 := f3.1.2.1.1 7 8 (by decide +kernel)
  have e1 : hV H2 7 6 = hV H1 7 6 := f6.1.2.1.1 7 6 (by decide +kernel)
  have e2 : hV H1 7 6 = hV H0 7 6 := f3.1.2.1.1 7 6 (by decide +kernel)
  have e3 : hV H3 7 3 = hV H2 7 3 := f9.1.2.1.1 7 3 (by decide +kernel)
  have e4 : hV H2 7 3 = hV H1 7 3 := f6.1.2.1.1 7 3 (by decide +kernel)
  have e5 : hV H1 7 3 = hV H0 7 3 := f3.1.2.1.1 7 3 (by decide +kernel)
  have e6 : hV H3 7 4 = hV H2 7 4 := f9.1.2.1.1 7 4 (by decide +kernel)
  have e7 : hV H2 7 4 = hV H1 7 4 := f6.1.2.1.1 7 4 (by decide +kernel)
  have e8 : n6 = hV H1 7 4 := (by rw [f1] at f14; exact f14 : n6 = hV H3 7 4).trans ((e6).trans e7)
  have l9 := f9.1.2.2.1 rfl
  subst e8
  omega
theorem c_193y_35_1 {q0 : Nat} : vOkm T0 (eP e_193y L_193y A_193y mu_193y (some q0)) 1 ([(20, [6, 1], [3], 4), (90, [6], [], 0), (91, [6], [], 8), (20, [5, 1], [3], 3), (0, [5], [], 9), (1056, [4], [2, 3], 0), (20, [4, 1], [2], 6), (0, [4], [], 19), (1082, [3, 2], [1, 2], 1), (20, [3, 1], [1], 8), (0, [3], [], 30), (5000, [0, 1, 2], [0, 1], 35), (0, [0], [], 7), (0, [1], [], 7), (51, [2], [], 0)], (70, [6], [], 8)) := vOk_in fun ρ η h => by
  obtain ⟨f0, f1, f2, f3, f4, f5, f6, f7, f8, f9, f10, f11, f12, f13, f14, _⟩ := h
  exact q_193y_4 (q0 := q0) (n0 := ρ 2) (n1 := ρ 1) (n2 := ρ 0) (n3 := ρ 3) (n4 := ρ 4) (n5 := ρ 5) (n6 := ρ 6) (H0 := η 0) (H1 := η 1) (H2 := η 2) (H3 := η 3) f14 f13 f12 f11 f10 f9 f8 f7 f6 f5 f4 f3 f2 f1 f0
theorem q_193y_5 {q0 : Nat} {n0 n1 n2 n3 n4 n5 n6 n7 n8 n9 : Int} {H0 H1 H2 H3 H4 : gH} (f0 : 0 ≤ n0) (f1 : n1 = 7) (f2 : n2 = 7) (f3 : (hLe T0 H0 H1 ∧ hFr s_193y.2.2.2.2 H0 H1 ∧ hWt T0 H1) ∧ (Ab_193y_35 n2 n1 n0 H0 H1 ∧ preb_193y n2 H0) ∧ some q0 = some (mub_193y_35 n2 n1 n0 H0 H1)) (f4 : n3 = 30) (f5 : n3 = hV H1 (n1).toNat 8) (f6 : (hLe T0 H1 H2 ∧ hFr s_82.2.2.2.2 H1 H2 ∧ ((1 : Int) = 0 → H2.length = H1.length) ∧ hWt T0 H2) ∧ postb_82w n3 n0 H1 H2) (f7 : n4 = 19) (f8 : n4 = hV H2 (n1).toNat 6) (f9 : (hLe T0 H2 H3 ∧ hFr s_56.2.2.2.2 H2 H3 ∧ ((0 : Int) = 0 → H3.length = H2.length) ∧ hWt T0 H3) ∧ True) (f10 : n5 = 9) (f11 : n5 = hV H3 (n1).toNat 3) (f12 : n6 ≤ 8) (f13 : 0 ≤ n6) (f14 : n6 = hV H3 (n1).toNat 4) (f15 : hUpd H4 H3 n5 n6 n0) (f16 : n7 ≤ 8) (f17 : 0 ≤ n7) (f18 : n7 = hV H4 (n1).toNat 4) (f19 : n8 = 1) (f20 : n9 = w32 (n7 + n8)) : 0 ≤ n9 := by
  have g4 := f3.2.1.1
  unfold Ab_193y_35 at g4
  have g3 := f3.2.1.2
  unfold preb_193y at g3
  have g5 := Option.some.inj f3.2.2
  unfold mub_193y_35 at g5
  unfold postb_82w at f6
  have e0 : hV H1 7 8 = hV H0 7 8 := f3.1.2.1.1 7 8 (by decide +kernel)
  have e1 : hV H2 7 6 = hV H1 7 6 := f6.1.2.1.1 7 6 (by decide +kernel)
  have e2 : hV H1 7 6 = hV H0 7 6 := f3.1.2.1.1 7 6 (by decide +kernel)
  have e3 : hV H3 7 3 = hV H2 7 3 := f9.1.2.1.1 7 3 (by decide +kernel)
  have e4 : hV H2 7 3 = hV H1 7 3 := f6.1.2.1.1 7 3 (by decide +kernel)
  have e5 : hV H1 7 3 = hV H0 7 3 := f3.1.2.1.1 7 3 (by decide +kernel)
  have e6 : hV H3 7 4 = hV H2 7 4 := f9.1.2.1.1 7 4 (by decide +kernel)
  have e7 : hV H2 7 4 = hV H1 7 4 := f6.1.2.1.1 7 4 (by decide +kernel)
  have e8 : n6 = hV H1 7 4 := (by rw [f1] at f14; exact f14 : n6 = hV H3 7 4).trans ((e6).trans e7)
  have e9 : hV H4 7 4 = hV H3 7 4 := uPlace f15 _ _ (iS (show n5 = ((9 : Nat) : Int) from f10) rfl)
  have e10 : n7 = hV H1 7 4 := (by rw [f1] at f18; exact f18 : n7 = hV H4 7 4).trans ((e9).trans ((e6).trans e7))
  have l9 := f9.1.2.2.1 rfl
  have l15 := f15.2.1
  subst e8
  subst e10
  unfold w32 at *
  omega
theorem c_193y_35_2 {q0 : Nat} : vOkm T0 (eP e_193y L_193y A_193y mu_193y (some q0)) 1 ([(1, [9, 7, 8], [], 0), (0, [8], [], 1), (20, [7, 1], [4], 4), (90, [7], [], 0), (91, [7], [], 8), (80, [5, 6, 2], [4, 3], 2), (20, [6, 1], [3], 4), (90, [6], [], 0), (91, [6], [], 8), (20, [5, 1], [3], 3), (0, [5], [], 9), (1056, [4], [2, 3], 0), (20, [4, 1], [2], 6), (0, [4], [], 19), (1082, [3, 2], [1, 2], 1), (20, [3, 1], [1], 8), (0, [3], [], 30), (5000, [0, 1, 2], [0, 1], 35), (0, [0], [], 7), (0, [1], [], 7), (51, [2], [], 0)], (90, [9], [], 0)) := vOk_in fun ρ η h => by
  obtain ⟨f0, f1, f2, f3, f4, f5, f6, f7, f8, f9, f10, f11, f12, f13, f14, f15, f16, f17, f18, f19, f20, _⟩ := h
  exact q_193y_5 (q0 := q0) (n0 := ρ 2) (n1 := ρ 1) (n2 := ρ 0) (n3 := ρ 3) (n4 := ρ 4) (n5 := ρ 5) (n6 := ρ 6) (n7 := ρ 7) (n8 := ρ 8) (n9 := ρ 9) (H0 := η 0) (H1 := η 1) (H2 := η 2) (H3 := η 3) (H4 := η 4) f20 f19 f18 f17 f16 f15 f14 f13 f12 f11 f10 f9 f8 f7 f6 f5 f4 f3 f2 f1 f0
theorem q_193y_6 {q0 : Nat} {n0 n1 n2 n3 n4 n5 n6 n7 n8 n9 : Int} {H0 H1 H2 H3 H4 : gH} (f0 : 0 ≤ n0) (f1 : n1 = 7) (f2 : n2 = 7) (f3 : (hLe T0 H0 H1 ∧ hFr s_193y.2.2.2.2 H0 H1 ∧ hWt T0 H1) ∧ (Ab_193y_35 n2 n1 n0 H0 H1 ∧ preb_193y n2 H0) ∧ some q0 = some (mub_193y_35 n2 n1 n0 H0 H1)) (f4 : n3 = 30) (f5 : n3 = hV H1 (n1).toNat 8) (f6 : (hLe T0 H1 H2 ∧ hFr s_82.2.2.2.2 H1 H2 ∧ ((1 : Int) = 0 → H2.length = H1.length) ∧ hWt T0 H2) ∧ postb_82w n3 n0 H1 H2) (f7 : n4 = 19) (f8 : n4 = hV H2 (n1).toNat 6) (f9 : (hLe T0 H2 H3 ∧ hFr s_56.2.2.2.2 H2 H3 ∧ ((0 : Int) = 0 → H3.length = H2.length) ∧ hWt T0 H3) ∧ True) (f10 : n5 = 9) (f11 : n5 = hV H3 (n1).toNat 3) (f12 : n6 ≤ 8) (f13 : 0 ≤ n6) (f14 : n6 = hV H3 (n1).toNat 4) (f15 : hUpd H4 H3 n5 n6 n0) (f16 : n7 ≤ 8) (f17 : 0 ≤ n7) (f18 : n7 = hV H4 (n1).toNat 4) (f19 : n8 = 1) (f20 : n9 = w32 (n7 + n8)) : n9 ≤ 8 := by
  have g4 := f3.2.1.1
  unfold Ab_193y_35 at g4
  have g3 := f3.2.1.2
  unfold preb_193y at g3
  have g5 := Option.some.inj f3.2.2
  unfold mub_193y_35 at g5
  unfold postb_82w at f6
  have e0 : hV H1 7 8 = hV H0 7 8 := f3.1.2.1.1 7 8 (by decide +kernel)
  have e1 : hV H2 7 6 = hV H1 7 6 := f6.1.2.1.1 7 6 (by decide +kernel)
  have e2 : hV H1 7 6 = hV H0 7 6 := f3.1.2.1.1 7 6 (by decide +kernel)
  have e3 : hV H3 7 3 = hV H2 7 3 := f9.1.2.1.1 7 3 (by decide +kernel)
  have e4 : hV H2 7 3 = hV H1 7 3 := f6.1.2.1.1 7 3 (by decide +kernel)
  have e5 : hV H1 7 3 = hV H0 7 3 := f3.1.2.1.1 7 3 (by decide +kernel)
  have e6 : hV H3 7 4 = hV H2 7 4 := f9.1.2.1.1 7 4 (by decide +kernel)
  have e7 : hV H2 7 4 = hV H1 7 4 := f6.1.2.1.1 7 4 (by decide +kernel)
  have e8 : n6 = hV H1 7 4 := (by rw [f1] at f14; exact f14 : n6 = hV H3 7 4).trans ((e6).trans e7)
  have e9 : hV H4 7 4 = hV H3 7 4 := uPlace f15 _ _ (iS (show n5 = ((9 : Nat) : Int) from f10) rfl)
  have e10 : n7 = hV H1 7 4 := (by rw [f1] at f18; exact f18 : n7 = hV H4 7 4).trans ((e9).trans ((e6).trans e7))
  have l9 := f9.1.2.2.1 rfl
  have l15 := f15.2.1
  subst e8
  subst e10
  unfold w32 at *
  omega
theorem c_193y_35_3 {q0 : Nat} : vOkm T0 (eP e_193y L_193y A_193y mu_193y (some q0)) 1 ([(1, [9, 7, 8], [], 0), (0, [8], [], 1), (20, [7, 1], [4], 4), (90, [7], [], 0), (91, [7], [], 8), (80, [5, 6, 2], [4, 3], 2), (20, [6, 1], [3], 4), (90, [6], [], 0), (91, [6], [], 8), (20, [5, 1], [3], 3), (0, [5], [], 9), (1056, [4], [2, 3], 0), (20, [4, 1], [2], 6), (0, [4], [], 19), (1082, [3, 2], [1, 2], 1), (20, [3, 1], [1], 8), (0, [3], [], 30), (5000, [0, 1, 2], [0, 1], 35), (0, [0], [], 7), (0, [1], [], 7), (51, [2], [], 0)], (91, [9], [], 8)) := vOk_in fun ρ η h => by
  obtain ⟨f0, f1, f2, f3, f4, f5, f6, f7, f8, f9, f10, f11, f12, f13, f14, f15, f16, f17, f18, f19, f20, _⟩ := h
  exact q_193y_6 (q0 := q0) (n0 := ρ 2) (n1 := ρ 1) (n2 := ρ 0) (n3 := ρ 3) (n4 := ρ 4) (n5 := ρ 5) (n6 := ρ 6) (n7 := ρ 7) (n8 := ρ 8) (n9 := ρ 9) (H0 := η 0) (H1 := η 1) (H2 := η 2) (H3 := η 3) (H4 := η 4) f20 f19 f18 f17 f16 f15 f14 f13 f12 f11 f10 f9 f8 f7 f6 f5 f4 f3 f2 f1 f0
theorem q_193y_7 {q0 : Nat} {n0 n1 n2 n3 n4 n5 n6 n7 n8 n9 n10 : Int} {H0 H1 H2 H3 H4 H5 : gH} (f0 : 0 ≤ n0) (f1 : n1 = 7) (f2 : n2 = 7) (f3 : (hLe T0 H0 H1 ∧ hFr s_193y.2.2.2.2 H0 H1 ∧ hWt T0 H1) ∧ (Ab_193y_35 n2 n1 n0 H0 H1 ∧ preb_193y n2 H0) ∧ some q0 = some (mub_193y_35 n2 n1 n0 H0 H1)) (f4 : n3 = 30) (f5 : n3 = hV H1 (n1).toNat 8) (f6 : (hLe T0 H1 H2 ∧ hFr s_82.2.2.2.2 H1 H2 ∧ ((1 : Int) = 0 → H2.length = H1.length) ∧ hWt T0 H2) ∧ postb_82w n3 n0 H1 H2) (f7 : n4 = 19) (f8 : n4 = hV H2 (n1).toNat 6) (f9 : (hLe T0 H2 H3 ∧ hFr s_56.2.2.2.2 H2 H3 ∧ ((0 : Int) = 0 → H3.length = H2.length) ∧ hWt T0 H3) ∧ True) (f10 : n5 = 9) (f11 : n5 = hV H3 (n1).toNat 3) (f12 : n6 ≤ 8) (f13 : 0 ≤ n6) (f14 : n6 = hV H3 (n1).toNat 4) (f15 : hUpd H4 H3 n5 n6 n0) (f16 : n7 ≤ 8) (f17 : 0 ≤ n7) (f18 : n7 = hV H4 (n1).toNat 4) (f19 : n8 = 1) (f20 : n9 = w32 (n7 + n8)) (f21 : n10 = 4) (f22 : hUpd H5 H4 n1 n10 n9) : postb_193y n2 H0 H5 := by
  have ga := f3.2.1.1
  unfold Ab_193y_35 at ga
  obtain ⟨g0, g1, g2, g3, g4, g5, g6, g7⟩ := ga
  unfold postb_193y
  intro tw
  obtain ⟨ck, cu, k47, n47, b16, k79, r0, r6, e1, c0, c8⟩ := tw
  have l3 := k79.2.2.2
  obtain ⟨m1, m2, m3, m4, m5, m6, m7⟩ := NSH_out g7 l3 e1
  have k1 : ∀ o : Nat, o < 358 → hV H1 o = hV H0 o ∧ hK H1 o = hK H0 o ∧ hN H1 o = hN H0 o := fun o ho => m7 o (by omega)
  have k79b := K79_le f3.1.1 k79
  have k79c := K79_le f6.1.1 k79b
  have k79d := K79_le f9.1.1 k79c
  have k79e := K79_up f15 k79d
  have e13 : hV H1 30 13 = hV H0 30 13 := congrFun (k1 30 (by decide)).1 13
  have pf := f6.2.2
  unfold nb_82 at pf
  have q := pf (CK_pt k1 ck) (CU_pt k1 m6 cu) ((k1 47 (by decide)).2.1.trans k47) ((k1 47 (by decide)).2.2.trans n47) (B16_eq (k1 46 (by decide)).1 b16) (by omega) f0 (by omega) (by omega) [] (by rw [g6, Int.toNat_natCast]; exact m2)
  have eU : pU (HD H1) (HT H1) 7 (hV H0 30 13).toNat (-1) 0 = pU (HD H0) (HT H0) 7 (hV H0 30 13).toNat (-1) 0 := pU_same (funext fun x => by unfold HT; rw [(k1 47 (by decide)).1]) (fun b hb => HD_same ck.1 cu (k1 46 (by decide)).1 m6 hb (by have := b16 b (by omega); omega)) (fun x w => HT_pos w) (by omega)
  rw [e13, eU, List.nil_append, g6, Int.toNat_natCast] at q
  obtain ⟨q1, q2⟩ := q
  have k9 : hK H3 (9 : Int).toNat = 104 := k79d.2.1
  have k7 : hK H4 (7 : Int).toNat = 11 := k79e.1
  have k9b : hK H3 (n5).toNat = 104 := by
    rw [f10]
    exact k9
  have k7b : hK H4 (n1).toNat = 11 := by
    rw [f1]
    exact k7
  have x6 : SHo H2 H5 (-1) := SHo_tr (SHo_fr f9.1.1 f9.1.2.1 (by decide +kernel)) (SHo_tr (SHo_ne f15 (by rw [k9b]; decide)) (SHo_ne f22 (by rw [k7b]; decide)))
  have xr : RWo H2 H5 (-1) := RWo_tr (RWo_fr f9.1.1 f9.1.2.1 (by decide +kernel)) (RWo_tr (RWo_ne f15 (by rw [k9b]; decide)) (RWo_ne f22 (by rw [k7b]; decide)))
  have xc : CUo H2 H5 (-1) := CUo_tr (CUo_fr f9.1.1 f9.1.2.1 (by decide +kernel)) (CUo_tr (CUo_ne f15 (by rw [k9b]; decide)) (CUo_ne f22 (by rw [k7b]; decide)))
  have a6 : n6 = hV H0 7 4 := by
    have u := f14
    rw [f1] at u
    exact u.trans ((f9.1.2.1.1 7 4 (by decide +kernel)).trans ((f6.1.2.1.1 7 4 (by decide +kernel)).trans g5))
  have a7 : n7 = hV H0 7 4 := by
    have u := f18
    rw [f1] at u
    have u2 : hV H4 7 4 = hV H3 7 4 := uPlace f15 7 4 (by rw [f10]; decide)
    exact u.trans (u2.trans ((f9.1.2.1.1 7 4 (by decide +kernel)).trans ((f6.1.2.1.1 7 4 (by decide +kernel)).trans g5)))
  have a9 : n9 = n7 + 1 := by
    have u := f20
    unfold w32 at u
    omega
  have e4 : hV H5 7 4 = n9 := uSame f22 7 4 (by rw [f1]; rfl) (by rw [f21]; rfl)
  have e9 : hV H5 9 = uF (hV H0 9) (hV H0 7 4) (H0.length : Int) := by
    rw [uRowNe f22 9 (by rw [f1]; decide), uRow f15 9 (by rw [f10]; rfl), fRow f9.1.2.1 9 (by decide +kernel), fRow f6.1.2.1 9 (by decide +kernel), (k1 9 (by decide)).1, a6, g6]
  have e46 : hV H5 46 = hV H0 46 := (uRowNe f22 46 (by rw [f1]; decide)).trans ((uRowNe f15 46 (by rw [f10]; decide)).trans ((fRow f9.1.2.1 46 (by decide +kernel)).trans ((fRow f6.1.2.1 46 (by decide +kernel)).trans (k1 46 (by decide)).1)))
  have ez : hV H5 H0.length 0 = hV H0 19 3 - 1 := ((x6 _ q1.1).2 (by omega) 0).trans (q2.2.2.2.trans m3)
  exact ⟨by omega, e9, ez, SHL_keep q1 x6 xr xc, SHo_tr (SHo_tr2 (Nat.le_refl _) m4 q2.1) x6, RWo_tr (RWo_tr2 (Nat.le_succ _) m5 q2.2.1) xr, CUo_tr m6 (CUo_tr q2.2.2.1 xc), e46⟩
theorem c_193y_35_4 {q0 : Nat} : vOkm T0 (eP e_193y L_193y A_193y mu_193y (some q0)) 1 ([(80, [1, 10, 9], [5, 4], 0), (0, [10], [], 4), (1, [9, 7, 8], [], 0), (0, [8], [], 1), (20, [7, 1], [4], 4), (90, [7], [], 0), (91, [7], [], 8), (80, [5, 6, 2], [4, 3], 2), (20, [6, 1], [3], 4), (90, [6], [], 0), (91, [6], [], 8), (20, [5, 1], [3], 3), (0, [5], [], 9), (1056, [4], [2, 3], 0), (20, [4, 1], [2], 6), (0, [4], [], 19), (1082, [3, 2], [1, 2], 1), (20, [3, 1], [1], 8), (0, [3], [], 30), (5000, [0, 1, 2], [0, 1], 35), (0, [0], [], 7), (0, [1], [], 7), (51, [2], [], 0)], (3000, [], [5], 70)) := vOk_in fun ρ η h => by
  obtain ⟨f0, f1, f2, f3, f4, f5, f6, f7, f8, f9, f10, f11, f12, f13, f14, f15, f16, f17, f18, f19, f20, f21, f22, _⟩ := h
  exact q_193y_7 (q0 := q0) (n0 := ρ 2) (n1 := ρ 1) (n2 := ρ 0) (n3 := ρ 3) (n4 := ρ 4) (n5 := ρ 5) (n6 := ρ 6) (n7 := ρ 7) (n8 := ρ 8) (n9 := ρ 9) (n10 := ρ 10) (H0 := η 0) (H1 := η 1) (H2 := η 2) (H3 := η 3) (H4 := η 4) (H5 := η 5) f22 f21 f20 f19 f18 f17 f16 f15 f14 f13 f12 f11 f10 f9 f8 f7 f6 f5 f4 f3 f2 f1 f0
def p_193y_35 : List vG := [([(20, [3, 1], [1], 8), (0, [3], [], 30), (5000, [0, 1, 2], [0, 1], 35), (0, [0], [], 7), (0, [1], [], 7), (51, [2], [], 0)], (2082, [3, 2], [1], 0)),
  ([(20, [6, 1], [3], 4), (90, [6], [], 0), (91, [6], [], 8), (20, [5, 1], [3], 3), (0, [5], [], 9), (1056, [4], [2, 3], 0), (20, [4, 1], [2], 6), (0, [4], [], 19), (1082, [3, 2], [1, 2], 1), (20, [3, 1], [1], 8), (0, [3], [], 30), (5000, [0, 1, 2], [0, 1], 35), (0, [0], [], 7), (0, [1], [], 7), (51, [2], [], 0)], (70, [6], [], 8)),
  ([(1, [9, 7, 8], [], 0), (0, [8], [], 1), (20, [7, 1], [4], 4), (90, [7], [], 0), (91, [7], [], 8), (80, [5, 6, 2], [4, 3], 2), (20, [6, 1], [3], 4), (90, [6], [], 0), (91, [6], [], 8), (20, [5, 1], [3], 3), (0, [5], [], 9), (1056, [4], [2, 3], 0), (20, [4, 1], [2], 6), (0, [4], [], 19), (1082, [3, 2], [1, 2], 1), (20, [3, 1], [1], 8), (0, [3], [], 30), (5000, [0, 1, 2], [0, 1], 35), (0, [0], [], 7), (0, [1], [], 7), (51, [2], [], 0)], (90, [9], [], 0)),
  ([(1, [9, 7, 8], [], 0), (0, [8], [], 1), (20, [7, 1], [4], 4), (90, [7], [], 0), (91, [7], [], 8), (80, [5, 6, 2], [4, 3], 2), (20, [6, 1], [3], 4), (90, [6], [], 0), (91, [6], [], 8), (20, [5, 1], [3], 3), (0, [5], [], 9), (1056, [4], [2, 3], 0), (20, [4, 1], [2], 6), (0, [4], [], 19), (1082, [3, 2], [1, 2], 1), (20, [3, 1], [1], 8), (0, [3], [], 30), (5000, [0, 1, 2], [0, 1], 35), (0, [0], [], 7), (0, [1], [], 7), (51, [2], [], 0)], (91, [9], [], 8)),
  ([(80, [1, 10, 9], [5, 4], 0), (0, [10], [], 4), (1, [9, 7, 8], [], 0), (0, [8], [], 1), (20, [7, 1], [4], 4), (90, [7], [], 0), (91, [7], [], 8), (80, [5, 6, 2], [4, 3], 2), (20, [6, 1], [3], 4), (90, [6], [], 0), (91, [6], [], 8), (20, [5, 1], [3], 3), (0, [5], [], 9), (1056, [4], [2, 3], 0), (20, [4, 1], [2], 6), (0, [4], [], 19), (1082, [3, 2], [1, 2], 1), (20, [3, 1], [1], 8), (0, [3], [], 30), (5000, [0, 1, 2], [0, 1], 35), (0, [0], [], 7), (0, [1], [], 7), (51, [2], [], 0)], (3000, [], [5], 70))]
theorem r_193y_35 : vCovO false (eRc e_193y L_193y cs_193y 2000 (35, [(0, (3, 11, 7, 0)), (1, (3, 6, -1, 0))])) p_193y_35 = true := by decide +kernel
theorem hand_193y_20 (d : Nat) : eHand e_193y A_193y mu_193y cs_193y (d + 1) (20, [(0, (3, 11, 7, 0))]) := by
  intro Q xs h0 q hp ih lv lh ys hW hL hA hAs hmu
  obtain ⟨b0, rfl⟩ : ∃ b0, xs = [b0] := by
    rcases xs with _ | ⟨b0, _ | ⟨b1, xs⟩⟩ <;> first | exact hp.elim | exact ⟨_, rfl⟩
  have h3 := hW.1.len
  have h7 : 7 ≤ lh.length := Nat.le_trans (by decide) h3
  have h23 : 23 < lh.length := Nat.lt_of_lt_of_le (by decide) h3
  obtain ⟨y0, t0, rfl, ⟨w0, g0, z0, k0, _⟩, hA0⟩ := vAts_inv hA
  have ht := vAts_nil hA0
  subst ht
  have h19 : 19 < lh.length := Nat.lt_of_lt_of_le (by decide) h3
  obtain ⟨i0, rfl, q0⟩ := k0
  have hi : (i0 : Int) = 7 := by
    rcases q0.2.2.1 with z | z
    · exact absurd z (by decide)
    · rw [if_pos (by decide)] at z
      exact z
  have hi2 : i0 = 7 := Int.ofNat.inj hi
  subst hi2
  obtain ⟨F, f1, f2, f3⟩ := q0.obj (by decide)
  have hv := hW.2 7 6 q0.lt (by rw [f2]; decide)
  rw [q0.2.1.1, f3] at hv
  have hn : F 6 ≠ .null := by
    rw [← f3]
    exact q0.2.2.2 6 (by rw [f2]; decide) (by decide +kernel)
  obtain ⟨j, j1, j2, j3⟩ : ∃ i, F 6 = .ref i ∧ isA T0 lh 3 19 i ∧ (2 ≤ 21 → i = 21 - 2) := by
    rcases (show F 6 = .null ∨ ∃ i, F 6 = .ref i ∧ isA T0 lh 3 19 i ∧ (2 ≤ 21 → i = 21 - 2) from hv) with z | z
    · exact absurd z hn
    · exact z
  have j4 : j = 19 := j3 (by decide)
  subst j4
  obtain ⟨G, p1, p2, p3⟩ := j2.obj (by decide)
  have hx := hW.2 19 3 j2.lt (by rw [p2]; decide)
  rw [j2.2.1.1, p3] at hx
  obtain ⟨x, x1, _, _⟩ := (show ∃ x : Int32, G 3 = .int x ∧ (-2147483648 : Int) ≤ x.toInt ∧ x.toInt ≤ 2147483647 from hx)
  have hx3 : hV lh 19 3 = x.toInt := congrArg vI ((p3 3).trans x1)
  have hnew := new_114 hW (x - 1)
  have hat : vAts T0 (lh ++ cs_new_114 (x - 1) lh.length) (gSt1 lv 1 (.ref lh.length)) ([(0, (3, 11, 7, 0))] ++ [(1, (3, 6, -1, 0))]) ([y0] ++ [(lh.length : Int)]) := vAts.snoc (q := (1, (3, 6, -1, 0))) ⟨.ref lh.length, rfl, rfl, (show vOK T0 _ (3, 6, -1, 0) (.ref lh.length) from ⟨_, rfl, hnew.2⟩), rfl⟩ (hA.sto (hLe.app _ _) (by decide))
  have hl : (lh ++ cs_new_114 (x - 1) lh.length).length = lh.length + 2 := by rw [List.length_append]; rfl
  have ha : 0 ≤ hV (lh ++ cs_new_114 (x - 1) lh.length) 7 4 ∧ hV (lh ++ cs_new_114 (x - 1) lh.length) 7 4 < 8 ∧ hK (lh ++ cs_new_114 (x - 1) lh.length) ((lh.length : Int)).toNat = 6 ∧ hV (lh ++ cs_new_114 (x - 1) lh.length) ((lh.length : Int)).toNat 2 = 0 ∧ (lh ++ cs_new_114 (x - 1) lh.length).length = h0.length + 2 ∧ hV (lh ++ cs_new_114 (x - 1) lh.length) 7 4 = hV h0 7 4 ∧ (lh.length : Int) = (h0.length : Int) ∧ NSH h0 (lh ++ cs_new_114 (x - 1) lh.length) := by
    obtain ⟨a1, a2, a3, a4, a5⟩ : 0 ≤ hV lh 7 4 ∧ hV lh 7 4 < 8 ∧ lh.length = h0.length ∧ hV lh 7 4 = hV h0 7 4 ∧ lh = h0 := hAs
    have n5 : NSH h0 (lh ++ cs_new_114 (x - 1) lh.length) := by
      rw [← a5]
      exact ⟨x, hx3.symm, rfl⟩
    have p3 : hV (lh ++ cs_new_114 (x - 1) lh.length) 7 4 = hV lh 7 4 := by
      unfold hV hVal
      rw [app_lo q0.lt]
    have p4 : hV (lh ++ cs_new_114 (x - 1) lh.length) lh.length 2 = 0 := by
      unfold hV
      rw [show hVal (lh ++ cs_new_114 (x - 1) lh.length) lh.length 2 = F_114 (x - 1) lh.length 2 from (hK_obj (h := lh) (cs := cs_new_114 (x - 1) lh.length) (i := 0) (k := 6) (F := F_114 (x - 1) lh.length) rfl (by decide)).2.2 2]
      rfl
    refine ⟨by rw [p3]; exact a1, by rw [p3]; exact a2, by rw [Int.toNat_natCast]; exact hnew.2.2.1.1, by rw [Int.toNat_natCast]; exact p4, by rw [hl, a3], by rw [p3]; exact a4, by rw [a3], n5⟩
  obtain ⟨n, o, e, hq⟩ := ih 0 (by rw [← (show (1 : Nat) = q from hmu)]; decide) (35, [(0, (3, 11, 7, 0)), (1, (3, 6, -1, 0))]) (by unfold cs_193y; simp) _ _ _ hnew.1 (hL.trans (hLw.app _ _ (Nat.le_of_ble_eq_true rfl))) hat ha rfl
  exact ⟨n + 70, o, go_193 h7 h19 g0 f1 j1 p1 x1 e, hq⟩

theorem m_193y (d : Nat) : eC e_193y (d + 14) := eC_ok (e := e_193y) (L := L_193y) (cs := cs_193y) (n := 2000) (d := d + 13) (A := A_193y) (μ := mu_193y) (tp := false) (p0 := p_193y_s) rfl ⟨m_56 (d + 11), ⟨m_82w d, trivial⟩⟩ rfl (.inl rfl) (by decide +kernel) (fun z => nomatch z) r_193y_s (allC c_193y_s_0 (allC c_193y_s_1 (allC c_193y_s_2 allN))) (allC (.inr (hand_193y_20 (d + 12))) (allC (.inl ⟨p_193y_35, r_193y_35, fun q0 => (allC c_193y_35_0 (allC c_193y_35_1 (allC c_193y_35_2 (allC c_193y_35_3 (allC c_193y_35_4 allN)))))⟩) allN))
def postb_60z (r a0 a1 a2 : Int) (h0 h : gH) : Prop := postb_60v r a0 a1 a2 h0 h ∧ nb_60 r a0 a1 a2 h0 h
/- MixStage.read ()I -/
noncomputable def s_157y : vM := ([(3, 11, 7, 0)], (0, -2147483648, 2147483647, 0), 1, 1, [(1, 0), (1, 1), (1, 2), (1, 3), (1, 4), (1, 5), (1, 6), (1, 7), (1, 8), (1, 9), (1, 10), (1, 11), (1, 12), (1, 13), (1, 14), (1, 15), (1, 16), (1, 18), (3, 4), (4, 1), (4, 2), (4, 3), (4, 4), (4, 5), (4, 6), (4, 7), (4, 8), (4, 13), (4, 15), (5, 0), (5, 2), (6, 2), (6, 3), (6, 4), (8, 4), (11, 1), (11, 2), (11, 4), (11, 5), (100, 0), (104, 0), (106, 0), (716, 0), (725, 0), (733, 0), (740, 0), (796, 0)])
def preb_157y (a0 : Int) (h : gH) : Prop := RDY h ∧ KM h ∧ ICm h ∧ MT (mC h)
def pre_157y : List Int → gH → Prop := fun xs h => match xs with
  | [a0] => preb_157y a0 h
  | _ => False
def postb_157y (r a0 : Int) (h0 h : gH) : Prop := CK h0 → K79 h0 → B16 h0 7 → RDT (pTx (hV h0 8) (hV h0 7 1)) r h0 h
def post_157y : List Int → gH → gH → Prop := fun xs h0 h => match xs with
  | [r, a0] => postb_157y r a0 h0 h
  | _ => True
noncomputable def e_157y : vE := (157, s_157y, pre_157y, post_157y)
noncomputable def L_157y : List vE := [e_60vw, e_62, e_63, e_193y]
def cs_157y : List vC := []
def A_157y : Int → List Int → gH → gH → Prop := fun c xs h0 h => True
def mu_157y : Int → List Int → gH → gH → Nat := fun c xs h0 h => 0
theorem q_157y_0 {n0 n1 n2 n3 n4 n5 : Int} {H0 : gH} (f0 : n0 = 7) (f1 : hWt T0 H0 ∧ preb_157y n0 H0) (f2 : n1 ≤ 8) (f3 : 0 ≤ n1) (f4 : n1 = hV H0 (n0).toNat 4) (f5 : n2 = 8) (f6 : n1 < n2) (f7 : n3 = 30) (f8 : n3 = hV H0 (n0).toNat 8) (f9 : n4 = 8) (f10 : n4 = hV H0 (n0).toNat 0) (f11 : n5 ≤ 2147483647) (f12 : (-2147483648) ≤ n5) (f13 : n5 = hV H0 (n0).toNat 1) : preb_60v n3 n4 n5 H0 := by
  have pz := f1.2
  unfold preb_157y at pz
  obtain ⟨rd, km, ic, mt⟩ := pz
  have rd2 := rd
  obtain ⟨z1, z2, z3, z4, z5, z6, z7⟩ := rd2
  obtain ⟨mf, ms, me, m20, m21, m22, mz⟩ := MTc mt
  have r4 := f4
  rw [f0] at r4
  rw [show ((7 : Int)).toNat = 7 from rfl] at r4
  have r8 := f8
  rw [f0] at r8
  rw [show ((7 : Int)).toNat = 7 from rfl] at r8
  have r10 := f10
  rw [f0] at r10
  rw [show ((7 : Int)).toNat = 7 from rfl] at r10
  have r13 := f13
  rw [f0] at r13
  rw [show ((7 : Int)).toNat = 7 from rfl] at r13
  unfold preb_60v
  exact ⟨z1, z2, z3, z4, z6, by omega, by omega, by omega, km.1, z7⟩
theorem c_157y_s_0 : vOkm T0 (eP e_157y L_157y A_157y mu_157y none) 1 ([(20, [5, 0], [0], 1), (90, [5], [], -2147483648), (91, [5], [], 2147483647), (20, [4, 0], [0], 0), (0, [4], [], 8), (20, [3, 0], [0], 8), (0, [3], [], 30), (42, [1, 2], [], 0), (0, [2], [], 8), (20, [1, 0], [0], 4), (90, [1], [], 0), (91, [1], [], 8), (6000, [0], [0], 0), (0, [0], [], 7)], (2060, [3, 4, 5], [0], 0)) := vOk_in fun ρ η h => by
  obtain ⟨f0, f1, f2, f3, f4, f5, f6, f7, f8, f9, f10, f11, f12, f13, _⟩ := h
  exact q_157y_0 (n0 := ρ 0) (n1 := ρ 1) (n2 := ρ 2) (n3 := ρ 3) (n4 := ρ 4) (n5 := ρ 5) (H0 := η 0) f13 f12 f11 f10 f9 f8 f7 f6 f5 f4 f3 f2 f1 f0
theorem q_157y_1 {n0 n1 n2 n3 n4 n5 n6 n7 n8 n9 n10 n11 : Int} {H0 H1 H2 H3 H4 : gH} (f0 : n0 = 7) (f1 : hWt T0 H0 ∧ preb_157y n0 H0) (f2 : n1 ≤ 8) (f3 : 0 ≤ n1) (f4 : n1 = hV H0 (n0).toNat 4) (f5 : n2 = 8) (f6 : n1 < n2) (f7 : n3 = 30) (f8 : n3 = hV H0 (n0).toNat 8) (f9 : n4 = 8) (f10 : n4 = hV H0 (n0).toNat 0) (f11 : n5 ≤ 2147483647) (f12 : (-2147483648) ≤ n5) (f13 : n5 = hV H0 (n0).toNat 1) (f14 : n6 ≤ 2147483647) (f15 : (-2147483648) ≤ n6) (f16 : (hLe T0 H0 H1 ∧ hFr s_60.2.2.2.2 H0 H1 ∧ ((0 : Int) = 0 → H1.length = H0.length) ∧ hWt T0 H1) ∧ postb_60z n6 n3 n4 n5 H0 H1) (f17 : n7 = 30) (f18 : n7 = hV H1 (n0).toNat 8) (f19 : n8 ≤ 2147483647) (f20 : (-2147483648) ≤ n8) (f21 : (hLe T0 H1 H2 ∧ hFr s_62.2.2.2.2 H1 H2 ∧ ((0 : Int) = 0 → H2.length = H1.length) ∧ hWt T0 H2) ∧ True) (f22 : n9 = 2) (f23 : hUpd H3 H2 n0 n9 n8) (f24 : n10 = 0) (f25 : n11 = 1) (f26 : hUpd H4 H3 n0 n11 n10) (f27 : n6 ≠ 0) (f28 : n6 ≠ 0) : postb_157y n6 n0 H0 H4 := by
  have pz := f1.2
  unfold preb_157y at pz
  obtain ⟨rd, km, ic, mt⟩ := pz
  have rd2 := rd
  obtain ⟨z1, z2, z3, z4, z5, z6, z7⟩ := rd2
  obtain ⟨mf, ms, me, m20, m21, m22, mz⟩ := MTc mt
  have r4 := f4
  rw [f0] at r4
  rw [show ((7 : Int)).toNat = 7 from rfl] at r4
  have r8 := f8
  rw [f0] at r8
  rw [show ((7 : Int)).toNat = 7 from rfl] at r8
  have r10 := f10
  rw [f0] at r10
  rw [show ((7 : Int)).toNat = 7 from rfl] at r10
  have r13 := f13
  rw [f0] at r13
  rw [show ((7 : Int)).toNat = 7 from rfl] at r13
  have r18 := f18
  rw [f0] at r18
  rw [show ((7 : Int)).toNat = 7 from rfl] at r18
  unfold postb_157y
  intro ck k79 b16
  have q := f16.2.1
  unfold postb_60v at q
  have qn := f16.2.2
  unfold nb_60 at qn
  rw [show n5 = hV H0 7 1 by omega] at q qn
  obtain ⟨c1, c2, c3, c4, c5, c6, c7⟩ := q
  obtain ⟨n1, n7, nf⟩ := qn ck
  have k79a := K79_le f16.1.1 k79
  have ckA := CK_fr f16.1.1 f16.1.2.1 (by decide +kernel) ck
  have olA : OLDs H0 H1 := ⟨SHo_fr f16.1.1 f16.1.2.1 (by decide +kernel), RWo_fr f16.1.1 f16.1.2.1 (by decide +kernel), n1⟩
  have e9A : hV H1 9 = hV H0 9 := fRow f16.1.2.1 9 (by decide +kernel)
  have e4A : hV H1 7 4 = hV H0 7 4 := f16.1.2.1.1 7 4 (by decide +kernel)
  have e3A : hV H1 19 3 = hV H0 19 3 := f16.1.2.1.1 19 3 (by decide +kernel)
  have k79_H2 := K79_le f21.1.1 k79a
  have ck_H2 := CK_fr f21.1.1 f21.1.2.1 (by decide +kernel) ckA
  have ol_H2 : OLDs H0 H2 := OLDs_tr olA (OLDs_fr f21.1.1 f21.1.2.1 (by decide +kernel))
  have bb_H2 : B16 H2 7 := B16_eq (fRow f21.1.2.1 46 (by decide +kernel)) (n7 b16)
  have e9_H2 : hV H2 9 = hV H0 9 := (fRow f21.1.2.1 9 (by decide +kernel)).trans e9A
  have e4_H2 : hV H2 7 4 = hV H0 7 4 := (f21.1.2.1.1 7 4 (by decide +kernel)).trans e4A
  have e3_H2 : hV H2 19 3 = hV H0 19 3 := (f21.1.2.1.1 19 3 (by decide +kernel)).trans e3A
  have k79_H3 := K79_up f23 k79_H2
  have ck_H3 : CK H3 := ⟨fun i hi => by rw [uRowNe f23 45 (by rw [f0]; decide)]; exact ck_H2.1 i hi, kUp f23 ck_H2.2.1, (f23.2.2 46).2.trans ck_H2.2.2⟩
  have ol_H3 : OLDs H0 H3 := OLDs_tr ol_H2 (OLDs_7 f23 f0 k79_H2)
  have bb_H3 : B16 H3 7 := B16_eq (uRowNe f23 46 (by rw [f0]; decide)) bb_H2
  have e9_H3 : hV H3 9 = hV H0 9 := (uRowNe f23 9 (by rw [f0]; decide)).trans e9_H2
  have e4_H3 : hV H3 7 4 = hV H0 7 4 := (uSlot f23 7 4 (by rw [f22]; decide)).trans e4_H2
  have e3_H3 : hV H3 19 3 = hV H0 19 3 := (congrFun (uRowNe f23 19 (by rw [f0]; decide)) 3).trans e3_H2
  have k79_H4 := K79_up f26 k79_H3
  have ck_H4 : CK H4 := ⟨fun i hi => by rw [uRowNe f26 45 (by rw [f0]; decide)]; exact ck_H3.1 i hi, kUp f26 ck_H3.2.1, (f26.2.2 46).2.trans ck_H3.2.2⟩
  have ol_H4 : OLDs H0 H4 := OLDs_tr ol_H3 (OLDs_7 f26 f0 k79_H3)
  have bb_H4 : B16 H4 7 := B16_eq (uRowNe f26 46 (by rw [f0]; decide)) bb_H3
  have e9_H4 : hV H4 9 = hV H0 9 := (uRowNe f26 9 (by rw [f0]; decide)).trans e9_H3
  have e4_H4 : hV H4 7 4 = hV H0 7 4 := (uSlot f26 7 4 (by rw [f25]; decide)).trans e4_H3
  have e3_H4 : hV H4 19 3 = hV H0 19 3 := (congrFun (uRowNe f26 19 (by rw [f0]; decide)) 3).trans e3_H3
  exact ⟨ck_H4, k79_H4, bb_H4, ol_H4, .inl ⟨fun w => by
    have w1 := w.1
    first
    | omega
    | (rcases c5 with v | v
       · exact w.2 v.2
       · have := v.1
         omega), e4_H4, e9_H4⟩⟩
theorem c_157y_s_1 : vOkm T0 (eP e_157y L_157y A_157y mu_157y none) 1 ([(31, [6], [], 0), (31, [6], [], 0), (80, [0, 11, 10], [4, 3], 0), (0, [11], [], 1), (0, [10], [], 0), (80, [0, 9, 8], [3, 2], 0), (0, [9], [], 2), (1062, [8, 7], [1, 2], 0), (90, [8], [], -2147483648), (91, [8], [], 2147483647), (20, [7, 0], [1], 8), (0, [7], [], 30), (1060, [6, 3, 4, 5], [0, 1], 0), (90, [6], [], -2147483648), (91, [6], [], 2147483647), (20, [5, 0], [0], 1), (90, [5], [], -2147483648), (91, [5], [], 2147483647), (20, [4, 0], [0], 0), (0, [4], [], 8), (20, [3, 0], [0], 8), (0, [3], [], 30), (42, [1, 2], [], 0), (0, [2], [], 8), (20, [1, 0], [0], 4), (90, [1], [], 0), (91, [1], [], 8), (6000, [0], [0], 0), (0, [0], [], 7)], (3000, [6], [4], 85)) := vOk_in fun ρ η h => by
  obtain ⟨f0, f1, f2, f3, f4, f5, f6, f7, f8, f9, f10, f11, f12, f13, f14, f15, f16, f17, f18, f19, f20, f21, f22, f23, f24, f25, f26, f27, f28, _⟩ := h
  exact q_157y_1 (n0 := ρ 0) (n1 := ρ 1) (n2 := ρ 2) (n3 := ρ 3) (n4 := ρ 4) (n5 := ρ 5) (n6 := ρ 6) (n7 := ρ 7) (n8 := ρ 8) (n9 := ρ 9) (n10 := ρ 10) (n11 := ρ 11) (H0 := η 0) (H1 := η 1) (H2 := η 2) (H3 := η 3) (H4 := η 4) f28 f27 f26 f25 f24 f23 f22 f21 f20 f19 f18 f17 f16 f15 f14 f13 f12 f11 f10 f9 f8 f7 f6 f5 f4 f3 f2 f1 f0
theorem q_157y_2 {n0 n1 n2 n3 n4 n5 n6 n7 n8 n9 n10 n11 : Int} {H0 H1 H2 H3 H4 : gH} (f0 : n0 = 7) (f1 : hWt T0 H0 ∧ preb_157y n0 H0) (f2 : n1 ≤ 8) (f3 : 0 ≤ n1) (f4 : n1 = hV H0 (n0).toNat 4) (f5 : n2 = 8) (f6 : n1 < n2) (f7 : n3 = 30) (f8 : n3 = hV H0 (n0).toNat 8) (f9 : n4 = 8) (f10 : n4 = hV H0 (n0).toNat 0) (f11 : n5 ≤ 2147483647) (f12 : (-2147483648) ≤ n5) (f13 : n5 = hV H0 (n0).toNat 1) (f14 : n6 ≤ 2147483647) (f15 : (-2147483648) ≤ n6) (f16 : (hLe T0 H0 H1 ∧ hFr s_60.2.2.2.2 H0 H1 ∧ ((0 : Int) = 0 → H1.length = H0.length) ∧ hWt T0 H1) ∧ postb_60z n6 n3 n4 n5 H0 H1) (f17 : n7 = 30) (f18 : n7 = hV H1 (n0).toNat 8) (f19 : n8 ≤ 2147483647) (f20 : (-2147483648) ≤ n8) (f21 : (hLe T0 H1 H2 ∧ hFr s_62.2.2.2.2 H1 H2 ∧ ((0 : Int) = 0 → H2.length = H1.length) ∧ hWt T0 H2) ∧ True) (f22 : n9 = 2) (f23 : hUpd H3 H2 n0 n9 n8) (f24 : n10 = 0) (f25 : n11 = 1) (f26 : hUpd H4 H3 n0 n11 n10) (f27 : n6 ≠ 0) (f28 : n6 = 0) : preb_193y n0 H4 := by
  exact trivial
theorem c_157y_s_2 : vOkm T0 (eP e_157y L_157y A_157y mu_157y none) 1 ([(30, [6], [], 0), (31, [6], [], 0), (80, [0, 11, 10], [4, 3], 0), (0, [11], [], 1), (0, [10], [], 0), (80, [0, 9, 8], [3, 2], 0), (0, [9], [], 2), (1062, [8, 7], [1, 2], 0), (90, [8], [], -2147483648), (91, [8], [], 2147483647), (20, [7, 0], [1], 8), (0, [7], [], 30), (1060, [6, 3, 4, 5], [0, 1], 0), (90, [6], [], -2147483648), (91, [6], [], 2147483647), (20, [5, 0], [0], 1), (90, [5], [], -2147483648), (91, [5], [], 2147483647), (20, [4, 0], [0], 0), (0, [4], [], 8), (20, [3, 0], [0], 8), (0, [3], [], 30), (42, [1, 2], [], 0), (0, [2], [], 8), (20, [1, 0], [0], 4), (90, [1], [], 0), (91, [1], [], 8), (6000, [0], [0], 0), (0, [0], [], 7)], (2193, [0], [4], 0)) := vOk_in fun ρ η h => by
  obtain ⟨f0, f1, f2, f3, f4, f5, f6, f7, f8, f9, f10, f11, f12, f13, f14, f15, f16, f17, f18, f19, f20, f21, f22, f23, f24, f25, f26, f27, f28, _⟩ := h
  exact q_157y_2 (n0 := ρ 0) (n1 := ρ 1) (n2 := ρ 2) (n3 := ρ 3) (n4 := ρ 4) (n5 := ρ 5) (n6 := ρ 6) (n7 := ρ 7) (n8 := ρ 8) (n9 := ρ 9) (n10 := ρ 10) (n11 := ρ 11) (H0 := η 0) (H1 := η 1) (H2 := η 2) (H3 := η 3) (H4 := η 4) f28 f27 f26 f25 f24 f23 f22 f21 f20 f19 f18 f17 f16 f15 f14 f13 f12 f11 f10 f9 f8 f7 f6 f5 f4 f3 f2 f1 f0
theorem q_157y_3 {n0 n1 n2 n3 n4 n5 n6 n7 n8 n9 n10 n11 : Int} {H0 H1 H2 H3 H4 H5 : gH} (f0 : n0 = 7) (f1 : hWt T0 H0 ∧ preb_157y n0 H0) (f2 : n1 ≤ 8) (f3 : 0 ≤ n1) (f4 : n1 = hV H0 (n0).toNat 4) (f5 : n2 = 8) (f6 : n1 < n2) (f7 : n3 = 30) (f8 : n3 = hV H0 (n0).toNat 8) (f9 : n4 = 8) (f10 : n4 = hV H0 (n0).toNat 0) (f11 : n5 ≤ 2147483647) (f12 : (-2147483648) ≤ n5) (f13 : n5 = hV H0 (n0).toNat 1) (f14 : n6 ≤ 2147483647) (f15 : (-2147483648) ≤ n6) (f16 : (hLe T0 H0 H1 ∧ hFr s_60.2.2.2.2 H0 H1 ∧ ((0 : Int) = 0 → H1.length = H0.length) ∧ hWt T0 H1) ∧ postb_60z n6 n3 n4 n5 H0 H1) (f17 : n7 = 30) (f18 : n7 = hV H1 (n0).toNat 8) (f19 : n8 ≤ 2147483647) (f20 : (-2147483648) ≤ n8) (f21 : (hLe T0 H1 H2 ∧ hFr s_62.2.2.2.2 H1 H2 ∧ ((0 : Int) = 0 → H2.length = H1.length) ∧ hWt T0 H2) ∧ True) (f22 : n9 = 2) (f23 : hUpd H3 H2 n0 n9 n8) (f24 : n10 = 0) (f25 : n11 = 1) (f26 : hUpd H4 H3 n0 n11 n10) (f27 : n6 ≠ 0) (f28 : n6 = 0) (f29 : (hLe T0 H4 H5 ∧ hFr s_193y.2.2.2.2 H4 H5 ∧ ((1 : Int) = 0 → H5.length = H4.length) ∧ hWt T0 H5) ∧ postb_193y n0 H4 H5) : postb_157y n6 n0 H0 H5 := by
  exfalso
  omega
theorem c_157y_s_3 : vOkm T0 (eP e_157y L_157y A_157y mu_157y none) 1 ([(1193, [0], [4, 5], 1), (30, [6], [], 0), (31, [6], [], 0), (80, [0, 11, 10], [4, 3], 0), (0, [11], [], 1), (0, [10], [], 0), (80, [0, 9, 8], [3, 2], 0), (0, [9], [], 2), (1062, [8, 7], [1, 2], 0), (90, [8], [], -2147483648), (91, [8], [], 2147483647), (20, [7, 0], [1], 8), (0, [7], [], 30), (1060, [6, 3, 4, 5], [0, 1], 0), (90, [6], [], -2147483648), (91, [6], [], 2147483647), (20, [5, 0], [0], 1), (90, [5], [], -2147483648), (91, [5], [], 2147483647), (20, [4, 0], [0], 0), (0, [4], [], 8), (20, [3, 0], [0], 8), (0, [3], [], 30), (42, [1, 2], [], 0), (0, [2], [], 8), (20, [1, 0], [0], 4), (90, [1], [], 0), (91, [1], [], 8), (6000, [0], [0], 0), (0, [0], [], 7)], (3000, [6], [5], 85)) := vOk_in fun ρ η h => by
  obtain ⟨f0, f1, f2, f3, f4, f5, f6, f7, f8, f9, f10, f11, f12, f13, f14, f15, f16, f17, f18, f19, f20, f21, f22, f23, f24, f25, f26, f27, f28, f29, _⟩ := h
  exact q_157y_3 (n0 := ρ 0) (n1 := ρ 1) (n2 := ρ 2) (n3 := ρ 3) (n4 := ρ 4) (n5 := ρ 5) (n6 := ρ 6) (n7 := ρ 7) (n8 := ρ 8) (n9 := ρ 9) (n10 := ρ 10) (n11 := ρ 11) (H0 := η 0) (H1 := η 1) (H2 := η 2) (H3 := η 3) (H4 := η 4) (H5 := η 5) f29 f28 f27 f26 f25 f24 f23 f22 f21 f20 f19 f18 f17 f16 f15 f14 f13 f12 f11 f10 f9 f8 f7 f6 f5 f4 f3 f2 f1 f0
theorem q_157y_4 {n0 n1 n2 n3 n4 n5 n6 n7 n8 n9 n10 n11 n12 n13 : Int} {H0 H1 H2 H3 H4 : gH} (f0 : n0 = 7) (f1 : hWt T0 H0 ∧ preb_157y n0 H0) (f2 : n1 ≤ 8) (f3 : 0 ≤ n1) (f4 : n1 = hV H0 (n0).toNat 4) (f5 : n2 = 8) (f6 : n1 < n2) (f7 : n3 = 30) (f8 : n3 = hV H0 (n0).toNat 8) (f9 : n4 = 8) (f10 : n4 = hV H0 (n0).toNat 0) (f11 : n5 ≤ 2147483647) (f12 : (-2147483648) ≤ n5) (f13 : n5 = hV H0 (n0).toNat 1) (f14 : n6 ≤ 2147483647) (f15 : (-2147483648) ≤ n6) (f16 : (hLe T0 H0 H1 ∧ hFr s_60.2.2.2.2 H0 H1 ∧ ((0 : Int) = 0 → H1.length = H0.length) ∧ hWt T0 H1) ∧ postb_60z n6 n3 n4 n5 H0 H1) (f17 : n7 = 30) (f18 : n7 = hV H1 (n0).toNat 8) (f19 : n8 ≤ 2147483647) (f20 : (-2147483648) ≤ n8) (f21 : (hLe T0 H1 H2 ∧ hFr s_62.2.2.2.2 H1 H2 ∧ ((0 : Int) = 0 → H2.length = H1.length) ∧ hWt T0 H2) ∧ True) (f22 : n9 = 2) (f23 : hUpd H3 H2 n0 n9 n8) (f24 : n10 = 0) (f25 : n11 = 1) (f26 : hUpd H4 H3 n0 n11 n10) (f27 : n6 = 0) (f28 : n12 = 30) (f29 : n12 = hV H4 (n0).toNat 8) (f30 : n13 ≤ 1) (f31 : 0 ≤ n13) (f32 : n13 = hV H4 (n12).toNat 7) (f33 : n13 = 0) (f34 : n6 ≠ 0) : postb_157y n6 n0 H0 H4 := by
  exfalso
  clear f0 f1 f2 f3 f4 f5 f6 f7 f8 f9 f10 f11 f12 f13 f14 f15 f16 f17 f18 f19 f20 f21 f22 f23 f24 f25 f26 f28 f29 f30 f31 f32 f33
  omega
theorem c_157y_s_4 : vOkm T0 (eP e_157y L_157y A_157y mu_157y none) 1 ([(31, [6], [], 0), (30, [13], [], 0), (20, [13, 12], [4], 7), (90, [13], [], 0), (91, [13], [], 1), (20, [12, 0], [4], 8), (0, [12], [], 30), (30, [6], [], 0), (80, [0, 11, 10], [4, 3], 0), (0, [11], [], 1), (0, [10], [], 0), (80, [0, 9, 8], [3, 2], 0), (0, [9], [], 2), (1062, [8, 7], [1, 2], 0), (90, [8], [], -2147483648), (91, [8], [], 2147483647), (20, [7, 0], [1], 8), (0, [7], [], 30), (1060, [6, 3, 4, 5], [0, 1], 0), (90, [6], [], -2147483648), (91, [6], [], 2147483647), (20, [5, 0], [0], 1), (90, [5], [], -2147483648), (91, [5], [], 2147483647), (20, [4, 0], [0], 0), (0, [4], [], 8), (20, [3, 0], [0], 8), (0, [3], [], 30), (42, [1, 2], [], 0), (0, [2], [], 8), (20, [1, 0], [0], 4), (90, [1], [], 0), (91, [1], [], 8), (6000, [0], [0], 0), (0, [0], [], 7)], (3000, [6], [4], 85)) := vOk_in fun ρ η h => by
  obtain ⟨f0, f1, f2, f3, f4, f5, f6, f7, f8, f9, f10, f11, f12, f13, f14, f15, f16, f17, f18, f19, f20, f21, f22, f23, f24, f25, f26, f27, f28, f29, f30, f31, f32, f33, f34, _⟩ := h
  exact q_157y_4 (n0 := ρ 0) (n1 := ρ 1) (n2 := ρ 2) (n3 := ρ 3) (n4 := ρ 4) (n5 := ρ 5) (n6 := ρ 6) (n7 := ρ 7) (n8 := ρ 8) (n9 := ρ 9) (n10 := ρ 10) (n11 := ρ 11) (n12 := ρ 12) (n13 := ρ 13) (H0 := η 0) (H1 := η 1) (H2 := η 2) (H3 := η 3) (H4 := η 4) f34 f33 f32 f31 f30 f29 f28 f27 f26 f25 f24 f23 f22 f21 f20 f19 f18 f17 f16 f15 f14 f13 f12 f11 f10 f9 f8 f7 f6 f5 f4 f3 f2 f1 f0
theorem q_157y_5 {n0 n1 n2 n3 n4 n5 n6 n7 n8 n9 n10 n11 n12 n13 : Int} {H0 H1 H2 H3 H4 : gH} (f0 : n0 = 7) (f1 : hWt T0 H0 ∧ preb_157y n0 H0) (f2 : n1 ≤ 8) (f3 : 0 ≤ n1) (f4 : n1 = hV H0 (n0).toNat 4) (f5 : n2 = 8) (f6 : n1 < n2) (f7 : n3 = 30) (f8 : n3 = hV H0 (n0).toNat 8) (f9 : n4 = 8) (f10 : n4 = hV H0 (n0).toNat 0) (f11 : n5 ≤ 2147483647) (f12 : (-2147483648) ≤ n5) (f13 : n5 = hV H0 (n0).toNat 1) (f14 : n6 ≤ 2147483647) (f15 : (-2147483648) ≤ n6) (f16 : (hLe T0 H0 H1 ∧ hFr s_60.2.2.2.2 H0 H1 ∧ ((0 : Int) = 0 → H1.length = H0.length) ∧ hWt T0 H1) ∧ postb_60z n6 n3 n4 n5 H0 H1) (f17 : n7 = 30) (f18 : n7 = hV H1 (n0).toNat 8) (f19 : n8 ≤ 2147483647) (f20 : (-2147483648) ≤ n8) (f21 : (hLe T0 H1 H2 ∧ hFr s_62.2.2.2.2 H1 H2 ∧ ((0 : Int) = 0 → H2.length = H1.length) ∧ hWt T0 H2) ∧ True) (f22 : n9 = 2) (f23 : hUpd H3 H2 n0 n9 n8) (f24 : n10 = 0) (f25 : n11 = 1) (f26 : hUpd H4 H3 n0 n11 n10) (f27 : n6 = 0) (f28 : n12 = 30) (f29 : n12 = hV H4 (n0).toNat 8) (f30 : n13 ≤ 1) (f31 : 0 ≤ n13) (f32 : n13 = hV H4 (n12).toNat 7) (f33 : n13 = 0) (f34 : n6 = 0) : preb_193y n0 H4 := by
  exact trivial
theorem c_157y_s_5 : vOkm T0 (eP e_157y L_157y A_157y mu_157y none) 1 ([(30, [6], [], 0), (30, [13], [], 0), (20, [13, 12], [4], 7), (90, [13], [], 0), (91, [13], [], 1), (20, [12, 0], [4], 8), (0, [12], [], 30), (30, [6], [], 0), (80, [0, 11, 10], [4, 3], 0), (0, [11], [], 1), (0, [10], [], 0), (80, [0, 9, 8], [3, 2], 0), (0, [9], [], 2), (1062, [8, 7], [1, 2], 0), (90, [8], [], -2147483648), (91, [8], [], 2147483647), (20, [7, 0], [1], 8), (0, [7], [], 30), (1060, [6, 3, 4, 5], [0, 1], 0), (90, [6], [], -2147483648), (91, [6], [], 2147483647), (20, [5, 0], [0], 1), (90, [5], [], -2147483648), (91, [5], [], 2147483647), (20, [4, 0], [0], 0), (0, [4], [], 8), (20, [3, 0], [0], 8), (0, [3], [], 30), (42, [1, 2], [], 0), (0, [2], [], 8), (20, [1, 0], [0], 4), (90, [1], [], 0), (91, [1], [], 8), (6000, [0], [0], 0), (0, [0], [], 7)], (2193, [0], [4], 0)) := vOk_in fun ρ η h => by
  obtain ⟨f0, f1, f2, f3, f4, f5, f6, f7, f8, f9, f10, f11, f12, f13, f14, f15, f16, f17, f18, f19, f20, f21, f22, f23, f24, f25, f26, f27, f28, f29, f30, f31, f32, f33, f34, _⟩ := h
  exact q_157y_5 (n0 := ρ 0) (n1 := ρ 1) (n2 := ρ 2) (n3 := ρ 3) (n4 := ρ 4) (n5 := ρ 5) (n6 := ρ 6) (n7 := ρ 7) (n8 := ρ 8) (n9 := ρ 9) (n10 := ρ 10) (n11 := ρ 11) (n12 := ρ 12) (n13 := ρ 13) (H0 := η 0) (H1 := η 1) (H2 := η 2) (H3 := η 3) (H4 := η 4) f34 f33 f32 f31 f30 f29 f28 f27 f26 f25 f24 f23 f22 f21 f20 f19 f18 f17 f16 f15 f14 f13 f12 f11 f10 f9 f8 f7 f6 f5 f4 f3 f2 f1 f0
theorem q_157y_6 {n0 n1 n2 n3 n4 n5 n6 n7 n8 n9 n10 n11 n12 n13 : Int} {H0 H1 H2 H3 H4 H5 : gH} (f0 : n0 = 7) (f1 : hWt T0 H0 ∧ preb_157y n0 H0) (f2 : n1 ≤ 8) (f3 : 0 ≤ n1) (f4 : n1 = hV H0 (n0).toNat 4) (f5 : n2 = 8) (f6 : n1 < n2) (f7 : n3 = 30) (f8 : n3 = hV H0 (n0).toNat 8) (f9 : n4 = 8) (f10 : n4 = hV H0 (n0).toNat 0) (f11 : n5 ≤ 2147483647) (f12 : (-2147483648) ≤ n5) (f13 : n5 = hV H0 (n0).toNat 1) (f14 : n6 ≤ 2147483647) (f15 : (-2147483648) ≤ n6) (f16 : (hLe T0 H0 H1 ∧ hFr s_60.2.2.2.2 H0 H1 ∧ ((0 : Int) = 0 → H1.length = H0.length) ∧ hWt T0 H1) ∧ postb_60z n6 n3 n4 n5 H0 H1) (f17 : n7 = 30) (f18 : n7 = hV H1 (n0).toNat 8) (f19 : n8 ≤ 2147483647) (f20 : (-2147483648) ≤ n8) (f21 : (hLe T0 H1 H2 ∧ hFr s_62.2.2.2.2 H1 H2 ∧ ((0 : Int) = 0 → H2.length = H1.length) ∧ hWt T0 H2) ∧ True) (f22 : n9 = 2) (f23 : hUpd H3 H2 n0 n9 n8) (f24 : n10 = 0) (f25 : n11 = 1) (f26 : hUpd H4 H3 n0 n11 n10) (f27 : n6 = 0) (f28 : n12 = 30) (f29 : n12 = hV H4 (n0).toNat 8) (f30 : n13 ≤ 1) (f31 : 0 ≤ n13) (f32 : n13 = hV H4 (n12).toNat 7) (f33 : n13 = 0) (f34 : n6 = 0) (f35 : (hLe T0 H4 H5 ∧ hFr s_193y.2.2.2.2 H4 H5 ∧ ((1 : Int) = 0 → H5.length = H4.length) ∧ hWt T0 H5) ∧ postb_193y n0 H4 H5) : postb_157y n6 n0 H0 H5 := by
  have pz := f1.2
  unfold preb_157y at pz
  obtain ⟨rd, km, ic, mt⟩ := pz
  have rd2 := rd
  obtain ⟨z1, z2, z3, z4, z5, z6, z7⟩ := rd2
  obtain ⟨mf, ms, me, m20, m21, m22, mz⟩ := MTc mt
  have r4 := f4
  rw [f0] at r4
  rw [show ((7 : Int)).toNat = 7 from rfl] at r4
  have r8 := f8
  rw [f0] at r8
  rw [show ((7 : Int)).toNat = 7 from rfl] at r8
  have r10 := f10
  rw [f0] at r10
  rw [show ((7 : Int)).toNat = 7 from rfl] at r10
  have r13 := f13
  rw [f0] at r13
  rw [show ((7 : Int)).toNat = 7 from rfl] at r13
  have r18 := f18
  rw [f0] at r18
  rw [show ((7 : Int)).toNat = 7 from rfl] at r18
  have r29 := f29
  rw [f0] at r29
  rw [show ((7 : Int)).toNat = 7 from rfl] at r29
  have r32 := f32
  rw [f28] at r32
  rw [show ((30 : Int)).toNat = 30 from rfl] at r32
  unfold postb_157y
  intro ck k79 b16
  have q := f16.2.1
  unfold postb_60v at q
  have qn := f16.2.2
  unfold nb_60 at qn
  rw [show n5 = hV H0 7 1 by omega] at q qn
  obtain ⟨c1, c2, c3, c4, c5, c6, c7⟩ := q
  obtain ⟨n1, n7, nf⟩ := qn ck
  have k79a := K79_le f16.1.1 k79
  have ckA := CK_fr f16.1.1 f16.1.2.1 (by decide +kernel) ck
  have olA : OLDs H0 H1 := ⟨SHo_fr f16.1.1 f16.1.2.1 (by decide +kernel), RWo_fr f16.1.1 f16.1.2.1 (by decide +kernel), n1⟩
  have e9A : hV H1 9 = hV H0 9 := fRow f16.1.2.1 9 (by decide +kernel)
  have e4A : hV H1 7 4 = hV H0 7 4 := f16.1.2.1.1 7 4 (by decide +kernel)
  have e3A : hV H1 19 3 = hV H0 19 3 := f16.1.2.1.1 19 3 (by decide +kernel)
  have k79_H2 := K79_le f21.1.1 k79a
  have ck_H2 := CK_fr f21.1.1 f21.1.2.1 (by decide +kernel) ckA
  have ol_H2 : OLDs H0 H2 := OLDs_tr olA (OLDs_fr f21.1.1 f21.1.2.1 (by decide +kernel))
  have bb_H2 : B16 H2 7 := B16_eq (fRow f21.1.2.1 46 (by decide +kernel)) (n7 b16)
  have e9_H2 : hV H2 9 = hV H0 9 := (fRow f21.1.2.1 9 (by decide +kernel)).trans e9A
  have e4_H2 : hV H2 7 4 = hV H0 7 4 := (f21.1.2.1.1 7 4 (by decide +kernel)).trans e4A
  have e3_H2 : hV H2 19 3 = hV H0 19 3 := (f21.1.2.1.1 19 3 (by decide +kernel)).trans e3A
  have k79_H3 := K79_up f23 k79_H2
  have ck_H3 : CK H3 := ⟨fun i hi => by rw [uRowNe f23 45 (by rw [f0]; decide)]; exact ck_H2.1 i hi, kUp f23 ck_H2.2.1, (f23.2.2 46).2.trans ck_H2.2.2⟩
  have ol_H3 : OLDs H0 H3 := OLDs_tr ol_H2 (OLDs_7 f23 f0 k79_H2)
  have bb_H3 : B16 H3 7 := B16_eq (uRowNe f23 46 (by rw [f0]; decide)) bb_H2
  have e9_H3 : hV H3 9 = hV H0 9 := (uRowNe f23 9 (by rw [f0]; decide)).trans e9_H2
  have e4_H3 : hV H3 7 4 = hV H0 7 4 := (uSlot f23 7 4 (by rw [f22]; decide)).trans e4_H2
  have e3_H3 : hV H3 19 3 = hV H0 19 3 := (congrFun (uRowNe f23 19 (by rw [f0]; decide)) 3).trans e3_H2
  have k79_H4 := K79_up f26 k79_H3
  have ck_H4 : CK H4 := ⟨fun i hi => by rw [uRowNe f26 45 (by rw [f0]; decide)]; exact ck_H3.1 i hi, kUp f26 ck_H3.2.1, (f26.2.2 46).2.trans ck_H3.2.2⟩
  have ol_H4 : OLDs H0 H4 := OLDs_tr ol_H3 (OLDs_7 f26 f0 k79_H3)
  have bb_H4 : B16 H4 7 := B16_eq (uRowNe f26 46 (by rw [f0]; decide)) bb_H3
  have e9_H4 : hV H4 9 = hV H0 9 := (uRowNe f26 9 (by rw [f0]; decide)).trans e9_H3
  have e4_H4 : hV H4 7 4 = hV H0 7 4 := (uSlot f26 7 4 (by rw [f25]; decide)).trans e4_H3
  have e3_H4 : hV H4 19 3 = hV H0 19 3 := (congrFun (uRowNe f26 19 (by rw [f0]; decide)) 3).trans e3_H3
  have s7 : hV H4 30 7 = hV H1 30 7 := (congrFun (uRowNe f26 30 (by rw [f0]; decide)) 7).trans ((congrFun (uRowNe f23 30 (by rw [f0]; decide)) 7).trans (f21.1.2.1.1 30 7 (by decide +kernel)))
  have fi := nf (by omega) (by omega)
  have cc : n6 = 0 ∧ ¬ (pTx (hV H0 8) (hV H0 7 1)).1 0 = 19 := ⟨by omega, by rcases c5 with w | w; exact absurd w.1 (by omega); exact w.2⟩
  have cuP : CU H4 := (CU_upc f26 (by rw [f0]; decide) (CU_upc f23 (by rw [f0]; decide) (CU_fr f21.1.1 f21.1.2.1 (by decide +kernel) (CU_fr f16.1.1 f16.1.2.1 (by decide +kernel) z3))))
  have cuA := (CU_fr f16.1.1 f16.1.2.1 (by decide +kernel) z3)
  have kbP : KB H4 := (KB_up f26 (KB_up f23 (KB_le f21.1.1 (KB_le f16.1.1 z2))))
  have co : CUo H1 H4 (-1) := (CUo_tr (CUo_fr (c := -1) f21.1.1 f21.1.2.1 (by decide +kernel)) (CUo_tr (CUo_ne (c := -1) f23 (by rw [f0]; show ¬ hK H2 7 = 1; rw [k79_H2.1]; decide)) (CUo_ne (c := -1) f26 (by rw [f0]; show ¬ hK H3 7 = 1; rw [k79_H3.1]; decide))))
  have fp : FIN (pTx (hV H0 8) (hV H0 7 1)) H4 := FIN_same ((congrFun (uRowNe f26 30 (by rw [f0]; decide)) 13).trans ((congrFun (uRowNe f23 30 (by rw [f0]; decide)) 13).trans (f21.1.2.1.1 30 13 (by decide +kernel)))) ((uRowNe f26 46 (by rw [f0]; decide)).trans ((uRowNe f23 46 (by rw [f0]; decide)).trans (fRow f21.1.2.1 46 (by decide +kernel)))) ((uRowNe f26 47 (by rw [f0]; decide)).trans ((uRowNe f23 47 (by rw [f0]; decide)).trans (fRow f21.1.2.1 47 (by decide +kernel)))) ((uRowNe f26 48 (by rw [f0]; decide)).trans ((uRowNe f23 48 (by rw [f0]; decide)).trans (fRow f21.1.2.1 48 (by decide +kernel)))) (fun b k hb hk s => (co _ (C45_k ckA.1 cuA hb hk)).2 (by omega) s) fi
  have f4 := fp.2.2.2.1
  have f5_ := fp.2.2.2.2.1
  have tw : TSW H4 := ⟨ck_H4, cuP, kbP.2.2.1, kbP.2.2.2, bb_H4, k79_H4, f4, f5_, by rw [e3_H4]; omega, by rw [e4_H4]; omega, by rw [e4_H4]; omega⟩
  have ts := f35.2
  unfold postb_193y at ts
  have ts := ts tw
  unfold TSY at ts
  obtain ⟨t1, t2, t3, t4, t5, t6, t7, t8⟩ := ts
  have lb : H0.length ≤ H4.length := by
    have l0 := f16.1.1.1
    have l26 := f26.2.1
    have l23 := f23.2.1
    have l21 := f21.1.1.1
    omega
  rw [e4_H4] at t1 t2
  rw [e9_H4] at t2
  rw [e3_H4] at t3
  exact ⟨CK_fr f35.1.1 f35.1.2.1 (by decide +kernel) ck_H4, K79_le f35.1.1 k79_H4, B16_eq t8 bb_H4, OLDs_tr ol_H4 ⟨t5, t6, CUz_of t7⟩, .inr ⟨cc.1, cc.2, by omega, t1, _, lb, t2, t3, _, _, _, FIN_TLD fp, t4⟩⟩
theorem c_157y_s_6 : vOkm T0 (eP e_157y L_157y A_157y mu_157y none) 1 ([(1193, [0], [4, 5], 1), (30, [6], [], 0), (30, [13], [], 0), (20, [13, 12], [4], 7), (90, [13], [], 0), (91, [13], [], 1), (20, [12, 0], [4], 8), (0, [12], [], 30), (30, [6], [], 0), (80, [0, 11, 10], [4, 3], 0), (0, [11], [], 1), (0, [10], [], 0), (80, [0, 9, 8], [3, 2], 0), (0, [9], [], 2), (1062, [8, 7], [1, 2], 0), (90, [8], [], -2147483648), (91, [8], [], 2147483647), (20, [7, 0], [1], 8), (0, [7], [], 30), (1060, [6, 3, 4, 5], [0, 1], 0), (90, [6], [], -2147483648), (91, [6], [], 2147483647), (20, [5, 0], [0], 1), (90, [5], [], -2147483648), (91, [5], [], 2147483647), (20, [4, 0], [0], 0), (0, [4], [], 8), (20, [3, 0], [0], 8), (0, [3], [], 30), (42, [1, 2], [], 0), (0, [2], [], 8), (20, [1, 0], [0], 4), (90, [1], [], 0), (91, [1], [], 8), (6000, [0], [0], 0), (0, [0], [], 7)], (3000, [6], [5], 85)) := vOk_in fun ρ η h => by
  obtain ⟨f0, f1, f2, f3, f4, f5, f6, f7, f8, f9, f10, f11, f12, f13, f14, f15, f16, f17, f18, f19, f20, f21, f22, f23, f24, f25, f26, f27, f28, f29, f30, f31, f32, f33, f34, f35, _⟩ := h
  exact q_157y_6 (n0 := ρ 0) (n1 := ρ 1) (n2 := ρ 2) (n3 := ρ 3) (n4 := ρ 4) (n5 := ρ 5) (n6 := ρ 6) (n7 := ρ 7) (n8 := ρ 8) (n9 := ρ 9) (n10 := ρ 10) (n11 := ρ 11) (n12 := ρ 12) (n13 := ρ 13) (H0 := η 0) (H1 := η 1) (H2 := η 2) (H3 := η 3) (H4 := η 4) (H5 := η 5) f35 f34 f33 f32 f31 f30 f29 f28 f27 f26 f25 f24 f23 f22 f21 f20 f19 f18 f17 f16 f15 f14 f13 f12 f11 f10 f9 f8 f7 f6 f5 f4 f3 f2 f1 f0
theorem q_157y_7 {n0 n1 n2 n3 n4 n5 n6 n7 n8 n9 n10 n11 n12 n13 n14 n15 n16 n17 : Int} {H0 H1 H2 H3 H4 H5 H6 : gH} (f0 : n0 = 7) (f1 : hWt T0 H0 ∧ preb_157y n0 H0) (f2 : n1 ≤ 8) (f3 : 0 ≤ n1) (f4 : n1 = hV H0 (n0).toNat 4) (f5 : n2 = 8) (f6 : n1 < n2) (f7 : n3 = 30) (f8 : n3 = hV H0 (n0).toNat 8) (f9 : n4 = 8) (f10 : n4 = hV H0 (n0).toNat 0) (f11 : n5 ≤ 2147483647) (f12 : (-2147483648) ≤ n5) (f13 : n5 = hV H0 (n0).toNat 1) (f14 : n6 ≤ 2147483647) (f15 : (-2147483648) ≤ n6) (f16 : (hLe T0 H0 H1 ∧ hFr s_60.2.2.2.2 H0 H1 ∧ ((0 : Int) = 0 → H1.length = H0.length) ∧ hWt T0 H1) ∧ postb_60z n6 n3 n4 n5 H0 H1) (f17 : n7 = 30) (f18 : n7 = hV H1 (n0).toNat 8) (f19 : n8 ≤ 2147483647) (f20 : (-2147483648) ≤ n8) (f21 : (hLe T0 H1 H2 ∧ hFr s_62.2.2.2.2 H1 H2 ∧ ((0 : Int) = 0 → H2.length = H1.length) ∧ hWt T0 H2) ∧ True) (f22 : n9 = 2) (f23 : hUpd H3 H2 n0 n9 n8) (f24 : n10 = 0) (f25 : n11 = 1) (f26 : hUpd H4 H3 n0 n11 n10) (f27 : n6 = 0) (f28 : n12 = 30) (f29 : n12 = hV H4 (n0).toNat 8) (f30 : n13 ≤ 1) (f31 : 0 ≤ n13) (f32 : n13 = hV H4 (n12).toNat 7) (f33 : n13 ≠ 0) (f34 : n14 = 30) (f35 : n14 = hV H4 (n0).toNat 8) (f36 : 0 ≤ n15) (f37 : n15 = hV H4 (n0).toNat 5) (f38 : 0 ≤ n16) (f39 : (hLe T0 H4 H5 ∧ hFr s_63.2.2.2.2 H4 H5 ∧ ((0 : Int) = 0 → H5.length = H4.length) ∧ hWt T0 H5) ∧ True) (f40 : n17 = 5) (f41 : hUpd H6 H5 n0 n17 n16) : postb_157y n6 n0 H0 H6 := by
  have pz := f1.2
  unfold preb_157y at pz
  obtain ⟨rd, km, ic, mt⟩ := pz
  have rd2 := rd
  obtain ⟨z1, z2, z3, z4, z5, z6, z7⟩ := rd2
  obtain ⟨mf, ms, me, m20, m21, m22, mz⟩ := MTc mt
  have r4 := f4
  rw [f0] at r4
  rw [show ((7 : Int)).toNat = 7 from rfl] at r4
  have r8 := f8
  rw [f0] at r8
  rw [show ((7 : Int)).toNat = 7 from rfl] at r8
  have r10 := f10
  rw [f0] at r10
  rw [show ((7 : Int)).toNat = 7 from rfl] at r10
  have r13 := f13
  rw [f0] at r13
  rw [show ((7 : Int)).toNat = 7 from rfl] at r13
  have r18 := f18
  rw [f0] at r18
  rw [show ((7 : Int)).toNat = 7 from rfl] at r18
  have r29 := f29
  rw [f0] at r29
  rw [show ((7 : Int)).toNat = 7 from rfl] at r29
  have r32 := f32
  rw [f28] at r32
  rw [show ((30 : Int)).toNat = 30 from rfl] at r32
  have r35 := f35
  rw [f0] at r35
  rw [show ((7 : Int)).toNat = 7 from rfl] at r35
  have r37 := f37
  rw [f0] at r37
  rw [show ((7 : Int)).toNat = 7 from rfl] at r37
  unfold postb_157y
  intro ck k79 b16
  have q := f16.2.1
  unfold postb_60v at q
  have qn := f16.2.2
  unfold nb_60 at qn
  rw [show n5 = hV H0 7 1 by omega] at q qn
  obtain ⟨c1, c2, c3, c4, c5, c6, c7⟩ := q
  obtain ⟨n1, n7, nf⟩ := qn ck
  have k79a := K79_le f16.1.1 k79
  have ckA := CK_fr f16.1.1 f16.1.2.1 (by decide +kernel) ck
  have olA : OLDs H0 H1 := ⟨SHo_fr f16.1.1 f16.1.2.1 (by decide +kernel), RWo_fr f16.1.1 f16.1.2.1 (by decide +kernel), n1⟩
  have e9A : hV H1 9 = hV H0 9 := fRow f16.1.2.1 9 (by decide +kernel)
  have e4A : hV H1 7 4 = hV H0 7 4 := f16.1.2.1.1 7 4 (by decide +kernel)
  have e3A : hV H1 19 3 = hV H0 19 3 := f16.1.2.1.1 19 3 (by decide +kernel)
  have k79_H2 := K79_le f21.1.1 k79a
  have ck_H2 := CK_fr f21.1.1 f21.1.2.1 (by decide +kernel) ckA
  have ol_H2 : OLDs H0 H2 := OLDs_tr olA (OLDs_fr f21.1.1 f21.1.2.1 (by decide +kernel))
  have bb_H2 : B16 H2 7 := B16_eq (fRow f21.1.2.1 46 (by decide +kernel)) (n7 b16)
  have e9_H2 : hV H2 9 = hV H0 9 := (fRow f21.1.2.1 9 (by decide +kernel)).trans e9A
  have e4_H2 : hV H2 7 4 = hV H0 7 4 := (f21.1.2.1.1 7 4 (by decide +kernel)).trans e4A
  have e3_H2 : hV H2 19 3 = hV H0 19 3 := (f21.1.2.1.1 19 3 (by decide +kernel)).trans e3A
  have k79_H3 := K79_up f23 k79_H2
  have ck_H3 : CK H3 := ⟨fun i hi => by rw [uRowNe f23 45 (by rw [f0]; decide)]; exact ck_H2.1 i hi, kUp f23 ck_H2.2.1, (f23.2.2 46).2.trans ck_H2.2.2⟩
  have ol_H3 : OLDs H0 H3 := OLDs_tr ol_H2 (OLDs_7 f23 f0 k79_H2)
  have bb_H3 : B16 H3 7 := B16_eq (uRowNe f23 46 (by rw [f0]; decide)) bb_H2
  have e9_H3 : hV H3 9 = hV H0 9 := (uRowNe f23 9 (by rw [f0]; decide)).trans e9_H2
  have e4_H3 : hV H3 7 4 = hV H0 7 4 := (uSlot f23 7 4 (by rw [f22]; decide)).trans e4_H2
  have e3_H3 : hV H3 19 3 = hV H0 19 3 := (congrFun (uRowNe f23 19 (by rw [f0]; decide)) 3).trans e3_H2
  have k79_H4 := K79_up f26 k79_H3
  have ck_H4 : CK H4 := ⟨fun i hi => by rw [uRowNe f26 45 (by rw [f0]; decide)]; exact ck_H3.1 i hi, kUp f26 ck_H3.2.1, (f26.2.2 46).2.trans ck_H3.2.2⟩
  have ol_H4 : OLDs H0 H4 := OLDs_tr ol_H3 (OLDs_7 f26 f0 k79_H3)
  have bb_H4 : B16 H4 7 := B16_eq (uRowNe f26 46 (by rw [f0]; decide)) bb_H3
  have e9_H4 : hV H4 9 = hV H0 9 := (uRowNe f26 9 (by rw [f0]; decide)).trans e9_H3
  have e4_H4 : hV H4 7 4 = hV H0 7 4 := (uSlot f26 7 4 (by rw [f25]; decide)).trans e4_H3
  have e3_H4 : hV H4 19 3 = hV H0 19 3 := (congrFun (uRowNe f26 19 (by rw [f0]; decide)) 3).trans e3_H3
  have k79_H5 := K79_le f39.1.1 k79_H4
  have ck_H5 := CK_fr f39.1.1 f39.1.2.1 (by decide +kernel) ck_H4
  have ol_H5 : OLDs H0 H5 := OLDs_tr ol_H4 (OLDs_fr f39.1.1 f39.1.2.1 (by decide +kernel))
  have bb_H5 : B16 H5 7 := B16_eq (fRow f39.1.2.1 46 (by decide +kernel)) bb_H4
  have e9_H5 : hV H5 9 = hV H0 9 := (fRow f39.1.2.1 9 (by decide +kernel)).trans e9_H4
  have e4_H5 : hV H5 7 4 = hV H0 7 4 := (f39.1.2.1.1 7 4 (by decide +kernel)).trans e4_H4
  have e3_H5 : hV H5 19 3 = hV H0 19 3 := (f39.1.2.1.1 19 3 (by decide +kernel)).trans e3_H4
  have k79_H6 := K79_up f41 k79_H5
  have ck_H6 : CK H6 := ⟨fun i hi => by rw [uRowNe f41 45 (by rw [f0]; decide)]; exact ck_H5.1 i hi, kUp f41 ck_H5.2.1, (f41.2.2 46).2.trans ck_H5.2.2⟩
  have ol_H6 : OLDs H0 H6 := OLDs_tr ol_H5 (OLDs_7 f41 f0 k79_H5)
  have bb_H6 : B16 H6 7 := B16_eq (uRowNe f41 46 (by rw [f0]; decide)) bb_H5
  have e9_H6 : hV H6 9 = hV H0 9 := (uRowNe f41 9 (by rw [f0]; decide)).trans e9_H5
  have e4_H6 : hV H6 7 4 = hV H0 7 4 := (uSlot f41 7 4 (by rw [f40]; decide)).trans e4_H5
  have e3_H6 : hV H6 19 3 = hV H0 19 3 := (congrFun (uRowNe f41 19 (by rw [f0]; decide)) 3).trans e3_H5
  have s7 : hV H4 30 7 = hV H1 30 7 := (congrFun (uRowNe f26 30 (by rw [f0]; decide)) 7).trans ((congrFun (uRowNe f23 30 (by rw [f0]; decide)) 7).trans (f21.1.2.1.1 30 7 (by decide +kernel)))
  exact ⟨ck_H6, k79_H6, bb_H6, ol_H6, .inl ⟨fun w => by
    have w1 := w.1
    first
    | omega
    | (rcases c5 with v | v
       · exact w.2 v.2
       · have := v.1
         omega), e4_H6, e9_H6⟩⟩
theorem c_157y_s_7 : vOkm T0 (eP e_157y L_157y A_157y mu_157y none) 1 ([(80, [0, 17, 16], [6, 5], 2), (0, [17], [], 5), (1063, [16, 14, 15], [4, 5], 0), (51, [16], [], 0), (20, [15, 0], [4], 5), (51, [15], [], 0), (20, [14, 0], [4], 8), (0, [14], [], 30), (31, [13], [], 0), (20, [13, 12], [4], 7), (90, [13], [], 0), (91, [13], [], 1), (20, [12, 0], [4], 8), (0, [12], [], 30), (30, [6], [], 0), (80, [0, 11, 10], [4, 3], 0), (0, [11], [], 1), (0, [10], [], 0), (80, [0, 9, 8], [3, 2], 0), (0, [9], [], 2), (1062, [8, 7], [1, 2], 0), (90, [8], [], -2147483648), (91, [8], [], 2147483647), (20, [7, 0], [1], 8), (0, [7], [], 30), (1060, [6, 3, 4, 5], [0, 1], 0), (90, [6], [], -2147483648), (91, [6], [], 2147483647), (20, [5, 0], [0], 1), (90, [5], [], -2147483648), (91, [5], [], 2147483647), (20, [4, 0], [0], 0), (0, [4], [], 8), (20, [3, 0], [0], 8), (0, [3], [], 30), (42, [1, 2], [], 0), (0, [2], [], 8), (20, [1, 0], [0], 4), (90, [1], [], 0), (91, [1], [], 8), (6000, [0], [0], 0), (0, [0], [], 7)], (3000, [6], [6], 85)) := vOk_in fun ρ η h => by
  obtain ⟨f0, f1, f2, f3, f4, f5, f6, f7, f8, f9, f10, f11, f12, f13, f14, f15, f16, f17, f18, f19, f20, f21, f22, f23, f24, f25, f26, f27, f28, f29, f30, f31, f32, f33, f34, f35, f36, f37, f38, f39, f40, f41, _⟩ := h
  exact q_157y_7 (n0 := ρ 0) (n1 := ρ 1) (n2 := ρ 2) (n3 := ρ 3) (n4 := ρ 4) (n5 := ρ 5) (n6 := ρ 6) (n7 := ρ 7) (n8 := ρ 8) (n9 := ρ 9) (n10 := ρ 10) (n11 := ρ 11) (n12 := ρ 12) (n13 := ρ 13) (n14 := ρ 14) (n15 := ρ 15) (n16 := ρ 16) (n17 := ρ 17) (H0 := η 0) (H1 := η 1) (H2 := η 2) (H3 := η 3) (H4 := η 4) (H5 := η 5) (H6 := η 6) f41 f40 f39 f38 f37 f36 f35 f34 f33 f32 f31 f30 f29 f28 f27 f26 f25 f24 f23 f22 f21 f20 f19 f18 f17 f16 f15 f14 f13 f12 f11 f10 f9 f8 f7 f6 f5 f4 f3 f2 f1 f0
theorem q_157y_8 {n0 n1 n2 n3 : Int} {H0 : gH} (f0 : n0 = 7) (f1 : hWt T0 H0 ∧ preb_157y n0 H0) (f2 : n1 ≤ 8) (f3 : 0 ≤ n1) (f4 : n1 = hV H0 (n0).toNat 4) (f5 : n2 = 8) (f6 : n2 ≤ n1) (f7 : n3 = (-2)) : postb_157y n3 n0 H0 H0 := by
  have pz := f1.2
  unfold preb_157y at pz
  obtain ⟨rd, km, ic, mt⟩ := pz
  have rd2 := rd
  obtain ⟨z1, z2, z3, z4, z5, z6, z7⟩ := rd2
  obtain ⟨mf, ms, me, m20, m21, m22, mz⟩ := MTc mt
  have r4 := f4
  rw [f0] at r4
  rw [show ((7 : Int)).toNat = 7 from rfl] at r4
  unfold postb_157y
  intro ck k79 b16
  exact ⟨ck, k79, b16, ⟨SHo_rfl, RWo_rfl, fun o h => ⟨h, fun _ _ => rfl⟩⟩, .inl ⟨fun w => by have := w.1; omega, rfl, rfl⟩⟩
theorem c_157y_s_8 : vOkm T0 (eP e_157y L_157y A_157y mu_157y none) 1 ([(0, [3], [], -2), (43, [1, 2], [], 0), (0, [2], [], 8), (20, [1, 0], [0], 4), (90, [1], [], 0), (91, [1], [], 8), (6000, [0], [0], 0), (0, [0], [], 7)], (3000, [3], [0], 11)) := vOk_in fun ρ η h => by
  obtain ⟨f0, f1, f2, f3, f4, f5, f6, f7, _⟩ := h
  exact q_157y_8 (n0 := ρ 0) (n1 := ρ 1) (n2 := ρ 2) (n3 := ρ 3) (H0 := η 0) f7 f6 f5 f4 f3 f2 f1 f0
def p_157y_s : List vG := [([(20, [5, 0], [0], 1), (90, [5], [], -2147483648), (91, [5], [], 2147483647), (20, [4, 0], [0], 0), (0, [4], [], 8), (20, [3, 0], [0], 8), (0, [3], [], 30), (42, [1, 2], [], 0), (0, [2], [], 8), (20, [1, 0], [0], 4), (90, [1], [], 0), (91, [1], [], 8), (6000, [0], [0], 0), (0, [0], [], 7)], (2060, [3, 4, 5], [0], 0)),
  ([(31, [6], [], 0), (31, [6], [], 0), (80, [0, 11, 10], [4, 3], 0), (0, [11], [], 1), (0, [10], [], 0), (80, [0, 9, 8], [3, 2], 0), (0, [9], [], 2), (1062, [8, 7], [1, 2], 0), (90, [8], [], -2147483648), (91, [8], [], 2147483647), (20, [7, 0], [1], 8), (0, [7], [], 30), (1060, [6, 3, 4, 5], [0, 1], 0), (90, [6], [], -2147483648), (91, [6], [], 2147483647), (20, [5, 0], [0], 1), (90, [5], [], -2147483648), (91, [5], [], 2147483647), (20, [4, 0], [0], 0), (0, [4], [], 8), (20, [3, 0], [0], 8), (0, [3], [], 30), (42, [1, 2], [], 0), (0, [2], [], 8), (20, [1, 0], [0], 4), (90, [1], [], 0), (91, [1], [], 8), (6000, [0], [0], 0), (0, [0], [], 7)], (3000, [6], [4], 85)),
  ([(30, [6], [], 0), (31, [6], [], 0), (80, [0, 11, 10], [4, 3], 0), (0, [11], [], 1), (0, [10], [], 0), (80, [0, 9, 8], [3, 2], 0), (0, [9], [], 2), (1062, [8, 7], [1, 2], 0), (90, [8], [], -2147483648), (91, [8], [], 2147483647), (20, [7, 0], [1], 8), (0, [7], [], 30), (1060, [6, 3, 4, 5], [0, 1], 0), (90, [6], [], -2147483648), (91, [6], [], 2147483647), (20, [5, 0], [0], 1), (90, [5], [], -2147483648), (91, [5], [], 2147483647), (20, [4, 0], [0], 0), (0, [4], [], 8), (20, [3, 0], [0], 8), (0, [3], [], 30), (42, [1, 2], [], 0), (0, [2], [], 8), (20, [1, 0], [0], 4), (90, [1], [], 0), (91, [1], [], 8), (6000, [0], [0], 0), (0, [0], [], 7)], (2193, [0], [4], 0)),
  ([(1193, [0], [4, 5], 1), (30, [6], [], 0), (31, [6], [], 0), (80, [0, 11, 10], [4, 3], 0), (0, [11], [], 1), (0, [10], [], 0), (80, [0, 9, 8], [3, 2], 0), (0, [9], [], 2), (1062, [8, 7], [1, 2], 0), (90, [8], [], -2147483648), (91, [8], [], 2147483647), (20, [7, 0], [1], 8), (0, [7], [], 30), (1060, [6, 3, 4, 5], [0, 1], 0), (90, [6], [], -2147483648), (91, [6], [], 2147483647), (20, [5, 0], [0], 1), (90, [5], [], -2147483648), (91, [5], [], 2147483647), (20, [4, 0], [0], 0), (0, [4], [], 8), (20, [3, 0], [0], 8), (0, [3], [], 30), (42, [1, 2], [], 0), (0, [2], [], 8), (20, [1, 0], [0], 4), (90, [1], [], 0), (91, [1], [], 8), (6000, [0], [0], 0), (0, [0], [], 7)], (3000, [6], [5], 85)),
  ([(31, [6], [], 0), (30, [13], [], 0), (20, [13, 12], [4], 7), (90, [13], [], 0), (91, [13], [], 1), (20, [12, 0], [4], 8), (0, [12], [], 30), (30, [6], [], 0), (80, [0, 11, 10], [4, 3], 0), (0, [11], [], 1), (0, [10], [], 0), (80, [0, 9, 8], [3, 2], 0), (0, [9], [], 2), (1062, [8, 7], [1, 2], 0), (90, [8], [], -2147483648), (91, [8], [], 2147483647), (20, [7, 0], [1], 8), (0, [7], [], 30), (1060, [6, 3, 4, 5], [0, 1], 0), (90, [6], [], -2147483648), (91, [6], [], 2147483647), (20, [5, 0], [0], 1), (90, [5], [], -2147483648), (91, [5], [], 2147483647), (20, [4, 0], [0], 0), (0, [4], [], 8), (20, [3, 0], [0], 8), (0, [3], [], 30), (42, [1, 2], [], 0), (0, [2], [], 8), (20, [1, 0], [0], 4), (90, [1], [], 0), (91, [1], [], 8), (6000, [0], [0], 0), (0, [0], [], 7)], (3000, [6], [4], 85)),
  ([(30, [6], [], 0), (30, [13], [], 0), (20, [13, 12], [4], 7), (90, [13], [], 0), (91, [13], [], 1), (20, [12, 0], [4], 8), (0, [12], [], 30), (30, [6], [], 0), (80, [0, 11, 10], [4, 3], 0), (0, [11], [], 1), (0, [10], [], 0), (80, [0, 9, 8], [3, 2], 0), (0, [9], [], 2), (1062, [8, 7], [1, 2], 0), (90, [8], [], -2147483648), (91, [8], [], 2147483647), (20, [7, 0], [1], 8), (0, [7], [], 30), (1060, [6, 3, 4, 5], [0, 1], 0), (90, [6], [], -2147483648), (91, [6], [], 2147483647), (20, [5, 0], [0], 1), (90, [5], [], -2147483648), (91, [5], [], 2147483647), (20, [4, 0], [0], 0), (0, [4], [], 8), (20, [3, 0], [0], 8), (0, [3], [], 30), (42, [1, 2], [], 0), (0, [2], [], 8), (20, [1, 0], [0], 4), (90, [1], [], 0), (91, [1], [], 8), (6000, [0], [0], 0), (0, [0], [], 7)], (2193, [0], [4], 0)),
  ([(1193, [0], [4, 5], 1), (30, [6], [], 0), (30, [13], [], 0), (20, [13, 12], [4], 7), (90, [13], [], 0), (91, [13], [], 1), (20, [12, 0], [4], 8), (0, [12], [], 30), (30, [6], [], 0), (80, [0, 11, 10], [4, 3], 0), (0, [11], [], 1), (0, [10], [], 0), (80, [0, 9, 8], [3, 2], 0), (0, [9], [], 2), (1062, [8, 7], [1, 2], 0), (90, [8], [], -2147483648), (91, [8], [], 2147483647), (20, [7, 0], [1], 8), (0, [7], [], 30), (1060, [6, 3, 4, 5], [0, 1], 0), (90, [6], [], -2147483648), (91, [6], [], 2147483647), (20, [5, 0], [0], 1), (90, [5], [], -2147483648), (91, [5], [], 2147483647), (20, [4, 0], [0], 0), (0, [4], [], 8), (20, [3, 0], [0], 8), (0, [3], [], 30), (42, [1, 2], [], 0), (0, [2], [], 8), (20, [1, 0], [0], 4), (90, [1], [], 0), (91, [1], [], 8), (6000, [0], [0], 0), (0, [0], [], 7)], (3000, [6], [5], 85)),
  ([(80, [0, 17, 16], [6, 5], 2), (0, [17], [], 5), (1063, [16, 14, 15], [4, 5], 0), (51, [16], [], 0), (20, [15, 0], [4], 5), (51, [15], [], 0), (20, [14, 0], [4], 8), (0, [14], [], 30), (31, [13], [], 0), (20, [13, 12], [4], 7), (90, [13], [], 0), (91, [13], [], 1), (20, [12, 0], [4], 8), (0, [12], [], 30), (30, [6], [], 0), (80, [0, 11, 10], [4, 3], 0), (0, [11], [], 1), (0, [10], [], 0), (80, [0, 9, 8], [3, 2], 0), (0, [9], [], 2), (1062, [8, 7], [1, 2], 0), (90, [8], [], -2147483648), (91, [8], [], 2147483647), (20, [7, 0], [1], 8), (0, [7], [], 30), (1060, [6, 3, 4, 5], [0, 1], 0), (90, [6], [], -2147483648), (91, [6], [], 2147483647), (20, [5, 0], [0], 1), (90, [5], [], -2147483648), (91, [5], [], 2147483647), (20, [4, 0], [0], 0), (0, [4], [], 8), (20, [3, 0], [0], 8), (0, [3], [], 30), (42, [1, 2], [], 0), (0, [2], [], 8), (20, [1, 0], [0], 4), (90, [1], [], 0), (91, [1], [], 8), (6000, [0], [0], 0), (0, [0], [], 7)], (3000, [6], [6], 85)),
  ([(0, [3], [], -2), (43, [1, 2], [], 0), (0, [2], [], 8), (20, [1, 0], [0], 4), (90, [1], [], 0), (91, [1], [], 8), (6000, [0], [0], 0), (0, [0], [], 7)], (3000, [3], [0], 11))]
theorem r_157y_s : vCovO false (eR0 e_157y L_157y cs_157y 2000) p_157y_s = true := by decide +kernel
theorem m_157y (d : Nat) : eC e_157y (d + 15) := eC_ok (e := e_157y) (L := L_157y) (cs := cs_157y) (n := 2000) (d := d + 14) (A := A_157y) (μ := mu_157y) (tp := false) (p0 := p_157y_s) rfl ⟨m_60vw (d + 7), ⟨m_62 (d + 11), ⟨m_63 (d + 13), ⟨m_193y d, trivial⟩⟩⟩⟩ rfl (.inl rfl) (by decide +kernel) (fun z => nomatch z) r_157y_s (allC c_157y_s_0 (allC c_157y_s_1 (allC c_157y_s_2 (allC c_157y_s_3 (allC c_157y_s_4 (allC c_157y_s_5 (allC c_157y_s_6 (allC c_157y_s_7 (allC c_157y_s_8 allN))))))))) allN
