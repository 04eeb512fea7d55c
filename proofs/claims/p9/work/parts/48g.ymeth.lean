/-! CONTRACTS of methods (printed by wip/gen/emit.py). -/
/- MixStageModel.marksOf (I)I -/
noncomputable def s_287 : vM := ([(3, 12, 285, 0), (0, 0, 7, 0)], (0, -2147483648, 2147483647, 0), 1, 0, [(596, 0), (604, 0), (652, 0)])
def preb_287 (a0 a1 : Int) (h : gH) : Prop := a1 < hV h 285 18 ∧ PG h ∧ SS h
def pre_287 : List Int → gH → Prop := fun xs h => match xs with
  | [a0, a1] => preb_287 a0 a1 h
  | _ => False
def postb_287 (r a0 a1 : Int) (h0 h : gH) : Prop := r = MKv (hV h 296) (hV h 298) (hV h 300) (hV h 301) (hV h 303) (hV h 341) (a1).toNat ∧ r ≤ hV h 285 65
def post_287 : List Int → gH → gH → Prop := fun xs h0 h => match xs with
  | [r, a0, a1] => postb_287 r a0 a1 h0 h
  | _ => True
noncomputable def e_287 : vE := (287, s_287, pre_287, post_287)
noncomputable def L_287 : List vE := []
def cs_287 : List vC := [(31, [(0, (3, 12, 285, 0)), (1, (0, 0, 7, 0)), (2, (0, 0, 2147483647, 0)), (3, (0, -1, 6, 0))]), (147, [(0, (3, 12, 285, 0)), (1, (0, 0, 7, 0)), (2, (0, 0, 2147483647, 0)), (3, (0, 0, 6, 0)), (4, (0, 0, 1007, 0)), (5, (0, -1, 9999, 0)), (6, (0, -1, 9999, 0))]), (183, [(0, (3, 12, 285, 0)), (1, (0, 0, 7, 0)), (2, (0, 0, 2147483647, 0)), (3, (0, 0, 6, 0)), (4, (0, 0, 1007, 0)), (5, (0, -1, 9999, 0)), (6, (0, -1, 9999, 0))]), (219, [(0, (3, 12, 285, 0)), (1, (0, 0, 7, 0)), (2, (0, 0, 2147483647, 0)), (3, (0, 0, 6, 0)), (4, (0, 0, 1007, 0)), (5, (0, -1, 9999, 0)), (6, (0, -2147483648, 2147483647, 0))])]
def Ab_287_31 (a0 a1 x0 x1 x2 x3 : Int) (h0 h : gH) : Prop := x1 = a1 ∧ LVp (hV h 294) (hV h 296) (hV h 346) (hV h 347) (a1).toNat x3 ∧ MLp (hV h 296) (hV h 298) (hV h 300) (hV h 301) (hV h 303) (hV h 341) (hV h 346) (hV h 347) (hV h 353) (a1).toNat x2 x3 [] ∧ 0 ≤ x2 ∧ x2 ≤ hV h 285 65
def mub_287_31 (a0 a1 x0 x1 x2 x3 : Int) (h0 h : gH) : Nat := MS (hV h 296) (7 * (a1).toNat) (hV h 346) (hV h 347) (x3 + 1).toNat * 4 + 3
def Ab_287_147 (a0 a1 x0 x1 x2 x3 x4 x5 x6 : Int) (h0 h : gH) : Prop := x1 = a1 ∧ LVp (hV h 294) (hV h 296) (hV h 346) (hV h 347) (a1).toNat x3 ∧ UMp (hV h 294) (hV h 296) (hV h 298) (hV h 300) (hV h 346) (a1).toNat x3 x4 x5 ∧ 0 ≤ x2 ∧ x2 ≤ hV h 285 65 ∧ 0 ≤ x3 ∧ MLp (hV h 296) (hV h 298) (hV h 300) (hV h 301) (hV h 303) (hV h 341) (hV h 346) (hV h 347) (hV h 353) (a1).toNat x2 x3 (em1 (hV h 296) (hV h 298) (hV h 300) (hV h 301) (hV h 303) (7 * (a1).toNat) (x4).toNat x5 x6) ∧ (hV h 298 ((x4).toNat) < 2 → x5 ≤ 7) ∧ (hV h 298 ((x4).toNat) = 1 → x6 ≤ 7)
def mub_287_147 (a0 a1 x0 x1 x2 x3 x4 x5 x6 : Int) (h0 h : gH) : Nat := (MS (hV h 296) (7 * (a1).toNat) (hV h 346) (hV h 347) (x3 + 1).toNat + 18 ^ ((hV h 346 ((x3).toNat)).toNat - 7 * (a1).toNat + 1)) * 4 + 2
def Ab_287_183 (a0 a1 x0 x1 x2 x3 x4 x5 x6 : Int) (h0 h : gH) : Prop := x1 = a1 ∧ LVp (hV h 294) (hV h 296) (hV h 346) (hV h 347) (a1).toNat x3 ∧ UMp (hV h 294) (hV h 296) (hV h 298) (hV h 300) (hV h 346) (a1).toNat x3 x4 x5 ∧ 0 ≤ x2 ∧ x2 ≤ hV h 285 65 ∧ 0 ≤ x3 ∧ MLp (hV h 296) (hV h 298) (hV h 300) (hV h 301) (hV h 303) (hV h 341) (hV h 346) (hV h 347) (hV h 353) (a1).toNat x2 x3 (em2 (hV h 296) (hV h 298) (hV h 300) (hV h 301) (hV h 303) (7 * (a1).toNat) (x4).toNat x5 x6) ∧ (hV h 298 ((x4).toNat) = 1 → x6 ≤ 7)
def mub_287_183 (a0 a1 x0 x1 x2 x3 x4 x5 x6 : Int) (h0 h : gH) : Nat := (MS (hV h 296) (7 * (a1).toNat) (hV h 346) (hV h 347) (x3 + 1).toNat + 18 ^ ((hV h 346 ((x3).toNat)).toNat - 7 * (a1).toNat + 1)) * 4 + 1
def Ab_287_219 (a0 a1 x0 x1 x2 x3 x4 x5 x6 : Int) (h0 h : gH) : Prop := x1 = a1 ∧ LVp (hV h 294) (hV h 296) (hV h 346) (hV h 347) (a1).toNat x3 ∧ UMp (hV h 294) (hV h 296) (hV h 298) (hV h 300) (hV h 346) (a1).toNat x3 x4 x5 ∧ 0 ≤ x2 ∧ x2 ≤ hV h 285 65 ∧ 0 ≤ x3 ∧ MLp (hV h 296) (hV h 298) (hV h 300) (hV h 301) (hV h 303) (hV h 341) (hV h 346) (hV h 347) (hV h 353) (a1).toNat x2 x3 (em3 (hV h 296) (hV h 298) (hV h 300) (hV h 301) (hV h 303) (7 * (a1).toNat) (x4).toNat x5)
def mub_287_219 (a0 a1 x0 x1 x2 x3 x4 x5 x6 : Int) (h0 h : gH) : Nat := (MS (hV h 296) (7 * (a1).toNat) (hV h 346) (hV h 347) (x3 + 1).toNat + 18 ^ ((hV h 346 ((x3).toNat)).toNat - 7 * (a1).toNat + 1)) * 4 + 0
def A_287 : Int → List Int → gH → gH → Prop := fun c xs h0 h => match c.toNat with
  | 31 => (match xs with
    | [a0, a1, x0, x1, x2, x3] => Ab_287_31 a0 a1 x0 x1 x2 x3 h0 h
    | _ => False)
  | 147 => (match xs with
    | [a0, a1, x0, x1, x2, x3, x4, x5, x6] => Ab_287_147 a0 a1 x0 x1 x2 x3 x4 x5 x6 h0 h
    | _ => False)
  | 183 => (match xs with
    | [a0, a1, x0, x1, x2, x3, x4, x5, x6] => Ab_287_183 a0 a1 x0 x1 x2 x3 x4 x5 x6 h0 h
    | _ => False)
  | 219 => (match xs with
    | [a0, a1, x0, x1, x2, x3, x4, x5, x6] => Ab_287_219 a0 a1 x0 x1 x2 x3 x4 x5 x6 h0 h
    | _ => False)
  | _ => True
def mu_287 : Int → List Int → gH → gH → Nat := fun c xs h0 h => match c.toNat with
  | 31 => (match xs with
    | [a0, a1, x0, x1, x2, x3] => mub_287_31 a0 a1 x0 x1 x2 x3 h0 h
    | _ => 0)
  | 147 => (match xs with
    | [a0, a1, x0, x1, x2, x3, x4, x5, x6] => mub_287_147 a0 a1 x0 x1 x2 x3 x4 x5 x6 h0 h
    | _ => 0)
  | 183 => (match xs with
    | [a0, a1, x0, x1, x2, x3, x4, x5, x6] => mub_287_183 a0 a1 x0 x1 x2 x3 x4 x5 x6 h0 h
    | _ => 0)
  | 219 => (match xs with
    | [a0, a1, x0, x1, x2, x3, x4, x5, x6] => mub_287_219 a0 a1 x0 x1 x2 x3 x4 x5 x6 h0 h
    | _ => 0)
  | _ => 0
theorem q_287_0 {n0 n1 n2 n3 n4 : Int} {H0 : gH} (f0 : n0 ≤ 7) (f1 : 0 ≤ n0) (f2 : n1 = 7) (f3 : n2 = w32 (n1 * n0)) (f4 : n3 = 6) (f5 : n4 = w32 (n2 + n3)) : 0 ≤ n4 := by
  rw [f2] at f3
  first
  | (have ix0 : n2 = 7 * n0 := Eq.trans f3 (w32_iv (Iml 7 rfl (Iat f1 f0)) (by decide)); subst ix0; clear f3)
  | (have ix0 : n2 = 7 * n0 := Eq.trans f3 (w32_id (by omega) (by omega)); subst ix0; clear f3)
  | (unfold w32 at f3; have ix0 : n2 = 7 * n0 := (by omega); subst ix0)
  | skip
  first
  | (have ix1 : n4 = (7 * n0) + 6 := Eq.trans f5 (w32_iv (Iad (Iml 7 rfl (Iat f1 f0)) (IC 6)) (by decide)); subst ix1; clear f5)
  | (have ix1 : n4 = (7 * n0) + 6 := Eq.trans f5 (w32_id (by omega) (by omega)); subst ix1; clear f5)
  | (unfold w32 at f5; have ix1 : n4 = (7 * n0) + 6 := (by omega); subst ix1)
  | skip
  try unfold w32 at f3
  try unfold w32 at f5
  omega
def g_287_s_0 : vG := ([(1, [9, 7, 8], [], 0), (0, [8], [], 6), (3, [7, 6, 1], [], 0), (0, [6], [], 7), (90, [1], [], 0), (91, [1], [], 7)], (90, [9], [], 0))
theorem c_287_s_0 : vOkm T0 (eP e_287 L_287 A_287 mu_287 none) 2 g_287_s_0 := vOk_inI fun ρ η f0 f1 f2 f3 f4 f5 => q_287_0 (n0 := ρ 1) (n1 := ρ 6) (n2 := ρ 7) (n3 := ρ 8) (n4 := ρ 9) (H0 := η 0) f5 f4 f3 f2 f1 f0
theorem q_287_1 {n0 n1 n2 n3 n4 : Int} {H0 : gH} (f0 : n0 ≤ 7) (f1 : 0 ≤ n0) (f2 : n1 = 7) (f3 : n2 = w32 (n1 * n0)) (f4 : n3 = 6) (f5 : n4 = w32 (n2 + n3)) : n4 ≤ 62 := by
  rw [f2] at f3
  first
  | (have ix0 : n2 = 7 * n0 := Eq.trans f3 (w32_iv (Iml 7 rfl (Iat f1 f0)) (by decide)); subst ix0; clear f3)
  | (have ix0 : n2 = 7 * n0 := Eq.trans f3 (w32_id (by omega) (by omega)); subst ix0; clear f3)
  | (unfold w32 at f3; have ix0 : n2 = 7 * n0 := (by omega); subst ix0)
  | skip
  first
  | (have ix1 : n4 = (7 * n0) + 6 := Eq.trans f5 (w32_iv (Iad (Iml 7 rfl (Iat f1 f0)) (IC 6)) (by decide)); subst ix1; clear f5)
  | (have ix1 : n4 = (7 * n0) + 6 := Eq.trans f5 (w32_id (by omega) (by omega)); subst ix1; clear f5)
  | (unfold w32 at f5; have ix1 : n4 = (7 * n0) + 6 := (by omega); subst ix1)
  | skip
  try unfold w32 at f3
  try unfold w32 at f5
  omega
def g_287_s_1 : vG := ([(1, [9, 7, 8], [], 0), (0, [8], [], 6), (3, [7, 6, 1], [], 0), (0, [6], [], 7), (90, [1], [], 0), (91, [1], [], 7)], (91, [9], [], 62))
theorem c_287_s_1 : vOkm T0 (eP e_287 L_287 A_287 mu_287 none) 2 g_287_s_1 := vOk_inI fun ρ η f0 f1 f2 f3 f4 f5 => q_287_1 (n0 := ρ 1) (n1 := ρ 6) (n2 := ρ 7) (n3 := ρ 8) (n4 := ρ 9) (H0 := η 0) f5 f4 f3 f2 f1 f0
theorem q_287_2 {n0 n1 n2 n3 n4 n5 n6 n7 n8 n9 n10 n11 n12 n13 n14 n15 : Int} {H0 H1 H2 H3 : gH} (f0 : n0 ≤ 7) (f1 : 0 ≤ n0) (f2 : n1 = 285) (f3 : hWt T0 H0 ∧ preb_287 n1 n0 H0) (f4 : n2 = 0) (f5 : n3 = 0) (f6 : n4 = 346) (f7 : n4 = hV H0 (n1).toNat 85) (f8 : n5 = 0) (f9 : n6 = 7) (f10 : n7 = w32 (n6 * n0)) (f11 : n8 = 6) (f12 : n9 = w32 (n7 + n8)) (f13 : hUpd H1 H0 n4 n5 n9) (f14 : n10 = 347) (f15 : n10 = hV H1 (n1).toNat 86) (f16 : n11 = 0) (f17 : n12 = 0) (f18 : hUpd H2 H1 n10 n11 n12) (f19 : n13 = 353) (f20 : n13 = hV H2 (n1).toNat 95) (f21 : n14 = 0) (f22 : n15 = (-1)) (f23 : hUpd H3 H2 n13 n14 n15) : Ab_287_31 n1 n0 n1 n0 n2 n3 H0 H3 ∧ ∀ q, none = some q → mub_287_31 n1 n0 n1 n0 n2 n3 H0 H3 < q := by
  unfold preb_287 at f3
  unfold Ab_287_31
  have e3 : hV H3 285 65 = hV H0 285 65 := ((uSlot f23 285 65 (iS (show n14 = ((0 : Nat) : Int) from f21) rfl))).trans (((uSlot f18 285 65 (iS (show n11 = ((0 : Nat) : Int) from f16) rfl))).trans (uSlot f13 285 65 (iS (show n5 = ((0 : Nat) : Int) from f8) rfl)))
  have e8 : hV H3 294 = hV H0 294 := (uRowNe f23 294 (iS (show n13 = ((353 : Nat) : Int) from f19) rfl)).trans ((uRowNe f18 294 (iS (show n10 = ((347 : Nat) : Int) from f14) rfl)).trans (uRowNe f13 294 (iS (show n4 = ((346 : Nat) : Int) from f6) rfl)))
  have e13 : hV H3 296 = hV H0 296 := (uRowNe f23 296 (iS (show n13 = ((353 : Nat) : Int) from f19) rfl)).trans ((uRowNe f18 296 (iS (show n10 = ((347 : Nat) : Int) from f14) rfl)).trans (uRowNe f13 296 (iS (show n4 = ((346 : Nat) : Int) from f6) rfl)))
  have e18 : hV H3 298 = hV H0 298 := (uRowNe f23 298 (iS (show n13 = ((353 : Nat) : Int) from f19) rfl)).trans ((uRowNe f18 298 (iS (show n10 = ((347 : Nat) : Int) from f14) rfl)).trans (uRowNe f13 298 (iS (show n4 = ((346 : Nat) : Int) from f6) rfl)))
  have e23 : hV H3 300 = hV H0 300 := (uRowNe f23 300 (iS (show n13 = ((353 : Nat) : Int) from f19) rfl)).trans ((uRowNe f18 300 (iS (show n10 = ((347 : Nat) : Int) from f14) rfl)).trans (uRowNe f13 300 (iS (show n4 = ((346 : Nat) : Int) from f6) rfl)))
  have e28 : hV H3 301 = hV H0 301 := (uRowNe f23 301 (iS (show n13 = ((353 : Nat) : Int) from f19) rfl)).trans ((uRowNe f18 301 (iS (show n10 = ((347 : Nat) : Int) from f14) rfl)).trans (uRowNe f13 301 (iS (show n4 = ((346 : Nat) : Int) from f6) rfl)))
  have e33 : hV H3 303 = hV H0 303 := (uRowNe f23 303 (iS (show n13 = ((353 : Nat) : Int) from f19) rfl)).trans ((uRowNe f18 303 (iS (show n10 = ((347 : Nat) : Int) from f14) rfl)).trans (uRowNe f13 303 (iS (show n4 = ((346 : Nat) : Int) from f6) rfl)))
  have e38 : hV H3 341 = hV H0 341 := (uRowNe f23 341 (iS (show n13 = ((353 : Nat) : Int) from f19) rfl)).trans ((uRowNe f18 341 (iS (show n10 = ((347 : Nat) : Int) from f14) rfl)).trans (uRowNe f13 341 (iS (show n4 = ((346 : Nat) : Int) from f6) rfl)))
  have e43 : hV H3 346 = (uF (hV H0 346) n5 n9) := (uRowNe f23 346 (iS (show n13 = ((353 : Nat) : Int) from f19) rfl)).trans ((uRowNe f18 346 (iS (show n10 = ((347 : Nat) : Int) from f14) rfl)).trans (uRow f13 346 f6.symm))
  have e48 : hV H3 347 = (uF (hV H0 347) n11 n12) := (uRowNe f23 347 (iS (show n13 = ((353 : Nat) : Int) from f19) rfl)).trans ((uRow f18 347 f14.symm).trans (congrArg (fun z => uF z n11 n12) (uRowNe f13 347 (iS (show n4 = ((346 : Nat) : Int) from f6) rfl))))
  have e53 : hV H3 353 = (uF (hV H0 353) n14 n15) := (uRow f23 353 f19.symm).trans (congrArg (fun z => uF z n14 n15) ((uRowNe f18 353 (iS (show n10 = ((347 : Nat) : Int) from f14) rfl)).trans (uRowNe f13 353 (iS (show n4 = ((346 : Nat) : Int) from f6) rfl))))
  have e54 : (0 : Int) ≤ hV H0 285 18 ∧ hV H0 285 18 ≤ 8 := f3.1 285 18 _ _ kW_285_18
  have e55 : (0 : Int) ≤ hV H0 285 65 ∧ hV H0 285 65 ≤ 2147483647 := f3.1 285 65 _ _ kW_285_65
  try simp only [e3, e8, e13, e18, e23, e28, e33, e38, e43, e48, e53]
  have p0 := f3.2.1
  have p1 := f3.2.2.1
  have p2 := f3.2.2.2
  clear f7 f15 f20 e3 e8 e13 e18 e23 e28 e33 e38 e43 e48 e53
  clear f3
  rw [f9] at f10
  first
  | (have ix0 : n7 = 7 * n0 := Eq.trans f10 (w32_iv (Iml 7 rfl (Iat f1 f0)) (by decide)); subst ix0; clear f10)
  | (have ix0 : n7 = 7 * n0 := Eq.trans f10 (w32_id (by omega) (by omega)); subst ix0; clear f10)
  | (unfold w32 at f10; have ix0 : n7 = 7 * n0 := (by omega); subst ix0)
  | skip
  first
  | (have ix1 : n9 = (7 * n0) + 6 := Eq.trans f12 (w32_iv (Iad (Iml 7 rfl (Iat f1 f0)) (IC 6)) (by decide)); subst ix1; clear f12)
  | (have ix1 : n9 = (7 * n0) + 6 := Eq.trans f12 (w32_id (by omega) (by omega)); subst ix1; clear f12)
  | (unfold w32 at f12; have ix1 : n9 = (7 * n0) + 6 := (by omega); subst ix1)
  | skip
  try unfold w32 at f10
  try unfold w32 at f12

  have pg := p1 (n0).toNat (by omega)
  have pr := (pg.2.1 6 (.inr rfl)).1
  refine ⟨⟨?_, ?_, ?_, ?_⟩, fun q hq => ?_⟩
  · first | omega | trivial
  · exact LVp_first (by omega) (by omega) (by omega) (by omega) (by omega) (by omega)
  · exact ML_first (by omega) (by omega) (by omega) (by omega) (by omega) (by omega) (by omega) (by omega)
  · first
    | omega
    | (refine ⟨?_, ?_⟩ <;> first | exact True.intro | omega)
  · exact nomatch hq
def g_287_s_2 : vG := ([(80, [13, 14, 15], [3, 2], 0), (0, [15], [], -1), (0, [14], [], 0), (20, [13, 0], [2], 95), (0, [13], [], 353), (80, [10, 11, 12], [2, 1], 0), (0, [12], [], 0), (0, [11], [], 0), (20, [10, 0], [1], 86), (0, [10], [], 347), (80, [4, 5, 9], [1, 0], 0), (1, [9, 7, 8], [], 0), (0, [8], [], 6), (3, [7, 6, 1], [], 0), (0, [6], [], 7), (0, [5], [], 0), (20, [4, 0], [0], 85), (0, [4], [], 346), (0, [3], [], 0), (0, [2], [], 0), (6000, [0, 1], [0], 0), (0, [0], [], 285), (90, [1], [], 0), (91, [1], [], 7)], (4000, [0, 1, 2, 3], [3], 31))
theorem c_287_s_2 : vOkm T0 (eP e_287 L_287 A_287 mu_287 none) 2 g_287_s_2 := vOk_inI fun ρ η f0 f1 f2 f3 f4 f5 f6 f7 f8 f9 f10 f11 f12 f13 f14 f15 f16 f17 f18 f19 f20 f21 f22 f23 => q_287_2 (n0 := ρ 1) (n1 := ρ 0) (n2 := ρ 2) (n3 := ρ 3) (n4 := ρ 4) (n5 := ρ 5) (n6 := ρ 6) (n7 := ρ 7) (n8 := ρ 8) (n9 := ρ 9) (n10 := ρ 10) (n11 := ρ 11) (n12 := ρ 12) (n13 := ρ 13) (n14 := ρ 14) (n15 := ρ 15) (H0 := η 0) (H1 := η 1) (H2 := η 2) (H3 := η 3) f23 f22 f21 f20 f19 f18 f17 f16 f15 f14 f13 f12 f11 f10 f9 f8 f7 f6 f5 f4 f3 f2 f1 f0
def p_287_s : List vG := [g_287_s_0,
  g_287_s_1,
  g_287_s_2]
theorem r_287_s : vCovO false (eR0 e_287 L_287 cs_287 2000) p_287_s = true := by decide +kernel
theorem kR_287_294 : vFreeR s_287.2.2.2.2 294 = true := by decide +kernel
theorem kR_287_296 : vFreeR s_287.2.2.2.2 296 = true := by decide +kernel
theorem kR_287_298 : vFreeR s_287.2.2.2.2 298 = true := by decide +kernel
theorem kR_287_300 : vFreeR s_287.2.2.2.2 300 = true := by decide +kernel
theorem kR_287_301 : vFreeR s_287.2.2.2.2 301 = true := by decide +kernel
theorem kR_287_303 : vFreeR s_287.2.2.2.2 303 = true := by decide +kernel
theorem kR_287_341 : vFreeR s_287.2.2.2.2 341 = true := by decide +kernel
theorem kF_287_285_18 : vFree s_287.2.2.2.2 285 18 = true := by decide +kernel
theorem kF_287_285_65 : vFree s_287.2.2.2.2 285 65 = true := by decide +kernel
theorem q_287_3 {q0 : Nat} {n0 n1 n2 n3 n4 n5 : Int} {H0 H1 : gH} (f0 : n0 ≤ 6) (f1 : (-1) ≤ n0) (f2 : n1 ≤ 2147483647) (f3 : 0 ≤ n1) (f4 : n2 ≤ 7) (f5 : 0 ≤ n2) (f6 : n3 = 285) (f7 : n4 ≤ 7) (f8 : 0 ≤ n4) (f9 : n5 = 285) (f10 : (hLe T0 H0 H1 ∧ hFr s_287.2.2.2.2 H0 H1 ∧ hWt T0 H1) ∧ (Ab_287_31 n5 n4 n3 n2 n1 n0 H0 H1 ∧ preb_287 n5 n4 H0) ∧ some q0 = some (mub_287_31 n5 n4 n3 n2 n1 n0 H0 H1)) (f11 : n0 < 0) : postb_287 n1 n5 n4 H0 H1 := by
  have g4 := f10.2.1.1
  unfold Ab_287_31 at g4
  have g3 := f10.2.1.2
  unfold preb_287 at g3
  unfold postb_287
  have e3 : hV H1 285 65 = hV H0 285 65 := (f10.1.2.1.1 285 65 kF_287_285_65)
  have e4 : hV H1 294 = hV H0 294 := fRow f10.1.2.1 294 kR_287_294
  have e5 : hV H1 296 = hV H0 296 := fRow f10.1.2.1 296 kR_287_296
  have e6 : hV H1 298 = hV H0 298 := fRow f10.1.2.1 298 kR_287_298
  have e7 : hV H1 300 = hV H0 300 := fRow f10.1.2.1 300 kR_287_300
  have e8 : hV H1 301 = hV H0 301 := fRow f10.1.2.1 301 kR_287_301
  have e9 : hV H1 303 = hV H0 303 := fRow f10.1.2.1 303 kR_287_303
  have e10 : hV H1 341 = hV H0 341 := fRow f10.1.2.1 341 kR_287_341
  have e11 : (0 : Int) ≤ hV H0 285 18 ∧ hV H0 285 18 ≤ 8 := bTo ((f10.1.2.1.1 285 18 kF_287_285_18)) (f10.1.2.2 285 18 _ _ kW_285_18)
  have e12 : (0 : Int) ≤ hV H0 285 65 ∧ hV H0 285 65 ≤ 2147483647 := bTo e3 (f10.1.2.2 285 65 _ _ kW_285_65)
  try simp only [e3, e5, e6, e7, e8, e9, e10]
  have k0 := g4.1
  have y0 := g4.2.1
  have y1 := g4.2.2.1
  have y2 := g4.2.2.2.1
  have y3 := g4.2.2.2.2
  have p0 := g3.1
  have p1 := g3.2.1
  have p2 := g3.2.2
  try simp only [e4, e5] at y0
  try simp only [e5, e6, e7, e8, e9, e10] at y1
  try simp only [e3] at y3
  clear g3
  clear g4
  clear e3 e4 e5 e6 e7 e8 e9 e10
  clear f10
  try have ca := cue_at (p1 (n4).toNat (by omega)) y0 (by omega) (by omega) (c := (16 * hV H1 346 (n0).toNat + hV H1 347 (n0).toNat)) (by omega)
  try have lv := y0 (n0).toNat (by omega)

  exact ⟨ML_end y1 (by omega), by omega⟩
def g_287_31_0 : vG := ([(32, [5], [], 0), (5000, [0, 1, 2, 3, 4, 5], [0, 1], 31), (0, [0], [], 285), (90, [1], [], 0), (91, [1], [], 7), (0, [2], [], 285), (90, [3], [], 0), (91, [3], [], 7), (90, [4], [], 0), (91, [4], [], 2147483647), (90, [5], [], -1), (91, [5], [], 6)], (3000, [4], [1], 279))
theorem c_287_31_0 {q0 : Nat} : vOkm T0 (eP e_287 L_287 A_287 mu_287 (some q0)) 2 g_287_31_0 := vOk_inI fun ρ η f0 f1 f2 f3 f4 f5 f6 f7 f8 f9 f10 f11 => q_287_3 (q0 := q0) (n0 := ρ 5) (n1 := ρ 4) (n2 := ρ 3) (n3 := ρ 2) (n4 := ρ 1) (n5 := ρ 0) (H0 := η 0) (H1 := η 1) f11 f10 f9 f8 f7 f6 f5 f4 f3 f2 f1 f0
theorem q_287_4 {q0 : Nat} {n0 n1 n2 : Int} {H0 : gH} (f0 : n0 ≤ 16) (f1 : 0 ≤ n0) (f2 : n1 = 1) (f3 : n2 = w32 (n0 + n1)) : 0 ≤ n2 := by
  first
  | (have ix0 : n2 = n0 + 1 := Eq.trans f3 (w32_iv (Iad (Iat f1 f0) (IC 1)) (by decide)); subst ix0; clear f3)
  | (have ix0 : n2 = n0 + 1 := Eq.trans f3 (w32_id (by omega) (by omega)); subst ix0; clear f3)
  | (unfold w32 at f3; have ix0 : n2 = n0 + 1 := (by omega); subst ix0)
  | skip
  try unfold w32 at f3
  omega
def g_287_31_1 : vG := ([(1, [22, 20, 21], [], 0), (0, [21], [], 1), (90, [20], [], 0), (91, [20], [], 16)], (90, [22], [], 0))
theorem c_287_31_1 {q0 : Nat} : vOkm T0 (eP e_287 L_287 A_287 mu_287 (some q0)) 2 g_287_31_1 := vOk_inI fun ρ η f0 f1 f2 f3 => q_287_4 (q0 := q0) (n0 := ρ 20) (n1 := ρ 21) (n2 := ρ 22) (H0 := η 0) f3 f2 f1 f0
theorem q_287_5 {q0 : Nat} {n0 n1 n2 n3 n4 n5 n6 n7 n8 n9 n10 n11 n12 n13 n14 n15 n16 n17 n18 n19 n20 n21 n22 : Int} {H0 H1 : gH} (f0 : n0 ≤ 6) (f1 : (-1) ≤ n0) (f2 : n1 ≤ 2147483647) (f3 : 0 ≤ n1) (f4 : n2 ≤ 7) (f5 : 0 ≤ n2) (f6 : n3 = 285) (f7 : n4 ≤ 7) (f8 : 0 ≤ n4) (f9 : n5 = 285) (f10 : (hLe T0 H0 H1 ∧ hFr s_287.2.2.2.2 H0 H1 ∧ hWt T0 H1) ∧ (Ab_287_31 n5 n4 n3 n2 n1 n0 H0 H1 ∧ preb_287 n5 n4 H0) ∧ some q0 = some (mub_287_31 n5 n4 n3 n2 n1 n0 H0 H1)) (f11 : 0 ≤ n0) (f12 : n6 = 347) (f13 : n6 = hV H1 (n3).toNat 86) (f14 : n7 ≤ 16) (f15 : 0 ≤ n7) (f16 : n7 = hV H1 (n6).toNat (n0).toNat) (f17 : n8 = 296) (f18 : n8 = hV H1 (n3).toNat 22) (f19 : n9 = 346) (f20 : n9 = hV H1 (n3).toNat 85) (f21 : n10 ≤ 62) (f22 : 0 ≤ n10) (f23 : n10 = hV H1 (n9).toNat (n0).toNat) (f24 : n11 ≤ 16) (f25 : 0 ≤ n11) (f26 : n11 = hV H1 (n8).toNat (n10).toNat) (f27 : n7 ≠ n11) (f28 : n12 = 16) (f29 : n13 = 346) (f30 : n13 = hV H1 (n3).toNat 85) (f31 : n14 ≤ 62) (f32 : 0 ≤ n14) (f33 : n14 = hV H1 (n13).toNat (n0).toNat) (f34 : n15 = w32 (n12 * n14)) (f35 : n16 = 347) (f36 : n16 = hV H1 (n3).toNat 86) (f37 : n17 ≤ 16) (f38 : 0 ≤ n17) (f39 : n17 = hV H1 (n16).toNat (n0).toNat) (f40 : n18 = w32 (n15 + n17)) (f41 : n19 = 347) (f42 : n19 = hV H1 (n3).toNat 86) (f43 : n20 ≤ 16) (f44 : 0 ≤ n20) (f45 : n20 = hV H1 (n19).toNat (n0).toNat) (f46 : n21 = 1) (f47 : n22 = w32 (n20 + n21)) : n22 ≤ 16 := by
  have g4 := f10.2.1.1
  unfold Ab_287_31 at g4
  have g3 := f10.2.1.2
  unfold preb_287 at g3
  have e0 : n7 = hV H1 347 (n0).toNat := (by rw [f12] at f16; exact f16 : n7 = hV H1 347 (n0).toNat)
  have e1 : n10 = hV H1 346 (n0).toNat := (by rw [f19] at f23; exact f23 : n10 = hV H1 346 (n0).toNat)
  have e2 : hV H1 296 = hV H0 296 := fRow f10.1.2.1 296 kR_287_296
  have e3 : n11 = hV H0 296 (n10).toNat := (by rw [f17] at f26; exact f26 : n11 = hV H1 296 (n10).toNat).trans ((congrFun e2 _))
  have e4 : n14 = hV H1 346 (n0).toNat := (by rw [f29] at f33; exact f33 : n14 = hV H1 346 (n0).toNat)
  have e5 : n17 = hV H1 347 (n0).toNat := (by rw [f35] at f39; exact f39 : n17 = hV H1 347 (n0).toNat)
  have e6 : n20 = hV H1 347 (n0).toNat := (by rw [f41] at f45; exact f45 : n20 = hV H1 347 (n0).toNat)
  have e10 : hV H1 285 65 = hV H0 285 65 := (f10.1.2.1.1 285 65 kF_287_285_65)
  have e11 : hV H1 294 = hV H0 294 := fRow f10.1.2.1 294 kR_287_294
  have e12 : hV H1 298 = hV H0 298 := fRow f10.1.2.1 298 kR_287_298
  have e13 : hV H1 300 = hV H0 300 := fRow f10.1.2.1 300 kR_287_300
  have e14 : hV H1 301 = hV H0 301 := fRow f10.1.2.1 301 kR_287_301
  have e15 : hV H1 303 = hV H0 303 := fRow f10.1.2.1 303 kR_287_303
  have e16 : hV H1 341 = hV H0 341 := fRow f10.1.2.1 341 kR_287_341
  have e17 : (0 : Int) ≤ hV H0 285 18 ∧ hV H0 285 18 ≤ 8 := bTo ((f10.1.2.1.1 285 18 kF_287_285_18)) (f10.1.2.2 285 18 _ _ kW_285_18)
  have e18 : (0 : Int) ≤ hV H0 285 65 ∧ hV H0 285 65 ≤ 2147483647 := bTo e10 (f10.1.2.2 285 65 _ _ kW_285_65)
  have k0 := g4.1
  have y0 := g4.2.1
  have y1 := g4.2.2.1
  have y2 := g4.2.2.2.1
  have y3 := g4.2.2.2.2
  have p0 := g3.1
  have p1 := g3.2.1
  have p2 := g3.2.2
  try simp only [e11, e2] at y0
  try simp only [e2, e12, e13, e14, e15, e16] at y1
  try simp only [e10] at y3
  clear g3
  clear g4
  clear f13 f16 f18 f20 f23 f26 f30 f33 f36 f39 f42 f45 e2 e10 e11 e12 e13 e14 e15 e16
  clear f10
  subst e0
  subst e1
  subst e3
  subst e4
  subst e5
  subst e6
  rw [f28] at f34
  try have ca := cue_at (p1 (n4).toNat (by omega)) y0 (by omega) (by omega) (c := (16 * hV H1 346 (n0).toNat + hV H1 347 (n0).toNat)) (by omega)
  try have lv := y0 (n0).toNat (by omega)
  first
  | (have ix0 : n22 = hV H1 347 (n0).toNat + 1 := Eq.trans f47 (w32_iv (Iad (Iat f15 f14) (IC 1)) (by decide)); subst ix0; clear f47)
  | (have ix0 : n22 = hV H1 347 (n0).toNat + 1 := Eq.trans f47 (w32_id (by omega) (by omega)); subst ix0; clear f47)
  | (unfold w32 at f47; have ix0 : n22 = hV H1 347 (n0).toNat + 1 := (by omega); subst ix0)
  | skip
  try unfold w32 at f34
  try unfold w32 at f40
  try unfold w32 at f47
  try subst k0
  omega
def g_287_31_2 : vG := ([(1, [22, 20, 21], [], 0), (0, [21], [], 1), (22, [20, 19, 5], [1], 0), (90, [20], [], 0), (91, [20], [], 16), (20, [19, 2], [1], 86), (0, [19], [], 347), (1, [18, 15, 17], [], 0), (22, [17, 16, 5], [1], 0), (90, [17], [], 0), (91, [17], [], 16), (20, [16, 2], [1], 86), (0, [16], [], 347), (3, [15, 12, 14], [], 0), (22, [14, 13, 5], [1], 0), (90, [14], [], 0), (91, [14], [], 62), (20, [13, 2], [1], 85), (0, [13], [], 346), (0, [12], [], 16), (41, [7, 11], [], 0), (22, [11, 8, 10], [1], 0), (90, [11], [], 0), (91, [11], [], 16), (22, [10, 9, 5], [1], 0), (90, [10], [], 0), (91, [10], [], 62), (20, [9, 2], [1], 85), (0, [9], [], 346), (20, [8, 2], [1], 22), (0, [8], [], 296), (22, [7, 6, 5], [1], 0), (90, [7], [], 0), (91, [7], [], 16), (20, [6, 2], [1], 86), (0, [6], [], 347), (33, [5], [], 0), (5000, [0, 1, 2, 3, 4, 5], [0, 1], 31), (0, [0], [], 285), (90, [1], [], 0), (91, [1], [], 7), (0, [2], [], 285), (90, [3], [], 0), (91, [3], [], 7), (90, [4], [], 0), (91, [4], [], 2147483647), (90, [5], [], -1), (91, [5], [], 6)], (91, [22], [], 16))
theorem c_287_31_2 {q0 : Nat} : vOkm T0 (eP e_287 L_287 A_287 mu_287 (some q0)) 2 g_287_31_2 := vOk_inI fun ρ η f0 f1 f2 f3 f4 f5 f6 f7 f8 f9 f10 f11 f12 f13 f14 f15 f16 f17 f18 f19 f20 f21 f22 f23 f24 f25 f26 f27 f28 f29 f30 f31 f32 f33 f34 f35 f36 f37 f38 f39 f40 f41 f42 f43 f44 f45 f46 f47 => q_287_5 (q0 := q0) (n0 := ρ 5) (n1 := ρ 4) (n2 := ρ 3) (n3 := ρ 2) (n4 := ρ 1) (n5 := ρ 0) (n6 := ρ 6) (n7 := ρ 7) (n8 := ρ 8) (n9 := ρ 9) (n10 := ρ 10) (n11 := ρ 11) (n12 := ρ 12) (n13 := ρ 13) (n14 := ρ 14) (n15 := ρ 15) (n16 := ρ 16) (n17 := ρ 17) (n18 := ρ 18) (n19 := ρ 19) (n20 := ρ 20) (n21 := ρ 21) (n22 := ρ 22) (H0 := η 0) (H1 := η 1) f47 f46 f45 f44 f43 f42 f41 f40 f39 f38 f37 f36 f35 f34 f33 f32 f31 f30 f29 f28 f27 f26 f25 f24 f23 f22 f21 f20 f19 f18 f17 f16 f15 f14 f13 f12 f11 f10 f9 f8 f7 f6 f5 f4 f3 f2 f1 f0
theorem q_287_6 {q0 : Nat} {n0 n1 n2 n3 n4 n5 n6 n7 n8 n9 n10 n11 n12 n13 n14 n15 n16 n17 n18 n19 n20 n21 n22 : Int} {H0 H1 : gH} (f0 : n0 ≤ 6) (f1 : (-1) ≤ n0) (f2 : n1 ≤ 2147483647) (f3 : 0 ≤ n1) (f4 : n2 ≤ 7) (f5 : 0 ≤ n2) (f6 : n3 = 285) (f7 : n4 ≤ 7) (f8 : 0 ≤ n4) (f9 : n5 = 285) (f10 : (hLe T0 H0 H1 ∧ hFr s_287.2.2.2.2 H0 H1 ∧ hWt T0 H1) ∧ (Ab_287_31 n5 n4 n3 n2 n1 n0 H0 H1 ∧ preb_287 n5 n4 H0) ∧ some q0 = some (mub_287_31 n5 n4 n3 n2 n1 n0 H0 H1)) (f11 : 0 ≤ n0) (f12 : n6 = 347) (f13 : n6 = hV H1 (n3).toNat 86) (f14 : n7 ≤ 16) (f15 : 0 ≤ n7) (f16 : n7 = hV H1 (n6).toNat (n0).toNat) (f17 : n8 = 296) (f18 : n8 = hV H1 (n3).toNat 22) (f19 : n9 = 346) (f20 : n9 = hV H1 (n3).toNat 85) (f21 : n10 ≤ 62) (f22 : 0 ≤ n10) (f23 : n10 = hV H1 (n9).toNat (n0).toNat) (f24 : n11 ≤ 16) (f25 : 0 ≤ n11) (f26 : n11 = hV H1 (n8).toNat (n10).toNat) (f27 : n7 ≠ n11) (f28 : n12 = 16) (f29 : n13 = 346) (f30 : n13 = hV H1 (n3).toNat 85) (f31 : n14 ≤ 62) (f32 : 0 ≤ n14) (f33 : n14 = hV H1 (n13).toNat (n0).toNat) (f34 : n15 = w32 (n12 * n14)) (f35 : n16 = 347) (f36 : n16 = hV H1 (n3).toNat 86) (f37 : n17 ≤ 16) (f38 : 0 ≤ n17) (f39 : n17 = hV H1 (n16).toNat (n0).toNat) (f40 : n18 = w32 (n15 + n17)) (f41 : n19 = 347) (f42 : n19 = hV H1 (n3).toNat 86) (f43 : n20 ≤ 16) (f44 : 0 ≤ n20) (f45 : n20 = hV H1 (n19).toNat (n0).toNat) (f46 : n21 = 1) (f47 : n22 = w32 (n20 + n21)) : 0 ≤ n18 ∧ n18 < 1008 := by
  have g4 := f10.2.1.1
  unfold Ab_287_31 at g4
  have g3 := f10.2.1.2
  unfold preb_287 at g3
  have e0 : n7 = hV H1 347 (n0).toNat := (by rw [f12] at f16; exact f16 : n7 = hV H1 347 (n0).toNat)
  have e1 : n10 = hV H1 346 (n0).toNat := (by rw [f19] at f23; exact f23 : n10 = hV H1 346 (n0).toNat)
  have e2 : hV H1 296 = hV H0 296 := fRow f10.1.2.1 296 kR_287_296
  have e3 : n11 = hV H0 296 (n10).toNat := (by rw [f17] at f26; exact f26 : n11 = hV H1 296 (n10).toNat).trans ((congrFun e2 _))
  have e4 : n14 = hV H1 346 (n0).toNat := (by rw [f29] at f33; exact f33 : n14 = hV H1 346 (n0).toNat)
  have e5 : n17 = hV H1 347 (n0).toNat := (by rw [f35] at f39; exact f39 : n17 = hV H1 347 (n0).toNat)
  have e6 : n20 = hV H1 347 (n0).toNat := (by rw [f41] at f45; exact f45 : n20 = hV H1 347 (n0).toNat)
  have e10 : hV H1 285 65 = hV H0 285 65 := (f10.1.2.1.1 285 65 kF_287_285_65)
  have e11 : hV H1 294 = hV H0 294 := fRow f10.1.2.1 294 kR_287_294
  have e12 : hV H1 298 = hV H0 298 := fRow f10.1.2.1 298 kR_287_298
  have e13 : hV H1 300 = hV H0 300 := fRow f10.1.2.1 300 kR_287_300
  have e14 : hV H1 301 = hV H0 301 := fRow f10.1.2.1 301 kR_287_301
  have e15 : hV H1 303 = hV H0 303 := fRow f10.1.2.1 303 kR_287_303
  have e16 : hV H1 341 = hV H0 341 := fRow f10.1.2.1 341 kR_287_341
  have e17 : (0 : Int) ≤ hV H0 285 18 ∧ hV H0 285 18 ≤ 8 := bTo ((f10.1.2.1.1 285 18 kF_287_285_18)) (f10.1.2.2 285 18 _ _ kW_285_18)
  have e18 : (0 : Int) ≤ hV H0 285 65 ∧ hV H0 285 65 ≤ 2147483647 := bTo e10 (f10.1.2.2 285 65 _ _ kW_285_65)
  have k0 := g4.1
  have y0 := g4.2.1
  have y1 := g4.2.2.1
  have y2 := g4.2.2.2.1
  have y3 := g4.2.2.2.2
  have p0 := g3.1
  have p1 := g3.2.1
  have p2 := g3.2.2
  try simp only [e11, e2] at y0
  try simp only [e2, e12, e13, e14, e15, e16] at y1
  try simp only [e10] at y3
  clear g3
  clear g4
  clear f13 f16 f18 f20 f23 f26 f30 f33 f36 f39 f42 f45 e2 e10 e11 e12 e13 e14 e15 e16
  clear f10
  subst e0
  subst e1
  subst e3
  subst e4
  subst e5
  subst e6
  rw [f28] at f34
  try have ca := cue_at (p1 (n4).toNat (by omega)) y0 (by omega) (by omega) (c := (16 * hV H1 346 (n0).toNat + hV H1 347 (n0).toNat)) (by omega)
  try have lv := y0 (n0).toNat (by omega)
  first
  | (have ix0 : n15 = 16 * (hV H1 346 (n0).toNat) := Eq.trans f34 (w32_iv (Iml 16 rfl (Iat f22 f21)) (by decide)); subst ix0; clear f34)
  | (have ix0 : n15 = 16 * (hV H1 346 (n0).toNat) := Eq.trans f34 (w32_id (by omega) (by omega)); subst ix0; clear f34)
  | (unfold w32 at f34; have ix0 : n15 = 16 * (hV H1 346 (n0).toNat) := (by omega); subst ix0)
  | skip
  first
  | (have ix1 : n18 = (16 * (hV H1 346 (n0).toNat)) + hV H1 347 (n0).toNat := Eq.trans f40 (w32_iv (Iad (Iml 16 rfl (Iat f22 f21)) (Iat f15 f14)) (by decide)); subst ix1; clear f40)
  | (have ix1 : n18 = (16 * (hV H1 346 (n0).toNat)) + hV H1 347 (n0).toNat := Eq.trans f40 (w32_id (by omega) (by omega)); subst ix1; clear f40)
  | (unfold w32 at f40; have ix1 : n18 = (16 * (hV H1 346 (n0).toNat)) + hV H1 347 (n0).toNat := (by omega); subst ix1)
  | skip
  try unfold w32 at f34
  try unfold w32 at f40
  try unfold w32 at f47
  try subst k0
  omega
def g_287_31_3 : vG := ([(1, [22, 20, 21], [], 0), (0, [21], [], 1), (22, [20, 19, 5], [1], 0), (90, [20], [], 0), (91, [20], [], 16), (20, [19, 2], [1], 86), (0, [19], [], 347), (1, [18, 15, 17], [], 0), (22, [17, 16, 5], [1], 0), (90, [17], [], 0), (91, [17], [], 16), (20, [16, 2], [1], 86), (0, [16], [], 347), (3, [15, 12, 14], [], 0), (22, [14, 13, 5], [1], 0), (90, [14], [], 0), (91, [14], [], 62), (20, [13, 2], [1], 85), (0, [13], [], 346), (0, [12], [], 16), (41, [7, 11], [], 0), (22, [11, 8, 10], [1], 0), (90, [11], [], 0), (91, [11], [], 16), (22, [10, 9, 5], [1], 0), (90, [10], [], 0), (91, [10], [], 62), (20, [9, 2], [1], 85), (0, [9], [], 346), (20, [8, 2], [1], 22), (0, [8], [], 296), (22, [7, 6, 5], [1], 0), (90, [7], [], 0), (91, [7], [], 16), (20, [6, 2], [1], 86), (0, [6], [], 347), (33, [5], [], 0), (5000, [0, 1, 2, 3, 4, 5], [0, 1], 31), (0, [0], [], 285), (90, [1], [], 0), (91, [1], [], 7), (0, [2], [], 285), (90, [3], [], 0), (91, [3], [], 7), (90, [4], [], 0), (91, [4], [], 2147483647), (90, [5], [], -1), (91, [5], [], 6)], (70, [18], [], 1008))
theorem c_287_31_3 {q0 : Nat} : vOkm T0 (eP e_287 L_287 A_287 mu_287 (some q0)) 2 g_287_31_3 := vOk_inI fun ρ η f0 f1 f2 f3 f4 f5 f6 f7 f8 f9 f10 f11 f12 f13 f14 f15 f16 f17 f18 f19 f20 f21 f22 f23 f24 f25 f26 f27 f28 f29 f30 f31 f32 f33 f34 f35 f36 f37 f38 f39 f40 f41 f42 f43 f44 f45 f46 f47 => q_287_6 (q0 := q0) (n0 := ρ 5) (n1 := ρ 4) (n2 := ρ 3) (n3 := ρ 2) (n4 := ρ 1) (n5 := ρ 0) (n6 := ρ 6) (n7 := ρ 7) (n8 := ρ 8) (n9 := ρ 9) (n10 := ρ 10) (n11 := ρ 11) (n12 := ρ 12) (n13 := ρ 13) (n14 := ρ 14) (n15 := ρ 15) (n16 := ρ 16) (n17 := ρ 17) (n18 := ρ 18) (n19 := ρ 19) (n20 := ρ 20) (n21 := ρ 21) (n22 := ρ 22) (H0 := η 0) (H1 := η 1) f47 f46 f45 f44 f43 f42 f41 f40 f39 f38 f37 f36 f35 f34 f33 f32 f31 f30 f29 f28 f27 f26 f25 f24 f23 f22 f21 f20 f19 f18 f17 f16 f15 f14 f13 f12 f11 f10 f9 f8 f7 f6 f5 f4 f3 f2 f1 f0
theorem q_287_7 {q0 : Nat} {n0 n1 n2 n3 n4 n5 n6 n7 n8 n9 n10 n11 n12 n13 n14 n15 n16 n17 n18 n19 n20 n21 n22 n23 n24 n25 n26 n27 : Int} {H0 H1 H2 : gH} (f0 : n0 ≤ 6) (f1 : (-1) ≤ n0) (f2 : n1 ≤ 2147483647) (f3 : 0 ≤ n1) (f4 : n2 ≤ 7) (f5 : 0 ≤ n2) (f6 : n3 = 285) (f7 : n4 ≤ 7) (f8 : 0 ≤ n4) (f9 : n5 = 285) (f10 : (hLe T0 H0 H1 ∧ hFr s_287.2.2.2.2 H0 H1 ∧ hWt T0 H1) ∧ (Ab_287_31 n5 n4 n3 n2 n1 n0 H0 H1 ∧ preb_287 n5 n4 H0) ∧ some q0 = some (mub_287_31 n5 n4 n3 n2 n1 n0 H0 H1)) (f11 : 0 ≤ n0) (f12 : n6 = 347) (f13 : n6 = hV H1 (n3).toNat 86) (f14 : n7 ≤ 16) (f15 : 0 ≤ n7) (f16 : n7 = hV H1 (n6).toNat (n0).toNat) (f17 : n8 = 296) (f18 : n8 = hV H1 (n3).toNat 22) (f19 : n9 = 346) (f20 : n9 = hV H1 (n3).toNat 85) (f21 : n10 ≤ 62) (f22 : 0 ≤ n10) (f23 : n10 = hV H1 (n9).toNat (n0).toNat) (f24 : n11 ≤ 16) (f25 : 0 ≤ n11) (f26 : n11 = hV H1 (n8).toNat (n10).toNat) (f27 : n7 ≠ n11) (f28 : n12 = 16) (f29 : n13 = 346) (f30 : n13 = hV H1 (n3).toNat 85) (f31 : n14 ≤ 62) (f32 : 0 ≤ n14) (f33 : n14 = hV H1 (n13).toNat (n0).toNat) (f34 : n15 = w32 (n12 * n14)) (f35 : n16 = 347) (f36 : n16 = hV H1 (n3).toNat 86) (f37 : n17 ≤ 16) (f38 : 0 ≤ n17) (f39 : n17 = hV H1 (n16).toNat (n0).toNat) (f40 : n18 = w32 (n15 + n17)) (f41 : n19 = 347) (f42 : n19 = hV H1 (n3).toNat 86) (f43 : n20 ≤ 16) (f44 : 0 ≤ n20) (f45 : n20 = hV H1 (n19).toNat (n0).toNat) (f46 : n21 = 1) (f47 : n22 = w32 (n20 + n21)) (f48 : hUpd H2 H1 n19 n0 n22) (f49 : n23 = 301) (f50 : n23 = hV H2 (n3).toNat 27) (f51 : n24 ≤ 9999) (f52 : (-1) ≤ n24) (f53 : n24 = hV H2 (n23).toNat (n18).toNat) (f54 : n25 = (-1)) (f55 : n24 = n25) (f56 : n26 = 353) (f57 : n26 = hV H2 (n3).toNat 95) (f58 : n27 ≤ 7) (f59 : (-1) ≤ n27) (f60 : n27 = hV H2 (n26).toNat (n0).toNat) : 0 ≤ n18 ∧ n18 < 1008 := by
  have g4 := f10.2.1.1
  unfold Ab_287_31 at g4
  have g3 := f10.2.1.2
  unfold preb_287 at g3
  have e0 : n7 = hV H1 347 (n0).toNat := (by rw [f12] at f16; exact f16 : n7 = hV H1 347 (n0).toNat)
  have e1 : n10 = hV H1 346 (n0).toNat := (by rw [f19] at f23; exact f23 : n10 = hV H1 346 (n0).toNat)
  have e2 : hV H1 296 = hV H0 296 := fRow f10.1.2.1 296 kR_287_296
  have e3 : n11 = hV H0 296 (n10).toNat := (by rw [f17] at f26; exact f26 : n11 = hV H1 296 (n10).toNat).trans ((congrFun e2 _))
  have e4 : n14 = hV H1 346 (n0).toNat := (by rw [f29] at f33; exact f33 : n14 = hV H1 346 (n0).toNat)
  have e5 : n17 = hV H1 347 (n0).toNat := (by rw [f35] at f39; exact f39 : n17 = hV H1 347 (n0).toNat)
  have e6 : n20 = hV H1 347 (n0).toNat := (by rw [f41] at f45; exact f45 : n20 = hV H1 347 (n0).toNat)
  have e8 : hV H1 301 = hV H0 301 := fRow f10.1.2.1 301 kR_287_301
  have e9 : n24 = hV H0 301 (n18).toNat := (by rw [f49] at f53; exact f53 : n24 = hV H2 301 (n18).toNat).trans (((congrFun (uRowNe f48 301 (iS (show n19 = ((347 : Nat) : Int) from f41) rfl)) _)).trans ((congrFun e8 _)))
  have e11 : n27 = hV H1 353 (n0).toNat := (by rw [f56] at f60; exact f60 : n27 = hV H2 353 (n0).toNat).trans ((congrFun (uRowNe f48 353 (iS (show n19 = ((347 : Nat) : Int) from f41) rfl)) _))
  have e15 : hV H1 285 65 = hV H0 285 65 := (f10.1.2.1.1 285 65 kF_287_285_65)
  have e16 : hV H1 294 = hV H0 294 := fRow f10.1.2.1 294 kR_287_294
  have e17 : hV H1 298 = hV H0 298 := fRow f10.1.2.1 298 kR_287_298
  have e18 : hV H1 300 = hV H0 300 := fRow f10.1.2.1 300 kR_287_300
  have e19 : hV H1 303 = hV H0 303 := fRow f10.1.2.1 303 kR_287_303
  have e20 : hV H1 341 = hV H0 341 := fRow f10.1.2.1 341 kR_287_341
  have e21 : (0 : Int) ≤ hV H0 285 18 ∧ hV H0 285 18 ≤ 8 := bTo ((f10.1.2.1.1 285 18 kF_287_285_18)) (f10.1.2.2 285 18 _ _ kW_285_18)
  have e22 : (0 : Int) ≤ hV H0 285 65 ∧ hV H0 285 65 ≤ 2147483647 := bTo e15 (f10.1.2.2 285 65 _ _ kW_285_65)
  have k0 := g4.1
  have y0 := g4.2.1
  have y1 := g4.2.2.1
  have y2 := g4.2.2.2.1
  have y3 := g4.2.2.2.2
  have p0 := g3.1
  have p1 := g3.2.1
  have p2 := g3.2.2
  try simp only [e16, e2] at y0
  try simp only [e2, e17, e18, e8, e19, e20] at y1
  try simp only [e15] at y3
  clear g3
  clear g4
  clear f13 f16 f18 f20 f23 f26 f30 f33 f36 f39 f42 f45 f50 f53 f57 f60 e2 e8 e15 e16 e17 e18 e19 e20
  clear f10
  subst e0
  subst e1
  subst e3
  subst e4
  subst e5
  subst e6
  subst e9
  subst e11
  rw [f28] at f34
  try have ca := cue_at (p1 (n4).toNat (by omega)) y0 (by omega) (by omega) (c := (16 * hV H1 346 (n0).toNat + hV H1 347 (n0).toNat)) (by omega)
  try have lv := y0 (n0).toNat (by omega)
  first
  | (have ix0 : n15 = 16 * (hV H1 346 (n0).toNat) := Eq.trans f34 (w32_iv (Iml 16 rfl (Iat f22 f21)) (by decide)); subst ix0; clear f34)
  | (have ix0 : n15 = 16 * (hV H1 346 (n0).toNat) := Eq.trans f34 (w32_id (by omega) (by omega)); subst ix0; clear f34)
  | (unfold w32 at f34; have ix0 : n15 = 16 * (hV H1 346 (n0).toNat) := (by omega); subst ix0)
  | skip
  first
  | (have ix1 : n18 = (16 * (hV H1 346 (n0).toNat)) + hV H1 347 (n0).toNat := Eq.trans f40 (w32_iv (Iad (Iml 16 rfl (Iat f22 f21)) (Iat f15 f14)) (by decide)); subst ix1; clear f40)
  | (have ix1 : n18 = (16 * (hV H1 346 (n0).toNat)) + hV H1 347 (n0).toNat := Eq.trans f40 (w32_id (by omega) (by omega)); subst ix1; clear f40)
  | (unfold w32 at f40; have ix1 : n18 = (16 * (hV H1 346 (n0).toNat)) + hV H1 347 (n0).toNat := (by omega); subst ix1)
  | skip
  first
  | (have ix2 : n22 = hV H1 347 (n0).toNat + 1 := Eq.trans f47 (w32_iv (Iad (Iat f15 f14) (IC 1)) (by decide)); subst ix2; clear f47)
  | (have ix2 : n22 = hV H1 347 (n0).toNat + 1 := Eq.trans f47 (w32_id (by omega) (by omega)); subst ix2; clear f47)
  | (unfold w32 at f47; have ix2 : n22 = hV H1 347 (n0).toNat + 1 := (by omega); subst ix2)
  | skip
  try unfold w32 at f34
  try unfold w32 at f40
  try unfold w32 at f47
  try subst k0
  omega
def g_287_31_4 : vG := ([(22, [27, 26, 5], [2], 0), (90, [27], [], -1), (91, [27], [], 7), (20, [26, 2], [2], 95), (0, [26], [], 353), (40, [24, 25], [], 0), (0, [25], [], -1), (22, [24, 23, 18], [2], 0), (90, [24], [], -1), (91, [24], [], 9999), (20, [23, 2], [2], 27), (0, [23], [], 301), (80, [19, 5, 22], [2, 1], 0), (1, [22, 20, 21], [], 0), (0, [21], [], 1), (22, [20, 19, 5], [1], 0), (90, [20], [], 0), (91, [20], [], 16), (20, [19, 2], [1], 86), (0, [19], [], 347), (1, [18, 15, 17], [], 0), (22, [17, 16, 5], [1], 0), (90, [17], [], 0), (91, [17], [], 16), (20, [16, 2], [1], 86), (0, [16], [], 347), (3, [15, 12, 14], [], 0), (22, [14, 13, 5], [1], 0), (90, [14], [], 0), (91, [14], [], 62), (20, [13, 2], [1], 85), (0, [13], [], 346), (0, [12], [], 16), (41, [7, 11], [], 0), (22, [11, 8, 10], [1], 0), (90, [11], [], 0), (91, [11], [], 16), (22, [10, 9, 5], [1], 0), (90, [10], [], 0), (91, [10], [], 62), (20, [9, 2], [1], 85), (0, [9], [], 346), (20, [8, 2], [1], 22), (0, [8], [], 296), (22, [7, 6, 5], [1], 0), (90, [7], [], 0), (91, [7], [], 16), (20, [6, 2], [1], 86), (0, [6], [], 347), (33, [5], [], 0), (5000, [0, 1, 2, 3, 4, 5], [0, 1], 31), (0, [0], [], 285), (90, [1], [], 0), (91, [1], [], 7), (0, [2], [], 285), (90, [3], [], 0), (91, [3], [], 7), (90, [4], [], 0), (91, [4], [], 2147483647), (90, [5], [], -1), (91, [5], [], 6)], (70, [18], [], 1008))
theorem c_287_31_4 {q0 : Nat} : vOkm T0 (eP e_287 L_287 A_287 mu_287 (some q0)) 2 g_287_31_4 := vOk_inI fun ρ η f0 f1 f2 f3 f4 f5 f6 f7 f8 f9 f10 f11 f12 f13 f14 f15 f16 f17 f18 f19 f20 f21 f22 f23 f24 f25 f26 f27 f28 f29 f30 f31 f32 f33 f34 f35 f36 f37 f38 f39 f40 f41 f42 f43 f44 f45 f46 f47 f48 f49 f50 f51 f52 f53 f54 f55 f56 f57 f58 f59 f60 => q_287_7 (q0 := q0) (n0 := ρ 5) (n1 := ρ 4) (n2 := ρ 3) (n3 := ρ 2) (n4 := ρ 1) (n5 := ρ 0) (n6 := ρ 6) (n7 := ρ 7) (n8 := ρ 8) (n9 := ρ 9) (n10 := ρ 10) (n11 := ρ 11) (n12 := ρ 12) (n13 := ρ 13) (n14 := ρ 14) (n15 := ρ 15) (n16 := ρ 16) (n17 := ρ 17) (n18 := ρ 18) (n19 := ρ 19) (n20 := ρ 20) (n21 := ρ 21) (n22 := ρ 22) (n23 := ρ 23) (n24 := ρ 24) (n25 := ρ 25) (n26 := ρ 26) (n27 := ρ 27) (H0 := η 0) (H1 := η 1) (H2 := η 2) f60 f59 f58 f57 f56 f55 f54 f53 f52 f51 f50 f49 f48 f47 f46 f45 f44 f43 f42 f41 f40 f39 f38 f37 f36 f35 f34 f33 f32 f31 f30 f29 f28 f27 f26 f25 f24 f23 f22 f21 f20 f19 f18 f17 f16 f15 f14 f13 f12 f11 f10 f9 f8 f7 f6 f5 f4 f3 f2 f1 f0
theorem q_287_8 {q0 : Nat} {n0 n1 n2 n3 n4 : Int} {H0 : gH} (f0 : n0 = 16) (f1 : n1 ≤ 62) (f2 : 0 ≤ n1) (f3 : n2 = w32 (n0 * n1)) (f4 : n3 ≤ 16) (f5 : 0 ≤ n3) (f6 : n4 = w32 (n2 + n3)) : 0 ≤ n4 := by
  rw [f0] at f3
  first
  | (have ix0 : n2 = 16 * n1 := Eq.trans f3 (w32_iv (Iml 16 rfl (Iat f2 f1)) (by decide)); subst ix0; clear f3)
  | (have ix0 : n2 = 16 * n1 := Eq.trans f3 (w32_id (by omega) (by omega)); subst ix0; clear f3)
  | (unfold w32 at f3; have ix0 : n2 = 16 * n1 := (by omega); subst ix0)
  | skip
  first
  | (have ix1 : n4 = (16 * n1) + n3 := Eq.trans f6 (w32_iv (Iad (Iml 16 rfl (Iat f2 f1)) (Iat f5 f4)) (by decide)); subst ix1; clear f6)
  | (have ix1 : n4 = (16 * n1) + n3 := Eq.trans f6 (w32_id (by omega) (by omega)); subst ix1; clear f6)
  | (unfold w32 at f6; have ix1 : n4 = (16 * n1) + n3 := (by omega); subst ix1)
  | skip
  try unfold w32 at f3
  try unfold w32 at f6
  omega
def g_287_31_5 : vG := ([(1, [18, 15, 17], [], 0), (90, [17], [], 0), (91, [17], [], 16), (3, [15, 12, 14], [], 0), (90, [14], [], 0), (91, [14], [], 62), (0, [12], [], 16)], (90, [18], [], 0))
theorem c_287_31_5 {q0 : Nat} : vOkm T0 (eP e_287 L_287 A_287 mu_287 (some q0)) 2 g_287_31_5 := vOk_inI fun ρ η f0 f1 f2 f3 f4 f5 f6 => q_287_8 (q0 := q0) (n0 := ρ 12) (n1 := ρ 14) (n2 := ρ 15) (n3 := ρ 17) (n4 := ρ 18) (H0 := η 0) f6 f5 f4 f3 f2 f1 f0
theorem q_287_9 {q0 : Nat} {n0 n1 n2 n3 n4 n5 n6 n7 n8 n9 n10 n11 n12 n13 n14 n15 n16 n17 n18 n19 n20 n21 n22 n23 n24 n25 n26 n27 n28 n29 n30 n31 n32 : Int} {H0 H1 H2 : gH} (f0 : n0 ≤ 6) (f1 : (-1) ≤ n0) (f2 : n1 ≤ 2147483647) (f3 : 0 ≤ n1) (f4 : n2 ≤ 7) (f5 : 0 ≤ n2) (f6 : n3 = 285) (f7 : n4 ≤ 7) (f8 : 0 ≤ n4) (f9 : n5 = 285) (f10 : (hLe T0 H0 H1 ∧ hFr s_287.2.2.2.2 H0 H1 ∧ hWt T0 H1) ∧ (Ab_287_31 n5 n4 n3 n2 n1 n0 H0 H1 ∧ preb_287 n5 n4 H0) ∧ some q0 = some (mub_287_31 n5 n4 n3 n2 n1 n0 H0 H1)) (f11 : 0 ≤ n0) (f12 : n6 = 347) (f13 : n6 = hV H1 (n3).toNat 86) (f14 : n7 ≤ 16) (f15 : 0 ≤ n7) (f16 : n7 = hV H1 (n6).toNat (n0).toNat) (f17 : n8 = 296) (f18 : n8 = hV H1 (n3).toNat 22) (f19 : n9 = 346) (f20 : n9 = hV H1 (n3).toNat 85) (f21 : n10 ≤ 62) (f22 : 0 ≤ n10) (f23 : n10 = hV H1 (n9).toNat (n0).toNat) (f24 : n11 ≤ 16) (f25 : 0 ≤ n11) (f26 : n11 = hV H1 (n8).toNat (n10).toNat) (f27 : n7 ≠ n11) (f28 : n12 = 16) (f29 : n13 = 346) (f30 : n13 = hV H1 (n3).toNat 85) (f31 : n14 ≤ 62) (f32 : 0 ≤ n14) (f33 : n14 = hV H1 (n13).toNat (n0).toNat) (f34 : n15 = w32 (n12 * n14)) (f35 : n16 = 347) (f36 : n16 = hV H1 (n3).toNat 86) (f37 : n17 ≤ 16) (f38 : 0 ≤ n17) (f39 : n17 = hV H1 (n16).toNat (n0).toNat) (f40 : n18 = w32 (n15 + n17)) (f41 : n19 = 347) (f42 : n19 = hV H1 (n3).toNat 86) (f43 : n20 ≤ 16) (f44 : 0 ≤ n20) (f45 : n20 = hV H1 (n19).toNat (n0).toNat) (f46 : n21 = 1) (f47 : n22 = w32 (n20 + n21)) (f48 : hUpd H2 H1 n19 n0 n22) (f49 : n23 = 301) (f50 : n23 = hV H2 (n3).toNat 27) (f51 : n24 ≤ 9999) (f52 : (-1) ≤ n24) (f53 : n24 = hV H2 (n23).toNat (n18).toNat) (f54 : n25 = (-1)) (f55 : n24 = n25) (f56 : n26 = 353) (f57 : n26 = hV H2 (n3).toNat 95) (f58 : n27 ≤ 7) (f59 : (-1) ≤ n27) (f60 : n27 = hV H2 (n26).toNat (n0).toNat) (f61 : n28 = 303) (f62 : n28 = hV H2 (n3).toNat 29) (f63 : n29 ≤ 9999) (f64 : (-1) ≤ n29) (f65 : n29 = hV H2 (n28).toNat (n18).toNat) (f66 : n30 = (-1)) (f67 : n29 = n30) (f68 : n31 = 353) (f69 : n31 = hV H2 (n3).toNat 95) (f70 : n32 ≤ 7) (f71 : (-1) ≤ n32) (f72 : n32 = hV H2 (n31).toNat (n0).toNat) : n18 ≤ 1007 := by
  have g4 := f10.2.1.1
  unfold Ab_287_31 at g4
  have g3 := f10.2.1.2
  unfold preb_287 at g3
  have e0 : n7 = hV H1 347 (n0).toNat := (by rw [f12] at f16; exact f16 : n7 = hV H1 347 (n0).toNat)
  have e1 : n10 = hV H1 346 (n0).toNat := (by rw [f19] at f23; exact f23 : n10 = hV H1 346 (n0).toNat)
  have e2 : hV H1 296 = hV H0 296 := fRow f10.1.2.1 296 kR_287_296
  have e3 : n11 = hV H0 296 (n10).toNat := (by rw [f17] at f26; exact f26 : n11 = hV H1 296 (n10).toNat).trans ((congrFun e2 _))
  have e4 : n14 = hV H1 346 (n0).toNat := (by rw [f29] at f33; exact f33 : n14 = hV H1 346 (n0).toNat)
  have e5 : n17 = hV H1 347 (n0).toNat := (by rw [f35] at f39; exact f39 : n17 = hV H1 347 (n0).toNat)
  have e6 : n20 = hV H1 347 (n0).toNat := (by rw [f41] at f45; exact f45 : n20 = hV H1 347 (n0).toNat)
  have e8 : hV H1 301 = hV H0 301 := fRow f10.1.2.1 301 kR_287_301
  have e9 : n24 = hV H0 301 (n18).toNat := (by rw [f49] at f53; exact f53 : n24 = hV H2 301 (n18).toNat).trans (((congrFun (uRowNe f48 301 (iS (show n19 = ((347 : Nat) : Int) from f41) rfl)) _)).trans ((congrFun e8 _)))
  have e11 : n27 = hV H1 353 (n0).toNat := (by rw [f56] at f60; exact f60 : n27 = hV H2 353 (n0).toNat).trans ((congrFun (uRowNe f48 353 (iS (show n19 = ((347 : Nat) : Int) from f41) rfl)) _))
  have e13 : hV H1 303 = hV H0 303 := fRow f10.1.2.1 303 kR_287_303
  have e14 : n29 = hV H0 303 (n18).toNat := (by rw [f61] at f65; exact f65 : n29 = hV H2 303 (n18).toNat).trans (((congrFun (uRowNe f48 303 (iS (show n19 = ((347 : Nat) : Int) from f41) rfl)) _)).trans ((congrFun e13 _)))
  have e15 : n32 = hV H1 353 (n0).toNat := (by rw [f68] at f72; exact f72 : n32 = hV H2 353 (n0).toNat).trans ((congrFun (uRowNe f48 353 (iS (show n19 = ((347 : Nat) : Int) from f41) rfl)) _))
  have e19 : hV H1 285 65 = hV H0 285 65 := (f10.1.2.1.1 285 65 kF_287_285_65)
  have e20 : hV H1 294 = hV H0 294 := fRow f10.1.2.1 294 kR_287_294
  have e21 : hV H1 298 = hV H0 298 := fRow f10.1.2.1 298 kR_287_298
  have e22 : hV H1 300 = hV H0 300 := fRow f10.1.2.1 300 kR_287_300
  have e23 : hV H1 341 = hV H0 341 := fRow f10.1.2.1 341 kR_287_341
  have e24 : (0 : Int) ≤ hV H0 285 18 ∧ hV H0 285 18 ≤ 8 := bTo ((f10.1.2.1.1 285 18 kF_287_285_18)) (f10.1.2.2 285 18 _ _ kW_285_18)
  have e25 : (0 : Int) ≤ hV H0 285 65 ∧ hV H0 285 65 ≤ 2147483647 := bTo e19 (f10.1.2.2 285 65 _ _ kW_285_65)
  have k0 := g4.1
  have y0 := g4.2.1
  have y1 := g4.2.2.1
  have y2 := g4.2.2.2.1
  have y3 := g4.2.2.2.2
  have p0 := g3.1
  have p1 := g3.2.1
  have p2 := g3.2.2
  try simp only [e20, e2] at y0
  try simp only [e2, e21, e22, e8, e13, e23] at y1
  try simp only [e19] at y3
  clear g3
  clear g4
  clear f13 f16 f18 f20 f23 f26 f30 f33 f36 f39 f42 f45 f50 f53 f57 f60 f62 f65 f69 f72 e2 e8 e13 e19 e20 e21 e22 e23
  clear f10
  subst e0
  subst e1
  subst e3
  subst e4
  subst e5
  subst e6
  subst e9
  subst e11
  subst e14
  subst e15
  rw [f28] at f34
  try have ca := cue_at (p1 (n4).toNat (by omega)) y0 (by omega) (by omega) (c := (16 * hV H1 346 (n0).toNat + hV H1 347 (n0).toNat)) (by omega)
  try have lv := y0 (n0).toNat (by omega)
  first
  | (have ix0 : n15 = 16 * (hV H1 346 (n0).toNat) := Eq.trans f34 (w32_iv (Iml 16 rfl (Iat f22 f21)) (by decide)); subst ix0; clear f34)
  | (have ix0 : n15 = 16 * (hV H1 346 (n0).toNat) := Eq.trans f34 (w32_id (by omega) (by omega)); subst ix0; clear f34)
  | (unfold w32 at f34; have ix0 : n15 = 16 * (hV H1 346 (n0).toNat) := (by omega); subst ix0)
  | skip
  first
  | (have ix1 : n18 = (16 * (hV H1 346 (n0).toNat)) + hV H1 347 (n0).toNat := Eq.trans f40 (w32_iv (Iad (Iml 16 rfl (Iat f22 f21)) (Iat f15 f14)) (by decide)); subst ix1; clear f40)
  | (have ix1 : n18 = (16 * (hV H1 346 (n0).toNat)) + hV H1 347 (n0).toNat := Eq.trans f40 (w32_id (by omega) (by omega)); subst ix1; clear f40)
  | (unfold w32 at f40; have ix1 : n18 = (16 * (hV H1 346 (n0).toNat)) + hV H1 347 (n0).toNat := (by omega); subst ix1)
  | skip
  first
  | (have ix2 : n22 = hV H1 347 (n0).toNat + 1 := Eq.trans f47 (w32_iv (Iad (Iat f15 f14) (IC 1)) (by decide)); subst ix2; clear f47)
  | (have ix2 : n22 = hV H1 347 (n0).toNat + 1 := Eq.trans f47 (w32_id (by omega) (by omega)); subst ix2; clear f47)
  | (unfold w32 at f47; have ix2 : n22 = hV H1 347 (n0).toNat + 1 := (by omega); subst ix2)
  | skip
  try unfold w32 at f34
  try unfold w32 at f40
  try unfold w32 at f47
  try subst k0
  omega
def g_287_31_6 : vG := ([(22, [32, 31, 5], [2], 0), (90, [32], [], -1), (91, [32], [], 7), (20, [31, 2], [2], 95), (0, [31], [], 353), (40, [29, 30], [], 0), (0, [30], [], -1), (22, [29, 28, 18], [2], 0), (90, [29], [], -1), (91, [29], [], 9999), (20, [28, 2], [2], 29), (0, [28], [], 303), (22, [27, 26, 5], [2], 0), (90, [27], [], -1), (91, [27], [], 7), (20, [26, 2], [2], 95), (0, [26], [], 353), (40, [24, 25], [], 0), (0, [25], [], -1), (22, [24, 23, 18], [2], 0), (90, [24], [], -1), (91, [24], [], 9999), (20, [23, 2], [2], 27), (0, [23], [], 301), (80, [19, 5, 22], [2, 1], 0), (1, [22, 20, 21], [], 0), (0, [21], [], 1), (22, [20, 19, 5], [1], 0), (90, [20], [], 0), (91, [20], [], 16), (20, [19, 2], [1], 86), (0, [19], [], 347), (1, [18, 15, 17], [], 0), (22, [17, 16, 5], [1], 0), (90, [17], [], 0), (91, [17], [], 16), (20, [16, 2], [1], 86), (0, [16], [], 347), (3, [15, 12, 14], [], 0), (22, [14, 13, 5], [1], 0), (90, [14], [], 0), (91, [14], [], 62), (20, [13, 2], [1], 85), (0, [13], [], 346), (0, [12], [], 16), (41, [7, 11], [], 0), (22, [11, 8, 10], [1], 0), (90, [11], [], 0), (91, [11], [], 16), (22, [10, 9, 5], [1], 0), (90, [10], [], 0), (91, [10], [], 62), (20, [9, 2], [1], 85), (0, [9], [], 346), (20, [8, 2], [1], 22), (0, [8], [], 296), (22, [7, 6, 5], [1], 0), (90, [7], [], 0), (91, [7], [], 16), (20, [6, 2], [1], 86), (0, [6], [], 347), (33, [5], [], 0), (5000, [0, 1, 2, 3, 4, 5], [0, 1], 31), (0, [0], [], 285), (90, [1], [], 0), (91, [1], [], 7), (0, [2], [], 285), (90, [3], [], 0), (91, [3], [], 7), (90, [4], [], 0), (91, [4], [], 2147483647), (90, [5], [], -1), (91, [5], [], 6)], (91, [18], [], 1007))
theorem c_287_31_6 {q0 : Nat} : vOkm T0 (eP e_287 L_287 A_287 mu_287 (some q0)) 2 g_287_31_6 := vOk_inI fun ρ η f0 f1 f2 f3 f4 f5 f6 f7 f8 f9 f10 f11 f12 f13 f14 f15 f16 f17 f18 f19 f20 f21 f22 f23 f24 f25 f26 f27 f28 f29 f30 f31 f32 f33 f34 f35 f36 f37 f38 f39 f40 f41 f42 f43 f44 f45 f46 f47 f48 f49 f50 f51 f52 f53 f54 f55 f56 f57 f58 f59 f60 f61 f62 f63 f64 f65 f66 f67 f68 f69 f70 f71 f72 => q_287_9 (q0 := q0) (n0 := ρ 5) (n1 := ρ 4) (n2 := ρ 3) (n3 := ρ 2) (n4 := ρ 1) (n5 := ρ 0) (n6 := ρ 6) (n7 := ρ 7) (n8 := ρ 8) (n9 := ρ 9) (n10 := ρ 10) (n11 := ρ 11) (n12 := ρ 12) (n13 := ρ 13) (n14 := ρ 14) (n15 := ρ 15) (n16 := ρ 16) (n17 := ρ 17) (n18 := ρ 18) (n19 := ρ 19) (n20 := ρ 20) (n21 := ρ 21) (n22 := ρ 22) (n23 := ρ 23) (n24 := ρ 24) (n25 := ρ 25) (n26 := ρ 26) (n27 := ρ 27) (n28 := ρ 28) (n29 := ρ 29) (n30 := ρ 30) (n31 := ρ 31) (n32 := ρ 32) (H0 := η 0) (H1 := η 1) (H2 := η 2) f72 f71 f70 f69 f68 f67 f66 f65 f64 f63 f62 f61 f60 f59 f58 f57 f56 f55 f54 f53 f52 f51 f50 f49 f48 f47 f46 f45 f44 f43 f42 f41 f40 f39 f38 f37 f36 f35 f34 f33 f32 f31 f30 f29 f28 f27 f26 f25 f24 f23 f22 f21 f20 f19 f18 f17 f16 f15 f14 f13 f12 f11 f10 f9 f8 f7 f6 f5 f4 f3 f2 f1 f0
theorem q_287_10 {q0 : Nat} {n0 n1 n2 n3 n4 n5 n6 n7 n8 n9 n10 n11 n12 n13 n14 n15 n16 n17 n18 n19 n20 n21 n22 n23 n24 n25 n26 n27 n28 n29 n30 n31 n32 : Int} {H0 H1 H2 : gH} (f0 : n0 ≤ 6) (f1 : (-1) ≤ n0) (f2 : n1 ≤ 2147483647) (f3 : 0 ≤ n1) (f4 : n2 ≤ 7) (f5 : 0 ≤ n2) (f6 : n3 = 285) (f7 : n4 ≤ 7) (f8 : 0 ≤ n4) (f9 : n5 = 285) (f10 : (hLe T0 H0 H1 ∧ hFr s_287.2.2.2.2 H0 H1 ∧ hWt T0 H1) ∧ (Ab_287_31 n5 n4 n3 n2 n1 n0 H0 H1 ∧ preb_287 n5 n4 H0) ∧ some q0 = some (mub_287_31 n5 n4 n3 n2 n1 n0 H0 H1)) (f11 : 0 ≤ n0) (f12 : n6 = 347) (f13 : n6 = hV H1 (n3).toNat 86) (f14 : n7 ≤ 16) (f15 : 0 ≤ n7) (f16 : n7 = hV H1 (n6).toNat (n0).toNat) (f17 : n8 = 296) (f18 : n8 = hV H1 (n3).toNat 22) (f19 : n9 = 346) (f20 : n9 = hV H1 (n3).toNat 85) (f21 : n10 ≤ 62) (f22 : 0 ≤ n10) (f23 : n10 = hV H1 (n9).toNat (n0).toNat) (f24 : n11 ≤ 16) (f25 : 0 ≤ n11) (f26 : n11 = hV H1 (n8).toNat (n10).toNat) (f27 : n7 ≠ n11) (f28 : n12 = 16) (f29 : n13 = 346) (f30 : n13 = hV H1 (n3).toNat 85) (f31 : n14 ≤ 62) (f32 : 0 ≤ n14) (f33 : n14 = hV H1 (n13).toNat (n0).toNat) (f34 : n15 = w32 (n12 * n14)) (f35 : n16 = 347) (f36 : n16 = hV H1 (n3).toNat 86) (f37 : n17 ≤ 16) (f38 : 0 ≤ n17) (f39 : n17 = hV H1 (n16).toNat (n0).toNat) (f40 : n18 = w32 (n15 + n17)) (f41 : n19 = 347) (f42 : n19 = hV H1 (n3).toNat 86) (f43 : n20 ≤ 16) (f44 : 0 ≤ n20) (f45 : n20 = hV H1 (n19).toNat (n0).toNat) (f46 : n21 = 1) (f47 : n22 = w32 (n20 + n21)) (f48 : hUpd H2 H1 n19 n0 n22) (f49 : n23 = 301) (f50 : n23 = hV H2 (n3).toNat 27) (f51 : n24 ≤ 9999) (f52 : (-1) ≤ n24) (f53 : n24 = hV H2 (n23).toNat (n18).toNat) (f54 : n25 = (-1)) (f55 : n24 = n25) (f56 : n26 = 353) (f57 : n26 = hV H2 (n3).toNat 95) (f58 : n27 ≤ 7) (f59 : (-1) ≤ n27) (f60 : n27 = hV H2 (n26).toNat (n0).toNat) (f61 : n28 = 303) (f62 : n28 = hV H2 (n3).toNat 29) (f63 : n29 ≤ 9999) (f64 : (-1) ≤ n29) (f65 : n29 = hV H2 (n28).toNat (n18).toNat) (f66 : n30 = (-1)) (f67 : n29 = n30) (f68 : n31 = 353) (f69 : n31 = hV H2 (n3).toNat 95) (f70 : n32 ≤ 7) (f71 : (-1) ≤ n32) (f72 : n32 = hV H2 (n31).toNat (n0).toNat) : Ab_287_147 n5 n4 n3 n2 n1 n0 n18 n27 n32 H0 H2 ∧ ∀ q, some q0 = some q → mub_287_147 n5 n4 n3 n2 n1 n0 n18 n27 n32 H0 H2 < q := by
  have g4 := f10.2.1.1
  unfold Ab_287_31 at g4
  have g3 := f10.2.1.2
  unfold preb_287 at g3
  have g5 := Option.some.inj f10.2.2
  unfold mub_287_31 at g5
  unfold Ab_287_147
  unfold mub_287_147
  have e0 : n7 = hV H1 347 (n0).toNat := (by rw [f12] at f16; exact f16 : n7 = hV H1 347 (n0).toNat)
  have e1 : n10 = hV H1 346 (n0).toNat := (by rw [f19] at f23; exact f23 : n10 = hV H1 346 (n0).toNat)
  have e2 : hV H1 296 = hV H0 296 := fRow f10.1.2.1 296 kR_287_296
  have e3 : n11 = hV H0 296 (n10).toNat := (by rw [f17] at f26; exact f26 : n11 = hV H1 296 (n10).toNat).trans ((congrFun e2 _))
  have e4 : n14 = hV H1 346 (n0).toNat := (by rw [f29] at f33; exact f33 : n14 = hV H1 346 (n0).toNat)
  have e5 : n17 = hV H1 347 (n0).toNat := (by rw [f35] at f39; exact f39 : n17 = hV H1 347 (n0).toNat)
  have e6 : n20 = hV H1 347 (n0).toNat := (by rw [f41] at f45; exact f45 : n20 = hV H1 347 (n0).toNat)
  have e8 : hV H1 301 = hV H0 301 := fRow f10.1.2.1 301 kR_287_301
  have e9 : n24 = hV H0 301 (n18).toNat := (by rw [f49] at f53; exact f53 : n24 = hV H2 301 (n18).toNat).trans (((congrFun (uRowNe f48 301 (iS (show n19 = ((347 : Nat) : Int) from f41) rfl)) _)).trans ((congrFun e8 _)))
  have e10 : hV H2 353 = hV H1 353 := uRowNe f48 353 (iS (show n19 = ((347 : Nat) : Int) from f41) rfl)
  have e11 : n27 = hV H1 353 (n0).toNat := (by rw [f56] at f60; exact f60 : n27 = hV H2 353 (n0).toNat).trans ((congrFun e10 _))
  have e13 : hV H1 303 = hV H0 303 := fRow f10.1.2.1 303 kR_287_303
  have e14 : n29 = hV H0 303 (n18).toNat := (by rw [f61] at f65; exact f65 : n29 = hV H2 303 (n18).toNat).trans (((congrFun (uRowNe f48 303 (iS (show n19 = ((347 : Nat) : Int) from f41) rfl)) _)).trans ((congrFun e13 _)))
  have e15 : n32 = hV H1 353 (n0).toNat := (by rw [f68] at f72; exact f72 : n32 = hV H2 353 (n0).toNat).trans ((congrFun e10 _))
  have e19 : hV H1 285 65 = hV H0 285 65 := (f10.1.2.1.1 285 65 kF_287_285_65)
  have e20 : hV H1 294 = hV H0 294 := fRow f10.1.2.1 294 kR_287_294
  have e21 : hV H1 298 = hV H0 298 := fRow f10.1.2.1 298 kR_287_298
  have e22 : hV H1 300 = hV H0 300 := fRow f10.1.2.1 300 kR_287_300
  have e23 : hV H1 341 = hV H0 341 := fRow f10.1.2.1 341 kR_287_341
  have e25 : hV H2 285 65 = hV H0 285 65 := ((uPlace f48 285 65 (iS (show n19 = ((347 : Nat) : Int) from f41) rfl))).trans (f10.1.2.1.1 285 65 kF_287_285_65)
  have e27 : hV H2 294 = hV H0 294 := (uRowNe f48 294 (iS (show n19 = ((347 : Nat) : Int) from f41) rfl)).trans e20
  have e29 : hV H2 296 = hV H0 296 := (uRowNe f48 296 (iS (show n19 = ((347 : Nat) : Int) from f41) rfl)).trans e2
  have e31 : hV H2 298 = hV H0 298 := (uRowNe f48 298 (iS (show n19 = ((347 : Nat) : Int) from f41) rfl)).trans e21
  have e33 : hV H2 300 = hV H0 300 := (uRowNe f48 300 (iS (show n19 = ((347 : Nat) : Int) from f41) rfl)).trans e22
  have e34 : hV H2 301 = hV H0 301 := (uRowNe f48 301 (iS (show n19 = ((347 : Nat) : Int) from f41) rfl)).trans e8
  have e35 : hV H2 303 = hV H0 303 := (uRowNe f48 303 (iS (show n19 = ((347 : Nat) : Int) from f41) rfl)).trans e13
  have e37 : hV H2 341 = hV H0 341 := (uRowNe f48 341 (iS (show n19 = ((347 : Nat) : Int) from f41) rfl)).trans e23
  have e38 : hV H2 346 = hV H1 346 := uRowNe f48 346 (iS (show n19 = ((347 : Nat) : Int) from f41) rfl)
  have e39 : hV H2 347 = uF (hV H1 347) n0 n22 := uRow f48 347 f41.symm
  have e40 : (0 : Int) ≤ hV H0 285 18 ∧ hV H0 285 18 ≤ 8 := bTo ((f10.1.2.1.1 285 18 kF_287_285_18)) (f10.1.2.2 285 18 _ _ kW_285_18)
  have e41 : (0 : Int) ≤ hV H0 285 65 ∧ hV H0 285 65 ≤ 2147483647 := bTo e19 (f10.1.2.2 285 65 _ _ kW_285_65)
  try simp only [e2] at g5
  try simp only [e25, e27, e29, e31, e33, e34, e35, e37, e38, e39, e10]
  have k0 := g4.1
  have y0 := g4.2.1
  have y1 := g4.2.2.1
  have y2 := g4.2.2.2.1
  have y3 := g4.2.2.2.2
  have p0 := g3.1
  have p1 := g3.2.1
  have p2 := g3.2.2
  try simp only [e20, e2] at y0
  try simp only [e2, e21, e22, e8, e13, e23] at y1
  try simp only [e19] at y3
  clear g3
  clear g4
  clear f13 f16 f18 f20 f23 f26 f30 f33 f36 f39 f42 f45 f50 f53 f57 f60 f62 f65 f69 f72 e2 e8 e10 e13 e19 e20 e21 e22 e23 e25 e27 e29 e31 e33 e34 e35 e37 e38
  clear f10
  subst e0
  subst e1
  subst e3
  subst e4
  subst e5
  subst e6
  subst e9
  subst e11
  subst e14
  subst e15
  rw [f28] at f34
  try have ca := cue_at (p1 (n4).toNat (by omega)) y0 (by omega) (by omega) (c := (16 * hV H1 346 (n0).toNat + hV H1 347 (n0).toNat)) (by omega)
  try have lv := y0 (n0).toNat (by omega)
  first
  | (have ix0 : n15 = 16 * (hV H1 346 (n0).toNat) := Eq.trans f34 (w32_iv (Iml 16 rfl (Iat f22 f21)) (by decide)); subst ix0; clear f34)
  | (have ix0 : n15 = 16 * (hV H1 346 (n0).toNat) := Eq.trans f34 (w32_id (by omega) (by omega)); subst ix0; clear f34)
  | (unfold w32 at f34; have ix0 : n15 = 16 * (hV H1 346 (n0).toNat) := (by omega); subst ix0)
  | skip
  first
  | (have ix1 : n18 = (16 * (hV H1 346 (n0).toNat)) + hV H1 347 (n0).toNat := Eq.trans f40 (w32_iv (Iad (Iml 16 rfl (Iat f22 f21)) (Iat f15 f14)) (by decide)); subst ix1; clear f40)
  | (have ix1 : n18 = (16 * (hV H1 346 (n0).toNat)) + hV H1 347 (n0).toNat := Eq.trans f40 (w32_id (by omega) (by omega)); subst ix1; clear f40)
  | (unfold w32 at f40; have ix1 : n18 = (16 * (hV H1 346 (n0).toNat)) + hV H1 347 (n0).toNat := (by omega); subst ix1)
  | skip
  first
  | (have ix2 : n22 = hV H1 347 (n0).toNat + 1 := Eq.trans f47 (w32_iv (Iad (Iat f15 f14) (IC 1)) (by decide)); subst ix2; clear f47)
  | (have ix2 : n22 = hV H1 347 (n0).toNat + 1 := Eq.trans f47 (w32_id (by omega) (by omega)); subst ix2; clear f47)
  | (unfold w32 at f47; have ix2 : n22 = hV H1 347 (n0).toNat + 1 := (by omega); subst ix2)
  | skip
  try unfold w32 at f34
  try unfold w32 at f40
  try unfold w32 at f47

  have ca := cue_at (p1 (n4).toNat (by omega)) y0 (by omega) (by omega) (c := (16 * hV H1 346 (n0).toNat + hV H1 347 (n0).toNat)) rfl
  have mt := MS_take (i := n0) y0 (by omega) (by omega) rfl rfl
  refine ⟨⟨?_, ?_, ?_, ?_, ?_, ?_, ?_, ?_, ?_⟩, fun q hq => ?_⟩
  · first | omega | trivial
  · exact LVp_next y0 (by omega) (by omega) (by omega) (by have z := y0 (n0).toNat (by omega); omega)
  · exact UM_of (p1 (n4).toNat (by omega)) y0 (by omega) (by omega) (by omega) (by intro h5; omega)
  · omega
  · omega
  · omega
  · exact ML_head y1 (p1 (n4).toNat (by omega)) y0 (by omega) (by omega) (by omega) (by omega) (by omega) (by unfold ow; first | (rw [if_pos (by omega)]) | (rw [if_neg (by omega)])) (by unfold ow; first | (rw [if_pos (by omega)]) | (rw [if_neg (by omega)]))
  · intro h5; omega
  · intro h5; omega
  · have g6 := Option.some.inj hq
    subst g6
    rw [g5]
    omega
def g_287_31_7 : vG := ([(22, [32, 31, 5], [2], 0), (90, [32], [], -1), (91, [32], [], 7), (20, [31, 2], [2], 95), (0, [31], [], 353), (40, [29, 30], [], 0), (0, [30], [], -1), (22, [29, 28, 18], [2], 0), (90, [29], [], -1), (91, [29], [], 9999), (20, [28, 2], [2], 29), (0, [28], [], 303), (22, [27, 26, 5], [2], 0), (90, [27], [], -1), (91, [27], [], 7), (20, [26, 2], [2], 95), (0, [26], [], 353), (40, [24, 25], [], 0), (0, [25], [], -1), (22, [24, 23, 18], [2], 0), (90, [24], [], -1), (91, [24], [], 9999), (20, [23, 2], [2], 27), (0, [23], [], 301), (80, [19, 5, 22], [2, 1], 0), (1, [22, 20, 21], [], 0), (0, [21], [], 1), (22, [20, 19, 5], [1], 0), (90, [20], [], 0), (91, [20], [], 16), (20, [19, 2], [1], 86), (0, [19], [], 347), (1, [18, 15, 17], [], 0), (22, [17, 16, 5], [1], 0), (90, [17], [], 0), (91, [17], [], 16), (20, [16, 2], [1], 86), (0, [16], [], 347), (3, [15, 12, 14], [], 0), (22, [14, 13, 5], [1], 0), (90, [14], [], 0), (91, [14], [], 62), (20, [13, 2], [1], 85), (0, [13], [], 346), (0, [12], [], 16), (41, [7, 11], [], 0), (22, [11, 8, 10], [1], 0), (90, [11], [], 0), (91, [11], [], 16), (22, [10, 9, 5], [1], 0), (90, [10], [], 0), (91, [10], [], 62), (20, [9, 2], [1], 85), (0, [9], [], 346), (20, [8, 2], [1], 22), (0, [8], [], 296), (22, [7, 6, 5], [1], 0), (90, [7], [], 0), (91, [7], [], 16), (20, [6, 2], [1], 86), (0, [6], [], 347), (33, [5], [], 0), (5000, [0, 1, 2, 3, 4, 5], [0, 1], 31), (0, [0], [], 285), (90, [1], [], 0), (91, [1], [], 7), (0, [2], [], 285), (90, [3], [], 0), (91, [3], [], 7), (90, [4], [], 0), (91, [4], [], 2147483647), (90, [5], [], -1), (91, [5], [], 6)], (4000, [2, 3, 4, 5, 18, 27, 32], [2], 147))
theorem c_287_31_7 {q0 : Nat} : vOkm T0 (eP e_287 L_287 A_287 mu_287 (some q0)) 2 g_287_31_7 := vOk_inI fun ρ η f0 f1 f2 f3 f4 f5 f6 f7 f8 f9 f10 f11 f12 f13 f14 f15 f16 f17 f18 f19 f20 f21 f22 f23 f24 f25 f26 f27 f28 f29 f30 f31 f32 f33 f34 f35 f36 f37 f38 f39 f40 f41 f42 f43 f44 f45 f46 f47 f48 f49 f50 f51 f52 f53 f54 f55 f56 f57 f58 f59 f60 f61 f62 f63 f64 f65 f66 f67 f68 f69 f70 f71 f72 => q_287_10 (q0 := q0) (n0 := ρ 5) (n1 := ρ 4) (n2 := ρ 3) (n3 := ρ 2) (n4 := ρ 1) (n5 := ρ 0) (n6 := ρ 6) (n7 := ρ 7) (n8 := ρ 8) (n9 := ρ 9) (n10 := ρ 10) (n11 := ρ 11) (n12 := ρ 12) (n13 := ρ 13) (n14 := ρ 14) (n15 := ρ 15) (n16 := ρ 16) (n17 := ρ 17) (n18 := ρ 18) (n19 := ρ 19) (n20 := ρ 20) (n21 := ρ 21) (n22 := ρ 22) (n23 := ρ 23) (n24 := ρ 24) (n25 := ρ 25) (n26 := ρ 26) (n27 := ρ 27) (n28 := ρ 28) (n29 := ρ 29) (n30 := ρ 30) (n31 := ρ 31) (n32 := ρ 32) (H0 := η 0) (H1 := η 1) (H2 := η 2) f72 f71 f70 f69 f68 f67 f66 f65 f64 f63 f62 f61 f60 f59 f58 f57 f56 f55 f54 f53 f52 f51 f50 f49 f48 f47 f46 f45 f44 f43 f42 f41 f40 f39 f38 f37 f36 f35 f34 f33 f32 f31 f30 f29 f28 f27 f26 f25 f24 f23 f22 f21 f20 f19 f18 f17 f16 f15 f14 f13 f12 f11 f10 f9 f8 f7 f6 f5 f4 f3 f2 f1 f0
theorem q_287_11 {q0 : Nat} {n0 n1 n2 n3 n4 n5 n6 n7 n8 n9 n10 n11 n12 n13 n14 n15 n16 n17 n18 n19 n20 n21 n22 n23 n24 n25 n26 n27 n28 n29 n30 n31 : Int} {H0 H1 H2 : gH} (f0 : n0 ≤ 6) (f1 : (-1) ≤ n0) (f2 : n1 ≤ 2147483647) (f3 : 0 ≤ n1) (f4 : n2 ≤ 7) (f5 : 0 ≤ n2) (f6 : n3 = 285) (f7 : n4 ≤ 7) (f8 : 0 ≤ n4) (f9 : n5 = 285) (f10 : (hLe T0 H0 H1 ∧ hFr s_287.2.2.2.2 H0 H1 ∧ hWt T0 H1) ∧ (Ab_287_31 n5 n4 n3 n2 n1 n0 H0 H1 ∧ preb_287 n5 n4 H0) ∧ some q0 = some (mub_287_31 n5 n4 n3 n2 n1 n0 H0 H1)) (f11 : 0 ≤ n0) (f12 : n6 = 347) (f13 : n6 = hV H1 (n3).toNat 86) (f14 : n7 ≤ 16) (f15 : 0 ≤ n7) (f16 : n7 = hV H1 (n6).toNat (n0).toNat) (f17 : n8 = 296) (f18 : n8 = hV H1 (n3).toNat 22) (f19 : n9 = 346) (f20 : n9 = hV H1 (n3).toNat 85) (f21 : n10 ≤ 62) (f22 : 0 ≤ n10) (f23 : n10 = hV H1 (n9).toNat (n0).toNat) (f24 : n11 ≤ 16) (f25 : 0 ≤ n11) (f26 : n11 = hV H1 (n8).toNat (n10).toNat) (f27 : n7 ≠ n11) (f28 : n12 = 16) (f29 : n13 = 346) (f30 : n13 = hV H1 (n3).toNat 85) (f31 : n14 ≤ 62) (f32 : 0 ≤ n14) (f33 : n14 = hV H1 (n13).toNat (n0).toNat) (f34 : n15 = w32 (n12 * n14)) (f35 : n16 = 347) (f36 : n16 = hV H1 (n3).toNat 86) (f37 : n17 ≤ 16) (f38 : 0 ≤ n17) (f39 : n17 = hV H1 (n16).toNat (n0).toNat) (f40 : n18 = w32 (n15 + n17)) (f41 : n19 = 347) (f42 : n19 = hV H1 (n3).toNat 86) (f43 : n20 ≤ 16) (f44 : 0 ≤ n20) (f45 : n20 = hV H1 (n19).toNat (n0).toNat) (f46 : n21 = 1) (f47 : n22 = w32 (n20 + n21)) (f48 : hUpd H2 H1 n19 n0 n22) (f49 : n23 = 301) (f50 : n23 = hV H2 (n3).toNat 27) (f51 : n24 ≤ 9999) (f52 : (-1) ≤ n24) (f53 : n24 = hV H2 (n23).toNat (n18).toNat) (f54 : n25 = (-1)) (f55 : n24 = n25) (f56 : n26 = 353) (f57 : n26 = hV H2 (n3).toNat 95) (f58 : n27 ≤ 7) (f59 : (-1) ≤ n27) (f60 : n27 = hV H2 (n26).toNat (n0).toNat) (f61 : n28 = 303) (f62 : n28 = hV H2 (n3).toNat 29) (f63 : n29 ≤ 9999) (f64 : (-1) ≤ n29) (f65 : n29 = hV H2 (n28).toNat (n18).toNat) (f66 : n30 = (-1)) (f67 : n29 ≠ n30) (f68 : n31 = 303) (f69 : n31 = hV H2 (n3).toNat 29) : 0 ≤ n18 ∧ n18 < 1008 := by
  have g4 := f10.2.1.1
  unfold Ab_287_31 at g4
  have g3 := f10.2.1.2
  unfold preb_287 at g3
  have e0 : n7 = hV H1 347 (n0).toNat := (by rw [f12] at f16; exact f16 : n7 = hV H1 347 (n0).toNat)
  have e1 : n10 = hV H1 346 (n0).toNat := (by rw [f19] at f23; exact f23 : n10 = hV H1 346 (n0).toNat)
  have e2 : hV H1 296 = hV H0 296 := fRow f10.1.2.1 296 kR_287_296
  have e3 : n11 = hV H0 296 (n10).toNat := (by rw [f17] at f26; exact f26 : n11 = hV H1 296 (n10).toNat).trans ((congrFun e2 _))
  have e4 : n14 = hV H1 346 (n0).toNat := (by rw [f29] at f33; exact f33 : n14 = hV H1 346 (n0).toNat)
  have e5 : n17 = hV H1 347 (n0).toNat := (by rw [f35] at f39; exact f39 : n17 = hV H1 347 (n0).toNat)
  have e6 : n20 = hV H1 347 (n0).toNat := (by rw [f41] at f45; exact f45 : n20 = hV H1 347 (n0).toNat)
  have e8 : hV H1 301 = hV H0 301 := fRow f10.1.2.1 301 kR_287_301
  have e9 : n24 = hV H0 301 (n18).toNat := (by rw [f49] at f53; exact f53 : n24 = hV H2 301 (n18).toNat).trans (((congrFun (uRowNe f48 301 (iS (show n19 = ((347 : Nat) : Int) from f41) rfl)) _)).trans ((congrFun e8 _)))
  have e11 : n27 = hV H1 353 (n0).toNat := (by rw [f56] at f60; exact f60 : n27 = hV H2 353 (n0).toNat).trans ((congrFun (uRowNe f48 353 (iS (show n19 = ((347 : Nat) : Int) from f41) rfl)) _))
  have e13 : hV H1 303 = hV H0 303 := fRow f10.1.2.1 303 kR_287_303
  have e14 : n29 = hV H0 303 (n18).toNat := (by rw [f61] at f65; exact f65 : n29 = hV H2 303 (n18).toNat).trans (((congrFun (uRowNe f48 303 (iS (show n19 = ((347 : Nat) : Int) from f41) rfl)) _)).trans ((congrFun e13 _)))
  have e18 : hV H1 285 65 = hV H0 285 65 := (f10.1.2.1.1 285 65 kF_287_285_65)
  have e19 : hV H1 294 = hV H0 294 := fRow f10.1.2.1 294 kR_287_294
  have e20 : hV H1 298 = hV H0 298 := fRow f10.1.2.1 298 kR_287_298
  have e21 : hV H1 300 = hV H0 300 := fRow f10.1.2.1 300 kR_287_300
  have e22 : hV H1 341 = hV H0 341 := fRow f10.1.2.1 341 kR_287_341
  have e23 : (0 : Int) ≤ hV H0 285 18 ∧ hV H0 285 18 ≤ 8 := bTo ((f10.1.2.1.1 285 18 kF_287_285_18)) (f10.1.2.2 285 18 _ _ kW_285_18)
  have e24 : (0 : Int) ≤ hV H0 285 65 ∧ hV H0 285 65 ≤ 2147483647 := bTo e18 (f10.1.2.2 285 65 _ _ kW_285_65)
  have k0 := g4.1
  have y0 := g4.2.1
  have y1 := g4.2.2.1
  have y2 := g4.2.2.2.1
  have y3 := g4.2.2.2.2
  have p0 := g3.1
  have p1 := g3.2.1
  have p2 := g3.2.2
  try simp only [e19, e2] at y0
  try simp only [e2, e20, e21, e8, e13, e22] at y1
  try simp only [e18] at y3
  clear g3
  clear g4
  clear f13 f16 f18 f20 f23 f26 f30 f33 f36 f39 f42 f45 f50 f53 f57 f60 f62 f65 f69 e2 e8 e13 e18 e19 e20 e21 e22
  clear f10
  subst e0
  subst e1
  subst e3
  subst e4
  subst e5
  subst e6
  subst e9
  subst e11
  subst e14
  rw [f28] at f34
  try have ca := cue_at (p1 (n4).toNat (by omega)) y0 (by omega) (by omega) (c := (16 * hV H1 346 (n0).toNat + hV H1 347 (n0).toNat)) (by omega)
  try have lv := y0 (n0).toNat (by omega)
  first
  | (have ix0 : n15 = 16 * (hV H1 346 (n0).toNat) := Eq.trans f34 (w32_iv (Iml 16 rfl (Iat f22 f21)) (by decide)); subst ix0; clear f34)
  | (have ix0 : n15 = 16 * (hV H1 346 (n0).toNat) := Eq.trans f34 (w32_id (by omega) (by omega)); subst ix0; clear f34)
  | (unfold w32 at f34; have ix0 : n15 = 16 * (hV H1 346 (n0).toNat) := (by omega); subst ix0)
  | skip
  first
  | (have ix1 : n18 = (16 * (hV H1 346 (n0).toNat)) + hV H1 347 (n0).toNat := Eq.trans f40 (w32_iv (Iad (Iml 16 rfl (Iat f22 f21)) (Iat f15 f14)) (by decide)); subst ix1; clear f40)
  | (have ix1 : n18 = (16 * (hV H1 346 (n0).toNat)) + hV H1 347 (n0).toNat := Eq.trans f40 (w32_id (by omega) (by omega)); subst ix1; clear f40)
  | (unfold w32 at f40; have ix1 : n18 = (16 * (hV H1 346 (n0).toNat)) + hV H1 347 (n0).toNat := (by omega); subst ix1)
  | skip
  first
  | (have ix2 : n22 = hV H1 347 (n0).toNat + 1 := Eq.trans f47 (w32_iv (Iad (Iat f15 f14) (IC 1)) (by decide)); subst ix2; clear f47)
  | (have ix2 : n22 = hV H1 347 (n0).toNat + 1 := Eq.trans f47 (w32_id (by omega) (by omega)); subst ix2; clear f47)
  | (unfold w32 at f47; have ix2 : n22 = hV H1 347 (n0).toNat + 1 := (by omega); subst ix2)
  | skip
  try unfold w32 at f34
  try unfold w32 at f40
  try unfold w32 at f47
  try subst k0
  omega
def g_287_31_8 : vG := ([(20, [31, 2], [2], 29), (0, [31], [], 303), (41, [29, 30], [], 0), (0, [30], [], -1), (22, [29, 28, 18], [2], 0), (90, [29], [], -1), (91, [29], [], 9999), (20, [28, 2], [2], 29), (0, [28], [], 303), (22, [27, 26, 5], [2], 0), (90, [27], [], -1), (91, [27], [], 7), (20, [26, 2], [2], 95), (0, [26], [], 353), (40, [24, 25], [], 0), (0, [25], [], -1), (22, [24, 23, 18], [2], 0), (90, [24], [], -1), (91, [24], [], 9999), (20, [23, 2], [2], 27), (0, [23], [], 301), (80, [19, 5, 22], [2, 1], 0), (1, [22, 20, 21], [], 0), (0, [21], [], 1), (22, [20, 19, 5], [1], 0), (90, [20], [], 0), (91, [20], [], 16), (20, [19, 2], [1], 86), (0, [19], [], 347), (1, [18, 15, 17], [], 0), (22, [17, 16, 5], [1], 0), (90, [17], [], 0), (91, [17], [], 16), (20, [16, 2], [1], 86), (0, [16], [], 347), (3, [15, 12, 14], [], 0), (22, [14, 13, 5], [1], 0), (90, [14], [], 0), (91, [14], [], 62), (20, [13, 2], [1], 85), (0, [13], [], 346), (0, [12], [], 16), (41, [7, 11], [], 0), (22, [11, 8, 10], [1], 0), (90, [11], [], 0), (91, [11], [], 16), (22, [10, 9, 5], [1], 0), (90, [10], [], 0), (91, [10], [], 62), (20, [9, 2], [1], 85), (0, [9], [], 346), (20, [8, 2], [1], 22), (0, [8], [], 296), (22, [7, 6, 5], [1], 0), (90, [7], [], 0), (91, [7], [], 16), (20, [6, 2], [1], 86), (0, [6], [], 347), (33, [5], [], 0), (5000, [0, 1, 2, 3, 4, 5], [0, 1], 31), (0, [0], [], 285), (90, [1], [], 0), (91, [1], [], 7), (0, [2], [], 285), (90, [3], [], 0), (91, [3], [], 7), (90, [4], [], 0), (91, [4], [], 2147483647), (90, [5], [], -1), (91, [5], [], 6)], (70, [18], [], 1008))
theorem c_287_31_8 {q0 : Nat} : vOkm T0 (eP e_287 L_287 A_287 mu_287 (some q0)) 2 g_287_31_8 := vOk_inI fun ρ η f0 f1 f2 f3 f4 f5 f6 f7 f8 f9 f10 f11 f12 f13 f14 f15 f16 f17 f18 f19 f20 f21 f22 f23 f24 f25 f26 f27 f28 f29 f30 f31 f32 f33 f34 f35 f36 f37 f38 f39 f40 f41 f42 f43 f44 f45 f46 f47 f48 f49 f50 f51 f52 f53 f54 f55 f56 f57 f58 f59 f60 f61 f62 f63 f64 f65 f66 f67 f68 f69 => q_287_11 (q0 := q0) (n0 := ρ 5) (n1 := ρ 4) (n2 := ρ 3) (n3 := ρ 2) (n4 := ρ 1) (n5 := ρ 0) (n6 := ρ 6) (n7 := ρ 7) (n8 := ρ 8) (n9 := ρ 9) (n10 := ρ 10) (n11 := ρ 11) (n12 := ρ 12) (n13 := ρ 13) (n14 := ρ 14) (n15 := ρ 15) (n16 := ρ 16) (n17 := ρ 17) (n18 := ρ 18) (n19 := ρ 19) (n20 := ρ 20) (n21 := ρ 21) (n22 := ρ 22) (n23 := ρ 23) (n24 := ρ 24) (n25 := ρ 25) (n26 := ρ 26) (n27 := ρ 27) (n28 := ρ 28) (n29 := ρ 29) (n30 := ρ 30) (n31 := ρ 31) (H0 := η 0) (H1 := η 1) (H2 := η 2) f69 f68 f67 f66 f65 f64 f63 f62 f61 f60 f59 f58 f57 f56 f55 f54 f53 f52 f51 f50 f49 f48 f47 f46 f45 f44 f43 f42 f41 f40 f39 f38 f37 f36 f35 f34 f33 f32 f31 f30 f29 f28 f27 f26 f25 f24 f23 f22 f21 f20 f19 f18 f17 f16 f15 f14 f13 f12 f11 f10 f9 f8 f7 f6 f5 f4 f3 f2 f1 f0
def g_287_31_9 : vG := ([(1, [18, 15, 17], [], 0), (90, [17], [], 0), (91, [17], [], 16), (3, [15, 12, 14], [], 0), (90, [14], [], 0), (91, [14], [], 62), (0, [12], [], 16)], (90, [18], [], 0))
theorem c_287_31_9 {q0 : Nat} : vOkm T0 (eP e_287 L_287 A_287 mu_287 (some q0)) 2 g_287_31_9 := vOk_inI fun ρ η f0 f1 f2 f3 f4 f5 f6 => q_287_8 (q0 := q0) (n0 := ρ 12) (n1 := ρ 14) (n2 := ρ 15) (n3 := ρ 17) (n4 := ρ 18) (H0 := η 0) f6 f5 f4 f3 f2 f1 f0
theorem q_287_12 {q0 : Nat} {n0 n1 n2 n3 n4 n5 n6 n7 n8 n9 n10 n11 n12 n13 n14 n15 n16 n17 n18 n19 n20 n21 n22 n23 n24 n25 n26 n27 n28 n29 n30 n31 n32 : Int} {H0 H1 H2 : gH} (f0 : n0 ≤ 6) (f1 : (-1) ≤ n0) (f2 : n1 ≤ 2147483647) (f3 : 0 ≤ n1) (f4 : n2 ≤ 7) (f5 : 0 ≤ n2) (f6 : n3 = 285) (f7 : n4 ≤ 7) (f8 : 0 ≤ n4) (f9 : n5 = 285) (f10 : (hLe T0 H0 H1 ∧ hFr s_287.2.2.2.2 H0 H1 ∧ hWt T0 H1) ∧ (Ab_287_31 n5 n4 n3 n2 n1 n0 H0 H1 ∧ preb_287 n5 n4 H0) ∧ some q0 = some (mub_287_31 n5 n4 n3 n2 n1 n0 H0 H1)) (f11 : 0 ≤ n0) (f12 : n6 = 347) (f13 : n6 = hV H1 (n3).toNat 86) (f14 : n7 ≤ 16) (f15 : 0 ≤ n7) (f16 : n7 = hV H1 (n6).toNat (n0).toNat) (f17 : n8 = 296) (f18 : n8 = hV H1 (n3).toNat 22) (f19 : n9 = 346) (f20 : n9 = hV H1 (n3).toNat 85) (f21 : n10 ≤ 62) (f22 : 0 ≤ n10) (f23 : n10 = hV H1 (n9).toNat (n0).toNat) (f24 : n11 ≤ 16) (f25 : 0 ≤ n11) (f26 : n11 = hV H1 (n8).toNat (n10).toNat) (f27 : n7 ≠ n11) (f28 : n12 = 16) (f29 : n13 = 346) (f30 : n13 = hV H1 (n3).toNat 85) (f31 : n14 ≤ 62) (f32 : 0 ≤ n14) (f33 : n14 = hV H1 (n13).toNat (n0).toNat) (f34 : n15 = w32 (n12 * n14)) (f35 : n16 = 347) (f36 : n16 = hV H1 (n3).toNat 86) (f37 : n17 ≤ 16) (f38 : 0 ≤ n17) (f39 : n17 = hV H1 (n16).toNat (n0).toNat) (f40 : n18 = w32 (n15 + n17)) (f41 : n19 = 347) (f42 : n19 = hV H1 (n3).toNat 86) (f43 : n20 ≤ 16) (f44 : 0 ≤ n20) (f45 : n20 = hV H1 (n19).toNat (n0).toNat) (f46 : n21 = 1) (f47 : n22 = w32 (n20 + n21)) (f48 : hUpd H2 H1 n19 n0 n22) (f49 : n23 = 301) (f50 : n23 = hV H2 (n3).toNat 27) (f51 : n24 ≤ 9999) (f52 : (-1) ≤ n24) (f53 : n24 = hV H2 (n23).toNat (n18).toNat) (f54 : n25 = (-1)) (f55 : n24 = n25) (f56 : n26 = 353) (f57 : n26 = hV H2 (n3).toNat 95) (f58 : n27 ≤ 7) (f59 : (-1) ≤ n27) (f60 : n27 = hV H2 (n26).toNat (n0).toNat) (f61 : n28 = 303) (f62 : n28 = hV H2 (n3).toNat 29) (f63 : n29 ≤ 9999) (f64 : (-1) ≤ n29) (f65 : n29 = hV H2 (n28).toNat (n18).toNat) (f66 : n30 = (-1)) (f67 : n29 ≠ n30) (f68 : n31 = 303) (f69 : n31 = hV H2 (n3).toNat 29) (f70 : n32 ≤ 9999) (f71 : (-1) ≤ n32) (f72 : n32 = hV H2 (n31).toNat (n18).toNat) : n18 ≤ 1007 := by
  have g4 := f10.2.1.1
  unfold Ab_287_31 at g4
  have g3 := f10.2.1.2
  unfold preb_287 at g3
  have e0 : n7 = hV H1 347 (n0).toNat := (by rw [f12] at f16; exact f16 : n7 = hV H1 347 (n0).toNat)
  have e1 : n10 = hV H1 346 (n0).toNat := (by rw [f19] at f23; exact f23 : n10 = hV H1 346 (n0).toNat)
  have e2 : hV H1 296 = hV H0 296 := fRow f10.1.2.1 296 kR_287_296
  have e3 : n11 = hV H0 296 (n10).toNat := (by rw [f17] at f26; exact f26 : n11 = hV H1 296 (n10).toNat).trans ((congrFun e2 _))
  have e4 : n14 = hV H1 346 (n0).toNat := (by rw [f29] at f33; exact f33 : n14 = hV H1 346 (n0).toNat)
  have e5 : n17 = hV H1 347 (n0).toNat := (by rw [f35] at f39; exact f39 : n17 = hV H1 347 (n0).toNat)
  have e6 : n20 = hV H1 347 (n0).toNat := (by rw [f41] at f45; exact f45 : n20 = hV H1 347 (n0).toNat)
  have e8 : hV H1 301 = hV H0 301 := fRow f10.1.2.1 301 kR_287_301
  have e9 : n24 = hV H0 301 (n18).toNat := (by rw [f49] at f53; exact f53 : n24 = hV H2 301 (n18).toNat).trans (((congrFun (uRowNe f48 301 (iS (show n19 = ((347 : Nat) : Int) from f41) rfl)) _)).trans ((congrFun e8 _)))
  have e11 : n27 = hV H1 353 (n0).toNat := (by rw [f56] at f60; exact f60 : n27 = hV H2 353 (n0).toNat).trans ((congrFun (uRowNe f48 353 (iS (show n19 = ((347 : Nat) : Int) from f41) rfl)) _))
  have e13 : hV H1 303 = hV H0 303 := fRow f10.1.2.1 303 kR_287_303
  have e14 : n29 = hV H0 303 (n18).toNat := (by rw [f61] at f65; exact f65 : n29 = hV H2 303 (n18).toNat).trans (((congrFun (uRowNe f48 303 (iS (show n19 = ((347 : Nat) : Int) from f41) rfl)) _)).trans ((congrFun e13 _)))
  have e15 : n32 = hV H0 303 (n18).toNat := (by rw [f68] at f72; exact f72 : n32 = hV H2 303 (n18).toNat).trans (((congrFun (uRowNe f48 303 (iS (show n19 = ((347 : Nat) : Int) from f41) rfl)) _)).trans ((congrFun e13 _)))
  have e19 : hV H1 285 65 = hV H0 285 65 := (f10.1.2.1.1 285 65 kF_287_285_65)
  have e20 : hV H1 294 = hV H0 294 := fRow f10.1.2.1 294 kR_287_294
  have e21 : hV H1 298 = hV H0 298 := fRow f10.1.2.1 298 kR_287_298
  have e22 : hV H1 300 = hV H0 300 := fRow f10.1.2.1 300 kR_287_300
  have e23 : hV H1 341 = hV H0 341 := fRow f10.1.2.1 341 kR_287_341
  have e24 : (0 : Int) ≤ hV H0 285 18 ∧ hV H0 285 18 ≤ 8 := bTo ((f10.1.2.1.1 285 18 kF_287_285_18)) (f10.1.2.2 285 18 _ _ kW_285_18)
  have e25 : (0 : Int) ≤ hV H0 285 65 ∧ hV H0 285 65 ≤ 2147483647 := bTo e19 (f10.1.2.2 285 65 _ _ kW_285_65)
  have k0 := g4.1
  have y0 := g4.2.1
  have y1 := g4.2.2.1
  have y2 := g4.2.2.2.1
  have y3 := g4.2.2.2.2
  have p0 := g3.1
  have p1 := g3.2.1
  have p2 := g3.2.2
  try simp only [e20, e2] at y0
  try simp only [e2, e21, e22, e8, e13, e23] at y1
  try simp only [e19] at y3
  clear g3
  clear g4
  clear f13 f16 f18 f20 f23 f26 f30 f33 f36 f39 f42 f45 f50 f53 f57 f60 f62 f65 f69 f72 e2 e8 e13 e19 e20 e21 e22 e23
  clear f10
  subst e0
  subst e1
  subst e3
  subst e4
  subst e5
  subst e6
  subst e9
  subst e11
  subst e14
  subst e15
  rw [f28] at f34
  try have ca := cue_at (p1 (n4).toNat (by omega)) y0 (by omega) (by omega) (c := (16 * hV H1 346 (n0).toNat + hV H1 347 (n0).toNat)) (by omega)
  try have lv := y0 (n0).toNat (by omega)
  first
  | (have ix0 : n15 = 16 * (hV H1 346 (n0).toNat) := Eq.trans f34 (w32_iv (Iml 16 rfl (Iat f22 f21)) (by decide)); subst ix0; clear f34)
  | (have ix0 : n15 = 16 * (hV H1 346 (n0).toNat) := Eq.trans f34 (w32_id (by omega) (by omega)); subst ix0; clear f34)
  | (unfold w32 at f34; have ix0 : n15 = 16 * (hV H1 346 (n0).toNat) := (by omega); subst ix0)
  | skip
  first
  | (have ix1 : n18 = (16 * (hV H1 346 (n0).toNat)) + hV H1 347 (n0).toNat := Eq.trans f40 (w32_iv (Iad (Iml 16 rfl (Iat f22 f21)) (Iat f15 f14)) (by decide)); subst ix1; clear f40)
  | (have ix1 : n18 = (16 * (hV H1 346 (n0).toNat)) + hV H1 347 (n0).toNat := Eq.trans f40 (w32_id (by omega) (by omega)); subst ix1; clear f40)
  | (unfold w32 at f40; have ix1 : n18 = (16 * (hV H1 346 (n0).toNat)) + hV H1 347 (n0).toNat := (by omega); subst ix1)
  | skip
  first
  | (have ix2 : n22 = hV H1 347 (n0).toNat + 1 := Eq.trans f47 (w32_iv (Iad (Iat f15 f14) (IC 1)) (by decide)); subst ix2; clear f47)
  | (have ix2 : n22 = hV H1 347 (n0).toNat + 1 := Eq.trans f47 (w32_id (by omega) (by omega)); subst ix2; clear f47)
  | (unfold w32 at f47; have ix2 : n22 = hV H1 347 (n0).toNat + 1 := (by omega); subst ix2)
  | skip
  try unfold w32 at f34
  try unfold w32 at f40
  try unfold w32 at f47
  try subst k0
  omega
def g_287_31_10 : vG := ([(22, [32, 31, 18], [2], 0), (90, [32], [], -1), (91, [32], [], 9999), (20, [31, 2], [2], 29), (0, [31], [], 303), (41, [29, 30], [], 0), (0, [30], [], -1), (22, [29, 28, 18], [2], 0), (90, [29], [], -1), (91, [29], [], 9999), (20, [28, 2], [2], 29), (0, [28], [], 303), (22, [27, 26, 5], [2], 0), (90, [27], [], -1), (91, [27], [], 7), (20, [26, 2], [2], 95), (0, [26], [], 353), (40, [24, 25], [], 0), (0, [25], [], -1), (22, [24, 23, 18], [2], 0), (90, [24], [], -1), (91, [24], [], 9999), (20, [23, 2], [2], 27), (0, [23], [], 301), (80, [19, 5, 22], [2, 1], 0), (1, [22, 20, 21], [], 0), (0, [21], [], 1), (22, [20, 19, 5], [1], 0), (90, [20], [], 0), (91, [20], [], 16), (20, [19, 2], [1], 86), (0, [19], [], 347), (1, [18, 15, 17], [], 0), (22, [17, 16, 5], [1], 0), (90, [17], [], 0), (91, [17], [], 16), (20, [16, 2], [1], 86), (0, [16], [], 347), (3, [15, 12, 14], [], 0), (22, [14, 13, 5], [1], 0), (90, [14], [], 0), (91, [14], [], 62), (20, [13, 2], [1], 85), (0, [13], [], 346), (0, [12], [], 16), (41, [7, 11], [], 0), (22, [11, 8, 10], [1], 0), (90, [11], [], 0), (91, [11], [], 16), (22, [10, 9, 5], [1], 0), (90, [10], [], 0), (91, [10], [], 62), (20, [9, 2], [1], 85), (0, [9], [], 346), (20, [8, 2], [1], 22), (0, [8], [], 296), (22, [7, 6, 5], [1], 0), (90, [7], [], 0), (91, [7], [], 16), (20, [6, 2], [1], 86), (0, [6], [], 347), (33, [5], [], 0), (5000, [0, 1, 2, 3, 4, 5], [0, 1], 31), (0, [0], [], 285), (90, [1], [], 0), (91, [1], [], 7), (0, [2], [], 285), (90, [3], [], 0), (91, [3], [], 7), (90, [4], [], 0), (91, [4], [], 2147483647), (90, [5], [], -1), (91, [5], [], 6)], (91, [18], [], 1007))
theorem c_287_31_10 {q0 : Nat} : vOkm T0 (eP e_287 L_287 A_287 mu_287 (some q0)) 2 g_287_31_10 := vOk_inI fun ρ η f0 f1 f2 f3 f4 f5 f6 f7 f8 f9 f10 f11 f12 f13 f14 f15 f16 f17 f18 f19 f20 f21 f22 f23 f24 f25 f26 f27 f28 f29 f30 f31 f32 f33 f34 f35 f36 f37 f38 f39 f40 f41 f42 f43 f44 f45 f46 f47 f48 f49 f50 f51 f52 f53 f54 f55 f56 f57 f58 f59 f60 f61 f62 f63 f64 f65 f66 f67 f68 f69 f70 f71 f72 => q_287_12 (q0 := q0) (n0 := ρ 5) (n1 := ρ 4) (n2 := ρ 3) (n3 := ρ 2) (n4 := ρ 1) (n5 := ρ 0) (n6 := ρ 6) (n7 := ρ 7) (n8 := ρ 8) (n9 := ρ 9) (n10 := ρ 10) (n11 := ρ 11) (n12 := ρ 12) (n13 := ρ 13) (n14 := ρ 14) (n15 := ρ 15) (n16 := ρ 16) (n17 := ρ 17) (n18 := ρ 18) (n19 := ρ 19) (n20 := ρ 20) (n21 := ρ 21) (n22 := ρ 22) (n23 := ρ 23) (n24 := ρ 24) (n25 := ρ 25) (n26 := ρ 26) (n27 := ρ 27) (n28 := ρ 28) (n29 := ρ 29) (n30 := ρ 30) (n31 := ρ 31) (n32 := ρ 32) (H0 := η 0) (H1 := η 1) (H2 := η 2) f72 f71 f70 f69 f68 f67 f66 f65 f64 f63 f62 f61 f60 f59 f58 f57 f56 f55 f54 f53 f52 f51 f50 f49 f48 f47 f46 f45 f44 f43 f42 f41 f40 f39 f38 f37 f36 f35 f34 f33 f32 f31 f30 f29 f28 f27 f26 f25 f24 f23 f22 f21 f20 f19 f18 f17 f16 f15 f14 f13 f12 f11 f10 f9 f8 f7 f6 f5 f4 f3 f2 f1 f0
theorem q_287_13 {q0 : Nat} {n0 n1 n2 n3 n4 n5 n6 n7 n8 n9 n10 n11 n12 n13 n14 n15 n16 n17 n18 n19 n20 n21 n22 n23 n24 n25 n26 n27 n28 n29 n30 n31 n32 : Int} {H0 H1 H2 : gH} (f0 : n0 ≤ 6) (f1 : (-1) ≤ n0) (f2 : n1 ≤ 2147483647) (f3 : 0 ≤ n1) (f4 : n2 ≤ 7) (f5 : 0 ≤ n2) (f6 : n3 = 285) (f7 : n4 ≤ 7) (f8 : 0 ≤ n4) (f9 : n5 = 285) (f10 : (hLe T0 H0 H1 ∧ hFr s_287.2.2.2.2 H0 H1 ∧ hWt T0 H1) ∧ (Ab_287_31 n5 n4 n3 n2 n1 n0 H0 H1 ∧ preb_287 n5 n4 H0) ∧ some q0 = some (mub_287_31 n5 n4 n3 n2 n1 n0 H0 H1)) (f11 : 0 ≤ n0) (f12 : n6 = 347) (f13 : n6 = hV H1 (n3).toNat 86) (f14 : n7 ≤ 16) (f15 : 0 ≤ n7) (f16 : n7 = hV H1 (n6).toNat (n0).toNat) (f17 : n8 = 296) (f18 : n8 = hV H1 (n3).toNat 22) (f19 : n9 = 346) (f20 : n9 = hV H1 (n3).toNat 85) (f21 : n10 ≤ 62) (f22 : 0 ≤ n10) (f23 : n10 = hV H1 (n9).toNat (n0).toNat) (f24 : n11 ≤ 16) (f25 : 0 ≤ n11) (f26 : n11 = hV H1 (n8).toNat (n10).toNat) (f27 : n7 ≠ n11) (f28 : n12 = 16) (f29 : n13 = 346) (f30 : n13 = hV H1 (n3).toNat 85) (f31 : n14 ≤ 62) (f32 : 0 ≤ n14) (f33 : n14 = hV H1 (n13).toNat (n0).toNat) (f34 : n15 = w32 (n12 * n14)) (f35 : n16 = 347) (f36 : n16 = hV H1 (n3).toNat 86) (f37 : n17 ≤ 16) (f38 : 0 ≤ n17) (f39 : n17 = hV H1 (n16).toNat (n0).toNat) (f40 : n18 = w32 (n15 + n17)) (f41 : n19 = 347) (f42 : n19 = hV H1 (n3).toNat 86) (f43 : n20 ≤ 16) (f44 : 0 ≤ n20) (f45 : n20 = hV H1 (n19).toNat (n0).toNat) (f46 : n21 = 1) (f47 : n22 = w32 (n20 + n21)) (f48 : hUpd H2 H1 n19 n0 n22) (f49 : n23 = 301) (f50 : n23 = hV H2 (n3).toNat 27) (f51 : n24 ≤ 9999) (f52 : (-1) ≤ n24) (f53 : n24 = hV H2 (n23).toNat (n18).toNat) (f54 : n25 = (-1)) (f55 : n24 = n25) (f56 : n26 = 353) (f57 : n26 = hV H2 (n3).toNat 95) (f58 : n27 ≤ 7) (f59 : (-1) ≤ n27) (f60 : n27 = hV H2 (n26).toNat (n0).toNat) (f61 : n28 = 303) (f62 : n28 = hV H2 (n3).toNat 29) (f63 : n29 ≤ 9999) (f64 : (-1) ≤ n29) (f65 : n29 = hV H2 (n28).toNat (n18).toNat) (f66 : n30 = (-1)) (f67 : n29 ≠ n30) (f68 : n31 = 303) (f69 : n31 = hV H2 (n3).toNat 29) (f70 : n32 ≤ 9999) (f71 : (-1) ≤ n32) (f72 : n32 = hV H2 (n31).toNat (n18).toNat) : Ab_287_147 n5 n4 n3 n2 n1 n0 n18 n27 n32 H0 H2 ∧ ∀ q, some q0 = some q → mub_287_147 n5 n4 n3 n2 n1 n0 n18 n27 n32 H0 H2 < q := by
  have g4 := f10.2.1.1
  unfold Ab_287_31 at g4
  have g3 := f10.2.1.2
  unfold preb_287 at g3
  have g5 := Option.some.inj f10.2.2
  unfold mub_287_31 at g5
  unfold Ab_287_147
  unfold mub_287_147
  have e0 : n7 = hV H1 347 (n0).toNat := (by rw [f12] at f16; exact f16 : n7 = hV H1 347 (n0).toNat)
  have e1 : n10 = hV H1 346 (n0).toNat := (by rw [f19] at f23; exact f23 : n10 = hV H1 346 (n0).toNat)
  have e2 : hV H1 296 = hV H0 296 := fRow f10.1.2.1 296 kR_287_296
  have e3 : n11 = hV H0 296 (n10).toNat := (by rw [f17] at f26; exact f26 : n11 = hV H1 296 (n10).toNat).trans ((congrFun e2 _))
  have e4 : n14 = hV H1 346 (n0).toNat := (by rw [f29] at f33; exact f33 : n14 = hV H1 346 (n0).toNat)
  have e5 : n17 = hV H1 347 (n0).toNat := (by rw [f35] at f39; exact f39 : n17 = hV H1 347 (n0).toNat)
  have e6 : n20 = hV H1 347 (n0).toNat := (by rw [f41] at f45; exact f45 : n20 = hV H1 347 (n0).toNat)
  have e8 : hV H1 301 = hV H0 301 := fRow f10.1.2.1 301 kR_287_301
  have e9 : n24 = hV H0 301 (n18).toNat := (by rw [f49] at f53; exact f53 : n24 = hV H2 301 (n18).toNat).trans (((congrFun (uRowNe f48 301 (iS (show n19 = ((347 : Nat) : Int) from f41) rfl)) _)).trans ((congrFun e8 _)))
  have e10 : hV H2 353 = hV H1 353 := uRowNe f48 353 (iS (show n19 = ((347 : Nat) : Int) from f41) rfl)
  have e11 : n27 = hV H1 353 (n0).toNat := (by rw [f56] at f60; exact f60 : n27 = hV H2 353 (n0).toNat).trans ((congrFun e10 _))
  have e13 : hV H1 303 = hV H0 303 := fRow f10.1.2.1 303 kR_287_303
  have e14 : n29 = hV H0 303 (n18).toNat := (by rw [f61] at f65; exact f65 : n29 = hV H2 303 (n18).toNat).trans (((congrFun (uRowNe f48 303 (iS (show n19 = ((347 : Nat) : Int) from f41) rfl)) _)).trans ((congrFun e13 _)))
  have e15 : n32 = hV H0 303 (n18).toNat := (by rw [f68] at f72; exact f72 : n32 = hV H2 303 (n18).toNat).trans (((congrFun (uRowNe f48 303 (iS (show n19 = ((347 : Nat) : Int) from f41) rfl)) _)).trans ((congrFun e13 _)))
  have e19 : hV H1 285 65 = hV H0 285 65 := (f10.1.2.1.1 285 65 kF_287_285_65)
  have e20 : hV H1 294 = hV H0 294 := fRow f10.1.2.1 294 kR_287_294
  have e21 : hV H1 298 = hV H0 298 := fRow f10.1.2.1 298 kR_287_298
  have e22 : hV H1 300 = hV H0 300 := fRow f10.1.2.1 300 kR_287_300
  have e23 : hV H1 341 = hV H0 341 := fRow f10.1.2.1 341 kR_287_341
  have e25 : hV H2 285 65 = hV H0 285 65 := ((uPlace f48 285 65 (iS (show n19 = ((347 : Nat) : Int) from f41) rfl))).trans (f10.1.2.1.1 285 65 kF_287_285_65)
  have e27 : hV H2 294 = hV H0 294 := (uRowNe f48 294 (iS (show n19 = ((347 : Nat) : Int) from f41) rfl)).trans e20
  have e29 : hV H2 296 = hV H0 296 := (uRowNe f48 296 (iS (show n19 = ((347 : Nat) : Int) from f41) rfl)).trans e2
  have e31 : hV H2 298 = hV H0 298 := (uRowNe f48 298 (iS (show n19 = ((347 : Nat) : Int) from f41) rfl)).trans e21
  have e33 : hV H2 300 = hV H0 300 := (uRowNe f48 300 (iS (show n19 = ((347 : Nat) : Int) from f41) rfl)).trans e22
  have e34 : hV H2 301 = hV H0 301 := (uRowNe f48 301 (iS (show n19 = ((347 : Nat) : Int) from f41) rfl)).trans e8
  have e35 : hV H2 303 = hV H0 303 := (uRowNe f48 303 (iS (show n19 = ((347 : Nat) : Int) from f41) rfl)).trans e13
  have e37 : hV H2 341 = hV H0 341 := (uRowNe f48 341 (iS (show n19 = ((347 : Nat) : Int) from f41) rfl)).trans e23
  have e38 : hV H2 346 = hV H1 346 := uRowNe f48 346 (iS (show n19 = ((347 : Nat) : Int) from f41) rfl)
  have e39 : hV H2 347 = uF (hV H1 347) n0 n22 := uRow f48 347 f41.symm
  have e40 : (0 : Int) ≤ hV H0 285 18 ∧ hV H0 285 18 ≤ 8 := bTo ((f10.1.2.1.1 285 18 kF_287_285_18)) (f10.1.2.2 285 18 _ _ kW_285_18)
  have e41 : (0 : Int) ≤ hV H0 285 65 ∧ hV H0 285 65 ≤ 2147483647 := bTo e19 (f10.1.2.2 285 65 _ _ kW_285_65)
  try simp only [e2] at g5
  try simp only [e25, e27, e29, e31, e33, e34, e35, e37, e38, e39, e10]
  have k0 := g4.1
  have y0 := g4.2.1
  have y1 := g4.2.2.1
  have y2 := g4.2.2.2.1
  have y3 := g4.2.2.2.2
  have p0 := g3.1
  have p1 := g3.2.1
  have p2 := g3.2.2
  try simp only [e20, e2] at y0
  try simp only [e2, e21, e22, e8, e13, e23] at y1
  try simp only [e19] at y3
  clear g3
  clear g4
  clear f13 f16 f18 f20 f23 f26 f30 f33 f36 f39 f42 f45 f50 f53 f57 f60 f62 f65 f69 f72 e2 e8 e10 e13 e19 e20 e21 e22 e23 e25 e27 e29 e31 e33 e34 e35 e37 e38
  clear f10
  subst e0
  subst e1
  subst e3
  subst e4
  subst e5
  subst e6
  subst e9
  subst e11
  subst e14
  subst e15
  rw [f28] at f34
  try have ca := cue_at (p1 (n4).toNat (by omega)) y0 (by omega) (by omega) (c := (16 * hV H1 346 (n0).toNat + hV H1 347 (n0).toNat)) (by omega)
  try have lv := y0 (n0).toNat (by omega)
  first
  | (have ix0 : n15 = 16 * (hV H1 346 (n0).toNat) := Eq.trans f34 (w32_iv (Iml 16 rfl (Iat f22 f21)) (by decide)); subst ix0; clear f34)
  | (have ix0 : n15 = 16 * (hV H1 346 (n0).toNat) := Eq.trans f34 (w32_id (by omega) (by omega)); subst ix0; clear f34)
  | (unfold w32 at f34; have ix0 : n15 = 16 * (hV H1 346 (n0).toNat) := (by omega); subst ix0)
  | skip
  first
  | (have ix1 : n18 = (16 * (hV H1 346 (n0).toNat)) + hV H1 347 (n0).toNat := Eq.trans f40 (w32_iv (Iad (Iml 16 rfl (Iat f22 f21)) (Iat f15 f14)) (by decide)); subst ix1; clear f40)
  | (have ix1 : n18 = (16 * (hV H1 346 (n0).toNat)) + hV H1 347 (n0).toNat := Eq.trans f40 (w32_id (by omega) (by omega)); subst ix1; clear f40)
  | (unfold w32 at f40; have ix1 : n18 = (16 * (hV H1 346 (n0).toNat)) + hV H1 347 (n0).toNat := (by omega); subst ix1)
  | skip
  first
  | (have ix2 : n22 = hV H1 347 (n0).toNat + 1 := Eq.trans f47 (w32_iv (Iad (Iat f15 f14) (IC 1)) (by decide)); subst ix2; clear f47)
  | (have ix2 : n22 = hV H1 347 (n0).toNat + 1 := Eq.trans f47 (w32_id (by omega) (by omega)); subst ix2; clear f47)
  | (unfold w32 at f47; have ix2 : n22 = hV H1 347 (n0).toNat + 1 := (by omega); subst ix2)
  | skip
  try unfold w32 at f34
  try unfold w32 at f40
  try unfold w32 at f47

  have ca := cue_at (p1 (n4).toNat (by omega)) y0 (by omega) (by omega) (c := (16 * hV H1 346 (n0).toNat + hV H1 347 (n0).toNat)) rfl
  have mt := MS_take (i := n0) y0 (by omega) (by omega) rfl rfl
  refine ⟨⟨?_, ?_, ?_, ?_, ?_, ?_, ?_, ?_, ?_⟩, fun q hq => ?_⟩
  · first | omega | trivial
  · exact LVp_next y0 (by omega) (by omega) (by omega) (by have z := y0 (n0).toNat (by omega); omega)
  · exact UM_of (p1 (n4).toNat (by omega)) y0 (by omega) (by omega) (by omega) (by intro h5; omega)
  · omega
  · omega
  · omega
  · exact ML_head y1 (p1 (n4).toNat (by omega)) y0 (by omega) (by omega) (by omega) (by omega) (by omega) (by unfold ow; first | (rw [if_pos (by omega)]) | (rw [if_neg (by omega)])) (by unfold ow; first | (rw [if_pos (by omega)]) | (rw [if_neg (by omega)]))
  · intro h5; omega
  · intro h5; omega
  · have g6 := Option.some.inj hq
    subst g6
    rw [g5]
    omega
def g_287_31_11 : vG := ([(22, [32, 31, 18], [2], 0), (90, [32], [], -1), (91, [32], [], 9999), (20, [31, 2], [2], 29), (0, [31], [], 303), (41, [29, 30], [], 0), (0, [30], [], -1), (22, [29, 28, 18], [2], 0), (90, [29], [], -1), (91, [29], [], 9999), (20, [28, 2], [2], 29), (0, [28], [], 303), (22, [27, 26, 5], [2], 0), (90, [27], [], -1), (91, [27], [], 7), (20, [26, 2], [2], 95), (0, [26], [], 353), (40, [24, 25], [], 0), (0, [25], [], -1), (22, [24, 23, 18], [2], 0), (90, [24], [], -1), (91, [24], [], 9999), (20, [23, 2], [2], 27), (0, [23], [], 301), (80, [19, 5, 22], [2, 1], 0), (1, [22, 20, 21], [], 0), (0, [21], [], 1), (22, [20, 19, 5], [1], 0), (90, [20], [], 0), (91, [20], [], 16), (20, [19, 2], [1], 86), (0, [19], [], 347), (1, [18, 15, 17], [], 0), (22, [17, 16, 5], [1], 0), (90, [17], [], 0), (91, [17], [], 16), (20, [16, 2], [1], 86), (0, [16], [], 347), (3, [15, 12, 14], [], 0), (22, [14, 13, 5], [1], 0), (90, [14], [], 0), (91, [14], [], 62), (20, [13, 2], [1], 85), (0, [13], [], 346), (0, [12], [], 16), (41, [7, 11], [], 0), (22, [11, 8, 10], [1], 0), (90, [11], [], 0), (91, [11], [], 16), (22, [10, 9, 5], [1], 0), (90, [10], [], 0), (91, [10], [], 62), (20, [9, 2], [1], 85), (0, [9], [], 346), (20, [8, 2], [1], 22), (0, [8], [], 296), (22, [7, 6, 5], [1], 0), (90, [7], [], 0), (91, [7], [], 16), (20, [6, 2], [1], 86), (0, [6], [], 347), (33, [5], [], 0), (5000, [0, 1, 2, 3, 4, 5], [0, 1], 31), (0, [0], [], 285), (90, [1], [], 0), (91, [1], [], 7), (0, [2], [], 285), (90, [3], [], 0), (91, [3], [], 7), (90, [4], [], 0), (91, [4], [], 2147483647), (90, [5], [], -1), (91, [5], [], 6)], (4000, [2, 3, 4, 5, 18, 27, 32], [2], 147))
theorem c_287_31_11 {q0 : Nat} : vOkm T0 (eP e_287 L_287 A_287 mu_287 (some q0)) 2 g_287_31_11 := vOk_inI fun ρ η f0 f1 f2 f3 f4 f5 f6 f7 f8 f9 f10 f11 f12 f13 f14 f15 f16 f17 f18 f19 f20 f21 f22 f23 f24 f25 f26 f27 f28 f29 f30 f31 f32 f33 f34 f35 f36 f37 f38 f39 f40 f41 f42 f43 f44 f45 f46 f47 f48 f49 f50 f51 f52 f53 f54 f55 f56 f57 f58 f59 f60 f61 f62 f63 f64 f65 f66 f67 f68 f69 f70 f71 f72 => q_287_13 (q0 := q0) (n0 := ρ 5) (n1 := ρ 4) (n2 := ρ 3) (n3 := ρ 2) (n4 := ρ 1) (n5 := ρ 0) (n6 := ρ 6) (n7 := ρ 7) (n8 := ρ 8) (n9 := ρ 9) (n10 := ρ 10) (n11 := ρ 11) (n12 := ρ 12) (n13 := ρ 13) (n14 := ρ 14) (n15 := ρ 15) (n16 := ρ 16) (n17 := ρ 17) (n18 := ρ 18) (n19 := ρ 19) (n20 := ρ 20) (n21 := ρ 21) (n22 := ρ 22) (n23 := ρ 23) (n24 := ρ 24) (n25 := ρ 25) (n26 := ρ 26) (n27 := ρ 27) (n28 := ρ 28) (n29 := ρ 29) (n30 := ρ 30) (n31 := ρ 31) (n32 := ρ 32) (H0 := η 0) (H1 := η 1) (H2 := η 2) f72 f71 f70 f69 f68 f67 f66 f65 f64 f63 f62 f61 f60 f59 f58 f57 f56 f55 f54 f53 f52 f51 f50 f49 f48 f47 f46 f45 f44 f43 f42 f41 f40 f39 f38 f37 f36 f35 f34 f33 f32 f31 f30 f29 f28 f27 f26 f25 f24 f23 f22 f21 f20 f19 f18 f17 f16 f15 f14 f13 f12 f11 f10 f9 f8 f7 f6 f5 f4 f3 f2 f1 f0
theorem q_287_14 {q0 : Nat} {n0 n1 n2 n3 n4 n5 n6 n7 n8 n9 n10 n11 n12 n13 n14 n15 n16 n17 n18 n19 n20 n21 n22 n23 n24 n25 n26 : Int} {H0 H1 H2 : gH} (f0 : n0 ≤ 6) (f1 : (-1) ≤ n0) (f2 : n1 ≤ 2147483647) (f3 : 0 ≤ n1) (f4 : n2 ≤ 7) (f5 : 0 ≤ n2) (f6 : n3 = 285) (f7 : n4 ≤ 7) (f8 : 0 ≤ n4) (f9 : n5 = 285) (f10 : (hLe T0 H0 H1 ∧ hFr s_287.2.2.2.2 H0 H1 ∧ hWt T0 H1) ∧ (Ab_287_31 n5 n4 n3 n2 n1 n0 H0 H1 ∧ preb_287 n5 n4 H0) ∧ some q0 = some (mub_287_31 n5 n4 n3 n2 n1 n0 H0 H1)) (f11 : 0 ≤ n0) (f12 : n6 = 347) (f13 : n6 = hV H1 (n3).toNat 86) (f14 : n7 ≤ 16) (f15 : 0 ≤ n7) (f16 : n7 = hV H1 (n6).toNat (n0).toNat) (f17 : n8 = 296) (f18 : n8 = hV H1 (n3).toNat 22) (f19 : n9 = 346) (f20 : n9 = hV H1 (n3).toNat 85) (f21 : n10 ≤ 62) (f22 : 0 ≤ n10) (f23 : n10 = hV H1 (n9).toNat (n0).toNat) (f24 : n11 ≤ 16) (f25 : 0 ≤ n11) (f26 : n11 = hV H1 (n8).toNat (n10).toNat) (f27 : n7 ≠ n11) (f28 : n12 = 16) (f29 : n13 = 346) (f30 : n13 = hV H1 (n3).toNat 85) (f31 : n14 ≤ 62) (f32 : 0 ≤ n14) (f33 : n14 = hV H1 (n13).toNat (n0).toNat) (f34 : n15 = w32 (n12 * n14)) (f35 : n16 = 347) (f36 : n16 = hV H1 (n3).toNat 86) (f37 : n17 ≤ 16) (f38 : 0 ≤ n17) (f39 : n17 = hV H1 (n16).toNat (n0).toNat) (f40 : n18 = w32 (n15 + n17)) (f41 : n19 = 347) (f42 : n19 = hV H1 (n3).toNat 86) (f43 : n20 ≤ 16) (f44 : 0 ≤ n20) (f45 : n20 = hV H1 (n19).toNat (n0).toNat) (f46 : n21 = 1) (f47 : n22 = w32 (n20 + n21)) (f48 : hUpd H2 H1 n19 n0 n22) (f49 : n23 = 301) (f50 : n23 = hV H2 (n3).toNat 27) (f51 : n24 ≤ 9999) (f52 : (-1) ≤ n24) (f53 : n24 = hV H2 (n23).toNat (n18).toNat) (f54 : n25 = (-1)) (f55 : n24 ≠ n25) (f56 : n26 = 301) (f57 : n26 = hV H2 (n3).toNat 27) : 0 ≤ n18 ∧ n18 < 1008 := by
  have g4 := f10.2.1.1
  unfold Ab_287_31 at g4
  have g3 := f10.2.1.2
  unfold preb_287 at g3
  have e0 : n7 = hV H1 347 (n0).toNat := (by rw [f12] at f16; exact f16 : n7 = hV H1 347 (n0).toNat)
  have e1 : n10 = hV H1 346 (n0).toNat := (by rw [f19] at f23; exact f23 : n10 = hV H1 346 (n0).toNat)
  have e2 : hV H1 296 = hV H0 296 := fRow f10.1.2.1 296 kR_287_296
  have e3 : n11 = hV H0 296 (n10).toNat := (by rw [f17] at f26; exact f26 : n11 = hV H1 296 (n10).toNat).trans ((congrFun e2 _))
  have e4 : n14 = hV H1 346 (n0).toNat := (by rw [f29] at f33; exact f33 : n14 = hV H1 346 (n0).toNat)
  have e5 : n17 = hV H1 347 (n0).toNat := (by rw [f35] at f39; exact f39 : n17 = hV H1 347 (n0).toNat)
  have e6 : n20 = hV H1 347 (n0).toNat := (by rw [f41] at f45; exact f45 : n20 = hV H1 347 (n0).toNat)
  have e8 : hV H1 301 = hV H0 301 := fRow f10.1.2.1 301 kR_287_301
  have e9 : n24 = hV H0 301 (n18).toNat := (by rw [f49] at f53; exact f53 : n24 = hV H2 301 (n18).toNat).trans (((congrFun (uRowNe f48 301 (iS (show n19 = ((347 : Nat) : Int) from f41) rfl)) _)).trans ((congrFun e8 _)))
  have e13 : hV H1 285 65 = hV H0 285 65 := (f10.1.2.1.1 285 65 kF_287_285_65)
  have e14 : hV H1 294 = hV H0 294 := fRow f10.1.2.1 294 kR_287_294
  have e15 : hV H1 298 = hV H0 298 := fRow f10.1.2.1 298 kR_287_298
  have e16 : hV H1 300 = hV H0 300 := fRow f10.1.2.1 300 kR_287_300
  have e17 : hV H1 303 = hV H0 303 := fRow f10.1.2.1 303 kR_287_303
  have e18 : hV H1 341 = hV H0 341 := fRow f10.1.2.1 341 kR_287_341
  have e19 : (0 : Int) ≤ hV H0 285 18 ∧ hV H0 285 18 ≤ 8 := bTo ((f10.1.2.1.1 285 18 kF_287_285_18)) (f10.1.2.2 285 18 _ _ kW_285_18)
  have e20 : (0 : Int) ≤ hV H0 285 65 ∧ hV H0 285 65 ≤ 2147483647 := bTo e13 (f10.1.2.2 285 65 _ _ kW_285_65)
  have k0 := g4.1
  have y0 := g4.2.1
  have y1 := g4.2.2.1
  have y2 := g4.2.2.2.1
  have y3 := g4.2.2.2.2
  have p0 := g3.1
  have p1 := g3.2.1
  have p2 := g3.2.2
  try simp only [e14, e2] at y0
  try simp only [e2, e15, e16, e8, e17, e18] at y1
  try simp only [e13] at y3
  clear g3
  clear g4
  clear f13 f16 f18 f20 f23 f26 f30 f33 f36 f39 f42 f45 f50 f53 f57 e2 e8 e13 e14 e15 e16 e17 e18
  clear f10
  subst e0
  subst e1
  subst e3
  subst e4
  subst e5
  subst e6
  subst e9
  rw [f28] at f34
  try have ca := cue_at (p1 (n4).toNat (by omega)) y0 (by omega) (by omega) (c := (16 * hV H1 346 (n0).toNat + hV H1 347 (n0).toNat)) (by omega)
  try have lv := y0 (n0).toNat (by omega)
  first
  | (have ix0 : n15 = 16 * (hV H1 346 (n0).toNat) := Eq.trans f34 (w32_iv (Iml 16 rfl (Iat f22 f21)) (by decide)); subst ix0; clear f34)
  | (have ix0 : n15 = 16 * (hV H1 346 (n0).toNat) := Eq.trans f34 (w32_id (by omega) (by omega)); subst ix0; clear f34)
  | (unfold w32 at f34; have ix0 : n15 = 16 * (hV H1 346 (n0).toNat) := (by omega); subst ix0)
  | skip
  first
  | (have ix1 : n18 = (16 * (hV H1 346 (n0).toNat)) + hV H1 347 (n0).toNat := Eq.trans f40 (w32_iv (Iad (Iml 16 rfl (Iat f22 f21)) (Iat f15 f14)) (by decide)); subst ix1; clear f40)
  | (have ix1 : n18 = (16 * (hV H1 346 (n0).toNat)) + hV H1 347 (n0).toNat := Eq.trans f40 (w32_id (by omega) (by omega)); subst ix1; clear f40)
  | (unfold w32 at f40; have ix1 : n18 = (16 * (hV H1 346 (n0).toNat)) + hV H1 347 (n0).toNat := (by omega); subst ix1)
  | skip
  first
  | (have ix2 : n22 = hV H1 347 (n0).toNat + 1 := Eq.trans f47 (w32_iv (Iad (Iat f15 f14) (IC 1)) (by decide)); subst ix2; clear f47)
  | (have ix2 : n22 = hV H1 347 (n0).toNat + 1 := Eq.trans f47 (w32_id (by omega) (by omega)); subst ix2; clear f47)
  | (unfold w32 at f47; have ix2 : n22 = hV H1 347 (n0).toNat + 1 := (by omega); subst ix2)
  | skip
  try unfold w32 at f34
  try unfold w32 at f40
  try unfold w32 at f47
  try subst k0
  omega
def g_287_31_12 : vG := ([(20, [26, 2], [2], 27), (0, [26], [], 301), (41, [24, 25], [], 0), (0, [25], [], -1), (22, [24, 23, 18], [2], 0), (90, [24], [], -1), (91, [24], [], 9999), (20, [23, 2], [2], 27), (0, [23], [], 301), (80, [19, 5, 22], [2, 1], 0), (1, [22, 20, 21], [], 0), (0, [21], [], 1), (22, [20, 19, 5], [1], 0), (90, [20], [], 0), (91, [20], [], 16), (20, [19, 2], [1], 86), (0, [19], [], 347), (1, [18, 15, 17], [], 0), (22, [17, 16, 5], [1], 0), (90, [17], [], 0), (91, [17], [], 16), (20, [16, 2], [1], 86), (0, [16], [], 347), (3, [15, 12, 14], [], 0), (22, [14, 13, 5], [1], 0), (90, [14], [], 0), (91, [14], [], 62), (20, [13, 2], [1], 85), (0, [13], [], 346), (0, [12], [], 16), (41, [7, 11], [], 0), (22, [11, 8, 10], [1], 0), (90, [11], [], 0), (91, [11], [], 16), (22, [10, 9, 5], [1], 0), (90, [10], [], 0), (91, [10], [], 62), (20, [9, 2], [1], 85), (0, [9], [], 346), (20, [8, 2], [1], 22), (0, [8], [], 296), (22, [7, 6, 5], [1], 0), (90, [7], [], 0), (91, [7], [], 16), (20, [6, 2], [1], 86), (0, [6], [], 347), (33, [5], [], 0), (5000, [0, 1, 2, 3, 4, 5], [0, 1], 31), (0, [0], [], 285), (90, [1], [], 0), (91, [1], [], 7), (0, [2], [], 285), (90, [3], [], 0), (91, [3], [], 7), (90, [4], [], 0), (91, [4], [], 2147483647), (90, [5], [], -1), (91, [5], [], 6)], (70, [18], [], 1008))
theorem c_287_31_12 {q0 : Nat} : vOkm T0 (eP e_287 L_287 A_287 mu_287 (some q0)) 2 g_287_31_12 := vOk_inI fun ρ η f0 f1 f2 f3 f4 f5 f6 f7 f8 f9 f10 f11 f12 f13 f14 f15 f16 f17 f18 f19 f20 f21 f22 f23 f24 f25 f26 f27 f28 f29 f30 f31 f32 f33 f34 f35 f36 f37 f38 f39 f40 f41 f42 f43 f44 f45 f46 f47 f48 f49 f50 f51 f52 f53 f54 f55 f56 f57 => q_287_14 (q0 := q0) (n0 := ρ 5) (n1 := ρ 4) (n2 := ρ 3) (n3 := ρ 2) (n4 := ρ 1) (n5 := ρ 0) (n6 := ρ 6) (n7 := ρ 7) (n8 := ρ 8) (n9 := ρ 9) (n10 := ρ 10) (n11 := ρ 11) (n12 := ρ 12) (n13 := ρ 13) (n14 := ρ 14) (n15 := ρ 15) (n16 := ρ 16) (n17 := ρ 17) (n18 := ρ 18) (n19 := ρ 19) (n20 := ρ 20) (n21 := ρ 21) (n22 := ρ 22) (n23 := ρ 23) (n24 := ρ 24) (n25 := ρ 25) (n26 := ρ 26) (H0 := η 0) (H1 := η 1) (H2 := η 2) f57 f56 f55 f54 f53 f52 f51 f50 f49 f48 f47 f46 f45 f44 f43 f42 f41 f40 f39 f38 f37 f36 f35 f34 f33 f32 f31 f30 f29 f28 f27 f26 f25 f24 f23 f22 f21 f20 f19 f18 f17 f16 f15 f14 f13 f12 f11 f10 f9 f8 f7 f6 f5 f4 f3 f2 f1 f0
theorem q_287_15 {q0 : Nat} {n0 n1 n2 n3 n4 n5 n6 n7 n8 n9 n10 n11 n12 n13 n14 n15 n16 n17 n18 n19 n20 n21 n22 n23 n24 n25 n26 n27 : Int} {H0 H1 H2 : gH} (f0 : n0 ≤ 6) (f1 : (-1) ≤ n0) (f2 : n1 ≤ 2147483647) (f3 : 0 ≤ n1) (f4 : n2 ≤ 7) (f5 : 0 ≤ n2) (f6 : n3 = 285) (f7 : n4 ≤ 7) (f8 : 0 ≤ n4) (f9 : n5 = 285) (f10 : (hLe T0 H0 H1 ∧ hFr s_287.2.2.2.2 H0 H1 ∧ hWt T0 H1) ∧ (Ab_287_31 n5 n4 n3 n2 n1 n0 H0 H1 ∧ preb_287 n5 n4 H0) ∧ some q0 = some (mub_287_31 n5 n4 n3 n2 n1 n0 H0 H1)) (f11 : 0 ≤ n0) (f12 : n6 = 347) (f13 : n6 = hV H1 (n3).toNat 86) (f14 : n7 ≤ 16) (f15 : 0 ≤ n7) (f16 : n7 = hV H1 (n6).toNat (n0).toNat) (f17 : n8 = 296) (f18 : n8 = hV H1 (n3).toNat 22) (f19 : n9 = 346) (f20 : n9 = hV H1 (n3).toNat 85) (f21 : n10 ≤ 62) (f22 : 0 ≤ n10) (f23 : n10 = hV H1 (n9).toNat (n0).toNat) (f24 : n11 ≤ 16) (f25 : 0 ≤ n11) (f26 : n11 = hV H1 (n8).toNat (n10).toNat) (f27 : n7 ≠ n11) (f28 : n12 = 16) (f29 : n13 = 346) (f30 : n13 = hV H1 (n3).toNat 85) (f31 : n14 ≤ 62) (f32 : 0 ≤ n14) (f33 : n14 = hV H1 (n13).toNat (n0).toNat) (f34 : n15 = w32 (n12 * n14)) (f35 : n16 = 347) (f36 : n16 = hV H1 (n3).toNat 86) (f37 : n17 ≤ 16) (f38 : 0 ≤ n17) (f39 : n17 = hV H1 (n16).toNat (n0).toNat) (f40 : n18 = w32 (n15 + n17)) (f41 : n19 = 347) (f42 : n19 = hV H1 (n3).toNat 86) (f43 : n20 ≤ 16) (f44 : 0 ≤ n20) (f45 : n20 = hV H1 (n19).toNat (n0).toNat) (f46 : n21 = 1) (f47 : n22 = w32 (n20 + n21)) (f48 : hUpd H2 H1 n19 n0 n22) (f49 : n23 = 301) (f50 : n23 = hV H2 (n3).toNat 27) (f51 : n24 ≤ 9999) (f52 : (-1) ≤ n24) (f53 : n24 = hV H2 (n23).toNat (n18).toNat) (f54 : n25 = (-1)) (f55 : n24 ≠ n25) (f56 : n26 = 301) (f57 : n26 = hV H2 (n3).toNat 27) (f58 : n27 ≤ 9999) (f59 : (-1) ≤ n27) (f60 : n27 = hV H2 (n26).toNat (n18).toNat) : 0 ≤ n18 ∧ n18 < 1008 := by
  have g4 := f10.2.1.1
  unfold Ab_287_31 at g4
  have g3 := f10.2.1.2
  unfold preb_287 at g3
  have e0 : n7 = hV H1 347 (n0).toNat := (by rw [f12] at f16; exact f16 : n7 = hV H1 347 (n0).toNat)
  have e1 : n10 = hV H1 346 (n0).toNat := (by rw [f19] at f23; exact f23 : n10 = hV H1 346 (n0).toNat)
  have e2 : hV H1 296 = hV H0 296 := fRow f10.1.2.1 296 kR_287_296
  have e3 : n11 = hV H0 296 (n10).toNat := (by rw [f17] at f26; exact f26 : n11 = hV H1 296 (n10).toNat).trans ((congrFun e2 _))
  have e4 : n14 = hV H1 346 (n0).toNat := (by rw [f29] at f33; exact f33 : n14 = hV H1 346 (n0).toNat)
  have e5 : n17 = hV H1 347 (n0).toNat := (by rw [f35] at f39; exact f39 : n17 = hV H1 347 (n0).toNat)
  have e6 : n20 = hV H1 347 (n0).toNat := (by rw [f41] at f45; exact f45 : n20 = hV H1 347 (n0).toNat)
  have e8 : hV H1 301 = hV H0 301 := fRow f10.1.2.1 301 kR_287_301
  have e9 : n24 = hV H0 301 (n18).toNat := (by rw [f49] at f53; exact f53 : n24 = hV H2 301 (n18).toNat).trans (((congrFun (uRowNe f48 301 (iS (show n19 = ((347 : Nat) : Int) from f41) rfl)) _)).trans ((congrFun e8 _)))
  have e10 : n27 = hV H0 301 (n18).toNat := (by rw [f56] at f60; exact f60 : n27 = hV H2 301 (n18).toNat).trans (((congrFun (uRowNe f48 301 (iS (show n19 = ((347 : Nat) : Int) from f41) rfl)) _)).trans ((congrFun e8 _)))
  have e14 : hV H1 285 65 = hV H0 285 65 := (f10.1.2.1.1 285 65 kF_287_285_65)
  have e15 : hV H1 294 = hV H0 294 := fRow f10.1.2.1 294 kR_287_294
  have e16 : hV H1 298 = hV H0 298 := fRow f10.1.2.1 298 kR_287_298
  have e17 : hV H1 300 = hV H0 300 := fRow f10.1.2.1 300 kR_287_300
  have e18 : hV H1 303 = hV H0 303 := fRow f10.1.2.1 303 kR_287_303
  have e19 : hV H1 341 = hV H0 341 := fRow f10.1.2.1 341 kR_287_341
  have e20 : (0 : Int) ≤ hV H0 285 18 ∧ hV H0 285 18 ≤ 8 := bTo ((f10.1.2.1.1 285 18 kF_287_285_18)) (f10.1.2.2 285 18 _ _ kW_285_18)
  have e21 : (0 : Int) ≤ hV H0 285 65 ∧ hV H0 285 65 ≤ 2147483647 := bTo e14 (f10.1.2.2 285 65 _ _ kW_285_65)
  have k0 := g4.1
  have y0 := g4.2.1
  have y1 := g4.2.2.1
  have y2 := g4.2.2.2.1
  have y3 := g4.2.2.2.2
  have p0 := g3.1
  have p1 := g3.2.1
  have p2 := g3.2.2
  try simp only [e15, e2] at y0
  try simp only [e2, e16, e17, e8, e18, e19] at y1
  try simp only [e14] at y3
  clear g3
  clear g4
  clear f13 f16 f18 f20 f23 f26 f30 f33 f36 f39 f42 f45 f50 f53 f57 f60 e2 e8 e14 e15 e16 e17 e18 e19
  clear f10
  subst e0
  subst e1
  subst e3
  subst e4
  subst e5
  subst e6
  subst e9
  subst e10
  rw [f28] at f34
  try have ca := cue_at (p1 (n4).toNat (by omega)) y0 (by omega) (by omega) (c := (16 * hV H1 346 (n0).toNat + hV H1 347 (n0).toNat)) (by omega)
  try have lv := y0 (n0).toNat (by omega)
  first
  | (have ix0 : n15 = 16 * (hV H1 346 (n0).toNat) := Eq.trans f34 (w32_iv (Iml 16 rfl (Iat f22 f21)) (by decide)); subst ix0; clear f34)
  | (have ix0 : n15 = 16 * (hV H1 346 (n0).toNat) := Eq.trans f34 (w32_id (by omega) (by omega)); subst ix0; clear f34)
  | (unfold w32 at f34; have ix0 : n15 = 16 * (hV H1 346 (n0).toNat) := (by omega); subst ix0)
  | skip
  first
  | (have ix1 : n18 = (16 * (hV H1 346 (n0).toNat)) + hV H1 347 (n0).toNat := Eq.trans f40 (w32_iv (Iad (Iml 16 rfl (Iat f22 f21)) (Iat f15 f14)) (by decide)); subst ix1; clear f40)
  | (have ix1 : n18 = (16 * (hV H1 346 (n0).toNat)) + hV H1 347 (n0).toNat := Eq.trans f40 (w32_id (by omega) (by omega)); subst ix1; clear f40)
  | (unfold w32 at f40; have ix1 : n18 = (16 * (hV H1 346 (n0).toNat)) + hV H1 347 (n0).toNat := (by omega); subst ix1)
  | skip
  first
  | (have ix2 : n22 = hV H1 347 (n0).toNat + 1 := Eq.trans f47 (w32_iv (Iad (Iat f15 f14) (IC 1)) (by decide)); subst ix2; clear f47)
  | (have ix2 : n22 = hV H1 347 (n0).toNat + 1 := Eq.trans f47 (w32_id (by omega) (by omega)); subst ix2; clear f47)
  | (unfold w32 at f47; have ix2 : n22 = hV H1 347 (n0).toNat + 1 := (by omega); subst ix2)
  | skip
  try unfold w32 at f34
  try unfold w32 at f40
  try unfold w32 at f47
  try subst k0
  omega
def g_287_31_13 : vG := ([(22, [27, 26, 18], [2], 0), (90, [27], [], -1), (91, [27], [], 9999), (20, [26, 2], [2], 27), (0, [26], [], 301), (41, [24, 25], [], 0), (0, [25], [], -1), (22, [24, 23, 18], [2], 0), (90, [24], [], -1), (91, [24], [], 9999), (20, [23, 2], [2], 27), (0, [23], [], 301), (80, [19, 5, 22], [2, 1], 0), (1, [22, 20, 21], [], 0), (0, [21], [], 1), (22, [20, 19, 5], [1], 0), (90, [20], [], 0), (91, [20], [], 16), (20, [19, 2], [1], 86), (0, [19], [], 347), (1, [18, 15, 17], [], 0), (22, [17, 16, 5], [1], 0), (90, [17], [], 0), (91, [17], [], 16), (20, [16, 2], [1], 86), (0, [16], [], 347), (3, [15, 12, 14], [], 0), (22, [14, 13, 5], [1], 0), (90, [14], [], 0), (91, [14], [], 62), (20, [13, 2], [1], 85), (0, [13], [], 346), (0, [12], [], 16), (41, [7, 11], [], 0), (22, [11, 8, 10], [1], 0), (90, [11], [], 0), (91, [11], [], 16), (22, [10, 9, 5], [1], 0), (90, [10], [], 0), (91, [10], [], 62), (20, [9, 2], [1], 85), (0, [9], [], 346), (20, [8, 2], [1], 22), (0, [8], [], 296), (22, [7, 6, 5], [1], 0), (90, [7], [], 0), (91, [7], [], 16), (20, [6, 2], [1], 86), (0, [6], [], 347), (33, [5], [], 0), (5000, [0, 1, 2, 3, 4, 5], [0, 1], 31), (0, [0], [], 285), (90, [1], [], 0), (91, [1], [], 7), (0, [2], [], 285), (90, [3], [], 0), (91, [3], [], 7), (90, [4], [], 0), (91, [4], [], 2147483647), (90, [5], [], -1), (91, [5], [], 6)], (70, [18], [], 1008))
theorem c_287_31_13 {q0 : Nat} : vOkm T0 (eP e_287 L_287 A_287 mu_287 (some q0)) 2 g_287_31_13 := vOk_inI fun ρ η f0 f1 f2 f3 f4 f5 f6 f7 f8 f9 f10 f11 f12 f13 f14 f15 f16 f17 f18 f19 f20 f21 f22 f23 f24 f25 f26 f27 f28 f29 f30 f31 f32 f33 f34 f35 f36 f37 f38 f39 f40 f41 f42 f43 f44 f45 f46 f47 f48 f49 f50 f51 f52 f53 f54 f55 f56 f57 f58 f59 f60 => q_287_15 (q0 := q0) (n0 := ρ 5) (n1 := ρ 4) (n2 := ρ 3) (n3 := ρ 2) (n4 := ρ 1) (n5 := ρ 0) (n6 := ρ 6) (n7 := ρ 7) (n8 := ρ 8) (n9 := ρ 9) (n10 := ρ 10) (n11 := ρ 11) (n12 := ρ 12) (n13 := ρ 13) (n14 := ρ 14) (n15 := ρ 15) (n16 := ρ 16) (n17 := ρ 17) (n18 := ρ 18) (n19 := ρ 19) (n20 := ρ 20) (n21 := ρ 21) (n22 := ρ 22) (n23 := ρ 23) (n24 := ρ 24) (n25 := ρ 25) (n26 := ρ 26) (n27 := ρ 27) (H0 := η 0) (H1 := η 1) (H2 := η 2) f60 f59 f58 f57 f56 f55 f54 f53 f52 f51 f50 f49 f48 f47 f46 f45 f44 f43 f42 f41 f40 f39 f38 f37 f36 f35 f34 f33 f32 f31 f30 f29 f28 f27 f26 f25 f24 f23 f22 f21 f20 f19 f18 f17 f16 f15 f14 f13 f12 f11 f10 f9 f8 f7 f6 f5 f4 f3 f2 f1 f0
def g_287_31_14 : vG := ([(1, [18, 15, 17], [], 0), (90, [17], [], 0), (91, [17], [], 16), (3, [15, 12, 14], [], 0), (90, [14], [], 0), (91, [14], [], 62), (0, [12], [], 16)], (90, [18], [], 0))
theorem c_287_31_14 {q0 : Nat} : vOkm T0 (eP e_287 L_287 A_287 mu_287 (some q0)) 2 g_287_31_14 := vOk_inI fun ρ η f0 f1 f2 f3 f4 f5 f6 => q_287_8 (q0 := q0) (n0 := ρ 12) (n1 := ρ 14) (n2 := ρ 15) (n3 := ρ 17) (n4 := ρ 18) (H0 := η 0) f6 f5 f4 f3 f2 f1 f0
theorem q_287_16 {q0 : Nat} {n0 n1 n2 n3 n4 n5 n6 n7 n8 n9 n10 n11 n12 n13 n14 n15 n16 n17 n18 n19 n20 n21 n22 n23 n24 n25 n26 n27 n28 n29 n30 n31 n32 : Int} {H0 H1 H2 : gH} (f0 : n0 ≤ 6) (f1 : (-1) ≤ n0) (f2 : n1 ≤ 2147483647) (f3 : 0 ≤ n1) (f4 : n2 ≤ 7) (f5 : 0 ≤ n2) (f6 : n3 = 285) (f7 : n4 ≤ 7) (f8 : 0 ≤ n4) (f9 : n5 = 285) (f10 : (hLe T0 H0 H1 ∧ hFr s_287.2.2.2.2 H0 H1 ∧ hWt T0 H1) ∧ (Ab_287_31 n5 n4 n3 n2 n1 n0 H0 H1 ∧ preb_287 n5 n4 H0) ∧ some q0 = some (mub_287_31 n5 n4 n3 n2 n1 n0 H0 H1)) (f11 : 0 ≤ n0) (f12 : n6 = 347) (f13 : n6 = hV H1 (n3).toNat 86) (f14 : n7 ≤ 16) (f15 : 0 ≤ n7) (f16 : n7 = hV H1 (n6).toNat (n0).toNat) (f17 : n8 = 296) (f18 : n8 = hV H1 (n3).toNat 22) (f19 : n9 = 346) (f20 : n9 = hV H1 (n3).toNat 85) (f21 : n10 ≤ 62) (f22 : 0 ≤ n10) (f23 : n10 = hV H1 (n9).toNat (n0).toNat) (f24 : n11 ≤ 16) (f25 : 0 ≤ n11) (f26 : n11 = hV H1 (n8).toNat (n10).toNat) (f27 : n7 ≠ n11) (f28 : n12 = 16) (f29 : n13 = 346) (f30 : n13 = hV H1 (n3).toNat 85) (f31 : n14 ≤ 62) (f32 : 0 ≤ n14) (f33 : n14 = hV H1 (n13).toNat (n0).toNat) (f34 : n15 = w32 (n12 * n14)) (f35 : n16 = 347) (f36 : n16 = hV H1 (n3).toNat 86) (f37 : n17 ≤ 16) (f38 : 0 ≤ n17) (f39 : n17 = hV H1 (n16).toNat (n0).toNat) (f40 : n18 = w32 (n15 + n17)) (f41 : n19 = 347) (f42 : n19 = hV H1 (n3).toNat 86) (f43 : n20 ≤ 16) (f44 : 0 ≤ n20) (f45 : n20 = hV H1 (n19).toNat (n0).toNat) (f46 : n21 = 1) (f47 : n22 = w32 (n20 + n21)) (f48 : hUpd H2 H1 n19 n0 n22) (f49 : n23 = 301) (f50 : n23 = hV H2 (n3).toNat 27) (f51 : n24 ≤ 9999) (f52 : (-1) ≤ n24) (f53 : n24 = hV H2 (n23).toNat (n18).toNat) (f54 : n25 = (-1)) (f55 : n24 ≠ n25) (f56 : n26 = 301) (f57 : n26 = hV H2 (n3).toNat 27) (f58 : n27 ≤ 9999) (f59 : (-1) ≤ n27) (f60 : n27 = hV H2 (n26).toNat (n18).toNat) (f61 : n28 = 303) (f62 : n28 = hV H2 (n3).toNat 29) (f63 : n29 ≤ 9999) (f64 : (-1) ≤ n29) (f65 : n29 = hV H2 (n28).toNat (n18).toNat) (f66 : n30 = (-1)) (f67 : n29 = n30) (f68 : n31 = 353) (f69 : n31 = hV H2 (n3).toNat 95) (f70 : n32 ≤ 7) (f71 : (-1) ≤ n32) (f72 : n32 = hV H2 (n31).toNat (n0).toNat) : n18 ≤ 1007 := by
  have g4 := f10.2.1.1
  unfold Ab_287_31 at g4
  have g3 := f10.2.1.2
  unfold preb_287 at g3
  have e0 : n7 = hV H1 347 (n0).toNat := (by rw [f12] at f16; exact f16 : n7 = hV H1 347 (n0).toNat)
  have e1 : n10 = hV H1 346 (n0).toNat := (by rw [f19] at f23; exact f23 : n10 = hV H1 346 (n0).toNat)
  have e2 : hV H1 296 = hV H0 296 := fRow f10.1.2.1 296 kR_287_296
  have e3 : n11 = hV H0 296 (n10).toNat := (by rw [f17] at f26; exact f26 : n11 = hV H1 296 (n10).toNat).trans ((congrFun e2 _))
  have e4 : n14 = hV H1 346 (n0).toNat := (by rw [f29] at f33; exact f33 : n14 = hV H1 346 (n0).toNat)
  have e5 : n17 = hV H1 347 (n0).toNat := (by rw [f35] at f39; exact f39 : n17 = hV H1 347 (n0).toNat)
  have e6 : n20 = hV H1 347 (n0).toNat := (by rw [f41] at f45; exact f45 : n20 = hV H1 347 (n0).toNat)
  have e8 : hV H1 301 = hV H0 301 := fRow f10.1.2.1 301 kR_287_301
  have e9 : n24 = hV H0 301 (n18).toNat := (by rw [f49] at f53; exact f53 : n24 = hV H2 301 (n18).toNat).trans (((congrFun (uRowNe f48 301 (iS (show n19 = ((347 : Nat) : Int) from f41) rfl)) _)).trans ((congrFun e8 _)))
  have e10 : n27 = hV H0 301 (n18).toNat := (by rw [f56] at f60; exact f60 : n27 = hV H2 301 (n18).toNat).trans (((congrFun (uRowNe f48 301 (iS (show n19 = ((347 : Nat) : Int) from f41) rfl)) _)).trans ((congrFun e8 _)))
  have e12 : hV H1 303 = hV H0 303 := fRow f10.1.2.1 303 kR_287_303
  have e13 : n29 = hV H0 303 (n18).toNat := (by rw [f61] at f65; exact f65 : n29 = hV H2 303 (n18).toNat).trans (((congrFun (uRowNe f48 303 (iS (show n19 = ((347 : Nat) : Int) from f41) rfl)) _)).trans ((congrFun e12 _)))
  have e15 : n32 = hV H1 353 (n0).toNat := (by rw [f68] at f72; exact f72 : n32 = hV H2 353 (n0).toNat).trans ((congrFun (uRowNe f48 353 (iS (show n19 = ((347 : Nat) : Int) from f41) rfl)) _))
  have e19 : hV H1 285 65 = hV H0 285 65 := (f10.1.2.1.1 285 65 kF_287_285_65)
  have e20 : hV H1 294 = hV H0 294 := fRow f10.1.2.1 294 kR_287_294
  have e21 : hV H1 298 = hV H0 298 := fRow f10.1.2.1 298 kR_287_298
  have e22 : hV H1 300 = hV H0 300 := fRow f10.1.2.1 300 kR_287_300
  have e23 : hV H1 341 = hV H0 341 := fRow f10.1.2.1 341 kR_287_341
  have e24 : (0 : Int) ≤ hV H0 285 18 ∧ hV H0 285 18 ≤ 8 := bTo ((f10.1.2.1.1 285 18 kF_287_285_18)) (f10.1.2.2 285 18 _ _ kW_285_18)
  have e25 : (0 : Int) ≤ hV H0 285 65 ∧ hV H0 285 65 ≤ 2147483647 := bTo e19 (f10.1.2.2 285 65 _ _ kW_285_65)
  have k0 := g4.1
  have y0 := g4.2.1
  have y1 := g4.2.2.1
  have y2 := g4.2.2.2.1
  have y3 := g4.2.2.2.2
  have p0 := g3.1
  have p1 := g3.2.1
  have p2 := g3.2.2
  try simp only [e20, e2] at y0
  try simp only [e2, e21, e22, e8, e12, e23] at y1
  try simp only [e19] at y3
  clear g3
  clear g4
  clear f13 f16 f18 f20 f23 f26 f30 f33 f36 f39 f42 f45 f50 f53 f57 f60 f62 f65 f69 f72 e2 e8 e12 e19 e20 e21 e22 e23
  clear f10
  subst e0
  subst e1
  subst e3
  subst e4
  subst e5
  subst e6
  subst e9
  subst e10
  subst e13
  subst e15
  rw [f28] at f34
  try have ca := cue_at (p1 (n4).toNat (by omega)) y0 (by omega) (by omega) (c := (16 * hV H1 346 (n0).toNat + hV H1 347 (n0).toNat)) (by omega)
  try have lv := y0 (n0).toNat (by omega)
  first
  | (have ix0 : n15 = 16 * (hV H1 346 (n0).toNat) := Eq.trans f34 (w32_iv (Iml 16 rfl (Iat f22 f21)) (by decide)); subst ix0; clear f34)
  | (have ix0 : n15 = 16 * (hV H1 346 (n0).toNat) := Eq.trans f34 (w32_id (by omega) (by omega)); subst ix0; clear f34)
  | (unfold w32 at f34; have ix0 : n15 = 16 * (hV H1 346 (n0).toNat) := (by omega); subst ix0)
  | skip
  first
  | (have ix1 : n18 = (16 * (hV H1 346 (n0).toNat)) + hV H1 347 (n0).toNat := Eq.trans f40 (w32_iv (Iad (Iml 16 rfl (Iat f22 f21)) (Iat f15 f14)) (by decide)); subst ix1; clear f40)
  | (have ix1 : n18 = (16 * (hV H1 346 (n0).toNat)) + hV H1 347 (n0).toNat := Eq.trans f40 (w32_id (by omega) (by omega)); subst ix1; clear f40)
  | (unfold w32 at f40; have ix1 : n18 = (16 * (hV H1 346 (n0).toNat)) + hV H1 347 (n0).toNat := (by omega); subst ix1)
  | skip
  first
  | (have ix2 : n22 = hV H1 347 (n0).toNat + 1 := Eq.trans f47 (w32_iv (Iad (Iat f15 f14) (IC 1)) (by decide)); subst ix2; clear f47)
  | (have ix2 : n22 = hV H1 347 (n0).toNat + 1 := Eq.trans f47 (w32_id (by omega) (by omega)); subst ix2; clear f47)
  | (unfold w32 at f47; have ix2 : n22 = hV H1 347 (n0).toNat + 1 := (by omega); subst ix2)
  | skip
  try unfold w32 at f34
  try unfold w32 at f40
  try unfold w32 at f47
  try subst k0
  omega
def g_287_31_15 : vG := ([(22, [32, 31, 5], [2], 0), (90, [32], [], -1), (91, [32], [], 7), (20, [31, 2], [2], 95), (0, [31], [], 353), (40, [29, 30], [], 0), (0, [30], [], -1), (22, [29, 28, 18], [2], 0), (90, [29], [], -1), (91, [29], [], 9999), (20, [28, 2], [2], 29), (0, [28], [], 303), (22, [27, 26, 18], [2], 0), (90, [27], [], -1), (91, [27], [], 9999), (20, [26, 2], [2], 27), (0, [26], [], 301), (41, [24, 25], [], 0), (0, [25], [], -1), (22, [24, 23, 18], [2], 0), (90, [24], [], -1), (91, [24], [], 9999), (20, [23, 2], [2], 27), (0, [23], [], 301), (80, [19, 5, 22], [2, 1], 0), (1, [22, 20, 21], [], 0), (0, [21], [], 1), (22, [20, 19, 5], [1], 0), (90, [20], [], 0), (91, [20], [], 16), (20, [19, 2], [1], 86), (0, [19], [], 347), (1, [18, 15, 17], [], 0), (22, [17, 16, 5], [1], 0), (90, [17], [], 0), (91, [17], [], 16), (20, [16, 2], [1], 86), (0, [16], [], 347), (3, [15, 12, 14], [], 0), (22, [14, 13, 5], [1], 0), (90, [14], [], 0), (91, [14], [], 62), (20, [13, 2], [1], 85), (0, [13], [], 346), (0, [12], [], 16), (41, [7, 11], [], 0), (22, [11, 8, 10], [1], 0), (90, [11], [], 0), (91, [11], [], 16), (22, [10, 9, 5], [1], 0), (90, [10], [], 0), (91, [10], [], 62), (20, [9, 2], [1], 85), (0, [9], [], 346), (20, [8, 2], [1], 22), (0, [8], [], 296), (22, [7, 6, 5], [1], 0), (90, [7], [], 0), (91, [7], [], 16), (20, [6, 2], [1], 86), (0, [6], [], 347), (33, [5], [], 0), (5000, [0, 1, 2, 3, 4, 5], [0, 1], 31), (0, [0], [], 285), (90, [1], [], 0), (91, [1], [], 7), (0, [2], [], 285), (90, [3], [], 0), (91, [3], [], 7), (90, [4], [], 0), (91, [4], [], 2147483647), (90, [5], [], -1), (91, [5], [], 6)], (91, [18], [], 1007))
theorem c_287_31_15 {q0 : Nat} : vOkm T0 (eP e_287 L_287 A_287 mu_287 (some q0)) 2 g_287_31_15 := vOk_inI fun ρ η f0 f1 f2 f3 f4 f5 f6 f7 f8 f9 f10 f11 f12 f13 f14 f15 f16 f17 f18 f19 f20 f21 f22 f23 f24 f25 f26 f27 f28 f29 f30 f31 f32 f33 f34 f35 f36 f37 f38 f39 f40 f41 f42 f43 f44 f45 f46 f47 f48 f49 f50 f51 f52 f53 f54 f55 f56 f57 f58 f59 f60 f61 f62 f63 f64 f65 f66 f67 f68 f69 f70 f71 f72 => q_287_16 (q0 := q0) (n0 := ρ 5) (n1 := ρ 4) (n2 := ρ 3) (n3 := ρ 2) (n4 := ρ 1) (n5 := ρ 0) (n6 := ρ 6) (n7 := ρ 7) (n8 := ρ 8) (n9 := ρ 9) (n10 := ρ 10) (n11 := ρ 11) (n12 := ρ 12) (n13 := ρ 13) (n14 := ρ 14) (n15 := ρ 15) (n16 := ρ 16) (n17 := ρ 17) (n18 := ρ 18) (n19 := ρ 19) (n20 := ρ 20) (n21 := ρ 21) (n22 := ρ 22) (n23 := ρ 23) (n24 := ρ 24) (n25 := ρ 25) (n26 := ρ 26) (n27 := ρ 27) (n28 := ρ 28) (n29 := ρ 29) (n30 := ρ 30) (n31 := ρ 31) (n32 := ρ 32) (H0 := η 0) (H1 := η 1) (H2 := η 2) f72 f71 f70 f69 f68 f67 f66 f65 f64 f63 f62 f61 f60 f59 f58 f57 f56 f55 f54 f53 f52 f51 f50 f49 f48 f47 f46 f45 f44 f43 f42 f41 f40 f39 f38 f37 f36 f35 f34 f33 f32 f31 f30 f29 f28 f27 f26 f25 f24 f23 f22 f21 f20 f19 f18 f17 f16 f15 f14 f13 f12 f11 f10 f9 f8 f7 f6 f5 f4 f3 f2 f1 f0
theorem q_287_17 {q0 : Nat} {n0 n1 n2 n3 n4 n5 n6 n7 n8 n9 n10 n11 n12 n13 n14 n15 n16 n17 n18 n19 n20 n21 n22 n23 n24 n25 n26 n27 n28 n29 n30 n31 n32 : Int} {H0 H1 H2 : gH} (f0 : n0 ≤ 6) (f1 : (-1) ≤ n0) (f2 : n1 ≤ 2147483647) (f3 : 0 ≤ n1) (f4 : n2 ≤ 7) (f5 : 0 ≤ n2) (f6 : n3 = 285) (f7 : n4 ≤ 7) (f8 : 0 ≤ n4) (f9 : n5 = 285) (f10 : (hLe T0 H0 H1 ∧ hFr s_287.2.2.2.2 H0 H1 ∧ hWt T0 H1) ∧ (Ab_287_31 n5 n4 n3 n2 n1 n0 H0 H1 ∧ preb_287 n5 n4 H0) ∧ some q0 = some (mub_287_31 n5 n4 n3 n2 n1 n0 H0 H1)) (f11 : 0 ≤ n0) (f12 : n6 = 347) (f13 : n6 = hV H1 (n3).toNat 86) (f14 : n7 ≤ 16) (f15 : 0 ≤ n7) (f16 : n7 = hV H1 (n6).toNat (n0).toNat) (f17 : n8 = 296) (f18 : n8 = hV H1 (n3).toNat 22) (f19 : n9 = 346) (f20 : n9 = hV H1 (n3).toNat 85) (f21 : n10 ≤ 62) (f22 : 0 ≤ n10) (f23 : n10 = hV H1 (n9).toNat (n0).toNat) (f24 : n11 ≤ 16) (f25 : 0 ≤ n11) (f26 : n11 = hV H1 (n8).toNat (n10).toNat) (f27 : n7 ≠ n11) (f28 : n12 = 16) (f29 : n13 = 346) (f30 : n13 = hV H1 (n3).toNat 85) (f31 : n14 ≤ 62) (f32 : 0 ≤ n14) (f33 : n14 = hV H1 (n13).toNat (n0).toNat) (f34 : n15 = w32 (n12 * n14)) (f35 : n16 = 347) (f36 : n16 = hV H1 (n3).toNat 86) (f37 : n17 ≤ 16) (f38 : 0 ≤ n17) (f39 : n17 = hV H1 (n16).toNat (n0).toNat) (f40 : n18 = w32 (n15 + n17)) (f41 : n19 = 347) (f42 : n19 = hV H1 (n3).toNat 86) (f43 : n20 ≤ 16) (f44 : 0 ≤ n20) (f45 : n20 = hV H1 (n19).toNat (n0).toNat) (f46 : n21 = 1) (f47 : n22 = w32 (n20 + n21)) (f48 : hUpd H2 H1 n19 n0 n22) (f49 : n23 = 301) (f50 : n23 = hV H2 (n3).toNat 27) (f51 : n24 ≤ 9999) (f52 : (-1) ≤ n24) (f53 : n24 = hV H2 (n23).toNat (n18).toNat) (f54 : n25 = (-1)) (f55 : n24 ≠ n25) (f56 : n26 = 301) (f57 : n26 = hV H2 (n3).toNat 27) (f58 : n27 ≤ 9999) (f59 : (-1) ≤ n27) (f60 : n27 = hV H2 (n26).toNat (n18).toNat) (f61 : n28 = 303) (f62 : n28 = hV H2 (n3).toNat 29) (f63 : n29 ≤ 9999) (f64 : (-1) ≤ n29) (f65 : n29 = hV H2 (n28).toNat (n18).toNat) (f66 : n30 = (-1)) (f67 : n29 = n30) (f68 : n31 = 353) (f69 : n31 = hV H2 (n3).toNat 95) (f70 : n32 ≤ 7) (f71 : (-1) ≤ n32) (f72 : n32 = hV H2 (n31).toNat (n0).toNat) : Ab_287_147 n5 n4 n3 n2 n1 n0 n18 n27 n32 H0 H2 ∧ ∀ q, some q0 = some q → mub_287_147 n5 n4 n3 n2 n1 n0 n18 n27 n32 H0 H2 < q := by
  have g4 := f10.2.1.1
  unfold Ab_287_31 at g4
  have g3 := f10.2.1.2
  unfold preb_287 at g3
  have g5 := Option.some.inj f10.2.2
  unfold mub_287_31 at g5
  unfold Ab_287_147
  unfold mub_287_147
  have e0 : n7 = hV H1 347 (n0).toNat := (by rw [f12] at f16; exact f16 : n7 = hV H1 347 (n0).toNat)
  have e1 : n10 = hV H1 346 (n0).toNat := (by rw [f19] at f23; exact f23 : n10 = hV H1 346 (n0).toNat)
  have e2 : hV H1 296 = hV H0 296 := fRow f10.1.2.1 296 kR_287_296
  have e3 : n11 = hV H0 296 (n10).toNat := (by rw [f17] at f26; exact f26 : n11 = hV H1 296 (n10).toNat).trans ((congrFun e2 _))
  have e4 : n14 = hV H1 346 (n0).toNat := (by rw [f29] at f33; exact f33 : n14 = hV H1 346 (n0).toNat)
  have e5 : n17 = hV H1 347 (n0).toNat := (by rw [f35] at f39; exact f39 : n17 = hV H1 347 (n0).toNat)
  have e6 : n20 = hV H1 347 (n0).toNat := (by rw [f41] at f45; exact f45 : n20 = hV H1 347 (n0).toNat)
  have e8 : hV H1 301 = hV H0 301 := fRow f10.1.2.1 301 kR_287_301
  have e9 : n24 = hV H0 301 (n18).toNat := (by rw [f49] at f53; exact f53 : n24 = hV H2 301 (n18).toNat).trans (((congrFun (uRowNe f48 301 (iS (show n19 = ((347 : Nat) : Int) from f41) rfl)) _)).trans ((congrFun e8 _)))
  have e10 : n27 = hV H0 301 (n18).toNat := (by rw [f56] at f60; exact f60 : n27 = hV H2 301 (n18).toNat).trans (((congrFun (uRowNe f48 301 (iS (show n19 = ((347 : Nat) : Int) from f41) rfl)) _)).trans ((congrFun e8 _)))
  have e12 : hV H1 303 = hV H0 303 := fRow f10.1.2.1 303 kR_287_303
  have e13 : n29 = hV H0 303 (n18).toNat := (by rw [f61] at f65; exact f65 : n29 = hV H2 303 (n18).toNat).trans (((congrFun (uRowNe f48 303 (iS (show n19 = ((347 : Nat) : Int) from f41) rfl)) _)).trans ((congrFun e12 _)))
  have e14 : hV H2 353 = hV H1 353 := uRowNe f48 353 (iS (show n19 = ((347 : Nat) : Int) from f41) rfl)
  have e15 : n32 = hV H1 353 (n0).toNat := (by rw [f68] at f72; exact f72 : n32 = hV H2 353 (n0).toNat).trans ((congrFun e14 _))
  have e19 : hV H1 285 65 = hV H0 285 65 := (f10.1.2.1.1 285 65 kF_287_285_65)
  have e20 : hV H1 294 = hV H0 294 := fRow f10.1.2.1 294 kR_287_294
  have e21 : hV H1 298 = hV H0 298 := fRow f10.1.2.1 298 kR_287_298
  have e22 : hV H1 300 = hV H0 300 := fRow f10.1.2.1 300 kR_287_300
  have e23 : hV H1 341 = hV H0 341 := fRow f10.1.2.1 341 kR_287_341
  have e25 : hV H2 285 65 = hV H0 285 65 := ((uPlace f48 285 65 (iS (show n19 = ((347 : Nat) : Int) from f41) rfl))).trans (f10.1.2.1.1 285 65 kF_287_285_65)
  have e27 : hV H2 294 = hV H0 294 := (uRowNe f48 294 (iS (show n19 = ((347 : Nat) : Int) from f41) rfl)).trans e20
  have e29 : hV H2 296 = hV H0 296 := (uRowNe f48 296 (iS (show n19 = ((347 : Nat) : Int) from f41) rfl)).trans e2
  have e31 : hV H2 298 = hV H0 298 := (uRowNe f48 298 (iS (show n19 = ((347 : Nat) : Int) from f41) rfl)).trans e21
  have e33 : hV H2 300 = hV H0 300 := (uRowNe f48 300 (iS (show n19 = ((347 : Nat) : Int) from f41) rfl)).trans e22
  have e34 : hV H2 301 = hV H0 301 := (uRowNe f48 301 (iS (show n19 = ((347 : Nat) : Int) from f41) rfl)).trans e8
  have e35 : hV H2 303 = hV H0 303 := (uRowNe f48 303 (iS (show n19 = ((347 : Nat) : Int) from f41) rfl)).trans e12
  have e37 : hV H2 341 = hV H0 341 := (uRowNe f48 341 (iS (show n19 = ((347 : Nat) : Int) from f41) rfl)).trans e23
  have e38 : hV H2 346 = hV H1 346 := uRowNe f48 346 (iS (show n19 = ((347 : Nat) : Int) from f41) rfl)
  have e39 : hV H2 347 = uF (hV H1 347) n0 n22 := uRow f48 347 f41.symm
  have e40 : (0 : Int) ≤ hV H0 285 18 ∧ hV H0 285 18 ≤ 8 := bTo ((f10.1.2.1.1 285 18 kF_287_285_18)) (f10.1.2.2 285 18 _ _ kW_285_18)
  have e41 : (0 : Int) ≤ hV H0 285 65 ∧ hV H0 285 65 ≤ 2147483647 := bTo e19 (f10.1.2.2 285 65 _ _ kW_285_65)
  try simp only [e2] at g5
  try simp only [e25, e27, e29, e31, e33, e34, e35, e37, e38, e39, e14]
  have k0 := g4.1
  have y0 := g4.2.1
  have y1 := g4.2.2.1
  have y2 := g4.2.2.2.1
  have y3 := g4.2.2.2.2
  have p0 := g3.1
  have p1 := g3.2.1
  have p2 := g3.2.2
  try simp only [e20, e2] at y0
  try simp only [e2, e21, e22, e8, e12, e23] at y1
  try simp only [e19] at y3
  clear g3
  clear g4
  clear f13 f16 f18 f20 f23 f26 f30 f33 f36 f39 f42 f45 f50 f53 f57 f60 f62 f65 f69 f72 e2 e8 e12 e14 e19 e20 e21 e22 e23 e25 e27 e29 e31 e33 e34 e35 e37 e38
  clear f10
  subst e0
  subst e1
  subst e3
  subst e4
  subst e5
  subst e6
  subst e9
  subst e10
  subst e13
  subst e15
  rw [f28] at f34
  try have ca := cue_at (p1 (n4).toNat (by omega)) y0 (by omega) (by omega) (c := (16 * hV H1 346 (n0).toNat + hV H1 347 (n0).toNat)) (by omega)
  try have lv := y0 (n0).toNat (by omega)
  first
  | (have ix0 : n15 = 16 * (hV H1 346 (n0).toNat) := Eq.trans f34 (w32_iv (Iml 16 rfl (Iat f22 f21)) (by decide)); subst ix0; clear f34)
  | (have ix0 : n15 = 16 * (hV H1 346 (n0).toNat) := Eq.trans f34 (w32_id (by omega) (by omega)); subst ix0; clear f34)
  | (unfold w32 at f34; have ix0 : n15 = 16 * (hV H1 346 (n0).toNat) := (by omega); subst ix0)
  | skip
  first
  | (have ix1 : n18 = (16 * (hV H1 346 (n0).toNat)) + hV H1 347 (n0).toNat := Eq.trans f40 (w32_iv (Iad (Iml 16 rfl (Iat f22 f21)) (Iat f15 f14)) (by decide)); subst ix1; clear f40)
  | (have ix1 : n18 = (16 * (hV H1 346 (n0).toNat)) + hV H1 347 (n0).toNat := Eq.trans f40 (w32_id (by omega) (by omega)); subst ix1; clear f40)
  | (unfold w32 at f40; have ix1 : n18 = (16 * (hV H1 346 (n0).toNat)) + hV H1 347 (n0).toNat := (by omega); subst ix1)
  | skip
  first
  | (have ix2 : n22 = hV H1 347 (n0).toNat + 1 := Eq.trans f47 (w32_iv (Iad (Iat f15 f14) (IC 1)) (by decide)); subst ix2; clear f47)
  | (have ix2 : n22 = hV H1 347 (n0).toNat + 1 := Eq.trans f47 (w32_id (by omega) (by omega)); subst ix2; clear f47)
  | (unfold w32 at f47; have ix2 : n22 = hV H1 347 (n0).toNat + 1 := (by omega); subst ix2)
  | skip
  try unfold w32 at f34
  try unfold w32 at f40
  try unfold w32 at f47

  have ca := cue_at (p1 (n4).toNat (by omega)) y0 (by omega) (by omega) (c := (16 * hV H1 346 (n0).toNat + hV H1 347 (n0).toNat)) rfl
  have mt := MS_take (i := n0) y0 (by omega) (by omega) rfl rfl
  refine ⟨⟨?_, ?_, ?_, ?_, ?_, ?_, ?_, ?_, ?_⟩, fun q hq => ?_⟩
  · first | omega | trivial
  · exact LVp_next y0 (by omega) (by omega) (by omega) (by have z := y0 (n0).toNat (by omega); omega)
  · exact UM_of (p1 (n4).toNat (by omega)) y0 (by omega) (by omega) (by omega) (by intro h5; omega)
  · omega
  · omega
  · omega
  · exact ML_head y1 (p1 (n4).toNat (by omega)) y0 (by omega) (by omega) (by omega) (by omega) (by omega) (by unfold ow; first | (rw [if_pos (by omega)]) | (rw [if_neg (by omega)])) (by unfold ow; first | (rw [if_pos (by omega)]) | (rw [if_neg (by omega)]))
  · intro h5; omega
  · intro h5; omega
  · have g6 := Option.some.inj hq
    subst g6
    rw [g5]
    omega
def g_287_31_16 : vG := ([(22, [32, 31, 5], [2], 0), (90, [32], [], -1), (91, [32], [], 7), (20, [31, 2], [2], 95), (0, [31], [], 353), (40, [29, 30], [], 0), (0, [30], [], -1), (22, [29, 28, 18], [2], 0), (90, [29], [], -1), (91, [29], [], 9999), (20, [28, 2], [2], 29), (0, [28], [], 303), (22, [27, 26, 18], [2], 0), (90, [27], [], -1), (91, [27], [], 9999), (20, [26, 2], [2], 27), (0, [26], [], 301), (41, [24, 25], [], 0), (0, [25], [], -1), (22, [24, 23, 18], [2], 0), (90, [24], [], -1), (91, [24], [], 9999), (20, [23, 2], [2], 27), (0, [23], [], 301), (80, [19, 5, 22], [2, 1], 0), (1, [22, 20, 21], [], 0), (0, [21], [], 1), (22, [20, 19, 5], [1], 0), (90, [20], [], 0), (91, [20], [], 16), (20, [19, 2], [1], 86), (0, [19], [], 347), (1, [18, 15, 17], [], 0), (22, [17, 16, 5], [1], 0), (90, [17], [], 0), (91, [17], [], 16), (20, [16, 2], [1], 86), (0, [16], [], 347), (3, [15, 12, 14], [], 0), (22, [14, 13, 5], [1], 0), (90, [14], [], 0), (91, [14], [], 62), (20, [13, 2], [1], 85), (0, [13], [], 346), (0, [12], [], 16), (41, [7, 11], [], 0), (22, [11, 8, 10], [1], 0), (90, [11], [], 0), (91, [11], [], 16), (22, [10, 9, 5], [1], 0), (90, [10], [], 0), (91, [10], [], 62), (20, [9, 2], [1], 85), (0, [9], [], 346), (20, [8, 2], [1], 22), (0, [8], [], 296), (22, [7, 6, 5], [1], 0), (90, [7], [], 0), (91, [7], [], 16), (20, [6, 2], [1], 86), (0, [6], [], 347), (33, [5], [], 0), (5000, [0, 1, 2, 3, 4, 5], [0, 1], 31), (0, [0], [], 285), (90, [1], [], 0), (91, [1], [], 7), (0, [2], [], 285), (90, [3], [], 0), (91, [3], [], 7), (90, [4], [], 0), (91, [4], [], 2147483647), (90, [5], [], -1), (91, [5], [], 6)], (4000, [2, 3, 4, 5, 18, 27, 32], [2], 147))
theorem c_287_31_16 {q0 : Nat} : vOkm T0 (eP e_287 L_287 A_287 mu_287 (some q0)) 2 g_287_31_16 := vOk_inI fun ρ η f0 f1 f2 f3 f4 f5 f6 f7 f8 f9 f10 f11 f12 f13 f14 f15 f16 f17 f18 f19 f20 f21 f22 f23 f24 f25 f26 f27 f28 f29 f30 f31 f32 f33 f34 f35 f36 f37 f38 f39 f40 f41 f42 f43 f44 f45 f46 f47 f48 f49 f50 f51 f52 f53 f54 f55 f56 f57 f58 f59 f60 f61 f62 f63 f64 f65 f66 f67 f68 f69 f70 f71 f72 => q_287_17 (q0 := q0) (n0 := ρ 5) (n1 := ρ 4) (n2 := ρ 3) (n3 := ρ 2) (n4 := ρ 1) (n5 := ρ 0) (n6 := ρ 6) (n7 := ρ 7) (n8 := ρ 8) (n9 := ρ 9) (n10 := ρ 10) (n11 := ρ 11) (n12 := ρ 12) (n13 := ρ 13) (n14 := ρ 14) (n15 := ρ 15) (n16 := ρ 16) (n17 := ρ 17) (n18 := ρ 18) (n19 := ρ 19) (n20 := ρ 20) (n21 := ρ 21) (n22 := ρ 22) (n23 := ρ 23) (n24 := ρ 24) (n25 := ρ 25) (n26 := ρ 26) (n27 := ρ 27) (n28 := ρ 28) (n29 := ρ 29) (n30 := ρ 30) (n31 := ρ 31) (n32 := ρ 32) (H0 := η 0) (H1 := η 1) (H2 := η 2) f72 f71 f70 f69 f68 f67 f66 f65 f64 f63 f62 f61 f60 f59 f58 f57 f56 f55 f54 f53 f52 f51 f50 f49 f48 f47 f46 f45 f44 f43 f42 f41 f40 f39 f38 f37 f36 f35 f34 f33 f32 f31 f30 f29 f28 f27 f26 f25 f24 f23 f22 f21 f20 f19 f18 f17 f16 f15 f14 f13 f12 f11 f10 f9 f8 f7 f6 f5 f4 f3 f2 f1 f0
theorem q_287_18 {q0 : Nat} {n0 n1 n2 n3 n4 n5 n6 n7 n8 n9 n10 n11 n12 n13 n14 n15 n16 n17 n18 n19 n20 n21 n22 n23 n24 n25 n26 n27 n28 n29 n30 n31 : Int} {H0 H1 H2 : gH} (f0 : n0 ≤ 6) (f1 : (-1) ≤ n0) (f2 : n1 ≤ 2147483647) (f3 : 0 ≤ n1) (f4 : n2 ≤ 7) (f5 : 0 ≤ n2) (f6 : n3 = 285) (f7 : n4 ≤ 7) (f8 : 0 ≤ n4) (f9 : n5 = 285) (f10 : (hLe T0 H0 H1 ∧ hFr s_287.2.2.2.2 H0 H1 ∧ hWt T0 H1) ∧ (Ab_287_31 n5 n4 n3 n2 n1 n0 H0 H1 ∧ preb_287 n5 n4 H0) ∧ some q0 = some (mub_287_31 n5 n4 n3 n2 n1 n0 H0 H1)) (f11 : 0 ≤ n0) (f12 : n6 = 347) (f13 : n6 = hV H1 (n3).toNat 86) (f14 : n7 ≤ 16) (f15 : 0 ≤ n7) (f16 : n7 = hV H1 (n6).toNat (n0).toNat) (f17 : n8 = 296) (f18 : n8 = hV H1 (n3).toNat 22) (f19 : n9 = 346) (f20 : n9 = hV H1 (n3).toNat 85) (f21 : n10 ≤ 62) (f22 : 0 ≤ n10) (f23 : n10 = hV H1 (n9).toNat (n0).toNat) (f24 : n11 ≤ 16) (f25 : 0 ≤ n11) (f26 : n11 = hV H1 (n8).toNat (n10).toNat) (f27 : n7 ≠ n11) (f28 : n12 = 16) (f29 : n13 = 346) (f30 : n13 = hV H1 (n3).toNat 85) (f31 : n14 ≤ 62) (f32 : 0 ≤ n14) (f33 : n14 = hV H1 (n13).toNat (n0).toNat) (f34 : n15 = w32 (n12 * n14)) (f35 : n16 = 347) (f36 : n16 = hV H1 (n3).toNat 86) (f37 : n17 ≤ 16) (f38 : 0 ≤ n17) (f39 : n17 = hV H1 (n16).toNat (n0).toNat) (f40 : n18 = w32 (n15 + n17)) (f41 : n19 = 347) (f42 : n19 = hV H1 (n3).toNat 86) (f43 : n20 ≤ 16) (f44 : 0 ≤ n20) (f45 : n20 = hV H1 (n19).toNat (n0).toNat) (f46 : n21 = 1) (f47 : n22 = w32 (n20 + n21)) (f48 : hUpd H2 H1 n19 n0 n22) (f49 : n23 = 301) (f50 : n23 = hV H2 (n3).toNat 27) (f51 : n24 ≤ 9999) (f52 : (-1) ≤ n24) (f53 : n24 = hV H2 (n23).toNat (n18).toNat) (f54 : n25 = (-1)) (f55 : n24 ≠ n25) (f56 : n26 = 301) (f57 : n26 = hV H2 (n3).toNat 27) (f58 : n27 ≤ 9999) (f59 : (-1) ≤ n27) (f60 : n27 = hV H2 (n26).toNat (n18).toNat) (f61 : n28 = 303) (f62 : n28 = hV H2 (n3).toNat 29) (f63 : n29 ≤ 9999) (f64 : (-1) ≤ n29) (f65 : n29 = hV H2 (n28).toNat (n18).toNat) (f66 : n30 = (-1)) (f67 : n29 ≠ n30) (f68 : n31 = 303) (f69 : n31 = hV H2 (n3).toNat 29) : 0 ≤ n18 ∧ n18 < 1008 := by
  have g4 := f10.2.1.1
  unfold Ab_287_31 at g4
  have g3 := f10.2.1.2
  unfold preb_287 at g3
  have e0 : n7 = hV H1 347 (n0).toNat := (by rw [f12] at f16; exact f16 : n7 = hV H1 347 (n0).toNat)
  have e1 : n10 = hV H1 346 (n0).toNat := (by rw [f19] at f23; exact f23 : n10 = hV H1 346 (n0).toNat)
  have e2 : hV H1 296 = hV H0 296 := fRow f10.1.2.1 296 kR_287_296
  have e3 : n11 = hV H0 296 (n10).toNat := (by rw [f17] at f26; exact f26 : n11 = hV H1 296 (n10).toNat).trans ((congrFun e2 _))
  have e4 : n14 = hV H1 346 (n0).toNat := (by rw [f29] at f33; exact f33 : n14 = hV H1 346 (n0).toNat)
  have e5 : n17 = hV H1 347 (n0).toNat := (by rw [f35] at f39; exact f39 : n17 = hV H1 347 (n0).toNat)
  have e6 : n20 = hV H1 347 (n0).toNat := (by rw [f41] at f45; exact f45 : n20 = hV H1 347 (n0).toNat)
  have e8 : hV H1 301 = hV H0 301 := fRow f10.1.2.1 301 kR_287_301
  have e9 : n24 = hV H0 301 (n18).toNat := (by rw [f49] at f53; exact f53 : n24 = hV H2 301 (n18).toNat).trans (((congrFun (uRowNe f48 301 (iS (show n19 = ((347 : Nat) : Int) from f41) rfl)) _)).trans ((congrFun e8 _)))
  have e10 : n27 = hV H0 301 (n18).toNat := (by rw [f56] at f60; exact f60 : n27 = hV H2 301 (n18).toNat).trans (((congrFun (uRowNe f48 301 (iS (show n19 = ((347 : Nat) : Int) from f41) rfl)) _)).trans ((congrFun e8 _)))
  have e12 : hV H1 303 = hV H0 303 := fRow f10.1.2.1 303 kR_287_303
  have e13 : n29 = hV H0 303 (n18).toNat := (by rw [f61] at f65; exact f65 : n29 = hV H2 303 (n18).toNat).trans (((congrFun (uRowNe f48 303 (iS (show n19 = ((347 : Nat) : Int) from f41) rfl)) _)).trans ((congrFun e12 _)))
  have e17 : hV H1 285 65 = hV H0 285 65 := (f10.1.2.1.1 285 65 kF_287_285_65)
  have e18 : hV H1 294 = hV H0 294 := fRow f10.1.2.1 294 kR_287_294
  have e19 : hV H1 298 = hV H0 298 := fRow f10.1.2.1 298 kR_287_298
  have e20 : hV H1 300 = hV H0 300 := fRow f10.1.2.1 300 kR_287_300
  have e21 : hV H1 341 = hV H0 341 := fRow f10.1.2.1 341 kR_287_341
  have e22 : (0 : Int) ≤ hV H0 285 18 ∧ hV H0 285 18 ≤ 8 := bTo ((f10.1.2.1.1 285 18 kF_287_285_18)) (f10.1.2.2 285 18 _ _ kW_285_18)
  have e23 : (0 : Int) ≤ hV H0 285 65 ∧ hV H0 285 65 ≤ 2147483647 := bTo e17 (f10.1.2.2 285 65 _ _ kW_285_65)
  have k0 := g4.1
  have y0 := g4.2.1
  have y1 := g4.2.2.1
  have y2 := g4.2.2.2.1
  have y3 := g4.2.2.2.2
  have p0 := g3.1
  have p1 := g3.2.1
  have p2 := g3.2.2
  try simp only [e18, e2] at y0
  try simp only [e2, e19, e20, e8, e12, e21] at y1
  try simp only [e17] at y3
  clear g3
  clear g4
  clear f13 f16 f18 f20 f23 f26 f30 f33 f36 f39 f42 f45 f50 f53 f57 f60 f62 f65 f69 e2 e8 e12 e17 e18 e19 e20 e21
  clear f10
  subst e0
  subst e1
  subst e3
  subst e4
  subst e5
  subst e6
  subst e9
  subst e10
  subst e13
  rw [f28] at f34
  try have ca := cue_at (p1 (n4).toNat (by omega)) y0 (by omega) (by omega) (c := (16 * hV H1 346 (n0).toNat + hV H1 347 (n0).toNat)) (by omega)
  try have lv := y0 (n0).toNat (by omega)
  first
  | (have ix0 : n15 = 16 * (hV H1 346 (n0).toNat) := Eq.trans f34 (w32_iv (Iml 16 rfl (Iat f22 f21)) (by decide)); subst ix0; clear f34)
  | (have ix0 : n15 = 16 * (hV H1 346 (n0).toNat) := Eq.trans f34 (w32_id (by omega) (by omega)); subst ix0; clear f34)
  | (unfold w32 at f34; have ix0 : n15 = 16 * (hV H1 346 (n0).toNat) := (by omega); subst ix0)
  | skip
  first
  | (have ix1 : n18 = (16 * (hV H1 346 (n0).toNat)) + hV H1 347 (n0).toNat := Eq.trans f40 (w32_iv (Iad (Iml 16 rfl (Iat f22 f21)) (Iat f15 f14)) (by decide)); subst ix1; clear f40)
  | (have ix1 : n18 = (16 * (hV H1 346 (n0).toNat)) + hV H1 347 (n0).toNat := Eq.trans f40 (w32_id (by omega) (by omega)); subst ix1; clear f40)
  | (unfold w32 at f40; have ix1 : n18 = (16 * (hV H1 346 (n0).toNat)) + hV H1 347 (n0).toNat := (by omega); subst ix1)
  | skip
  first
  | (have ix2 : n22 = hV H1 347 (n0).toNat + 1 := Eq.trans f47 (w32_iv (Iad (Iat f15 f14) (IC 1)) (by decide)); subst ix2; clear f47)
  | (have ix2 : n22 = hV H1 347 (n0).toNat + 1 := Eq.trans f47 (w32_id (by omega) (by omega)); subst ix2; clear f47)
  | (unfold w32 at f47; have ix2 : n22 = hV H1 347 (n0).toNat + 1 := (by omega); subst ix2)
  | skip
  try unfold w32 at f34
  try unfold w32 at f40
  try unfold w32 at f47
  try subst k0
  omega
def g_287_31_17 : vG := ([(20, [31, 2], [2], 29), (0, [31], [], 303), (41, [29, 30], [], 0), (0, [30], [], -1), (22, [29, 28, 18], [2], 0), (90, [29], [], -1), (91, [29], [], 9999), (20, [28, 2], [2], 29), (0, [28], [], 303), (22, [27, 26, 18], [2], 0), (90, [27], [], -1), (91, [27], [], 9999), (20, [26, 2], [2], 27), (0, [26], [], 301), (41, [24, 25], [], 0), (0, [25], [], -1), (22, [24, 23, 18], [2], 0), (90, [24], [], -1), (91, [24], [], 9999), (20, [23, 2], [2], 27), (0, [23], [], 301), (80, [19, 5, 22], [2, 1], 0), (1, [22, 20, 21], [], 0), (0, [21], [], 1), (22, [20, 19, 5], [1], 0), (90, [20], [], 0), (91, [20], [], 16), (20, [19, 2], [1], 86), (0, [19], [], 347), (1, [18, 15, 17], [], 0), (22, [17, 16, 5], [1], 0), (90, [17], [], 0), (91, [17], [], 16), (20, [16, 2], [1], 86), (0, [16], [], 347), (3, [15, 12, 14], [], 0), (22, [14, 13, 5], [1], 0), (90, [14], [], 0), (91, [14], [], 62), (20, [13, 2], [1], 85), (0, [13], [], 346), (0, [12], [], 16), (41, [7, 11], [], 0), (22, [11, 8, 10], [1], 0), (90, [11], [], 0), (91, [11], [], 16), (22, [10, 9, 5], [1], 0), (90, [10], [], 0), (91, [10], [], 62), (20, [9, 2], [1], 85), (0, [9], [], 346), (20, [8, 2], [1], 22), (0, [8], [], 296), (22, [7, 6, 5], [1], 0), (90, [7], [], 0), (91, [7], [], 16), (20, [6, 2], [1], 86), (0, [6], [], 347), (33, [5], [], 0), (5000, [0, 1, 2, 3, 4, 5], [0, 1], 31), (0, [0], [], 285), (90, [1], [], 0), (91, [1], [], 7), (0, [2], [], 285), (90, [3], [], 0), (91, [3], [], 7), (90, [4], [], 0), (91, [4], [], 2147483647), (90, [5], [], -1), (91, [5], [], 6)], (70, [18], [], 1008))
theorem c_287_31_17 {q0 : Nat} : vOkm T0 (eP e_287 L_287 A_287 mu_287 (some q0)) 2 g_287_31_17 := vOk_inI fun ρ η f0 f1 f2 f3 f4 f5 f6 f7 f8 f9 f10 f11 f12 f13 f14 f15 f16 f17 f18 f19 f20 f21 f22 f23 f24 f25 f26 f27 f28 f29 f30 f31 f32 f33 f34 f35 f36 f37 f38 f39 f40 f41 f42 f43 f44 f45 f46 f47 f48 f49 f50 f51 f52 f53 f54 f55 f56 f57 f58 f59 f60 f61 f62 f63 f64 f65 f66 f67 f68 f69 => q_287_18 (q0 := q0) (n0 := ρ 5) (n1 := ρ 4) (n2 := ρ 3) (n3 := ρ 2) (n4 := ρ 1) (n5 := ρ 0) (n6 := ρ 6) (n7 := ρ 7) (n8 := ρ 8) (n9 := ρ 9) (n10 := ρ 10) (n11 := ρ 11) (n12 := ρ 12) (n13 := ρ 13) (n14 := ρ 14) (n15 := ρ 15) (n16 := ρ 16) (n17 := ρ 17) (n18 := ρ 18) (n19 := ρ 19) (n20 := ρ 20) (n21 := ρ 21) (n22 := ρ 22) (n23 := ρ 23) (n24 := ρ 24) (n25 := ρ 25) (n26 := ρ 26) (n27 := ρ 27) (n28 := ρ 28) (n29 := ρ 29) (n30 := ρ 30) (n31 := ρ 31) (H0 := η 0) (H1 := η 1) (H2 := η 2) f69 f68 f67 f66 f65 f64 f63 f62 f61 f60 f59 f58 f57 f56 f55 f54 f53 f52 f51 f50 f49 f48 f47 f46 f45 f44 f43 f42 f41 f40 f39 f38 f37 f36 f35 f34 f33 f32 f31 f30 f29 f28 f27 f26 f25 f24 f23 f22 f21 f20 f19 f18 f17 f16 f15 f14 f13 f12 f11 f10 f9 f8 f7 f6 f5 f4 f3 f2 f1 f0
def g_287_31_18 : vG := ([(1, [18, 15, 17], [], 0), (90, [17], [], 0), (91, [17], [], 16), (3, [15, 12, 14], [], 0), (90, [14], [], 0), (91, [14], [], 62), (0, [12], [], 16)], (90, [18], [], 0))
theorem c_287_31_18 {q0 : Nat} : vOkm T0 (eP e_287 L_287 A_287 mu_287 (some q0)) 2 g_287_31_18 := vOk_inI fun ρ η f0 f1 f2 f3 f4 f5 f6 => q_287_8 (q0 := q0) (n0 := ρ 12) (n1 := ρ 14) (n2 := ρ 15) (n3 := ρ 17) (n4 := ρ 18) (H0 := η 0) f6 f5 f4 f3 f2 f1 f0
theorem q_287_19 {q0 : Nat} {n0 n1 n2 n3 n4 n5 n6 n7 n8 n9 n10 n11 n12 n13 n14 n15 n16 n17 n18 n19 n20 n21 n22 n23 n24 n25 n26 n27 n28 n29 n30 n31 n32 : Int} {H0 H1 H2 : gH} (f0 : n0 ≤ 6) (f1 : (-1) ≤ n0) (f2 : n1 ≤ 2147483647) (f3 : 0 ≤ n1) (f4 : n2 ≤ 7) (f5 : 0 ≤ n2) (f6 : n3 = 285) (f7 : n4 ≤ 7) (f8 : 0 ≤ n4) (f9 : n5 = 285) (f10 : (hLe T0 H0 H1 ∧ hFr s_287.2.2.2.2 H0 H1 ∧ hWt T0 H1) ∧ (Ab_287_31 n5 n4 n3 n2 n1 n0 H0 H1 ∧ preb_287 n5 n4 H0) ∧ some q0 = some (mub_287_31 n5 n4 n3 n2 n1 n0 H0 H1)) (f11 : 0 ≤ n0) (f12 : n6 = 347) (f13 : n6 = hV H1 (n3).toNat 86) (f14 : n7 ≤ 16) (f15 : 0 ≤ n7) (f16 : n7 = hV H1 (n6).toNat (n0).toNat) (f17 : n8 = 296) (f18 : n8 = hV H1 (n3).toNat 22) (f19 : n9 = 346) (f20 : n9 = hV H1 (n3).toNat 85) (f21 : n10 ≤ 62) (f22 : 0 ≤ n10) (f23 : n10 = hV H1 (n9).toNat (n0).toNat) (f24 : n11 ≤ 16) (f25 : 0 ≤ n11) (f26 : n11 = hV H1 (n8).toNat (n10).toNat) (f27 : n7 ≠ n11) (f28 : n12 = 16) (f29 : n13 = 346) (f30 : n13 = hV H1 (n3).toNat 85) (f31 : n14 ≤ 62) (f32 : 0 ≤ n14) (f33 : n14 = hV H1 (n13).toNat (n0).toNat) (f34 : n15 = w32 (n12 * n14)) (f35 : n16 = 347) (f36 : n16 = hV H1 (n3).toNat 86) (f37 : n17 ≤ 16) (f38 : 0 ≤ n17) (f39 : n17 = hV H1 (n16).toNat (n0).toNat) (f40 : n18 = w32 (n15 + n17)) (f41 : n19 = 347) (f42 : n19 = hV H1 (n3).toNat 86) (f43 : n20 ≤ 16) (f44 : 0 ≤ n20) (f45 : n20 = hV H1 (n19).toNat (n0).toNat) (f46 : n21 = 1) (f47 : n22 = w32 (n20 + n21)) (f48 : hUpd H2 H1 n19 n0 n22) (f49 : n23 = 301) (f50 : n23 = hV H2 (n3).toNat 27) (f51 : n24 ≤ 9999) (f52 : (-1) ≤ n24) (f53 : n24 = hV H2 (n23).toNat (n18).toNat) (f54 : n25 = (-1)) (f55 : n24 ≠ n25) (f56 : n26 = 301) (f57 : n26 = hV H2 (n3).toNat 27) (f58 : n27 ≤ 9999) (f59 : (-1) ≤ n27) (f60 : n27 = hV H2 (n26).toNat (n18).toNat) (f61 : n28 = 303) (f62 : n28 = hV H2 (n3).toNat 29) (f63 : n29 ≤ 9999) (f64 : (-1) ≤ n29) (f65 : n29 = hV H2 (n28).toNat (n18).toNat) (f66 : n30 = (-1)) (f67 : n29 ≠ n30) (f68 : n31 = 303) (f69 : n31 = hV H2 (n3).toNat 29) (f70 : n32 ≤ 9999) (f71 : (-1) ≤ n32) (f72 : n32 = hV H2 (n31).toNat (n18).toNat) : n18 ≤ 1007 := by
  have g4 := f10.2.1.1
  unfold Ab_287_31 at g4
  have g3 := f10.2.1.2
  unfold preb_287 at g3
  have e0 : n7 = hV H1 347 (n0).toNat := (by rw [f12] at f16; exact f16 : n7 = hV H1 347 (n0).toNat)
  have e1 : n10 = hV H1 346 (n0).toNat := (by rw [f19] at f23; exact f23 : n10 = hV H1 346 (n0).toNat)
  have e2 : hV H1 296 = hV H0 296 := fRow f10.1.2.1 296 kR_287_296
  have e3 : n11 = hV H0 296 (n10).toNat := (by rw [f17] at f26; exact f26 : n11 = hV H1 296 (n10).toNat).trans ((congrFun e2 _))
  have e4 : n14 = hV H1 346 (n0).toNat := (by rw [f29] at f33; exact f33 : n14 = hV H1 346 (n0).toNat)
  have e5 : n17 = hV H1 347 (n0).toNat := (by rw [f35] at f39; exact f39 : n17 = hV H1 347 (n0).toNat)
  have e6 : n20 = hV H1 347 (n0).toNat := (by rw [f41] at f45; exact f45 : n20 = hV H1 347 (n0).toNat)
  have e8 : hV H1 301 = hV H0 301 := fRow f10.1.2.1 301 kR_287_301
  have e9 : n24 = hV H0 301 (n18).toNat := (by rw [f49] at f53; exact f53 : n24 = hV H2 301 (n18).toNat).trans (((congrFun (uRowNe f48 301 (iS (show n19 = ((347 : Nat) : Int) from f41) rfl)) _)).trans ((congrFun e8 _)))
  have e10 : n27 = hV H0 301 (n18).toNat := (by rw [f56] at f60; exact f60 : n27 = hV H2 301 (n18).toNat).trans (((congrFun (uRowNe f48 301 (iS (show n19 = ((347 : Nat) : Int) from f41) rfl)) _)).trans ((congrFun e8 _)))
  have e12 : hV H1 303 = hV H0 303 := fRow f10.1.2.1 303 kR_287_303
  have e13 : n29 = hV H0 303 (n18).toNat := (by rw [f61] at f65; exact f65 : n29 = hV H2 303 (n18).toNat).trans (((congrFun (uRowNe f48 303 (iS (show n19 = ((347 : Nat) : Int) from f41) rfl)) _)).trans ((congrFun e12 _)))
  have e14 : n32 = hV H0 303 (n18).toNat := (by rw [f68] at f72; exact f72 : n32 = hV H2 303 (n18).toNat).trans (((congrFun (uRowNe f48 303 (iS (show n19 = ((347 : Nat) : Int) from f41) rfl)) _)).trans ((congrFun e12 _)))
  have e18 : hV H1 285 65 = hV H0 285 65 := (f10.1.2.1.1 285 65 kF_287_285_65)
  have e19 : hV H1 294 = hV H0 294 := fRow f10.1.2.1 294 kR_287_294
  have e20 : hV H1 298 = hV H0 298 := fRow f10.1.2.1 298 kR_287_298
  have e21 : hV H1 300 = hV H0 300 := fRow f10.1.2.1 300 kR_287_300
  have e22 : hV H1 341 = hV H0 341 := fRow f10.1.2.1 341 kR_287_341
  have e23 : (0 : Int) ≤ hV H0 285 18 ∧ hV H0 285 18 ≤ 8 := bTo ((f10.1.2.1.1 285 18 kF_287_285_18)) (f10.1.2.2 285 18 _ _ kW_285_18)
  have e24 : (0 : Int) ≤ hV H0 285 65 ∧ hV H0 285 65 ≤ 2147483647 := bTo e18 (f10.1.2.2 285 65 _ _ kW_285_65)
  have k0 := g4.1
  have y0 := g4.2.1
  have y1 := g4.2.2.1
  have y2 := g4.2.2.2.1
  have y3 := g4.2.2.2.2
  have p0 := g3.1
  have p1 := g3.2.1
  have p2 := g3.2.2
  try simp only [e19, e2] at y0
  try simp only [e2, e20, e21, e8, e12, e22] at y1
  try simp only [e18] at y3
  clear g3
  clear g4
  clear f13 f16 f18 f20 f23 f26 f30 f33 f36 f39 f42 f45 f50 f53 f57 f60 f62 f65 f69 f72 e2 e8 e12 e18 e19 e20 e21 e22
  clear f10
  subst e0
  subst e1
  subst e3
  subst e4
  subst e5
  subst e6
  subst e9
  subst e10
  subst e13
  subst e14
  rw [f28] at f34
  try have ca := cue_at (p1 (n4).toNat (by omega)) y0 (by omega) (by omega) (c := (16 * hV H1 346 (n0).toNat + hV H1 347 (n0).toNat)) (by omega)
  try have lv := y0 (n0).toNat (by omega)
  first
  | (have ix0 : n15 = 16 * (hV H1 346 (n0).toNat) := Eq.trans f34 (w32_iv (Iml 16 rfl (Iat f22 f21)) (by decide)); subst ix0; clear f34)
  | (have ix0 : n15 = 16 * (hV H1 346 (n0).toNat) := Eq.trans f34 (w32_id (by omega) (by omega)); subst ix0; clear f34)
  | (unfold w32 at f34; have ix0 : n15 = 16 * (hV H1 346 (n0).toNat) := (by omega); subst ix0)
  | skip
  first
  | (have ix1 : n18 = (16 * (hV H1 346 (n0).toNat)) + hV H1 347 (n0).toNat := Eq.trans f40 (w32_iv (Iad (Iml 16 rfl (Iat f22 f21)) (Iat f15 f14)) (by decide)); subst ix1; clear f40)
  | (have ix1 : n18 = (16 * (hV H1 346 (n0).toNat)) + hV H1 347 (n0).toNat := Eq.trans f40 (w32_id (by omega) (by omega)); subst ix1; clear f40)
  | (unfold w32 at f40; have ix1 : n18 = (16 * (hV H1 346 (n0).toNat)) + hV H1 347 (n0).toNat := (by omega); subst ix1)
  | skip
  first
  | (have ix2 : n22 = hV H1 347 (n0).toNat + 1 := Eq.trans f47 (w32_iv (Iad (Iat f15 f14) (IC 1)) (by decide)); subst ix2; clear f47)
  | (have ix2 : n22 = hV H1 347 (n0).toNat + 1 := Eq.trans f47 (w32_id (by omega) (by omega)); subst ix2; clear f47)
  | (unfold w32 at f47; have ix2 : n22 = hV H1 347 (n0).toNat + 1 := (by omega); subst ix2)
  | skip
  try unfold w32 at f34
  try unfold w32 at f40
  try unfold w32 at f47
  try subst k0
  omega
def g_287_31_19 : vG := ([(22, [32, 31, 18], [2], 0), (90, [32], [], -1), (91, [32], [], 9999), (20, [31, 2], [2], 29), (0, [31], [], 303), (41, [29, 30], [], 0), (0, [30], [], -1), (22, [29, 28, 18], [2], 0), (90, [29], [], -1), (91, [29], [], 9999), (20, [28, 2], [2], 29), (0, [28], [], 303), (22, [27, 26, 18], [2], 0), (90, [27], [], -1), (91, [27], [], 9999), (20, [26, 2], [2], 27), (0, [26], [], 301), (41, [24, 25], [], 0), (0, [25], [], -1), (22, [24, 23, 18], [2], 0), (90, [24], [], -1), (91, [24], [], 9999), (20, [23, 2], [2], 27), (0, [23], [], 301), (80, [19, 5, 22], [2, 1], 0), (1, [22, 20, 21], [], 0), (0, [21], [], 1), (22, [20, 19, 5], [1], 0), (90, [20], [], 0), (91, [20], [], 16), (20, [19, 2], [1], 86), (0, [19], [], 347), (1, [18, 15, 17], [], 0), (22, [17, 16, 5], [1], 0), (90, [17], [], 0), (91, [17], [], 16), (20, [16, 2], [1], 86), (0, [16], [], 347), (3, [15, 12, 14], [], 0), (22, [14, 13, 5], [1], 0), (90, [14], [], 0), (91, [14], [], 62), (20, [13, 2], [1], 85), (0, [13], [], 346), (0, [12], [], 16), (41, [7, 11], [], 0), (22, [11, 8, 10], [1], 0), (90, [11], [], 0), (91, [11], [], 16), (22, [10, 9, 5], [1], 0), (90, [10], [], 0), (91, [10], [], 62), (20, [9, 2], [1], 85), (0, [9], [], 346), (20, [8, 2], [1], 22), (0, [8], [], 296), (22, [7, 6, 5], [1], 0), (90, [7], [], 0), (91, [7], [], 16), (20, [6, 2], [1], 86), (0, [6], [], 347), (33, [5], [], 0), (5000, [0, 1, 2, 3, 4, 5], [0, 1], 31), (0, [0], [], 285), (90, [1], [], 0), (91, [1], [], 7), (0, [2], [], 285), (90, [3], [], 0), (91, [3], [], 7), (90, [4], [], 0), (91, [4], [], 2147483647), (90, [5], [], -1), (91, [5], [], 6)], (91, [18], [], 1007))
theorem c_287_31_19 {q0 : Nat} : vOkm T0 (eP e_287 L_287 A_287 mu_287 (some q0)) 2 g_287_31_19 := vOk_inI fun ρ η f0 f1 f2 f3 f4 f5 f6 f7 f8 f9 f10 f11 f12 f13 f14 f15 f16 f17 f18 f19 f20 f21 f22 f23 f24 f25 f26 f27 f28 f29 f30 f31 f32 f33 f34 f35 f36 f37 f38 f39 f40 f41 f42 f43 f44 f45 f46 f47 f48 f49 f50 f51 f52 f53 f54 f55 f56 f57 f58 f59 f60 f61 f62 f63 f64 f65 f66 f67 f68 f69 f70 f71 f72 => q_287_19 (q0 := q0) (n0 := ρ 5) (n1 := ρ 4) (n2 := ρ 3) (n3 := ρ 2) (n4 := ρ 1) (n5 := ρ 0) (n6 := ρ 6) (n7 := ρ 7) (n8 := ρ 8) (n9 := ρ 9) (n10 := ρ 10) (n11 := ρ 11) (n12 := ρ 12) (n13 := ρ 13) (n14 := ρ 14) (n15 := ρ 15) (n16 := ρ 16) (n17 := ρ 17) (n18 := ρ 18) (n19 := ρ 19) (n20 := ρ 20) (n21 := ρ 21) (n22 := ρ 22) (n23 := ρ 23) (n24 := ρ 24) (n25 := ρ 25) (n26 := ρ 26) (n27 := ρ 27) (n28 := ρ 28) (n29 := ρ 29) (n30 := ρ 30) (n31 := ρ 31) (n32 := ρ 32) (H0 := η 0) (H1 := η 1) (H2 := η 2) f72 f71 f70 f69 f68 f67 f66 f65 f64 f63 f62 f61 f60 f59 f58 f57 f56 f55 f54 f53 f52 f51 f50 f49 f48 f47 f46 f45 f44 f43 f42 f41 f40 f39 f38 f37 f36 f35 f34 f33 f32 f31 f30 f29 f28 f27 f26 f25 f24 f23 f22 f21 f20 f19 f18 f17 f16 f15 f14 f13 f12 f11 f10 f9 f8 f7 f6 f5 f4 f3 f2 f1 f0
theorem q_287_20 {q0 : Nat} {n0 n1 n2 n3 n4 n5 n6 n7 n8 n9 n10 n11 n12 n13 n14 n15 n16 n17 n18 n19 n20 n21 n22 n23 n24 n25 n26 n27 n28 n29 n30 n31 n32 : Int} {H0 H1 H2 : gH} (f0 : n0 ≤ 6) (f1 : (-1) ≤ n0) (f2 : n1 ≤ 2147483647) (f3 : 0 ≤ n1) (f4 : n2 ≤ 7) (f5 : 0 ≤ n2) (f6 : n3 = 285) (f7 : n4 ≤ 7) (f8 : 0 ≤ n4) (f9 : n5 = 285) (f10 : (hLe T0 H0 H1 ∧ hFr s_287.2.2.2.2 H0 H1 ∧ hWt T0 H1) ∧ (Ab_287_31 n5 n4 n3 n2 n1 n0 H0 H1 ∧ preb_287 n5 n4 H0) ∧ some q0 = some (mub_287_31 n5 n4 n3 n2 n1 n0 H0 H1)) (f11 : 0 ≤ n0) (f12 : n6 = 347) (f13 : n6 = hV H1 (n3).toNat 86) (f14 : n7 ≤ 16) (f15 : 0 ≤ n7) (f16 : n7 = hV H1 (n6).toNat (n0).toNat) (f17 : n8 = 296) (f18 : n8 = hV H1 (n3).toNat 22) (f19 : n9 = 346) (f20 : n9 = hV H1 (n3).toNat 85) (f21 : n10 ≤ 62) (f22 : 0 ≤ n10) (f23 : n10 = hV H1 (n9).toNat (n0).toNat) (f24 : n11 ≤ 16) (f25 : 0 ≤ n11) (f26 : n11 = hV H1 (n8).toNat (n10).toNat) (f27 : n7 ≠ n11) (f28 : n12 = 16) (f29 : n13 = 346) (f30 : n13 = hV H1 (n3).toNat 85) (f31 : n14 ≤ 62) (f32 : 0 ≤ n14) (f33 : n14 = hV H1 (n13).toNat (n0).toNat) (f34 : n15 = w32 (n12 * n14)) (f35 : n16 = 347) (f36 : n16 = hV H1 (n3).toNat 86) (f37 : n17 ≤ 16) (f38 : 0 ≤ n17) (f39 : n17 = hV H1 (n16).toNat (n0).toNat) (f40 : n18 = w32 (n15 + n17)) (f41 : n19 = 347) (f42 : n19 = hV H1 (n3).toNat 86) (f43 : n20 ≤ 16) (f44 : 0 ≤ n20) (f45 : n20 = hV H1 (n19).toNat (n0).toNat) (f46 : n21 = 1) (f47 : n22 = w32 (n20 + n21)) (f48 : hUpd H2 H1 n19 n0 n22) (f49 : n23 = 301) (f50 : n23 = hV H2 (n3).toNat 27) (f51 : n24 ≤ 9999) (f52 : (-1) ≤ n24) (f53 : n24 = hV H2 (n23).toNat (n18).toNat) (f54 : n25 = (-1)) (f55 : n24 ≠ n25) (f56 : n26 = 301) (f57 : n26 = hV H2 (n3).toNat 27) (f58 : n27 ≤ 9999) (f59 : (-1) ≤ n27) (f60 : n27 = hV H2 (n26).toNat (n18).toNat) (f61 : n28 = 303) (f62 : n28 = hV H2 (n3).toNat 29) (f63 : n29 ≤ 9999) (f64 : (-1) ≤ n29) (f65 : n29 = hV H2 (n28).toNat (n18).toNat) (f66 : n30 = (-1)) (f67 : n29 ≠ n30) (f68 : n31 = 303) (f69 : n31 = hV H2 (n3).toNat 29) (f70 : n32 ≤ 9999) (f71 : (-1) ≤ n32) (f72 : n32 = hV H2 (n31).toNat (n18).toNat) : Ab_287_147 n5 n4 n3 n2 n1 n0 n18 n27 n32 H0 H2 ∧ ∀ q, some q0 = some q → mub_287_147 n5 n4 n3 n2 n1 n0 n18 n27 n32 H0 H2 < q := by
  have g4 := f10.2.1.1
  unfold Ab_287_31 at g4
  have g3 := f10.2.1.2
  unfold preb_287 at g3
  have g5 := Option.some.inj f10.2.2
  unfold mub_287_31 at g5
  unfold Ab_287_147
  unfold mub_287_147
  have e0 : n7 = hV H1 347 (n0).toNat := (by rw [f12] at f16; exact f16 : n7 = hV H1 347 (n0).toNat)
  have e1 : n10 = hV H1 346 (n0).toNat := (by rw [f19] at f23; exact f23 : n10 = hV H1 346 (n0).toNat)
  have e2 : hV H1 296 = hV H0 296 := fRow f10.1.2.1 296 kR_287_296
  have e3 : n11 = hV H0 296 (n10).toNat := (by rw [f17] at f26; exact f26 : n11 = hV H1 296 (n10).toNat).trans ((congrFun e2 _))
  have e4 : n14 = hV H1 346 (n0).toNat := (by rw [f29] at f33; exact f33 : n14 = hV H1 346 (n0).toNat)
  have e5 : n17 = hV H1 347 (n0).toNat := (by rw [f35] at f39; exact f39 : n17 = hV H1 347 (n0).toNat)
  have e6 : n20 = hV H1 347 (n0).toNat := (by rw [f41] at f45; exact f45 : n20 = hV H1 347 (n0).toNat)
  have e8 : hV H1 301 = hV H0 301 := fRow f10.1.2.1 301 kR_287_301
  have e9 : n24 = hV H0 301 (n18).toNat := (by rw [f49] at f53; exact f53 : n24 = hV H2 301 (n18).toNat).trans (((congrFun (uRowNe f48 301 (iS (show n19 = ((347 : Nat) : Int) from f41) rfl)) _)).trans ((congrFun e8 _)))
  have e10 : n27 = hV H0 301 (n18).toNat := (by rw [f56] at f60; exact f60 : n27 = hV H2 301 (n18).toNat).trans (((congrFun (uRowNe f48 301 (iS (show n19 = ((347 : Nat) : Int) from f41) rfl)) _)).trans ((congrFun e8 _)))
  have e12 : hV H1 303 = hV H0 303 := fRow f10.1.2.1 303 kR_287_303
  have e13 : n29 = hV H0 303 (n18).toNat := (by rw [f61] at f65; exact f65 : n29 = hV H2 303 (n18).toNat).trans (((congrFun (uRowNe f48 303 (iS (show n19 = ((347 : Nat) : Int) from f41) rfl)) _)).trans ((congrFun e12 _)))
  have e14 : n32 = hV H0 303 (n18).toNat := (by rw [f68] at f72; exact f72 : n32 = hV H2 303 (n18).toNat).trans (((congrFun (uRowNe f48 303 (iS (show n19 = ((347 : Nat) : Int) from f41) rfl)) _)).trans ((congrFun e12 _)))
  have e18 : hV H1 285 65 = hV H0 285 65 := (f10.1.2.1.1 285 65 kF_287_285_65)
  have e19 : hV H1 294 = hV H0 294 := fRow f10.1.2.1 294 kR_287_294
  have e20 : hV H1 298 = hV H0 298 := fRow f10.1.2.1 298 kR_287_298
  have e21 : hV H1 300 = hV H0 300 := fRow f10.1.2.1 300 kR_287_300
  have e22 : hV H1 341 = hV H0 341 := fRow f10.1.2.1 341 kR_287_341
  have e24 : hV H2 285 65 = hV H0 285 65 := ((uPlace f48 285 65 (iS (show n19 = ((347 : Nat) : Int) from f41) rfl))).trans (f10.1.2.1.1 285 65 kF_287_285_65)
  have e26 : hV H2 294 = hV H0 294 := (uRowNe f48 294 (iS (show n19 = ((347 : Nat) : Int) from f41) rfl)).trans e19
  have e28 : hV H2 296 = hV H0 296 := (uRowNe f48 296 (iS (show n19 = ((347 : Nat) : Int) from f41) rfl)).trans e2
  have e30 : hV H2 298 = hV H0 298 := (uRowNe f48 298 (iS (show n19 = ((347 : Nat) : Int) from f41) rfl)).trans e20
  have e32 : hV H2 300 = hV H0 300 := (uRowNe f48 300 (iS (show n19 = ((347 : Nat) : Int) from f41) rfl)).trans e21
  have e33 : hV H2 301 = hV H0 301 := (uRowNe f48 301 (iS (show n19 = ((347 : Nat) : Int) from f41) rfl)).trans e8
  have e34 : hV H2 303 = hV H0 303 := (uRowNe f48 303 (iS (show n19 = ((347 : Nat) : Int) from f41) rfl)).trans e12
  have e36 : hV H2 341 = hV H0 341 := (uRowNe f48 341 (iS (show n19 = ((347 : Nat) : Int) from f41) rfl)).trans e22
  have e37 : hV H2 346 = hV H1 346 := uRowNe f48 346 (iS (show n19 = ((347 : Nat) : Int) from f41) rfl)
  have e38 : hV H2 347 = uF (hV H1 347) n0 n22 := uRow f48 347 f41.symm
  have e39 : hV H2 353 = hV H1 353 := uRowNe f48 353 (iS (show n19 = ((347 : Nat) : Int) from f41) rfl)
  have e40 : (0 : Int) ≤ hV H0 285 18 ∧ hV H0 285 18 ≤ 8 := bTo ((f10.1.2.1.1 285 18 kF_287_285_18)) (f10.1.2.2 285 18 _ _ kW_285_18)
  have e41 : (0 : Int) ≤ hV H0 285 65 ∧ hV H0 285 65 ≤ 2147483647 := bTo e18 (f10.1.2.2 285 65 _ _ kW_285_65)
  try simp only [e2] at g5
  try simp only [e24, e26, e28, e30, e32, e33, e34, e36, e37, e38, e39]
  have k0 := g4.1
  have y0 := g4.2.1
  have y1 := g4.2.2.1
  have y2 := g4.2.2.2.1
  have y3 := g4.2.2.2.2
  have p0 := g3.1
  have p1 := g3.2.1
  have p2 := g3.2.2
  try simp only [e19, e2] at y0
  try simp only [e2, e20, e21, e8, e12, e22] at y1
  try simp only [e18] at y3
  clear g3
  clear g4
  clear f13 f16 f18 f20 f23 f26 f30 f33 f36 f39 f42 f45 f50 f53 f57 f60 f62 f65 f69 f72 e2 e8 e12 e18 e19 e20 e21 e22 e24 e26 e28 e30 e32 e33 e34 e36 e37 e39
  clear f10
  subst e0
  subst e1
  subst e3
  subst e4
  subst e5
  subst e6
  subst e9
  subst e10
  subst e13
  subst e14
  rw [f28] at f34
  try have ca := cue_at (p1 (n4).toNat (by omega)) y0 (by omega) (by omega) (c := (16 * hV H1 346 (n0).toNat + hV H1 347 (n0).toNat)) (by omega)
  try have lv := y0 (n0).toNat (by omega)
  first
  | (have ix0 : n15 = 16 * (hV H1 346 (n0).toNat) := Eq.trans f34 (w32_iv (Iml 16 rfl (Iat f22 f21)) (by decide)); subst ix0; clear f34)
  | (have ix0 : n15 = 16 * (hV H1 346 (n0).toNat) := Eq.trans f34 (w32_id (by omega) (by omega)); subst ix0; clear f34)
  | (unfold w32 at f34; have ix0 : n15 = 16 * (hV H1 346 (n0).toNat) := (by omega); subst ix0)
  | skip
  first
  | (have ix1 : n18 = (16 * (hV H1 346 (n0).toNat)) + hV H1 347 (n0).toNat := Eq.trans f40 (w32_iv (Iad (Iml 16 rfl (Iat f22 f21)) (Iat f15 f14)) (by decide)); subst ix1; clear f40)
  | (have ix1 : n18 = (16 * (hV H1 346 (n0).toNat)) + hV H1 347 (n0).toNat := Eq.trans f40 (w32_id (by omega) (by omega)); subst ix1; clear f40)
  | (unfold w32 at f40; have ix1 : n18 = (16 * (hV H1 346 (n0).toNat)) + hV H1 347 (n0).toNat := (by omega); subst ix1)
  | skip
  first
  | (have ix2 : n22 = hV H1 347 (n0).toNat + 1 := Eq.trans f47 (w32_iv (Iad (Iat f15 f14) (IC 1)) (by decide)); subst ix2; clear f47)
  | (have ix2 : n22 = hV H1 347 (n0).toNat + 1 := Eq.trans f47 (w32_id (by omega) (by omega)); subst ix2; clear f47)
  | (unfold w32 at f47; have ix2 : n22 = hV H1 347 (n0).toNat + 1 := (by omega); subst ix2)
  | skip
  try unfold w32 at f34
  try unfold w32 at f40
  try unfold w32 at f47

  have ca := cue_at (p1 (n4).toNat (by omega)) y0 (by omega) (by omega) (c := (16 * hV H1 346 (n0).toNat + hV H1 347 (n0).toNat)) rfl
  have mt := MS_take (i := n0) y0 (by omega) (by omega) rfl rfl
  refine ⟨⟨?_, ?_, ?_, ?_, ?_, ?_, ?_, ?_, ?_⟩, fun q hq => ?_⟩
  · first | omega | trivial
  · exact LVp_next y0 (by omega) (by omega) (by omega) (by have z := y0 (n0).toNat (by omega); omega)
  · exact UM_of (p1 (n4).toNat (by omega)) y0 (by omega) (by omega) (by omega) (by intro h5; omega)
  · omega
  · omega
  · omega
  · exact ML_head y1 (p1 (n4).toNat (by omega)) y0 (by omega) (by omega) (by omega) (by omega) (by omega) (by unfold ow; first | (rw [if_pos (by omega)]) | (rw [if_neg (by omega)])) (by unfold ow; first | (rw [if_pos (by omega)]) | (rw [if_neg (by omega)]))
  · intro h5; omega
  · intro h5; omega
  · have g6 := Option.some.inj hq
    subst g6
    rw [g5]
    omega
def g_287_31_20 : vG := ([(22, [32, 31, 18], [2], 0), (90, [32], [], -1), (91, [32], [], 9999), (20, [31, 2], [2], 29), (0, [31], [], 303), (41, [29, 30], [], 0), (0, [30], [], -1), (22, [29, 28, 18], [2], 0), (90, [29], [], -1), (91, [29], [], 9999), (20, [28, 2], [2], 29), (0, [28], [], 303), (22, [27, 26, 18], [2], 0), (90, [27], [], -1), (91, [27], [], 9999), (20, [26, 2], [2], 27), (0, [26], [], 301), (41, [24, 25], [], 0), (0, [25], [], -1), (22, [24, 23, 18], [2], 0), (90, [24], [], -1), (91, [24], [], 9999), (20, [23, 2], [2], 27), (0, [23], [], 301), (80, [19, 5, 22], [2, 1], 0), (1, [22, 20, 21], [], 0), (0, [21], [], 1), (22, [20, 19, 5], [1], 0), (90, [20], [], 0), (91, [20], [], 16), (20, [19, 2], [1], 86), (0, [19], [], 347), (1, [18, 15, 17], [], 0), (22, [17, 16, 5], [1], 0), (90, [17], [], 0), (91, [17], [], 16), (20, [16, 2], [1], 86), (0, [16], [], 347), (3, [15, 12, 14], [], 0), (22, [14, 13, 5], [1], 0), (90, [14], [], 0), (91, [14], [], 62), (20, [13, 2], [1], 85), (0, [13], [], 346), (0, [12], [], 16), (41, [7, 11], [], 0), (22, [11, 8, 10], [1], 0), (90, [11], [], 0), (91, [11], [], 16), (22, [10, 9, 5], [1], 0), (90, [10], [], 0), (91, [10], [], 62), (20, [9, 2], [1], 85), (0, [9], [], 346), (20, [8, 2], [1], 22), (0, [8], [], 296), (22, [7, 6, 5], [1], 0), (90, [7], [], 0), (91, [7], [], 16), (20, [6, 2], [1], 86), (0, [6], [], 347), (33, [5], [], 0), (5000, [0, 1, 2, 3, 4, 5], [0, 1], 31), (0, [0], [], 285), (90, [1], [], 0), (91, [1], [], 7), (0, [2], [], 285), (90, [3], [], 0), (91, [3], [], 7), (90, [4], [], 0), (91, [4], [], 2147483647), (90, [5], [], -1), (91, [5], [], 6)], (4000, [2, 3, 4, 5, 18, 27, 32], [2], 147))
theorem c_287_31_20 {q0 : Nat} : vOkm T0 (eP e_287 L_287 A_287 mu_287 (some q0)) 2 g_287_31_20 := vOk_inI fun ρ η f0 f1 f2 f3 f4 f5 f6 f7 f8 f9 f10 f11 f12 f13 f14 f15 f16 f17 f18 f19 f20 f21 f22 f23 f24 f25 f26 f27 f28 f29 f30 f31 f32 f33 f34 f35 f36 f37 f38 f39 f40 f41 f42 f43 f44 f45 f46 f47 f48 f49 f50 f51 f52 f53 f54 f55 f56 f57 f58 f59 f60 f61 f62 f63 f64 f65 f66 f67 f68 f69 f70 f71 f72 => q_287_20 (q0 := q0) (n0 := ρ 5) (n1 := ρ 4) (n2 := ρ 3) (n3 := ρ 2) (n4 := ρ 1) (n5 := ρ 0) (n6 := ρ 6) (n7 := ρ 7) (n8 := ρ 8) (n9 := ρ 9) (n10 := ρ 10) (n11 := ρ 11) (n12 := ρ 12) (n13 := ρ 13) (n14 := ρ 14) (n15 := ρ 15) (n16 := ρ 16) (n17 := ρ 17) (n18 := ρ 18) (n19 := ρ 19) (n20 := ρ 20) (n21 := ρ 21) (n22 := ρ 22) (n23 := ρ 23) (n24 := ρ 24) (n25 := ρ 25) (n26 := ρ 26) (n27 := ρ 27) (n28 := ρ 28) (n29 := ρ 29) (n30 := ρ 30) (n31 := ρ 31) (n32 := ρ 32) (H0 := η 0) (H1 := η 1) (H2 := η 2) f72 f71 f70 f69 f68 f67 f66 f65 f64 f63 f62 f61 f60 f59 f58 f57 f56 f55 f54 f53 f52 f51 f50 f49 f48 f47 f46 f45 f44 f43 f42 f41 f40 f39 f38 f37 f36 f35 f34 f33 f32 f31 f30 f29 f28 f27 f26 f25 f24 f23 f22 f21 f20 f19 f18 f17 f16 f15 f14 f13 f12 f11 f10 f9 f8 f7 f6 f5 f4 f3 f2 f1 f0
theorem q_287_21 {q0 : Nat} {n0 n1 : Int} {H0 : gH} (f0 : n0 ≤ 6) (f1 : 0 ≤ n0) (f2 : n1 = w32 (n0 + (-1))) : (-1) ≤ n1 := by
  first
  | (have ix0 : n1 = n0 + -1 := Eq.trans f2 (w32_iv (Iad (Iat f1 f0) (IC (-1))) (by decide)); subst ix0; clear f2)
  | (have ix0 : n1 = n0 + -1 := Eq.trans f2 (w32_id (by omega) (by omega)); subst ix0; clear f2)
  | (unfold w32 at f2; have ix0 : n1 = n0 + -1 := (by omega); subst ix0)
  | skip
  try unfold w32 at f2
  omega
def g_287_31_21 : vG := ([(10, [12, 5], [], -1), (33, [5], [], 0), (91, [5], [], 6)], (90, [12], [], -1))
theorem c_287_31_21 {q0 : Nat} : vOkm T0 (eP e_287 L_287 A_287 mu_287 (some q0)) 2 g_287_31_21 := vOk_inI fun ρ η f0 f1 f2 => q_287_21 (q0 := q0) (n0 := ρ 5) (n1 := ρ 12) (H0 := η 0) f2 f1 f0
theorem q_287_22 {q0 : Nat} {n0 n1 : Int} {H0 : gH} (f0 : n0 ≤ 6) (f1 : 0 ≤ n0) (f2 : n1 = w32 (n0 + (-1))) : n1 ≤ 6 := by
  first
  | (have ix0 : n1 = n0 + -1 := Eq.trans f2 (w32_iv (Iad (Iat f1 f0) (IC (-1))) (by decide)); subst ix0; clear f2)
  | (have ix0 : n1 = n0 + -1 := Eq.trans f2 (w32_id (by omega) (by omega)); subst ix0; clear f2)
  | (unfold w32 at f2; have ix0 : n1 = n0 + -1 := (by omega); subst ix0)
  | skip
  try unfold w32 at f2
  omega
def g_287_31_22 : vG := ([(10, [12, 5], [], -1), (33, [5], [], 0), (91, [5], [], 6)], (91, [12], [], 6))
theorem c_287_31_22 {q0 : Nat} : vOkm T0 (eP e_287 L_287 A_287 mu_287 (some q0)) 2 g_287_31_22 := vOk_inI fun ρ η f0 f1 f2 => q_287_22 (q0 := q0) (n0 := ρ 5) (n1 := ρ 12) (H0 := η 0) f2 f1 f0
theorem q_287_23 {q0 : Nat} {n0 n1 n2 n3 n4 n5 n6 n7 n8 n9 n10 n11 n12 : Int} {H0 H1 : gH} (f0 : n0 ≤ 6) (f1 : (-1) ≤ n0) (f2 : n1 ≤ 2147483647) (f3 : 0 ≤ n1) (f4 : n2 ≤ 7) (f5 : 0 ≤ n2) (f6 : n3 = 285) (f7 : n4 ≤ 7) (f8 : 0 ≤ n4) (f9 : n5 = 285) (f10 : (hLe T0 H0 H1 ∧ hFr s_287.2.2.2.2 H0 H1 ∧ hWt T0 H1) ∧ (Ab_287_31 n5 n4 n3 n2 n1 n0 H0 H1 ∧ preb_287 n5 n4 H0) ∧ some q0 = some (mub_287_31 n5 n4 n3 n2 n1 n0 H0 H1)) (f11 : 0 ≤ n0) (f12 : n6 = 347) (f13 : n6 = hV H1 (n3).toNat 86) (f14 : n7 ≤ 16) (f15 : 0 ≤ n7) (f16 : n7 = hV H1 (n6).toNat (n0).toNat) (f17 : n8 = 296) (f18 : n8 = hV H1 (n3).toNat 22) (f19 : n9 = 346) (f20 : n9 = hV H1 (n3).toNat 85) (f21 : n10 ≤ 62) (f22 : 0 ≤ n10) (f23 : n10 = hV H1 (n9).toNat (n0).toNat) (f24 : n11 ≤ 16) (f25 : 0 ≤ n11) (f26 : n11 = hV H1 (n8).toNat (n10).toNat) (f27 : n7 = n11) (f28 : n12 = w32 (n0 + (-1))) : Ab_287_31 n5 n4 n3 n2 n1 n12 H0 H1 ∧ ∀ q, some q0 = some q → mub_287_31 n5 n4 n3 n2 n1 n12 H0 H1 < q := by
  have g4 := f10.2.1.1
  unfold Ab_287_31 at g4
  have g3 := f10.2.1.2
  unfold preb_287 at g3
  have g5 := Option.some.inj f10.2.2
  unfold mub_287_31 at g5
  unfold Ab_287_31
  unfold mub_287_31
  have e0 : n7 = hV H1 347 (n0).toNat := (by rw [f12] at f16; exact f16 : n7 = hV H1 347 (n0).toNat)
  have e1 : n10 = hV H1 346 (n0).toNat := (by rw [f19] at f23; exact f23 : n10 = hV H1 346 (n0).toNat)
  have e2 : hV H1 296 = hV H0 296 := fRow f10.1.2.1 296 kR_287_296
  have e3 : n11 = hV H0 296 (n10).toNat := (by rw [f17] at f26; exact f26 : n11 = hV H1 296 (n10).toNat).trans ((congrFun e2 _))
  have e7 : hV H1 285 65 = hV H0 285 65 := (f10.1.2.1.1 285 65 kF_287_285_65)
  have e8 : hV H1 294 = hV H0 294 := fRow f10.1.2.1 294 kR_287_294
  have e9 : hV H1 298 = hV H0 298 := fRow f10.1.2.1 298 kR_287_298
  have e10 : hV H1 300 = hV H0 300 := fRow f10.1.2.1 300 kR_287_300
  have e11 : hV H1 301 = hV H0 301 := fRow f10.1.2.1 301 kR_287_301
  have e12 : hV H1 303 = hV H0 303 := fRow f10.1.2.1 303 kR_287_303
  have e13 : hV H1 341 = hV H0 341 := fRow f10.1.2.1 341 kR_287_341
  have e14 : (0 : Int) ≤ hV H0 285 18 ∧ hV H0 285 18 ≤ 8 := bTo ((f10.1.2.1.1 285 18 kF_287_285_18)) (f10.1.2.2 285 18 _ _ kW_285_18)
  have e15 : (0 : Int) ≤ hV H0 285 65 ∧ hV H0 285 65 ≤ 2147483647 := bTo e7 (f10.1.2.2 285 65 _ _ kW_285_65)
  try simp only [e2] at g5
  try simp only [e7, e8, e2, e9, e10, e11, e12, e13]
  have k0 := g4.1
  have y0 := g4.2.1
  have y1 := g4.2.2.1
  have y2 := g4.2.2.2.1
  have y3 := g4.2.2.2.2
  have p0 := g3.1
  have p1 := g3.2.1
  have p2 := g3.2.2
  try simp only [e8, e2] at y0
  try simp only [e2, e9, e10, e11, e12, e13] at y1
  try simp only [e7] at y3
  clear g3
  clear g4
  clear f13 f16 f18 f20 f23 f26 e2 e7 e8 e9 e10 e11 e12 e13
  clear f10
  subst e0
  subst e1
  subst e3
  try have ca := cue_at (p1 (n4).toNat (by omega)) y0 (by omega) (by omega) (c := (16 * hV H1 346 (n0).toNat + hV H1 347 (n0).toNat)) (by omega)
  try have lv := y0 (n0).toNat (by omega)
  first
  | (have ix0 : n12 = n0 + -1 := Eq.trans f28 (w32_iv (Iad (Iat f1 f0) (IC (-1))) (by decide)); subst ix0; clear f28)
  | (have ix0 : n12 = n0 + -1 := Eq.trans f28 (w32_id (by omega) (by omega)); subst ix0; clear f28)
  | (unfold w32 at f28; have ix0 : n12 = n0 + -1 := (by omega); subst ix0)
  | skip
  try unfold w32 at f28

  refine ⟨⟨?_, ?_, ?_, ?_⟩, fun q hq => ?_⟩
  · first | omega | trivial
  · exact LVp_pop y0 (by omega)
  · exact ML_pop y1 (by omega) (by omega) (by omega)
  · first
    | omega
    | (refine ⟨?_, ?_⟩ <;> first | exact True.intro | omega)
  · have g6 := Option.some.inj hq
    subst g6
    rw [g5]
    have ms := MS_lt_pop (pm := hV H0 296) (base := 7 * (n4).toNat) (ip := hV H1 346) (ia := hV H1 347) (depth := n0) (depth' := n0 + -1) (by omega) rfl
    omega
def g_287_31_23 : vG := ([(10, [12, 5], [], -1), (40, [7, 11], [], 0), (22, [11, 8, 10], [1], 0), (90, [11], [], 0), (91, [11], [], 16), (22, [10, 9, 5], [1], 0), (90, [10], [], 0), (91, [10], [], 62), (20, [9, 2], [1], 85), (0, [9], [], 346), (20, [8, 2], [1], 22), (0, [8], [], 296), (22, [7, 6, 5], [1], 0), (90, [7], [], 0), (91, [7], [], 16), (20, [6, 2], [1], 86), (0, [6], [], 347), (33, [5], [], 0), (5000, [0, 1, 2, 3, 4, 5], [0, 1], 31), (0, [0], [], 285), (90, [1], [], 0), (91, [1], [], 7), (0, [2], [], 285), (90, [3], [], 0), (91, [3], [], 7), (90, [4], [], 0), (91, [4], [], 2147483647), (90, [5], [], -1), (91, [5], [], 6)], (4000, [2, 3, 4, 12], [1], 31))
theorem c_287_31_23 {q0 : Nat} : vOkm T0 (eP e_287 L_287 A_287 mu_287 (some q0)) 2 g_287_31_23 := vOk_inI fun ρ η f0 f1 f2 f3 f4 f5 f6 f7 f8 f9 f10 f11 f12 f13 f14 f15 f16 f17 f18 f19 f20 f21 f22 f23 f24 f25 f26 f27 f28 => q_287_23 (q0 := q0) (n0 := ρ 5) (n1 := ρ 4) (n2 := ρ 3) (n3 := ρ 2) (n4 := ρ 1) (n5 := ρ 0) (n6 := ρ 6) (n7 := ρ 7) (n8 := ρ 8) (n9 := ρ 9) (n10 := ρ 10) (n11 := ρ 11) (n12 := ρ 12) (H0 := η 0) (H1 := η 1) f28 f27 f26 f25 f24 f23 f22 f21 f20 f19 f18 f17 f16 f15 f14 f13 f12 f11 f10 f9 f8 f7 f6 f5 f4 f3 f2 f1 f0
def p_287_31 : List vG := [g_287_31_0,
  g_287_31_1,
  g_287_31_2,
  g_287_31_3,
  g_287_31_4,
  g_287_31_5,
  g_287_31_6,
  g_287_31_7,
  g_287_31_8,
  g_287_31_9,
  g_287_31_10,
  g_287_31_11,
  g_287_31_12,
  g_287_31_13,
  g_287_31_14,
  g_287_31_15,
  g_287_31_16,
  g_287_31_17,
  g_287_31_18,
  g_287_31_19,
  g_287_31_20,
  g_287_31_21,
  g_287_31_22,
  g_287_31_23]
theorem r_287_31 : vCovO false (eRc e_287 L_287 cs_287 2000 (31, [(0, (3, 12, 285, 0)), (1, (0, 0, 7, 0)), (2, (0, 0, 2147483647, 0)), (3, (0, -1, 6, 0))])) p_287_31 = true := by decide +kernel
theorem q_287_24 {q0 : Nat} {n0 n1 n2 n3 n4 n5 n6 n7 n8 n9 n10 n11 : Int} {H0 H1 : gH} (f0 : n0 ≤ 9999) (f1 : (-1) ≤ n0) (f2 : n1 ≤ 9999) (f3 : (-1) ≤ n1) (f4 : n2 ≤ 1007) (f5 : 0 ≤ n2) (f6 : n3 ≤ 6) (f7 : 0 ≤ n3) (f8 : n4 ≤ 2147483647) (f9 : 0 ≤ n4) (f10 : n5 ≤ 7) (f11 : 0 ≤ n5) (f12 : n6 = 285) (f13 : n7 ≤ 7) (f14 : 0 ≤ n7) (f15 : n8 = 285) (f16 : (hLe T0 H0 H1 ∧ hFr s_287.2.2.2.2 H0 H1 ∧ hWt T0 H1) ∧ (Ab_287_147 n8 n7 n6 n5 n4 n3 n2 n1 n0 H0 H1 ∧ preb_287 n8 n7 H0) ∧ some q0 = some (mub_287_147 n8 n7 n6 n5 n4 n3 n2 n1 n0 H0 H1)) (f17 : n9 = 298) (f18 : n9 = hV H1 (n6).toNat 24) (f19 : n10 ≤ 5) (f20 : 0 ≤ n10) (f21 : n10 = hV H1 (n9).toNat (n2).toNat) (f22 : n11 = 2) (f23 : n11 ≤ n10) : Ab_287_183 n8 n7 n6 n5 n4 n3 n2 n1 n0 H0 H1 ∧ ∀ q, some q0 = some q → mub_287_183 n8 n7 n6 n5 n4 n3 n2 n1 n0 H0 H1 < q := by
  have g4 := f16.2.1.1
  unfold Ab_287_147 at g4
  have g3 := f16.2.1.2
  unfold preb_287 at g3
  have g5 := Option.some.inj f16.2.2
  unfold mub_287_147 at g5
  unfold Ab_287_183
  unfold mub_287_183
  have e0 : hV H1 298 = hV H0 298 := fRow f16.1.2.1 298 kR_287_298
  have e1 : n10 = hV H0 298 (n2).toNat := (by rw [f17] at f21; exact f21 : n10 = hV H1 298 (n2).toNat).trans ((congrFun e0 _))
  have e5 : hV H1 285 65 = hV H0 285 65 := (f16.1.2.1.1 285 65 kF_287_285_65)
  have e6 : hV H1 294 = hV H0 294 := fRow f16.1.2.1 294 kR_287_294
  have e7 : hV H1 296 = hV H0 296 := fRow f16.1.2.1 296 kR_287_296
  have e8 : hV H1 300 = hV H0 300 := fRow f16.1.2.1 300 kR_287_300
  have e9 : hV H1 301 = hV H0 301 := fRow f16.1.2.1 301 kR_287_301
  have e10 : hV H1 303 = hV H0 303 := fRow f16.1.2.1 303 kR_287_303
  have e11 : hV H1 341 = hV H0 341 := fRow f16.1.2.1 341 kR_287_341
  have e12 : (0 : Int) ≤ hV H0 285 18 ∧ hV H0 285 18 ≤ 8 := bTo ((f16.1.2.1.1 285 18 kF_287_285_18)) (f16.1.2.2 285 18 _ _ kW_285_18)
  have e13 : (0 : Int) ≤ hV H0 285 65 ∧ hV H0 285 65 ≤ 2147483647 := bTo e5 (f16.1.2.2 285 65 _ _ kW_285_65)
  try simp only [e7] at g5
  try simp only [e5, e6, e7, e0, e8, e9, e10, e11]
  have k0 := g4.1
  have y0 := g4.2.1
  have y1 := g4.2.2.1
  have y2 := g4.2.2.2.1
  have y3 := g4.2.2.2.2.1
  have y4 := g4.2.2.2.2.2.1
  have y5 := g4.2.2.2.2.2.2.1
  have y6 := g4.2.2.2.2.2.2.2.1
  have y7 := g4.2.2.2.2.2.2.2.2
  have p0 := g3.1
  have p1 := g3.2.1
  have p2 := g3.2.2
  try simp only [e6, e7] at y0
  try simp only [e6, e7, e0, e8] at y1
  try simp only [e5] at y3
  try simp only [e7, e0, e8, e9, e10, e11] at y5
  try simp only [e0] at y6
  try simp only [e0] at y7
  clear g3
  clear g4
  clear f18 f21 e0 e5 e6 e7 e8 e9 e10 e11
  clear f16
  subst e1
  try have mq := p2.2 (n1).toNat (by omega)

  refine ⟨⟨?_, ?_, ?_, ?_, ?_, ?_, ?_, ?_⟩, fun q hq => ?_⟩
  · first | omega | trivial
  · exact y0
  · exact y1
  · omega
  · omega
  · omega
  · exact ML_one y5 (by omega)
  · exact y7
  · have g6 := Option.some.inj hq
    subst g6
    omega
def g_287_147_0 : vG := ([(43, [10, 11], [], 0), (0, [11], [], 2), (22, [10, 9, 6], [1], 0), (90, [10], [], 0), (91, [10], [], 5), (20, [9, 2], [1], 24), (0, [9], [], 298), (5000, [0, 1, 2, 3, 4, 5, 6, 7, 8], [0, 1], 147), (0, [0], [], 285), (90, [1], [], 0), (91, [1], [], 7), (0, [2], [], 285), (90, [3], [], 0), (91, [3], [], 7), (90, [4], [], 0), (91, [4], [], 2147483647), (90, [5], [], 0), (91, [5], [], 6), (90, [6], [], 0), (91, [6], [], 1007), (90, [7], [], -1), (91, [7], [], 9999), (90, [8], [], -1), (91, [8], [], 9999)], (4000, [2, 3, 4, 5, 6, 7, 8], [1], 183))
theorem c_287_147_0 {q0 : Nat} : vOkm T0 (eP e_287 L_287 A_287 mu_287 (some q0)) 2 g_287_147_0 := vOk_inI fun ρ η f0 f1 f2 f3 f4 f5 f6 f7 f8 f9 f10 f11 f12 f13 f14 f15 f16 f17 f18 f19 f20 f21 f22 f23 => q_287_24 (q0 := q0) (n0 := ρ 8) (n1 := ρ 7) (n2 := ρ 6) (n3 := ρ 5) (n4 := ρ 4) (n5 := ρ 3) (n6 := ρ 2) (n7 := ρ 1) (n8 := ρ 0) (n9 := ρ 9) (n10 := ρ 10) (n11 := ρ 11) (H0 := η 0) (H1 := η 1) f23 f22 f21 f20 f19 f18 f17 f16 f15 f14 f13 f12 f11 f10 f9 f8 f7 f6 f5 f4 f3 f2 f1 f0
theorem q_287_25 {q0 : Nat} {n0 n1 n2 n3 n4 n5 n6 n7 n8 n9 n10 n11 n12 : Int} {H0 H1 : gH} (f0 : n0 ≤ 9999) (f1 : (-1) ≤ n0) (f2 : n1 ≤ 9999) (f3 : (-1) ≤ n1) (f4 : n2 ≤ 1007) (f5 : 0 ≤ n2) (f6 : n3 ≤ 6) (f7 : 0 ≤ n3) (f8 : n4 ≤ 2147483647) (f9 : 0 ≤ n4) (f10 : n5 ≤ 7) (f11 : 0 ≤ n5) (f12 : n6 = 285) (f13 : n7 ≤ 7) (f14 : 0 ≤ n7) (f15 : n8 = 285) (f16 : (hLe T0 H0 H1 ∧ hFr s_287.2.2.2.2 H0 H1 ∧ hWt T0 H1) ∧ (Ab_287_147 n8 n7 n6 n5 n4 n3 n2 n1 n0 H0 H1 ∧ preb_287 n8 n7 H0) ∧ some q0 = some (mub_287_147 n8 n7 n6 n5 n4 n3 n2 n1 n0 H0 H1)) (f17 : n9 = 298) (f18 : n9 = hV H1 (n6).toNat 24) (f19 : n10 ≤ 5) (f20 : 0 ≤ n10) (f21 : n10 = hV H1 (n9).toNat (n2).toNat) (f22 : n11 = 2) (f23 : n10 < n11) (f24 : n12 = (-1)) (f25 : n1 = n12) : Ab_287_183 n8 n7 n6 n5 n4 n3 n2 n1 n0 H0 H1 ∧ ∀ q, some q0 = some q → mub_287_183 n8 n7 n6 n5 n4 n3 n2 n1 n0 H0 H1 < q := by
  have g4 := f16.2.1.1
  unfold Ab_287_147 at g4
  have g3 := f16.2.1.2
  unfold preb_287 at g3
  have g5 := Option.some.inj f16.2.2
  unfold mub_287_147 at g5
  unfold Ab_287_183
  unfold mub_287_183
  have e0 : hV H1 298 = hV H0 298 := fRow f16.1.2.1 298 kR_287_298
  have e1 : n10 = hV H0 298 (n2).toNat := (by rw [f17] at f21; exact f21 : n10 = hV H1 298 (n2).toNat).trans ((congrFun e0 _))
  have e5 : hV H1 285 65 = hV H0 285 65 := (f16.1.2.1.1 285 65 kF_287_285_65)
  have e6 : hV H1 294 = hV H0 294 := fRow f16.1.2.1 294 kR_287_294
  have e7 : hV H1 296 = hV H0 296 := fRow f16.1.2.1 296 kR_287_296
  have e8 : hV H1 300 = hV H0 300 := fRow f16.1.2.1 300 kR_287_300
  have e9 : hV H1 301 = hV H0 301 := fRow f16.1.2.1 301 kR_287_301
  have e10 : hV H1 303 = hV H0 303 := fRow f16.1.2.1 303 kR_287_303
  have e11 : hV H1 341 = hV H0 341 := fRow f16.1.2.1 341 kR_287_341
  have e12 : (0 : Int) ≤ hV H0 285 18 ∧ hV H0 285 18 ≤ 8 := bTo ((f16.1.2.1.1 285 18 kF_287_285_18)) (f16.1.2.2 285 18 _ _ kW_285_18)
  have e13 : (0 : Int) ≤ hV H0 285 65 ∧ hV H0 285 65 ≤ 2147483647 := bTo e5 (f16.1.2.2 285 65 _ _ kW_285_65)
  try simp only [e7] at g5
  try simp only [e5, e6, e7, e0, e8, e9, e10, e11]
  have k0 := g4.1
  have y0 := g4.2.1
  have y1 := g4.2.2.1
  have y2 := g4.2.2.2.1
  have y3 := g4.2.2.2.2.1
  have y4 := g4.2.2.2.2.2.1
  have y5 := g4.2.2.2.2.2.2.1
  have y6 := g4.2.2.2.2.2.2.2.1
  have y7 := g4.2.2.2.2.2.2.2.2
  have p0 := g3.1
  have p1 := g3.2.1
  have p2 := g3.2.2
  try simp only [e6, e7] at y0
  try simp only [e6, e7, e0, e8] at y1
  try simp only [e5] at y3
  try simp only [e7, e0, e8, e9, e10, e11] at y5
  try simp only [e0] at y6
  try simp only [e0] at y7
  clear g3
  clear g4
  clear f18 f21 e0 e5 e6 e7 e8 e9 e10 e11
  clear f16
  subst e1
  try have mq := p2.2 (n1).toNat (by omega)

  refine ⟨⟨?_, ?_, ?_, ?_, ?_, ?_, ?_, ?_⟩, fun q hq => ?_⟩
  · first | omega | trivial
  · exact y0
  · exact y1
  · omega
  · omega
  · omega
  · exact ML_one y5 (by omega)
  · exact y7
  · have g6 := Option.some.inj hq
    subst g6
    omega
def g_287_147_1 : vG := ([(40, [7, 12], [], 0), (0, [12], [], -1), (42, [10, 11], [], 0), (0, [11], [], 2), (22, [10, 9, 6], [1], 0), (90, [10], [], 0), (91, [10], [], 5), (20, [9, 2], [1], 24), (0, [9], [], 298), (5000, [0, 1, 2, 3, 4, 5, 6, 7, 8], [0, 1], 147), (0, [0], [], 285), (90, [1], [], 0), (91, [1], [], 7), (0, [2], [], 285), (90, [3], [], 0), (91, [3], [], 7), (90, [4], [], 0), (91, [4], [], 2147483647), (90, [5], [], 0), (91, [5], [], 6), (90, [6], [], 0), (91, [6], [], 1007), (90, [7], [], -1), (91, [7], [], 9999), (90, [8], [], -1), (91, [8], [], 9999)], (4000, [2, 3, 4, 5, 6, 7, 8], [1], 183))
theorem c_287_147_1 {q0 : Nat} : vOkm T0 (eP e_287 L_287 A_287 mu_287 (some q0)) 2 g_287_147_1 := vOk_inI fun ρ η f0 f1 f2 f3 f4 f5 f6 f7 f8 f9 f10 f11 f12 f13 f14 f15 f16 f17 f18 f19 f20 f21 f22 f23 f24 f25 => q_287_25 (q0 := q0) (n0 := ρ 8) (n1 := ρ 7) (n2 := ρ 6) (n3 := ρ 5) (n4 := ρ 4) (n5 := ρ 3) (n6 := ρ 2) (n7 := ρ 1) (n8 := ρ 0) (n9 := ρ 9) (n10 := ρ 10) (n11 := ρ 11) (n12 := ρ 12) (H0 := η 0) (H1 := η 1) f25 f24 f23 f22 f21 f20 f19 f18 f17 f16 f15 f14 f13 f12 f11 f10 f9 f8 f7 f6 f5 f4 f3 f2 f1 f0
theorem q_287_26 {q0 : Nat} {n0 n1 n2 n3 n4 n5 n6 n7 n8 n9 n10 n11 n12 : Int} {H0 H1 : gH} (f0 : (-1) ≤ n0) (f1 : n1 = 285) (f2 : n2 = 285) (f3 : (hLe T0 H0 H1 ∧ hFr s_287.2.2.2.2 H0 H1 ∧ hWt T0 H1) ∧ (Ab_287_147 n2 n3 n1 n4 n5 n6 n7 n0 n8 H0 H1 ∧ preb_287 n2 n3 H0) ∧ some q0 = some (mub_287_147 n2 n3 n1 n4 n5 n6 n7 n0 n8 H0 H1)) (f4 : n9 = 298) (f5 : n10 = hV H1 (n9).toNat (n7).toNat) (f6 : n11 = 2) (f7 : n10 < n11) (f8 : n12 = (-1)) (f9 : n0 ≠ n12) : 0 ≤ n0 ∧ n0 < 8 := by
  have g4 := f3.2.1.1
  unfold Ab_287_147 at g4
  have g3 := f3.2.1.2
  unfold preb_287 at g3
  have e0 : hV H1 298 = hV H0 298 := fRow f3.1.2.1 298 kR_287_298
  have e1 : n10 = hV H0 298 (n7).toNat := (by rw [f4] at f5; exact f5 : n10 = hV H1 298 (n7).toNat).trans ((congrFun e0 _))
  have e5 : hV H1 285 65 = hV H0 285 65 := (f3.1.2.1.1 285 65 kF_287_285_65)
  have e6 : hV H1 294 = hV H0 294 := fRow f3.1.2.1 294 kR_287_294
  have e7 : hV H1 296 = hV H0 296 := fRow f3.1.2.1 296 kR_287_296
  have e8 : hV H1 300 = hV H0 300 := fRow f3.1.2.1 300 kR_287_300
  have e9 : hV H1 301 = hV H0 301 := fRow f3.1.2.1 301 kR_287_301
  have e10 : hV H1 303 = hV H0 303 := fRow f3.1.2.1 303 kR_287_303
  have e11 : hV H1 341 = hV H0 341 := fRow f3.1.2.1 341 kR_287_341
  have e12 : (0 : Int) ≤ hV H0 285 18 ∧ hV H0 285 18 ≤ 8 := bTo ((f3.1.2.1.1 285 18 kF_287_285_18)) (f3.1.2.2 285 18 _ _ kW_285_18)
  have e13 : (0 : Int) ≤ hV H0 285 65 ∧ hV H0 285 65 ≤ 2147483647 := bTo e5 (f3.1.2.2 285 65 _ _ kW_285_65)
  have k0 := g4.1
  have y0 := g4.2.1
  have y1 := g4.2.2.1
  have y2 := g4.2.2.2.1
  have y3 := g4.2.2.2.2.1
  have y4 := g4.2.2.2.2.2.1
  have y5 := g4.2.2.2.2.2.2.1
  have y6 := g4.2.2.2.2.2.2.2.1
  have y7 := g4.2.2.2.2.2.2.2.2
  have p0 := g3.1
  have p1 := g3.2.1
  have p2 := g3.2.2
  try simp only [e6, e7] at y0
  try simp only [e6, e7, e0, e8] at y1
  try simp only [e5] at y3
  try simp only [e7, e0, e8, e9, e10, e11] at y5
  try simp only [e0] at y6
  try simp only [e0] at y7
  clear g3
  clear g4
  clear f5 e0 e5 e6 e7 e8 e9 e10 e11
  clear f3
  subst e1
  try subst k0
  omega
def g_287_147_2 : vG := ([(41, [7, 12], [], 0), (0, [12], [], -1), (42, [10, 11], [], 0), (0, [11], [], 2), (22, [10, 9, 6], [1], 0), (0, [9], [], 298), (5000, [0, 1, 2, 3, 4, 5, 6, 7, 8], [0, 1], 147), (0, [0], [], 285), (0, [2], [], 285), (90, [7], [], -1)], (70, [7], [], 8))
theorem c_287_147_2 {q0 : Nat} : vOkm T0 (eP e_287 L_287 A_287 mu_287 (some q0)) 2 g_287_147_2 := vOk_inI fun ρ η f0 f1 f2 f3 f4 f5 f6 f7 f8 f9 => q_287_26 (q0 := q0) (n0 := ρ 7) (n1 := ρ 2) (n2 := ρ 0) (n3 := ρ 1) (n4 := ρ 3) (n5 := ρ 4) (n6 := ρ 5) (n7 := ρ 6) (n8 := ρ 8) (n9 := ρ 9) (n10 := ρ 10) (n11 := ρ 11) (n12 := ρ 12) (H0 := η 0) (H1 := η 1) f9 f8 f7 f6 f5 f4 f3 f2 f1 f0
theorem q_287_27 {q0 : Nat} {n0 n1 n2 n3 n4 n5 n6 n7 n8 n9 n10 n11 n12 n13 n14 : Int} {H0 H1 : gH} (f0 : n0 ≤ 9999) (f1 : (-1) ≤ n0) (f2 : n1 ≤ 9999) (f3 : (-1) ≤ n1) (f4 : n2 ≤ 1007) (f5 : 0 ≤ n2) (f6 : n3 ≤ 6) (f7 : 0 ≤ n3) (f8 : n4 ≤ 2147483647) (f9 : 0 ≤ n4) (f10 : n5 ≤ 7) (f11 : 0 ≤ n5) (f12 : n6 = 285) (f13 : n7 ≤ 7) (f14 : 0 ≤ n7) (f15 : n8 = 285) (f16 : (hLe T0 H0 H1 ∧ hFr s_287.2.2.2.2 H0 H1 ∧ hWt T0 H1) ∧ (Ab_287_147 n8 n7 n6 n5 n4 n3 n2 n1 n0 H0 H1 ∧ preb_287 n8 n7 H0) ∧ some q0 = some (mub_287_147 n8 n7 n6 n5 n4 n3 n2 n1 n0 H0 H1)) (f17 : n9 = 298) (f18 : n9 = hV H1 (n6).toNat 24) (f19 : n10 ≤ 5) (f20 : 0 ≤ n10) (f21 : n10 = hV H1 (n9).toNat (n2).toNat) (f22 : n11 = 2) (f23 : n10 < n11) (f24 : n12 = (-1)) (f25 : n1 ≠ n12) (f26 : n13 = 341) (f27 : n13 = hV H1 (n6).toNat 79) (f28 : n14 ≤ 2147483647) (f29 : 0 ≤ n14) (f30 : n14 = hV H1 (n13).toNat (n1).toNat) (f31 : n14 ≤ n4) : Ab_287_183 n8 n7 n6 n5 n4 n3 n2 n1 n0 H0 H1 ∧ ∀ q, some q0 = some q → mub_287_183 n8 n7 n6 n5 n4 n3 n2 n1 n0 H0 H1 < q := by
  have g4 := f16.2.1.1
  unfold Ab_287_147 at g4
  have g3 := f16.2.1.2
  unfold preb_287 at g3
  have g5 := Option.some.inj f16.2.2
  unfold mub_287_147 at g5
  unfold Ab_287_183
  unfold mub_287_183
  have e0 : hV H1 298 = hV H0 298 := fRow f16.1.2.1 298 kR_287_298
  have e1 : n10 = hV H0 298 (n2).toNat := (by rw [f17] at f21; exact f21 : n10 = hV H1 298 (n2).toNat).trans ((congrFun e0 _))
  have e2 : hV H1 341 = hV H0 341 := fRow f16.1.2.1 341 kR_287_341
  have e3 : n14 = hV H0 341 (n1).toNat := (by rw [f26] at f30; exact f30 : n14 = hV H1 341 (n1).toNat).trans ((congrFun e2 _))
  have e7 : hV H1 285 65 = hV H0 285 65 := (f16.1.2.1.1 285 65 kF_287_285_65)
  have e8 : hV H1 294 = hV H0 294 := fRow f16.1.2.1 294 kR_287_294
  have e9 : hV H1 296 = hV H0 296 := fRow f16.1.2.1 296 kR_287_296
  have e10 : hV H1 300 = hV H0 300 := fRow f16.1.2.1 300 kR_287_300
  have e11 : hV H1 301 = hV H0 301 := fRow f16.1.2.1 301 kR_287_301
  have e12 : hV H1 303 = hV H0 303 := fRow f16.1.2.1 303 kR_287_303
  have e13 : (0 : Int) ≤ hV H0 285 18 ∧ hV H0 285 18 ≤ 8 := bTo ((f16.1.2.1.1 285 18 kF_287_285_18)) (f16.1.2.2 285 18 _ _ kW_285_18)
  have e14 : (0 : Int) ≤ hV H0 285 65 ∧ hV H0 285 65 ≤ 2147483647 := bTo e7 (f16.1.2.2 285 65 _ _ kW_285_65)
  try simp only [e9] at g5
  try simp only [e7, e8, e9, e0, e10, e11, e12, e2]
  have k0 := g4.1
  have y0 := g4.2.1
  have y1 := g4.2.2.1
  have y2 := g4.2.2.2.1
  have y3 := g4.2.2.2.2.1
  have y4 := g4.2.2.2.2.2.1
  have y5 := g4.2.2.2.2.2.2.1
  have y6 := g4.2.2.2.2.2.2.2.1
  have y7 := g4.2.2.2.2.2.2.2.2
  have p0 := g3.1
  have p1 := g3.2.1
  have p2 := g3.2.2
  try simp only [e8, e9] at y0
  try simp only [e8, e9, e0, e10] at y1
  try simp only [e7] at y3
  try simp only [e9, e0, e10, e11, e12, e2] at y5
  try simp only [e0] at y6
  try simp only [e0] at y7
  clear g3
  clear g4
  clear f18 f21 f27 f30 e0 e2 e7 e8 e9 e10 e11 e12
  clear f16
  subst e1
  subst e3
  try have mq := p2.2 (n1).toNat (by omega)

  refine ⟨⟨?_, ?_, ?_, ?_, ?_, ?_, ?_, ?_⟩, fun q hq => ?_⟩
  · first | omega | trivial
  · exact y0
  · exact y1
  · omega
  · omega
  · omega
  · exact ML_one y5 (by omega)
  · exact y7
  · have g6 := Option.some.inj hq
    subst g6
    omega
def g_287_147_3 : vG := ([(45, [14, 4], [], 0), (22, [14, 13, 7], [1], 0), (90, [14], [], 0), (91, [14], [], 2147483647), (20, [13, 2], [1], 79), (0, [13], [], 341), (41, [7, 12], [], 0), (0, [12], [], -1), (42, [10, 11], [], 0), (0, [11], [], 2), (22, [10, 9, 6], [1], 0), (90, [10], [], 0), (91, [10], [], 5), (20, [9, 2], [1], 24), (0, [9], [], 298), (5000, [0, 1, 2, 3, 4, 5, 6, 7, 8], [0, 1], 147), (0, [0], [], 285), (90, [1], [], 0), (91, [1], [], 7), (0, [2], [], 285), (90, [3], [], 0), (91, [3], [], 7), (90, [4], [], 0), (91, [4], [], 2147483647), (90, [5], [], 0), (91, [5], [], 6), (90, [6], [], 0), (91, [6], [], 1007), (90, [7], [], -1), (91, [7], [], 9999), (90, [8], [], -1), (91, [8], [], 9999)], (4000, [2, 3, 4, 5, 6, 7, 8], [1], 183))
theorem c_287_147_3 {q0 : Nat} : vOkm T0 (eP e_287 L_287 A_287 mu_287 (some q0)) 2 g_287_147_3 := vOk_inI fun ρ η f0 f1 f2 f3 f4 f5 f6 f7 f8 f9 f10 f11 f12 f13 f14 f15 f16 f17 f18 f19 f20 f21 f22 f23 f24 f25 f26 f27 f28 f29 f30 f31 => q_287_27 (q0 := q0) (n0 := ρ 8) (n1 := ρ 7) (n2 := ρ 6) (n3 := ρ 5) (n4 := ρ 4) (n5 := ρ 3) (n6 := ρ 2) (n7 := ρ 1) (n8 := ρ 0) (n9 := ρ 9) (n10 := ρ 10) (n11 := ρ 11) (n12 := ρ 12) (n13 := ρ 13) (n14 := ρ 14) (H0 := η 0) (H1 := η 1) f31 f30 f29 f28 f27 f26 f25 f24 f23 f22 f21 f20 f19 f18 f17 f16 f15 f14 f13 f12 f11 f10 f9 f8 f7 f6 f5 f4 f3 f2 f1 f0
def g_287_147_4 : vG := ([(41, [7, 12], [], 0), (0, [12], [], -1), (42, [10, 11], [], 0), (0, [11], [], 2), (22, [10, 9, 6], [1], 0), (0, [9], [], 298), (5000, [0, 1, 2, 3, 4, 5, 6, 7, 8], [0, 1], 147), (0, [0], [], 285), (0, [2], [], 285), (90, [7], [], -1)], (70, [7], [], 8))
theorem c_287_147_4 {q0 : Nat} : vOkm T0 (eP e_287 L_287 A_287 mu_287 (some q0)) 2 g_287_147_4 := vOk_inI fun ρ η f0 f1 f2 f3 f4 f5 f6 f7 f8 f9 => q_287_26 (q0 := q0) (n0 := ρ 7) (n1 := ρ 2) (n2 := ρ 0) (n3 := ρ 1) (n4 := ρ 3) (n5 := ρ 4) (n6 := ρ 5) (n7 := ρ 6) (n8 := ρ 8) (n9 := ρ 9) (n10 := ρ 10) (n11 := ρ 11) (n12 := ρ 12) (H0 := η 0) (H1 := η 1) f9 f8 f7 f6 f5 f4 f3 f2 f1 f0
theorem q_287_28 {q0 : Nat} {n0 n1 n2 n3 n4 n5 n6 n7 n8 n9 n10 n11 n12 n13 n14 n15 n16 : Int} {H0 H1 : gH} (f0 : n0 ≤ 9999) (f1 : (-1) ≤ n0) (f2 : n1 ≤ 9999) (f3 : (-1) ≤ n1) (f4 : n2 ≤ 1007) (f5 : 0 ≤ n2) (f6 : n3 ≤ 6) (f7 : 0 ≤ n3) (f8 : n4 ≤ 2147483647) (f9 : 0 ≤ n4) (f10 : n5 ≤ 7) (f11 : 0 ≤ n5) (f12 : n6 = 285) (f13 : n7 ≤ 7) (f14 : 0 ≤ n7) (f15 : n8 = 285) (f16 : (hLe T0 H0 H1 ∧ hFr s_287.2.2.2.2 H0 H1 ∧ hWt T0 H1) ∧ (Ab_287_147 n8 n7 n6 n5 n4 n3 n2 n1 n0 H0 H1 ∧ preb_287 n8 n7 H0) ∧ some q0 = some (mub_287_147 n8 n7 n6 n5 n4 n3 n2 n1 n0 H0 H1)) (f17 : n9 = 298) (f18 : n9 = hV H1 (n6).toNat 24) (f19 : n10 ≤ 5) (f20 : 0 ≤ n10) (f21 : n10 = hV H1 (n9).toNat (n2).toNat) (f22 : n11 = 2) (f23 : n10 < n11) (f24 : n12 = (-1)) (f25 : n1 ≠ n12) (f26 : n13 = 341) (f27 : n13 = hV H1 (n6).toNat 79) (f28 : n14 ≤ 2147483647) (f29 : 0 ≤ n14) (f30 : n14 = hV H1 (n13).toNat (n1).toNat) (f31 : n4 < n14) (f32 : n15 = 341) (f33 : n15 = hV H1 (n6).toNat 79) (f34 : n16 ≤ 2147483647) (f35 : 0 ≤ n16) (f36 : n16 = hV H1 (n15).toNat (n1).toNat) : Ab_287_183 n8 n7 n6 n5 n16 n3 n2 n1 n0 H0 H1 ∧ ∀ q, some q0 = some q → mub_287_183 n8 n7 n6 n5 n16 n3 n2 n1 n0 H0 H1 < q := by
  have g4 := f16.2.1.1
  unfold Ab_287_147 at g4
  have g3 := f16.2.1.2
  unfold preb_287 at g3
  have g5 := Option.some.inj f16.2.2
  unfold mub_287_147 at g5
  unfold Ab_287_183
  unfold mub_287_183
  have e0 : hV H1 298 = hV H0 298 := fRow f16.1.2.1 298 kR_287_298
  have e1 : n10 = hV H0 298 (n2).toNat := (by rw [f17] at f21; exact f21 : n10 = hV H1 298 (n2).toNat).trans ((congrFun e0 _))
  have e2 : hV H1 341 = hV H0 341 := fRow f16.1.2.1 341 kR_287_341
  have e3 : n14 = hV H0 341 (n1).toNat := (by rw [f26] at f30; exact f30 : n14 = hV H1 341 (n1).toNat).trans ((congrFun e2 _))
  have e4 : n16 = hV H0 341 (n1).toNat := (by rw [f32] at f36; exact f36 : n16 = hV H1 341 (n1).toNat).trans ((congrFun e2 _))
  have e8 : hV H1 285 65 = hV H0 285 65 := (f16.1.2.1.1 285 65 kF_287_285_65)
  have e9 : hV H1 294 = hV H0 294 := fRow f16.1.2.1 294 kR_287_294
  have e10 : hV H1 296 = hV H0 296 := fRow f16.1.2.1 296 kR_287_296
  have e11 : hV H1 300 = hV H0 300 := fRow f16.1.2.1 300 kR_287_300
  have e12 : hV H1 301 = hV H0 301 := fRow f16.1.2.1 301 kR_287_301
  have e13 : hV H1 303 = hV H0 303 := fRow f16.1.2.1 303 kR_287_303
  have e14 : (0 : Int) ≤ hV H0 285 18 ∧ hV H0 285 18 ≤ 8 := bTo ((f16.1.2.1.1 285 18 kF_287_285_18)) (f16.1.2.2 285 18 _ _ kW_285_18)
  have e15 : (0 : Int) ≤ hV H0 285 65 ∧ hV H0 285 65 ≤ 2147483647 := bTo e8 (f16.1.2.2 285 65 _ _ kW_285_65)
  try simp only [e10] at g5
  try simp only [e8, e9, e10, e0, e11, e12, e13, e2]
  have k0 := g4.1
  have y0 := g4.2.1
  have y1 := g4.2.2.1
  have y2 := g4.2.2.2.1
  have y3 := g4.2.2.2.2.1
  have y4 := g4.2.2.2.2.2.1
  have y5 := g4.2.2.2.2.2.2.1
  have y6 := g4.2.2.2.2.2.2.2.1
  have y7 := g4.2.2.2.2.2.2.2.2
  have p0 := g3.1
  have p1 := g3.2.1
  have p2 := g3.2.2
  try simp only [e9, e10] at y0
  try simp only [e9, e10, e0, e11] at y1
  try simp only [e8] at y3
  try simp only [e10, e0, e11, e12, e13, e2] at y5
  try simp only [e0] at y6
  try simp only [e0] at y7
  clear g3
  clear g4
  clear f18 f21 f27 f30 f33 f36 e0 e2 e8 e9 e10 e11 e12 e13
  clear f16
  subst e1
  subst e3
  subst e4
  try have mq := p2.2 (n1).toNat (by omega)

  refine ⟨⟨?_, ?_, ?_, ?_, ?_, ?_, ?_, ?_⟩, fun q hq => ?_⟩
  · first | omega | trivial
  · exact y0
  · exact y1
  · omega
  · omega
  · omega
  · exact ML_one y5 (by omega)
  · exact y7
  · have g6 := Option.some.inj hq
    subst g6
    omega
def g_287_147_5 : vG := ([(22, [16, 15, 7], [1], 0), (90, [16], [], 0), (91, [16], [], 2147483647), (20, [15, 2], [1], 79), (0, [15], [], 341), (44, [14, 4], [], 0), (22, [14, 13, 7], [1], 0), (90, [14], [], 0), (91, [14], [], 2147483647), (20, [13, 2], [1], 79), (0, [13], [], 341), (41, [7, 12], [], 0), (0, [12], [], -1), (42, [10, 11], [], 0), (0, [11], [], 2), (22, [10, 9, 6], [1], 0), (90, [10], [], 0), (91, [10], [], 5), (20, [9, 2], [1], 24), (0, [9], [], 298), (5000, [0, 1, 2, 3, 4, 5, 6, 7, 8], [0, 1], 147), (0, [0], [], 285), (90, [1], [], 0), (91, [1], [], 7), (0, [2], [], 285), (90, [3], [], 0), (91, [3], [], 7), (90, [4], [], 0), (91, [4], [], 2147483647), (90, [5], [], 0), (91, [5], [], 6), (90, [6], [], 0), (91, [6], [], 1007), (90, [7], [], -1), (91, [7], [], 9999), (90, [8], [], -1), (91, [8], [], 9999)], (4000, [2, 3, 16, 5, 6, 7, 8], [1], 183))
theorem c_287_147_5 {q0 : Nat} : vOkm T0 (eP e_287 L_287 A_287 mu_287 (some q0)) 2 g_287_147_5 := vOk_inI fun ρ η f0 f1 f2 f3 f4 f5 f6 f7 f8 f9 f10 f11 f12 f13 f14 f15 f16 f17 f18 f19 f20 f21 f22 f23 f24 f25 f26 f27 f28 f29 f30 f31 f32 f33 f34 f35 f36 => q_287_28 (q0 := q0) (n0 := ρ 8) (n1 := ρ 7) (n2 := ρ 6) (n3 := ρ 5) (n4 := ρ 4) (n5 := ρ 3) (n6 := ρ 2) (n7 := ρ 1) (n8 := ρ 0) (n9 := ρ 9) (n10 := ρ 10) (n11 := ρ 11) (n12 := ρ 12) (n13 := ρ 13) (n14 := ρ 14) (n15 := ρ 15) (n16 := ρ 16) (H0 := η 0) (H1 := η 1) f36 f35 f34 f33 f32 f31 f30 f29 f28 f27 f26 f25 f24 f23 f22 f21 f20 f19 f18 f17 f16 f15 f14 f13 f12 f11 f10 f9 f8 f7 f6 f5 f4 f3 f2 f1 f0
def p_287_147 : List vG := [g_287_147_0,
  g_287_147_1,
  g_287_147_2,
  g_287_147_3,
  g_287_147_4,
  g_287_147_5]
theorem r_287_147 : vCovO false (eRc e_287 L_287 cs_287 2000 (147, [(0, (3, 12, 285, 0)), (1, (0, 0, 7, 0)), (2, (0, 0, 2147483647, 0)), (3, (0, 0, 6, 0)), (4, (0, 0, 1007, 0)), (5, (0, -1, 9999, 0)), (6, (0, -1, 9999, 0))])) p_287_147 = true := by decide +kernel
theorem q_287_29 {q0 : Nat} {n0 n1 n2 n3 n4 n5 n6 n7 n8 n9 n10 n11 : Int} {H0 H1 : gH} (f0 : n0 ≤ 9999) (f1 : (-1) ≤ n0) (f2 : n1 ≤ 9999) (f3 : (-1) ≤ n1) (f4 : n2 ≤ 1007) (f5 : 0 ≤ n2) (f6 : n3 ≤ 6) (f7 : 0 ≤ n3) (f8 : n4 ≤ 2147483647) (f9 : 0 ≤ n4) (f10 : n5 ≤ 7) (f11 : 0 ≤ n5) (f12 : n6 = 285) (f13 : n7 ≤ 7) (f14 : 0 ≤ n7) (f15 : n8 = 285) (f16 : (hLe T0 H0 H1 ∧ hFr s_287.2.2.2.2 H0 H1 ∧ hWt T0 H1) ∧ (Ab_287_183 n8 n7 n6 n5 n4 n3 n2 n1 n0 H0 H1 ∧ preb_287 n8 n7 H0) ∧ some q0 = some (mub_287_183 n8 n7 n6 n5 n4 n3 n2 n1 n0 H0 H1)) (f17 : n9 = 298) (f18 : n9 = hV H1 (n6).toNat 24) (f19 : n10 ≤ 5) (f20 : 0 ≤ n10) (f21 : n10 = hV H1 (n9).toNat (n2).toNat) (f22 : n11 = 1) (f23 : n10 ≠ n11) : Ab_287_219 n8 n7 n6 n5 n4 n3 n2 n1 n0 H0 H1 ∧ ∀ q, some q0 = some q → mub_287_219 n8 n7 n6 n5 n4 n3 n2 n1 n0 H0 H1 < q := by
  have g4 := f16.2.1.1
  unfold Ab_287_183 at g4
  have g3 := f16.2.1.2
  unfold preb_287 at g3
  have g5 := Option.some.inj f16.2.2
  unfold mub_287_183 at g5
  unfold Ab_287_219
  unfold mub_287_219
  have e0 : hV H1 298 = hV H0 298 := fRow f16.1.2.1 298 kR_287_298
  have e1 : n10 = hV H0 298 (n2).toNat := (by rw [f17] at f21; exact f21 : n10 = hV H1 298 (n2).toNat).trans ((congrFun e0 _))
  have e5 : hV H1 285 65 = hV H0 285 65 := (f16.1.2.1.1 285 65 kF_287_285_65)
  have e6 : hV H1 294 = hV H0 294 := fRow f16.1.2.1 294 kR_287_294
  have e7 : hV H1 296 = hV H0 296 := fRow f16.1.2.1 296 kR_287_296
  have e8 : hV H1 300 = hV H0 300 := fRow f16.1.2.1 300 kR_287_300
  have e9 : hV H1 301 = hV H0 301 := fRow f16.1.2.1 301 kR_287_301
  have e10 : hV H1 303 = hV H0 303 := fRow f16.1.2.1 303 kR_287_303
  have e11 : hV H1 341 = hV H0 341 := fRow f16.1.2.1 341 kR_287_341
  have e12 : (0 : Int) ≤ hV H0 285 18 ∧ hV H0 285 18 ≤ 8 := bTo ((f16.1.2.1.1 285 18 kF_287_285_18)) (f16.1.2.2 285 18 _ _ kW_285_18)
  have e13 : (0 : Int) ≤ hV H0 285 65 ∧ hV H0 285 65 ≤ 2147483647 := bTo e5 (f16.1.2.2 285 65 _ _ kW_285_65)
  try simp only [e7] at g5
  try simp only [e5, e6, e7, e0, e8, e9, e10, e11]
  have k0 := g4.1
  have y0 := g4.2.1
  have y1 := g4.2.2.1
  have y2 := g4.2.2.2.1
  have y3 := g4.2.2.2.2.1
  have y4 := g4.2.2.2.2.2.1
  have y5 := g4.2.2.2.2.2.2.1
  have y6 := g4.2.2.2.2.2.2.2
  have p0 := g3.1
  have p1 := g3.2.1
  have p2 := g3.2.2
  try simp only [e6, e7] at y0
  try simp only [e6, e7, e0, e8] at y1
  try simp only [e5] at y3
  try simp only [e7, e0, e8, e9, e10, e11] at y5
  try simp only [e0] at y6
  clear g3
  clear g4
  clear f18 f21 e0 e5 e6 e7 e8 e9 e10 e11
  clear f16
  subst e1
  try have mq := p2.2 (n0).toNat (by omega)

  refine ⟨⟨?_, ?_, ?_, ?_, ?_, ?_, ?_⟩, fun q hq => ?_⟩
  · first | omega | trivial
  · exact y0
  · exact y1
  · omega
  · omega
  · omega
  · exact ML_one y5 (by omega)
  · have g6 := Option.some.inj hq
    subst g6
    omega
def g_287_183_0 : vG := ([(41, [10, 11], [], 0), (0, [11], [], 1), (22, [10, 9, 6], [1], 0), (90, [10], [], 0), (91, [10], [], 5), (20, [9, 2], [1], 24), (0, [9], [], 298), (5000, [0, 1, 2, 3, 4, 5, 6, 7, 8], [0, 1], 183), (0, [0], [], 285), (90, [1], [], 0), (91, [1], [], 7), (0, [2], [], 285), (90, [3], [], 0), (91, [3], [], 7), (90, [4], [], 0), (91, [4], [], 2147483647), (90, [5], [], 0), (91, [5], [], 6), (90, [6], [], 0), (91, [6], [], 1007), (90, [7], [], -1), (91, [7], [], 9999), (90, [8], [], -1), (91, [8], [], 9999)], (4000, [2, 3, 4, 5, 6, 7, 8], [1], 219))
theorem c_287_183_0 {q0 : Nat} : vOkm T0 (eP e_287 L_287 A_287 mu_287 (some q0)) 2 g_287_183_0 := vOk_inI fun ρ η f0 f1 f2 f3 f4 f5 f6 f7 f8 f9 f10 f11 f12 f13 f14 f15 f16 f17 f18 f19 f20 f21 f22 f23 => q_287_29 (q0 := q0) (n0 := ρ 8) (n1 := ρ 7) (n2 := ρ 6) (n3 := ρ 5) (n4 := ρ 4) (n5 := ρ 3) (n6 := ρ 2) (n7 := ρ 1) (n8 := ρ 0) (n9 := ρ 9) (n10 := ρ 10) (n11 := ρ 11) (H0 := η 0) (H1 := η 1) f23 f22 f21 f20 f19 f18 f17 f16 f15 f14 f13 f12 f11 f10 f9 f8 f7 f6 f5 f4 f3 f2 f1 f0
theorem q_287_30 {q0 : Nat} {n0 n1 n2 n3 n4 n5 n6 n7 n8 n9 n10 n11 n12 : Int} {H0 H1 : gH} (f0 : n0 ≤ 9999) (f1 : (-1) ≤ n0) (f2 : n1 ≤ 9999) (f3 : (-1) ≤ n1) (f4 : n2 ≤ 1007) (f5 : 0 ≤ n2) (f6 : n3 ≤ 6) (f7 : 0 ≤ n3) (f8 : n4 ≤ 2147483647) (f9 : 0 ≤ n4) (f10 : n5 ≤ 7) (f11 : 0 ≤ n5) (f12 : n6 = 285) (f13 : n7 ≤ 7) (f14 : 0 ≤ n7) (f15 : n8 = 285) (f16 : (hLe T0 H0 H1 ∧ hFr s_287.2.2.2.2 H0 H1 ∧ hWt T0 H1) ∧ (Ab_287_183 n8 n7 n6 n5 n4 n3 n2 n1 n0 H0 H1 ∧ preb_287 n8 n7 H0) ∧ some q0 = some (mub_287_183 n8 n7 n6 n5 n4 n3 n2 n1 n0 H0 H1)) (f17 : n9 = 298) (f18 : n9 = hV H1 (n6).toNat 24) (f19 : n10 ≤ 5) (f20 : 0 ≤ n10) (f21 : n10 = hV H1 (n9).toNat (n2).toNat) (f22 : n11 = 1) (f23 : n10 = n11) (f24 : n12 = (-1)) (f25 : n0 = n12) : Ab_287_219 n8 n7 n6 n5 n4 n3 n2 n1 n0 H0 H1 ∧ ∀ q, some q0 = some q → mub_287_219 n8 n7 n6 n5 n4 n3 n2 n1 n0 H0 H1 < q := by
  have g4 := f16.2.1.1
  unfold Ab_287_183 at g4
  have g3 := f16.2.1.2
  unfold preb_287 at g3
  have g5 := Option.some.inj f16.2.2
  unfold mub_287_183 at g5
  unfold Ab_287_219
  unfold mub_287_219
  have e0 : hV H1 298 = hV H0 298 := fRow f16.1.2.1 298 kR_287_298
  have e1 : n10 = hV H0 298 (n2).toNat := (by rw [f17] at f21; exact f21 : n10 = hV H1 298 (n2).toNat).trans ((congrFun e0 _))
  have e5 : hV H1 285 65 = hV H0 285 65 := (f16.1.2.1.1 285 65 kF_287_285_65)
  have e6 : hV H1 294 = hV H0 294 := fRow f16.1.2.1 294 kR_287_294
  have e7 : hV H1 296 = hV H0 296 := fRow f16.1.2.1 296 kR_287_296
  have e8 : hV H1 300 = hV H0 300 := fRow f16.1.2.1 300 kR_287_300
  have e9 : hV H1 301 = hV H0 301 := fRow f16.1.2.1 301 kR_287_301
  have e10 : hV H1 303 = hV H0 303 := fRow f16.1.2.1 303 kR_287_303
  have e11 : hV H1 341 = hV H0 341 := fRow f16.1.2.1 341 kR_287_341
  have e12 : (0 : Int) ≤ hV H0 285 18 ∧ hV H0 285 18 ≤ 8 := bTo ((f16.1.2.1.1 285 18 kF_287_285_18)) (f16.1.2.2 285 18 _ _ kW_285_18)
  have e13 : (0 : Int) ≤ hV H0 285 65 ∧ hV H0 285 65 ≤ 2147483647 := bTo e5 (f16.1.2.2 285 65 _ _ kW_285_65)
  try simp only [e7] at g5
  try simp only [e5, e6, e7, e0, e8, e9, e10, e11]
  have k0 := g4.1
  have y0 := g4.2.1
  have y1 := g4.2.2.1
  have y2 := g4.2.2.2.1
  have y3 := g4.2.2.2.2.1
  have y4 := g4.2.2.2.2.2.1
  have y5 := g4.2.2.2.2.2.2.1
  have y6 := g4.2.2.2.2.2.2.2
  have p0 := g3.1
  have p1 := g3.2.1
  have p2 := g3.2.2
  try simp only [e6, e7] at y0
  try simp only [e6, e7, e0, e8] at y1
  try simp only [e5] at y3
  try simp only [e7, e0, e8, e9, e10, e11] at y5
  try simp only [e0] at y6
  clear g3
  clear g4
  clear f18 f21 e0 e5 e6 e7 e8 e9 e10 e11
  clear f16
  subst e1
  try have mq := p2.2 (n0).toNat (by omega)

  refine ⟨⟨?_, ?_, ?_, ?_, ?_, ?_, ?_⟩, fun q hq => ?_⟩
  · first | omega | trivial
  · exact y0
  · exact y1
  · omega
  · omega
  · omega
  · exact ML_one y5 (by omega)
  · have g6 := Option.some.inj hq
    subst g6
    omega
def g_287_183_1 : vG := ([(40, [8, 12], [], 0), (0, [12], [], -1), (40, [10, 11], [], 0), (0, [11], [], 1), (22, [10, 9, 6], [1], 0), (90, [10], [], 0), (91, [10], [], 5), (20, [9, 2], [1], 24), (0, [9], [], 298), (5000, [0, 1, 2, 3, 4, 5, 6, 7, 8], [0, 1], 183), (0, [0], [], 285), (90, [1], [], 0), (91, [1], [], 7), (0, [2], [], 285), (90, [3], [], 0), (91, [3], [], 7), (90, [4], [], 0), (91, [4], [], 2147483647), (90, [5], [], 0), (91, [5], [], 6), (90, [6], [], 0), (91, [6], [], 1007), (90, [7], [], -1), (91, [7], [], 9999), (90, [8], [], -1), (91, [8], [], 9999)], (4000, [2, 3, 4, 5, 6, 7, 8], [1], 219))
theorem c_287_183_1 {q0 : Nat} : vOkm T0 (eP e_287 L_287 A_287 mu_287 (some q0)) 2 g_287_183_1 := vOk_inI fun ρ η f0 f1 f2 f3 f4 f5 f6 f7 f8 f9 f10 f11 f12 f13 f14 f15 f16 f17 f18 f19 f20 f21 f22 f23 f24 f25 => q_287_30 (q0 := q0) (n0 := ρ 8) (n1 := ρ 7) (n2 := ρ 6) (n3 := ρ 5) (n4 := ρ 4) (n5 := ρ 3) (n6 := ρ 2) (n7 := ρ 1) (n8 := ρ 0) (n9 := ρ 9) (n10 := ρ 10) (n11 := ρ 11) (n12 := ρ 12) (H0 := η 0) (H1 := η 1) f25 f24 f23 f22 f21 f20 f19 f18 f17 f16 f15 f14 f13 f12 f11 f10 f9 f8 f7 f6 f5 f4 f3 f2 f1 f0
theorem q_287_31 {q0 : Nat} {n0 n1 n2 n3 n4 n5 n6 n7 n8 n9 n10 n11 n12 : Int} {H0 H1 : gH} (f0 : (-1) ≤ n0) (f1 : n1 = 285) (f2 : n2 = 285) (f3 : (hLe T0 H0 H1 ∧ hFr s_287.2.2.2.2 H0 H1 ∧ hWt T0 H1) ∧ (Ab_287_183 n2 n3 n1 n4 n5 n6 n7 n8 n0 H0 H1 ∧ preb_287 n2 n3 H0) ∧ some q0 = some (mub_287_183 n2 n3 n1 n4 n5 n6 n7 n8 n0 H0 H1)) (f4 : n9 = 298) (f5 : n10 = hV H1 (n9).toNat (n7).toNat) (f6 : n11 = 1) (f7 : n10 = n11) (f8 : n12 = (-1)) (f9 : n0 ≠ n12) : 0 ≤ n0 ∧ n0 < 8 := by
  have g4 := f3.2.1.1
  unfold Ab_287_183 at g4
  have g3 := f3.2.1.2
  unfold preb_287 at g3
  have e0 : hV H1 298 = hV H0 298 := fRow f3.1.2.1 298 kR_287_298
  have e1 : n10 = hV H0 298 (n7).toNat := (by rw [f4] at f5; exact f5 : n10 = hV H1 298 (n7).toNat).trans ((congrFun e0 _))
  have e5 : hV H1 285 65 = hV H0 285 65 := (f3.1.2.1.1 285 65 kF_287_285_65)
  have e6 : hV H1 294 = hV H0 294 := fRow f3.1.2.1 294 kR_287_294
  have e7 : hV H1 296 = hV H0 296 := fRow f3.1.2.1 296 kR_287_296
  have e8 : hV H1 300 = hV H0 300 := fRow f3.1.2.1 300 kR_287_300
  have e9 : hV H1 301 = hV H0 301 := fRow f3.1.2.1 301 kR_287_301
  have e10 : hV H1 303 = hV H0 303 := fRow f3.1.2.1 303 kR_287_303
  have e11 : hV H1 341 = hV H0 341 := fRow f3.1.2.1 341 kR_287_341
  have e12 : (0 : Int) ≤ hV H0 285 18 ∧ hV H0 285 18 ≤ 8 := bTo ((f3.1.2.1.1 285 18 kF_287_285_18)) (f3.1.2.2 285 18 _ _ kW_285_18)
  have e13 : (0 : Int) ≤ hV H0 285 65 ∧ hV H0 285 65 ≤ 2147483647 := bTo e5 (f3.1.2.2 285 65 _ _ kW_285_65)
  have k0 := g4.1
  have y0 := g4.2.1
  have y1 := g4.2.2.1
  have y2 := g4.2.2.2.1
  have y3 := g4.2.2.2.2.1
  have y4 := g4.2.2.2.2.2.1
  have y5 := g4.2.2.2.2.2.2.1
  have y6 := g4.2.2.2.2.2.2.2
  have p0 := g3.1
  have p1 := g3.2.1
  have p2 := g3.2.2
  try simp only [e6, e7] at y0
  try simp only [e6, e7, e0, e8] at y1
  try simp only [e5] at y3
  try simp only [e7, e0, e8, e9, e10, e11] at y5
  try simp only [e0] at y6
  clear g3
  clear g4
  clear f5 e0 e5 e6 e7 e8 e9 e10 e11
  clear f3
  subst e1
  try subst k0
  omega
def g_287_183_2 : vG := ([(41, [8, 12], [], 0), (0, [12], [], -1), (40, [10, 11], [], 0), (0, [11], [], 1), (22, [10, 9, 6], [1], 0), (0, [9], [], 298), (5000, [0, 1, 2, 3, 4, 5, 6, 7, 8], [0, 1], 183), (0, [0], [], 285), (0, [2], [], 285), (90, [8], [], -1)], (70, [8], [], 8))
theorem c_287_183_2 {q0 : Nat} : vOkm T0 (eP e_287 L_287 A_287 mu_287 (some q0)) 2 g_287_183_2 := vOk_inI fun ρ η f0 f1 f2 f3 f4 f5 f6 f7 f8 f9 => q_287_31 (q0 := q0) (n0 := ρ 8) (n1 := ρ 2) (n2 := ρ 0) (n3 := ρ 1) (n4 := ρ 3) (n5 := ρ 4) (n6 := ρ 5) (n7 := ρ 6) (n8 := ρ 7) (n9 := ρ 9) (n10 := ρ 10) (n11 := ρ 11) (n12 := ρ 12) (H0 := η 0) (H1 := η 1) f9 f8 f7 f6 f5 f4 f3 f2 f1 f0
theorem q_287_32 {q0 : Nat} {n0 n1 n2 n3 n4 n5 n6 n7 n8 n9 n10 n11 n12 n13 n14 : Int} {H0 H1 : gH} (f0 : n0 ≤ 9999) (f1 : (-1) ≤ n0) (f2 : n1 ≤ 9999) (f3 : (-1) ≤ n1) (f4 : n2 ≤ 1007) (f5 : 0 ≤ n2) (f6 : n3 ≤ 6) (f7 : 0 ≤ n3) (f8 : n4 ≤ 2147483647) (f9 : 0 ≤ n4) (f10 : n5 ≤ 7) (f11 : 0 ≤ n5) (f12 : n6 = 285) (f13 : n7 ≤ 7) (f14 : 0 ≤ n7) (f15 : n8 = 285) (f16 : (hLe T0 H0 H1 ∧ hFr s_287.2.2.2.2 H0 H1 ∧ hWt T0 H1) ∧ (Ab_287_183 n8 n7 n6 n5 n4 n3 n2 n1 n0 H0 H1 ∧ preb_287 n8 n7 H0) ∧ some q0 = some (mub_287_183 n8 n7 n6 n5 n4 n3 n2 n1 n0 H0 H1)) (f17 : n9 = 298) (f18 : n9 = hV H1 (n6).toNat 24) (f19 : n10 ≤ 5) (f20 : 0 ≤ n10) (f21 : n10 = hV H1 (n9).toNat (n2).toNat) (f22 : n11 = 1) (f23 : n10 = n11) (f24 : n12 = (-1)) (f25 : n0 ≠ n12) (f26 : n13 = 341) (f27 : n13 = hV H1 (n6).toNat 79) (f28 : n14 ≤ 2147483647) (f29 : 0 ≤ n14) (f30 : n14 = hV H1 (n13).toNat (n0).toNat) (f31 : n14 ≤ n4) : Ab_287_219 n8 n7 n6 n5 n4 n3 n2 n1 n0 H0 H1 ∧ ∀ q, some q0 = some q → mub_287_219 n8 n7 n6 n5 n4 n3 n2 n1 n0 H0 H1 < q := by
  have g4 := f16.2.1.1
  unfold Ab_287_183 at g4
  have g3 := f16.2.1.2
  unfold preb_287 at g3
  have g5 := Option.some.inj f16.2.2
  unfold mub_287_183 at g5
  unfold Ab_287_219
  unfold mub_287_219
  have e0 : hV H1 298 = hV H0 298 := fRow f16.1.2.1 298 kR_287_298
  have e1 : n10 = hV H0 298 (n2).toNat := (by rw [f17] at f21; exact f21 : n10 = hV H1 298 (n2).toNat).trans ((congrFun e0 _))
  have e2 : hV H1 341 = hV H0 341 := fRow f16.1.2.1 341 kR_287_341
  have e3 : n14 = hV H0 341 (n0).toNat := (by rw [f26] at f30; exact f30 : n14 = hV H1 341 (n0).toNat).trans ((congrFun e2 _))
  have e7 : hV H1 285 65 = hV H0 285 65 := (f16.1.2.1.1 285 65 kF_287_285_65)
  have e8 : hV H1 294 = hV H0 294 := fRow f16.1.2.1 294 kR_287_294
  have e9 : hV H1 296 = hV H0 296 := fRow f16.1.2.1 296 kR_287_296
  have e10 : hV H1 300 = hV H0 300 := fRow f16.1.2.1 300 kR_287_300
  have e11 : hV H1 301 = hV H0 301 := fRow f16.1.2.1 301 kR_287_301
  have e12 : hV H1 303 = hV H0 303 := fRow f16.1.2.1 303 kR_287_303
  have e13 : (0 : Int) ≤ hV H0 285 18 ∧ hV H0 285 18 ≤ 8 := bTo ((f16.1.2.1.1 285 18 kF_287_285_18)) (f16.1.2.2 285 18 _ _ kW_285_18)
  have e14 : (0 : Int) ≤ hV H0 285 65 ∧ hV H0 285 65 ≤ 2147483647 := bTo e7 (f16.1.2.2 285 65 _ _ kW_285_65)
  try simp only [e9] at g5
  try simp only [e7, e8, e9, e0, e10, e11, e12, e2]
  have k0 := g4.1
  have y0 := g4.2.1
  have y1 := g4.2.2.1
  have y2 := g4.2.2.2.1
  have y3 := g4.2.2.2.2.1
  have y4 := g4.2.2.2.2.2.1
  have y5 := g4.2.2.2.2.2.2.1
  have y6 := g4.2.2.2.2.2.2.2
  have p0 := g3.1
  have p1 := g3.2.1
  have p2 := g3.2.2
  try simp only [e8, e9] at y0
  try simp only [e8, e9, e0, e10] at y1
  try simp only [e7] at y3
  try simp only [e9, e0, e10, e11, e12, e2] at y5
  try simp only [e0] at y6
  clear g3
  clear g4
  clear f18 f21 f27 f30 e0 e2 e7 e8 e9 e10 e11 e12
  clear f16
  subst e1
  subst e3
  try have mq := p2.2 (n0).toNat (by omega)

  refine ⟨⟨?_, ?_, ?_, ?_, ?_, ?_, ?_⟩, fun q hq => ?_⟩
  · first | omega | trivial
  · exact y0
  · exact y1
  · omega
  · omega
  · omega
  · exact ML_one y5 (by omega)
  · have g6 := Option.some.inj hq
    subst g6
    omega
def g_287_183_3 : vG := ([(45, [14, 4], [], 0), (22, [14, 13, 8], [1], 0), (90, [14], [], 0), (91, [14], [], 2147483647), (20, [13, 2], [1], 79), (0, [13], [], 341), (41, [8, 12], [], 0), (0, [12], [], -1), (40, [10, 11], [], 0), (0, [11], [], 1), (22, [10, 9, 6], [1], 0), (90, [10], [], 0), (91, [10], [], 5), (20, [9, 2], [1], 24), (0, [9], [], 298), (5000, [0, 1, 2, 3, 4, 5, 6, 7, 8], [0, 1], 183), (0, [0], [], 285), (90, [1], [], 0), (91, [1], [], 7), (0, [2], [], 285), (90, [3], [], 0), (91, [3], [], 7), (90, [4], [], 0), (91, [4], [], 2147483647), (90, [5], [], 0), (91, [5], [], 6), (90, [6], [], 0), (91, [6], [], 1007), (90, [7], [], -1), (91, [7], [], 9999), (90, [8], [], -1), (91, [8], [], 9999)], (4000, [2, 3, 4, 5, 6, 7, 8], [1], 219))
theorem c_287_183_3 {q0 : Nat} : vOkm T0 (eP e_287 L_287 A_287 mu_287 (some q0)) 2 g_287_183_3 := vOk_inI fun ρ η f0 f1 f2 f3 f4 f5 f6 f7 f8 f9 f10 f11 f12 f13 f14 f15 f16 f17 f18 f19 f20 f21 f22 f23 f24 f25 f26 f27 f28 f29 f30 f31 => q_287_32 (q0 := q0) (n0 := ρ 8) (n1 := ρ 7) (n2 := ρ 6) (n3 := ρ 5) (n4 := ρ 4) (n5 := ρ 3) (n6 := ρ 2) (n7 := ρ 1) (n8 := ρ 0) (n9 := ρ 9) (n10 := ρ 10) (n11 := ρ 11) (n12 := ρ 12) (n13 := ρ 13) (n14 := ρ 14) (H0 := η 0) (H1 := η 1) f31 f30 f29 f28 f27 f26 f25 f24 f23 f22 f21 f20 f19 f18 f17 f16 f15 f14 f13 f12 f11 f10 f9 f8 f7 f6 f5 f4 f3 f2 f1 f0
def g_287_183_4 : vG := ([(41, [8, 12], [], 0), (0, [12], [], -1), (40, [10, 11], [], 0), (0, [11], [], 1), (22, [10, 9, 6], [1], 0), (0, [9], [], 298), (5000, [0, 1, 2, 3, 4, 5, 6, 7, 8], [0, 1], 183), (0, [0], [], 285), (0, [2], [], 285), (90, [8], [], -1)], (70, [8], [], 8))
theorem c_287_183_4 {q0 : Nat} : vOkm T0 (eP e_287 L_287 A_287 mu_287 (some q0)) 2 g_287_183_4 := vOk_inI fun ρ η f0 f1 f2 f3 f4 f5 f6 f7 f8 f9 => q_287_31 (q0 := q0) (n0 := ρ 8) (n1 := ρ 2) (n2 := ρ 0) (n3 := ρ 1) (n4 := ρ 3) (n5 := ρ 4) (n6 := ρ 5) (n7 := ρ 6) (n8 := ρ 7) (n9 := ρ 9) (n10 := ρ 10) (n11 := ρ 11) (n12 := ρ 12) (H0 := η 0) (H1 := η 1) f9 f8 f7 f6 f5 f4 f3 f2 f1 f0
theorem q_287_33 {q0 : Nat} {n0 n1 n2 n3 n4 n5 n6 n7 n8 n9 n10 n11 n12 n13 n14 n15 n16 : Int} {H0 H1 : gH} (f0 : n0 ≤ 9999) (f1 : (-1) ≤ n0) (f2 : n1 ≤ 9999) (f3 : (-1) ≤ n1) (f4 : n2 ≤ 1007) (f5 : 0 ≤ n2) (f6 : n3 ≤ 6) (f7 : 0 ≤ n3) (f8 : n4 ≤ 2147483647) (f9 : 0 ≤ n4) (f10 : n5 ≤ 7) (f11 : 0 ≤ n5) (f12 : n6 = 285) (f13 : n7 ≤ 7) (f14 : 0 ≤ n7) (f15 : n8 = 285) (f16 : (hLe T0 H0 H1 ∧ hFr s_287.2.2.2.2 H0 H1 ∧ hWt T0 H1) ∧ (Ab_287_183 n8 n7 n6 n5 n4 n3 n2 n1 n0 H0 H1 ∧ preb_287 n8 n7 H0) ∧ some q0 = some (mub_287_183 n8 n7 n6 n5 n4 n3 n2 n1 n0 H0 H1)) (f17 : n9 = 298) (f18 : n9 = hV H1 (n6).toNat 24) (f19 : n10 ≤ 5) (f20 : 0 ≤ n10) (f21 : n10 = hV H1 (n9).toNat (n2).toNat) (f22 : n11 = 1) (f23 : n10 = n11) (f24 : n12 = (-1)) (f25 : n0 ≠ n12) (f26 : n13 = 341) (f27 : n13 = hV H1 (n6).toNat 79) (f28 : n14 ≤ 2147483647) (f29 : 0 ≤ n14) (f30 : n14 = hV H1 (n13).toNat (n0).toNat) (f31 : n4 < n14) (f32 : n15 = 341) (f33 : n15 = hV H1 (n6).toNat 79) (f34 : n16 ≤ 2147483647) (f35 : 0 ≤ n16) (f36 : n16 = hV H1 (n15).toNat (n0).toNat) : Ab_287_219 n8 n7 n6 n5 n16 n3 n2 n1 n0 H0 H1 ∧ ∀ q, some q0 = some q → mub_287_219 n8 n7 n6 n5 n16 n3 n2 n1 n0 H0 H1 < q := by
  have g4 := f16.2.1.1
  unfold Ab_287_183 at g4
  have g3 := f16.2.1.2
  unfold preb_287 at g3
  have g5 := Option.some.inj f16.2.2
  unfold mub_287_183 at g5
  unfold Ab_287_219
  unfold mub_287_219
  have e0 : hV H1 298 = hV H0 298 := fRow f16.1.2.1 298 kR_287_298
  have e1 : n10 = hV H0 298 (n2).toNat := (by rw [f17] at f21; exact f21 : n10 = hV H1 298 (n2).toNat).trans ((congrFun e0 _))
  have e2 : hV H1 341 = hV H0 341 := fRow f16.1.2.1 341 kR_287_341
  have e3 : n14 = hV H0 341 (n0).toNat := (by rw [f26] at f30; exact f30 : n14 = hV H1 341 (n0).toNat).trans ((congrFun e2 _))
  have e4 : n16 = hV H0 341 (n0).toNat := (by rw [f32] at f36; exact f36 : n16 = hV H1 341 (n0).toNat).trans ((congrFun e2 _))
  have e8 : hV H1 285 65 = hV H0 285 65 := (f16.1.2.1.1 285 65 kF_287_285_65)
  have e9 : hV H1 294 = hV H0 294 := fRow f16.1.2.1 294 kR_287_294
  have e10 : hV H1 296 = hV H0 296 := fRow f16.1.2.1 296 kR_287_296
  have e11 : hV H1 300 = hV H0 300 := fRow f16.1.2.1 300 kR_287_300
  have e12 : hV H1 301 = hV H0 301 := fRow f16.1.2.1 301 kR_287_301
  have e13 : hV H1 303 = hV H0 303 := fRow f16.1.2.1 303 kR_287_303
  have e14 : (0 : Int) ≤ hV H0 285 18 ∧ hV H0 285 18 ≤ 8 := bTo ((f16.1.2.1.1 285 18 kF_287_285_18)) (f16.1.2.2 285 18 _ _ kW_285_18)
  have e15 : (0 : Int) ≤ hV H0 285 65 ∧ hV H0 285 65 ≤ 2147483647 := bTo e8 (f16.1.2.2 285 65 _ _ kW_285_65)
  try simp only [e10] at g5
  try simp only [e8, e9, e10, e0, e11, e12, e13, e2]
  have k0 := g4.1
  have y0 := g4.2.1
  have y1 := g4.2.2.1
  have y2 := g4.2.2.2.1
  have y3 := g4.2.2.2.2.1
  have y4 := g4.2.2.2.2.2.1
  have y5 := g4.2.2.2.2.2.2.1
  have y6 := g4.2.2.2.2.2.2.2
  have p0 := g3.1
  have p1 := g3.2.1
  have p2 := g3.2.2
  try simp only [e9, e10] at y0
  try simp only [e9, e10, e0, e11] at y1
  try simp only [e8] at y3
  try simp only [e10, e0, e11, e12, e13, e2] at y5
  try simp only [e0] at y6
  clear g3
  clear g4
  clear f18 f21 f27 f30 f33 f36 e0 e2 e8 e9 e10 e11 e12 e13
  clear f16
  subst e1
  subst e3
  subst e4
  try have mq := p2.2 (n0).toNat (by omega)

  refine ⟨⟨?_, ?_, ?_, ?_, ?_, ?_, ?_⟩, fun q hq => ?_⟩
  · first | omega | trivial
  · exact y0
  · exact y1
  · omega
  · omega
  · omega
  · exact ML_one y5 (by omega)
  · have g6 := Option.some.inj hq
    subst g6
    omega
def g_287_183_5 : vG := ([(22, [16, 15, 8], [1], 0), (90, [16], [], 0), (91, [16], [], 2147483647), (20, [15, 2], [1], 79), (0, [15], [], 341), (44, [14, 4], [], 0), (22, [14, 13, 8], [1], 0), (90, [14], [], 0), (91, [14], [], 2147483647), (20, [13, 2], [1], 79), (0, [13], [], 341), (41, [8, 12], [], 0), (0, [12], [], -1), (40, [10, 11], [], 0), (0, [11], [], 1), (22, [10, 9, 6], [1], 0), (90, [10], [], 0), (91, [10], [], 5), (20, [9, 2], [1], 24), (0, [9], [], 298), (5000, [0, 1, 2, 3, 4, 5, 6, 7, 8], [0, 1], 183), (0, [0], [], 285), (90, [1], [], 0), (91, [1], [], 7), (0, [2], [], 285), (90, [3], [], 0), (91, [3], [], 7), (90, [4], [], 0), (91, [4], [], 2147483647), (90, [5], [], 0), (91, [5], [], 6), (90, [6], [], 0), (91, [6], [], 1007), (90, [7], [], -1), (91, [7], [], 9999), (90, [8], [], -1), (91, [8], [], 9999)], (4000, [2, 3, 16, 5, 6, 7, 8], [1], 219))
theorem c_287_183_5 {q0 : Nat} : vOkm T0 (eP e_287 L_287 A_287 mu_287 (some q0)) 2 g_287_183_5 := vOk_inI fun ρ η f0 f1 f2 f3 f4 f5 f6 f7 f8 f9 f10 f11 f12 f13 f14 f15 f16 f17 f18 f19 f20 f21 f22 f23 f24 f25 f26 f27 f28 f29 f30 f31 f32 f33 f34 f35 f36 => q_287_33 (q0 := q0) (n0 := ρ 8) (n1 := ρ 7) (n2 := ρ 6) (n3 := ρ 5) (n4 := ρ 4) (n5 := ρ 3) (n6 := ρ 2) (n7 := ρ 1) (n8 := ρ 0) (n9 := ρ 9) (n10 := ρ 10) (n11 := ρ 11) (n12 := ρ 12) (n13 := ρ 13) (n14 := ρ 14) (n15 := ρ 15) (n16 := ρ 16) (H0 := η 0) (H1 := η 1) f36 f35 f34 f33 f32 f31 f30 f29 f28 f27 f26 f25 f24 f23 f22 f21 f20 f19 f18 f17 f16 f15 f14 f13 f12 f11 f10 f9 f8 f7 f6 f5 f4 f3 f2 f1 f0
def p_287_183 : List vG := [g_287_183_0,
  g_287_183_1,
  g_287_183_2,
  g_287_183_3,
  g_287_183_4,
  g_287_183_5]
theorem r_287_183 : vCovO false (eRc e_287 L_287 cs_287 2000 (183, [(0, (3, 12, 285, 0)), (1, (0, 0, 7, 0)), (2, (0, 0, 2147483647, 0)), (3, (0, 0, 6, 0)), (4, (0, 0, 1007, 0)), (5, (0, -1, 9999, 0)), (6, (0, -1, 9999, 0))])) p_287_183 = true := by decide +kernel
theorem q_287_34 {q0 : Nat} {n0 n1 n2 : Int} {H0 : gH} (f0 : n0 ≤ 6) (f1 : 0 ≤ n0) (f2 : n1 = 1) (f3 : n2 = w32 (n0 + n1)) : 0 ≤ n2 ∧ n2 < 8 := by
  first
  | (have ix0 : n2 = n0 + 1 := Eq.trans f3 (w32_iv (Iad (Iat f1 f0) (IC 1)) (by decide)); subst ix0; clear f3)
  | (have ix0 : n2 = n0 + 1 := Eq.trans f3 (w32_id (by omega) (by omega)); subst ix0; clear f3)
  | (unfold w32 at f3; have ix0 : n2 = n0 + 1 := (by omega); subst ix0)
  | skip
  try unfold w32 at f3
  omega
def g_287_219_0 : vG := ([(1, [14, 5, 13], [], 0), (0, [13], [], 1), (90, [5], [], 0), (91, [5], [], 6)], (70, [14], [], 8))
theorem c_287_219_0 {q0 : Nat} : vOkm T0 (eP e_287 L_287 A_287 mu_287 (some q0)) 2 g_287_219_0 := vOk_inI fun ρ η f0 f1 f2 f3 => q_287_34 (q0 := q0) (n0 := ρ 5) (n1 := ρ 13) (n2 := ρ 14) (H0 := η 0) f3 f2 f1 f0
theorem q_287_35 {q0 : Nat} {n0 n1 n2 n3 n4 n5 n6 n7 n8 n9 n10 n11 n12 n13 : Int} {H0 H1 : gH} (f0 : n0 ≤ 2147483647) (f1 : (-2147483648) ≤ n0) (f2 : n1 ≤ 9999) (f3 : (-1) ≤ n1) (f4 : n2 ≤ 1007) (f5 : 0 ≤ n2) (f6 : n3 ≤ 6) (f7 : 0 ≤ n3) (f8 : n4 ≤ 2147483647) (f9 : 0 ≤ n4) (f10 : n5 ≤ 7) (f11 : 0 ≤ n5) (f12 : n6 = 285) (f13 : n7 ≤ 7) (f14 : 0 ≤ n7) (f15 : n8 = 285) (f16 : (hLe T0 H0 H1 ∧ hFr s_287.2.2.2.2 H0 H1 ∧ hWt T0 H1) ∧ (Ab_287_219 n8 n7 n6 n5 n4 n3 n2 n1 n0 H0 H1 ∧ preb_287 n8 n7 H0) ∧ some q0 = some (mub_287_219 n8 n7 n6 n5 n4 n3 n2 n1 n0 H0 H1)) (f17 : n9 = 298) (f18 : n9 = hV H1 (n6).toNat 24) (f19 : n10 ≤ 5) (f20 : 0 ≤ n10) (f21 : n10 = hV H1 (n9).toNat (n2).toNat) (f22 : n11 = 5) (f23 : n10 = n11) (f24 : n12 = 1) (f25 : n13 = w32 (n3 + n12)) : n1 ≤ 7 := by
  have g4 := f16.2.1.1
  unfold Ab_287_219 at g4
  have g3 := f16.2.1.2
  unfold preb_287 at g3
  have e0 : hV H1 298 = hV H0 298 := fRow f16.1.2.1 298 kR_287_298
  have e1 : n10 = hV H0 298 (n2).toNat := (by rw [f17] at f21; exact f21 : n10 = hV H1 298 (n2).toNat).trans ((congrFun e0 _))
  have e5 : hV H1 285 65 = hV H0 285 65 := (f16.1.2.1.1 285 65 kF_287_285_65)
  have e6 : hV H1 294 = hV H0 294 := fRow f16.1.2.1 294 kR_287_294
  have e7 : hV H1 296 = hV H0 296 := fRow f16.1.2.1 296 kR_287_296
  have e8 : hV H1 300 = hV H0 300 := fRow f16.1.2.1 300 kR_287_300
  have e9 : hV H1 301 = hV H0 301 := fRow f16.1.2.1 301 kR_287_301
  have e10 : hV H1 303 = hV H0 303 := fRow f16.1.2.1 303 kR_287_303
  have e11 : hV H1 341 = hV H0 341 := fRow f16.1.2.1 341 kR_287_341
  have e12 : (0 : Int) ≤ hV H0 285 18 ∧ hV H0 285 18 ≤ 8 := bTo ((f16.1.2.1.1 285 18 kF_287_285_18)) (f16.1.2.2 285 18 _ _ kW_285_18)
  have e13 : (0 : Int) ≤ hV H0 285 65 ∧ hV H0 285 65 ≤ 2147483647 := bTo e5 (f16.1.2.2 285 65 _ _ kW_285_65)
  have k0 := g4.1
  have y0 := g4.2.1
  have y1 := g4.2.2.1
  have y2 := g4.2.2.2.1
  have y3 := g4.2.2.2.2.1
  have y4 := g4.2.2.2.2.2.1
  have y5 := g4.2.2.2.2.2.2
  have p0 := g3.1
  have p1 := g3.2.1
  have p2 := g3.2.2
  try simp only [e6, e7] at y0
  try simp only [e6, e7, e0, e8] at y1
  try simp only [e5] at y3
  try simp only [e7, e0, e8, e9, e10, e11] at y5
  clear g3
  clear g4
  clear f18 f21 e0 e5 e6 e7 e8 e9 e10 e11
  clear f16
  subst e1
  unfold w32 at f25
  try have um := y1 (by omega)
  have pb := (p1 (n7).toNat (by omega)).1
  try subst k0
  omega
def g_287_219_1 : vG := ([(1, [14, 5, 13], [], 0), (0, [13], [], 1), (40, [10, 11], [], 0), (0, [11], [], 5), (22, [10, 9, 6], [1], 0), (90, [10], [], 0), (91, [10], [], 5), (20, [9, 2], [1], 24), (0, [9], [], 298), (5000, [0, 1, 2, 3, 4, 5, 6, 7, 8], [0, 1], 219), (0, [0], [], 285), (90, [1], [], 0), (91, [1], [], 7), (0, [2], [], 285), (90, [3], [], 0), (91, [3], [], 7), (90, [4], [], 0), (91, [4], [], 2147483647), (90, [5], [], 0), (91, [5], [], 6), (90, [6], [], 0), (91, [6], [], 1007), (90, [7], [], -1), (91, [7], [], 9999), (90, [8], [], -2147483648), (91, [8], [], 2147483647)], (91, [7], [], 7))
theorem c_287_219_1 {q0 : Nat} : vOkm T0 (eP e_287 L_287 A_287 mu_287 (some q0)) 2 g_287_219_1 := vOk_inI fun ρ η f0 f1 f2 f3 f4 f5 f6 f7 f8 f9 f10 f11 f12 f13 f14 f15 f16 f17 f18 f19 f20 f21 f22 f23 f24 f25 => q_287_35 (q0 := q0) (n0 := ρ 8) (n1 := ρ 7) (n2 := ρ 6) (n3 := ρ 5) (n4 := ρ 4) (n5 := ρ 3) (n6 := ρ 2) (n7 := ρ 1) (n8 := ρ 0) (n9 := ρ 9) (n10 := ρ 10) (n11 := ρ 11) (n12 := ρ 13) (n13 := ρ 14) (H0 := η 0) (H1 := η 1) f25 f24 f23 f22 f21 f20 f19 f18 f17 f16 f15 f14 f13 f12 f11 f10 f9 f8 f7 f6 f5 f4 f3 f2 f1 f0
def g_287_219_2 : vG := ([(1, [17, 5, 16], [], 0), (0, [16], [], 1), (90, [5], [], 0), (91, [5], [], 6)], (70, [17], [], 8))
theorem c_287_219_2 {q0 : Nat} : vOkm T0 (eP e_287 L_287 A_287 mu_287 (some q0)) 2 g_287_219_2 := vOk_inI fun ρ η f0 f1 f2 f3 => q_287_34 (q0 := q0) (n0 := ρ 5) (n1 := ρ 16) (n2 := ρ 17) (H0 := η 0) f3 f2 f1 f0
theorem q_287_36 {q0 : Nat} {n0 n1 n2 n3 n4 n5 n6 n7 n8 n9 n10 n11 n12 n13 n14 n15 n16 n17 n18 n19 n20 n21 : Int} {H0 H1 H2 : gH} (f0 : n0 ≤ 2147483647) (f1 : (-2147483648) ≤ n0) (f2 : n1 ≤ 9999) (f3 : (-1) ≤ n1) (f4 : n2 ≤ 1007) (f5 : 0 ≤ n2) (f6 : n3 ≤ 6) (f7 : 0 ≤ n3) (f8 : n4 ≤ 2147483647) (f9 : 0 ≤ n4) (f10 : n5 ≤ 7) (f11 : 0 ≤ n5) (f12 : n6 = 285) (f13 : n7 ≤ 7) (f14 : 0 ≤ n7) (f15 : n8 = 285) (f16 : (hLe T0 H0 H1 ∧ hFr s_287.2.2.2.2 H0 H1 ∧ hWt T0 H1) ∧ (Ab_287_219 n8 n7 n6 n5 n4 n3 n2 n1 n0 H0 H1 ∧ preb_287 n8 n7 H0) ∧ some q0 = some (mub_287_219 n8 n7 n6 n5 n4 n3 n2 n1 n0 H0 H1)) (f17 : n9 = 298) (f18 : n9 = hV H1 (n6).toNat 24) (f19 : n10 ≤ 5) (f20 : 0 ≤ n10) (f21 : n10 = hV H1 (n9).toNat (n2).toNat) (f22 : n11 = 5) (f23 : n10 = n11) (f24 : n12 = 353) (f25 : n12 = hV H1 (n6).toNat 95) (f26 : n13 = 1) (f27 : n14 = w32 (n3 + n13)) (f28 : hUpd H2 H1 n12 n14 n1) (f29 : n15 = 1) (f30 : n16 = w32 (n3 + n15)) (f31 : n17 = 7) (f32 : n18 = w32 (n17 * n5)) (f33 : n19 = 300) (f34 : n19 = hV H2 (n6).toNat 26) (f35 : n20 ≤ 9999) (f36 : (-1) ≤ n20) (f37 : n20 = hV H2 (n19).toNat (n2).toNat) (f38 : n21 = w32 (n18 + n20)) : 0 ≤ n21 := by
  have g4 := f16.2.1.1
  unfold Ab_287_219 at g4
  have g3 := f16.2.1.2
  unfold preb_287 at g3
  have e0 : hV H1 298 = hV H0 298 := fRow f16.1.2.1 298 kR_287_298
  have e1 : n10 = hV H0 298 (n2).toNat := (by rw [f17] at f21; exact f21 : n10 = hV H1 298 (n2).toNat).trans ((congrFun e0 _))
  have e3 : hV H1 300 = hV H0 300 := fRow f16.1.2.1 300 kR_287_300
  have e4 : n20 = hV H0 300 (n2).toNat := (by rw [f33] at f37; exact f37 : n20 = hV H2 300 (n2).toNat).trans (((congrFun (uRowNe f28 300 (iS (show n12 = ((353 : Nat) : Int) from f24) rfl)) _)).trans ((congrFun e3 _)))
  have e8 : hV H1 285 65 = hV H0 285 65 := (f16.1.2.1.1 285 65 kF_287_285_65)
  have e9 : hV H1 294 = hV H0 294 := fRow f16.1.2.1 294 kR_287_294
  have e10 : hV H1 296 = hV H0 296 := fRow f16.1.2.1 296 kR_287_296
  have e11 : hV H1 301 = hV H0 301 := fRow f16.1.2.1 301 kR_287_301
  have e12 : hV H1 303 = hV H0 303 := fRow f16.1.2.1 303 kR_287_303
  have e13 : hV H1 341 = hV H0 341 := fRow f16.1.2.1 341 kR_287_341
  have e14 : (0 : Int) ≤ hV H0 285 18 ∧ hV H0 285 18 ≤ 8 := bTo ((f16.1.2.1.1 285 18 kF_287_285_18)) (f16.1.2.2 285 18 _ _ kW_285_18)
  have e15 : (0 : Int) ≤ hV H0 285 65 ∧ hV H0 285 65 ≤ 2147483647 := bTo e8 (f16.1.2.2 285 65 _ _ kW_285_65)
  have k0 := g4.1
  have y0 := g4.2.1
  have y1 := g4.2.2.1
  have y2 := g4.2.2.2.1
  have y3 := g4.2.2.2.2.1
  have y4 := g4.2.2.2.2.2.1
  have y5 := g4.2.2.2.2.2.2
  have p0 := g3.1
  have p1 := g3.2.1
  have p2 := g3.2.2
  try simp only [e9, e10] at y0
  try simp only [e9, e10, e0, e3] at y1
  try simp only [e8] at y3
  try simp only [e10, e0, e3, e11, e12, e13] at y5
  clear g3
  clear g4
  clear f18 f21 f25 f34 f37 e0 e3 e8 e9 e10 e11 e12 e13
  clear f16
  subst e1
  subst e4
  rw [f31] at f32
  unfold w32 at f27 f30 f32 f38
  try have um := y1 (by omega)
  have pb := (p1 (n7).toNat (by omega)).1
  try (have ix0 : n14 = n3 + 1 := (by omega); subst ix0)
  try (have ix1 : n18 = 7 * n5 := (by omega); subst ix1)
  try (have ix2 : n21 = (7 * n5) + hV H0 300 (n2).toNat := (by omega); subst ix2)
  try subst k0
  omega
def g_287_219_3 : vG := ([(1, [22, 19, 21], [], 0), (22, [21, 20, 6], [2], 0), (90, [21], [], -1), (91, [21], [], 9999), (20, [20, 2], [2], 26), (0, [20], [], 300), (3, [19, 18, 3], [], 0), (0, [18], [], 7), (1, [17, 5, 16], [], 0), (0, [16], [], 1), (80, [12, 14, 7], [2, 1], 0), (1, [14, 5, 13], [], 0), (0, [13], [], 1), (20, [12, 2], [1], 95), (0, [12], [], 353), (40, [10, 11], [], 0), (0, [11], [], 5), (22, [10, 9, 6], [1], 0), (90, [10], [], 0), (91, [10], [], 5), (20, [9, 2], [1], 24), (0, [9], [], 298), (5000, [0, 1, 2, 3, 4, 5, 6, 7, 8], [0, 1], 219), (0, [0], [], 285), (90, [1], [], 0), (91, [1], [], 7), (0, [2], [], 285), (90, [3], [], 0), (91, [3], [], 7), (90, [4], [], 0), (91, [4], [], 2147483647), (90, [5], [], 0), (91, [5], [], 6), (90, [6], [], 0), (91, [6], [], 1007), (90, [7], [], -1), (91, [7], [], 9999), (90, [8], [], -2147483648), (91, [8], [], 2147483647)], (90, [22], [], 0))
theorem c_287_219_3 {q0 : Nat} : vOkm T0 (eP e_287 L_287 A_287 mu_287 (some q0)) 2 g_287_219_3 := vOk_inI fun ρ η f0 f1 f2 f3 f4 f5 f6 f7 f8 f9 f10 f11 f12 f13 f14 f15 f16 f17 f18 f19 f20 f21 f22 f23 f24 f25 f26 f27 f28 f29 f30 f31 f32 f33 f34 f35 f36 f37 f38 => q_287_36 (q0 := q0) (n0 := ρ 8) (n1 := ρ 7) (n2 := ρ 6) (n3 := ρ 5) (n4 := ρ 4) (n5 := ρ 3) (n6 := ρ 2) (n7 := ρ 1) (n8 := ρ 0) (n9 := ρ 9) (n10 := ρ 10) (n11 := ρ 11) (n12 := ρ 12) (n13 := ρ 13) (n14 := ρ 14) (n15 := ρ 16) (n16 := ρ 17) (n17 := ρ 18) (n18 := ρ 19) (n19 := ρ 20) (n20 := ρ 21) (n21 := ρ 22) (H0 := η 0) (H1 := η 1) (H2 := η 2) f38 f37 f36 f35 f34 f33 f32 f31 f30 f29 f28 f27 f26 f25 f24 f23 f22 f21 f20 f19 f18 f17 f16 f15 f14 f13 f12 f11 f10 f9 f8 f7 f6 f5 f4 f3 f2 f1 f0
theorem q_287_37 {q0 : Nat} {n0 n1 n2 n3 n4 n5 n6 n7 n8 n9 n10 n11 n12 n13 n14 n15 n16 n17 n18 n19 n20 n21 : Int} {H0 H1 H2 : gH} (f0 : n0 ≤ 2147483647) (f1 : (-2147483648) ≤ n0) (f2 : n1 ≤ 9999) (f3 : (-1) ≤ n1) (f4 : n2 ≤ 1007) (f5 : 0 ≤ n2) (f6 : n3 ≤ 6) (f7 : 0 ≤ n3) (f8 : n4 ≤ 2147483647) (f9 : 0 ≤ n4) (f10 : n5 ≤ 7) (f11 : 0 ≤ n5) (f12 : n6 = 285) (f13 : n7 ≤ 7) (f14 : 0 ≤ n7) (f15 : n8 = 285) (f16 : (hLe T0 H0 H1 ∧ hFr s_287.2.2.2.2 H0 H1 ∧ hWt T0 H1) ∧ (Ab_287_219 n8 n7 n6 n5 n4 n3 n2 n1 n0 H0 H1 ∧ preb_287 n8 n7 H0) ∧ some q0 = some (mub_287_219 n8 n7 n6 n5 n4 n3 n2 n1 n0 H0 H1)) (f17 : n9 = 298) (f18 : n9 = hV H1 (n6).toNat 24) (f19 : n10 ≤ 5) (f20 : 0 ≤ n10) (f21 : n10 = hV H1 (n9).toNat (n2).toNat) (f22 : n11 = 5) (f23 : n10 = n11) (f24 : n12 = 353) (f25 : n12 = hV H1 (n6).toNat 95) (f26 : n13 = 1) (f27 : n14 = w32 (n3 + n13)) (f28 : hUpd H2 H1 n12 n14 n1) (f29 : n15 = 1) (f30 : n16 = w32 (n3 + n15)) (f31 : n17 = 7) (f32 : n18 = w32 (n17 * n5)) (f33 : n19 = 300) (f34 : n19 = hV H2 (n6).toNat 26) (f35 : n20 ≤ 9999) (f36 : (-1) ≤ n20) (f37 : n20 = hV H2 (n19).toNat (n2).toNat) (f38 : n21 = w32 (n18 + n20)) : n21 ≤ 62 := by
  have g4 := f16.2.1.1
  unfold Ab_287_219 at g4
  have g3 := f16.2.1.2
  unfold preb_287 at g3
  have e0 : hV H1 298 = hV H0 298 := fRow f16.1.2.1 298 kR_287_298
  have e1 : n10 = hV H0 298 (n2).toNat := (by rw [f17] at f21; exact f21 : n10 = hV H1 298 (n2).toNat).trans ((congrFun e0 _))
  have e3 : hV H1 300 = hV H0 300 := fRow f16.1.2.1 300 kR_287_300
  have e4 : n20 = hV H0 300 (n2).toNat := (by rw [f33] at f37; exact f37 : n20 = hV H2 300 (n2).toNat).trans (((congrFun (uRowNe f28 300 (iS (show n12 = ((353 : Nat) : Int) from f24) rfl)) _)).trans ((congrFun e3 _)))
  have e8 : hV H1 285 65 = hV H0 285 65 := (f16.1.2.1.1 285 65 kF_287_285_65)
  have e9 : hV H1 294 = hV H0 294 := fRow f16.1.2.1 294 kR_287_294
  have e10 : hV H1 296 = hV H0 296 := fRow f16.1.2.1 296 kR_287_296
  have e11 : hV H1 301 = hV H0 301 := fRow f16.1.2.1 301 kR_287_301
  have e12 : hV H1 303 = hV H0 303 := fRow f16.1.2.1 303 kR_287_303
  have e13 : hV H1 341 = hV H0 341 := fRow f16.1.2.1 341 kR_287_341
  have e14 : (0 : Int) ≤ hV H0 285 18 ∧ hV H0 285 18 ≤ 8 := bTo ((f16.1.2.1.1 285 18 kF_287_285_18)) (f16.1.2.2 285 18 _ _ kW_285_18)
  have e15 : (0 : Int) ≤ hV H0 285 65 ∧ hV H0 285 65 ≤ 2147483647 := bTo e8 (f16.1.2.2 285 65 _ _ kW_285_65)
  have k0 := g4.1
  have y0 := g4.2.1
  have y1 := g4.2.2.1
  have y2 := g4.2.2.2.1
  have y3 := g4.2.2.2.2.1
  have y4 := g4.2.2.2.2.2.1
  have y5 := g4.2.2.2.2.2.2
  have p0 := g3.1
  have p1 := g3.2.1
  have p2 := g3.2.2
  try simp only [e9, e10] at y0
  try simp only [e9, e10, e0, e3] at y1
  try simp only [e8] at y3
  try simp only [e10, e0, e3, e11, e12, e13] at y5
  clear g3
  clear g4
  clear f18 f21 f25 f34 f37 e0 e3 e8 e9 e10 e11 e12 e13
  clear f16
  subst e1
  subst e4
  rw [f31] at f32
  unfold w32 at f27 f30 f32 f38
  try have um := y1 (by omega)
  have pb := (p1 (n7).toNat (by omega)).1
  try (have ix0 : n14 = n3 + 1 := (by omega); subst ix0)
  try (have ix1 : n18 = 7 * n5 := (by omega); subst ix1)
  try (have ix2 : n21 = (7 * n5) + hV H0 300 (n2).toNat := (by omega); subst ix2)
  try subst k0
  omega
def g_287_219_4 : vG := ([(1, [22, 19, 21], [], 0), (22, [21, 20, 6], [2], 0), (90, [21], [], -1), (91, [21], [], 9999), (20, [20, 2], [2], 26), (0, [20], [], 300), (3, [19, 18, 3], [], 0), (0, [18], [], 7), (1, [17, 5, 16], [], 0), (0, [16], [], 1), (80, [12, 14, 7], [2, 1], 0), (1, [14, 5, 13], [], 0), (0, [13], [], 1), (20, [12, 2], [1], 95), (0, [12], [], 353), (40, [10, 11], [], 0), (0, [11], [], 5), (22, [10, 9, 6], [1], 0), (90, [10], [], 0), (91, [10], [], 5), (20, [9, 2], [1], 24), (0, [9], [], 298), (5000, [0, 1, 2, 3, 4, 5, 6, 7, 8], [0, 1], 219), (0, [0], [], 285), (90, [1], [], 0), (91, [1], [], 7), (0, [2], [], 285), (90, [3], [], 0), (91, [3], [], 7), (90, [4], [], 0), (91, [4], [], 2147483647), (90, [5], [], 0), (91, [5], [], 6), (90, [6], [], 0), (91, [6], [], 1007), (90, [7], [], -1), (91, [7], [], 9999), (90, [8], [], -2147483648), (91, [8], [], 2147483647)], (91, [22], [], 62))
theorem c_287_219_4 {q0 : Nat} : vOkm T0 (eP e_287 L_287 A_287 mu_287 (some q0)) 2 g_287_219_4 := vOk_inI fun ρ η f0 f1 f2 f3 f4 f5 f6 f7 f8 f9 f10 f11 f12 f13 f14 f15 f16 f17 f18 f19 f20 f21 f22 f23 f24 f25 f26 f27 f28 f29 f30 f31 f32 f33 f34 f35 f36 f37 f38 => q_287_37 (q0 := q0) (n0 := ρ 8) (n1 := ρ 7) (n2 := ρ 6) (n3 := ρ 5) (n4 := ρ 4) (n5 := ρ 3) (n6 := ρ 2) (n7 := ρ 1) (n8 := ρ 0) (n9 := ρ 9) (n10 := ρ 10) (n11 := ρ 11) (n12 := ρ 12) (n13 := ρ 13) (n14 := ρ 14) (n15 := ρ 16) (n16 := ρ 17) (n17 := ρ 18) (n18 := ρ 19) (n19 := ρ 20) (n20 := ρ 21) (n21 := ρ 22) (H0 := η 0) (H1 := η 1) (H2 := η 2) f38 f37 f36 f35 f34 f33 f32 f31 f30 f29 f28 f27 f26 f25 f24 f23 f22 f21 f20 f19 f18 f17 f16 f15 f14 f13 f12 f11 f10 f9 f8 f7 f6 f5 f4 f3 f2 f1 f0
def g_287_219_5 : vG := ([(1, [25, 5, 24], [], 0), (0, [24], [], 1), (90, [5], [], 0), (91, [5], [], 6)], (70, [25], [], 8))
theorem c_287_219_5 {q0 : Nat} : vOkm T0 (eP e_287 L_287 A_287 mu_287 (some q0)) 2 g_287_219_5 := vOk_inI fun ρ η f0 f1 f2 f3 => q_287_34 (q0 := q0) (n0 := ρ 5) (n1 := ρ 24) (n2 := ρ 25) (H0 := η 0) f3 f2 f1 f0
theorem q_287_38 {q0 : Nat} {n0 n1 : Int} {H0 : gH} (f0 : n0 ≤ 6) (f1 : 0 ≤ n0) (f2 : n1 = w32 (n0 + 1)) : (-1) ≤ n1 := by
  first
  | (have ix0 : n1 = n0 + 1 := Eq.trans f2 (w32_iv (Iad (Iat f1 f0) (IC 1)) (by decide)); subst ix0; clear f2)
  | (have ix0 : n1 = n0 + 1 := Eq.trans f2 (w32_id (by omega) (by omega)); subst ix0; clear f2)
  | (unfold w32 at f2; have ix0 : n1 = n0 + 1 := (by omega); subst ix0)
  | skip
  try unfold w32 at f2
  omega
def g_287_219_6 : vG := ([(10, [27, 5], [], 1), (90, [5], [], 0), (91, [5], [], 6)], (90, [27], [], -1))
theorem c_287_219_6 {q0 : Nat} : vOkm T0 (eP e_287 L_287 A_287 mu_287 (some q0)) 2 g_287_219_6 := vOk_inI fun ρ η f0 f1 f2 => q_287_38 (q0 := q0) (n0 := ρ 5) (n1 := ρ 27) (H0 := η 0) f2 f1 f0
theorem q_287_39 {q0 : Nat} {n0 n1 n2 n3 n4 n5 n6 n7 n8 n9 n10 n11 n12 n13 n14 n15 n16 n17 n18 n19 n20 n21 n22 n23 n24 : Int} {H0 H1 H2 : gH} (f0 : n0 ≤ 2147483647) (f1 : (-2147483648) ≤ n0) (f2 : n1 ≤ 9999) (f3 : (-1) ≤ n1) (f4 : n2 ≤ 1007) (f5 : 0 ≤ n2) (f6 : n3 ≤ 6) (f7 : 0 ≤ n3) (f8 : n4 ≤ 2147483647) (f9 : 0 ≤ n4) (f10 : n5 ≤ 7) (f11 : 0 ≤ n5) (f12 : n6 = 285) (f13 : n7 ≤ 7) (f14 : 0 ≤ n7) (f15 : n8 = 285) (f16 : (hLe T0 H0 H1 ∧ hFr s_287.2.2.2.2 H0 H1 ∧ hWt T0 H1) ∧ (Ab_287_219 n8 n7 n6 n5 n4 n3 n2 n1 n0 H0 H1 ∧ preb_287 n8 n7 H0) ∧ some q0 = some (mub_287_219 n8 n7 n6 n5 n4 n3 n2 n1 n0 H0 H1)) (f17 : n9 = 298) (f18 : n9 = hV H1 (n6).toNat 24) (f19 : n10 ≤ 5) (f20 : 0 ≤ n10) (f21 : n10 = hV H1 (n9).toNat (n2).toNat) (f22 : n11 = 5) (f23 : n10 = n11) (f24 : n12 = 353) (f25 : n12 = hV H1 (n6).toNat 95) (f26 : n13 = 1) (f27 : n14 = w32 (n3 + n13)) (f28 : hUpd H2 H1 n12 n14 n1) (f29 : n15 = 1) (f30 : n16 = w32 (n3 + n15)) (f31 : n17 = 7) (f32 : n18 = w32 (n17 * n5)) (f33 : n19 = 300) (f34 : n19 = hV H2 (n6).toNat 26) (f35 : n20 ≤ 9999) (f36 : (-1) ≤ n20) (f37 : n20 = hV H2 (n19).toNat (n2).toNat) (f38 : n21 = w32 (n18 + n20)) (f39 : n22 = 1) (f40 : n23 = w32 (n3 + n22)) (f41 : n24 = w32 (n3 + 1)) : n24 ≤ 6 := by
  have g4 := f16.2.1.1
  unfold Ab_287_219 at g4
  have g3 := f16.2.1.2
  unfold preb_287 at g3
  have e0 : hV H1 298 = hV H0 298 := fRow f16.1.2.1 298 kR_287_298
  have e1 : n10 = hV H0 298 (n2).toNat := (by rw [f17] at f21; exact f21 : n10 = hV H1 298 (n2).toNat).trans ((congrFun e0 _))
  have e3 : hV H1 300 = hV H0 300 := fRow f16.1.2.1 300 kR_287_300
  have e4 : n20 = hV H0 300 (n2).toNat := (by rw [f33] at f37; exact f37 : n20 = hV H2 300 (n2).toNat).trans (((congrFun (uRowNe f28 300 (iS (show n12 = ((353 : Nat) : Int) from f24) rfl)) _)).trans ((congrFun e3 _)))
  have e8 : hV H1 285 65 = hV H0 285 65 := (f16.1.2.1.1 285 65 kF_287_285_65)
  have e9 : hV H1 294 = hV H0 294 := fRow f16.1.2.1 294 kR_287_294
  have e10 : hV H1 296 = hV H0 296 := fRow f16.1.2.1 296 kR_287_296
  have e11 : hV H1 301 = hV H0 301 := fRow f16.1.2.1 301 kR_287_301
  have e12 : hV H1 303 = hV H0 303 := fRow f16.1.2.1 303 kR_287_303
  have e13 : hV H1 341 = hV H0 341 := fRow f16.1.2.1 341 kR_287_341
  have e14 : (0 : Int) ≤ hV H0 285 18 ∧ hV H0 285 18 ≤ 8 := bTo ((f16.1.2.1.1 285 18 kF_287_285_18)) (f16.1.2.2 285 18 _ _ kW_285_18)
  have e15 : (0 : Int) ≤ hV H0 285 65 ∧ hV H0 285 65 ≤ 2147483647 := bTo e8 (f16.1.2.2 285 65 _ _ kW_285_65)
  have k0 := g4.1
  have y0 := g4.2.1
  have y1 := g4.2.2.1
  have y2 := g4.2.2.2.1
  have y3 := g4.2.2.2.2.1
  have y4 := g4.2.2.2.2.2.1
  have y5 := g4.2.2.2.2.2.2
  have p0 := g3.1
  have p1 := g3.2.1
  have p2 := g3.2.2
  try simp only [e9, e10] at y0
  try simp only [e9, e10, e0, e3] at y1
  try simp only [e8] at y3
  try simp only [e10, e0, e3, e11, e12, e13] at y5
  clear g3
  clear g4
  clear f18 f21 f25 f34 f37 e0 e3 e8 e9 e10 e11 e12 e13
  clear f16
  subst e1
  subst e4
  rw [f31] at f32
  unfold w32 at f27 f30 f32 f38 f40 f41
  try have um := y1 (by omega)
  have pb := (p1 (n7).toNat (by omega)).1
  try (have ix0 : n14 = n3 + 1 := (by omega); subst ix0)
  try (have ix1 : n24 = n3 + 1 := (by omega); subst ix1)
  try subst k0
  omega
def g_287_219_7 : vG := ([(10, [27, 5], [], 1), (1, [25, 5, 24], [], 0), (0, [24], [], 1), (1, [22, 19, 21], [], 0), (22, [21, 20, 6], [2], 0), (90, [21], [], -1), (91, [21], [], 9999), (20, [20, 2], [2], 26), (0, [20], [], 300), (3, [19, 18, 3], [], 0), (0, [18], [], 7), (1, [17, 5, 16], [], 0), (0, [16], [], 1), (80, [12, 14, 7], [2, 1], 0), (1, [14, 5, 13], [], 0), (0, [13], [], 1), (20, [12, 2], [1], 95), (0, [12], [], 353), (40, [10, 11], [], 0), (0, [11], [], 5), (22, [10, 9, 6], [1], 0), (90, [10], [], 0), (91, [10], [], 5), (20, [9, 2], [1], 24), (0, [9], [], 298), (5000, [0, 1, 2, 3, 4, 5, 6, 7, 8], [0, 1], 219), (0, [0], [], 285), (90, [1], [], 0), (91, [1], [], 7), (0, [2], [], 285), (90, [3], [], 0), (91, [3], [], 7), (90, [4], [], 0), (91, [4], [], 2147483647), (90, [5], [], 0), (91, [5], [], 6), (90, [6], [], 0), (91, [6], [], 1007), (90, [7], [], -1), (91, [7], [], 9999), (90, [8], [], -2147483648), (91, [8], [], 2147483647)], (91, [27], [], 6))
theorem c_287_219_7 {q0 : Nat} : vOkm T0 (eP e_287 L_287 A_287 mu_287 (some q0)) 2 g_287_219_7 := vOk_inI fun ρ η f0 f1 f2 f3 f4 f5 f6 f7 f8 f9 f10 f11 f12 f13 f14 f15 f16 f17 f18 f19 f20 f21 f22 f23 f24 f25 f26 f27 f28 f29 f30 f31 f32 f33 f34 f35 f36 f37 f38 f39 f40 f41 => q_287_39 (q0 := q0) (n0 := ρ 8) (n1 := ρ 7) (n2 := ρ 6) (n3 := ρ 5) (n4 := ρ 4) (n5 := ρ 3) (n6 := ρ 2) (n7 := ρ 1) (n8 := ρ 0) (n9 := ρ 9) (n10 := ρ 10) (n11 := ρ 11) (n12 := ρ 12) (n13 := ρ 13) (n14 := ρ 14) (n15 := ρ 16) (n16 := ρ 17) (n17 := ρ 18) (n18 := ρ 19) (n19 := ρ 20) (n20 := ρ 21) (n21 := ρ 22) (n22 := ρ 24) (n23 := ρ 25) (n24 := ρ 27) (H0 := η 0) (H1 := η 1) (H2 := η 2) f41 f40 f39 f38 f37 f36 f35 f34 f33 f32 f31 f30 f29 f28 f27 f26 f25 f24 f23 f22 f21 f20 f19 f18 f17 f16 f15 f14 f13 f12 f11 f10 f9 f8 f7 f6 f5 f4 f3 f2 f1 f0
theorem q_287_40 {q0 : Nat} {n0 n1 n2 n3 n4 n5 n6 n7 n8 n9 n10 n11 n12 n13 n14 n15 n16 n17 n18 n19 n20 n21 n22 n23 n24 n25 n26 n27 : Int} {H0 H1 H2 H3 H4 : gH} (f0 : n0 ≤ 2147483647) (f1 : (-2147483648) ≤ n0) (f2 : n1 ≤ 9999) (f3 : (-1) ≤ n1) (f4 : n2 ≤ 1007) (f5 : 0 ≤ n2) (f6 : n3 ≤ 6) (f7 : 0 ≤ n3) (f8 : n4 ≤ 2147483647) (f9 : 0 ≤ n4) (f10 : n5 ≤ 7) (f11 : 0 ≤ n5) (f12 : n6 = 285) (f13 : n7 ≤ 7) (f14 : 0 ≤ n7) (f15 : n8 = 285) (f16 : (hLe T0 H0 H1 ∧ hFr s_287.2.2.2.2 H0 H1 ∧ hWt T0 H1) ∧ (Ab_287_219 n8 n7 n6 n5 n4 n3 n2 n1 n0 H0 H1 ∧ preb_287 n8 n7 H0) ∧ some q0 = some (mub_287_219 n8 n7 n6 n5 n4 n3 n2 n1 n0 H0 H1)) (f17 : n9 = 298) (f18 : n9 = hV H1 (n6).toNat 24) (f19 : n10 ≤ 5) (f20 : 0 ≤ n10) (f21 : n10 = hV H1 (n9).toNat (n2).toNat) (f22 : n11 = 5) (f23 : n10 = n11) (f24 : n12 = 353) (f25 : n12 = hV H1 (n6).toNat 95) (f26 : n13 = 1) (f27 : n14 = w32 (n3 + n13)) (f28 : hUpd H2 H1 n12 n14 n1) (f29 : n15 = 346) (f30 : n15 = hV H2 (n6).toNat 85) (f31 : n16 = 1) (f32 : n17 = w32 (n3 + n16)) (f33 : n18 = 7) (f34 : n19 = w32 (n18 * n5)) (f35 : n20 = 300) (f36 : n20 = hV H2 (n6).toNat 26) (f37 : n21 ≤ 9999) (f38 : (-1) ≤ n21) (f39 : n21 = hV H2 (n20).toNat (n2).toNat) (f40 : n22 = w32 (n19 + n21)) (f41 : hUpd H3 H2 n15 n17 n22) (f42 : n23 = 347) (f43 : n23 = hV H3 (n6).toNat 86) (f44 : n24 = 1) (f45 : n25 = w32 (n3 + n24)) (f46 : n26 = 0) (f47 : hUpd H4 H3 n23 n25 n26) (f48 : n27 = w32 (n3 + 1)) : Ab_287_31 n8 n7 n6 n5 n4 n27 H0 H4 ∧ ∀ q, some q0 = some q → mub_287_31 n8 n7 n6 n5 n4 n27 H0 H4 < q := by
  have g4 := f16.2.1.1
  unfold Ab_287_219 at g4
  have g3 := f16.2.1.2
  unfold preb_287 at g3
  have g5 := Option.some.inj f16.2.2
  unfold mub_287_219 at g5
  unfold Ab_287_31
  unfold mub_287_31
  have e0 : hV H1 298 = hV H0 298 := fRow f16.1.2.1 298 kR_287_298
  have e1 : n10 = hV H0 298 (n2).toNat := (by rw [f17] at f21; exact f21 : n10 = hV H1 298 (n2).toNat).trans ((congrFun e0 _))
  have e3 : hV H1 300 = hV H0 300 := fRow f16.1.2.1 300 kR_287_300
  have e4 : n21 = hV H0 300 (n2).toNat := (by rw [f35] at f39; exact f39 : n21 = hV H2 300 (n2).toNat).trans (((congrFun (uRowNe f28 300 (iS (show n12 = ((353 : Nat) : Int) from f24) rfl)) _)).trans ((congrFun e3 _)))
  have e8 : hV H1 285 65 = hV H0 285 65 := (f16.1.2.1.1 285 65 kF_287_285_65)
  have e9 : hV H1 294 = hV H0 294 := fRow f16.1.2.1 294 kR_287_294
  have e10 : hV H1 296 = hV H0 296 := fRow f16.1.2.1 296 kR_287_296
  have e11 : hV H1 301 = hV H0 301 := fRow f16.1.2.1 301 kR_287_301
  have e12 : hV H1 303 = hV H0 303 := fRow f16.1.2.1 303 kR_287_303
  have e13 : hV H1 341 = hV H0 341 := fRow f16.1.2.1 341 kR_287_341
  have e17 : hV H4 285 65 = hV H0 285 65 := ((uPlace f47 285 65 (iS (show n23 = ((347 : Nat) : Int) from f42) rfl))).trans (((uPlace f41 285 65 (iS (show n15 = ((346 : Nat) : Int) from f29) rfl))).trans (((uPlace f28 285 65 (iS (show n12 = ((353 : Nat) : Int) from f24) rfl))).trans (f16.1.2.1.1 285 65 kF_287_285_65)))
  have e23 : hV H4 294 = hV H0 294 := (uRowNe f47 294 (iS (show n23 = ((347 : Nat) : Int) from f42) rfl)).trans ((uRowNe f41 294 (iS (show n15 = ((346 : Nat) : Int) from f29) rfl)).trans ((uRowNe f28 294 (iS (show n12 = ((353 : Nat) : Int) from f24) rfl)).trans e9))
  have e29 : hV H4 296 = hV H0 296 := (uRowNe f47 296 (iS (show n23 = ((347 : Nat) : Int) from f42) rfl)).trans ((uRowNe f41 296 (iS (show n15 = ((346 : Nat) : Int) from f29) rfl)).trans ((uRowNe f28 296 (iS (show n12 = ((353 : Nat) : Int) from f24) rfl)).trans e10))
  have e35 : hV H4 298 = hV H0 298 := (uRowNe f47 298 (iS (show n23 = ((347 : Nat) : Int) from f42) rfl)).trans ((uRowNe f41 298 (iS (show n15 = ((346 : Nat) : Int) from f29) rfl)).trans ((uRowNe f28 298 (iS (show n12 = ((353 : Nat) : Int) from f24) rfl)).trans e0))
  have e40 : hV H4 300 = hV H0 300 := (uRowNe f47 300 (iS (show n23 = ((347 : Nat) : Int) from f42) rfl)).trans ((uRowNe f41 300 (iS (show n15 = ((346 : Nat) : Int) from f29) rfl)).trans ((uRowNe f28 300 (iS (show n12 = ((353 : Nat) : Int) from f24) rfl)).trans e3))
  have e46 : hV H4 301 = hV H0 301 := (uRowNe f47 301 (iS (show n23 = ((347 : Nat) : Int) from f42) rfl)).trans ((uRowNe f41 301 (iS (show n15 = ((346 : Nat) : Int) from f29) rfl)).trans ((uRowNe f28 301 (iS (show n12 = ((353 : Nat) : Int) from f24) rfl)).trans e11))
  have e52 : hV H4 303 = hV H0 303 := (uRowNe f47 303 (iS (show n23 = ((347 : Nat) : Int) from f42) rfl)).trans ((uRowNe f41 303 (iS (show n15 = ((346 : Nat) : Int) from f29) rfl)).trans ((uRowNe f28 303 (iS (show n12 = ((353 : Nat) : Int) from f24) rfl)).trans e12))
  have e58 : hV H4 341 = hV H0 341 := (uRowNe f47 341 (iS (show n23 = ((347 : Nat) : Int) from f42) rfl)).trans ((uRowNe f41 341 (iS (show n15 = ((346 : Nat) : Int) from f29) rfl)).trans ((uRowNe f28 341 (iS (show n12 = ((353 : Nat) : Int) from f24) rfl)).trans e13))
  have e63 : hV H4 346 = (uF (hV H1 346) n17 n22) := (uRowNe f47 346 (iS (show n23 = ((347 : Nat) : Int) from f42) rfl)).trans ((uRow f41 346 f29.symm).trans (congrArg (fun z => uF z n17 n22) (uRowNe f28 346 (iS (show n12 = ((353 : Nat) : Int) from f24) rfl))))
  have e68 : hV H4 347 = (uF (hV H1 347) n25 n26) := (uRow f47 347 f42.symm).trans (congrArg (fun z => uF z n25 n26) ((uRowNe f41 347 (iS (show n15 = ((346 : Nat) : Int) from f29) rfl)).trans (uRowNe f28 347 (iS (show n12 = ((353 : Nat) : Int) from f24) rfl))))
  have e73 : hV H4 353 = (uF (hV H1 353) n14 n1) := (uRowNe f47 353 (iS (show n23 = ((347 : Nat) : Int) from f42) rfl)).trans ((uRowNe f41 353 (iS (show n15 = ((346 : Nat) : Int) from f29) rfl)).trans (uRow f28 353 f24.symm))
  have e74 : (0 : Int) ≤ hV H0 285 18 ∧ hV H0 285 18 ≤ 8 := bTo ((f16.1.2.1.1 285 18 kF_287_285_18)) (f16.1.2.2 285 18 _ _ kW_285_18)
  have e75 : (0 : Int) ≤ hV H0 285 65 ∧ hV H0 285 65 ≤ 2147483647 := bTo e8 (f16.1.2.2 285 65 _ _ kW_285_65)
  try simp only [e10] at g5
  try simp only [e17, e23, e29, e35, e40, e46, e52, e58, e63, e68, e73]
  have k0 := g4.1
  have y0 := g4.2.1
  have y1 := g4.2.2.1
  have y2 := g4.2.2.2.1
  have y3 := g4.2.2.2.2.1
  have y4 := g4.2.2.2.2.2.1
  have y5 := g4.2.2.2.2.2.2
  have p0 := g3.1
  have p1 := g3.2.1
  have p2 := g3.2.2
  try simp only [e9, e10] at y0
  try simp only [e9, e10, e0, e3] at y1
  try simp only [e8] at y3
  try simp only [e10, e0, e3, e11, e12, e13] at y5
  clear g3
  clear g4
  clear f18 f21 f25 f30 f36 f39 f43 e0 e3 e8 e9 e10 e11 e12 e13 e17 e23 e29 e35 e40 e46 e52 e58 e63 e68 e73
  clear f16
  subst e1
  subst e4
  rw [f33] at f34
  unfold w32 at f27 f32 f34 f40 f45 f48
  try have um := y1 (by omega)
  have pb := (p1 (n7).toNat (by omega)).1
  try (have ix0 : n14 = n3 + 1 := (by omega); subst ix0)
  try (have ix1 : n17 = n3 + 1 := (by omega); subst ix1)
  try (have ix2 : n19 = 7 * n5 := (by omega); subst ix2)
  try (have ix3 : n22 = (7 * n5) + hV H0 300 (n2).toNat := (by omega); subst ix3)
  try (have ix4 : n25 = n3 + 1 := (by omega); subst ix4)
  try (have ix5 : n27 = n3 + 1 := (by omega); subst ix5)

  have um := y1 (by omega)
  refine ⟨⟨?_, ?_, ?_, ?_⟩, fun q hq => ?_⟩
  · first | omega | trivial
  · exact LVp_use y0 (by omega) (by omega) (by omega) (by omega) (by omega) (hV H0 300 (n2).toNat) (by omega) (by omega) (by omega) (by omega) (by omega)
  · exact ML_use y5 (p1 (n7).toNat (by omega)) y1 (by omega) (by omega) (by omega) (by omega) (by omega) (by omega) (by omega) (by omega) (by omega)
  · first
    | omega
    | (refine ⟨?_, ?_⟩ <;> first | exact True.intro | omega)
  · have g6 := Option.some.inj hq
    subst g6
    rw [g5]
    have mi := MS_into (ia := hV H1 347) y1 (by omega) (by omega) (i := n3 + 1) (w := 7 * n5 + hV H0 300 (n2).toNat) (j := n3 + 1) (v := n26) (depth' := n3 + 1) rfl rfl (by omega) (by omega) rfl
    omega
def g_287_219_8 : vG := ([(10, [27, 5], [], 1), (80, [23, 25, 26], [4, 3], 0), (0, [26], [], 0), (1, [25, 5, 24], [], 0), (0, [24], [], 1), (20, [23, 2], [3], 86), (0, [23], [], 347), (80, [15, 17, 22], [3, 2], 0), (1, [22, 19, 21], [], 0), (22, [21, 20, 6], [2], 0), (90, [21], [], -1), (91, [21], [], 9999), (20, [20, 2], [2], 26), (0, [20], [], 300), (3, [19, 18, 3], [], 0), (0, [18], [], 7), (1, [17, 5, 16], [], 0), (0, [16], [], 1), (20, [15, 2], [2], 85), (0, [15], [], 346), (80, [12, 14, 7], [2, 1], 0), (1, [14, 5, 13], [], 0), (0, [13], [], 1), (20, [12, 2], [1], 95), (0, [12], [], 353), (40, [10, 11], [], 0), (0, [11], [], 5), (22, [10, 9, 6], [1], 0), (90, [10], [], 0), (91, [10], [], 5), (20, [9, 2], [1], 24), (0, [9], [], 298), (5000, [0, 1, 2, 3, 4, 5, 6, 7, 8], [0, 1], 219), (0, [0], [], 285), (90, [1], [], 0), (91, [1], [], 7), (0, [2], [], 285), (90, [3], [], 0), (91, [3], [], 7), (90, [4], [], 0), (91, [4], [], 2147483647), (90, [5], [], 0), (91, [5], [], 6), (90, [6], [], 0), (91, [6], [], 1007), (90, [7], [], -1), (91, [7], [], 9999), (90, [8], [], -2147483648), (91, [8], [], 2147483647)], (4000, [2, 3, 4, 27], [4], 31))
theorem c_287_219_8 {q0 : Nat} : vOkm T0 (eP e_287 L_287 A_287 mu_287 (some q0)) 2 g_287_219_8 := vOk_inI fun ρ η f0 f1 f2 f3 f4 f5 f6 f7 f8 f9 f10 f11 f12 f13 f14 f15 f16 f17 f18 f19 f20 f21 f22 f23 f24 f25 f26 f27 f28 f29 f30 f31 f32 f33 f34 f35 f36 f37 f38 f39 f40 f41 f42 f43 f44 f45 f46 f47 f48 => q_287_40 (q0 := q0) (n0 := ρ 8) (n1 := ρ 7) (n2 := ρ 6) (n3 := ρ 5) (n4 := ρ 4) (n5 := ρ 3) (n6 := ρ 2) (n7 := ρ 1) (n8 := ρ 0) (n9 := ρ 9) (n10 := ρ 10) (n11 := ρ 11) (n12 := ρ 12) (n13 := ρ 13) (n14 := ρ 14) (n15 := ρ 15) (n16 := ρ 16) (n17 := ρ 17) (n18 := ρ 18) (n19 := ρ 19) (n20 := ρ 20) (n21 := ρ 21) (n22 := ρ 22) (n23 := ρ 23) (n24 := ρ 24) (n25 := ρ 25) (n26 := ρ 26) (n27 := ρ 27) (H0 := η 0) (H1 := η 1) (H2 := η 2) (H3 := η 3) (H4 := η 4) f48 f47 f46 f45 f44 f43 f42 f41 f40 f39 f38 f37 f36 f35 f34 f33 f32 f31 f30 f29 f28 f27 f26 f25 f24 f23 f22 f21 f20 f19 f18 f17 f16 f15 f14 f13 f12 f11 f10 f9 f8 f7 f6 f5 f4 f3 f2 f1 f0
theorem q_287_41 {q0 : Nat} {n0 n1 n2 n3 n4 n5 n6 n7 n8 n9 n10 n11 : Int} {H0 H1 : gH} (f0 : n0 ≤ 2147483647) (f1 : (-2147483648) ≤ n0) (f2 : n1 ≤ 9999) (f3 : (-1) ≤ n1) (f4 : n2 ≤ 1007) (f5 : 0 ≤ n2) (f6 : n3 ≤ 6) (f7 : 0 ≤ n3) (f8 : n4 ≤ 2147483647) (f9 : 0 ≤ n4) (f10 : n5 ≤ 7) (f11 : 0 ≤ n5) (f12 : n6 = 285) (f13 : n7 ≤ 7) (f14 : 0 ≤ n7) (f15 : n8 = 285) (f16 : (hLe T0 H0 H1 ∧ hFr s_287.2.2.2.2 H0 H1 ∧ hWt T0 H1) ∧ (Ab_287_219 n8 n7 n6 n5 n4 n3 n2 n1 n0 H0 H1 ∧ preb_287 n8 n7 H0) ∧ some q0 = some (mub_287_219 n8 n7 n6 n5 n4 n3 n2 n1 n0 H0 H1)) (f17 : n9 = 298) (f18 : n9 = hV H1 (n6).toNat 24) (f19 : n10 ≤ 5) (f20 : 0 ≤ n10) (f21 : n10 = hV H1 (n9).toNat (n2).toNat) (f22 : n11 = 5) (f23 : n10 ≠ n11) : Ab_287_31 n8 n7 n6 n5 n4 n3 H0 H1 ∧ ∀ q, some q0 = some q → mub_287_31 n8 n7 n6 n5 n4 n3 H0 H1 < q := by
  have g4 := f16.2.1.1
  unfold Ab_287_219 at g4
  have g3 := f16.2.1.2
  unfold preb_287 at g3
  have g5 := Option.some.inj f16.2.2
  unfold mub_287_219 at g5
  unfold Ab_287_31
  unfold mub_287_31
  have e0 : hV H1 298 = hV H0 298 := fRow f16.1.2.1 298 kR_287_298
  have e1 : n10 = hV H0 298 (n2).toNat := (by rw [f17] at f21; exact f21 : n10 = hV H1 298 (n2).toNat).trans ((congrFun e0 _))
  have e5 : hV H1 285 65 = hV H0 285 65 := (f16.1.2.1.1 285 65 kF_287_285_65)
  have e6 : hV H1 294 = hV H0 294 := fRow f16.1.2.1 294 kR_287_294
  have e7 : hV H1 296 = hV H0 296 := fRow f16.1.2.1 296 kR_287_296
  have e8 : hV H1 300 = hV H0 300 := fRow f16.1.2.1 300 kR_287_300
  have e9 : hV H1 301 = hV H0 301 := fRow f16.1.2.1 301 kR_287_301
  have e10 : hV H1 303 = hV H0 303 := fRow f16.1.2.1 303 kR_287_303
  have e11 : hV H1 341 = hV H0 341 := fRow f16.1.2.1 341 kR_287_341
  have e12 : (0 : Int) ≤ hV H0 285 18 ∧ hV H0 285 18 ≤ 8 := bTo ((f16.1.2.1.1 285 18 kF_287_285_18)) (f16.1.2.2 285 18 _ _ kW_285_18)
  have e13 : (0 : Int) ≤ hV H0 285 65 ∧ hV H0 285 65 ≤ 2147483647 := bTo e5 (f16.1.2.2 285 65 _ _ kW_285_65)
  try simp only [e7] at g5
  try simp only [e5, e6, e7, e0, e8, e9, e10, e11]
  have k0 := g4.1
  have y0 := g4.2.1
  have y1 := g4.2.2.1
  have y2 := g4.2.2.2.1
  have y3 := g4.2.2.2.2.1
  have y4 := g4.2.2.2.2.2.1
  have y5 := g4.2.2.2.2.2.2
  have p0 := g3.1
  have p1 := g3.2.1
  have p2 := g3.2.2
  try simp only [e6, e7] at y0
  try simp only [e6, e7, e0, e8] at y1
  try simp only [e5] at y3
  try simp only [e7, e0, e8, e9, e10, e11] at y5
  clear g3
  clear g4
  clear f18 f21 e0 e5 e6 e7 e8 e9 e10 e11
  clear f16
  subst e1
  try have um := y1 (by omega)
  have pb := (p1 (n7).toNat (by omega)).1

  refine ⟨⟨?_, ?_, ?_, ?_⟩, fun q hq => ?_⟩
  · first | omega | trivial
  · exact y0
  · exact ML_skip y5 (by omega)
  · first
    | omega
    | (refine ⟨?_, ?_⟩ <;> first | exact True.intro | omega)
  · have g6 := Option.some.inj hq
    subst g6
    rw [g5]
    have hp := Nat.pow_pos (a := 18) (n := (hV H1 346 (n3).toNat).toNat - 7 * (n7).toNat) (by decide)
    omega
def g_287_219_9 : vG := ([(41, [10, 11], [], 0), (0, [11], [], 5), (22, [10, 9, 6], [1], 0), (90, [10], [], 0), (91, [10], [], 5), (20, [9, 2], [1], 24), (0, [9], [], 298), (5000, [0, 1, 2, 3, 4, 5, 6, 7, 8], [0, 1], 219), (0, [0], [], 285), (90, [1], [], 0), (91, [1], [], 7), (0, [2], [], 285), (90, [3], [], 0), (91, [3], [], 7), (90, [4], [], 0), (91, [4], [], 2147483647), (90, [5], [], 0), (91, [5], [], 6), (90, [6], [], 0), (91, [6], [], 1007), (90, [7], [], -1), (91, [7], [], 9999), (90, [8], [], -2147483648), (91, [8], [], 2147483647)], (4000, [2, 3, 4, 5], [1], 31))
theorem c_287_219_9 {q0 : Nat} : vOkm T0 (eP e_287 L_287 A_287 mu_287 (some q0)) 2 g_287_219_9 := vOk_inI fun ρ η f0 f1 f2 f3 f4 f5 f6 f7 f8 f9 f10 f11 f12 f13 f14 f15 f16 f17 f18 f19 f20 f21 f22 f23 => q_287_41 (q0 := q0) (n0 := ρ 8) (n1 := ρ 7) (n2 := ρ 6) (n3 := ρ 5) (n4 := ρ 4) (n5 := ρ 3) (n6 := ρ 2) (n7 := ρ 1) (n8 := ρ 0) (n9 := ρ 9) (n10 := ρ 10) (n11 := ρ 11) (H0 := η 0) (H1 := η 1) f23 f22 f21 f20 f19 f18 f17 f16 f15 f14 f13 f12 f11 f10 f9 f8 f7 f6 f5 f4 f3 f2 f1 f0
def p_287_219 : List vG := [g_287_219_0,
  g_287_219_1,
  g_287_219_2,
  g_287_219_3,
  g_287_219_4,
  g_287_219_5,
  g_287_219_6,
  g_287_219_7,
  g_287_219_8,
  g_287_219_9]
theorem r_287_219 : vCovO false (eRc e_287 L_287 cs_287 2000 (219, [(0, (3, 12, 285, 0)), (1, (0, 0, 7, 0)), (2, (0, 0, 2147483647, 0)), (3, (0, 0, 6, 0)), (4, (0, 0, 1007, 0)), (5, (0, -1, 9999, 0)), (6, (0, -2147483648, 2147483647, 0))])) p_287_219 = true := by decide +kernel
theorem m_287 (d : Nat) : eC e_287 (d + 1) := eC_ok (e := e_287) (L := L_287) (cs := cs_287) (n := 2000) (d := d + 0) (A := A_287) (μ := mu_287) (tp := false) (p0 := p_287_s) rfl trivial rfl (.inl rfl) (by decide +kernel) (fun z => nomatch z) r_287_s (allC c_287_s_0 (allC c_287_s_1 (allC c_287_s_2 allN))) (allC (.inl ⟨p_287_31, r_287_31, fun q0 => (allC c_287_31_0 (allC c_287_31_1 (allC c_287_31_2 (allC c_287_31_3 (allC c_287_31_4 (allC c_287_31_5 (allC c_287_31_6 (allC c_287_31_7 (allC c_287_31_8 (allC c_287_31_9 (allC c_287_31_10 (allC c_287_31_11 (allC c_287_31_12 (allC c_287_31_13 (allC c_287_31_14 (allC c_287_31_15 (allC c_287_31_16 (allC c_287_31_17 (allC c_287_31_18 (allC c_287_31_19 (allC c_287_31_20 (allC c_287_31_21 (allC c_287_31_22 (allC c_287_31_23 allN))))))))))))))))))))))))⟩) (allC (.inl ⟨p_287_147, r_287_147, fun q0 => (allC c_287_147_0 (allC c_287_147_1 (allC c_287_147_2 (allC c_287_147_3 (allC c_287_147_4 (allC c_287_147_5 allN))))))⟩) (allC (.inl ⟨p_287_183, r_287_183, fun q0 => (allC c_287_183_0 (allC c_287_183_1 (allC c_287_183_2 (allC c_287_183_3 (allC c_287_183_4 (allC c_287_183_5 allN))))))⟩) (allC (.inl ⟨p_287_219, r_287_219, fun q0 => (allC c_287_219_0 (allC c_287_219_1 (allC c_287_219_2 (allC c_287_219_3 (allC c_287_219_4 (allC c_287_219_5 (allC c_287_219_6 (allC c_287_219_7 (allC c_287_219_8 (allC c_287_219_9 allN))))))))))⟩) allN))))
