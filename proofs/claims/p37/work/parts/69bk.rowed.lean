/- MixStageModel.owed (IIII)I, more fully -/
def nb_313 (r a0 a1 a2 a3 a4 : Int) (h0 h : gH) : Prop := (¬ ((((0 ≤ a1 ∧ a1 < hV h0 285 18) ∧ 0 ≤ a3 ∧ a3 < hV h0 285 60 ∧ hV h0 293 (a1).toNat ≤ a3) ∧ 0 ≤ a2 ∧ a2 < hV h0 285 64 ∧ hV h0 328 (a2).toNat = 3) ∧ 0 ≤ a4 ∧ a4 ≤ 9) → r = -1) ∧ (((((0 ≤ a1 ∧ a1 < hV h0 285 18) ∧ 0 ≤ a3 ∧ a3 < hV h0 285 60 ∧ hV h0 293 (a1).toNat ≤ a3) ∧ 0 ≤ a2 ∧ a2 < hV h0 285 64 ∧ hV h0 328 (a2).toNat = 3) ∧ 0 ≤ a4 ∧ a4 ≤ 9) → 0 ≤ (hV h0 293 (a1).toNat) ∧ (SEok (RE h0) → MT (mR h0) → (∀ c, c ∈ (lrL h0 (hV h0 340) (flS (hV h0 296) (hV h0 298) (hV h0 300) (hV h0 301) (hV h0 302) (hV h0 340) (7 * (a1).toNat) 7 6 0)) → FBc c) → ∀ R : List Rul, rgS h0 (hV h0 285 34) (600 * (hV h0 285 34) + 600) (200 * (hV h0 285 34) + 200) R → GRs R → r = clO (oV (OVv (SNDf (RE h0) (lrL h0 (hV h0 340) (flS (hV h0 296) (hV h0 298) (hV h0 300) (hV h0 301) (hV h0 302) (hV h0 340) (7 * (a1).toNat) 7 6 0)) a2 (hV h0 325 (hV h0 293 (a1).toNat).toNat) (hV h0 327) (hV h0 293 (a1).toNat) a3 (hV h0 325 (a3).toNat)) (hV h0 330 (a2).toNat) a4 (cntL (RE h0) a2 (lrL h0 (hV h0 340) (flS (hV h0 296) (hV h0 298) (hV h0 300) (hV h0 301) (hV h0 302) (hV h0 340) (7 * (a1).toNat) 7 6 0)))) R)))
def n_313 : List Int → gH → gH → Prop := fun xs h0 h => match xs with
  | [r, a0, a1, a2, a3, a4] => nb_313 r a0 a1 a2 a3 a4 h0 h
  | _ => True
noncomputable def e_313w : vE := eV e_313 n_313
noncomputable def L_313w : List vE := [e_239w, e_251, e_310q, e_311w]
def Bb_313_93 (a0 a1 a2 a3 a4 x0 x1 x2 x3 x4 x5 x6 : Int) (h0 h : gH) : Prop := ((((0 ≤ a1 ∧ a1 < hV h0 285 18) ∧ 0 ≤ a3 ∧ a3 < hV h0 285 60 ∧ hV h0 293 (a1).toNat ≤ a3) ∧ 0 ≤ a2 ∧ a2 < hV h0 285 64 ∧ hV h0 328 (a2).toNat = 3) ∧ 0 ≤ a4 ∧ a4 ≤ 9) ∧ 0 ≤ (hV h0 293 (a1).toNat) ∧ (SEok (RE h0) → MT (mR h0) → (∀ c, c ∈ (lrL h0 (hV h0 340) (flS (hV h0 296) (hV h0 298) (hV h0 300) (hV h0 301) (hV h0 302) (hV h0 340) (7 * (a1).toNat) 7 6 0)) → FBc c) → ∀ R : List Rul, rgS h0 (hV h0 285 34) (600 * (hV h0 285 34) + 600) (200 * (hV h0 285 34) + 200) R → GRs R → ∃ j : Nat, x6 = 12 * (hV h0 285 34) + (j : Int) ∧ j ≤ R.length ∧ oV (VAr h) (R.drop j) = oV (OVv (SNDf (RE h0) (lrL h0 (hV h0 340) (flS (hV h0 296) (hV h0 298) (hV h0 300) (hV h0 301) (hV h0 302) (hV h0 340) (7 * (a1).toNat) 7 6 0)) a2 (hV h0 325 (hV h0 293 (a1).toNat).toNat) (hV h0 327) (hV h0 293 (a1).toNat) a3 (hV h0 325 (a3).toNat)) (hV h0 330 (a2).toNat) a4 (cntL (RE h0) a2 (lrL h0 (hV h0 340) (flS (hV h0 296) (hV h0 298) (hV h0 300) (hV h0 301) (hV h0 302) (hV h0 340) (7 * (a1).toNat) 7 6 0)))) R)
def B_313 : Int → List Int → gH → gH → Prop := fun c xs h0 h => match c.toNat with
  | 93 => (match xs with
    | [a0, a1, a2, a3, a4, x0, x1, x2, x3, x4, x5, x6] => Bb_313_93 a0 a1 a2 a3 a4 x0 x1 x2 x3 x4 x5 x6 h0 h
    | _ => False)
  | _ => True
theorem q_313w_0 {n0 n1 n2 n3 n4 n5 n6 : Int} {H0 H1 : gH} (f0 : n0 ≤ 2147483647) (f1 : (-2147483648) ≤ n0) (f2 : n1 ≤ 2147483647) (f3 : (-2147483648) ≤ n1) (f4 : n2 ≤ 2147483647) (f5 : (-2147483648) ≤ n2) (f6 : n3 ≤ 2147483647) (f7 : (-2147483648) ≤ n3) (f8 : n4 = 285) (f9 : hWt T0 H0 ∧ preb_313 n4 n3 n2 n1 n0 H0) (f10 : n5 ≤ 1) (f11 : 0 ≤ n5) (f12 : (hLe T0 H0 H1 ∧ hFr s_311.2.2.2.2 H0 H1 ∧ ((0 : Int) = 0 → H1.length = H0.length) ∧ hWt T0 H1) ∧ (postb_311 n5 n4 n3 n2 n1 H0 H1 ∧ nb_311 n5 n4 n3 n2 n1 H0 H1)) (f13 : n5 = 0) (f14 : n6 = (-1)) : nb_313 n6 n4 n3 n2 n1 n0 H0 H1 := by
  unfold nb_313
  have qm := f12.2.2
  unfold nb_311 at qm
  have a := (qm.resolve_left (fun w => by have := w.1; omega)).2
  exact ⟨fun _ => by omega, fun w => absurd w.1 a⟩
def g_313w_s_0 : vG := ([(0, [6], [], -1), (30, [5], [], 0), (1311, [5, 0, 1, 2, 3], [0, 1], 0), (90, [5], [], 0), (91, [5], [], 1), (6000, [0, 1, 2, 3, 4], [0], 0), (0, [0], [], 285), (90, [1], [], -2147483648), (91, [1], [], 2147483647), (90, [2], [], -2147483648), (91, [2], [], 2147483647), (90, [3], [], -2147483648), (91, [3], [], 2147483647), (90, [4], [], -2147483648), (91, [4], [], 2147483647)], (3000, [6], [1], 22))
theorem c_313w_s_0 : vOkm T0 (eN e_313 L_313w A_313 mu_313 n_313 B_313 none) 5 g_313w_s_0 := vOk_inI fun ρ η f0 f1 f2 f3 f4 f5 f6 f7 f8 f9 f10 f11 f12 f13 f14 => q_313w_0 (n0 := ρ 4) (n1 := ρ 3) (n2 := ρ 2) (n3 := ρ 1) (n4 := ρ 0) (n5 := ρ 5) (n6 := ρ 6) (H0 := η 0) (H1 := η 1) f14 f13 f12 f11 f10 f9 f8 f7 f6 f5 f4 f3 f2 f1 f0
theorem q_313w_1 {n0 n1 n2 n3 n4 n5 n6 n7 n8 n9 n10 n11 n12 n13 n14 n15 n16 n17 n18 n19 n20 n21 n22 n23 n24 n25 n26 n27 n28 n29 : Int} {H0 H1 H2 H3 H4 H5 H6 H7 H8 : gH} (f0 : n0 ≤ 2147483647) (f1 : (-2147483648) ≤ n0) (f2 : n1 ≤ 2147483647) (f3 : (-2147483648) ≤ n1) (f4 : n2 ≤ 2147483647) (f5 : (-2147483648) ≤ n2) (f6 : n3 ≤ 2147483647) (f7 : (-2147483648) ≤ n3) (f8 : n4 = 285) (f9 : hWt T0 H0 ∧ preb_313 n4 n3 n2 n1 n0 H0) (f10 : n5 ≤ 1) (f11 : 0 ≤ n5) (f12 : (hLe T0 H0 H1 ∧ hFr s_311.2.2.2.2 H0 H1 ∧ ((0 : Int) = 0 → H1.length = H0.length) ∧ hWt T0 H1) ∧ (postb_311 n5 n4 n3 n2 n1 H0 H1 ∧ nb_311 n5 n4 n3 n2 n1 H0 H1)) (f13 : n5 ≠ 0) (f14 : n6 = 0) (f15 : n7 = 9) (f16 : n8 ≤ 1) (f17 : 0 ≤ n8) (f18 : (hLe T0 H1 H2 ∧ hFr s_251.2.2.2.2 H1 H2 ∧ ((0 : Int) = 0 → H2.length = H1.length) ∧ hWt T0 H2) ∧ postb_251 n8 n0 n6 n7 H1 H2) (f19 : n8 ≠ 0) (f20 : n9 ≤ 2147483647) (f21 : (-2147483648) ≤ n9) (f22 : (hLe T0 H2 H3 ∧ hFr s_310.2.2.2.2 H2 H3 ∧ ((0 : Int) = 0 → H3.length = H2.length) ∧ hWt T0 H3) ∧ postb_310q n9 n4 n3 n2 n1 H2 H3) (f23 : n10 = 323) (f24 : hK H3 (n4).toNat = 12) (f25 : n10 = hV H3 (n4).toNat 56) (f26 : n11 = 0) (f27 : n12 = 23) (f28 : n13 = w32 (n9 + n12)) (f29 : n14 = 24) (f30 : n15 = o32 (fun x y => x / y) n13 n14) (f31 : hK H3 (n10).toNat = 412) (f32 : hUpd H4 H3 n10 n11 n15) (f33 : n16 = 323) (f34 : hK H4 (n4).toNat = 12) (f35 : n16 = hV H4 (n4).toNat 56) (f36 : n17 = 1) (f37 : n18 = 330) (f38 : hK H4 (n4).toNat = 12) (f39 : n18 = hV H4 (n4).toNat 68) (f40 : n19 ≤ 2147483647) (f41 : (-2147483648) ≤ n19) (f42 : n19 = hV H4 (n18).toNat (n2).toNat) (f43 : hK H4 (n16).toNat = 412) (f44 : hUpd H5 H4 n16 n17 n19) (f45 : n20 = 323) (f46 : hK H5 (n4).toNat = 12) (f47 : n20 = hV H5 (n4).toNat 56) (f48 : n21 = 2) (f49 : hK H5 (n20).toNat = 412) (f50 : hUpd H6 H5 n20 n21 n0) (f51 : n22 = 323) (f52 : hK H6 (n4).toNat = 12) (f53 : n22 = hV H6 (n4).toNat 56) (f54 : n23 = 3) (f55 : hK H6 (n22).toNat = 412) (f56 : hUpd H7 H6 n22 n23 n9) (f57 : n24 = 323) (f58 : hK H7 (n4).toNat = 12) (f59 : n24 = hV H7 (n4).toNat 56) (f60 : n25 = 4) (f61 : n26 ≤ 40) (f62 : 0 ≤ n26) (f63 : hK H7 (n4).toNat = 12) (f64 : n26 = hV H7 (n4).toNat 103) (f65 : hK H7 (n24).toNat = 412) (f66 : hUpd H8 H7 n24 n25 n26) (f67 : n27 = 12) (f68 : n28 ≤ 1) (f69 : 0 ≤ n28) (f70 : hK H8 (n4).toNat = 12) (f71 : n28 = hV H8 (n4).toNat 34) (f72 : n29 = w32 (n27 * n28)) : Bb_313_93 n4 n3 n2 n1 n0 n4 n3 n2 n1 n0 n9 n29 H0 H8 := by
  unfold Bb_313_93
  have qm := f12.2.2
  unfold nb_311 at qm
  have qi := f18.2
  unfold postb_251 at qi
  have d42 := rdW (q := 330) f42 f37
  have d64 := rdS (q := 285) f64 f8
  have d71 := rdS (q := 285) f71 f8
  have a := (qm.resolve_right (fun w => by have := w.1; omega)).2
  obtain ⟨a, d0⟩ := a
  have land : 0 ≤ n0 ∧ n0 ≤ 9 := by omega
  refine ⟨⟨a, land⟩, d0, fun sk mt fb R rg gr => ?_⟩
  have qp := f22.2
  unfold postb_310q at qp
  have qs := qp.1.2
  have qo := qp.2.2
  unfold nb_310 at qs
  unfold nbo_310 at qo
  rw [show RE H2 = RE H0 from (RE_fr f18.1.2.1 (by decide +kernel)).trans (RE_fr f12.1.2.1 (by decide +kernel)), show hV H2 293 = hV H0 293 from (fRow f18.1.2.1 293 (by decide +kernel)).trans (fRow f12.1.2.1 293 (by decide +kernel)), show hV H2 296 = hV H0 296 from (fRow f18.1.2.1 296 (by decide +kernel)).trans (fRow f12.1.2.1 296 (by decide +kernel)), show hV H2 298 = hV H0 298 from (fRow f18.1.2.1 298 (by decide +kernel)).trans (fRow f12.1.2.1 298 (by decide +kernel)), show hV H2 300 = hV H0 300 from (fRow f18.1.2.1 300 (by decide +kernel)).trans (fRow f12.1.2.1 300 (by decide +kernel)), show hV H2 301 = hV H0 301 from (fRow f18.1.2.1 301 (by decide +kernel)).trans (fRow f12.1.2.1 301 (by decide +kernel)), show hV H2 302 = hV H0 302 from (fRow f18.1.2.1 302 (by decide +kernel)).trans (fRow f12.1.2.1 302 (by decide +kernel)), show hV H2 340 = hV H0 340 from (fRow f18.1.2.1 340 (by decide +kernel)).trans (fRow f12.1.2.1 340 (by decide +kernel)), show hV H2 325 = hV H0 325 from (fRow f18.1.2.1 325 (by decide +kernel)).trans (fRow f12.1.2.1 325 (by decide +kernel)), show hV H2 327 = hV H0 327 from (fRow f18.1.2.1 327 (by decide +kernel)).trans (fRow f12.1.2.1 327 (by decide +kernel)), show hV H2 328 = hV H0 328 from (fRow f18.1.2.1 328 (by decide +kernel)).trans (fRow f12.1.2.1 328 (by decide +kernel)), show hV H2 285 64 = hV H0 285 64 from (f18.1.2.1.1 285 64 (by decide +kernel)).trans (f12.1.2.1.1 285 64 (by decide +kernel))] at qs
  rw [show lrL H2 (hV H0 340) (flS (hV H0 296) (hV H0 298) (hV H0 300) (hV H0 301) (hV H0 302) (hV H0 340) (7 * (n3).toNat) 7 6 0) = lrL H0 (hV H0 340) (flS (hV H0 296) (hV H0 298) (hV H0 300) (hV H0 301) (hV H0 302) (hV H0 340) (7 * (n3).toNat) 7 6 0) from by
    unfold lrL
    refine List.map_congr_left fun p _ => ?_
    rw [show recR H2 p.1 = recR H0 p.1 from (recR_fr f18.1.2.1 (by decide +kernel) p.1).trans (recR_fr f12.1.2.1 (by decide +kernel) p.1)]] at qs
  rw [show RE H2 = RE H0 from (RE_fr f18.1.2.1 (by decide +kernel)).trans (RE_fr f12.1.2.1 (by decide +kernel)), show hV H2 296 = hV H0 296 from (fRow f18.1.2.1 296 (by decide +kernel)).trans (fRow f12.1.2.1 296 (by decide +kernel)), show hV H2 298 = hV H0 298 from (fRow f18.1.2.1 298 (by decide +kernel)).trans (fRow f12.1.2.1 298 (by decide +kernel)), show hV H2 300 = hV H0 300 from (fRow f18.1.2.1 300 (by decide +kernel)).trans (fRow f12.1.2.1 300 (by decide +kernel)), show hV H2 301 = hV H0 301 from (fRow f18.1.2.1 301 (by decide +kernel)).trans (fRow f12.1.2.1 301 (by decide +kernel)), show hV H2 302 = hV H0 302 from (fRow f18.1.2.1 302 (by decide +kernel)).trans (fRow f12.1.2.1 302 (by decide +kernel)), show hV H2 340 = hV H0 340 from (fRow f18.1.2.1 340 (by decide +kernel)).trans (fRow f12.1.2.1 340 (by decide +kernel))] at qo
  rw [show lrL H2 (hV H0 340) (flS (hV H0 296) (hV H0 298) (hV H0 300) (hV H0 301) (hV H0 302) (hV H0 340) (7 * (n3).toNat) 7 6 0) = lrL H0 (hV H0 340) (flS (hV H0 296) (hV H0 298) (hV H0 300) (hV H0 301) (hV H0 302) (hV H0 340) (7 * (n3).toNat) 7 6 0) from by
    unfold lrL
    refine List.map_congr_left fun p _ => ?_
    rw [show recR H2 p.1 = recR H0 p.1 from (recR_fr f18.1.2.1 (by decide +kernel) p.1).trans (recR_fr f12.1.2.1 (by decide +kernel) p.1)]] at qo
  have m6 := (MTr mt).2.2.1
  have qs := qs sk (by rw [show mR H2 = mR H0 from ((mR_fr f18.1.2.1 (by decide +kernel)).1).trans ((mR_fr f12.1.2.1 (by decide +kernel)).1)]; exact mt) a.2.1 a.2.2.1 a.2.2.2 d0 a.1.2.2.2 (by omega) fb
  have qo := qo sk
  have r323 : hV H8 323 = uF (uF (uF (uF (uF (hV H3 323) n11 n15) n17 n19) n21 n0) n23 n9) n25 n26 := (uRowQ f66 323 f57).trans (congrArg (fun g => uF g n25 n26) ((uRowQ f56 323 f51).trans (congrArg (fun g => uF g n23 n9) ((uRowQ f50 323 f45).trans (congrArg (fun g => uF g n21 n0) ((uRowQ f44 323 f33).trans (congrArg (fun g => uF g n17 n19) ((uRowQ f32 323 f23).trans (congrArg (fun g => uF g n11 n15) rfl)))))))))
  have wd := f30
  rw [f29] at wd
  have wa := f28
  rw [f27] at wa
  rw [wa] at wd
  have v1 : n19 = hV H0 330 (n2).toNat := by rw [d42, show hV H4 330 = hV H0 330 from (uRowNe f32 330 (by rw [f23]; decide)).trans ((fRow f22.1.2.1 330 (by decide +kernel)).trans ((fRow f18.1.2.1 330 (by decide +kernel)).trans (fRow f12.1.2.1 330 (by decide +kernel))))]
  have v4 : n26 = hV H3 285 103 := by rw [d64, show hV H7 285 103 = hV H3 285 103 from (uPlace f56 285 103 (by rw [f51]; decide)).trans ((uPlace f50 285 103 (by rw [f45]; decide)).trans ((uPlace f44 285 103 (by rw [f33]; decide)).trans (uPlace f32 285 103 (by rw [f23]; decide))))]
  have v34 : n28 = hV H0 285 34 := by rw [d71, show hV H8 285 34 = hV H0 285 34 from (uPlace f66 285 34 (by rw [f57]; decide)).trans ((uPlace f56 285 34 (by rw [f51]; decide)).trans ((uPlace f50 285 34 (by rw [f45]; decide)).trans ((uPlace f44 285 34 (by rw [f33]; decide)).trans ((uPlace f32 285 34 (by rw [f23]; decide)).trans ((f22.1.2.1.1 285 34 (by decide +kernel)).trans ((f18.1.2.1.1 285 34 (by decide +kernel)).trans (f12.1.2.1.1 285 34 (by decide +kernel))))))))]
  have b34 := f9.1 285 34 _ _ rW_34
  have wm := f72
  rw [f67] at wm
  rw [w32_id (by omega) (by omega)] at wm
  have vv : ∀ i : Int, 0 ≤ i → i ≤ 4 → VAr H8 i = (OVv (SNDf (RE H0) (lrL H0 (hV H0 340) (flS (hV H0 296) (hV H0 298) (hV H0 300) (hV H0 301) (hV H0 302) (hV H0 340) (7 * (n3).toNat) 7 6 0)) n2 (hV H0 325 (hV H0 293 (n3).toNat).toNat) (hV H0 327) (hV H0 293 (n3).toNat) n1 (hV H0 325 (n1).toNat)) (hV H0 330 (n2).toNat) n0 (cntL (RE H0) n2 (lrL H0 (hV H0 340) (flS (hV H0 296) (hV H0 298) (hV H0 300) (hV H0 301) (hV H0 302) (hV H0 340) (7 * (n3).toNat) 7 6 0)))) i := fun i i0 i4 => by
    rcases (show i = 0 ∨ i = 1 ∨ i = 2 ∨ i = 3 ∨ i = 4 by omega) with w | w | w | w | w <;> subst w
    · have e : VAr H8 0 = n15 := by
        unfold VAr
        rw [r323, f26, f36, f48, f54, f60]
        rw [show ((0 : Int)).toNat = 0 from rfl]
        rw [uF_at, if_neg (by decide), uF_at, if_neg (by decide), uF_at, if_neg (by decide), uF_at, if_neg (by decide), uF_at, if_pos (by decide)]
      rw [e]
      exact wd.trans (by rw [qs]; rfl)
    · have e : VAr H8 1 = n19 := by
        unfold VAr
        rw [r323, f26, f36, f48, f54, f60]
        rw [show ((1 : Int)).toNat = 1 from rfl]
        rw [uF_at, if_neg (by decide), uF_at, if_neg (by decide), uF_at, if_neg (by decide), uF_at, if_pos (by decide)]
      rw [e]
      exact v1
    · have e : VAr H8 2 = n0 := by
        unfold VAr
        rw [r323, f26, f36, f48, f54, f60]
        rw [show ((2 : Int)).toNat = 2 from rfl]
        rw [uF_at, if_neg (by decide), uF_at, if_neg (by decide), uF_at, if_pos (by decide)]
      rw [e]
      rfl
    · have e : VAr H8 3 = n9 := by
        unfold VAr
        rw [r323, f26, f36, f48, f54, f60]
        rw [show ((3 : Int)).toNat = 3 from rfl]
        rw [uF_at, if_neg (by decide), uF_at, if_pos (by decide)]
      rw [e]
      exact qs
    · have e : VAr H8 4 = n26 := by
        unfold VAr
        rw [r323, f26, f36, f48, f54, f60]
        rw [show ((4 : Int)).toNat = 4 from rfl]
        rw [uF_at, if_pos (by decide)]
      rw [e]
      exact v4.trans qo
  refine ⟨0, by show _ = _ + ((0 : Nat) : Int); omega, Nat.zero_le _, ?_⟩
  exact oV_va vv gr
def g_313w_s_1 : vG := ([(3, [29, 27, 28], [], 0), (20, [28, 0], [8], 34), (23, [0], [8], 12), (90, [28], [], 0), (91, [28], [], 1), (0, [27], [], 12), (80, [24, 25, 26], [8, 7], 0), (23, [24], [7], 412), (20, [26, 0], [7], 103), (23, [0], [7], 12), (90, [26], [], 0), (91, [26], [], 40), (0, [25], [], 4), (20, [24, 0], [7], 56), (23, [0], [7], 12), (0, [24], [], 323), (80, [22, 23, 9], [7, 6], 0), (23, [22], [6], 412), (0, [23], [], 3), (20, [22, 0], [6], 56), (23, [0], [6], 12), (0, [22], [], 323), (80, [20, 21, 4], [6, 5], 0), (23, [20], [5], 412), (0, [21], [], 2), (20, [20, 0], [5], 56), (23, [0], [5], 12), (0, [20], [], 323), (80, [16, 17, 19], [5, 4], 0), (23, [16], [4], 412), (22, [19, 18, 2], [4], 0), (90, [19], [], -2147483648), (91, [19], [], 2147483647), (20, [18, 0], [4], 68), (23, [0], [4], 12), (0, [18], [], 330), (0, [17], [], 1), (20, [16, 0], [4], 56), (23, [0], [4], 12), (0, [16], [], 323), (80, [10, 11, 15], [4, 3], 0), (23, [10], [3], 412), (11, [15, 13, 14], [], 0), (0, [14], [], 24), (1, [13, 9, 12], [], 0), (0, [12], [], 23), (0, [11], [], 0), (20, [10, 0], [3], 56), (23, [0], [3], 12), (0, [10], [], 323), (1310, [9, 0, 1, 2, 3], [2, 3], 0), (90, [9], [], -2147483648), (91, [9], [], 2147483647), (31, [8], [], 0), (1251, [8, 4, 6, 7], [1, 2], 0), (90, [8], [], 0), (91, [8], [], 1), (0, [7], [], 9), (0, [6], [], 0), (31, [5], [], 0), (1311, [5, 0, 1, 2, 3], [0, 1], 0), (90, [5], [], 0), (91, [5], [], 1), (6000, [0, 1, 2, 3, 4], [0], 0), (0, [0], [], 285), (90, [1], [], -2147483648), (91, [1], [], 2147483647), (90, [2], [], -2147483648), (91, [2], [], 2147483647), (90, [3], [], -2147483648), (91, [3], [], 2147483647), (90, [4], [], -2147483648), (91, [4], [], 2147483647)], (4000, [0, 1, 2, 3, 4, 9, 29], [8], 93))
theorem c_313w_s_1 : vOkm T0 (eN e_313 L_313w A_313 mu_313 n_313 B_313 none) 5 g_313w_s_1 := vOk_inI fun ρ η f0 f1 f2 f3 f4 f5 f6 f7 f8 f9 f10 f11 f12 f13 f14 f15 f16 f17 f18 f19 f20 f21 f22 f23 f24 f25 f26 f27 f28 f29 f30 f31 f32 f33 f34 f35 f36 f37 f38 f39 f40 f41 f42 f43 f44 f45 f46 f47 f48 f49 f50 f51 f52 f53 f54 f55 f56 f57 f58 f59 f60 f61 f62 f63 f64 f65 f66 f67 f68 f69 f70 f71 f72 => q_313w_1 (n0 := ρ 4) (n1 := ρ 3) (n2 := ρ 2) (n3 := ρ 1) (n4 := ρ 0) (n5 := ρ 5) (n6 := ρ 6) (n7 := ρ 7) (n8 := ρ 8) (n9 := ρ 9) (n10 := ρ 10) (n11 := ρ 11) (n12 := ρ 12) (n13 := ρ 13) (n14 := ρ 14) (n15 := ρ 15) (n16 := ρ 16) (n17 := ρ 17) (n18 := ρ 18) (n19 := ρ 19) (n20 := ρ 20) (n21 := ρ 21) (n22 := ρ 22) (n23 := ρ 23) (n24 := ρ 24) (n25 := ρ 25) (n26 := ρ 26) (n27 := ρ 27) (n28 := ρ 28) (n29 := ρ 29) (H0 := η 0) (H1 := η 1) (H2 := η 2) (H3 := η 3) (H4 := η 4) (H5 := η 5) (H6 := η 6) (H7 := η 7) (H8 := η 8) f72 f71 f70 f69 f68 f67 f66 f65 f64 f63 f62 f61 f60 f59 f58 f57 f56 f55 f54 f53 f52 f51 f50 f49 f48 f47 f46 f45 f44 f43 f42 f41 f40 f39 f38 f37 f36 f35 f34 f33 f32 f31 f30 f29 f28 f27 f26 f25 f24 f23 f22 f21 f20 f19 f18 f17 f16 f15 f14 f13 f12 f11 f10 f9 f8 f7 f6 f5 f4 f3 f2 f1 f0
theorem q_313w_2 {n0 n1 n2 n3 n4 n5 n6 n7 n8 n9 : Int} {H0 H1 H2 : gH} (f0 : n0 ≤ 2147483647) (f1 : (-2147483648) ≤ n0) (f2 : n1 ≤ 2147483647) (f3 : (-2147483648) ≤ n1) (f4 : n2 ≤ 2147483647) (f5 : (-2147483648) ≤ n2) (f6 : n3 ≤ 2147483647) (f7 : (-2147483648) ≤ n3) (f8 : n4 = 285) (f9 : hWt T0 H0 ∧ preb_313 n4 n3 n2 n1 n0 H0) (f10 : n5 ≤ 1) (f11 : 0 ≤ n5) (f12 : (hLe T0 H0 H1 ∧ hFr s_311.2.2.2.2 H0 H1 ∧ ((0 : Int) = 0 → H1.length = H0.length) ∧ hWt T0 H1) ∧ (postb_311 n5 n4 n3 n2 n1 H0 H1 ∧ nb_311 n5 n4 n3 n2 n1 H0 H1)) (f13 : n5 ≠ 0) (f14 : n6 = 0) (f15 : n7 = 9) (f16 : n8 ≤ 1) (f17 : 0 ≤ n8) (f18 : (hLe T0 H1 H2 ∧ hFr s_251.2.2.2.2 H1 H2 ∧ ((0 : Int) = 0 → H2.length = H1.length) ∧ hWt T0 H2) ∧ postb_251 n8 n0 n6 n7 H1 H2) (f19 : n8 = 0) (f20 : n9 = (-1)) : nb_313 n9 n4 n3 n2 n1 n0 H0 H2 := by
  unfold nb_313
  have qm := f12.2.2
  unfold nb_311 at qm
  have qi := f18.2
  unfold postb_251 at qi
  exact ⟨fun _ => by omega, fun w => by
    have w1 := w.2.1
    have w2 := w.2.2
    exfalso
    omega⟩
def g_313w_s_2 : vG := ([(0, [9], [], -1), (30, [8], [], 0), (1251, [8, 4, 6, 7], [1, 2], 0), (90, [8], [], 0), (91, [8], [], 1), (0, [7], [], 9), (0, [6], [], 0), (31, [5], [], 0), (1311, [5, 0, 1, 2, 3], [0, 1], 0), (90, [5], [], 0), (91, [5], [], 1), (6000, [0, 1, 2, 3, 4], [0], 0), (0, [0], [], 285), (90, [1], [], -2147483648), (91, [1], [], 2147483647), (90, [2], [], -2147483648), (91, [2], [], 2147483647), (90, [3], [], -2147483648), (91, [3], [], 2147483647), (90, [4], [], -2147483648), (91, [4], [], 2147483647)], (3000, [9], [2], 22))
theorem c_313w_s_2 : vOkm T0 (eN e_313 L_313w A_313 mu_313 n_313 B_313 none) 5 g_313w_s_2 := vOk_inI fun ρ η f0 f1 f2 f3 f4 f5 f6 f7 f8 f9 f10 f11 f12 f13 f14 f15 f16 f17 f18 f19 f20 => q_313w_2 (n0 := ρ 4) (n1 := ρ 3) (n2 := ρ 2) (n3 := ρ 1) (n4 := ρ 0) (n5 := ρ 5) (n6 := ρ 6) (n7 := ρ 7) (n8 := ρ 8) (n9 := ρ 9) (H0 := η 0) (H1 := η 1) (H2 := η 2) f20 f19 f18 f17 f16 f15 f14 f13 f12 f11 f10 f9 f8 f7 f6 f5 f4 f3 f2 f1 f0
def p_313w_s : List vG := [g_313w_s_0,
  g_313w_s_1,
  g_313w_s_2]
theorem r_313w_s : vCovBO (eR0 e_313 L_313 cs_313 2000) p_313w_s = true := by decide +kernel
theorem q_313w_3 {q0 : Nat} {n0 n1 n2 n3 n4 n5 n6 n7 n8 n9 n10 n11 n12 n13 n14 n15 n16 n17 n18 n19 : Int} {H0 H1 : gH} (f0 : n0 ≤ 24) (f1 : 0 ≤ n0) (f2 : n1 ≤ 2147483647) (f3 : (-2147483648) ≤ n1) (f4 : n2 ≤ 2147483647) (f5 : (-2147483648) ≤ n2) (f6 : n3 ≤ 2147483647) (f7 : (-2147483648) ≤ n3) (f8 : n4 ≤ 2147483647) (f9 : (-2147483648) ≤ n4) (f10 : n5 ≤ 2147483647) (f11 : (-2147483648) ≤ n5) (f12 : n6 = 285) (f13 : n7 ≤ 2147483647) (f14 : (-2147483648) ≤ n7) (f15 : n8 ≤ 2147483647) (f16 : (-2147483648) ≤ n8) (f17 : n9 ≤ 2147483647) (f18 : (-2147483648) ≤ n9) (f19 : n10 ≤ 2147483647) (f20 : (-2147483648) ≤ n10) (f21 : n11 = 285) (f22 : (hLe T0 H0 H1 ∧ hFr s_313.2.2.2.2 H0 H1 ∧ hWt T0 H1) ∧ ((Ab_313_93 n11 n10 n9 n8 n7 n6 n5 n4 n3 n2 n1 n0 H0 H1 ∧ Bb_313_93 n11 n10 n9 n8 n7 n6 n5 n4 n3 n2 n1 n0 H0 H1) ∧ preb_313 n11 n10 n9 n8 n7 H0) ∧ some q0 = some (mub_313_93 n11 n10 n9 n8 n7 n6 n5 n4 n3 n2 n1 n0 H0 H1)) (f23 : n12 = 12) (f24 : n13 ≤ 1) (f25 : 0 ≤ n13) (f26 : hK H1 (n6).toNat = 12) (f27 : n13 = hV H1 (n6).toNat 34) (f28 : n14 = w32 (n12 * n13)) (f29 : n15 = 306) (f30 : hK H1 (n6).toNat = 12) (f31 : n15 = hV H1 (n6).toNat 36) (f32 : n16 ≤ 1) (f33 : 0 ≤ n16) (f34 : hK H1 (n6).toNat = 12) (f35 : n16 = hV H1 (n6).toNat 34) (f36 : n17 ≤ 12) (f37 : 0 ≤ n17) (f38 : n17 = hV H1 (n15).toNat (n16).toNat) (f39 : n18 = w32 (n14 + n17)) (f40 : n18 ≤ n0) (f41 : n19 = 0) : nb_313 n19 n11 n10 n9 n8 n7 H0 H1 := by
  unfold nb_313
  have gb := f22.2.1.1.2
  unfold Bb_313_93 at gb
  obtain ⟨oc, d0, gb⟩ := gb
  have d27 := rdS (q := 285) f27 f12
  have d35 := rdS (q := 285) f35 f12
  have d38 := rdW (q := 306) f38 f29
  have xk : XRk H0 H1 := XRk_fr f22.1.2.1 (by decide +kernel)
  have yk : YRs H0 H1 := YRs_fr f22.1.2.1 (by decide +kernel)
  have zk : ZRs H0 H1 := ZRs_fr f22.1.2.1 (by decide +kernel)
  have e34 : hV H1 285 34 = hV H0 285 34 := f22.1.2.1.1 285 34 (by decide +kernel)
  have b34 := f22.1.2.2 285 34 _ _ rW_34
  have v27 : n13 = hV H0 285 34 := d27.trans e34
  have v35 : n16 = hV H0 285 34 := d35.trans e34
  have wm := f28
  rw [f23] at wm
  rw [w32_id (by omega) (by omega)] at wm
  have v306 : n17 = hV H0 306 (hV H0 285 34).toNat := by rw [d38, v35, zk 306 (by decide) (by decide)]
  refine ⟨fun w => absurd oc w, fun _ => ⟨d0, fun sk mt fb R rg gr => ?_⟩⟩
  obtain ⟨jj, ej, jl, eo⟩ := gb sk mt fb R rg gr
  have r0 := rg.1
  have r12 := rg.2.1
  have ws := f39
  rw [w32_id (by omega) (by omega)] at ws
  rw [List.drop_eq_nil_of_le (by omega)] at eo
  rw [← eo]
  exact f41
def g_313w_93_0 : vG := ([(0, [19], [], 0), (43, [11, 18], [], 0), (1, [18, 14, 17], [], 0), (22, [17, 15, 16], [1], 0), (90, [17], [], 0), (91, [17], [], 12), (20, [16, 5], [1], 34), (23, [5], [1], 12), (90, [16], [], 0), (91, [16], [], 1), (20, [15, 5], [1], 36), (23, [5], [1], 12), (0, [15], [], 306), (3, [14, 12, 13], [], 0), (20, [13, 5], [1], 34), (23, [5], [1], 12), (90, [13], [], 0), (91, [13], [], 1), (0, [12], [], 12), (5000, [0, 1, 2, 3, 4, 5, 6, 7, 8, 9, 10, 11], [0, 1], 93), (0, [0], [], 285), (90, [1], [], -2147483648), (91, [1], [], 2147483647), (90, [2], [], -2147483648), (91, [2], [], 2147483647), (90, [3], [], -2147483648), (91, [3], [], 2147483647), (90, [4], [], -2147483648), (91, [4], [], 2147483647), (0, [5], [], 285), (90, [6], [], -2147483648), (91, [6], [], 2147483647), (90, [7], [], -2147483648), (91, [7], [], 2147483647), (90, [8], [], -2147483648), (91, [8], [], 2147483647), (90, [9], [], -2147483648), (91, [9], [], 2147483647), (90, [10], [], -2147483648), (91, [10], [], 2147483647), (90, [11], [], 0), (91, [11], [], 24)], (3000, [19], [1], 176))
theorem c_313w_93_0 {q0 : Nat} : vOkm T0 (eN e_313 L_313w A_313 mu_313 n_313 B_313 (some q0)) 5 g_313w_93_0 := vOk_inI fun ρ η f0 f1 f2 f3 f4 f5 f6 f7 f8 f9 f10 f11 f12 f13 f14 f15 f16 f17 f18 f19 f20 f21 f22 f23 f24 f25 f26 f27 f28 f29 f30 f31 f32 f33 f34 f35 f36 f37 f38 f39 f40 f41 => q_313w_3 (q0 := q0) (n0 := ρ 11) (n1 := ρ 10) (n2 := ρ 9) (n3 := ρ 8) (n4 := ρ 7) (n5 := ρ 6) (n6 := ρ 5) (n7 := ρ 4) (n8 := ρ 3) (n9 := ρ 2) (n10 := ρ 1) (n11 := ρ 0) (n12 := ρ 12) (n13 := ρ 13) (n14 := ρ 14) (n15 := ρ 15) (n16 := ρ 16) (n17 := ρ 17) (n18 := ρ 18) (n19 := ρ 19) (H0 := η 0) (H1 := η 1) f41 f40 f39 f38 f37 f36 f35 f34 f33 f32 f31 f30 f29 f28 f27 f26 f25 f24 f23 f22 f21 f20 f19 f18 f17 f16 f15 f14 f13 f12 f11 f10 f9 f8 f7 f6 f5 f4 f3 f2 f1 f0
theorem q_313w_4 {q0 : Nat} {n0 n1 n2 n3 n4 n5 n6 n7 n8 n9 n10 n11 n12 n13 n14 n15 n16 n17 n18 n19 n20 n21 : Int} {H0 H1 : gH} (f0 : n0 ≤ 24) (f1 : 0 ≤ n0) (f2 : n1 ≤ 2147483647) (f3 : (-2147483648) ≤ n1) (f4 : n2 ≤ 2147483647) (f5 : (-2147483648) ≤ n2) (f6 : n3 ≤ 2147483647) (f7 : (-2147483648) ≤ n3) (f8 : n4 ≤ 2147483647) (f9 : (-2147483648) ≤ n4) (f10 : n5 ≤ 2147483647) (f11 : (-2147483648) ≤ n5) (f12 : n6 = 285) (f13 : n7 ≤ 2147483647) (f14 : (-2147483648) ≤ n7) (f15 : n8 ≤ 2147483647) (f16 : (-2147483648) ≤ n8) (f17 : n9 ≤ 2147483647) (f18 : (-2147483648) ≤ n9) (f19 : n10 ≤ 2147483647) (f20 : (-2147483648) ≤ n10) (f21 : n11 = 285) (f22 : (hLe T0 H0 H1 ∧ hFr s_313.2.2.2.2 H0 H1 ∧ hWt T0 H1) ∧ ((Ab_313_93 n11 n10 n9 n8 n7 n6 n5 n4 n3 n2 n1 n0 H0 H1 ∧ Bb_313_93 n11 n10 n9 n8 n7 n6 n5 n4 n3 n2 n1 n0 H0 H1) ∧ preb_313 n11 n10 n9 n8 n7 H0) ∧ some q0 = some (mub_313_93 n11 n10 n9 n8 n7 n6 n5 n4 n3 n2 n1 n0 H0 H1)) (f23 : n12 = 12) (f24 : n13 ≤ 1) (f25 : 0 ≤ n13) (f26 : hK H1 (n6).toNat = 12) (f27 : n13 = hV H1 (n6).toNat 34) (f28 : n14 = w32 (n12 * n13)) (f29 : n15 = 306) (f30 : hK H1 (n6).toNat = 12) (f31 : n15 = hV H1 (n6).toNat 36) (f32 : n16 ≤ 1) (f33 : 0 ≤ n16) (f34 : hK H1 (n6).toNat = 12) (f35 : n16 = hV H1 (n6).toNat 34) (f36 : n17 ≤ 12) (f37 : 0 ≤ n17) (f38 : n17 = hV H1 (n15).toNat (n16).toNat) (f39 : n18 = w32 (n14 + n17)) (f40 : n0 < n18) (f41 : n19 = 307) (f42 : hK H1 (n6).toNat = 12) (f43 : n19 = hV H1 (n6).toNat 37) (f44 : n20 ≤ 1) (f45 : 0 ≤ n20) (f46 : n20 = hV H1 (n19).toNat (n0).toNat) (f47 : n20 ≠ 0) (f48 : n21 = w32 (n0 + 1)) : Bb_313_93 n11 n10 n9 n8 n7 n6 n5 n4 n3 n2 n1 n21 H0 H1 := by
  unfold Bb_313_93
  have gb := f22.2.1.1.2
  unfold Bb_313_93 at gb
  obtain ⟨oc, d0, gb⟩ := gb
  have d27 := rdS (q := 285) f27 f12
  have d35 := rdS (q := 285) f35 f12
  have d38 := rdW (q := 306) f38 f29
  have d46 := rdW (q := 307) f46 f41
  have xk : XRk H0 H1 := XRk_fr f22.1.2.1 (by decide +kernel)
  have yk : YRs H0 H1 := YRs_fr f22.1.2.1 (by decide +kernel)
  have zk : ZRs H0 H1 := ZRs_fr f22.1.2.1 (by decide +kernel)
  have e34 : hV H1 285 34 = hV H0 285 34 := f22.1.2.1.1 285 34 (by decide +kernel)
  have b34 := f22.1.2.2 285 34 _ _ rW_34
  have v27 : n13 = hV H0 285 34 := d27.trans e34
  have v35 : n16 = hV H0 285 34 := d35.trans e34
  have wm := f28
  rw [f23] at wm
  rw [w32_id (by omega) (by omega)] at wm
  have v306 : n17 = hV H0 306 (hV H0 285 34).toNat := by rw [d38, v35, zk 306 (by decide) (by decide)]
  refine ⟨oc, d0, fun sk mt fb R rg gr => ?_⟩
  obtain ⟨jj, ej, jl, eo⟩ := gb sk mt fb R rg gr
  have r0 := rg.1
  have r12 := rg.2.1
  have ws := f39
  rw [w32_id (by omega) (by omega)] at ws
  have hl : jj < R.length := by omega
  have hr : R[jj]? = some R[jj] := List.getElem?_eq_getElem hl
  have rj := rg.2.2 jj _ hr
  have kx : (n0).toNat = ((12 * hV H0 285 34).toNat + jj) := by omega
  have v307 : n20 = hV H0 307 ((12 * hV H0 285 34).toNat + jj) := by rw [d46, zk 307 (by decide) (by decide), kx]
  have wn48 := f48
  unfold w32 at wn48
  cases hc : R[jj] with
  | some u =>
    exfalso
    rw [hc] at rj
    have := rj.1
    omega
  | none =>
    rw [hc] at hr
    refine ⟨jj + 1, by show _ = _ + ((jj + 1 : Nat) : Int); omega, hl, ?_⟩
    rw [← oV_none hr]
    exact eo
def g_313w_93_1 : vG := ([(10, [21, 11], [], 1), (31, [20], [], 0), (22, [20, 19, 11], [1], 0), (90, [20], [], 0), (91, [20], [], 1), (20, [19, 5], [1], 37), (23, [5], [1], 12), (0, [19], [], 307), (42, [11, 18], [], 0), (1, [18, 14, 17], [], 0), (22, [17, 15, 16], [1], 0), (90, [17], [], 0), (91, [17], [], 12), (20, [16, 5], [1], 34), (23, [5], [1], 12), (90, [16], [], 0), (91, [16], [], 1), (20, [15, 5], [1], 36), (23, [5], [1], 12), (0, [15], [], 306), (3, [14, 12, 13], [], 0), (20, [13, 5], [1], 34), (23, [5], [1], 12), (90, [13], [], 0), (91, [13], [], 1), (0, [12], [], 12), (5000, [0, 1, 2, 3, 4, 5, 6, 7, 8, 9, 10, 11], [0, 1], 93), (0, [0], [], 285), (90, [1], [], -2147483648), (91, [1], [], 2147483647), (90, [2], [], -2147483648), (91, [2], [], 2147483647), (90, [3], [], -2147483648), (91, [3], [], 2147483647), (90, [4], [], -2147483648), (91, [4], [], 2147483647), (0, [5], [], 285), (90, [6], [], -2147483648), (91, [6], [], 2147483647), (90, [7], [], -2147483648), (91, [7], [], 2147483647), (90, [8], [], -2147483648), (91, [8], [], 2147483647), (90, [9], [], -2147483648), (91, [9], [], 2147483647), (90, [10], [], -2147483648), (91, [10], [], 2147483647), (90, [11], [], 0), (91, [11], [], 24)], (4000, [5, 6, 7, 8, 9, 10, 21], [1], 93))
theorem c_313w_93_1 {q0 : Nat} : vOkm T0 (eN e_313 L_313w A_313 mu_313 n_313 B_313 (some q0)) 5 g_313w_93_1 := vOk_inI fun ρ η f0 f1 f2 f3 f4 f5 f6 f7 f8 f9 f10 f11 f12 f13 f14 f15 f16 f17 f18 f19 f20 f21 f22 f23 f24 f25 f26 f27 f28 f29 f30 f31 f32 f33 f34 f35 f36 f37 f38 f39 f40 f41 f42 f43 f44 f45 f46 f47 f48 => q_313w_4 (q0 := q0) (n0 := ρ 11) (n1 := ρ 10) (n2 := ρ 9) (n3 := ρ 8) (n4 := ρ 7) (n5 := ρ 6) (n6 := ρ 5) (n7 := ρ 4) (n8 := ρ 3) (n9 := ρ 2) (n10 := ρ 1) (n11 := ρ 0) (n12 := ρ 12) (n13 := ρ 13) (n14 := ρ 14) (n15 := ρ 15) (n16 := ρ 16) (n17 := ρ 17) (n18 := ρ 18) (n19 := ρ 19) (n20 := ρ 20) (n21 := ρ 21) (H0 := η 0) (H1 := η 1) f48 f47 f46 f45 f44 f43 f42 f41 f40 f39 f38 f37 f36 f35 f34 f33 f32 f31 f30 f29 f28 f27 f26 f25 f24 f23 f22 f21 f20 f19 f18 f17 f16 f15 f14 f13 f12 f11 f10 f9 f8 f7 f6 f5 f4 f3 f2 f1 f0
theorem q_313w_5 {q0 : Nat} {n0 n1 n2 n3 n4 n5 n6 n7 n8 n9 n10 n11 n12 n13 n14 n15 n16 n17 n18 n19 n20 n21 n22 n23 n24 n25 : Int} {H0 H1 H2 : gH} (f0 : n0 ≤ 24) (f1 : 0 ≤ n0) (f2 : n1 ≤ 2147483647) (f3 : (-2147483648) ≤ n1) (f4 : n2 ≤ 2147483647) (f5 : (-2147483648) ≤ n2) (f6 : n3 ≤ 2147483647) (f7 : (-2147483648) ≤ n3) (f8 : n4 ≤ 2147483647) (f9 : (-2147483648) ≤ n4) (f10 : n5 ≤ 2147483647) (f11 : (-2147483648) ≤ n5) (f12 : n6 = 285) (f13 : n7 ≤ 2147483647) (f14 : (-2147483648) ≤ n7) (f15 : n8 ≤ 2147483647) (f16 : (-2147483648) ≤ n8) (f17 : n9 ≤ 2147483647) (f18 : (-2147483648) ≤ n9) (f19 : n10 ≤ 2147483647) (f20 : (-2147483648) ≤ n10) (f21 : n11 = 285) (f22 : (hLe T0 H0 H1 ∧ hFr s_313.2.2.2.2 H0 H1 ∧ hWt T0 H1) ∧ ((Ab_313_93 n11 n10 n9 n8 n7 n6 n5 n4 n3 n2 n1 n0 H0 H1 ∧ Bb_313_93 n11 n10 n9 n8 n7 n6 n5 n4 n3 n2 n1 n0 H0 H1) ∧ preb_313 n11 n10 n9 n8 n7 H0) ∧ some q0 = some (mub_313_93 n11 n10 n9 n8 n7 n6 n5 n4 n3 n2 n1 n0 H0 H1)) (f23 : n12 = 12) (f24 : n13 ≤ 1) (f25 : 0 ≤ n13) (f26 : hK H1 (n6).toNat = 12) (f27 : n13 = hV H1 (n6).toNat 34) (f28 : n14 = w32 (n12 * n13)) (f29 : n15 = 306) (f30 : hK H1 (n6).toNat = 12) (f31 : n15 = hV H1 (n6).toNat 36) (f32 : n16 ≤ 1) (f33 : 0 ≤ n16) (f34 : hK H1 (n6).toNat = 12) (f35 : n16 = hV H1 (n6).toNat 34) (f36 : n17 ≤ 12) (f37 : 0 ≤ n17) (f38 : n17 = hV H1 (n15).toNat (n16).toNat) (f39 : n18 = w32 (n14 + n17)) (f40 : n0 < n18) (f41 : n19 = 307) (f42 : hK H1 (n6).toNat = 12) (f43 : n19 = hV H1 (n6).toNat 37) (f44 : n20 ≤ 1) (f45 : 0 ≤ n20) (f46 : n20 = hV H1 (n19).toNat (n0).toNat) (f47 : n20 = 0) (f48 : n21 ≤ 1) (f49 : 0 ≤ n21) (f50 : (hLe T0 H1 H2 ∧ hFr s_239.2.2.2.2 H1 H2 ∧ ((0 : Int) = 0 → H2.length = H1.length) ∧ hWt T0 H2) ∧ (True ∧ nb_239 n21 n6 n0 H1 H2)) (f51 : n21 ≠ 0) (f52 : n22 ≤ 2147483647) (f53 : (-2147483648) ≤ n22) (f54 : hK H2 (n6).toNat = 12) (f55 : n22 = hV H2 (n6).toNat 59) (f56 : 0 ≤ n22) (f57 : n23 ≤ 2147483647) (f58 : (-2147483648) ≤ n23) (f59 : hK H2 (n6).toNat = 12) (f60 : n23 = hV H2 (n6).toNat 59) (f61 : n24 = 999999) (f62 : n23 ≤ n24) (f63 : n25 ≤ 2147483647) (f64 : (-2147483648) ≤ n25) (f65 : hK H2 (n6).toNat = 12) (f66 : n25 = hV H2 (n6).toNat 59) : nb_313 n25 n11 n10 n9 n8 n7 H0 H2 := by
  unfold nb_313
  have gb := f22.2.1.1.2
  unfold Bb_313_93 at gb
  obtain ⟨oc, d0, gb⟩ := gb
  have d27 := rdS (q := 285) f27 f12
  have d35 := rdS (q := 285) f35 f12
  have d38 := rdW (q := 306) f38 f29
  have d46 := rdW (q := 307) f46 f41
  have d55 := rdS (q := 285) f55 f12
  have d60 := rdS (q := 285) f60 f12
  have d66 := rdS (q := 285) f66 f12
  have xk : XRk H0 H1 := XRk_fr f22.1.2.1 (by decide +kernel)
  have yk : YRs H0 H1 := YRs_fr f22.1.2.1 (by decide +kernel)
  have zk : ZRs H0 H1 := ZRs_fr f22.1.2.1 (by decide +kernel)
  have e34 : hV H1 285 34 = hV H0 285 34 := f22.1.2.1.1 285 34 (by decide +kernel)
  have b34 := f22.1.2.2 285 34 _ _ rW_34
  have v27 : n13 = hV H0 285 34 := d27.trans e34
  have v35 : n16 = hV H0 285 34 := d35.trans e34
  have wm := f28
  rw [f23] at wm
  rw [w32_id (by omega) (by omega)] at wm
  have v306 : n17 = hV H0 306 (hV H0 285 34).toNat := by rw [d38, v35, zk 306 (by decide) (by decide)]
  refine ⟨fun w => absurd oc w, fun _ => ⟨d0, fun sk mt fb R rg gr => ?_⟩⟩
  obtain ⟨jj, ej, jl, eo⟩ := gb sk mt fb R rg gr
  have r0 := rg.1
  have r12 := rg.2.1
  have ws := f39
  rw [w32_id (by omega) (by omega)] at ws
  have hl : jj < R.length := by omega
  have hr : R[jj]? = some R[jj] := List.getElem?_eq_getElem hl
  have rj := rg.2.2 jj _ hr
  have kx : (n0).toNat = ((12 * hV H0 285 34).toNat + jj) := by omega
  have v307 : n20 = hV H0 307 ((12 * hV H0 285 34).toNat + jj) := by rw [d46, zk 307 (by decide) (by decide), kx]
  cases hc : R[jj] with
  | none =>
    exfalso
    rw [hc] at rj
    have rj : hV H0 307 ((12 * hV H0 285 34).toNat + jj) = 1 := rj
    omega
  | some u =>
    rw [hc] at hr rj
    have gu := gr (some u) (List.mem_of_getElem? hr)
    have qh := f50.2.2
    unfold nb_239 at qh
    have qh := qh u (600 * hV H0 285 34) (600 * hV H0 285 34 + 600) (200 * hV H0 285 34) (200 * hV H0 285 34 + 200) (by omega) (by omega) (by rw [kx]; exact rgR_k xk yk zk rj) gu
    rw [oV_some hr] at eo
    have ye := (qh.resolve_right (fun w => by have := w.1; omega)).2
    rw [ye] at eo
    have eo : hV H2 285 59 = _ := eo
    rw [← eo]
    unfold clO
    rw [if_neg (by omega), if_neg (by omega)]
    omega
def g_313w_93_2 : vG := ([(20, [25, 5], [2], 59), (23, [5], [2], 12), (90, [25], [], -2147483648), (91, [25], [], 2147483647), (45, [23, 24], [], 0), (0, [24], [], 999999), (20, [23, 5], [2], 59), (23, [5], [2], 12), (90, [23], [], -2147483648), (91, [23], [], 2147483647), (33, [22], [], 0), (20, [22, 5], [2], 59), (23, [5], [2], 12), (90, [22], [], -2147483648), (91, [22], [], 2147483647), (31, [21], [], 0), (1239, [21, 5, 11], [1, 2], 0), (90, [21], [], 0), (91, [21], [], 1), (30, [20], [], 0), (22, [20, 19, 11], [1], 0), (90, [20], [], 0), (91, [20], [], 1), (20, [19, 5], [1], 37), (23, [5], [1], 12), (0, [19], [], 307), (42, [11, 18], [], 0), (1, [18, 14, 17], [], 0), (22, [17, 15, 16], [1], 0), (90, [17], [], 0), (91, [17], [], 12), (20, [16, 5], [1], 34), (23, [5], [1], 12), (90, [16], [], 0), (91, [16], [], 1), (20, [15, 5], [1], 36), (23, [5], [1], 12), (0, [15], [], 306), (3, [14, 12, 13], [], 0), (20, [13, 5], [1], 34), (23, [5], [1], 12), (90, [13], [], 0), (91, [13], [], 1), (0, [12], [], 12), (5000, [0, 1, 2, 3, 4, 5, 6, 7, 8, 9, 10, 11], [0, 1], 93), (0, [0], [], 285), (90, [1], [], -2147483648), (91, [1], [], 2147483647), (90, [2], [], -2147483648), (91, [2], [], 2147483647), (90, [3], [], -2147483648), (91, [3], [], 2147483647), (90, [4], [], -2147483648), (91, [4], [], 2147483647), (0, [5], [], 285), (90, [6], [], -2147483648), (91, [6], [], 2147483647), (90, [7], [], -2147483648), (91, [7], [], 2147483647), (90, [8], [], -2147483648), (91, [8], [], 2147483647), (90, [9], [], -2147483648), (91, [9], [], 2147483647), (90, [10], [], -2147483648), (91, [10], [], 2147483647), (90, [11], [], 0), (91, [11], [], 24)], (3000, [25], [2], 168))
theorem c_313w_93_2 {q0 : Nat} : vOkm T0 (eN e_313 L_313w A_313 mu_313 n_313 B_313 (some q0)) 5 g_313w_93_2 := vOk_inI fun ρ η f0 f1 f2 f3 f4 f5 f6 f7 f8 f9 f10 f11 f12 f13 f14 f15 f16 f17 f18 f19 f20 f21 f22 f23 f24 f25 f26 f27 f28 f29 f30 f31 f32 f33 f34 f35 f36 f37 f38 f39 f40 f41 f42 f43 f44 f45 f46 f47 f48 f49 f50 f51 f52 f53 f54 f55 f56 f57 f58 f59 f60 f61 f62 f63 f64 f65 f66 => q_313w_5 (q0 := q0) (n0 := ρ 11) (n1 := ρ 10) (n2 := ρ 9) (n3 := ρ 8) (n4 := ρ 7) (n5 := ρ 6) (n6 := ρ 5) (n7 := ρ 4) (n8 := ρ 3) (n9 := ρ 2) (n10 := ρ 1) (n11 := ρ 0) (n12 := ρ 12) (n13 := ρ 13) (n14 := ρ 14) (n15 := ρ 15) (n16 := ρ 16) (n17 := ρ 17) (n18 := ρ 18) (n19 := ρ 19) (n20 := ρ 20) (n21 := ρ 21) (n22 := ρ 22) (n23 := ρ 23) (n24 := ρ 24) (n25 := ρ 25) (H0 := η 0) (H1 := η 1) (H2 := η 2) f66 f65 f64 f63 f62 f61 f60 f59 f58 f57 f56 f55 f54 f53 f52 f51 f50 f49 f48 f47 f46 f45 f44 f43 f42 f41 f40 f39 f38 f37 f36 f35 f34 f33 f32 f31 f30 f29 f28 f27 f26 f25 f24 f23 f22 f21 f20 f19 f18 f17 f16 f15 f14 f13 f12 f11 f10 f9 f8 f7 f6 f5 f4 f3 f2 f1 f0
theorem q_313w_6 {q0 : Nat} {n0 n1 n2 n3 n4 n5 n6 n7 n8 n9 n10 n11 n12 n13 n14 n15 n16 n17 n18 n19 n20 n21 n22 n23 n24 n25 : Int} {H0 H1 H2 : gH} (f0 : n0 ≤ 24) (f1 : 0 ≤ n0) (f2 : n1 ≤ 2147483647) (f3 : (-2147483648) ≤ n1) (f4 : n2 ≤ 2147483647) (f5 : (-2147483648) ≤ n2) (f6 : n3 ≤ 2147483647) (f7 : (-2147483648) ≤ n3) (f8 : n4 ≤ 2147483647) (f9 : (-2147483648) ≤ n4) (f10 : n5 ≤ 2147483647) (f11 : (-2147483648) ≤ n5) (f12 : n6 = 285) (f13 : n7 ≤ 2147483647) (f14 : (-2147483648) ≤ n7) (f15 : n8 ≤ 2147483647) (f16 : (-2147483648) ≤ n8) (f17 : n9 ≤ 2147483647) (f18 : (-2147483648) ≤ n9) (f19 : n10 ≤ 2147483647) (f20 : (-2147483648) ≤ n10) (f21 : n11 = 285) (f22 : (hLe T0 H0 H1 ∧ hFr s_313.2.2.2.2 H0 H1 ∧ hWt T0 H1) ∧ ((Ab_313_93 n11 n10 n9 n8 n7 n6 n5 n4 n3 n2 n1 n0 H0 H1 ∧ Bb_313_93 n11 n10 n9 n8 n7 n6 n5 n4 n3 n2 n1 n0 H0 H1) ∧ preb_313 n11 n10 n9 n8 n7 H0) ∧ some q0 = some (mub_313_93 n11 n10 n9 n8 n7 n6 n5 n4 n3 n2 n1 n0 H0 H1)) (f23 : n12 = 12) (f24 : n13 ≤ 1) (f25 : 0 ≤ n13) (f26 : hK H1 (n6).toNat = 12) (f27 : n13 = hV H1 (n6).toNat 34) (f28 : n14 = w32 (n12 * n13)) (f29 : n15 = 306) (f30 : hK H1 (n6).toNat = 12) (f31 : n15 = hV H1 (n6).toNat 36) (f32 : n16 ≤ 1) (f33 : 0 ≤ n16) (f34 : hK H1 (n6).toNat = 12) (f35 : n16 = hV H1 (n6).toNat 34) (f36 : n17 ≤ 12) (f37 : 0 ≤ n17) (f38 : n17 = hV H1 (n15).toNat (n16).toNat) (f39 : n18 = w32 (n14 + n17)) (f40 : n0 < n18) (f41 : n19 = 307) (f42 : hK H1 (n6).toNat = 12) (f43 : n19 = hV H1 (n6).toNat 37) (f44 : n20 ≤ 1) (f45 : 0 ≤ n20) (f46 : n20 = hV H1 (n19).toNat (n0).toNat) (f47 : n20 = 0) (f48 : n21 ≤ 1) (f49 : 0 ≤ n21) (f50 : (hLe T0 H1 H2 ∧ hFr s_239.2.2.2.2 H1 H2 ∧ ((0 : Int) = 0 → H2.length = H1.length) ∧ hWt T0 H2) ∧ (True ∧ nb_239 n21 n6 n0 H1 H2)) (f51 : n21 ≠ 0) (f52 : n22 ≤ 2147483647) (f53 : (-2147483648) ≤ n22) (f54 : hK H2 (n6).toNat = 12) (f55 : n22 = hV H2 (n6).toNat 59) (f56 : 0 ≤ n22) (f57 : n23 ≤ 2147483647) (f58 : (-2147483648) ≤ n23) (f59 : hK H2 (n6).toNat = 12) (f60 : n23 = hV H2 (n6).toNat 59) (f61 : n24 = 999999) (f62 : n24 < n23) (f63 : n25 = 999999) : nb_313 n25 n11 n10 n9 n8 n7 H0 H2 := by
  unfold nb_313
  have gb := f22.2.1.1.2
  unfold Bb_313_93 at gb
  obtain ⟨oc, d0, gb⟩ := gb
  have d27 := rdS (q := 285) f27 f12
  have d35 := rdS (q := 285) f35 f12
  have d38 := rdW (q := 306) f38 f29
  have d46 := rdW (q := 307) f46 f41
  have d55 := rdS (q := 285) f55 f12
  have d60 := rdS (q := 285) f60 f12
  have xk : XRk H0 H1 := XRk_fr f22.1.2.1 (by decide +kernel)
  have yk : YRs H0 H1 := YRs_fr f22.1.2.1 (by decide +kernel)
  have zk : ZRs H0 H1 := ZRs_fr f22.1.2.1 (by decide +kernel)
  have e34 : hV H1 285 34 = hV H0 285 34 := f22.1.2.1.1 285 34 (by decide +kernel)
  have b34 := f22.1.2.2 285 34 _ _ rW_34
  have v27 : n13 = hV H0 285 34 := d27.trans e34
  have v35 : n16 = hV H0 285 34 := d35.trans e34
  have wm := f28
  rw [f23] at wm
  rw [w32_id (by omega) (by omega)] at wm
  have v306 : n17 = hV H0 306 (hV H0 285 34).toNat := by rw [d38, v35, zk 306 (by decide) (by decide)]
  refine ⟨fun w => absurd oc w, fun _ => ⟨d0, fun sk mt fb R rg gr => ?_⟩⟩
  obtain ⟨jj, ej, jl, eo⟩ := gb sk mt fb R rg gr
  have r0 := rg.1
  have r12 := rg.2.1
  have ws := f39
  rw [w32_id (by omega) (by omega)] at ws
  have hl : jj < R.length := by omega
  have hr : R[jj]? = some R[jj] := List.getElem?_eq_getElem hl
  have rj := rg.2.2 jj _ hr
  have kx : (n0).toNat = ((12 * hV H0 285 34).toNat + jj) := by omega
  have v307 : n20 = hV H0 307 ((12 * hV H0 285 34).toNat + jj) := by rw [d46, zk 307 (by decide) (by decide), kx]
  cases hc : R[jj] with
  | none =>
    exfalso
    rw [hc] at rj
    have rj : hV H0 307 ((12 * hV H0 285 34).toNat + jj) = 1 := rj
    omega
  | some u =>
    rw [hc] at hr rj
    have gu := gr (some u) (List.mem_of_getElem? hr)
    have qh := f50.2.2
    unfold nb_239 at qh
    have qh := qh u (600 * hV H0 285 34) (600 * hV H0 285 34 + 600) (200 * hV H0 285 34) (200 * hV H0 285 34 + 200) (by omega) (by omega) (by rw [kx]; exact rgR_k xk yk zk rj) gu
    rw [oV_some hr] at eo
    have ye := (qh.resolve_right (fun w => by have := w.1; omega)).2
    rw [ye] at eo
    have eo : hV H2 285 59 = _ := eo
    rw [← eo]
    unfold clO
    rw [if_neg (by omega), if_pos (by omega)]
    exact f63
def g_313w_93_3 : vG := ([(0, [25], [], 999999), (44, [23, 24], [], 0), (0, [24], [], 999999), (20, [23, 5], [2], 59), (23, [5], [2], 12), (90, [23], [], -2147483648), (91, [23], [], 2147483647), (33, [22], [], 0), (20, [22, 5], [2], 59), (23, [5], [2], 12), (90, [22], [], -2147483648), (91, [22], [], 2147483647), (31, [21], [], 0), (1239, [21, 5, 11], [1, 2], 0), (90, [21], [], 0), (91, [21], [], 1), (30, [20], [], 0), (22, [20, 19, 11], [1], 0), (90, [20], [], 0), (91, [20], [], 1), (20, [19, 5], [1], 37), (23, [5], [1], 12), (0, [19], [], 307), (42, [11, 18], [], 0), (1, [18, 14, 17], [], 0), (22, [17, 15, 16], [1], 0), (90, [17], [], 0), (91, [17], [], 12), (20, [16, 5], [1], 34), (23, [5], [1], 12), (90, [16], [], 0), (91, [16], [], 1), (20, [15, 5], [1], 36), (23, [5], [1], 12), (0, [15], [], 306), (3, [14, 12, 13], [], 0), (20, [13, 5], [1], 34), (23, [5], [1], 12), (90, [13], [], 0), (91, [13], [], 1), (0, [12], [], 12), (5000, [0, 1, 2, 3, 4, 5, 6, 7, 8, 9, 10, 11], [0, 1], 93), (0, [0], [], 285), (90, [1], [], -2147483648), (91, [1], [], 2147483647), (90, [2], [], -2147483648), (91, [2], [], 2147483647), (90, [3], [], -2147483648), (91, [3], [], 2147483647), (90, [4], [], -2147483648), (91, [4], [], 2147483647), (0, [5], [], 285), (90, [6], [], -2147483648), (91, [6], [], 2147483647), (90, [7], [], -2147483648), (91, [7], [], 2147483647), (90, [8], [], -2147483648), (91, [8], [], 2147483647), (90, [9], [], -2147483648), (91, [9], [], 2147483647), (90, [10], [], -2147483648), (91, [10], [], 2147483647), (90, [11], [], 0), (91, [11], [], 24)], (3000, [25], [2], 168))
theorem c_313w_93_3 {q0 : Nat} : vOkm T0 (eN e_313 L_313w A_313 mu_313 n_313 B_313 (some q0)) 5 g_313w_93_3 := vOk_inI fun ρ η f0 f1 f2 f3 f4 f5 f6 f7 f8 f9 f10 f11 f12 f13 f14 f15 f16 f17 f18 f19 f20 f21 f22 f23 f24 f25 f26 f27 f28 f29 f30 f31 f32 f33 f34 f35 f36 f37 f38 f39 f40 f41 f42 f43 f44 f45 f46 f47 f48 f49 f50 f51 f52 f53 f54 f55 f56 f57 f58 f59 f60 f61 f62 f63 => q_313w_6 (q0 := q0) (n0 := ρ 11) (n1 := ρ 10) (n2 := ρ 9) (n3 := ρ 8) (n4 := ρ 7) (n5 := ρ 6) (n6 := ρ 5) (n7 := ρ 4) (n8 := ρ 3) (n9 := ρ 2) (n10 := ρ 1) (n11 := ρ 0) (n12 := ρ 12) (n13 := ρ 13) (n14 := ρ 14) (n15 := ρ 15) (n16 := ρ 16) (n17 := ρ 17) (n18 := ρ 18) (n19 := ρ 19) (n20 := ρ 20) (n21 := ρ 21) (n22 := ρ 22) (n23 := ρ 23) (n24 := ρ 24) (n25 := ρ 25) (H0 := η 0) (H1 := η 1) (H2 := η 2) f63 f62 f61 f60 f59 f58 f57 f56 f55 f54 f53 f52 f51 f50 f49 f48 f47 f46 f45 f44 f43 f42 f41 f40 f39 f38 f37 f36 f35 f34 f33 f32 f31 f30 f29 f28 f27 f26 f25 f24 f23 f22 f21 f20 f19 f18 f17 f16 f15 f14 f13 f12 f11 f10 f9 f8 f7 f6 f5 f4 f3 f2 f1 f0
theorem q_313w_7 {q0 : Nat} {n0 n1 n2 n3 n4 n5 n6 n7 n8 n9 n10 n11 n12 n13 n14 n15 n16 n17 n18 n19 n20 n21 n22 n23 : Int} {H0 H1 H2 : gH} (f0 : n0 ≤ 24) (f1 : 0 ≤ n0) (f2 : n1 ≤ 2147483647) (f3 : (-2147483648) ≤ n1) (f4 : n2 ≤ 2147483647) (f5 : (-2147483648) ≤ n2) (f6 : n3 ≤ 2147483647) (f7 : (-2147483648) ≤ n3) (f8 : n4 ≤ 2147483647) (f9 : (-2147483648) ≤ n4) (f10 : n5 ≤ 2147483647) (f11 : (-2147483648) ≤ n5) (f12 : n6 = 285) (f13 : n7 ≤ 2147483647) (f14 : (-2147483648) ≤ n7) (f15 : n8 ≤ 2147483647) (f16 : (-2147483648) ≤ n8) (f17 : n9 ≤ 2147483647) (f18 : (-2147483648) ≤ n9) (f19 : n10 ≤ 2147483647) (f20 : (-2147483648) ≤ n10) (f21 : n11 = 285) (f22 : (hLe T0 H0 H1 ∧ hFr s_313.2.2.2.2 H0 H1 ∧ hWt T0 H1) ∧ ((Ab_313_93 n11 n10 n9 n8 n7 n6 n5 n4 n3 n2 n1 n0 H0 H1 ∧ Bb_313_93 n11 n10 n9 n8 n7 n6 n5 n4 n3 n2 n1 n0 H0 H1) ∧ preb_313 n11 n10 n9 n8 n7 H0) ∧ some q0 = some (mub_313_93 n11 n10 n9 n8 n7 n6 n5 n4 n3 n2 n1 n0 H0 H1)) (f23 : n12 = 12) (f24 : n13 ≤ 1) (f25 : 0 ≤ n13) (f26 : hK H1 (n6).toNat = 12) (f27 : n13 = hV H1 (n6).toNat 34) (f28 : n14 = w32 (n12 * n13)) (f29 : n15 = 306) (f30 : hK H1 (n6).toNat = 12) (f31 : n15 = hV H1 (n6).toNat 36) (f32 : n16 ≤ 1) (f33 : 0 ≤ n16) (f34 : hK H1 (n6).toNat = 12) (f35 : n16 = hV H1 (n6).toNat 34) (f36 : n17 ≤ 12) (f37 : 0 ≤ n17) (f38 : n17 = hV H1 (n15).toNat (n16).toNat) (f39 : n18 = w32 (n14 + n17)) (f40 : n0 < n18) (f41 : n19 = 307) (f42 : hK H1 (n6).toNat = 12) (f43 : n19 = hV H1 (n6).toNat 37) (f44 : n20 ≤ 1) (f45 : 0 ≤ n20) (f46 : n20 = hV H1 (n19).toNat (n0).toNat) (f47 : n20 = 0) (f48 : n21 ≤ 1) (f49 : 0 ≤ n21) (f50 : (hLe T0 H1 H2 ∧ hFr s_239.2.2.2.2 H1 H2 ∧ ((0 : Int) = 0 → H2.length = H1.length) ∧ hWt T0 H2) ∧ (True ∧ nb_239 n21 n6 n0 H1 H2)) (f51 : n21 ≠ 0) (f52 : n22 ≤ 2147483647) (f53 : (-2147483648) ≤ n22) (f54 : hK H2 (n6).toNat = 12) (f55 : n22 = hV H2 (n6).toNat 59) (f56 : n22 < 0) (f57 : n23 = 0) : nb_313 n23 n11 n10 n9 n8 n7 H0 H2 := by
  unfold nb_313
  have gb := f22.2.1.1.2
  unfold Bb_313_93 at gb
  obtain ⟨oc, d0, gb⟩ := gb
  have d27 := rdS (q := 285) f27 f12
  have d35 := rdS (q := 285) f35 f12
  have d38 := rdW (q := 306) f38 f29
  have d46 := rdW (q := 307) f46 f41
  have d55 := rdS (q := 285) f55 f12
  have xk : XRk H0 H1 := XRk_fr f22.1.2.1 (by decide +kernel)
  have yk : YRs H0 H1 := YRs_fr f22.1.2.1 (by decide +kernel)
  have zk : ZRs H0 H1 := ZRs_fr f22.1.2.1 (by decide +kernel)
  have e34 : hV H1 285 34 = hV H0 285 34 := f22.1.2.1.1 285 34 (by decide +kernel)
  have b34 := f22.1.2.2 285 34 _ _ rW_34
  have v27 : n13 = hV H0 285 34 := d27.trans e34
  have v35 : n16 = hV H0 285 34 := d35.trans e34
  have wm := f28
  rw [f23] at wm
  rw [w32_id (by omega) (by omega)] at wm
  have v306 : n17 = hV H0 306 (hV H0 285 34).toNat := by rw [d38, v35, zk 306 (by decide) (by decide)]
  refine ⟨fun w => absurd oc w, fun _ => ⟨d0, fun sk mt fb R rg gr => ?_⟩⟩
  obtain ⟨jj, ej, jl, eo⟩ := gb sk mt fb R rg gr
  have r0 := rg.1
  have r12 := rg.2.1
  have ws := f39
  rw [w32_id (by omega) (by omega)] at ws
  have hl : jj < R.length := by omega
  have hr : R[jj]? = some R[jj] := List.getElem?_eq_getElem hl
  have rj := rg.2.2 jj _ hr
  have kx : (n0).toNat = ((12 * hV H0 285 34).toNat + jj) := by omega
  have v307 : n20 = hV H0 307 ((12 * hV H0 285 34).toNat + jj) := by rw [d46, zk 307 (by decide) (by decide), kx]
  cases hc : R[jj] with
  | none =>
    exfalso
    rw [hc] at rj
    have rj : hV H0 307 ((12 * hV H0 285 34).toNat + jj) = 1 := rj
    omega
  | some u =>
    rw [hc] at hr rj
    have gu := gr (some u) (List.mem_of_getElem? hr)
    have qh := f50.2.2
    unfold nb_239 at qh
    have qh := qh u (600 * hV H0 285 34) (600 * hV H0 285 34 + 600) (200 * hV H0 285 34) (200 * hV H0 285 34 + 200) (by omega) (by omega) (by rw [kx]; exact rgR_k xk yk zk rj) gu
    rw [oV_some hr] at eo
    have ye := (qh.resolve_right (fun w => by have := w.1; omega)).2
    rw [ye] at eo
    have eo : hV H2 285 59 = _ := eo
    rw [← eo]
    unfold clO
    rw [if_pos (by omega)]
    exact f57
def g_313w_93_4 : vG := ([(0, [23], [], 0), (32, [22], [], 0), (20, [22, 5], [2], 59), (23, [5], [2], 12), (90, [22], [], -2147483648), (91, [22], [], 2147483647), (31, [21], [], 0), (1239, [21, 5, 11], [1, 2], 0), (90, [21], [], 0), (91, [21], [], 1), (30, [20], [], 0), (22, [20, 19, 11], [1], 0), (90, [20], [], 0), (91, [20], [], 1), (20, [19, 5], [1], 37), (23, [5], [1], 12), (0, [19], [], 307), (42, [11, 18], [], 0), (1, [18, 14, 17], [], 0), (22, [17, 15, 16], [1], 0), (90, [17], [], 0), (91, [17], [], 12), (20, [16, 5], [1], 34), (23, [5], [1], 12), (90, [16], [], 0), (91, [16], [], 1), (20, [15, 5], [1], 36), (23, [5], [1], 12), (0, [15], [], 306), (3, [14, 12, 13], [], 0), (20, [13, 5], [1], 34), (23, [5], [1], 12), (90, [13], [], 0), (91, [13], [], 1), (0, [12], [], 12), (5000, [0, 1, 2, 3, 4, 5, 6, 7, 8, 9, 10, 11], [0, 1], 93), (0, [0], [], 285), (90, [1], [], -2147483648), (91, [1], [], 2147483647), (90, [2], [], -2147483648), (91, [2], [], 2147483647), (90, [3], [], -2147483648), (91, [3], [], 2147483647), (90, [4], [], -2147483648), (91, [4], [], 2147483647), (0, [5], [], 285), (90, [6], [], -2147483648), (91, [6], [], 2147483647), (90, [7], [], -2147483648), (91, [7], [], 2147483647), (90, [8], [], -2147483648), (91, [8], [], 2147483647), (90, [9], [], -2147483648), (91, [9], [], 2147483647), (90, [10], [], -2147483648), (91, [10], [], 2147483647), (90, [11], [], 0), (91, [11], [], 24)], (3000, [23], [2], 168))
theorem c_313w_93_4 {q0 : Nat} : vOkm T0 (eN e_313 L_313w A_313 mu_313 n_313 B_313 (some q0)) 5 g_313w_93_4 := vOk_inI fun ρ η f0 f1 f2 f3 f4 f5 f6 f7 f8 f9 f10 f11 f12 f13 f14 f15 f16 f17 f18 f19 f20 f21 f22 f23 f24 f25 f26 f27 f28 f29 f30 f31 f32 f33 f34 f35 f36 f37 f38 f39 f40 f41 f42 f43 f44 f45 f46 f47 f48 f49 f50 f51 f52 f53 f54 f55 f56 f57 => q_313w_7 (q0 := q0) (n0 := ρ 11) (n1 := ρ 10) (n2 := ρ 9) (n3 := ρ 8) (n4 := ρ 7) (n5 := ρ 6) (n6 := ρ 5) (n7 := ρ 4) (n8 := ρ 3) (n9 := ρ 2) (n10 := ρ 1) (n11 := ρ 0) (n12 := ρ 12) (n13 := ρ 13) (n14 := ρ 14) (n15 := ρ 15) (n16 := ρ 16) (n17 := ρ 17) (n18 := ρ 18) (n19 := ρ 19) (n20 := ρ 20) (n21 := ρ 21) (n22 := ρ 22) (n23 := ρ 23) (H0 := η 0) (H1 := η 1) (H2 := η 2) f57 f56 f55 f54 f53 f52 f51 f50 f49 f48 f47 f46 f45 f44 f43 f42 f41 f40 f39 f38 f37 f36 f35 f34 f33 f32 f31 f30 f29 f28 f27 f26 f25 f24 f23 f22 f21 f20 f19 f18 f17 f16 f15 f14 f13 f12 f11 f10 f9 f8 f7 f6 f5 f4 f3 f2 f1 f0
theorem q_313w_8 {q0 : Nat} {n0 n1 n2 n3 n4 n5 n6 n7 n8 n9 n10 n11 n12 n13 n14 n15 n16 n17 n18 n19 n20 n21 n22 : Int} {H0 H1 H2 : gH} (f0 : n0 ≤ 24) (f1 : 0 ≤ n0) (f2 : n1 ≤ 2147483647) (f3 : (-2147483648) ≤ n1) (f4 : n2 ≤ 2147483647) (f5 : (-2147483648) ≤ n2) (f6 : n3 ≤ 2147483647) (f7 : (-2147483648) ≤ n3) (f8 : n4 ≤ 2147483647) (f9 : (-2147483648) ≤ n4) (f10 : n5 ≤ 2147483647) (f11 : (-2147483648) ≤ n5) (f12 : n6 = 285) (f13 : n7 ≤ 2147483647) (f14 : (-2147483648) ≤ n7) (f15 : n8 ≤ 2147483647) (f16 : (-2147483648) ≤ n8) (f17 : n9 ≤ 2147483647) (f18 : (-2147483648) ≤ n9) (f19 : n10 ≤ 2147483647) (f20 : (-2147483648) ≤ n10) (f21 : n11 = 285) (f22 : (hLe T0 H0 H1 ∧ hFr s_313.2.2.2.2 H0 H1 ∧ hWt T0 H1) ∧ ((Ab_313_93 n11 n10 n9 n8 n7 n6 n5 n4 n3 n2 n1 n0 H0 H1 ∧ Bb_313_93 n11 n10 n9 n8 n7 n6 n5 n4 n3 n2 n1 n0 H0 H1) ∧ preb_313 n11 n10 n9 n8 n7 H0) ∧ some q0 = some (mub_313_93 n11 n10 n9 n8 n7 n6 n5 n4 n3 n2 n1 n0 H0 H1)) (f23 : n12 = 12) (f24 : n13 ≤ 1) (f25 : 0 ≤ n13) (f26 : hK H1 (n6).toNat = 12) (f27 : n13 = hV H1 (n6).toNat 34) (f28 : n14 = w32 (n12 * n13)) (f29 : n15 = 306) (f30 : hK H1 (n6).toNat = 12) (f31 : n15 = hV H1 (n6).toNat 36) (f32 : n16 ≤ 1) (f33 : 0 ≤ n16) (f34 : hK H1 (n6).toNat = 12) (f35 : n16 = hV H1 (n6).toNat 34) (f36 : n17 ≤ 12) (f37 : 0 ≤ n17) (f38 : n17 = hV H1 (n15).toNat (n16).toNat) (f39 : n18 = w32 (n14 + n17)) (f40 : n0 < n18) (f41 : n19 = 307) (f42 : hK H1 (n6).toNat = 12) (f43 : n19 = hV H1 (n6).toNat 37) (f44 : n20 ≤ 1) (f45 : 0 ≤ n20) (f46 : n20 = hV H1 (n19).toNat (n0).toNat) (f47 : n20 = 0) (f48 : n21 ≤ 1) (f49 : 0 ≤ n21) (f50 : (hLe T0 H1 H2 ∧ hFr s_239.2.2.2.2 H1 H2 ∧ ((0 : Int) = 0 → H2.length = H1.length) ∧ hWt T0 H2) ∧ (True ∧ nb_239 n21 n6 n0 H1 H2)) (f51 : n21 = 0) (f52 : n22 = w32 (n0 + 1)) : Bb_313_93 n11 n10 n9 n8 n7 n6 n5 n4 n3 n2 n1 n22 H0 H2 := by
  unfold Bb_313_93
  have gb := f22.2.1.1.2
  unfold Bb_313_93 at gb
  obtain ⟨oc, d0, gb⟩ := gb
  have d27 := rdS (q := 285) f27 f12
  have d35 := rdS (q := 285) f35 f12
  have d38 := rdW (q := 306) f38 f29
  have d46 := rdW (q := 307) f46 f41
  have xk : XRk H0 H1 := XRk_fr f22.1.2.1 (by decide +kernel)
  have yk : YRs H0 H1 := YRs_fr f22.1.2.1 (by decide +kernel)
  have zk : ZRs H0 H1 := ZRs_fr f22.1.2.1 (by decide +kernel)
  have e34 : hV H1 285 34 = hV H0 285 34 := f22.1.2.1.1 285 34 (by decide +kernel)
  have b34 := f22.1.2.2 285 34 _ _ rW_34
  have v27 : n13 = hV H0 285 34 := d27.trans e34
  have v35 : n16 = hV H0 285 34 := d35.trans e34
  have wm := f28
  rw [f23] at wm
  rw [w32_id (by omega) (by omega)] at wm
  have v306 : n17 = hV H0 306 (hV H0 285 34).toNat := by rw [d38, v35, zk 306 (by decide) (by decide)]
  refine ⟨oc, d0, fun sk mt fb R rg gr => ?_⟩
  obtain ⟨jj, ej, jl, eo⟩ := gb sk mt fb R rg gr
  have r0 := rg.1
  have r12 := rg.2.1
  have ws := f39
  rw [w32_id (by omega) (by omega)] at ws
  have hl : jj < R.length := by omega
  have hr : R[jj]? = some R[jj] := List.getElem?_eq_getElem hl
  have rj := rg.2.2 jj _ hr
  have kx : (n0).toNat = ((12 * hV H0 285 34).toNat + jj) := by omega
  have v307 : n20 = hV H0 307 ((12 * hV H0 285 34).toNat + jj) := by rw [d46, zk 307 (by decide) (by decide), kx]
  have wn52 := f52
  unfold w32 at wn52
  cases hc : R[jj] with
  | none =>
    exfalso
    rw [hc] at rj
    have rj : hV H0 307 ((12 * hV H0 285 34).toNat + jj) = 1 := rj
    omega
  | some u =>
    rw [hc] at hr rj
    have gu := gr (some u) (List.mem_of_getElem? hr)
    have qh := f50.2.2
    unfold nb_239 at qh
    have qh := qh u (600 * hV H0 285 34) (600 * hV H0 285 34 + 600) (200 * hV H0 285 34) (200 * hV H0 285 34 + 200) (by omega) (by omega) (by rw [kx]; exact rgR_k xk yk zk rj) gu
    rw [oV_some hr] at eo
    have no := (qh.resolve_left (fun w => by have := w.1; omega)).2
    rw [no] at eo
    refine ⟨jj + 1, by show _ = _ + ((jj + 1 : Nat) : Int); omega, hl, ?_⟩
    rw [show VAr H2 = VAr H1 from VAr_eq (fRow f50.1.2.1 323 (by decide +kernel))]
    exact eo
def g_313w_93_5 : vG := ([(10, [22, 11], [], 1), (30, [21], [], 0), (1239, [21, 5, 11], [1, 2], 0), (90, [21], [], 0), (91, [21], [], 1), (30, [20], [], 0), (22, [20, 19, 11], [1], 0), (90, [20], [], 0), (91, [20], [], 1), (20, [19, 5], [1], 37), (23, [5], [1], 12), (0, [19], [], 307), (42, [11, 18], [], 0), (1, [18, 14, 17], [], 0), (22, [17, 15, 16], [1], 0), (90, [17], [], 0), (91, [17], [], 12), (20, [16, 5], [1], 34), (23, [5], [1], 12), (90, [16], [], 0), (91, [16], [], 1), (20, [15, 5], [1], 36), (23, [5], [1], 12), (0, [15], [], 306), (3, [14, 12, 13], [], 0), (20, [13, 5], [1], 34), (23, [5], [1], 12), (90, [13], [], 0), (91, [13], [], 1), (0, [12], [], 12), (5000, [0, 1, 2, 3, 4, 5, 6, 7, 8, 9, 10, 11], [0, 1], 93), (0, [0], [], 285), (90, [1], [], -2147483648), (91, [1], [], 2147483647), (90, [2], [], -2147483648), (91, [2], [], 2147483647), (90, [3], [], -2147483648), (91, [3], [], 2147483647), (90, [4], [], -2147483648), (91, [4], [], 2147483647), (0, [5], [], 285), (90, [6], [], -2147483648), (91, [6], [], 2147483647), (90, [7], [], -2147483648), (91, [7], [], 2147483647), (90, [8], [], -2147483648), (91, [8], [], 2147483647), (90, [9], [], -2147483648), (91, [9], [], 2147483647), (90, [10], [], -2147483648), (91, [10], [], 2147483647), (90, [11], [], 0), (91, [11], [], 24)], (4000, [5, 6, 7, 8, 9, 10, 22], [2], 93))
theorem c_313w_93_5 {q0 : Nat} : vOkm T0 (eN e_313 L_313w A_313 mu_313 n_313 B_313 (some q0)) 5 g_313w_93_5 := vOk_inI fun ρ η f0 f1 f2 f3 f4 f5 f6 f7 f8 f9 f10 f11 f12 f13 f14 f15 f16 f17 f18 f19 f20 f21 f22 f23 f24 f25 f26 f27 f28 f29 f30 f31 f32 f33 f34 f35 f36 f37 f38 f39 f40 f41 f42 f43 f44 f45 f46 f47 f48 f49 f50 f51 f52 => q_313w_8 (q0 := q0) (n0 := ρ 11) (n1 := ρ 10) (n2 := ρ 9) (n3 := ρ 8) (n4 := ρ 7) (n5 := ρ 6) (n6 := ρ 5) (n7 := ρ 4) (n8 := ρ 3) (n9 := ρ 2) (n10 := ρ 1) (n11 := ρ 0) (n12 := ρ 12) (n13 := ρ 13) (n14 := ρ 14) (n15 := ρ 15) (n16 := ρ 16) (n17 := ρ 17) (n18 := ρ 18) (n19 := ρ 19) (n20 := ρ 20) (n21 := ρ 21) (n22 := ρ 22) (H0 := η 0) (H1 := η 1) (H2 := η 2) f52 f51 f50 f49 f48 f47 f46 f45 f44 f43 f42 f41 f40 f39 f38 f37 f36 f35 f34 f33 f32 f31 f30 f29 f28 f27 f26 f25 f24 f23 f22 f21 f20 f19 f18 f17 f16 f15 f14 f13 f12 f11 f10 f9 f8 f7 f6 f5 f4 f3 f2 f1 f0
def p_313w_93 : List vG := [g_313w_93_0,
  g_313w_93_1,
  g_313w_93_2,
  g_313w_93_3,
  g_313w_93_4,
  g_313w_93_5]
theorem r_313w_93 : vCovBO (eRc e_313 L_313 cs_313 2000 (93, [(0, (3, 12, 285, 0)), (1, (0, -2147483648, 2147483647, 0)), (2, (0, -2147483648, 2147483647, 0)), (3, (0, -2147483648, 2147483647, 0)), (4, (0, -2147483648, 2147483647, 0)), (5, (0, -2147483648, 2147483647, 0)), (6, (0, 0, 24, 0))])) p_313w_93 = true := by decide +kernel
theorem m_313w (d : Nat) : eC e_313w (d + 5) := eC_ref (e := e_313) (L := L_313) (L' := L_313w) (cs := cs_313) (n := 2000) (d := d + 4) (A := A_313) (μ := mu_313) (tp := true) (p0 := p_313_s) (p1 := p_313w_s) (N := n_313) (B := B_313) rfl ⟨m_239w (d + 2), ⟨m_251 (d + 3), ⟨m_310q d, ⟨m_311w (d + 1), trivial⟩⟩⟩⟩ rfl (.inl rfl) (by decide +kernel) (fun _ => post0_ok) r_313_s (allC c_313_s_0 (allC c_313_s_1 (allC c_313_s_2 (allC c_313_s_3 (allC c_313_s_4 (allC c_313_s_5 (allC c_313_s_6 (allC c_313_s_7 (allC c_313_s_8 allN))))))))) (allC (.inl ⟨p_313_93, r_313_93, fun q0 => (allC c_313_93_0 (allC c_313_93_1 (allC c_313_93_2 (allC c_313_93_3 (allC c_313_93_4 (allC c_313_93_5 (allC c_313_93_6 (allC c_313_93_7 (allC c_313_93_8 allN)))))))))⟩) allN) (sub1 (sub0 ⟨⟨rfl, rfl, rfl, fun _ _ _ _ => trivial⟩, (sub1 trivial)⟩)) r_313w_s (allC c_313w_s_0 (allC c_313w_s_1 (allC c_313w_s_2 allN))) (allC ⟨p_313w_93, r_313w_93, fun q0 => (allC c_313w_93_0 (allC c_313w_93_1 (allC c_313w_93_2 (allC c_313w_93_3 (allC c_313w_93_4 (allC c_313w_93_5 allN))))))⟩ allN)
