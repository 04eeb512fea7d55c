/- Reader.check ([II)I -/
noncomputable def s_60v : vM := ([(3, 4, 30, 0), (2, 692, -1, 0), (0, -2147483648, 2147483647, 0)], (0, -2147483648, 2147483647, 0), 1, 0, [(1, 0), (1, 1), (1, 2), (1, 3), (1, 4), (1, 5), (1, 6), (1, 7), (1, 8), (1, 9), (1, 10), (1, 11), (1, 12), (1, 13), (1, 14), (1, 15), (1, 16), (1, 18), (4, 1), (4, 2), (4, 3), (4, 4), (4, 5), (4, 6), (4, 7), (4, 13), (4, 15), (5, 0), (5, 2), (8, 4), (100, 0), (716, 0), (725, 0), (733, 0), (740, 0), (796, 0)])
def preb_60v (a0 a1 a2 : Int) (h : gH) : Prop := KS5 h ∧ KB h ∧ CU h ∧ DR h ∧ WDS h ∧ a1 = 8 ∧ 0 ≤ a2 ∧ a2 ≤ 2000 ∧ TB h
def pre_60v : List Int → gH → Prop := fun xs h => match xs with
  | [a0, a1, a2] => preb_60v a0 a1 a2 h
  | _ => False
def postb_60v (r a0 a1 a2 : Int) (h0 h : gH) : Prop := r = pRes (pRead (pTx (hV h0 8) a2)) ∧ hV h 30 3 = r ∧ (r = 0 → pPlc (pRead (pTx (hV h0 8) a2)) = -1) ∧ (¬ r = 0 → 0 ≤ hV h 30 4 ∧ hV h 30 4 ≤ 500 ∧ hV h 30 4 < hV h 31 4 ∧ hV h 34 (hV h 30 4).toNat = pPlc (pRead (pTx (hV h0 8) a2))) ∧ ((hV h 30 7 = 1 ∧ (pTx (hV h0 8) a2).1 0 = 19) ∨ (hV h 30 7 = 0 ∧ ¬ (pTx (hV h0 8) a2).1 0 = 19)) ∧ PBt h ∧ WDS h
def post_60v : List Int → gH → gH → Prop := fun xs h0 h => match xs with
  | [r, a0, a1, a2] => postb_60v r a0 a1 a2 h0 h
  | _ => True
noncomputable def e_60v : vE := (60, s_60v, pre_60v, post_60v)
noncomputable def L_60v : List vE := [e_61v, e_64v, e_66v, e_68v, e_69v, e_70v, e_72v, e_84v, e_125v]
def cs_60v : List vC := [(15, [(0, (3, 4, 30, 0)), (1, (2, 692, -1, 0)), (2, (0, -2147483648, 2147483647, 0)), (3, (0, -2147483648, 2147483647, 0))]), (55, [(0, (3, 4, 30, 0)), (1, (2, 692, -1, 0)), (2, (0, -2147483648, 2147483647, 0)), (3, (0, -2147483648, 2147483647, 0))]), (89, [(0, (3, 4, 30, 0)), (1, (2, 692, -1, 0)), (2, (0, -2147483648, 2147483647, 0)), (3, (0, -2147483648, 2147483647, 0))])]
def Ab_60v_15 (a0 a1 a2 x0 x1 x2 x3 : Int) (h0 h : gH) : Prop := KI h ∧ BI h ∧ CU h ∧ DR h ∧ vwC h = (pTx (hV h0 8) a2) ∧ WDS h ∧ 0 ≤ x3 ∧ x3 ≤ 7 ∧ (hV h 30 3 = 0 → hV h 30 13 = x3) ∧ ((hV h 30 7 = 1 ∧ (pTx (hV h0 8) a2).1 0 = 19) ∨ (hV h 30 7 = 0 ∧ ¬ (pTx (hV h0 8) a2).1 0 = 19)) ∧ pBlocks (pTx (hV h0 8) a2) (6 - (x3).toNat) (absC h) (BLc h) = pBlocks (pTx (hV h0 8) a2) 6 (0, 0) [] ∧ (hV h 30 3 = 0 → pTable (pTx (hV h0 8) a2) (6 - (x3).toNat) (absC h) (BLc h) = pTable (pTx (hV h0 8) a2) 6 (0, 0) [])
def mub_60v_15 (a0 a1 a2 x0 x1 x2 x3 : Int) (h0 h : gH) : Nat := (9 - x3).toNat + 2
def Ab_60v_55 (a0 a1 a2 x0 x1 x2 x3 : Int) (h0 h : gH) : Prop := KI h ∧ BI h ∧ CU h ∧ DR h ∧ vwC h = (pTx (hV h0 8) a2) ∧ WDS h ∧ ((hV h 30 7 = 1 ∧ (pTx (hV h0 8) a2).1 0 = 19) ∨ (hV h 30 7 = 0 ∧ ¬ (pTx (hV h0 8) a2).1 0 = 19)) ∧ absC h = pBlocks (pTx (hV h0 8) a2) 6 (0, 0) [] ∧ (hV h 30 3 = 0 → BLc h = pTable (pTx (hV h0 8) a2) 6 (0, 0) [])
def mub_60v_55 (a0 a1 a2 x0 x1 x2 x3 : Int) (h0 h : gH) : Nat := 1
def Ab_60v_89 (a0 a1 a2 x0 x1 x2 x3 : Int) (h0 h : gH) : Prop := KI h ∧ vwC h = (pTx (hV h0 8) a2) ∧ WDS h ∧ ((hV h 30 7 = 1 ∧ (pTx (hV h0 8) a2).1 0 = 19) ∨ (hV h 30 7 = 0 ∧ ¬ (pTx (hV h0 8) a2).1 0 = 19)) ∧ absC h = (if (pTx (hV h0 8) a2).1 0 = 19 then pRules (pTx (hV h0 8) a2) (0, 0) else pSheet (pTx (hV h0 8) a2) (0, 0))
def mub_60v_89 (a0 a1 a2 x0 x1 x2 x3 : Int) (h0 h : gH) : Nat := 0
def A_60v : Int → List Int → gH → gH → Prop := fun c xs h0 h => match c.toNat with
  | 15 => (match xs with
    | [a0, a1, a2, x0, x1, x2, x3] => Ab_60v_15 a0 a1 a2 x0 x1 x2 x3 h0 h
    | _ => False)
  | 55 => (match xs with
    | [a0, a1, a2, x0, x1, x2, x3] => Ab_60v_55 a0 a1 a2 x0 x1 x2 x3 h0 h
    | _ => False)
  | 89 => (match xs with
    | [a0, a1, a2, x0, x1, x2, x3] => Ab_60v_89 a0 a1 a2 x0 x1 x2 x3 h0 h
    | _ => False)
  | _ => True
def mu_60v : Int → List Int → gH → gH → Nat := fun c xs h0 h => match c.toNat with
  | 15 => (match xs with
    | [a0, a1, a2, x0, x1, x2, x3] => mub_60v_15 a0 a1 a2 x0 x1 x2 x3 h0 h
    | _ => 0)
  | 55 => 1
  | 89 => 0
  | _ => 0
theorem q_60v_0 {n0 n1 n2 n3 : Int} {H0 : gH} (f0 : n0 ≤ 2147483647) (f1 : (-2147483648) ≤ n0) (f2 : n1 = 30) (f3 : hWt T0 H0 ∧ preb_60v n1 n2 n0 H0) (f4 : n3 = 31) (f5 : n3 = hV H0 (n1).toNat 0) : preb_125v n3 n2 n0 H0 := by
  have pz := f3.2
  unfold preb_60v at pz
  unfold preb_125v
  exact ⟨pz.1, pz.2.2.2.2.1, pz.2.2.2.2.2.1, pz.2.2.2.2.2.2.1, pz.2.2.2.2.2.2.2.1, pz.2.2.2.2.2.2.2.2⟩
theorem c_60v_s_0 : vOkm T0 (eP e_60v L_60v A_60v mu_60v none) 3 ([(20, [3, 0], [0], 0), (0, [3], [], 31), (6000, [0, 1, 2], [0], 0), (0, [0], [], 30), (90, [2], [], -2147483648), (91, [2], [], 2147483647)], (2125, [3, 1, 2], [0], 0)) := vOk_in fun ρ η h => by
  obtain ⟨f0, f1, f2, f3, f4, f5, _⟩ := h
  exact q_60v_0 (n0 := ρ 2) (n1 := ρ 0) (n2 := ρ 1) (n3 := ρ 3) (H0 := η 0) f5 f4 f3 f2 f1 f0
theorem q_60v_1 {n0 n1 n2 n3 : Int} {H0 H1 : gH} (f0 : n0 ≤ 2147483647) (f1 : (-2147483648) ≤ n0) (f2 : n1 = 30) (f3 : hWt T0 H0 ∧ preb_60v n1 n2 n0 H0) (f4 : n3 = 31) (f5 : n3 = hV H0 (n1).toNat 0) (f6 : (hLe T0 H0 H1 ∧ hFr s_125v.2.2.2.2 H0 H1 ∧ ((0 : Int) = 0 → H1.length = H0.length) ∧ hWt T0 H1) ∧ postb_125v n3 n2 n0 H0 H1) : preb_61v n1 H1 := by
  have pz := f3.2
  unfold preb_60v at pz
  have sc := f6.2
  unfold postb_125v at sc
  unfold preb_61v
  exact ⟨sc.1, sc.2.1, KB_le f6.1.1 pz.2.1⟩
theorem c_60v_s_1 : vOkm T0 (eP e_60v L_60v A_60v mu_60v none) 3 ([(1125, [3, 1, 2], [0, 1], 0), (20, [3, 0], [0], 0), (0, [3], [], 31), (6000, [0, 1, 2], [0], 0), (0, [0], [], 30), (90, [2], [], -2147483648), (91, [2], [], 2147483647)], (2061, [0], [1], 0)) := vOk_in fun ρ η h => by
  obtain ⟨f0, f1, f2, f3, f4, f5, f6, _⟩ := h
  exact q_60v_1 (n0 := ρ 2) (n1 := ρ 0) (n2 := ρ 1) (n3 := ρ 3) (H0 := η 0) (H1 := η 1) f6 f5 f4 f3 f2 f1 f0
theorem q_60v_2 {n0 n1 n2 n3 n4 : Int} {H0 H1 H2 : gH} (f0 : n0 ≤ 2147483647) (f1 : (-2147483648) ≤ n0) (f2 : n1 = 30) (f3 : hWt T0 H0 ∧ preb_60v n1 n2 n0 H0) (f4 : n3 = 31) (f5 : n3 = hV H0 (n1).toNat 0) (f6 : (hLe T0 H0 H1 ∧ hFr s_125v.2.2.2.2 H0 H1 ∧ ((0 : Int) = 0 → H1.length = H0.length) ∧ hWt T0 H1) ∧ postb_125v n3 n2 n0 H0 H1) (f7 : (hLe T0 H1 H2 ∧ hFr s_61v.2.2.2.2 H1 H2 ∧ ((0 : Int) = 0 → H2.length = H1.length) ∧ hWt T0 H2) ∧ postb_61v n1 H1 H2) (f8 : n4 = 0) : Ab_60v_15 n1 n2 n0 n1 n2 n0 n4 H0 H2 ∧ ∀ q, none = some q → mub_60v_15 n1 n2 n0 n1 n2 n0 n4 H0 H2 < q := by
  have pz := f3.2
  unfold preb_60v at pz
  have sc := f6.2
  unfold postb_125v at sc
  have st := f7.2
  unfold postb_61v at st
  obtain ⟨t1, t2, t3, t4, t5, t6, t7⟩ := st
  have k0 := vwC_kind (h := H1) (i := 0) ⟨by decide, by decide, by have := sc.2.1.1; omega⟩
  rw [sc.2.2.1] at k0
  have cu := CU_fr f7.1.1 f7.1.2.1 (by decide +kernel) (CU_fr f6.1.1 f6.1.2.1 (by decide +kernel) pz.2.2.1)
  have dr := (DR_fr f7.1.1 f7.1.2.1 (by decide +kernel) (DR_fr f6.1.1 f6.1.2.1 (by decide +kernel) pz.2.2.2.1).1).1
  have w0_ := WDS_fr f7.1.1 f7.1.2.1 (by decide +kernel) sc.2.2.2.1
  unfold Ab_60v_15
  refine ⟨⟨t1, t3, cu, dr, t7.trans sc.2.2.1, w0_, by omega, by omega, fun _ => by omega, ?_, ?_, fun _ => ?_⟩, fun q hq => nomatch hq⟩
  · rw [k0]
    exact t6
  · rw [t2, t4, show (n4).toNat = 0 by omega]
  · rw [t2, t4, show (n4).toNat = 0 by omega]
theorem c_60v_s_2 : vOkm T0 (eP e_60v L_60v A_60v mu_60v none) 3 ([(0, [4], [], 0), (1061, [0], [1, 2], 0), (1125, [3, 1, 2], [0, 1], 0), (20, [3, 0], [0], 0), (0, [3], [], 31), (6000, [0, 1, 2], [0], 0), (0, [0], [], 30), (90, [2], [], -2147483648), (91, [2], [], 2147483647)], (4000, [0, 1, 2, 4], [2], 15)) := vOk_in fun ρ η h => by
  obtain ⟨f0, f1, f2, f3, f4, f5, f6, f7, f8, _⟩ := h
  exact q_60v_2 (n0 := ρ 2) (n1 := ρ 0) (n2 := ρ 1) (n3 := ρ 3) (n4 := ρ 4) (H0 := η 0) (H1 := η 1) (H2 := η 2) f8 f7 f6 f5 f4 f3 f2 f1 f0
def p_60v_s : List vG := [([(20, [3, 0], [0], 0), (0, [3], [], 31), (6000, [0, 1, 2], [0], 0), (0, [0], [], 30), (90, [2], [], -2147483648), (91, [2], [], 2147483647)], (2125, [3, 1, 2], [0], 0)),
  ([(1125, [3, 1, 2], [0, 1], 0), (20, [3, 0], [0], 0), (0, [3], [], 31), (6000, [0, 1, 2], [0], 0), (0, [0], [], 30), (90, [2], [], -2147483648), (91, [2], [], 2147483647)], (2061, [0], [1], 0)),
  ([(0, [4], [], 0), (1061, [0], [1, 2], 0), (1125, [3, 1, 2], [0, 1], 0), (20, [3, 0], [0], 0), (0, [3], [], 31), (6000, [0, 1, 2], [0], 0), (0, [0], [], 30), (90, [2], [], -2147483648), (91, [2], [], 2147483647)], (4000, [0, 1, 2, 4], [2], 15))]
theorem r_60v_s : vCovO false (eR0 e_60v L_60v cs_60v 2000) p_60v_s = true := by decide +kernel
theorem q_60v_3 {q0 : Nat} {n0 n1 n2 n3 n4 n5 n6 n7 : Int} {H0 H1 : gH} (f0 : n0 ≤ 2147483647) (f1 : (-2147483648) ≤ n0) (f2 : n1 ≤ 2147483647) (f3 : (-2147483648) ≤ n1) (f4 : n2 = 30) (f5 : n3 ≤ 2147483647) (f6 : (-2147483648) ≤ n3) (f7 : n4 = 30) (f8 : (hLe T0 H0 H1 ∧ hFr s_60v.2.2.2.2 H0 H1 ∧ hWt T0 H1) ∧ (Ab_60v_15 n4 n5 n3 n2 n6 n1 n0 H0 H1 ∧ preb_60v n4 n5 n3 H0) ∧ some q0 = some (mub_60v_15 n4 n5 n3 n2 n6 n1 n0 H0 H1)) (f9 : n7 = 6) (f10 : n7 < n0) : Ab_60v_55 n4 n5 n3 n2 n6 n1 n0 H0 H1 ∧ ∀ q, some q0 = some q → mub_60v_55 n4 n5 n3 n2 n6 n1 n0 H0 H1 < q := by
  have pz := f8.2.1.2
  unfold preb_60v at pz
  have ga := f8.2.1.1
  unfold Ab_60v_15 at ga
  obtain ⟨kz, bz, cz, dz, vz, wz, x30, x37, x13, ir, yb, yt⟩ := ga
  have wk : wOK (pTx (hV H0 8) n3) := by
    rw [← vz]
    exact vwC_ok H1
  have ns : ¬ (pTx (hV H0 8) n3).1 (absC H1).1 = 16 := by
    exact vneg wk (absC_neg kz (fun w => by have := x13 w; have := bz.2.2.1; omega)) (by decide)
  have g5 := Option.some.inj f8.2.2
  unfold mub_60v_15 at g5
  unfold Ab_60v_55 mub_60v_55
  refine ⟨⟨kz, bz, cz, dz, vz, wz, ir, ?_, fun hf => ?_⟩, fun q hq => ?_⟩
  · rw [← yb, pBlocks_stop ns]
  · rw [← yt hf, pTable_stop ns]
  · have g6 := Option.some.inj hq
    subst g6
    first
    | omega
    | lia
theorem c_60v_15_0 {q0 : Nat} : vOkm T0 (eP e_60v L_60v A_60v mu_60v (some q0)) 3 ([(44, [6, 7], [], 0), (0, [7], [], 6), (5000, [0, 1, 2, 3, 4, 5, 6], [0, 1], 15), (0, [0], [], 30), (90, [2], [], -2147483648), (91, [2], [], 2147483647), (0, [3], [], 30), (90, [5], [], -2147483648), (91, [5], [], 2147483647), (90, [6], [], -2147483648), (91, [6], [], 2147483647)], (4000, [3, 4, 5, 6], [1], 55)) := vOk_in fun ρ η h => by
  obtain ⟨f0, f1, f2, f3, f4, f5, f6, f7, f8, f9, f10, _⟩ := h
  exact q_60v_3 (q0 := q0) (n0 := ρ 6) (n1 := ρ 5) (n2 := ρ 3) (n3 := ρ 2) (n4 := ρ 0) (n5 := ρ 1) (n6 := ρ 4) (n7 := ρ 7) (H0 := η 0) (H1 := η 1) f10 f9 f8 f7 f6 f5 f4 f3 f2 f1 f0
theorem q_60v_4 {q0 : Nat} {n0 n1 n2 n3 n4 n5 n6 n7 n8 : Int} {H0 H1 : gH} (f0 : n0 ≤ 2147483647) (f1 : (-2147483648) ≤ n0) (f2 : n1 ≤ 2147483647) (f3 : (-2147483648) ≤ n1) (f4 : n2 = 30) (f5 : n3 ≤ 2147483647) (f6 : (-2147483648) ≤ n3) (f7 : n4 = 30) (f8 : (hLe T0 H0 H1 ∧ hFr s_60v.2.2.2.2 H0 H1 ∧ hWt T0 H1) ∧ (Ab_60v_15 n4 n5 n3 n2 n6 n1 n0 H0 H1 ∧ preb_60v n4 n5 n3 H0) ∧ some q0 = some (mub_60v_15 n4 n5 n3 n2 n6 n1 n0 H0 H1)) (f9 : n7 = 6) (f10 : n0 ≤ n7) (f11 : n8 ≤ 2147483647) (f12 : (-2147483648) ≤ n8) (f13 : n8 = hV H1 (n2).toNat 3) (f14 : n8 ≠ 0) : Ab_60v_55 n4 n5 n3 n2 n6 n1 n0 H0 H1 ∧ ∀ q, some q0 = some q → mub_60v_55 n4 n5 n3 n2 n6 n1 n0 H0 H1 < q := by
  have pz := f8.2.1.2
  unfold preb_60v at pz
  have ga := f8.2.1.1
  unfold Ab_60v_15 at ga
  obtain ⟨kz, bz, cz, dz, vz, wz, x30, x37, x13, ir, yb, yt⟩ := ga
  have wk : wOK (pTx (hV H0 8) n3) := by
    rw [← vz]
    exact vwC_ok H1
  have r3 := f13
  rw [f4] at r3
  rw [show ((30 : Int)).toNat = 30 from rfl] at r3
  have ns : ¬ (pTx (hV H0 8) n3).1 (absC H1).1 = 16 := by
    exact vneg wk (absC_neg kz (by omega)) (by decide)
  have g5 := Option.some.inj f8.2.2
  unfold mub_60v_15 at g5
  unfold Ab_60v_55 mub_60v_55
  refine ⟨⟨kz, bz, cz, dz, vz, wz, ir, ?_, fun hf => ?_⟩, fun q hq => ?_⟩
  · rw [← yb, pBlocks_stop ns]
  · rw [← yt hf, pTable_stop ns]
  · have g6 := Option.some.inj hq
    subst g6
    first
    | omega
    | lia
theorem c_60v_15_1 {q0 : Nat} : vOkm T0 (eP e_60v L_60v A_60v mu_60v (some q0)) 3 ([(31, [8], [], 0), (20, [8, 3], [1], 3), (90, [8], [], -2147483648), (91, [8], [], 2147483647), (45, [6, 7], [], 0), (0, [7], [], 6), (5000, [0, 1, 2, 3, 4, 5, 6], [0, 1], 15), (0, [0], [], 30), (90, [2], [], -2147483648), (91, [2], [], 2147483647), (0, [3], [], 30), (90, [5], [], -2147483648), (91, [5], [], 2147483647), (90, [6], [], -2147483648), (91, [6], [], 2147483647)], (4000, [3, 4, 5, 6], [1], 55)) := vOk_in fun ρ η h => by
  obtain ⟨f0, f1, f2, f3, f4, f5, f6, f7, f8, f9, f10, f11, f12, f13, f14, _⟩ := h
  exact q_60v_4 (q0 := q0) (n0 := ρ 6) (n1 := ρ 5) (n2 := ρ 3) (n3 := ρ 2) (n4 := ρ 0) (n5 := ρ 1) (n6 := ρ 4) (n7 := ρ 7) (n8 := ρ 8) (H0 := η 0) (H1 := η 1) f14 f13 f12 f11 f10 f9 f8 f7 f6 f5 f4 f3 f2 f1 f0
theorem q_60v_5 {q0 : Nat} {n0 n1 n2 n3 n4 n5 n6 n7 n8 n9 n10 : Int} {H0 H1 : gH} (f0 : n0 ≤ 2147483647) (f1 : (-2147483648) ≤ n0) (f2 : n1 ≤ 2147483647) (f3 : (-2147483648) ≤ n1) (f4 : n2 = 30) (f5 : n3 ≤ 2147483647) (f6 : (-2147483648) ≤ n3) (f7 : n4 = 30) (f8 : (hLe T0 H0 H1 ∧ hFr s_60v.2.2.2.2 H0 H1 ∧ hWt T0 H1) ∧ (Ab_60v_15 n4 n5 n3 n2 n6 n1 n0 H0 H1 ∧ preb_60v n4 n5 n3 H0) ∧ some q0 = some (mub_60v_15 n4 n5 n3 n2 n6 n1 n0 H0 H1)) (f9 : n7 = 6) (f10 : n0 ≤ n7) (f11 : n8 ≤ 2147483647) (f12 : (-2147483648) ≤ n8) (f13 : n8 = hV H1 (n2).toNat 3) (f14 : n8 = 0) (f15 : n9 ≤ 2147483647) (f16 : (-2147483648) ≤ n9) (f17 : n9 = hV H1 (n2).toNat 2) (f18 : n10 = 16) (f19 : n9 ≠ n10) : Ab_60v_55 n4 n5 n3 n2 n6 n1 n0 H0 H1 ∧ ∀ q, some q0 = some q → mub_60v_55 n4 n5 n3 n2 n6 n1 n0 H0 H1 < q := by
  have pz := f8.2.1.2
  unfold preb_60v at pz
  have ga := f8.2.1.1
  unfold Ab_60v_15 at ga
  obtain ⟨kz, bz, cz, dz, vz, wz, x30, x37, x13, ir, yb, yt⟩ := ga
  have wk : wOK (pTx (hV H0 8) n3) := by
    rw [← vz]
    exact vwC_ok H1
  have r3 := f13
  rw [f4] at r3
  rw [show ((30 : Int)).toNat = 30 from rfl] at r3
  have r2 := f17
  rw [f4] at r2
  rw [show ((30 : Int)).toNat = 30 from rfl] at r2
  have ns : ¬ (pTx (hV H0 8) n3).1 (absC H1).1 = 16 := by
    have kd := kd_at kz
    rw [vz] at kd
    rcases kd with q | q
    · exact vneg wk q (by decide)
    · rw [q]
      omega
  have g5 := Option.some.inj f8.2.2
  unfold mub_60v_15 at g5
  unfold Ab_60v_55 mub_60v_55
  refine ⟨⟨kz, bz, cz, dz, vz, wz, ir, ?_, fun hf => ?_⟩, fun q hq => ?_⟩
  · rw [← yb, pBlocks_stop ns]
  · rw [← yt hf, pTable_stop ns]
  · have g6 := Option.some.inj hq
    subst g6
    first
    | omega
    | lia
theorem c_60v_15_2 {q0 : Nat} : vOkm T0 (eP e_60v L_60v A_60v mu_60v (some q0)) 3 ([(41, [9, 10], [], 0), (0, [10], [], 16), (20, [9, 3], [1], 2), (90, [9], [], -2147483648), (91, [9], [], 2147483647), (30, [8], [], 0), (20, [8, 3], [1], 3), (90, [8], [], -2147483648), (91, [8], [], 2147483647), (45, [6, 7], [], 0), (0, [7], [], 6), (5000, [0, 1, 2, 3, 4, 5, 6], [0, 1], 15), (0, [0], [], 30), (90, [2], [], -2147483648), (91, [2], [], 2147483647), (0, [3], [], 30), (90, [5], [], -2147483648), (91, [5], [], 2147483647), (90, [6], [], -2147483648), (91, [6], [], 2147483647)], (4000, [3, 4, 5, 6], [1], 55)) := vOk_in fun ρ η h => by
  obtain ⟨f0, f1, f2, f3, f4, f5, f6, f7, f8, f9, f10, f11, f12, f13, f14, f15, f16, f17, f18, f19, _⟩ := h
  exact q_60v_5 (q0 := q0) (n0 := ρ 6) (n1 := ρ 5) (n2 := ρ 3) (n3 := ρ 2) (n4 := ρ 0) (n5 := ρ 1) (n6 := ρ 4) (n7 := ρ 7) (n8 := ρ 8) (n9 := ρ 9) (n10 := ρ 10) (H0 := η 0) (H1 := η 1) f19 f18 f17 f16 f15 f14 f13 f12 f11 f10 f9 f8 f7 f6 f5 f4 f3 f2 f1 f0
theorem q_60v_6 {q0 : Nat} {n0 n1 n2 n3 n4 n5 n6 n7 n8 n9 n10 : Int} {H0 H1 : gH} (f0 : n0 ≤ 2147483647) (f1 : (-2147483648) ≤ n0) (f2 : n1 ≤ 2147483647) (f3 : (-2147483648) ≤ n1) (f4 : n2 = 30) (f5 : n3 ≤ 2147483647) (f6 : (-2147483648) ≤ n3) (f7 : n4 = 30) (f8 : (hLe T0 H0 H1 ∧ hFr s_60v.2.2.2.2 H0 H1 ∧ hWt T0 H1) ∧ (Ab_60v_15 n4 n5 n3 n2 n6 n1 n0 H0 H1 ∧ preb_60v n4 n5 n3 H0) ∧ some q0 = some (mub_60v_15 n4 n5 n3 n2 n6 n1 n0 H0 H1)) (f9 : n7 = 6) (f10 : n0 ≤ n7) (f11 : n8 ≤ 2147483647) (f12 : (-2147483648) ≤ n8) (f13 : n8 = hV H1 (n2).toNat 3) (f14 : n8 = 0) (f15 : n9 ≤ 2147483647) (f16 : (-2147483648) ≤ n9) (f17 : n9 = hV H1 (n2).toNat 2) (f18 : n10 = 16) (f19 : n9 = n10) : preb_68v n2 H1 := by
  have pz := f8.2.1.2
  unfold preb_60v at pz
  have ga := f8.2.1.1
  unfold Ab_60v_15 at ga
  obtain ⟨kz, bz, cz, dz, vz, wz, x30, x37, x13, ir, yb, yt⟩ := ga
  have wk : wOK (pTx (hV H0 8) n3) := by
    rw [← vz]
    exact vwC_ok H1
  have r3 := f13
  rw [f4] at r3
  rw [show ((30 : Int)).toNat = 30 from rfl] at r3
  have r2 := f17
  rw [f4] at r2
  rw [show ((30 : Int)).toNat = 30 from rfl] at r2
  unfold preb_68v
  exact ⟨kz, bz⟩
theorem c_60v_15_3 {q0 : Nat} : vOkm T0 (eP e_60v L_60v A_60v mu_60v (some q0)) 3 ([(40, [9, 10], [], 0), (0, [10], [], 16), (20, [9, 3], [1], 2), (90, [9], [], -2147483648), (91, [9], [], 2147483647), (30, [8], [], 0), (20, [8, 3], [1], 3), (90, [8], [], -2147483648), (91, [8], [], 2147483647), (45, [6, 7], [], 0), (0, [7], [], 6), (5000, [0, 1, 2, 3, 4, 5, 6], [0, 1], 15), (0, [0], [], 30), (90, [2], [], -2147483648), (91, [2], [], 2147483647), (0, [3], [], 30), (90, [5], [], -2147483648), (91, [5], [], 2147483647), (90, [6], [], -2147483648), (91, [6], [], 2147483647)], (2068, [3], [1], 0)) := vOk_in fun ρ η h => by
  obtain ⟨f0, f1, f2, f3, f4, f5, f6, f7, f8, f9, f10, f11, f12, f13, f14, f15, f16, f17, f18, f19, _⟩ := h
  exact q_60v_6 (q0 := q0) (n0 := ρ 6) (n1 := ρ 5) (n2 := ρ 3) (n3 := ρ 2) (n4 := ρ 0) (n5 := ρ 1) (n6 := ρ 4) (n7 := ρ 7) (n8 := ρ 8) (n9 := ρ 9) (n10 := ρ 10) (H0 := η 0) (H1 := η 1) f19 f18 f17 f16 f15 f14 f13 f12 f11 f10 f9 f8 f7 f6 f5 f4 f3 f2 f1 f0
theorem q_60v_7 {q0 : Nat} {n0 n1 n2 n3 n4 n5 n6 n7 n8 n9 n10 : Int} {H0 H1 H2 : gH} (f0 : n0 ≤ 2147483647) (f1 : (-2147483648) ≤ n0) (f2 : n1 ≤ 2147483647) (f3 : (-2147483648) ≤ n1) (f4 : n2 = 30) (f5 : n3 ≤ 2147483647) (f6 : (-2147483648) ≤ n3) (f7 : n4 = 30) (f8 : (hLe T0 H0 H1 ∧ hFr s_60v.2.2.2.2 H0 H1 ∧ hWt T0 H1) ∧ (Ab_60v_15 n4 n5 n3 n2 n6 n1 n0 H0 H1 ∧ preb_60v n4 n5 n3 H0) ∧ some q0 = some (mub_60v_15 n4 n5 n3 n2 n6 n1 n0 H0 H1)) (f9 : n7 = 6) (f10 : n0 ≤ n7) (f11 : n8 ≤ 2147483647) (f12 : (-2147483648) ≤ n8) (f13 : n8 = hV H1 (n2).toNat 3) (f14 : n8 = 0) (f15 : n9 ≤ 2147483647) (f16 : (-2147483648) ≤ n9) (f17 : n9 = hV H1 (n2).toNat 2) (f18 : n10 = 16) (f19 : n9 = n10) (f20 : (hLe T0 H1 H2 ∧ hFr s_68v.2.2.2.2 H1 H2 ∧ ((0 : Int) = 0 → H2.length = H1.length) ∧ hWt T0 H2) ∧ postb_68v n2 H1 H2) : preb_72v n2 H2 := by
  have pz := f8.2.1.2
  unfold preb_60v at pz
  have ga := f8.2.1.1
  unfold Ab_60v_15 at ga
  obtain ⟨kz, bz, cz, dz, vz, wz, x30, x37, x13, ir, yb, yt⟩ := ga
  have wk : wOK (pTx (hV H0 8) n3) := by
    rw [← vz]
    exact vwC_ok H1
  have r3 := f13
  rw [f4] at r3
  rw [show ((30 : Int)).toNat = 30 from rfl] at r3
  have r2 := f17
  rw [f4] at r2
  rw [show ((30 : Int)).toNat = 30 from rfl] at r2
  have pb := f20.2
  unfold postb_68v at pb
  obtain ⟨b1, b2, b3, b4, b5, b6, b7⟩ := pb
  rw [vz] at b6 b7
  have cu2 := CU_fr f20.1.1 f20.1.2.1 (by decide +kernel) cz
  have v2 : vwC H2 = (pTx (hV H0 8) n3) := (vwC_fr f20.1.2.1 (by decide +kernel)).trans vz
  unfold preb_72v
  exact ⟨b1, b2, cu2⟩
theorem c_60v_15_4 {q0 : Nat} : vOkm T0 (eP e_60v L_60v A_60v mu_60v (some q0)) 3 ([(1068, [3], [1, 2], 0), (40, [9, 10], [], 0), (0, [10], [], 16), (20, [9, 3], [1], 2), (90, [9], [], -2147483648), (91, [9], [], 2147483647), (30, [8], [], 0), (20, [8, 3], [1], 3), (90, [8], [], -2147483648), (91, [8], [], 2147483647), (45, [6, 7], [], 0), (0, [7], [], 6), (5000, [0, 1, 2, 3, 4, 5, 6], [0, 1], 15), (0, [0], [], 30), (90, [2], [], -2147483648), (91, [2], [], 2147483647), (0, [3], [], 30), (90, [5], [], -2147483648), (91, [5], [], 2147483647), (90, [6], [], -2147483648), (91, [6], [], 2147483647)], (2072, [3], [2], 0)) := vOk_in fun ρ η h => by
  obtain ⟨f0, f1, f2, f3, f4, f5, f6, f7, f8, f9, f10, f11, f12, f13, f14, f15, f16, f17, f18, f19, f20, _⟩ := h
  exact q_60v_7 (q0 := q0) (n0 := ρ 6) (n1 := ρ 5) (n2 := ρ 3) (n3 := ρ 2) (n4 := ρ 0) (n5 := ρ 1) (n6 := ρ 4) (n7 := ρ 7) (n8 := ρ 8) (n9 := ρ 9) (n10 := ρ 10) (H0 := η 0) (H1 := η 1) (H2 := η 2) f20 f19 f18 f17 f16 f15 f14 f13 f12 f11 f10 f9 f8 f7 f6 f5 f4 f3 f2 f1 f0
theorem q_60v_8 {q0 : Nat} {n0 n1 n2 n3 n4 n5 n6 n7 n8 n9 n10 : Int} {H0 H1 H2 H3 : gH} (f0 : n0 ≤ 2147483647) (f1 : (-2147483648) ≤ n0) (f2 : n1 ≤ 2147483647) (f3 : (-2147483648) ≤ n1) (f4 : n2 = 30) (f5 : n3 ≤ 2147483647) (f6 : (-2147483648) ≤ n3) (f7 : n4 = 30) (f8 : (hLe T0 H0 H1 ∧ hFr s_60v.2.2.2.2 H0 H1 ∧ hWt T0 H1) ∧ (Ab_60v_15 n4 n5 n3 n2 n6 n1 n0 H0 H1 ∧ preb_60v n4 n5 n3 H0) ∧ some q0 = some (mub_60v_15 n4 n5 n3 n2 n6 n1 n0 H0 H1)) (f9 : n7 = 6) (f10 : n0 ≤ n7) (f11 : n8 ≤ 2147483647) (f12 : (-2147483648) ≤ n8) (f13 : n8 = hV H1 (n2).toNat 3) (f14 : n8 = 0) (f15 : n9 ≤ 2147483647) (f16 : (-2147483648) ≤ n9) (f17 : n9 = hV H1 (n2).toNat 2) (f18 : n10 = 16) (f19 : n9 = n10) (f20 : (hLe T0 H1 H2 ∧ hFr s_68v.2.2.2.2 H1 H2 ∧ ((0 : Int) = 0 → H2.length = H1.length) ∧ hWt T0 H2) ∧ postb_68v n2 H1 H2) (f21 : (hLe T0 H2 H3 ∧ hFr s_72v.2.2.2.2 H2 H3 ∧ ((0 : Int) = 0 → H3.length = H2.length) ∧ hWt T0 H3) ∧ postb_72v n2 H2 H3) : preb_69v n2 H3 := by
  have pz := f8.2.1.2
  unfold preb_60v at pz
  have ga := f8.2.1.1
  unfold Ab_60v_15 at ga
  obtain ⟨kz, bz, cz, dz, vz, wz, x30, x37, x13, ir, yb, yt⟩ := ga
  have wk : wOK (pTx (hV H0 8) n3) := by
    rw [← vz]
    exact vwC_ok H1
  have r3 := f13
  rw [f4] at r3
  rw [show ((30 : Int)).toNat = 30 from rfl] at r3
  have r2 := f17
  rw [f4] at r2
  rw [show ((30 : Int)).toNat = 30 from rfl] at r2
  have pb := f20.2
  unfold postb_68v at pb
  obtain ⟨b1, b2, b3, b4, b5, b6, b7⟩ := pb
  rw [vz] at b6 b7
  have cu2 := CU_fr f20.1.1 f20.1.2.1 (by decide +kernel) cz
  have v2 : vwC H2 = (pTx (hV H0 8) n3) := (vwC_fr f20.1.2.1 (by decide +kernel)).trans vz
  have pc := f21.2
  unfold postb_72v at pc
  obtain ⟨c1, c2, c3, c4, c5, c6, c7, c8⟩ := pc
  rw [v2, b3] at c7 c8
  have v3 : vwC H3 = (pTx (hV H0 8) n3) := (vwC_fr f21.1.2.1 (by decide +kernel)).trans v2
  have up : hV H3 30 3 = 0 → hV H2 30 3 = 0 := fun hf => by
    have q := (absC_pos c1 hf).2
    rw [c7] at q
    refine fault_no b1 ?_
    rcases Int.lt_or_le (absC H2).1 0 with w | w
    · rw [pCues_neg wk w] at q
      omega
    · exact w
  have h6 : hV H2 30 3 = 0 → hV H1 30 13 < 6 := fun hf => by
    rcases Int.lt_or_le (hV H1 30 13) 6 with w | w
    · exact w
    · have q := (absC_pos b1 hf).2
      rw [b7 w] at q
      have n := pfail_lt kz (f := 2) (by decide) (p := absC H1)
      rw [vz] at n
      omega
  unfold preb_69v
  refine ⟨c1, c2, fun hf => ?_⟩
  have f2 := up hf
  have w6 := h6 f2
  have nm := ((b6 w6).2 f2).1
  have ct := c8 hf
  rw [c4, b4, c6]
  rw [b4] at ct
  exact ⟨w6, nm, ct.1, ct.2.1⟩
theorem c_60v_15_5 {q0 : Nat} : vOkm T0 (eP e_60v L_60v A_60v mu_60v (some q0)) 3 ([(1072, [3], [2, 3], 0), (1068, [3], [1, 2], 0), (40, [9, 10], [], 0), (0, [10], [], 16), (20, [9, 3], [1], 2), (90, [9], [], -2147483648), (91, [9], [], 2147483647), (30, [8], [], 0), (20, [8, 3], [1], 3), (90, [8], [], -2147483648), (91, [8], [], 2147483647), (45, [6, 7], [], 0), (0, [7], [], 6), (5000, [0, 1, 2, 3, 4, 5, 6], [0, 1], 15), (0, [0], [], 30), (90, [2], [], -2147483648), (91, [2], [], 2147483647), (0, [3], [], 30), (90, [5], [], -2147483648), (91, [5], [], 2147483647), (90, [6], [], -2147483648), (91, [6], [], 2147483647)], (2069, [3], [3], 0)) := vOk_in fun ρ η h => by
  obtain ⟨f0, f1, f2, f3, f4, f5, f6, f7, f8, f9, f10, f11, f12, f13, f14, f15, f16, f17, f18, f19, f20, f21, _⟩ := h
  exact q_60v_8 (q0 := q0) (n0 := ρ 6) (n1 := ρ 5) (n2 := ρ 3) (n3 := ρ 2) (n4 := ρ 0) (n5 := ρ 1) (n6 := ρ 4) (n7 := ρ 7) (n8 := ρ 8) (n9 := ρ 9) (n10 := ρ 10) (H0 := η 0) (H1 := η 1) (H2 := η 2) (H3 := η 3) f21 f20 f19 f18 f17 f16 f15 f14 f13 f12 f11 f10 f9 f8 f7 f6 f5 f4 f3 f2 f1 f0
theorem q_60v_9 {q0 : Nat} {n0 n1 n2 n3 n4 n5 n6 n7 n8 n9 n10 n11 : Int} {H0 H1 H2 H3 H4 : gH} (f0 : n0 ≤ 2147483647) (f1 : (-2147483648) ≤ n0) (f2 : n1 ≤ 2147483647) (f3 : (-2147483648) ≤ n1) (f4 : n2 = 30) (f5 : n3 ≤ 2147483647) (f6 : (-2147483648) ≤ n3) (f7 : n4 = 30) (f8 : (hLe T0 H0 H1 ∧ hFr s_60v.2.2.2.2 H0 H1 ∧ hWt T0 H1) ∧ (Ab_60v_15 n4 n5 n3 n2 n6 n1 n0 H0 H1 ∧ preb_60v n4 n5 n3 H0) ∧ some q0 = some (mub_60v_15 n4 n5 n3 n2 n6 n1 n0 H0 H1)) (f9 : n7 = 6) (f10 : n0 ≤ n7) (f11 : n8 ≤ 2147483647) (f12 : (-2147483648) ≤ n8) (f13 : n8 = hV H1 (n2).toNat 3) (f14 : n8 = 0) (f15 : n9 ≤ 2147483647) (f16 : (-2147483648) ≤ n9) (f17 : n9 = hV H1 (n2).toNat 2) (f18 : n10 = 16) (f19 : n9 = n10) (f20 : (hLe T0 H1 H2 ∧ hFr s_68v.2.2.2.2 H1 H2 ∧ ((0 : Int) = 0 → H2.length = H1.length) ∧ hWt T0 H2) ∧ postb_68v n2 H1 H2) (f21 : (hLe T0 H2 H3 ∧ hFr s_72v.2.2.2.2 H2 H3 ∧ ((0 : Int) = 0 → H3.length = H2.length) ∧ hWt T0 H3) ∧ postb_72v n2 H2 H3) (f22 : (hLe T0 H3 H4 ∧ hFr s_69v.2.2.2.2 H3 H4 ∧ ((0 : Int) = 0 → H4.length = H3.length) ∧ hWt T0 H4) ∧ postb_69v n2 H3 H4) (f23 : n11 = w32 (n0 + 1)) : Ab_60v_15 n4 n5 n3 n2 n6 n1 n11 H0 H4 ∧ ∀ q, some q0 = some q → mub_60v_15 n4 n5 n3 n2 n6 n1 n11 H0 H4 < q := by
  have pz := f8.2.1.2
  unfold preb_60v at pz
  have ga := f8.2.1.1
  unfold Ab_60v_15 at ga
  obtain ⟨kz, bz, cz, dz, vz, wz, x30, x37, x13, ir, yb, yt⟩ := ga
  have wk : wOK (pTx (hV H0 8) n3) := by
    rw [← vz]
    exact vwC_ok H1
  have r3 := f13
  rw [f4] at r3
  rw [show ((30 : Int)).toNat = 30 from rfl] at r3
  have r2 := f17
  rw [f4] at r2
  rw [show ((30 : Int)).toNat = 30 from rfl] at r2
  have pb := f20.2
  unfold postb_68v at pb
  obtain ⟨b1, b2, b3, b4, b5, b6, b7⟩ := pb
  rw [vz] at b6 b7
  have cu2 := CU_fr f20.1.1 f20.1.2.1 (by decide +kernel) cz
  have v2 : vwC H2 = (pTx (hV H0 8) n3) := (vwC_fr f20.1.2.1 (by decide +kernel)).trans vz
  have pc := f21.2
  unfold postb_72v at pc
  obtain ⟨c1, c2, c3, c4, c5, c6, c7, c8⟩ := pc
  rw [v2, b3] at c7 c8
  have v3 : vwC H3 = (pTx (hV H0 8) n3) := (vwC_fr f21.1.2.1 (by decide +kernel)).trans v2
  have up : hV H3 30 3 = 0 → hV H2 30 3 = 0 := fun hf => by
    have q := (absC_pos c1 hf).2
    rw [c7] at q
    refine fault_no b1 ?_
    rcases Int.lt_or_le (absC H2).1 0 with w | w
    · rw [pCues_neg wk w] at q
      omega
    · exact w
  have h6 : hV H2 30 3 = 0 → hV H1 30 13 < 6 := fun hf => by
    rcases Int.lt_or_le (hV H1 30 13) 6 with w | w
    · exact w
    · have q := (absC_pos b1 hf).2
      rw [b7 w] at q
      have n := pfail_lt kz (f := 2) (by decide) (p := absC H1)
      rw [vz] at n
      omega
  have pe := f22.2
  unfold postb_69v at pe
  obtain ⟨e1, e2, e3, e4, e5, e6, e7⟩ := pe
  rw [v3] at e2
  have cu4 := CU_fr f22.1.1 f22.1.2.1 (by decide +kernel) c5
  have dr4 := (DR_fr f22.1.1 f22.1.2.1 (by decide +kernel) (DR_fr f21.1.1 f21.1.2.1 (by decide +kernel) (DR_fr f20.1.1 f20.1.2.1 (by decide +kernel) dz).1).1).1
  have v4 : vwC H4 = (pTx (hV H0 8) n3) := (vwC_fr f22.1.2.1 (by decide +kernel)).trans v3
  have wz4 := WDS_fr f22.1.1 f22.1.2.1 (by decide +kernel) (WDS_fr f21.1.1 f21.1.2.1 (by decide +kernel) (WDS_fr f20.1.1 f20.1.2.1 (by decide +kernel) wz))
  have e7s : hV H4 30 7 = hV H1 30 7 := (f22.1.2.1.1 30 7 (by decide +kernel)).trans ((f21.1.2.1.1 30 7 (by decide +kernel)).trans (f20.1.2.1.1 30 7 (by decide +kernel)))
  have wq23 := f23
  unfold w32 at wq23
  have hk : (pTx (hV H0 8) n3).1 (absC H1).1 = 16 := by
    have u := (kd_at kz).resolve_left (by have := absC_pos kz (by omega); omega)
    rw [vz] at u
    rw [u]
    omega
  have xx := x13 (by omega)
  have up4 : hV H4 30 3 = 0 → hV H3 30 3 = 0 := fun hf => by
    have q := (absC_pos e1 hf).2
    rw [e2, ← v3] at q
    exact fault_no c1 (ptk_mono c1.2.1 q).1
  have en : ¬ hV H4 30 3 = 0 → (absC H4).1 < 0 := fun hf => absC_neg e1 hf
  have lo : hV H1 30 13 < 6 → absC H4 = pBlock (pTx (hV H0 8) n3) (BLc H1) (absC H1) := fun w => by
    rw [e2, c7, (b6 w).1]
    rfl
  have ta : hV H4 30 3 = 0 → BLc H4 = BLc H1 ++ [pBsz (pTx (hV H0 8) n3) (BLc H1) (absC H1)] := fun hf => by
    have f3 := up4 hf
    have f2 := up f3
    have w6 := h6 f2
    have nm := ((b6 w6).2 f2).2
    have ct := (c8 f3).2.2
    rw [(b6 w6).1, b4] at ct
    rw [(e4 hf).2, c3, b3, c4, b4, c6, nm, ct]
    rfl
  have g5 := Option.some.inj f8.2.2
  unfold mub_60v_15 at g5
  unfold Ab_60v_15 mub_60v_15
  refine ⟨⟨e1, e3, cu4, dr4, v4, wz4, by omega, by omega, fun hf => by have w := (e4 hf).1; rw [c4, b4] at w; omega, ?_, ?_, fun hf => ?_⟩, fun q hq => ?_⟩
  · rw [e7s]
    exact ir
  · rw [← yb]
    by_cases w6 : hV H1 30 13 < 6
    · rw [show 6 - (n0).toNat = (6 - (n11).toNat) + 1 by omega]
      show _ = (if (pTx (hV H0 8) n3).1 (absC H1).1 = 16 then pBlocks (pTx (hV H0 8) n3) _ (pBlock (pTx (hV H0 8) n3) (BLc H1) (absC H1)) (BLc H1 ++ [pBsz (pTx (hV H0 8) n3) (BLc H1) (absC H1)]) else _)
      rw [if_pos hk, ← lo w6]
      by_cases hf : hV H4 30 3 = 0
      · rw [ta hf]
      · rw [pBlocks_stop (vneg wk (en hf) (by decide)), pBlocks_stop (vneg wk (en hf) (by decide))]
    · have n := pfail_lt kz (f := 2) (by decide) (p := absC H1)
      rw [vz] at n
      have a4 : absC H4 = pfail (pTx (hV H0 8) n3) 2 (absC H1) := by rw [e2, c7, b7 (by omega), pCues_neg wk n, ptk_neg n pfail_ok]
      rw [a4, pBlocks_stop (vneg wk n (by decide)), show (n0).toNat = 6 by omega]
      exact (if_pos hk).symm
  · have w6 := h6 (up (up4 hf))
    rw [← yt (by omega), show 6 - (n0).toNat = (6 - (n11).toNat) + 1 by omega, ta hf, lo w6]
    exact (if_pos hk).symm
  · have g6 := Option.some.inj hq
    subst g6
    first
    | omega
    | lia
theorem c_60v_15_6 {q0 : Nat} : vOkm T0 (eP e_60v L_60v A_60v mu_60v (some q0)) 3 ([(10, [11, 6], [], 1), (1069, [3], [3, 4], 0), (1072, [3], [2, 3], 0), (1068, [3], [1, 2], 0), (40, [9, 10], [], 0), (0, [10], [], 16), (20, [9, 3], [1], 2), (90, [9], [], -2147483648), (91, [9], [], 2147483647), (30, [8], [], 0), (20, [8, 3], [1], 3), (90, [8], [], -2147483648), (91, [8], [], 2147483647), (45, [6, 7], [], 0), (0, [7], [], 6), (5000, [0, 1, 2, 3, 4, 5, 6], [0, 1], 15), (0, [0], [], 30), (90, [2], [], -2147483648), (91, [2], [], 2147483647), (0, [3], [], 30), (90, [5], [], -2147483648), (91, [5], [], 2147483647), (90, [6], [], -2147483648), (91, [6], [], 2147483647)], (4000, [3, 4, 5, 11], [4], 15)) := vOk_in fun ρ η h => by
  obtain ⟨f0, f1, f2, f3, f4, f5, f6, f7, f8, f9, f10, f11, f12, f13, f14, f15, f16, f17, f18, f19, f20, f21, f22, f23, _⟩ := h
  exact q_60v_9 (q0 := q0) (n0 := ρ 6) (n1 := ρ 5) (n2 := ρ 3) (n3 := ρ 2) (n4 := ρ 0) (n5 := ρ 1) (n6 := ρ 4) (n7 := ρ 7) (n8 := ρ 8) (n9 := ρ 9) (n10 := ρ 10) (n11 := ρ 11) (H0 := η 0) (H1 := η 1) (H2 := η 2) (H3 := η 3) (H4 := η 4) f23 f22 f21 f20 f19 f18 f17 f16 f15 f14 f13 f12 f11 f10 f9 f8 f7 f6 f5 f4 f3 f2 f1 f0
def p_60v_15 : List vG := [([(44, [6, 7], [], 0), (0, [7], [], 6), (5000, [0, 1, 2, 3, 4, 5, 6], [0, 1], 15), (0, [0], [], 30), (90, [2], [], -2147483648), (91, [2], [], 2147483647), (0, [3], [], 30), (90, [5], [], -2147483648), (91, [5], [], 2147483647), (90, [6], [], -2147483648), (91, [6], [], 2147483647)], (4000, [3, 4, 5, 6], [1], 55)),
  ([(31, [8], [], 0), (20, [8, 3], [1], 3), (90, [8], [], -2147483648), (91, [8], [], 2147483647), (45, [6, 7], [], 0), (0, [7], [], 6), (5000, [0, 1, 2, 3, 4, 5, 6], [0, 1], 15), (0, [0], [], 30), (90, [2], [], -2147483648), (91, [2], [], 2147483647), (0, [3], [], 30), (90, [5], [], -2147483648), (91, [5], [], 2147483647), (90, [6], [], -2147483648), (91, [6], [], 2147483647)], (4000, [3, 4, 5, 6], [1], 55)),
  ([(41, [9, 10], [], 0), (0, [10], [], 16), (20, [9, 3], [1], 2), (90, [9], [], -2147483648), (91, [9], [], 2147483647), (30, [8], [], 0), (20, [8, 3], [1], 3), (90, [8], [], -2147483648), (91, [8], [], 2147483647), (45, [6, 7], [], 0), (0, [7], [], 6), (5000, [0, 1, 2, 3, 4, 5, 6], [0, 1], 15), (0, [0], [], 30), (90, [2], [], -2147483648), (91, [2], [], 2147483647), (0, [3], [], 30), (90, [5], [], -2147483648), (91, [5], [], 2147483647), (90, [6], [], -2147483648), (91, [6], [], 2147483647)], (4000, [3, 4, 5, 6], [1], 55)),
  ([(40, [9, 10], [], 0), (0, [10], [], 16), (20, [9, 3], [1], 2), (90, [9], [], -2147483648), (91, [9], [], 2147483647), (30, [8], [], 0), (20, [8, 3], [1], 3), (90, [8], [], -2147483648), (91, [8], [], 2147483647), (45, [6, 7], [], 0), (0, [7], [], 6), (5000, [0, 1, 2, 3, 4, 5, 6], [0, 1], 15), (0, [0], [], 30), (90, [2], [], -2147483648), (91, [2], [], 2147483647), (0, [3], [], 30), (90, [5], [], -2147483648), (91, [5], [], 2147483647), (90, [6], [], -2147483648), (91, [6], [], 2147483647)], (2068, [3], [1], 0)),
  ([(1068, [3], [1, 2], 0), (40, [9, 10], [], 0), (0, [10], [], 16), (20, [9, 3], [1], 2), (90, [9], [], -2147483648), (91, [9], [], 2147483647), (30, [8], [], 0), (20, [8, 3], [1], 3), (90, [8], [], -2147483648), (91, [8], [], 2147483647), (45, [6, 7], [], 0), (0, [7], [], 6), (5000, [0, 1, 2, 3, 4, 5, 6], [0, 1], 15), (0, [0], [], 30), (90, [2], [], -2147483648), (91, [2], [], 2147483647), (0, [3], [], 30), (90, [5], [], -2147483648), (91, [5], [], 2147483647), (90, [6], [], -2147483648), (91, [6], [], 2147483647)], (2072, [3], [2], 0)),
  ([(1072, [3], [2, 3], 0), (1068, [3], [1, 2], 0), (40, [9, 10], [], 0), (0, [10], [], 16), (20, [9, 3], [1], 2), (90, [9], [], -2147483648), (91, [9], [], 2147483647), (30, [8], [], 0), (20, [8, 3], [1], 3), (90, [8], [], -2147483648), (91, [8], [], 2147483647), (45, [6, 7], [], 0), (0, [7], [], 6), (5000, [0, 1, 2, 3, 4, 5, 6], [0, 1], 15), (0, [0], [], 30), (90, [2], [], -2147483648), (91, [2], [], 2147483647), (0, [3], [], 30), (90, [5], [], -2147483648), (91, [5], [], 2147483647), (90, [6], [], -2147483648), (91, [6], [], 2147483647)], (2069, [3], [3], 0)),
  ([(10, [11, 6], [], 1), (1069, [3], [3, 4], 0), (1072, [3], [2, 3], 0), (1068, [3], [1, 2], 0), (40, [9, 10], [], 0), (0, [10], [], 16), (20, [9, 3], [1], 2), (90, [9], [], -2147483648), (91, [9], [], 2147483647), (30, [8], [], 0), (20, [8, 3], [1], 3), (90, [8], [], -2147483648), (91, [8], [], 2147483647), (45, [6, 7], [], 0), (0, [7], [], 6), (5000, [0, 1, 2, 3, 4, 5, 6], [0, 1], 15), (0, [0], [], 30), (90, [2], [], -2147483648), (91, [2], [], 2147483647), (0, [3], [], 30), (90, [5], [], -2147483648), (91, [5], [], 2147483647), (90, [6], [], -2147483648), (91, [6], [], 2147483647)], (4000, [3, 4, 5, 11], [4], 15))]
theorem r_60v_15 : vCovO false (eRc e_60v L_60v cs_60v 2000 (15, [(0, (3, 4, 30, 0)), (1, (2, 692, -1, 0)), (2, (0, -2147483648, 2147483647, 0)), (3, (0, -2147483648, 2147483647, 0))])) p_60v_15 = true := by decide +kernel
theorem q_60v_10 {q0 : Nat} {n0 n1 n2 n3 n4 n5 n6 n7 n8 n9 : Int} {H0 H1 : gH} (f0 : n0 ≤ 2147483647) (f1 : (-2147483648) ≤ n0) (f2 : n1 ≤ 2147483647) (f3 : (-2147483648) ≤ n1) (f4 : n2 = 30) (f5 : n3 ≤ 2147483647) (f6 : (-2147483648) ≤ n3) (f7 : n4 = 30) (f8 : (hLe T0 H0 H1 ∧ hFr s_60v.2.2.2.2 H0 H1 ∧ hWt T0 H1) ∧ (Ab_60v_55 n4 n5 n3 n2 n6 n1 n0 H0 H1 ∧ preb_60v n4 n5 n3 H0) ∧ some q0 = some (mub_60v_55 n4 n5 n3 n2 n6 n1 n0 H0 H1)) (f9 : n7 ≤ 1) (f10 : 0 ≤ n7) (f11 : n7 = hV H1 (n2).toNat 7) (f12 : n7 = 0) (f13 : n8 ≤ 2147483647) (f14 : (-2147483648) ≤ n8) (f15 : n8 = hV H1 (n2).toNat 1) (f16 : n9 = 18) : preb_66v n2 n9 H1 := by
  have pz := f8.2.1.2
  unfold preb_60v at pz
  have ga := f8.2.1.1
  unfold Ab_60v_55 at ga
  obtain ⟨kz, bz, cz, dz, vz, wz, ir, yb, yt⟩ := ga
  have wk : wOK (pTx (hV H0 8) n3) := by
    rw [← vz]
    exact vwC_ok H1
  have r7 := f11
  rw [f4] at r7
  rw [show ((30 : Int)).toNat = 30 from rfl] at r7
  have r1 := f15
  rw [f4] at r1
  rw [show ((30 : Int)).toNat = 30 from rfl] at r1
  unfold preb_66v
  exact ⟨kz, by omega⟩
theorem c_60v_55_0 {q0 : Nat} : vOkm T0 (eP e_60v L_60v A_60v mu_60v (some q0)) 3 ([(0, [9], [], 18), (20, [8, 3], [1], 1), (90, [8], [], -2147483648), (91, [8], [], 2147483647), (30, [7], [], 0), (20, [7, 3], [1], 7), (90, [7], [], 0), (91, [7], [], 1), (5000, [0, 1, 2, 3, 4, 5, 6], [0, 1], 55), (0, [0], [], 30), (90, [2], [], -2147483648), (91, [2], [], 2147483647), (0, [3], [], 30), (90, [5], [], -2147483648), (91, [5], [], 2147483647), (90, [6], [], -2147483648), (91, [6], [], 2147483647)], (2066, [3, 9], [1], 0)) := vOk_in fun ρ η h => by
  obtain ⟨f0, f1, f2, f3, f4, f5, f6, f7, f8, f9, f10, f11, f12, f13, f14, f15, f16, _⟩ := h
  exact q_60v_10 (q0 := q0) (n0 := ρ 6) (n1 := ρ 5) (n2 := ρ 3) (n3 := ρ 2) (n4 := ρ 0) (n5 := ρ 1) (n6 := ρ 4) (n7 := ρ 7) (n8 := ρ 8) (n9 := ρ 9) (H0 := η 0) (H1 := η 1) f16 f15 f14 f13 f12 f11 f10 f9 f8 f7 f6 f5 f4 f3 f2 f1 f0
theorem q_60v_11 {q0 : Nat} {n0 n1 n2 n3 n4 n5 n6 n7 n8 n9 : Int} {H0 H1 H2 : gH} (f0 : n0 ≤ 2147483647) (f1 : (-2147483648) ≤ n0) (f2 : n1 ≤ 2147483647) (f3 : (-2147483648) ≤ n1) (f4 : n2 = 30) (f5 : n3 ≤ 2147483647) (f6 : (-2147483648) ≤ n3) (f7 : n4 = 30) (f8 : (hLe T0 H0 H1 ∧ hFr s_60v.2.2.2.2 H0 H1 ∧ hWt T0 H1) ∧ (Ab_60v_55 n4 n5 n3 n2 n6 n1 n0 H0 H1 ∧ preb_60v n4 n5 n3 H0) ∧ some q0 = some (mub_60v_55 n4 n5 n3 n2 n6 n1 n0 H0 H1)) (f9 : n7 ≤ 1) (f10 : 0 ≤ n7) (f11 : n7 = hV H1 (n2).toNat 7) (f12 : n7 = 0) (f13 : n8 ≤ 2147483647) (f14 : (-2147483648) ≤ n8) (f15 : n8 = hV H1 (n2).toNat 1) (f16 : n9 = 18) (f17 : (hLe T0 H1 H2 ∧ hFr s_66v.2.2.2.2 H1 H2 ∧ ((0 : Int) = 0 → H2.length = H1.length) ∧ hWt T0 H2) ∧ postb_66v n2 n9 H1 H2) : preb_72v n2 H2 := by
  have pz := f8.2.1.2
  unfold preb_60v at pz
  have ga := f8.2.1.1
  unfold Ab_60v_55 at ga
  obtain ⟨kz, bz, cz, dz, vz, wz, ir, yb, yt⟩ := ga
  have wk : wOK (pTx (hV H0 8) n3) := by
    rw [← vz]
    exact vwC_ok H1
  have r7 := f11
  rw [f4] at r7
  rw [show ((30 : Int)).toNat = 30 from rfl] at r7
  have r1 := f15
  rw [f4] at r1
  rw [show ((30 : Int)).toNat = 30 from rfl] at r1
  have pt := f17.2
  unfold postb_66v at pt
  rw [f16, vz] at pt
  have bt := BI_fr f17.1.1 f17.1.2.1 (by decide +kernel) bz
  have cu2 := CU_fr f17.1.1 f17.1.2.1 (by decide +kernel) cz
  have v2 : vwC H2 = (pTx (hV H0 8) n3) := (vwC_fr f17.1.2.1 (by decide +kernel)).trans vz
  unfold preb_72v
  exact ⟨pt.1, bt.1, cu2⟩
theorem c_60v_55_1 {q0 : Nat} : vOkm T0 (eP e_60v L_60v A_60v mu_60v (some q0)) 3 ([(1066, [3, 9], [1, 2], 0), (0, [9], [], 18), (20, [8, 3], [1], 1), (90, [8], [], -2147483648), (91, [8], [], 2147483647), (30, [7], [], 0), (20, [7, 3], [1], 7), (90, [7], [], 0), (91, [7], [], 1), (5000, [0, 1, 2, 3, 4, 5, 6], [0, 1], 55), (0, [0], [], 30), (90, [2], [], -2147483648), (91, [2], [], 2147483647), (0, [3], [], 30), (90, [5], [], -2147483648), (91, [5], [], 2147483647), (90, [6], [], -2147483648), (91, [6], [], 2147483647)], (2072, [3], [2], 0)) := vOk_in fun ρ η h => by
  obtain ⟨f0, f1, f2, f3, f4, f5, f6, f7, f8, f9, f10, f11, f12, f13, f14, f15, f16, f17, _⟩ := h
  exact q_60v_11 (q0 := q0) (n0 := ρ 6) (n1 := ρ 5) (n2 := ρ 3) (n3 := ρ 2) (n4 := ρ 0) (n5 := ρ 1) (n6 := ρ 4) (n7 := ρ 7) (n8 := ρ 8) (n9 := ρ 9) (H0 := η 0) (H1 := η 1) (H2 := η 2) f17 f16 f15 f14 f13 f12 f11 f10 f9 f8 f7 f6 f5 f4 f3 f2 f1 f0
theorem q_60v_12 {q0 : Nat} {n0 n1 n2 n3 n4 n5 n6 n7 n8 n9 : Int} {H0 H1 H2 H3 : gH} (f0 : n0 ≤ 2147483647) (f1 : (-2147483648) ≤ n0) (f2 : n1 ≤ 2147483647) (f3 : (-2147483648) ≤ n1) (f4 : n2 = 30) (f5 : n3 ≤ 2147483647) (f6 : (-2147483648) ≤ n3) (f7 : n4 = 30) (f8 : (hLe T0 H0 H1 ∧ hFr s_60v.2.2.2.2 H0 H1 ∧ hWt T0 H1) ∧ (Ab_60v_55 n4 n5 n3 n2 n6 n1 n0 H0 H1 ∧ preb_60v n4 n5 n3 H0) ∧ some q0 = some (mub_60v_55 n4 n5 n3 n2 n6 n1 n0 H0 H1)) (f9 : n7 ≤ 1) (f10 : 0 ≤ n7) (f11 : n7 = hV H1 (n2).toNat 7) (f12 : n7 = 0) (f13 : n8 ≤ 2147483647) (f14 : (-2147483648) ≤ n8) (f15 : n8 = hV H1 (n2).toNat 1) (f16 : n9 = 18) (f17 : (hLe T0 H1 H2 ∧ hFr s_66v.2.2.2.2 H1 H2 ∧ ((0 : Int) = 0 → H2.length = H1.length) ∧ hWt T0 H2) ∧ postb_66v n2 n9 H1 H2) (f18 : (hLe T0 H2 H3 ∧ hFr s_72v.2.2.2.2 H2 H3 ∧ ((0 : Int) = 0 → H3.length = H2.length) ∧ hWt T0 H3) ∧ postb_72v n2 H2 H3) : preb_70v n2 n8 H3 := by
  have pz := f8.2.1.2
  unfold preb_60v at pz
  have ga := f8.2.1.1
  unfold Ab_60v_55 at ga
  obtain ⟨kz, bz, cz, dz, vz, wz, ir, yb, yt⟩ := ga
  have wk : wOK (pTx (hV H0 8) n3) := by
    rw [← vz]
    exact vwC_ok H1
  have r7 := f11
  rw [f4] at r7
  rw [show ((30 : Int)).toNat = 30 from rfl] at r7
  have r1 := f15
  rw [f4] at r1
  rw [show ((30 : Int)).toNat = 30 from rfl] at r1
  have pt := f17.2
  unfold postb_66v at pt
  rw [f16, vz] at pt
  have bt := BI_fr f17.1.1 f17.1.2.1 (by decide +kernel) bz
  have cu2 := CU_fr f17.1.1 f17.1.2.1 (by decide +kernel) cz
  have v2 : vwC H2 = (pTx (hV H0 8) n3) := (vwC_fr f17.1.2.1 (by decide +kernel)).trans vz
  have pc := f18.2
  unfold postb_72v at pc
  obtain ⟨c1, c2, c3, c4, c5, c6, c7, c8⟩ := pc
  rw [v2, bt.2, pt.2] at c7 c8
  have v3 : vwC H3 = (pTx (hV H0 8) n3) := (vwC_fr f18.1.2.1 (by decide +kernel)).trans v2
  have t3 : TKs H1 H3 := (TKs_fr f17.1.2.1 (by decide +kernel)).trans (TKs_fr f18.1.2.1 (by decide +kernel))
  unfold preb_70v
  refine ⟨c1, c2, inT_of t3 ?_⟩
  rw [r1]
  exact kz.2.2.2.1
theorem c_60v_55_2 {q0 : Nat} : vOkm T0 (eP e_60v L_60v A_60v mu_60v (some q0)) 3 ([(1072, [3], [2, 3], 0), (1066, [3, 9], [1, 2], 0), (0, [9], [], 18), (20, [8, 3], [1], 1), (90, [8], [], -2147483648), (91, [8], [], 2147483647), (30, [7], [], 0), (20, [7, 3], [1], 7), (90, [7], [], 0), (91, [7], [], 1), (5000, [0, 1, 2, 3, 4, 5, 6], [0, 1], 55), (0, [0], [], 30), (90, [2], [], -2147483648), (91, [2], [], 2147483647), (0, [3], [], 30), (90, [5], [], -2147483648), (91, [5], [], 2147483647), (90, [6], [], -2147483648), (91, [6], [], 2147483647)], (2070, [3, 8], [3], 0)) := vOk_in fun ρ η h => by
  obtain ⟨f0, f1, f2, f3, f4, f5, f6, f7, f8, f9, f10, f11, f12, f13, f14, f15, f16, f17, f18, _⟩ := h
  exact q_60v_12 (q0 := q0) (n0 := ρ 6) (n1 := ρ 5) (n2 := ρ 3) (n3 := ρ 2) (n4 := ρ 0) (n5 := ρ 1) (n6 := ρ 4) (n7 := ρ 7) (n8 := ρ 8) (n9 := ρ 9) (H0 := η 0) (H1 := η 1) (H2 := η 2) (H3 := η 3) f18 f17 f16 f15 f14 f13 f12 f11 f10 f9 f8 f7 f6 f5 f4 f3 f2 f1 f0
theorem q_60v_13 {q0 : Nat} {n0 n1 n2 n3 n4 n5 n6 n7 n8 n9 : Int} {H0 H1 H2 H3 H4 : gH} (f0 : n0 ≤ 2147483647) (f1 : (-2147483648) ≤ n0) (f2 : n1 ≤ 2147483647) (f3 : (-2147483648) ≤ n1) (f4 : n2 = 30) (f5 : n3 ≤ 2147483647) (f6 : (-2147483648) ≤ n3) (f7 : n4 = 30) (f8 : (hLe T0 H0 H1 ∧ hFr s_60v.2.2.2.2 H0 H1 ∧ hWt T0 H1) ∧ (Ab_60v_55 n4 n5 n3 n2 n6 n1 n0 H0 H1 ∧ preb_60v n4 n5 n3 H0) ∧ some q0 = some (mub_60v_55 n4 n5 n3 n2 n6 n1 n0 H0 H1)) (f9 : n7 ≤ 1) (f10 : 0 ≤ n7) (f11 : n7 = hV H1 (n2).toNat 7) (f12 : n7 = 0) (f13 : n8 ≤ 2147483647) (f14 : (-2147483648) ≤ n8) (f15 : n8 = hV H1 (n2).toNat 1) (f16 : n9 = 18) (f17 : (hLe T0 H1 H2 ∧ hFr s_66v.2.2.2.2 H1 H2 ∧ ((0 : Int) = 0 → H2.length = H1.length) ∧ hWt T0 H2) ∧ postb_66v n2 n9 H1 H2) (f18 : (hLe T0 H2 H3 ∧ hFr s_72v.2.2.2.2 H2 H3 ∧ ((0 : Int) = 0 → H3.length = H2.length) ∧ hWt T0 H3) ∧ postb_72v n2 H2 H3) (f19 : (hLe T0 H3 H4 ∧ hFr s_70v.2.2.2.2 H3 H4 ∧ ((0 : Int) = 0 → H4.length = H3.length) ∧ hWt T0 H4) ∧ postb_70v n2 n8 H3 H4) : Ab_60v_89 n4 n5 n3 n2 n6 n1 n8 H0 H4 ∧ ∀ q, some q0 = some q → mub_60v_89 n4 n5 n3 n2 n6 n1 n8 H0 H4 < q := by
  have pz := f8.2.1.2
  unfold preb_60v at pz
  have ga := f8.2.1.1
  unfold Ab_60v_55 at ga
  obtain ⟨kz, bz, cz, dz, vz, wz, ir, yb, yt⟩ := ga
  have wk : wOK (pTx (hV H0 8) n3) := by
    rw [← vz]
    exact vwC_ok H1
  have r7 := f11
  rw [f4] at r7
  rw [show ((30 : Int)).toNat = 30 from rfl] at r7
  have r1 := f15
  rw [f4] at r1
  rw [show ((30 : Int)).toNat = 30 from rfl] at r1
  have pt := f17.2
  unfold postb_66v at pt
  rw [f16, vz] at pt
  have bt := BI_fr f17.1.1 f17.1.2.1 (by decide +kernel) bz
  have cu2 := CU_fr f17.1.1 f17.1.2.1 (by decide +kernel) cz
  have v2 : vwC H2 = (pTx (hV H0 8) n3) := (vwC_fr f17.1.2.1 (by decide +kernel)).trans vz
  have pc := f18.2
  unfold postb_72v at pc
  obtain ⟨c1, c2, c3, c4, c5, c6, c7, c8⟩ := pc
  rw [v2, bt.2, pt.2] at c7 c8
  have v3 : vwC H3 = (pTx (hV H0 8) n3) := (vwC_fr f18.1.2.1 (by decide +kernel)).trans v2
  have t3 : TKs H1 H3 := (TKs_fr f17.1.2.1 (by decide +kernel)).trans (TKs_fr f18.1.2.1 (by decide +kernel))
  have pe := f19.2
  unfold postb_70v at pe
  rw [v3, c7] at pe
  have v4 : vwC H4 = (pTx (hV H0 8) n3) := (vwC_fr f19.1.2.1 (by decide +kernel)).trans v3
  have e7s : hV H4 30 7 = hV H1 30 7 := (f19.1.2.1.1 30 7 (by decide +kernel)).trans ((f18.1.2.1.1 30 7 (by decide +kernel)).trans (f17.1.2.1.1 30 7 (by decide +kernel)))
  have qq : 0 ≤ (ptk (pTx (hV H0 8) n3) 17 (pCues (pTx (hV H0 8) n3) (BLc H1) 16 (ptk (pTx (hV H0 8) n3) 18 (absC H1)))).1 → (40 < hV H3 47 (hV H3 30 13).toNat ↔ 40 < pTot (vwC H1) (BLc H1) 16 (ptk (vwC H1) 18 (absC H1)) 0) ∧ n8 = (absC H1).1 := fun q0 => by
    rw [← v3] at q0
    have q1 := (ptk_mono c1.2.1 q0).1
    rw [v3, ← c7] at q1
    have f3 := fault_no c1 q1
    have ct := c8 f3
    have f1 : hV H1 30 3 = 0 := by
      refine fault_no kz ?_
      rw [c7] at q1
      rcases Int.lt_or_le (absC H1).1 0 with w | w
      · rw [ptk_neg w (absC_ok kz), pCues_neg wk w] at q1
        omega
      · exact w
    rw [(absC_pos kz f1).1, vz, ← ct.2.2, pcap_big, c4]
    exact ⟨Iff.rfl, by omega⟩
  have la := pLast_of (h := H1) (bl := BLc H1) (p := absC H1) (q := ptk (pTx (hV H0 8) n3) 17 (pCues (pTx (hV H0 8) n3) (BLc H1) 16 (ptk (pTx (hV H0 8) n3) 18 (absC H1)))) (r := absC H4) (t := n8) (x := hV H3 47 (hV H3 30 13).toNat) (by rw [vz]) ptk_ok qq (by rw [vz]; exact pe.2)
  have k19 : ¬ (pTx (hV H0 8) n3).1 0 = 19 := by
    rcases ir with q | q
    · omega
    · exact q.2
  rw [vz] at la
  have g5 := Option.some.inj f8.2.2
  unfold mub_60v_55 at g5
  unfold Ab_60v_89 mub_60v_89
  refine ⟨⟨pe.1, v4, WDS_fr f19.1.1 f19.1.2.1 (by decide +kernel) (WDS_fr f18.1.1 f18.1.2.1 (by decide +kernel) (WDS_fr f17.1.1 f17.1.2.1 (by decide +kernel) wz)), by rw [e7s]; exact ir, ?_⟩, fun q hq => ?_⟩
  · rw [if_neg k19, la]
    unfold pSheet
    rw [← yb]
    by_cases hf : hV H1 30 3 = 0
    · rw [yt hf]
    · have n := absC_neg kz hf
      rw [pLast_neg wk n (absC_ok kz), pLast_neg wk n (absC_ok kz)]
  · have g6 := Option.some.inj hq
    subst g6
    first
    | omega
    | lia
theorem c_60v_55_3 {q0 : Nat} : vOkm T0 (eP e_60v L_60v A_60v mu_60v (some q0)) 3 ([(1070, [3, 8], [3, 4], 0), (1072, [3], [2, 3], 0), (1066, [3, 9], [1, 2], 0), (0, [9], [], 18), (20, [8, 3], [1], 1), (90, [8], [], -2147483648), (91, [8], [], 2147483647), (30, [7], [], 0), (20, [7, 3], [1], 7), (90, [7], [], 0), (91, [7], [], 1), (5000, [0, 1, 2, 3, 4, 5, 6], [0, 1], 55), (0, [0], [], 30), (90, [2], [], -2147483648), (91, [2], [], 2147483647), (0, [3], [], 30), (90, [5], [], -2147483648), (91, [5], [], 2147483647), (90, [6], [], -2147483648), (91, [6], [], 2147483647)], (4000, [3, 4, 5, 8], [4], 89)) := vOk_in fun ρ η h => by
  obtain ⟨f0, f1, f2, f3, f4, f5, f6, f7, f8, f9, f10, f11, f12, f13, f14, f15, f16, f17, f18, f19, _⟩ := h
  exact q_60v_13 (q0 := q0) (n0 := ρ 6) (n1 := ρ 5) (n2 := ρ 3) (n3 := ρ 2) (n4 := ρ 0) (n5 := ρ 1) (n6 := ρ 4) (n7 := ρ 7) (n8 := ρ 8) (n9 := ρ 9) (H0 := η 0) (H1 := η 1) (H2 := η 2) (H3 := η 3) (H4 := η 4) f19 f18 f17 f16 f15 f14 f13 f12 f11 f10 f9 f8 f7 f6 f5 f4 f3 f2 f1 f0
theorem q_60v_14 {q0 : Nat} {n0 n1 n2 n3 n4 n5 n6 n7 : Int} {H0 H1 : gH} (f0 : n0 ≤ 2147483647) (f1 : (-2147483648) ≤ n0) (f2 : n1 ≤ 2147483647) (f3 : (-2147483648) ≤ n1) (f4 : n2 = 30) (f5 : n3 ≤ 2147483647) (f6 : (-2147483648) ≤ n3) (f7 : n4 = 30) (f8 : (hLe T0 H0 H1 ∧ hFr s_60v.2.2.2.2 H0 H1 ∧ hWt T0 H1) ∧ (Ab_60v_55 n4 n5 n3 n2 n6 n1 n0 H0 H1 ∧ preb_60v n4 n5 n3 H0) ∧ some q0 = some (mub_60v_55 n4 n5 n3 n2 n6 n1 n0 H0 H1)) (f9 : n7 ≤ 1) (f10 : 0 ≤ n7) (f11 : n7 = hV H1 (n2).toNat 7) (f12 : n7 ≠ 0) : preb_84v n2 H1 := by
  have pz := f8.2.1.2
  unfold preb_60v at pz
  have ga := f8.2.1.1
  unfold Ab_60v_55 at ga
  obtain ⟨kz, bz, cz, dz, vz, wz, ir, yb, yt⟩ := ga
  have wk : wOK (pTx (hV H0 8) n3) := by
    rw [← vz]
    exact vwC_ok H1
  have r7 := f11
  rw [f4] at r7
  rw [show ((30 : Int)).toNat = 30 from rfl] at r7
  unfold preb_84v
  exact ⟨kz, dz⟩
theorem c_60v_55_4 {q0 : Nat} : vOkm T0 (eP e_60v L_60v A_60v mu_60v (some q0)) 3 ([(31, [7], [], 0), (20, [7, 3], [1], 7), (90, [7], [], 0), (91, [7], [], 1), (5000, [0, 1, 2, 3, 4, 5, 6], [0, 1], 55), (0, [0], [], 30), (90, [2], [], -2147483648), (91, [2], [], 2147483647), (0, [3], [], 30), (90, [5], [], -2147483648), (91, [5], [], 2147483647), (90, [6], [], -2147483648), (91, [6], [], 2147483647)], (2084, [3], [1], 0)) := vOk_in fun ρ η h => by
  obtain ⟨f0, f1, f2, f3, f4, f5, f6, f7, f8, f9, f10, f11, f12, _⟩ := h
  exact q_60v_14 (q0 := q0) (n0 := ρ 6) (n1 := ρ 5) (n2 := ρ 3) (n3 := ρ 2) (n4 := ρ 0) (n5 := ρ 1) (n6 := ρ 4) (n7 := ρ 7) (H0 := η 0) (H1 := η 1) f12 f11 f10 f9 f8 f7 f6 f5 f4 f3 f2 f1 f0
theorem q_60v_15 {q0 : Nat} {n0 n1 n2 n3 n4 n5 n6 n7 : Int} {H0 H1 H2 : gH} (f0 : n0 ≤ 2147483647) (f1 : (-2147483648) ≤ n0) (f2 : n1 ≤ 2147483647) (f3 : (-2147483648) ≤ n1) (f4 : n2 = 30) (f5 : n3 ≤ 2147483647) (f6 : (-2147483648) ≤ n3) (f7 : n4 = 30) (f8 : (hLe T0 H0 H1 ∧ hFr s_60v.2.2.2.2 H0 H1 ∧ hWt T0 H1) ∧ (Ab_60v_55 n4 n5 n3 n2 n6 n1 n0 H0 H1 ∧ preb_60v n4 n5 n3 H0) ∧ some q0 = some (mub_60v_55 n4 n5 n3 n2 n6 n1 n0 H0 H1)) (f9 : n7 ≤ 1) (f10 : 0 ≤ n7) (f11 : n7 = hV H1 (n2).toNat 7) (f12 : n7 ≠ 0) (f13 : (hLe T0 H1 H2 ∧ hFr s_84v.2.2.2.2 H1 H2 ∧ ((0 : Int) = 0 → H2.length = H1.length) ∧ hWt T0 H2) ∧ postb_84v n2 H1 H2) : Ab_60v_89 n4 n5 n3 n2 n6 n1 n0 H0 H2 ∧ ∀ q, some q0 = some q → mub_60v_89 n4 n5 n3 n2 n6 n1 n0 H0 H2 < q := by
  have pz := f8.2.1.2
  unfold preb_60v at pz
  have ga := f8.2.1.1
  unfold Ab_60v_55 at ga
  obtain ⟨kz, bz, cz, dz, vz, wz, ir, yb, yt⟩ := ga
  have wk : wOK (pTx (hV H0 8) n3) := by
    rw [← vz]
    exact vwC_ok H1
  have r7 := f11
  rw [f4] at r7
  rw [show ((30 : Int)).toNat = 30 from rfl] at r7
  have pr := f13.2
  unfold postb_84v at pr
  rw [vz] at pr
  have v2 : vwC H2 = (pTx (hV H0 8) n3) := (vwC_fr f13.1.2.1 (by decide +kernel)).trans vz
  have e7s : hV H2 30 7 = hV H1 30 7 := f13.1.2.1.1 30 7 (by decide +kernel)
  have k19 : (pTx (hV H0 8) n3).1 0 = 19 := by
    rcases ir with q | q
    · exact q.2
    · omega
  have z0 : absC H1 = (0, 0) := by
    rw [yb]
    exact pBlocks_stop (by show ¬ (pTx (hV H0 8) n3).1 0 = 16; omega)
  have g5 := Option.some.inj f8.2.2
  unfold mub_60v_55 at g5
  unfold Ab_60v_89 mub_60v_89
  refine ⟨⟨pr.1, v2, WDS_fr f13.1.1 f13.1.2.1 (by decide +kernel) wz, by rw [e7s]; exact ir, ?_⟩, fun q hq => ?_⟩
  · rw [if_pos k19, pr.2, z0]
  · have g6 := Option.some.inj hq
    subst g6
    first
    | omega
    | lia
theorem c_60v_55_5 {q0 : Nat} : vOkm T0 (eP e_60v L_60v A_60v mu_60v (some q0)) 3 ([(1084, [3], [1, 2], 0), (31, [7], [], 0), (20, [7, 3], [1], 7), (90, [7], [], 0), (91, [7], [], 1), (5000, [0, 1, 2, 3, 4, 5, 6], [0, 1], 55), (0, [0], [], 30), (90, [2], [], -2147483648), (91, [2], [], 2147483647), (0, [3], [], 30), (90, [5], [], -2147483648), (91, [5], [], 2147483647), (90, [6], [], -2147483648), (91, [6], [], 2147483647)], (4000, [3, 4, 5, 6], [2], 89)) := vOk_in fun ρ η h => by
  obtain ⟨f0, f1, f2, f3, f4, f5, f6, f7, f8, f9, f10, f11, f12, f13, _⟩ := h
  exact q_60v_15 (q0 := q0) (n0 := ρ 6) (n1 := ρ 5) (n2 := ρ 3) (n3 := ρ 2) (n4 := ρ 0) (n5 := ρ 1) (n6 := ρ 4) (n7 := ρ 7) (H0 := η 0) (H1 := η 1) (H2 := η 2) f13 f12 f11 f10 f9 f8 f7 f6 f5 f4 f3 f2 f1 f0
def p_60v_55 : List vG := [([(0, [9], [], 18), (20, [8, 3], [1], 1), (90, [8], [], -2147483648), (91, [8], [], 2147483647), (30, [7], [], 0), (20, [7, 3], [1], 7), (90, [7], [], 0), (91, [7], [], 1), (5000, [0, 1, 2, 3, 4, 5, 6], [0, 1], 55), (0, [0], [], 30), (90, [2], [], -2147483648), (91, [2], [], 2147483647), (0, [3], [], 30), (90, [5], [], -2147483648), (91, [5], [], 2147483647), (90, [6], [], -2147483648), (91, [6], [], 2147483647)], (2066, [3, 9], [1], 0)),
  ([(1066, [3, 9], [1, 2], 0), (0, [9], [], 18), (20, [8, 3], [1], 1), (90, [8], [], -2147483648), (91, [8], [], 2147483647), (30, [7], [], 0), (20, [7, 3], [1], 7), (90, [7], [], 0), (91, [7], [], 1), (5000, [0, 1, 2, 3, 4, 5, 6], [0, 1], 55), (0, [0], [], 30), (90, [2], [], -2147483648), (91, [2], [], 2147483647), (0, [3], [], 30), (90, [5], [], -2147483648), (91, [5], [], 2147483647), (90, [6], [], -2147483648), (91, [6], [], 2147483647)], (2072, [3], [2], 0)),
  ([(1072, [3], [2, 3], 0), (1066, [3, 9], [1, 2], 0), (0, [9], [], 18), (20, [8, 3], [1], 1), (90, [8], [], -2147483648), (91, [8], [], 2147483647), (30, [7], [], 0), (20, [7, 3], [1], 7), (90, [7], [], 0), (91, [7], [], 1), (5000, [0, 1, 2, 3, 4, 5, 6], [0, 1], 55), (0, [0], [], 30), (90, [2], [], -2147483648), (91, [2], [], 2147483647), (0, [3], [], 30), (90, [5], [], -2147483648), (91, [5], [], 2147483647), (90, [6], [], -2147483648), (91, [6], [], 2147483647)], (2070, [3, 8], [3], 0)),
  ([(1070, [3, 8], [3, 4], 0), (1072, [3], [2, 3], 0), (1066, [3, 9], [1, 2], 0), (0, [9], [], 18), (20, [8, 3], [1], 1), (90, [8], [], -2147483648), (91, [8], [], 2147483647), (30, [7], [], 0), (20, [7, 3], [1], 7), (90, [7], [], 0), (91, [7], [], 1), (5000, [0, 1, 2, 3, 4, 5, 6], [0, 1], 55), (0, [0], [], 30), (90, [2], [], -2147483648), (91, [2], [], 2147483647), (0, [3], [], 30), (90, [5], [], -2147483648), (91, [5], [], 2147483647), (90, [6], [], -2147483648), (91, [6], [], 2147483647)], (4000, [3, 4, 5, 8], [4], 89)),
  ([(31, [7], [], 0), (20, [7, 3], [1], 7), (90, [7], [], 0), (91, [7], [], 1), (5000, [0, 1, 2, 3, 4, 5, 6], [0, 1], 55), (0, [0], [], 30), (90, [2], [], -2147483648), (91, [2], [], 2147483647), (0, [3], [], 30), (90, [5], [], -2147483648), (91, [5], [], 2147483647), (90, [6], [], -2147483648), (91, [6], [], 2147483647)], (2084, [3], [1], 0)),
  ([(1084, [3], [1, 2], 0), (31, [7], [], 0), (20, [7, 3], [1], 7), (90, [7], [], 0), (91, [7], [], 1), (5000, [0, 1, 2, 3, 4, 5, 6], [0, 1], 55), (0, [0], [], 30), (90, [2], [], -2147483648), (91, [2], [], 2147483647), (0, [3], [], 30), (90, [5], [], -2147483648), (91, [5], [], 2147483647), (90, [6], [], -2147483648), (91, [6], [], 2147483647)], (4000, [3, 4, 5, 6], [2], 89))]
theorem r_60v_55 : vCovO false (eRc e_60v L_60v cs_60v 2000 (55, [(0, (3, 4, 30, 0)), (1, (2, 692, -1, 0)), (2, (0, -2147483648, 2147483647, 0)), (3, (0, -2147483648, 2147483647, 0))])) p_60v_55 = true := by decide +kernel
theorem q_60v_16 {q0 : Nat} {n0 n1 n2 n3 n4 n5 n6 n7 n8 n9 : Int} {H0 H1 : gH} (f0 : n0 ≤ 2147483647) (f1 : (-2147483648) ≤ n0) (f2 : n1 ≤ 2147483647) (f3 : (-2147483648) ≤ n1) (f4 : n2 = 30) (f5 : n3 ≤ 2147483647) (f6 : (-2147483648) ≤ n3) (f7 : n4 = 30) (f8 : (hLe T0 H0 H1 ∧ hFr s_60v.2.2.2.2 H0 H1 ∧ hWt T0 H1) ∧ (Ab_60v_89 n4 n5 n3 n2 n6 n1 n0 H0 H1 ∧ preb_60v n4 n5 n3 H0) ∧ some q0 = some (mub_60v_89 n4 n5 n3 n2 n6 n1 n0 H0 H1)) (f9 : n7 ≤ 2147483647) (f10 : (-2147483648) ≤ n7) (f11 : n7 = hV H1 (n2).toNat 2) (f12 : n7 = 0) (f13 : n8 ≤ 2147483647) (f14 : (-2147483648) ≤ n8) (f15 : n8 = hV H1 (n2).toNat 3) (f16 : n8 ≠ 0) (f17 : n9 ≤ 2147483647) (f18 : (-2147483648) ≤ n9) (f19 : n9 = hV H1 (n2).toNat 3) : postb_60v n9 n4 n5 n3 H0 H1 := by
  have pz := f8.2.1.2
  unfold preb_60v at pz
  have ga := f8.2.1.1
  unfold Ab_60v_89 at ga
  obtain ⟨kz, vz, wz, ir, yb⟩ := ga
  have wk : wOK (pTx (hV H0 8) n3) := by
    rw [← vz]
    exact vwC_ok H1
  have r3 := f15
  rw [f4] at r3
  rw [show ((30 : Int)).toNat = 30 from rfl] at r3
  have r2 := f11
  rw [f4] at r2
  rw [show ((30 : Int)).toNat = 30 from rfl] at r2
  have rd_ : pRead (pTx (hV H0 8) n3) = pEnd (pTx (hV H0 8) n3) (absC H1) := by
    unfold pRead
    rw [← yb]
  have s4 := f19
  rw [f4] at s4
  rw [show ((30 : Int)).toNat = 30 from rfl] at s4
  have ff : ¬ hV H1 30 3 = 0 := by omega
  have re : pRead (pTx (hV H0 8) n3) = absC H1 := by rw [rd_, pEnd_neg (absC_neg kz ff) (absC_ok kz)]
  have rs := res_off kz ff
  rw [← re] at rs
  have tt := kz.2.2.2.2.2.2.2.1 ff
  unfold postb_60v
  refine ⟨by omega, by omega, fun w => absurd (s4.symm.trans w) ff, fun _ => ⟨tt.1, tt.2.1, tt.2.2, ?_⟩, ir, kz.2.1.2.2.2.1, wz⟩
  rw [rs.2]
  exact (lC_at tt kz.2.1).symm
theorem c_60v_89_0 {q0 : Nat} : vOkm T0 (eP e_60v L_60v A_60v mu_60v (some q0)) 3 ([(20, [9, 3], [1], 3), (90, [9], [], -2147483648), (91, [9], [], 2147483647), (31, [8], [], 0), (20, [8, 3], [1], 3), (90, [8], [], -2147483648), (91, [8], [], 2147483647), (30, [7], [], 0), (20, [7, 3], [1], 2), (90, [7], [], -2147483648), (91, [7], [], 2147483647), (5000, [0, 1, 2, 3, 4, 5, 6], [0, 1], 89), (0, [0], [], 30), (90, [2], [], -2147483648), (91, [2], [], 2147483647), (0, [3], [], 30), (90, [5], [], -2147483648), (91, [5], [], 2147483647), (90, [6], [], -2147483648), (91, [6], [], 2147483647)], (3000, [9], [1], 128)) := vOk_in fun ρ η h => by
  obtain ⟨f0, f1, f2, f3, f4, f5, f6, f7, f8, f9, f10, f11, f12, f13, f14, f15, f16, f17, f18, f19, _⟩ := h
  exact q_60v_16 (q0 := q0) (n0 := ρ 6) (n1 := ρ 5) (n2 := ρ 3) (n3 := ρ 2) (n4 := ρ 0) (n5 := ρ 1) (n6 := ρ 4) (n7 := ρ 7) (n8 := ρ 8) (n9 := ρ 9) (H0 := η 0) (H1 := η 1) f19 f18 f17 f16 f15 f14 f13 f12 f11 f10 f9 f8 f7 f6 f5 f4 f3 f2 f1 f0
theorem q_60v_17 {q0 : Nat} {n0 n1 n2 n3 n4 n5 n6 n7 n8 n9 n10 n11 n12 n13 : Int} {H0 H1 H2 H3 : gH} (f0 : n0 ≤ 2147483647) (f1 : (-2147483648) ≤ n0) (f2 : n1 ≤ 2147483647) (f3 : (-2147483648) ≤ n1) (f4 : n2 = 30) (f5 : n3 ≤ 2147483647) (f6 : (-2147483648) ≤ n3) (f7 : n4 = 30) (f8 : (hLe T0 H0 H1 ∧ hFr s_60v.2.2.2.2 H0 H1 ∧ hWt T0 H1) ∧ (Ab_60v_89 n4 n5 n3 n2 n6 n1 n0 H0 H1 ∧ preb_60v n4 n5 n3 H0) ∧ some q0 = some (mub_60v_89 n4 n5 n3 n2 n6 n1 n0 H0 H1)) (f9 : n7 ≤ 2147483647) (f10 : (-2147483648) ≤ n7) (f11 : n7 = hV H1 (n2).toNat 2) (f12 : n7 = 0) (f13 : n8 ≤ 2147483647) (f14 : (-2147483648) ≤ n8) (f15 : n8 = hV H1 (n2).toNat 3) (f16 : n8 = 0) (f17 : n9 ≤ 2147483647) (f18 : (-2147483648) ≤ n9) (f19 : n9 = hV H1 (n2).toNat 5) (f20 : n10 = 3) (f21 : hUpd H2 H1 n2 n10 n9) (f22 : n11 ≤ 2147483647) (f23 : (-2147483648) ≤ n11) (f24 : n11 = hV H2 (n2).toNat 6) (f25 : n12 = 4) (f26 : hUpd H3 H2 n2 n12 n11) (f27 : n13 ≤ 2147483647) (f28 : (-2147483648) ≤ n13) (f29 : n13 = hV H3 (n2).toNat 3) : postb_60v n13 n4 n5 n3 H0 H3 := by
  have pz := f8.2.1.2
  unfold preb_60v at pz
  have ga := f8.2.1.1
  unfold Ab_60v_89 at ga
  obtain ⟨kz, vz, wz, ir, yb⟩ := ga
  have wk : wOK (pTx (hV H0 8) n3) := by
    rw [← vz]
    exact vwC_ok H1
  have r3 := f15
  rw [f4] at r3
  rw [show ((30 : Int)).toNat = 30 from rfl] at r3
  have r2 := f11
  rw [f4] at r2
  rw [show ((30 : Int)).toNat = 30 from rfl] at r2
  have r5 := f19
  rw [f4] at r5
  rw [show ((30 : Int)).toNat = 30 from rfl] at r5
  have rd_ : pRead (pTx (hV H0 8) n3) = pEnd (pTx (hV H0 8) n3) (absC H1) := by
    unfold pRead
    rw [← yb]
  have r6 := f24
  rw [f4] at r6
  rw [show ((30 : Int)).toNat = 30 from rfl] at r6
  have s4 := f29
  rw [f4] at s4
  rw [show ((30 : Int)).toNat = 30 from rfl] at s4
  have u6 : hV H2 30 6 = hV H1 30 6 := uSlot f21 30 6 (by rw [f20]; decide)
  have w3 : hV H3 30 3 = n9 := (uSlot f26 30 3 (by rw [f25]; decide)).trans (uSame f21 30 3 (by rw [f4]; rfl) (by rw [f20]; rfl))
  have w4 : hV H3 30 4 = n11 := uSame f26 30 4 (by rw [f4]; rfl) (by rw [f25]; rfl)
  have w7 : hV H3 30 7 = hV H1 30 7 := (uSlot f26 30 7 (by rw [f25]; decide)).trans (uSlot f21 30 7 (by rw [f20]; decide))
  have w34 : hV H3 34 = hV H1 34 := (uRowNe f26 34 (by rw [f4]; decide)).trans (uRowNe f21 34 (by rw [f4]; decide))
  have ff : hV H1 30 3 = 0 := by omega
  have re : pRead (pTx (hV H0 8) n3) = absC H1 := by
    rw [rd_]
    unfold pEnd
    have u := (kd_at kz).resolve_left (by have := absC_pos kz ff; omega)
    rw [vz] at u
    exact if_pos (by rw [u]; omega)
  have rs := res_ok kz ff
  rw [← re] at rs
  unfold postb_60v
  refine ⟨by omega, by omega, fun w => rs.2.1 (by omega), fun w => ?_, by rw [w7]; exact ir, by unfold PBt; rw [w34]; exact kz.2.1.2.2.2.1, WDS_up f26 (by rw [f4]; decide) (WDS_up f21 (by rw [f4]; decide) wz)⟩
  have tt := kz.2.2.2.2.2.2.2.2 ff (by omega)
  rw [w4, show n11 = hV H1 30 6 by omega, w34, rs.2.2 (by omega), show hV H3 31 4 = hV H1 31 4 from congrFun ((uRowNe f26 31 (by rw [f4]; decide)).trans (uRowNe f21 31 (by rw [f4]; decide))) 4]
  exact ⟨tt.1, tt.2.1, tt.2.2, (lC_at tt kz.2.1).symm⟩
theorem c_60v_89_1 {q0 : Nat} : vOkm T0 (eP e_60v L_60v A_60v mu_60v (some q0)) 3 ([(20, [13, 3], [3], 3), (90, [13], [], -2147483648), (91, [13], [], 2147483647), (80, [3, 12, 11], [3, 2], 0), (0, [12], [], 4), (20, [11, 3], [2], 6), (90, [11], [], -2147483648), (91, [11], [], 2147483647), (80, [3, 10, 9], [2, 1], 0), (0, [10], [], 3), (20, [9, 3], [1], 5), (90, [9], [], -2147483648), (91, [9], [], 2147483647), (30, [8], [], 0), (20, [8, 3], [1], 3), (90, [8], [], -2147483648), (91, [8], [], 2147483647), (30, [7], [], 0), (20, [7, 3], [1], 2), (90, [7], [], -2147483648), (91, [7], [], 2147483647), (5000, [0, 1, 2, 3, 4, 5, 6], [0, 1], 89), (0, [0], [], 30), (90, [2], [], -2147483648), (91, [2], [], 2147483647), (0, [3], [], 30), (90, [5], [], -2147483648), (91, [5], [], 2147483647), (90, [6], [], -2147483648), (91, [6], [], 2147483647)], (3000, [13], [3], 128)) := vOk_in fun ρ η h => by
  obtain ⟨f0, f1, f2, f3, f4, f5, f6, f7, f8, f9, f10, f11, f12, f13, f14, f15, f16, f17, f18, f19, f20, f21, f22, f23, f24, f25, f26, f27, f28, f29, _⟩ := h
  exact q_60v_17 (q0 := q0) (n0 := ρ 6) (n1 := ρ 5) (n2 := ρ 3) (n3 := ρ 2) (n4 := ρ 0) (n5 := ρ 1) (n6 := ρ 4) (n7 := ρ 7) (n8 := ρ 8) (n9 := ρ 9) (n10 := ρ 10) (n11 := ρ 11) (n12 := ρ 12) (n13 := ρ 13) (H0 := η 0) (H1 := η 1) (H2 := η 2) (H3 := η 3) f29 f28 f27 f26 f25 f24 f23 f22 f21 f20 f19 f18 f17 f16 f15 f14 f13 f12 f11 f10 f9 f8 f7 f6 f5 f4 f3 f2 f1 f0
theorem q_60v_18 {q0 : Nat} {n0 n1 n2 n3 n4 n5 n6 n7 n8 : Int} {H0 H1 : gH} (f0 : n0 ≤ 2147483647) (f1 : (-2147483648) ≤ n0) (f2 : n1 ≤ 2147483647) (f3 : (-2147483648) ≤ n1) (f4 : n2 = 30) (f5 : n3 ≤ 2147483647) (f6 : (-2147483648) ≤ n3) (f7 : n4 = 30) (f8 : (hLe T0 H0 H1 ∧ hFr s_60v.2.2.2.2 H0 H1 ∧ hWt T0 H1) ∧ (Ab_60v_89 n4 n5 n3 n2 n6 n1 n0 H0 H1 ∧ preb_60v n4 n5 n3 H0) ∧ some q0 = some (mub_60v_89 n4 n5 n3 n2 n6 n1 n0 H0 H1)) (f9 : n7 ≤ 2147483647) (f10 : (-2147483648) ≤ n7) (f11 : n7 = hV H1 (n2).toNat 2) (f12 : n7 ≠ 0) (f13 : n8 = 1) : preb_64v n2 n8 H1 := by
  have pz := f8.2.1.2
  unfold preb_60v at pz
  have ga := f8.2.1.1
  unfold Ab_60v_89 at ga
  obtain ⟨kz, vz, wz, ir, yb⟩ := ga
  have wk : wOK (pTx (hV H0 8) n3) := by
    rw [← vz]
    exact vwC_ok H1
  have r2 := f11
  rw [f4] at r2
  rw [show ((30 : Int)).toNat = 30 from rfl] at r2
  unfold preb_64v
  exact ⟨kz, by omega⟩
theorem c_60v_89_2 {q0 : Nat} : vOkm T0 (eP e_60v L_60v A_60v mu_60v (some q0)) 3 ([(0, [8], [], 1), (31, [7], [], 0), (20, [7, 3], [1], 2), (90, [7], [], -2147483648), (91, [7], [], 2147483647), (5000, [0, 1, 2, 3, 4, 5, 6], [0, 1], 89), (0, [0], [], 30), (90, [2], [], -2147483648), (91, [2], [], 2147483647), (0, [3], [], 30), (90, [5], [], -2147483648), (91, [5], [], 2147483647), (90, [6], [], -2147483648), (91, [6], [], 2147483647)], (2064, [3, 8], [1], 0)) := vOk_in fun ρ η h => by
  obtain ⟨f0, f1, f2, f3, f4, f5, f6, f7, f8, f9, f10, f11, f12, f13, _⟩ := h
  exact q_60v_18 (q0 := q0) (n0 := ρ 6) (n1 := ρ 5) (n2 := ρ 3) (n3 := ρ 2) (n4 := ρ 0) (n5 := ρ 1) (n6 := ρ 4) (n7 := ρ 7) (n8 := ρ 8) (H0 := η 0) (H1 := η 1) f13 f12 f11 f10 f9 f8 f7 f6 f5 f4 f3 f2 f1 f0
theorem q_60v_19 {q0 : Nat} {n0 n1 n2 n3 n4 n5 n6 n7 n8 n9 n10 : Int} {H0 H1 H2 : gH} (f0 : n0 ≤ 2147483647) (f1 : (-2147483648) ≤ n0) (f2 : n1 ≤ 2147483647) (f3 : (-2147483648) ≤ n1) (f4 : n2 = 30) (f5 : n3 ≤ 2147483647) (f6 : (-2147483648) ≤ n3) (f7 : n4 = 30) (f8 : (hLe T0 H0 H1 ∧ hFr s_60v.2.2.2.2 H0 H1 ∧ hWt T0 H1) ∧ (Ab_60v_89 n4 n5 n3 n2 n6 n1 n0 H0 H1 ∧ preb_60v n4 n5 n3 H0) ∧ some q0 = some (mub_60v_89 n4 n5 n3 n2 n6 n1 n0 H0 H1)) (f9 : n7 ≤ 2147483647) (f10 : (-2147483648) ≤ n7) (f11 : n7 = hV H1 (n2).toNat 2) (f12 : n7 ≠ 0) (f13 : n8 = 1) (f14 : (hLe T0 H1 H2 ∧ hFr s_64v.2.2.2.2 H1 H2 ∧ ((0 : Int) = 0 → H2.length = H1.length) ∧ hWt T0 H2) ∧ postb_64v n2 n8 H1 H2) (f15 : n9 ≤ 2147483647) (f16 : (-2147483648) ≤ n9) (f17 : n9 = hV H2 (n2).toNat 3) (f18 : n9 ≠ 0) (f19 : n10 ≤ 2147483647) (f20 : (-2147483648) ≤ n10) (f21 : n10 = hV H2 (n2).toNat 3) : postb_60v n10 n4 n5 n3 H0 H2 := by
  have pz := f8.2.1.2
  unfold preb_60v at pz
  have ga := f8.2.1.1
  unfold Ab_60v_89 at ga
  obtain ⟨kz, vz, wz, ir, yb⟩ := ga
  have wk : wOK (pTx (hV H0 8) n3) := by
    rw [← vz]
    exact vwC_ok H1
  have r2 := f11
  rw [f4] at r2
  rw [show ((30 : Int)).toNat = 30 from rfl] at r2
  have rd_ : pRead (pTx (hV H0 8) n3) = pEnd (pTx (hV H0 8) n3) (absC H1) := by
    unfold pRead
    rw [← yb]
  have pf := f14.2
  unfold postb_64v at pf
  rw [f13, vz] at pf
  have nf : (absC H2).1 < 0 := by
    rw [pf.2]
    have n := pfail_lt kz (f := 1) (by decide) (p := absC H1)
    rw [vz] at n
    exact n
  have ff := fault_of pf.1 nf
  have s3 := f17
  rw [f4] at s3
  rw [show ((30 : Int)).toNat = 30 from rfl] at s3
  have s4 := f21
  rw [f4] at s4
  rw [show ((30 : Int)).toNat = 30 from rfl] at s4
  have re : pRead (pTx (hV H0 8) n3) = absC H2 := by
    rw [rd_, pf.2]
    unfold pEnd
    have kd := kd_at kz
    rw [vz] at kd
    rcases kd with q | q
    · rw [pfail_neg q (absC_ok kz)]
      split <;> rfl
    · rw [if_neg (by rw [q]; omega)]
  have rs := res_off pf.1 ff
  rw [← re] at rs
  have tt := pf.1.2.2.2.2.2.2.2.1 ff
  have e7s : hV H2 30 7 = hV H1 30 7 := f14.1.2.1.1 30 7 (by decide +kernel)
  unfold postb_60v
  refine ⟨by omega, by omega, fun w => absurd (s4.symm.trans w) ff, fun _ => ⟨tt.1, tt.2.1, tt.2.2, ?_⟩, by rw [e7s]; exact ir, pf.1.2.1.2.2.2.1, WDS_fr f14.1.1 f14.1.2.1 (by decide +kernel) wz⟩
  rw [rs.2]
  exact (lC_at tt pf.1.2.1).symm
theorem c_60v_89_3 {q0 : Nat} : vOkm T0 (eP e_60v L_60v A_60v mu_60v (some q0)) 3 ([(20, [10, 3], [2], 3), (90, [10], [], -2147483648), (91, [10], [], 2147483647), (31, [9], [], 0), (20, [9, 3], [2], 3), (90, [9], [], -2147483648), (91, [9], [], 2147483647), (1064, [3, 8], [1, 2], 0), (0, [8], [], 1), (31, [7], [], 0), (20, [7, 3], [1], 2), (90, [7], [], -2147483648), (91, [7], [], 2147483647), (5000, [0, 1, 2, 3, 4, 5, 6], [0, 1], 89), (0, [0], [], 30), (90, [2], [], -2147483648), (91, [2], [], 2147483647), (0, [3], [], 30), (90, [5], [], -2147483648), (91, [5], [], 2147483647), (90, [6], [], -2147483648), (91, [6], [], 2147483647)], (3000, [10], [2], 128)) := vOk_in fun ρ η h => by
  obtain ⟨f0, f1, f2, f3, f4, f5, f6, f7, f8, f9, f10, f11, f12, f13, f14, f15, f16, f17, f18, f19, f20, f21, _⟩ := h
  exact q_60v_19 (q0 := q0) (n0 := ρ 6) (n1 := ρ 5) (n2 := ρ 3) (n3 := ρ 2) (n4 := ρ 0) (n5 := ρ 1) (n6 := ρ 4) (n7 := ρ 7) (n8 := ρ 8) (n9 := ρ 9) (n10 := ρ 10) (H0 := η 0) (H1 := η 1) (H2 := η 2) f21 f20 f19 f18 f17 f16 f15 f14 f13 f12 f11 f10 f9 f8 f7 f6 f5 f4 f3 f2 f1 f0
theorem q_60v_20 {q0 : Nat} {n0 n1 n2 n3 n4 n5 n6 n7 n8 n9 n10 n11 n12 n13 n14 : Int} {H0 H1 H2 H3 H4 : gH} (f0 : n0 ≤ 2147483647) (f1 : (-2147483648) ≤ n0) (f2 : n1 ≤ 2147483647) (f3 : (-2147483648) ≤ n1) (f4 : n2 = 30) (f5 : n3 ≤ 2147483647) (f6 : (-2147483648) ≤ n3) (f7 : n4 = 30) (f8 : (hLe T0 H0 H1 ∧ hFr s_60v.2.2.2.2 H0 H1 ∧ hWt T0 H1) ∧ (Ab_60v_89 n4 n5 n3 n2 n6 n1 n0 H0 H1 ∧ preb_60v n4 n5 n3 H0) ∧ some q0 = some (mub_60v_89 n4 n5 n3 n2 n6 n1 n0 H0 H1)) (f9 : n7 ≤ 2147483647) (f10 : (-2147483648) ≤ n7) (f11 : n7 = hV H1 (n2).toNat 2) (f12 : n7 ≠ 0) (f13 : n8 = 1) (f14 : (hLe T0 H1 H2 ∧ hFr s_64v.2.2.2.2 H1 H2 ∧ ((0 : Int) = 0 → H2.length = H1.length) ∧ hWt T0 H2) ∧ postb_64v n2 n8 H1 H2) (f15 : n9 ≤ 2147483647) (f16 : (-2147483648) ≤ n9) (f17 : n9 = hV H2 (n2).toNat 3) (f18 : n9 = 0) (f19 : n10 ≤ 2147483647) (f20 : (-2147483648) ≤ n10) (f21 : n10 = hV H2 (n2).toNat 5) (f22 : n11 = 3) (f23 : hUpd H3 H2 n2 n11 n10) (f24 : n12 ≤ 2147483647) (f25 : (-2147483648) ≤ n12) (f26 : n12 = hV H3 (n2).toNat 6) (f27 : n13 = 4) (f28 : hUpd H4 H3 n2 n13 n12) (f29 : n14 ≤ 2147483647) (f30 : (-2147483648) ≤ n14) (f31 : n14 = hV H4 (n2).toNat 3) : postb_60v n14 n4 n5 n3 H0 H4 := by
  have pz := f8.2.1.2
  unfold preb_60v at pz
  have ga := f8.2.1.1
  unfold Ab_60v_89 at ga
  obtain ⟨kz, vz, wz, ir, yb⟩ := ga
  have wk : wOK (pTx (hV H0 8) n3) := by
    rw [← vz]
    exact vwC_ok H1
  have r2 := f11
  rw [f4] at r2
  rw [show ((30 : Int)).toNat = 30 from rfl] at r2
  have rd_ : pRead (pTx (hV H0 8) n3) = pEnd (pTx (hV H0 8) n3) (absC H1) := by
    unfold pRead
    rw [← yb]
  have pf := f14.2
  unfold postb_64v at pf
  rw [f13, vz] at pf
  have nf : (absC H2).1 < 0 := by
    rw [pf.2]
    have n := pfail_lt kz (f := 1) (by decide) (p := absC H1)
    rw [vz] at n
    exact n
  have ff := fault_of pf.1 nf
  have s3 := f17
  rw [f4] at s3
  rw [show ((30 : Int)).toNat = 30 from rfl] at s3
  exact absurd (show hV H2 30 3 = 0 by omega) ff
theorem c_60v_89_4 {q0 : Nat} : vOkm T0 (eP e_60v L_60v A_60v mu_60v (some q0)) 3 ([(20, [14, 3], [4], 3), (90, [14], [], -2147483648), (91, [14], [], 2147483647), (80, [3, 13, 12], [4, 3], 0), (0, [13], [], 4), (20, [12, 3], [3], 6), (90, [12], [], -2147483648), (91, [12], [], 2147483647), (80, [3, 11, 10], [3, 2], 0), (0, [11], [], 3), (20, [10, 3], [2], 5), (90, [10], [], -2147483648), (91, [10], [], 2147483647), (30, [9], [], 0), (20, [9, 3], [2], 3), (90, [9], [], -2147483648), (91, [9], [], 2147483647), (1064, [3, 8], [1, 2], 0), (0, [8], [], 1), (31, [7], [], 0), (20, [7, 3], [1], 2), (90, [7], [], -2147483648), (91, [7], [], 2147483647), (5000, [0, 1, 2, 3, 4, 5, 6], [0, 1], 89), (0, [0], [], 30), (90, [2], [], -2147483648), (91, [2], [], 2147483647), (0, [3], [], 30), (90, [5], [], -2147483648), (91, [5], [], 2147483647), (90, [6], [], -2147483648), (91, [6], [], 2147483647)], (3000, [14], [4], 128)) := vOk_in fun ρ η h => by
  obtain ⟨f0, f1, f2, f3, f4, f5, f6, f7, f8, f9, f10, f11, f12, f13, f14, f15, f16, f17, f18, f19, f20, f21, f22, f23, f24, f25, f26, f27, f28, f29, f30, f31, _⟩ := h
  exact q_60v_20 (q0 := q0) (n0 := ρ 6) (n1 := ρ 5) (n2 := ρ 3) (n3 := ρ 2) (n4 := ρ 0) (n5 := ρ 1) (n6 := ρ 4) (n7 := ρ 7) (n8 := ρ 8) (n9 := ρ 9) (n10 := ρ 10) (n11 := ρ 11) (n12 := ρ 12) (n13 := ρ 13) (n14 := ρ 14) (H0 := η 0) (H1 := η 1) (H2 := η 2) (H3 := η 3) (H4 := η 4) f31 f30 f29 f28 f27 f26 f25 f24 f23 f22 f21 f20 f19 f18 f17 f16 f15 f14 f13 f12 f11 f10 f9 f8 f7 f6 f5 f4 f3 f2 f1 f0
def p_60v_89 : List vG := [([(20, [9, 3], [1], 3), (90, [9], [], -2147483648), (91, [9], [], 2147483647), (31, [8], [], 0), (20, [8, 3], [1], 3), (90, [8], [], -2147483648), (91, [8], [], 2147483647), (30, [7], [], 0), (20, [7, 3], [1], 2), (90, [7], [], -2147483648), (91, [7], [], 2147483647), (5000, [0, 1, 2, 3, 4, 5, 6], [0, 1], 89), (0, [0], [], 30), (90, [2], [], -2147483648), (91, [2], [], 2147483647), (0, [3], [], 30), (90, [5], [], -2147483648), (91, [5], [], 2147483647), (90, [6], [], -2147483648), (91, [6], [], 2147483647)], (3000, [9], [1], 128)),
  ([(20, [13, 3], [3], 3), (90, [13], [], -2147483648), (91, [13], [], 2147483647), (80, [3, 12, 11], [3, 2], 0), (0, [12], [], 4), (20, [11, 3], [2], 6), (90, [11], [], -2147483648), (91, [11], [], 2147483647), (80, [3, 10, 9], [2, 1], 0), (0, [10], [], 3), (20, [9, 3], [1], 5), (90, [9], [], -2147483648), (91, [9], [], 2147483647), (30, [8], [], 0), (20, [8, 3], [1], 3), (90, [8], [], -2147483648), (91, [8], [], 2147483647), (30, [7], [], 0), (20, [7, 3], [1], 2), (90, [7], [], -2147483648), (91, [7], [], 2147483647), (5000, [0, 1, 2, 3, 4, 5, 6], [0, 1], 89), (0, [0], [], 30), (90, [2], [], -2147483648), (91, [2], [], 2147483647), (0, [3], [], 30), (90, [5], [], -2147483648), (91, [5], [], 2147483647), (90, [6], [], -2147483648), (91, [6], [], 2147483647)], (3000, [13], [3], 128)),
  ([(0, [8], [], 1), (31, [7], [], 0), (20, [7, 3], [1], 2), (90, [7], [], -2147483648), (91, [7], [], 2147483647), (5000, [0, 1, 2, 3, 4, 5, 6], [0, 1], 89), (0, [0], [], 30), (90, [2], [], -2147483648), (91, [2], [], 2147483647), (0, [3], [], 30), (90, [5], [], -2147483648), (91, [5], [], 2147483647), (90, [6], [], -2147483648), (91, [6], [], 2147483647)], (2064, [3, 8], [1], 0)),
  ([(20, [10, 3], [2], 3), (90, [10], [], -2147483648), (91, [10], [], 2147483647), (31, [9], [], 0), (20, [9, 3], [2], 3), (90, [9], [], -2147483648), (91, [9], [], 2147483647), (1064, [3, 8], [1, 2], 0), (0, [8], [], 1), (31, [7], [], 0), (20, [7, 3], [1], 2), (90, [7], [], -2147483648), (91, [7], [], 2147483647), (5000, [0, 1, 2, 3, 4, 5, 6], [0, 1], 89), (0, [0], [], 30), (90, [2], [], -2147483648), (91, [2], [], 2147483647), (0, [3], [], 30), (90, [5], [], -2147483648), (91, [5], [], 2147483647), (90, [6], [], -2147483648), (91, [6], [], 2147483647)], (3000, [10], [2], 128)),
  ([(20, [14, 3], [4], 3), (90, [14], [], -2147483648), (91, [14], [], 2147483647), (80, [3, 13, 12], [4, 3], 0), (0, [13], [], 4), (20, [12, 3], [3], 6), (90, [12], [], -2147483648), (91, [12], [], 2147483647), (80, [3, 11, 10], [3, 2], 0), (0, [11], [], 3), (20, [10, 3], [2], 5), (90, [10], [], -2147483648), (91, [10], [], 2147483647), (30, [9], [], 0), (20, [9, 3], [2], 3), (90, [9], [], -2147483648), (91, [9], [], 2147483647), (1064, [3, 8], [1, 2], 0), (0, [8], [], 1), (31, [7], [], 0), (20, [7, 3], [1], 2), (90, [7], [], -2147483648), (91, [7], [], 2147483647), (5000, [0, 1, 2, 3, 4, 5, 6], [0, 1], 89), (0, [0], [], 30), (90, [2], [], -2147483648), (91, [2], [], 2147483647), (0, [3], [], 30), (90, [5], [], -2147483648), (91, [5], [], 2147483647), (90, [6], [], -2147483648), (91, [6], [], 2147483647)], (3000, [14], [4], 128))]
theorem r_60v_89 : vCovO false (eRc e_60v L_60v cs_60v 2000 (89, [(0, (3, 4, 30, 0)), (1, (2, 692, -1, 0)), (2, (0, -2147483648, 2147483647, 0)), (3, (0, -2147483648, 2147483647, 0))])) p_60v_89 = true := by decide +kernel
theorem m_60v (d : Nat) : eC e_60v (d + 7) := eC_ok (e := e_60v) (L := L_60v) (cs := cs_60v) (n := 2000) (d := d + 6) (A := A_60v) (μ := mu_60v) (tp := false) (p0 := p_60v_s) rfl ⟨m_61v (d + 4), ⟨m_64v (d + 5), ⟨m_66v (d + 4), ⟨m_68v (d + 3), ⟨m_69v (d + 3), ⟨m_70v (d + 3), ⟨m_72v d, ⟨m_84v d, ⟨m_125v (d + 1), trivial⟩⟩⟩⟩⟩⟩⟩⟩⟩ rfl (.inl rfl) (by decide +kernel) (fun z => nomatch z) r_60v_s (allC c_60v_s_0 (allC c_60v_s_1 (allC c_60v_s_2 allN))) (allC (.inl ⟨p_60v_15, r_60v_15, fun q0 => (allC c_60v_15_0 (allC c_60v_15_1 (allC c_60v_15_2 (allC c_60v_15_3 (allC c_60v_15_4 (allC c_60v_15_5 (allC c_60v_15_6 allN)))))))⟩) (allC (.inl ⟨p_60v_55, r_60v_55, fun q0 => (allC c_60v_55_0 (allC c_60v_55_1 (allC c_60v_55_2 (allC c_60v_55_3 (allC c_60v_55_4 (allC c_60v_55_5 allN))))))⟩) (allC (.inl ⟨p_60v_89, r_60v_89, fun q0 => (allC c_60v_89_0 (allC c_60v_89_1 (allC c_60v_89_2 (allC c_60v_89_3 (allC c_60v_89_4 allN)))))⟩) allN)))
