/-! CONTRACTS of methods told more fully. -/
/- Reader.readLay (LMixStage$Cue;)V, more fully -/
def nb_75 (a0 a1 : Int) (h0 h : gH) : Prop := hK h0 (a1).toNat = 1 → 0 ≤ a1 → CUo h0 h a1 ∧ (∀ s : Nat, ¬ s = 2 → ¬ s = 3 → ¬ s = 4 → ¬ s = 5 → ¬ s = 8 → ¬ s = 9 → ¬ s = 10 → ¬ s = 12 → ¬ s = 13 → hV h (a1).toNat s = hV h0 (a1).toNat s) ∧ (hV h 30 3 = 0 → hV h (a1).toNat 2 = tvl (vwC h0) (absC h0) ∧ hV h (a1).toNat 4 = mkA (vwC h0) (lyQ (vwC h0) (absC h0)) ∧ hV h (a1).toNat 5 = frA (vwC h0) (lyQ (vwC h0) (absC h0)) ∧ hV h (a1).toNat 8 = opV (vwC h0) 27 (hV h0 (a1).toNat 8) (lyF (vwC h0) (absC h0)) ∧ hV h (a1).toNat 9 = opV (vwC h0) 28 (hV h0 (a1).toNat 9) (lyS (vwC h0) (absC h0)) ∧ hV h (a1).toNat 10 = opV (vwC h0) 29 (hV h0 (a1).toNat 10) (lyG (vwC h0) (absC h0)) ∧ hV h (a1).toNat 12 = opV (vwC h0) 30 (hV h0 (a1).toNat 12) (lyU (vwC h0) (absC h0)) ∧ hV h (a1).toNat 13 = opL (vwC h0) (hV h0 (a1).toNat 13) (lyU (vwC h0) (absC h0)))
def n_75 : List Int → gH → gH → Prop := fun xs h0 h => match xs with
  | [a0, a1] => nb_75 a0 a1 h0 h
  | _ => True
noncomputable def e_75vw : vE := eV e_75v n_75
noncomputable def L_75vw : List vE := [e_66v, e_67vw, e_81vw]
def Bb_75_49 (a0 a1 x0 x1 : Int) (h0 h : gH) : Prop := hK h0 (a1).toNat = 1 → 0 ≤ a1 → x1 = a1 ∧ CUo h0 h a1 ∧ (∀ s : Nat, ¬ s = 2 → ¬ s = 4 → ¬ s = 5 → ¬ s = 8 → hV h (a1).toNat s = hV h0 (a1).toNat s) ∧ (hV h 30 3 = 0 → hV h (a1).toNat 2 = tvl (vwC h0) (absC h0) ∧ hV h (a1).toNat 4 = mkA (vwC h0) (lyQ (vwC h0) (absC h0)) ∧ hV h (a1).toNat 5 = frA (vwC h0) (lyQ (vwC h0) (absC h0)) ∧ hV h (a1).toNat 8 = opV (vwC h0) 27 (hV h0 (a1).toNat 8) (lyF (vwC h0) (absC h0)))
def Bb_75_75 (a0 a1 x0 x1 : Int) (h0 h : gH) : Prop := hK h0 (a1).toNat = 1 → 0 ≤ a1 → x1 = a1 ∧ CUo h0 h a1 ∧ (∀ s : Nat, ¬ s = 2 → ¬ s = 4 → ¬ s = 5 → ¬ s = 8 → ¬ s = 9 → hV h (a1).toNat s = hV h0 (a1).toNat s) ∧ (hV h 30 3 = 0 → hV h (a1).toNat 2 = tvl (vwC h0) (absC h0) ∧ hV h (a1).toNat 4 = mkA (vwC h0) (lyQ (vwC h0) (absC h0)) ∧ hV h (a1).toNat 5 = frA (vwC h0) (lyQ (vwC h0) (absC h0)) ∧ hV h (a1).toNat 8 = opV (vwC h0) 27 (hV h0 (a1).toNat 8) (lyF (vwC h0) (absC h0)) ∧ hV h (a1).toNat 9 = opV (vwC h0) 28 (hV h0 (a1).toNat 9) (lyS (vwC h0) (absC h0)))
def Bb_75_102 (a0 a1 x0 x1 : Int) (h0 h : gH) : Prop := hK h0 (a1).toNat = 1 → 0 ≤ a1 → x1 = a1 ∧ CUo h0 h a1 ∧ (∀ s : Nat, ¬ s = 2 → ¬ s = 4 → ¬ s = 5 → ¬ s = 8 → ¬ s = 9 → ¬ s = 10 → hV h (a1).toNat s = hV h0 (a1).toNat s) ∧ (hV h 30 3 = 0 → hV h (a1).toNat 2 = tvl (vwC h0) (absC h0) ∧ hV h (a1).toNat 4 = mkA (vwC h0) (lyQ (vwC h0) (absC h0)) ∧ hV h (a1).toNat 5 = frA (vwC h0) (lyQ (vwC h0) (absC h0)) ∧ hV h (a1).toNat 8 = opV (vwC h0) 27 (hV h0 (a1).toNat 8) (lyF (vwC h0) (absC h0)) ∧ hV h (a1).toNat 9 = opV (vwC h0) 28 (hV h0 (a1).toNat 9) (lyS (vwC h0) (absC h0)) ∧ hV h (a1).toNat 10 = opV (vwC h0) 29 (hV h0 (a1).toNat 10) (lyG (vwC h0) (absC h0)))
def Bb_75_145 (a0 a1 x0 x1 : Int) (h0 h : gH) : Prop := hK h0 (a1).toNat = 1 → 0 ≤ a1 → x1 = a1 ∧ CUo h0 h a1 ∧ (∀ s : Nat, ¬ s = 2 → ¬ s = 4 → ¬ s = 5 → ¬ s = 8 → ¬ s = 9 → ¬ s = 10 → ¬ s = 12 → ¬ s = 13 → hV h (a1).toNat s = hV h0 (a1).toNat s) ∧ (hV h 30 3 = 0 → hV h (a1).toNat 2 = tvl (vwC h0) (absC h0) ∧ hV h (a1).toNat 4 = mkA (vwC h0) (lyQ (vwC h0) (absC h0)) ∧ hV h (a1).toNat 5 = frA (vwC h0) (lyQ (vwC h0) (absC h0)) ∧ hV h (a1).toNat 8 = opV (vwC h0) 27 (hV h0 (a1).toNat 8) (lyF (vwC h0) (absC h0)) ∧ hV h (a1).toNat 9 = opV (vwC h0) 28 (hV h0 (a1).toNat 9) (lyS (vwC h0) (absC h0)) ∧ hV h (a1).toNat 10 = opV (vwC h0) 29 (hV h0 (a1).toNat 10) (lyG (vwC h0) (absC h0)) ∧ hV h (a1).toNat 12 = opV (vwC h0) 30 (hV h0 (a1).toNat 12) (lyU (vwC h0) (absC h0)) ∧ hV h (a1).toNat 13 = opL (vwC h0) (hV h0 (a1).toNat 13) (lyU (vwC h0) (absC h0)))
def B_75 : Int → List Int → gH → gH → Prop := fun c xs h0 h => match c.toNat with
  | 49 => (match xs with
    | [a0, a1, x0, x1] => Bb_75_49 a0 a1 x0 x1 h0 h
    | _ => False)
  | 75 => (match xs with
    | [a0, a1, x0, x1] => Bb_75_75 a0 a1 x0 x1 h0 h
    | _ => False)
  | 102 => (match xs with
    | [a0, a1, x0, x1] => Bb_75_102 a0 a1 x0 x1 h0 h
    | _ => False)
  | 145 => (match xs with
    | [a0, a1, x0, x1] => Bb_75_145 a0 a1 x0 x1 h0 h
    | _ => False)
  | _ => True
theorem q_75vw_0 {n0 n1 n2 n3 n4 n5 n6 n7 n8 n9 : Int} {H0 H1 H2 H3 H4 : gH} (f0 : 0 ≤ n0) (f1 : n1 = 30) (f2 : hWt T0 H0 ∧ preb_75v n1 n0 H0) (f3 : n2 = 0) (f4 : n3 = 19) (f5 : n4 ≤ 2147483647) (f6 : (-2147483648) ≤ n4) (f7 : (hLe T0 H0 H1 ∧ hFr s_67v.2.2.2.2 H0 H1 ∧ ((0 : Int) = 0 → H1.length = H0.length) ∧ hWt T0 H1) ∧ (postb_67v n4 n1 n2 n3 H0 H1 ∧ nb_67 n4 n1 n2 n3 H0 H1)) (f8 : hK H1 (n0).toNat = 1) (f9 : n5 = 2) (f10 : hUpd H2 H1 n0 n5 n4) (f11 : n6 = 26) (f12 : (hLe T0 H2 H3 ∧ hFr s_66v.2.2.2.2 H2 H3 ∧ ((0 : Int) = 0 → H3.length = H2.length) ∧ hWt T0 H3) ∧ postb_66v n1 n6 H2 H3) (f13 : n7 = 0) (f14 : (hLe T0 H3 H4 ∧ hFr s_81v.2.2.2.2 H3 H4 ∧ ((0 : Int) = 0 → H4.length = H3.length) ∧ hWt T0 H4) ∧ (postb_81v n1 n0 n7 H3 H4 ∧ nb_81 n1 n0 n7 H3 H4)) (f15 : n8 ≤ 2147483647) (f16 : (-2147483648) ≤ n8) (f17 : hK H4 (n1).toNat = 4) (f18 : n8 = hV H4 (n1).toNat 2) (f19 : n9 = 27) (f20 : n8 ≠ n9) : Bb_75_49 n1 n0 n1 n0 H0 H4 := by
  unfold Bb_75_49
  intro hk cz
  have pz := f2.2
  unfold preb_75v at pz
  have c0 := f7.2.1
  unfold postb_67v at c0
  try rw [f3] at c0
  try rw [f4] at c0
  have a0 : absC H1 = (pnm (vwC H0) 0 19 (absC H0)) := c0.2
  have v0 : vwC H1 = vwC H0 := (vwC_fr f7.1.2.1 (by decide +kernel))
  have s1 := PF_up f10 c0.1 f8
  have a1 : absC H2 = (pnm (vwC H0) 0 19 (absC H0)) := s1.1.trans a0
  have v1 : vwC H2 = vwC H0 := s1.2.1.trans v0
  have c2 := f12.2
  unfold postb_66v at c2
  try rw [f11] at c2
  rw [v1] at c2
  rw [a1] at c2
  have a2 : absC H3 = (ptk (vwC H0) 26 (pnm (vwC H0) 0 19 (absC H0))) := c2.2
  have v2 : vwC H3 = vwC H0 := (vwC_fr f12.1.2.1 (by decide +kernel)).trans v1
  have c3 := f14.2.1
  unfold postb_81v at c3
  try rw [f13] at c3
  rw [v2] at c3
  rw [a2] at c3
  have a3 : absC H4 = (pTime (vwC H0) (ptk (vwC H0) 26 (pnm (vwC H0) 0 19 (absC H0)))) := c3.2
  have v3 : vwC H4 = vwC H0 := (vwC_fr f14.1.2.1 (by decide +kernel)).trans v2
  have b0 := kd_at c3.1
  rw [v3] at b0
  rw [a3] at b0
  have g0 := f18
  rw [f1] at g0
  rw [show ((30 : Int)).toNat = 30 from rfl] at g0
  have h0 : (pTime (vwC H0) (ptk (vwC H0) 26 (pnm (vwC H0) 0 19 (absC H0)))).1 < 0 ∨ ¬ (vwC H0).1 (pTime (vwC H0) (ptk (vwC H0) 26 (pnm (vwC H0) 0 19 (absC H0)))).1 = 27 := by
    rcases b0 with q | q
    · exact .inl q
    · right
      rw [q]
      omega
  have kc0 : hK H1 (n0).toNat = 1 := kLe f7.1.1 hk rfl
  have kc1 : hK H2 (n0).toNat = 1 := kUp f10 kc0
  have kc2 : hK H3 (n0).toNat = 1 := kLe f12.1.1 kc1 rfl
  have kc3 : hK H4 (n0).toNat = 1 := kLe f14.1.1 kc2 rfl
  have ow14 := f14.2.2
  unfold nb_81 at ow14
  have ow14 := ow14 kc2 cz
  try rw [f1] at ow14
  try rw [f13] at ow14
  refine ⟨rfl, (CUo_tr (CUo_fr f7.1.1 f7.1.2.1 (by decide +kernel)) (CUo_tr (CUo_up f10) (CUo_tr (CUo_fr f12.1.1 f12.1.2.1 (by decide +kernel)) ow14.1))), fun s h2 h4 h5 h8 => ((ow14.2.1 rfl).1 s h4 h5).trans ((fr1 f12.1.2.1 (by decide +kernel) kc1 s).trans ((uSlot f10 _ s (by have w := f9; omega)).trans (fr1 f7.1.2.1 (by decide +kernel) hk s))), fun hf => ?_⟩
  have hzH3 := fzE c2.1 c3.1 a2 a3 (fun n k => pTime_neg (vwC_ok H0) n k) hf
  have hzH2 := fzE s1.2.2 c2.1 a1 a2 (fun n k => ptk_neg n k) hzH3.1
  have hzH1 := fzE c0.1 s1.2.2 a0 a1 (fun _ _ => rfl) hzH2.1
  have hzH0 := fzE pz c0.1 rfl a0 (fun n k => pnm_neg n k) hzH1.1
  have tv7 : n4 = tvl (vwC H0) (absC H0) := by
    have w := f7.2.2
    unfold nb_67 at w
    have w := w hzH1.1
    exact w
  have tm14 := (ow14.2.1 rfl).2 hf
  rw [v2, a2] at tm14
  have kb27 := kdN h0 (posE c3.1 a3 hf)
  exact ⟨(((ow14.2.1 rfl).1 2 (by decide) (by decide)).trans ((fr1 f12.1.2.1 (by decide +kernel) kc1 2).trans (uSame f10 _ 2 (Int.toNat_of_nonneg cz) (by rw [f9]; rfl)))).trans tv7, (tm14.1), (tm14.2), (((ow14.2.1 rfl).1 8 (by decide) (by decide)).trans ((fr1 f12.1.2.1 (by decide +kernel) kc1 8).trans ((uSlot f10 _ 8 (by rw [f9]; decide)).trans (fr1 f7.1.2.1 (by decide +kernel) hk 8)))).trans ((opV_no (p := lyF (vwC H0) (absC H0)) kb27).symm)⟩
def g_75vw_s_0 : vG := ([(41, [8, 9], [], 0), (0, [9], [], 27), (20, [8, 0], [4], 2), (23, [0], [4], 4), (90, [8], [], -2147483648), (91, [8], [], 2147483647), (1081, [0, 1, 7], [3, 4], 0), (0, [7], [], 0), (1066, [0, 6], [2, 3], 0), (0, [6], [], 26), (80, [1, 5, 4], [2, 1], 0), (0, [5], [], 2), (23, [1], [1], 1), (1067, [4, 0, 2, 3], [0, 1], 0), (90, [4], [], -2147483648), (91, [4], [], 2147483647), (0, [3], [], 19), (0, [2], [], 0), (6000, [0, 1], [0], 0), (0, [0], [], 30), (51, [1], [], 0)], (4000, [0, 1], [4], 49))
theorem c_75vw_s_0 : vOkm T0 (eN e_75v L_75vw A_75v mu_75v n_75 B_75 none) 2 g_75vw_s_0 := vOk_inI fun ρ η f0 f1 f2 f3 f4 f5 f6 f7 f8 f9 f10 f11 f12 f13 f14 f15 f16 f17 f18 f19 f20 => q_75vw_0 (n0 := ρ 1) (n1 := ρ 0) (n2 := ρ 2) (n3 := ρ 3) (n4 := ρ 4) (n5 := ρ 5) (n6 := ρ 6) (n7 := ρ 7) (n8 := ρ 8) (n9 := ρ 9) (H0 := η 0) (H1 := η 1) (H2 := η 2) (H3 := η 3) (H4 := η 4) f20 f19 f18 f17 f16 f15 f14 f13 f12 f11 f10 f9 f8 f7 f6 f5 f4 f3 f2 f1 f0
theorem q_75vw_1 {n0 n1 n2 n3 n4 n5 n6 n7 n8 n9 n10 n11 n12 n13 n14 : Int} {H0 H1 H2 H3 H4 H5 H6 H7 : gH} (f0 : 0 ≤ n0) (f1 : n1 = 30) (f2 : hWt T0 H0 ∧ preb_75v n1 n0 H0) (f3 : n2 = 0) (f4 : n3 = 19) (f5 : n4 ≤ 2147483647) (f6 : (-2147483648) ≤ n4) (f7 : (hLe T0 H0 H1 ∧ hFr s_67v.2.2.2.2 H0 H1 ∧ ((0 : Int) = 0 → H1.length = H0.length) ∧ hWt T0 H1) ∧ (postb_67v n4 n1 n2 n3 H0 H1 ∧ nb_67 n4 n1 n2 n3 H0 H1)) (f8 : hK H1 (n0).toNat = 1) (f9 : n5 = 2) (f10 : hUpd H2 H1 n0 n5 n4) (f11 : n6 = 26) (f12 : (hLe T0 H2 H3 ∧ hFr s_66v.2.2.2.2 H2 H3 ∧ ((0 : Int) = 0 → H3.length = H2.length) ∧ hWt T0 H3) ∧ postb_66v n1 n6 H2 H3) (f13 : n7 = 0) (f14 : (hLe T0 H3 H4 ∧ hFr s_81v.2.2.2.2 H3 H4 ∧ ((0 : Int) = 0 → H4.length = H3.length) ∧ hWt T0 H4) ∧ (postb_81v n1 n0 n7 H3 H4 ∧ nb_81 n1 n0 n7 H3 H4)) (f15 : n8 ≤ 2147483647) (f16 : (-2147483648) ≤ n8) (f17 : hK H4 (n1).toNat = 4) (f18 : n8 = hV H4 (n1).toNat 2) (f19 : n9 = 27) (f20 : n8 = n9) (f21 : n10 = 27) (f22 : (hLe T0 H4 H5 ∧ hFr s_66v.2.2.2.2 H4 H5 ∧ ((0 : Int) = 0 → H5.length = H4.length) ∧ hWt T0 H5) ∧ postb_66v n1 n10 H4 H5) (f23 : n11 = 0) (f24 : n12 = 60) (f25 : n13 ≤ 2147483647) (f26 : (-2147483648) ≤ n13) (f27 : (hLe T0 H5 H6 ∧ hFr s_67v.2.2.2.2 H5 H6 ∧ ((0 : Int) = 0 → H6.length = H5.length) ∧ hWt T0 H6) ∧ (postb_67v n13 n1 n11 n12 H5 H6 ∧ nb_67 n13 n1 n11 n12 H5 H6)) (f28 : hK H6 (n0).toNat = 1) (f29 : n14 = 8) (f30 : hUpd H7 H6 n0 n14 n13) : Bb_75_49 n1 n0 n1 n0 H0 H7 := by
  unfold Bb_75_49
  intro hk cz
  have pz := f2.2
  unfold preb_75v at pz
  have c0 := f7.2.1
  unfold postb_67v at c0
  try rw [f3] at c0
  try rw [f4] at c0
  have a0 : absC H1 = (pnm (vwC H0) 0 19 (absC H0)) := c0.2
  have v0 : vwC H1 = vwC H0 := (vwC_fr f7.1.2.1 (by decide +kernel))
  have s1 := PF_up f10 c0.1 f8
  have a1 : absC H2 = (pnm (vwC H0) 0 19 (absC H0)) := s1.1.trans a0
  have v1 : vwC H2 = vwC H0 := s1.2.1.trans v0
  have c2 := f12.2
  unfold postb_66v at c2
  try rw [f11] at c2
  rw [v1] at c2
  rw [a1] at c2
  have a2 : absC H3 = (ptk (vwC H0) 26 (pnm (vwC H0) 0 19 (absC H0))) := c2.2
  have v2 : vwC H3 = vwC H0 := (vwC_fr f12.1.2.1 (by decide +kernel)).trans v1
  have c3 := f14.2.1
  unfold postb_81v at c3
  try rw [f13] at c3
  rw [v2] at c3
  rw [a2] at c3
  have a3 : absC H4 = (pTime (vwC H0) (ptk (vwC H0) 26 (pnm (vwC H0) 0 19 (absC H0)))) := c3.2
  have v3 : vwC H4 = vwC H0 := (vwC_fr f14.1.2.1 (by decide +kernel)).trans v2
  have c4 := f22.2
  unfold postb_66v at c4
  try rw [f21] at c4
  rw [v3] at c4
  rw [a3] at c4
  have a4 : absC H5 = (ptk (vwC H0) 27 (pTime (vwC H0) (ptk (vwC H0) 26 (pnm (vwC H0) 0 19 (absC H0))))) := c4.2
  have v4 : vwC H5 = vwC H0 := (vwC_fr f22.1.2.1 (by decide +kernel)).trans v3
  have c5 := f27.2.1
  unfold postb_67v at c5
  try rw [f23] at c5
  try rw [f24] at c5
  rw [v4] at c5
  rw [a4] at c5
  have a5 : absC H6 = (pnm (vwC H0) 0 60 (ptk (vwC H0) 27 (pTime (vwC H0) (ptk (vwC H0) 26 (pnm (vwC H0) 0 19 (absC H0)))))) := c5.2
  have v5 : vwC H6 = vwC H0 := (vwC_fr f27.1.2.1 (by decide +kernel)).trans v4
  have s6 := PF_up f30 c5.1 f28
  have a6 : absC H7 = (pnm (vwC H0) 0 60 (ptk (vwC H0) 27 (pTime (vwC H0) (ptk (vwC H0) 26 (pnm (vwC H0) 0 19 (absC H0)))))) := s6.1.trans a5
  have v6 : vwC H7 = vwC H0 := s6.2.1.trans v5
  have b0 := kd_at c3.1
  rw [v3] at b0
  rw [a3] at b0
  have g0 := f18
  rw [f1] at g0
  rw [show ((30 : Int)).toNat = 30 from rfl] at g0
  have h0 : (pTime (vwC H0) (ptk (vwC H0) 26 (pnm (vwC H0) 0 19 (absC H0)))).1 < 0 ∨ (vwC H0).1 (pTime (vwC H0) (ptk (vwC H0) 26 (pnm (vwC H0) 0 19 (absC H0)))).1 = 27 := by
    rcases b0 with q | q
    · exact .inl q
    · right
      rw [q]
      omega
  have kc0 : hK H1 (n0).toNat = 1 := kLe f7.1.1 hk rfl
  have kc1 : hK H2 (n0).toNat = 1 := kUp f10 kc0
  have kc2 : hK H3 (n0).toNat = 1 := kLe f12.1.1 kc1 rfl
  have kc3 : hK H4 (n0).toNat = 1 := kLe f14.1.1 kc2 rfl
  have ow14 := f14.2.2
  unfold nb_81 at ow14
  have ow14 := ow14 kc2 cz
  try rw [f1] at ow14
  try rw [f13] at ow14
  have kc4 : hK H5 (n0).toNat = 1 := kLe f22.1.1 kc3 rfl
  have kc5 : hK H6 (n0).toNat = 1 := kLe f27.1.1 kc4 rfl
  have kc6 : hK H7 (n0).toNat = 1 := kUp f30 kc5
  refine ⟨rfl, (CUo_tr (CUo_fr f7.1.1 f7.1.2.1 (by decide +kernel)) (CUo_tr (CUo_up f10) (CUo_tr (CUo_fr f12.1.1 f12.1.2.1 (by decide +kernel)) (CUo_tr ow14.1 (CUo_tr (CUo_fr f22.1.1 f22.1.2.1 (by decide +kernel)) (CUo_tr (CUo_fr f27.1.1 f27.1.2.1 (by decide +kernel)) (CUo_up f30))))))), fun s h2 h4 h5 h8 => (uSlot f30 _ s (by have w := f29; omega)).trans ((fr1 f27.1.2.1 (by decide +kernel) kc4 s).trans ((fr1 f22.1.2.1 (by decide +kernel) kc3 s).trans (((ow14.2.1 rfl).1 s h4 h5).trans ((fr1 f12.1.2.1 (by decide +kernel) kc1 s).trans ((uSlot f10 _ s (by have w := f9; omega)).trans (fr1 f7.1.2.1 (by decide +kernel) hk s)))))), fun hf => ?_⟩
  have hzH6 := fzE c5.1 s6.2.2 a5 a6 (fun _ _ => rfl) hf
  have hzH5 := fzE c4.1 c5.1 a4 a5 (fun n k => pnm_neg n k) hzH6.1
  have hzH4 := fzE c3.1 c4.1 a3 a4 (fun n k => ptk_neg n k) hzH5.1
  have hzH3 := fzE c2.1 c3.1 a2 a3 (fun n k => pTime_neg (vwC_ok H0) n k) hzH4.1
  have hzH2 := fzE s1.2.2 c2.1 a1 a2 (fun n k => ptk_neg n k) hzH3.1
  have hzH1 := fzE c0.1 s1.2.2 a0 a1 (fun _ _ => rfl) hzH2.1
  have hzH0 := fzE pz c0.1 rfl a0 (fun n k => pnm_neg n k) hzH1.1
  have tv7 : n4 = tvl (vwC H0) (absC H0) := by
    have w := f7.2.2
    unfold nb_67 at w
    have w := w hzH1.1
    exact w
  have tv27 : n13 = tvl (vwC H0) (ptk (vwC H0) 27 (pTime (vwC H0) (ptk (vwC H0) 26 (pnm (vwC H0) 0 19 (absC H0))))) := by
    have w := f27.2.2
    unfold nb_67 at w
    have w := w hzH6.1
    rw [v4, a4] at w
    exact w
  have tm14 := (ow14.2.1 rfl).2 hzH4.1
  rw [v2, a2] at tm14
  have kb27 := kdE h0 (hzH4.2)
  exact ⟨((uSlot f30 _ 2 (by rw [f29]; decide)).trans ((fr1 f27.1.2.1 (by decide +kernel) kc4 2).trans ((fr1 f22.1.2.1 (by decide +kernel) kc3 2).trans (((ow14.2.1 rfl).1 2 (by decide) (by decide)).trans ((fr1 f12.1.2.1 (by decide +kernel) kc1 2).trans (uSame f10 _ 2 (Int.toNat_of_nonneg cz) (by rw [f9]; rfl))))))).trans tv7, ((uSlot f30 _ 4 (by rw [f29]; decide)).trans ((fr1 f27.1.2.1 (by decide +kernel) kc4 4).trans ((fr1 f22.1.2.1 (by decide +kernel) kc3 4).trans (tm14.1)))), ((uSlot f30 _ 5 (by rw [f29]; decide)).trans ((fr1 f27.1.2.1 (by decide +kernel) kc4 5).trans ((fr1 f22.1.2.1 (by decide +kernel) kc3 5).trans (tm14.2)))), (uSame f30 _ 8 (Int.toNat_of_nonneg cz) (by rw [f29]; rfl)).trans (tv27.trans (opV_yes (p := lyF (vwC H0) (absC H0)) kb27).symm)⟩
def g_75vw_s_1 : vG := ([(80, [1, 14, 13], [7, 6], 0), (0, [14], [], 8), (23, [1], [6], 1), (1067, [13, 0, 11, 12], [5, 6], 0), (90, [13], [], -2147483648), (91, [13], [], 2147483647), (0, [12], [], 60), (0, [11], [], 0), (1066, [0, 10], [4, 5], 0), (0, [10], [], 27), (40, [8, 9], [], 0), (0, [9], [], 27), (20, [8, 0], [4], 2), (23, [0], [4], 4), (90, [8], [], -2147483648), (91, [8], [], 2147483647), (1081, [0, 1, 7], [3, 4], 0), (0, [7], [], 0), (1066, [0, 6], [2, 3], 0), (0, [6], [], 26), (80, [1, 5, 4], [2, 1], 0), (0, [5], [], 2), (23, [1], [1], 1), (1067, [4, 0, 2, 3], [0, 1], 0), (90, [4], [], -2147483648), (91, [4], [], 2147483647), (0, [3], [], 19), (0, [2], [], 0), (6000, [0, 1], [0], 0), (0, [0], [], 30), (51, [1], [], 0)], (4000, [0, 1], [7], 49))
theorem c_75vw_s_1 : vOkm T0 (eN e_75v L_75vw A_75v mu_75v n_75 B_75 none) 2 g_75vw_s_1 := vOk_inI fun ρ η f0 f1 f2 f3 f4 f5 f6 f7 f8 f9 f10 f11 f12 f13 f14 f15 f16 f17 f18 f19 f20 f21 f22 f23 f24 f25 f26 f27 f28 f29 f30 => q_75vw_1 (n0 := ρ 1) (n1 := ρ 0) (n2 := ρ 2) (n3 := ρ 3) (n4 := ρ 4) (n5 := ρ 5) (n6 := ρ 6) (n7 := ρ 7) (n8 := ρ 8) (n9 := ρ 9) (n10 := ρ 10) (n11 := ρ 11) (n12 := ρ 12) (n13 := ρ 13) (n14 := ρ 14) (H0 := η 0) (H1 := η 1) (H2 := η 2) (H3 := η 3) (H4 := η 4) (H5 := η 5) (H6 := η 6) (H7 := η 7) f30 f29 f28 f27 f26 f25 f24 f23 f22 f21 f20 f19 f18 f17 f16 f15 f14 f13 f12 f11 f10 f9 f8 f7 f6 f5 f4 f3 f2 f1 f0
def p_75vw_s : List vG := [g_75vw_s_0,
  g_75vw_s_1]
theorem r_75vw_s : vCovBO (eR0 e_75v L_75v cs_75v 2000) p_75vw_s = true := by decide +kernel
theorem q_75vw_2 {q0 : Nat} {n0 n1 n2 n3 n4 n5 : Int} {H0 H1 : gH} (f0 : 0 ≤ n0) (f1 : n1 = 30) (f2 : 0 ≤ n2) (f3 : n3 = 30) (f4 : (hLe T0 H0 H1 ∧ hFr s_75v.2.2.2.2 H0 H1 ∧ hWt T0 H1) ∧ ((Ab_75v_49 n3 n2 n1 n0 H0 H1 ∧ Bb_75_49 n3 n2 n1 n0 H0 H1) ∧ preb_75v n3 n2 H0) ∧ some q0 = some (mub_75v_49 n3 n2 n1 n0 H0 H1)) (f5 : n4 ≤ 2147483647) (f6 : (-2147483648) ≤ n4) (f7 : hK H1 (n1).toNat = 4) (f8 : n4 = hV H1 (n1).toNat 2) (f9 : n5 = 28) (f10 : n4 ≠ n5) : Bb_75_75 n3 n2 n1 n0 H0 H1 := by
  unfold Bb_75_75
  intro hk cz
  have pz := f4.2.1.2
  unfold preb_75v at pz
  have ga := f4.2.1.1.1
  unfold Ab_75v_49 at ga
  have vz : vwC H1 = vwC H0 := vwC_fr f4.1.2.1 (by decide +kernel)
  have b0 := kd_at ga.1
  rw [vz] at b0
  rw [ga.2] at b0
  have g0 := f8
  rw [f1] at g0
  rw [show ((30 : Int)).toNat = 30 from rfl] at g0
  have h0 : (pOpt (vwC H0) 27 0 60 (pTime (vwC H0) (ptk (vwC H0) 26 (pnm (vwC H0) 0 19 (absC H0))))).1 < 0 ∨ ¬ (vwC H0).1 (pOpt (vwC H0) 27 0 60 (pTime (vwC H0) (ptk (vwC H0) 26 (pnm (vwC H0) 0 19 (absC H0))))).1 = 28 := by
    rcases b0 with q | q
    · exact .inl q
    · right
      rw [q]
      omega
  have gb := f4.2.1.1.2
  unfold Bb_75_49 at gb
  obtain ⟨gx, go, gs, gt⟩ := gb hk cz
  have hk1 : hK H1 (n0).toNat = 1 := by
    rw [gx]
    exact (go _ hk).1
  have cz1 : 0 ≤ n0 := by omega
  refine ⟨gx, go, fun s h2 h4 h5 h8 h9 => (gs s h2 h4 h5 h8), fun hf => ?_⟩
  have kb28 := kdN h0 (posE ga.1 ga.2 hf)
  have gt := gt hf
  obtain ⟨g2_, g4_, g5_, g8_⟩ := gt
  exact ⟨g2_, g4_, g5_, g8_, (by
    have w := show hV H1 (n0).toNat 9 = hV H1 (n0).toNat 9 from rfl
    rw [gx] at w
    exact w.trans ((gs 9 (by decide) (by decide) (by decide) (by decide)).trans (opV_no (p := lyS (vwC H0) (absC H0)) kb28).symm))⟩
def g_75vw_49_0 : vG := ([(41, [4, 5], [], 0), (0, [5], [], 28), (20, [4, 2], [1], 2), (23, [2], [1], 4), (90, [4], [], -2147483648), (91, [4], [], 2147483647), (5000, [0, 1, 2, 3], [0, 1], 49), (0, [0], [], 30), (51, [1], [], 0), (0, [2], [], 30), (51, [3], [], 0)], (4000, [2, 3], [1], 75))
theorem c_75vw_49_0 {q0 : Nat} : vOkm T0 (eN e_75v L_75vw A_75v mu_75v n_75 B_75 (some q0)) 2 g_75vw_49_0 := vOk_inI fun ρ η f0 f1 f2 f3 f4 f5 f6 f7 f8 f9 f10 => q_75vw_2 (q0 := q0) (n0 := ρ 3) (n1 := ρ 2) (n2 := ρ 1) (n3 := ρ 0) (n4 := ρ 4) (n5 := ρ 5) (H0 := η 0) (H1 := η 1) f10 f9 f8 f7 f6 f5 f4 f3 f2 f1 f0
theorem q_75vw_3 {q0 : Nat} {n0 n1 n2 n3 n4 n5 n6 n7 n8 n9 n10 : Int} {H0 H1 H2 H3 H4 : gH} (f0 : 0 ≤ n0) (f1 : n1 = 30) (f2 : 0 ≤ n2) (f3 : n3 = 30) (f4 : (hLe T0 H0 H1 ∧ hFr s_75v.2.2.2.2 H0 H1 ∧ hWt T0 H1) ∧ ((Ab_75v_49 n3 n2 n1 n0 H0 H1 ∧ Bb_75_49 n3 n2 n1 n0 H0 H1) ∧ preb_75v n3 n2 H0) ∧ some q0 = some (mub_75v_49 n3 n2 n1 n0 H0 H1)) (f5 : n4 ≤ 2147483647) (f6 : (-2147483648) ≤ n4) (f7 : hK H1 (n1).toNat = 4) (f8 : n4 = hV H1 (n1).toNat 2) (f9 : n5 = 28) (f10 : n4 = n5) (f11 : n6 = 28) (f12 : (hLe T0 H1 H2 ∧ hFr s_66v.2.2.2.2 H1 H2 ∧ ((0 : Int) = 0 → H2.length = H1.length) ∧ hWt T0 H2) ∧ postb_66v n1 n6 H1 H2) (f13 : n7 = 0) (f14 : n8 = 60) (f15 : n9 ≤ 2147483647) (f16 : (-2147483648) ≤ n9) (f17 : (hLe T0 H2 H3 ∧ hFr s_67v.2.2.2.2 H2 H3 ∧ ((0 : Int) = 0 → H3.length = H2.length) ∧ hWt T0 H3) ∧ (postb_67v n9 n1 n7 n8 H2 H3 ∧ nb_67 n9 n1 n7 n8 H2 H3)) (f18 : hK H3 (n0).toNat = 1) (f19 : n10 = 9) (f20 : hUpd H4 H3 n0 n10 n9) : Bb_75_75 n3 n2 n1 n0 H0 H4 := by
  unfold Bb_75_75
  intro hk cz
  have pz := f4.2.1.2
  unfold preb_75v at pz
  have ga := f4.2.1.1.1
  unfold Ab_75v_49 at ga
  have vz : vwC H1 = vwC H0 := vwC_fr f4.1.2.1 (by decide +kernel)
  have c0 := f12.2
  unfold postb_66v at c0
  try rw [f11] at c0
  rw [vz] at c0
  rw [ga.2] at c0
  have a0 : absC H2 = (ptk (vwC H0) 28 (pOpt (vwC H0) 27 0 60 (pTime (vwC H0) (ptk (vwC H0) 26 (pnm (vwC H0) 0 19 (absC H0)))))) := c0.2
  have v0 : vwC H2 = vwC H0 := (vwC_fr f12.1.2.1 (by decide +kernel)).trans vz
  have c1 := f17.2.1
  unfold postb_67v at c1
  try rw [f13] at c1
  try rw [f14] at c1
  rw [v0] at c1
  rw [a0] at c1
  have a1 : absC H3 = (pnm (vwC H0) 0 60 (ptk (vwC H0) 28 (pOpt (vwC H0) 27 0 60 (pTime (vwC H0) (ptk (vwC H0) 26 (pnm (vwC H0) 0 19 (absC H0))))))) := c1.2
  have v1 : vwC H3 = vwC H0 := (vwC_fr f17.1.2.1 (by decide +kernel)).trans v0
  have s2 := PF_up f20 c1.1 f18
  have a2 : absC H4 = (pnm (vwC H0) 0 60 (ptk (vwC H0) 28 (pOpt (vwC H0) 27 0 60 (pTime (vwC H0) (ptk (vwC H0) 26 (pnm (vwC H0) 0 19 (absC H0))))))) := s2.1.trans a1
  have v2 : vwC H4 = vwC H0 := s2.2.1.trans v1
  have b0 := kd_at ga.1
  rw [vz] at b0
  rw [ga.2] at b0
  have g0 := f8
  rw [f1] at g0
  rw [show ((30 : Int)).toNat = 30 from rfl] at g0
  have h0 : (pOpt (vwC H0) 27 0 60 (pTime (vwC H0) (ptk (vwC H0) 26 (pnm (vwC H0) 0 19 (absC H0))))).1 < 0 ∨ (vwC H0).1 (pOpt (vwC H0) 27 0 60 (pTime (vwC H0) (ptk (vwC H0) 26 (pnm (vwC H0) 0 19 (absC H0))))).1 = 28 := by
    rcases b0 with q | q
    · exact .inl q
    · right
      rw [q]
      omega
  have gb := f4.2.1.1.2
  unfold Bb_75_49 at gb
  obtain ⟨gx, go, gs, gt⟩ := gb hk cz
  have hk1 : hK H1 (n0).toNat = 1 := by
    rw [gx]
    exact (go _ hk).1
  have cz1 : 0 ≤ n0 := by omega
  have kc0 : hK H2 (n0).toNat = 1 := kLe f12.1.1 hk1 rfl
  have kc1 : hK H3 (n0).toNat = 1 := kLe f17.1.1 kc0 rfl
  have kc2 : hK H4 (n0).toNat = 1 := kUp f20 kc1
  have cu : CUo H1 H4 n0 := (CUo_tr (CUo_fr f12.1.1 f12.1.2.1 (by decide +kernel)) (CUo_tr (CUo_fr f17.1.1 f17.1.2.1 (by decide +kernel)) (CUo_up f20)))
  rw [gx] at cu
  have sm : ∀ s : Nat, ¬ s = 9 → hV H4 (n0).toNat s = hV H1 (n0).toNat s := fun s h9 => (uSlot f20 _ s (by have w := f19; omega)).trans ((fr1 f17.1.2.1 (by decide +kernel) kc0 s).trans (fr1 f12.1.2.1 (by decide +kernel) hk1 s))
  rw [gx] at sm
  refine ⟨gx, CUo_tr go cu, fun s h2 h4 h5 h8 h9 => (sm s h9).trans (gs s h2 h4 h5 h8), fun hf => ?_⟩
  have hzH3 := fzE c1.1 s2.2.2 a1 a2 (fun _ _ => rfl) hf
  have hzH2 := fzE c0.1 c1.1 a0 a1 (fun n k => pnm_neg n k) hzH3.1
  have hzH1 := fzE ga.1 c0.1 ga.2 a0 (fun n k => ptk_neg n k) hzH2.1
  have tv17 : n9 = tvl (vwC H0) (ptk (vwC H0) 28 (pOpt (vwC H0) 27 0 60 (pTime (vwC H0) (ptk (vwC H0) 26 (pnm (vwC H0) 0 19 (absC H0)))))) := by
    have w := f17.2.2
    unfold nb_67 at w
    have w := w hzH3.1
    rw [v0, a0] at w
    exact w
  have kb28 := kdE h0 (hzH1.2)
  have gt := gt hzH1.1
  obtain ⟨g2_, g4_, g5_, g8_⟩ := gt
  exact ⟨(by
    have w := (uSlot f20 _ 2 (by rw [f19]; decide)).trans ((fr1 f17.1.2.1 (by decide +kernel) kc0 2).trans (fr1 f12.1.2.1 (by decide +kernel) hk1 2))
    rw [gx] at w
    exact w.trans g2_), (by
    have w := (uSlot f20 _ 4 (by rw [f19]; decide)).trans ((fr1 f17.1.2.1 (by decide +kernel) kc0 4).trans (fr1 f12.1.2.1 (by decide +kernel) hk1 4))
    rw [gx] at w
    exact w.trans g4_), (by
    have w := (uSlot f20 _ 5 (by rw [f19]; decide)).trans ((fr1 f17.1.2.1 (by decide +kernel) kc0 5).trans (fr1 f12.1.2.1 (by decide +kernel) hk1 5))
    rw [gx] at w
    exact w.trans g5_), (by
    have w := (uSlot f20 _ 8 (by rw [f19]; decide)).trans ((fr1 f17.1.2.1 (by decide +kernel) kc0 8).trans (fr1 f12.1.2.1 (by decide +kernel) hk1 8))
    rw [gx] at w
    exact w.trans g8_), (by
    have w := uSame f20 _ 9 (Int.toNat_of_nonneg cz1) (by rw [f19]; rfl)
    rw [gx] at w
    exact w.trans (tv17.trans (opV_yes (p := lyS (vwC H0) (absC H0)) kb28).symm))⟩
def g_75vw_49_1 : vG := ([(80, [3, 10, 9], [4, 3], 0), (0, [10], [], 9), (23, [3], [3], 1), (1067, [9, 2, 7, 8], [2, 3], 0), (90, [9], [], -2147483648), (91, [9], [], 2147483647), (0, [8], [], 60), (0, [7], [], 0), (1066, [2, 6], [1, 2], 0), (0, [6], [], 28), (40, [4, 5], [], 0), (0, [5], [], 28), (20, [4, 2], [1], 2), (23, [2], [1], 4), (90, [4], [], -2147483648), (91, [4], [], 2147483647), (5000, [0, 1, 2, 3], [0, 1], 49), (0, [0], [], 30), (51, [1], [], 0), (0, [2], [], 30), (51, [3], [], 0)], (4000, [2, 3], [4], 75))
theorem c_75vw_49_1 {q0 : Nat} : vOkm T0 (eN e_75v L_75vw A_75v mu_75v n_75 B_75 (some q0)) 2 g_75vw_49_1 := vOk_inI fun ρ η f0 f1 f2 f3 f4 f5 f6 f7 f8 f9 f10 f11 f12 f13 f14 f15 f16 f17 f18 f19 f20 => q_75vw_3 (q0 := q0) (n0 := ρ 3) (n1 := ρ 2) (n2 := ρ 1) (n3 := ρ 0) (n4 := ρ 4) (n5 := ρ 5) (n6 := ρ 6) (n7 := ρ 7) (n8 := ρ 8) (n9 := ρ 9) (n10 := ρ 10) (H0 := η 0) (H1 := η 1) (H2 := η 2) (H3 := η 3) (H4 := η 4) f20 f19 f18 f17 f16 f15 f14 f13 f12 f11 f10 f9 f8 f7 f6 f5 f4 f3 f2 f1 f0
def p_75vw_49 : List vG := [g_75vw_49_0,
  g_75vw_49_1]
theorem r_75vw_49 : vCovBO (eRc e_75v L_75v cs_75v 2000 (49, [(0, (3, 4, 30, 0)), (1, (3, 1, -1, 0))])) p_75vw_49 = true := by decide +kernel
theorem q_75vw_4 {q0 : Nat} {n0 n1 n2 n3 n4 n5 : Int} {H0 H1 : gH} (f0 : 0 ≤ n0) (f1 : n1 = 30) (f2 : 0 ≤ n2) (f3 : n3 = 30) (f4 : (hLe T0 H0 H1 ∧ hFr s_75v.2.2.2.2 H0 H1 ∧ hWt T0 H1) ∧ ((Ab_75v_75 n3 n2 n1 n0 H0 H1 ∧ Bb_75_75 n3 n2 n1 n0 H0 H1) ∧ preb_75v n3 n2 H0) ∧ some q0 = some (mub_75v_75 n3 n2 n1 n0 H0 H1)) (f5 : n4 ≤ 2147483647) (f6 : (-2147483648) ≤ n4) (f7 : hK H1 (n1).toNat = 4) (f8 : n4 = hV H1 (n1).toNat 2) (f9 : n5 = 29) (f10 : n4 ≠ n5) : Bb_75_102 n3 n2 n1 n0 H0 H1 := by
  unfold Bb_75_102
  intro hk cz
  have pz := f4.2.1.2
  unfold preb_75v at pz
  have ga := f4.2.1.1.1
  unfold Ab_75v_75 at ga
  have vz : vwC H1 = vwC H0 := vwC_fr f4.1.2.1 (by decide +kernel)
  have b0 := kd_at ga.1
  rw [vz] at b0
  rw [ga.2] at b0
  have g0 := f8
  rw [f1] at g0
  rw [show ((30 : Int)).toNat = 30 from rfl] at g0
  have h0 : (pOpt (vwC H0) 28 0 60 (pOpt (vwC H0) 27 0 60 (pTime (vwC H0) (ptk (vwC H0) 26 (pnm (vwC H0) 0 19 (absC H0)))))).1 < 0 ∨ ¬ (vwC H0).1 (pOpt (vwC H0) 28 0 60 (pOpt (vwC H0) 27 0 60 (pTime (vwC H0) (ptk (vwC H0) 26 (pnm (vwC H0) 0 19 (absC H0)))))).1 = 29 := by
    rcases b0 with q | q
    · exact .inl q
    · right
      rw [q]
      omega
  have gb := f4.2.1.1.2
  unfold Bb_75_75 at gb
  obtain ⟨gx, go, gs, gt⟩ := gb hk cz
  have hk1 : hK H1 (n0).toNat = 1 := by
    rw [gx]
    exact (go _ hk).1
  have cz1 : 0 ≤ n0 := by omega
  refine ⟨gx, go, fun s h2 h4 h5 h8 h9 h10 => (gs s h2 h4 h5 h8 h9), fun hf => ?_⟩
  have kb29 := kdN h0 (posE ga.1 ga.2 hf)
  have gt := gt hf
  obtain ⟨g2_, g4_, g5_, g8_, g9_⟩ := gt
  exact ⟨g2_, g4_, g5_, g8_, g9_, (by
    have w := show hV H1 (n0).toNat 10 = hV H1 (n0).toNat 10 from rfl
    rw [gx] at w
    exact w.trans ((gs 10 (by decide) (by decide) (by decide) (by decide) (by decide)).trans (opV_no (p := lyG (vwC H0) (absC H0)) kb29).symm))⟩
def g_75vw_75_0 : vG := ([(41, [4, 5], [], 0), (0, [5], [], 29), (20, [4, 2], [1], 2), (23, [2], [1], 4), (90, [4], [], -2147483648), (91, [4], [], 2147483647), (5000, [0, 1, 2, 3], [0, 1], 75), (0, [0], [], 30), (51, [1], [], 0), (0, [2], [], 30), (51, [3], [], 0)], (4000, [2, 3], [1], 102))
theorem c_75vw_75_0 {q0 : Nat} : vOkm T0 (eN e_75v L_75vw A_75v mu_75v n_75 B_75 (some q0)) 2 g_75vw_75_0 := vOk_inI fun ρ η f0 f1 f2 f3 f4 f5 f6 f7 f8 f9 f10 => q_75vw_4 (q0 := q0) (n0 := ρ 3) (n1 := ρ 2) (n2 := ρ 1) (n3 := ρ 0) (n4 := ρ 4) (n5 := ρ 5) (H0 := η 0) (H1 := η 1) f10 f9 f8 f7 f6 f5 f4 f3 f2 f1 f0
theorem q_75vw_5 {q0 : Nat} {n0 n1 n2 n3 n4 n5 n6 n7 n8 n9 n10 : Int} {H0 H1 H2 H3 H4 : gH} (f0 : 0 ≤ n0) (f1 : n1 = 30) (f2 : 0 ≤ n2) (f3 : n3 = 30) (f4 : (hLe T0 H0 H1 ∧ hFr s_75v.2.2.2.2 H0 H1 ∧ hWt T0 H1) ∧ ((Ab_75v_75 n3 n2 n1 n0 H0 H1 ∧ Bb_75_75 n3 n2 n1 n0 H0 H1) ∧ preb_75v n3 n2 H0) ∧ some q0 = some (mub_75v_75 n3 n2 n1 n0 H0 H1)) (f5 : n4 ≤ 2147483647) (f6 : (-2147483648) ≤ n4) (f7 : hK H1 (n1).toNat = 4) (f8 : n4 = hV H1 (n1).toNat 2) (f9 : n5 = 29) (f10 : n4 = n5) (f11 : n6 = 29) (f12 : (hLe T0 H1 H2 ∧ hFr s_66v.2.2.2.2 H1 H2 ∧ ((0 : Int) = 0 → H2.length = H1.length) ∧ hWt T0 H2) ∧ postb_66v n1 n6 H1 H2) (f13 : n7 = 0) (f14 : n8 = 400) (f15 : n9 ≤ 2147483647) (f16 : (-2147483648) ≤ n9) (f17 : (hLe T0 H2 H3 ∧ hFr s_67v.2.2.2.2 H2 H3 ∧ ((0 : Int) = 0 → H3.length = H2.length) ∧ hWt T0 H3) ∧ (postb_67v n9 n1 n7 n8 H2 H3 ∧ nb_67 n9 n1 n7 n8 H2 H3)) (f18 : hK H3 (n0).toNat = 1) (f19 : n10 = 10) (f20 : hUpd H4 H3 n0 n10 n9) : Bb_75_102 n3 n2 n1 n0 H0 H4 := by
  unfold Bb_75_102
  intro hk cz
  have pz := f4.2.1.2
  unfold preb_75v at pz
  have ga := f4.2.1.1.1
  unfold Ab_75v_75 at ga
  have vz : vwC H1 = vwC H0 := vwC_fr f4.1.2.1 (by decide +kernel)
  have c0 := f12.2
  unfold postb_66v at c0
  try rw [f11] at c0
  rw [vz] at c0
  rw [ga.2] at c0
  have a0 : absC H2 = (ptk (vwC H0) 29 (pOpt (vwC H0) 28 0 60 (pOpt (vwC H0) 27 0 60 (pTime (vwC H0) (ptk (vwC H0) 26 (pnm (vwC H0) 0 19 (absC H0))))))) := c0.2
  have v0 : vwC H2 = vwC H0 := (vwC_fr f12.1.2.1 (by decide +kernel)).trans vz
  have c1 := f17.2.1
  unfold postb_67v at c1
  try rw [f13] at c1
  try rw [f14] at c1
  rw [v0] at c1
  rw [a0] at c1
  have a1 : absC H3 = (pnm (vwC H0) 0 400 (ptk (vwC H0) 29 (pOpt (vwC H0) 28 0 60 (pOpt (vwC H0) 27 0 60 (pTime (vwC H0) (ptk (vwC H0) 26 (pnm (vwC H0) 0 19 (absC H0)))))))) := c1.2
  have v1 : vwC H3 = vwC H0 := (vwC_fr f17.1.2.1 (by decide +kernel)).trans v0
  have s2 := PF_up f20 c1.1 f18
  have a2 : absC H4 = (pnm (vwC H0) 0 400 (ptk (vwC H0) 29 (pOpt (vwC H0) 28 0 60 (pOpt (vwC H0) 27 0 60 (pTime (vwC H0) (ptk (vwC H0) 26 (pnm (vwC H0) 0 19 (absC H0)))))))) := s2.1.trans a1
  have v2 : vwC H4 = vwC H0 := s2.2.1.trans v1
  have b0 := kd_at ga.1
  rw [vz] at b0
  rw [ga.2] at b0
  have g0 := f8
  rw [f1] at g0
  rw [show ((30 : Int)).toNat = 30 from rfl] at g0
  have h0 : (pOpt (vwC H0) 28 0 60 (pOpt (vwC H0) 27 0 60 (pTime (vwC H0) (ptk (vwC H0) 26 (pnm (vwC H0) 0 19 (absC H0)))))).1 < 0 ∨ (vwC H0).1 (pOpt (vwC H0) 28 0 60 (pOpt (vwC H0) 27 0 60 (pTime (vwC H0) (ptk (vwC H0) 26 (pnm (vwC H0) 0 19 (absC H0)))))).1 = 29 := by
    rcases b0 with q | q
    · exact .inl q
    · right
      rw [q]
      omega
  have gb := f4.2.1.1.2
  unfold Bb_75_75 at gb
  obtain ⟨gx, go, gs, gt⟩ := gb hk cz
  have hk1 : hK H1 (n0).toNat = 1 := by
    rw [gx]
    exact (go _ hk).1
  have cz1 : 0 ≤ n0 := by omega
  have kc0 : hK H2 (n0).toNat = 1 := kLe f12.1.1 hk1 rfl
  have kc1 : hK H3 (n0).toNat = 1 := kLe f17.1.1 kc0 rfl
  have kc2 : hK H4 (n0).toNat = 1 := kUp f20 kc1
  have cu : CUo H1 H4 n0 := (CUo_tr (CUo_fr f12.1.1 f12.1.2.1 (by decide +kernel)) (CUo_tr (CUo_fr f17.1.1 f17.1.2.1 (by decide +kernel)) (CUo_up f20)))
  rw [gx] at cu
  have sm : ∀ s : Nat, ¬ s = 10 → hV H4 (n0).toNat s = hV H1 (n0).toNat s := fun s h10 => (uSlot f20 _ s (by have w := f19; omega)).trans ((fr1 f17.1.2.1 (by decide +kernel) kc0 s).trans (fr1 f12.1.2.1 (by decide +kernel) hk1 s))
  rw [gx] at sm
  refine ⟨gx, CUo_tr go cu, fun s h2 h4 h5 h8 h9 h10 => (sm s h10).trans (gs s h2 h4 h5 h8 h9), fun hf => ?_⟩
  have hzH3 := fzE c1.1 s2.2.2 a1 a2 (fun _ _ => rfl) hf
  have hzH2 := fzE c0.1 c1.1 a0 a1 (fun n k => pnm_neg n k) hzH3.1
  have hzH1 := fzE ga.1 c0.1 ga.2 a0 (fun n k => ptk_neg n k) hzH2.1
  have tv17 : n9 = tvl (vwC H0) (ptk (vwC H0) 29 (pOpt (vwC H0) 28 0 60 (pOpt (vwC H0) 27 0 60 (pTime (vwC H0) (ptk (vwC H0) 26 (pnm (vwC H0) 0 19 (absC H0))))))) := by
    have w := f17.2.2
    unfold nb_67 at w
    have w := w hzH3.1
    rw [v0, a0] at w
    exact w
  have kb29 := kdE h0 (hzH1.2)
  have gt := gt hzH1.1
  obtain ⟨g2_, g4_, g5_, g8_, g9_⟩ := gt
  exact ⟨(by
    have w := (uSlot f20 _ 2 (by rw [f19]; decide)).trans ((fr1 f17.1.2.1 (by decide +kernel) kc0 2).trans (fr1 f12.1.2.1 (by decide +kernel) hk1 2))
    rw [gx] at w
    exact w.trans g2_), (by
    have w := (uSlot f20 _ 4 (by rw [f19]; decide)).trans ((fr1 f17.1.2.1 (by decide +kernel) kc0 4).trans (fr1 f12.1.2.1 (by decide +kernel) hk1 4))
    rw [gx] at w
    exact w.trans g4_), (by
    have w := (uSlot f20 _ 5 (by rw [f19]; decide)).trans ((fr1 f17.1.2.1 (by decide +kernel) kc0 5).trans (fr1 f12.1.2.1 (by decide +kernel) hk1 5))
    rw [gx] at w
    exact w.trans g5_), (by
    have w := (uSlot f20 _ 8 (by rw [f19]; decide)).trans ((fr1 f17.1.2.1 (by decide +kernel) kc0 8).trans (fr1 f12.1.2.1 (by decide +kernel) hk1 8))
    rw [gx] at w
    exact w.trans g8_), (by
    have w := (uSlot f20 _ 9 (by rw [f19]; decide)).trans ((fr1 f17.1.2.1 (by decide +kernel) kc0 9).trans (fr1 f12.1.2.1 (by decide +kernel) hk1 9))
    rw [gx] at w
    exact w.trans g9_), (by
    have w := uSame f20 _ 10 (Int.toNat_of_nonneg cz1) (by rw [f19]; rfl)
    rw [gx] at w
    exact w.trans (tv17.trans (opV_yes (p := lyG (vwC H0) (absC H0)) kb29).symm))⟩
def g_75vw_75_1 : vG := ([(80, [3, 10, 9], [4, 3], 0), (0, [10], [], 10), (23, [3], [3], 1), (1067, [9, 2, 7, 8], [2, 3], 0), (90, [9], [], -2147483648), (91, [9], [], 2147483647), (0, [8], [], 400), (0, [7], [], 0), (1066, [2, 6], [1, 2], 0), (0, [6], [], 29), (40, [4, 5], [], 0), (0, [5], [], 29), (20, [4, 2], [1], 2), (23, [2], [1], 4), (90, [4], [], -2147483648), (91, [4], [], 2147483647), (5000, [0, 1, 2, 3], [0, 1], 75), (0, [0], [], 30), (51, [1], [], 0), (0, [2], [], 30), (51, [3], [], 0)], (4000, [2, 3], [4], 102))
theorem c_75vw_75_1 {q0 : Nat} : vOkm T0 (eN e_75v L_75vw A_75v mu_75v n_75 B_75 (some q0)) 2 g_75vw_75_1 := vOk_inI fun ρ η f0 f1 f2 f3 f4 f5 f6 f7 f8 f9 f10 f11 f12 f13 f14 f15 f16 f17 f18 f19 f20 => q_75vw_5 (q0 := q0) (n0 := ρ 3) (n1 := ρ 2) (n2 := ρ 1) (n3 := ρ 0) (n4 := ρ 4) (n5 := ρ 5) (n6 := ρ 6) (n7 := ρ 7) (n8 := ρ 8) (n9 := ρ 9) (n10 := ρ 10) (H0 := η 0) (H1 := η 1) (H2 := η 2) (H3 := η 3) (H4 := η 4) f20 f19 f18 f17 f16 f15 f14 f13 f12 f11 f10 f9 f8 f7 f6 f5 f4 f3 f2 f1 f0
def p_75vw_75 : List vG := [g_75vw_75_0,
  g_75vw_75_1]
theorem r_75vw_75 : vCovBO (eRc e_75v L_75v cs_75v 2000 (75, [(0, (3, 4, 30, 0)), (1, (3, 1, -1, 0))])) p_75vw_75 = true := by decide +kernel
theorem q_75vw_6 {q0 : Nat} {n0 n1 n2 n3 n4 n5 : Int} {H0 H1 : gH} (f0 : 0 ≤ n0) (f1 : n1 = 30) (f2 : 0 ≤ n2) (f3 : n3 = 30) (f4 : (hLe T0 H0 H1 ∧ hFr s_75v.2.2.2.2 H0 H1 ∧ hWt T0 H1) ∧ ((Ab_75v_102 n3 n2 n1 n0 H0 H1 ∧ Bb_75_102 n3 n2 n1 n0 H0 H1) ∧ preb_75v n3 n2 H0) ∧ some q0 = some (mub_75v_102 n3 n2 n1 n0 H0 H1)) (f5 : n4 ≤ 2147483647) (f6 : (-2147483648) ≤ n4) (f7 : hK H1 (n1).toNat = 4) (f8 : n4 = hV H1 (n1).toNat 2) (f9 : n5 = 30) (f10 : n4 ≠ n5) : Bb_75_145 n3 n2 n1 n0 H0 H1 := by
  unfold Bb_75_145
  intro hk cz
  have pz := f4.2.1.2
  unfold preb_75v at pz
  have ga := f4.2.1.1.1
  unfold Ab_75v_102 at ga
  have vz : vwC H1 = vwC H0 := vwC_fr f4.1.2.1 (by decide +kernel)
  have b0 := kd_at ga.1
  rw [vz] at b0
  rw [ga.2] at b0
  have g0 := f8
  rw [f1] at g0
  rw [show ((30 : Int)).toNat = 30 from rfl] at g0
  have h0 : (pOpt (vwC H0) 29 0 400 (pOpt (vwC H0) 28 0 60 (pOpt (vwC H0) 27 0 60 (pTime (vwC H0) (ptk (vwC H0) 26 (pnm (vwC H0) 0 19 (absC H0))))))).1 < 0 ∨ ¬ (vwC H0).1 (pOpt (vwC H0) 29 0 400 (pOpt (vwC H0) 28 0 60 (pOpt (vwC H0) 27 0 60 (pTime (vwC H0) (ptk (vwC H0) 26 (pnm (vwC H0) 0 19 (absC H0))))))).1 = 30 := by
    rcases b0 with q | q
    · exact .inl q
    · right
      rw [q]
      omega
  have gb := f4.2.1.1.2
  unfold Bb_75_102 at gb
  obtain ⟨gx, go, gs, gt⟩ := gb hk cz
  have hk1 : hK H1 (n0).toNat = 1 := by
    rw [gx]
    exact (go _ hk).1
  have cz1 : 0 ≤ n0 := by omega
  refine ⟨gx, go, fun s h2 h4 h5 h8 h9 h10 h12 h13 => (gs s h2 h4 h5 h8 h9 h10), fun hf => ?_⟩
  have kb30 := kdN h0 (posE ga.1 ga.2 hf)
  have gt := gt hf
  obtain ⟨g2_, g4_, g5_, g8_, g9_, g10_⟩ := gt
  exact ⟨g2_, g4_, g5_, g8_, g9_, g10_, (by
    have w := show hV H1 (n0).toNat 12 = hV H1 (n0).toNat 12 from rfl
    rw [gx] at w
    exact w.trans ((gs 12 (by decide) (by decide) (by decide) (by decide) (by decide) (by decide)).trans (opV_no (p := lyU (vwC H0) (absC H0)) kb30).symm)), (by
    have w := show hV H1 (n0).toNat 13 = hV H1 (n0).toNat 13 from rfl
    rw [gx] at w
    exact w.trans ((gs 13 (by decide) (by decide) (by decide) (by decide) (by decide) (by decide)).trans (opL_no (p := lyU (vwC H0) (absC H0)) kb30).symm))⟩
def g_75vw_102_0 : vG := ([(41, [4, 5], [], 0), (0, [5], [], 30), (20, [4, 2], [1], 2), (23, [2], [1], 4), (90, [4], [], -2147483648), (91, [4], [], 2147483647), (5000, [0, 1, 2, 3], [0, 1], 102), (0, [0], [], 30), (51, [1], [], 0), (0, [2], [], 30), (51, [3], [], 0)], (4000, [2, 3], [1], 145))
theorem c_75vw_102_0 {q0 : Nat} : vOkm T0 (eN e_75v L_75vw A_75v mu_75v n_75 B_75 (some q0)) 2 g_75vw_102_0 := vOk_inI fun ρ η f0 f1 f2 f3 f4 f5 f6 f7 f8 f9 f10 => q_75vw_6 (q0 := q0) (n0 := ρ 3) (n1 := ρ 2) (n2 := ρ 1) (n3 := ρ 0) (n4 := ρ 4) (n5 := ρ 5) (H0 := η 0) (H1 := η 1) f10 f9 f8 f7 f6 f5 f4 f3 f2 f1 f0
theorem q_75vw_7 {q0 : Nat} {n0 n1 n2 n3 n4 n5 n6 n7 n8 n9 n10 n11 n12 n13 n14 n15 : Int} {H0 H1 H2 H3 H4 H5 H6 H7 : gH} (f0 : 0 ≤ n0) (f1 : n1 = 30) (f2 : 0 ≤ n2) (f3 : n3 = 30) (f4 : (hLe T0 H0 H1 ∧ hFr s_75v.2.2.2.2 H0 H1 ∧ hWt T0 H1) ∧ ((Ab_75v_102 n3 n2 n1 n0 H0 H1 ∧ Bb_75_102 n3 n2 n1 n0 H0 H1) ∧ preb_75v n3 n2 H0) ∧ some q0 = some (mub_75v_102 n3 n2 n1 n0 H0 H1)) (f5 : n4 ≤ 2147483647) (f6 : (-2147483648) ≤ n4) (f7 : hK H1 (n1).toNat = 4) (f8 : n4 = hV H1 (n1).toNat 2) (f9 : n5 = 30) (f10 : n4 = n5) (f11 : n6 = 30) (f12 : (hLe T0 H1 H2 ∧ hFr s_66v.2.2.2.2 H1 H2 ∧ ((0 : Int) = 0 → H2.length = H1.length) ∧ hWt T0 H2) ∧ postb_66v n1 n6 H1 H2) (f13 : n7 = 1) (f14 : n8 = 9) (f15 : n9 ≤ 2147483647) (f16 : (-2147483648) ≤ n9) (f17 : (hLe T0 H2 H3 ∧ hFr s_67v.2.2.2.2 H2 H3 ∧ ((0 : Int) = 0 → H3.length = H2.length) ∧ hWt T0 H3) ∧ (postb_67v n9 n1 n7 n8 H2 H3 ∧ nb_67 n9 n1 n7 n8 H2 H3)) (f18 : hK H3 (n0).toNat = 1) (f19 : n10 = 12) (f20 : hUpd H4 H3 n0 n10 n9) (f21 : n11 = 9) (f22 : (hLe T0 H4 H5 ∧ hFr s_66v.2.2.2.2 H4 H5 ∧ ((0 : Int) = 0 → H5.length = H4.length) ∧ hWt T0 H5) ∧ postb_66v n1 n11 H4 H5) (f23 : n12 = 1) (f24 : n13 = 9) (f25 : n14 ≤ 2147483647) (f26 : (-2147483648) ≤ n14) (f27 : (hLe T0 H5 H6 ∧ hFr s_67v.2.2.2.2 H5 H6 ∧ ((0 : Int) = 0 → H6.length = H5.length) ∧ hWt T0 H6) ∧ (postb_67v n14 n1 n12 n13 H5 H6 ∧ nb_67 n14 n1 n12 n13 H5 H6)) (f28 : hK H6 (n0).toNat = 1) (f29 : n15 = 13) (f30 : hUpd H7 H6 n0 n15 n14) : Bb_75_145 n3 n2 n1 n0 H0 H7 := by
  unfold Bb_75_145
  intro hk cz
  have pz := f4.2.1.2
  unfold preb_75v at pz
  have ga := f4.2.1.1.1
  unfold Ab_75v_102 at ga
  have vz : vwC H1 = vwC H0 := vwC_fr f4.1.2.1 (by decide +kernel)
  have c0 := f12.2
  unfold postb_66v at c0
  try rw [f11] at c0
  rw [vz] at c0
  rw [ga.2] at c0
  have a0 : absC H2 = (ptk (vwC H0) 30 (pOpt (vwC H0) 29 0 400 (pOpt (vwC H0) 28 0 60 (pOpt (vwC H0) 27 0 60 (pTime (vwC H0) (ptk (vwC H0) 26 (pnm (vwC H0) 0 19 (absC H0)))))))) := c0.2
  have v0 : vwC H2 = vwC H0 := (vwC_fr f12.1.2.1 (by decide +kernel)).trans vz
  have c1 := f17.2.1
  unfold postb_67v at c1
  try rw [f13] at c1
  try rw [f14] at c1
  rw [v0] at c1
  rw [a0] at c1
  have a1 : absC H3 = (pnm (vwC H0) 1 9 (ptk (vwC H0) 30 (pOpt (vwC H0) 29 0 400 (pOpt (vwC H0) 28 0 60 (pOpt (vwC H0) 27 0 60 (pTime (vwC H0) (ptk (vwC H0) 26 (pnm (vwC H0) 0 19 (absC H0))))))))) := c1.2
  have v1 : vwC H3 = vwC H0 := (vwC_fr f17.1.2.1 (by decide +kernel)).trans v0
  have s2 := PF_up f20 c1.1 f18
  have a2 : absC H4 = (pnm (vwC H0) 1 9 (ptk (vwC H0) 30 (pOpt (vwC H0) 29 0 400 (pOpt (vwC H0) 28 0 60 (pOpt (vwC H0) 27 0 60 (pTime (vwC H0) (ptk (vwC H0) 26 (pnm (vwC H0) 0 19 (absC H0))))))))) := s2.1.trans a1
  have v2 : vwC H4 = vwC H0 := s2.2.1.trans v1
  have c3 := f22.2
  unfold postb_66v at c3
  try rw [f21] at c3
  rw [v2] at c3
  rw [a2] at c3
  have a3 : absC H5 = (ptk (vwC H0) 9 (pnm (vwC H0) 1 9 (ptk (vwC H0) 30 (pOpt (vwC H0) 29 0 400 (pOpt (vwC H0) 28 0 60 (pOpt (vwC H0) 27 0 60 (pTime (vwC H0) (ptk (vwC H0) 26 (pnm (vwC H0) 0 19 (absC H0)))))))))) := c3.2
  have v3 : vwC H5 = vwC H0 := (vwC_fr f22.1.2.1 (by decide +kernel)).trans v2
  have c4 := f27.2.1
  unfold postb_67v at c4
  try rw [f23] at c4
  try rw [f24] at c4
  rw [v3] at c4
  rw [a3] at c4
  have a4 : absC H6 = (pnm (vwC H0) 1 9 (ptk (vwC H0) 9 (pnm (vwC H0) 1 9 (ptk (vwC H0) 30 (pOpt (vwC H0) 29 0 400 (pOpt (vwC H0) 28 0 60 (pOpt (vwC H0) 27 0 60 (pTime (vwC H0) (ptk (vwC H0) 26 (pnm (vwC H0) 0 19 (absC H0))))))))))) := c4.2
  have v4 : vwC H6 = vwC H0 := (vwC_fr f27.1.2.1 (by decide +kernel)).trans v3
  have s5 := PF_up f30 c4.1 f28
  have a5 : absC H7 = (pnm (vwC H0) 1 9 (ptk (vwC H0) 9 (pnm (vwC H0) 1 9 (ptk (vwC H0) 30 (pOpt (vwC H0) 29 0 400 (pOpt (vwC H0) 28 0 60 (pOpt (vwC H0) 27 0 60 (pTime (vwC H0) (ptk (vwC H0) 26 (pnm (vwC H0) 0 19 (absC H0))))))))))) := s5.1.trans a4
  have v5 : vwC H7 = vwC H0 := s5.2.1.trans v4
  have b0 := kd_at ga.1
  rw [vz] at b0
  rw [ga.2] at b0
  have g0 := f8
  rw [f1] at g0
  rw [show ((30 : Int)).toNat = 30 from rfl] at g0
  have h0 : (pOpt (vwC H0) 29 0 400 (pOpt (vwC H0) 28 0 60 (pOpt (vwC H0) 27 0 60 (pTime (vwC H0) (ptk (vwC H0) 26 (pnm (vwC H0) 0 19 (absC H0))))))).1 < 0 ∨ (vwC H0).1 (pOpt (vwC H0) 29 0 400 (pOpt (vwC H0) 28 0 60 (pOpt (vwC H0) 27 0 60 (pTime (vwC H0) (ptk (vwC H0) 26 (pnm (vwC H0) 0 19 (absC H0))))))).1 = 30 := by
    rcases b0 with q | q
    · exact .inl q
    · right
      rw [q]
      omega
  have gb := f4.2.1.1.2
  unfold Bb_75_102 at gb
  obtain ⟨gx, go, gs, gt⟩ := gb hk cz
  have hk1 : hK H1 (n0).toNat = 1 := by
    rw [gx]
    exact (go _ hk).1
  have cz1 : 0 ≤ n0 := by omega
  have kc0 : hK H2 (n0).toNat = 1 := kLe f12.1.1 hk1 rfl
  have kc1 : hK H3 (n0).toNat = 1 := kLe f17.1.1 kc0 rfl
  have kc2 : hK H4 (n0).toNat = 1 := kUp f20 kc1
  have kc3 : hK H5 (n0).toNat = 1 := kLe f22.1.1 kc2 rfl
  have kc4 : hK H6 (n0).toNat = 1 := kLe f27.1.1 kc3 rfl
  have kc5 : hK H7 (n0).toNat = 1 := kUp f30 kc4
  have cu : CUo H1 H7 n0 := (CUo_tr (CUo_fr f12.1.1 f12.1.2.1 (by decide +kernel)) (CUo_tr (CUo_fr f17.1.1 f17.1.2.1 (by decide +kernel)) (CUo_tr (CUo_up f20) (CUo_tr (CUo_fr f22.1.1 f22.1.2.1 (by decide +kernel)) (CUo_tr (CUo_fr f27.1.1 f27.1.2.1 (by decide +kernel)) (CUo_up f30))))))
  rw [gx] at cu
  have sm : ∀ s : Nat, ¬ s = 12 → ¬ s = 13 → hV H7 (n0).toNat s = hV H1 (n0).toNat s := fun s h12 h13 => (uSlot f30 _ s (by have w := f29; omega)).trans ((fr1 f27.1.2.1 (by decide +kernel) kc3 s).trans ((fr1 f22.1.2.1 (by decide +kernel) kc2 s).trans ((uSlot f20 _ s (by have w := f19; omega)).trans ((fr1 f17.1.2.1 (by decide +kernel) kc0 s).trans (fr1 f12.1.2.1 (by decide +kernel) hk1 s)))))
  rw [gx] at sm
  refine ⟨gx, CUo_tr go cu, fun s h2 h4 h5 h8 h9 h10 h12 h13 => (sm s h12 h13).trans (gs s h2 h4 h5 h8 h9 h10), fun hf => ?_⟩
  have hzH6 := fzE c4.1 s5.2.2 a4 a5 (fun _ _ => rfl) hf
  have hzH5 := fzE c3.1 c4.1 a3 a4 (fun n k => pnm_neg n k) hzH6.1
  have hzH4 := fzE s2.2.2 c3.1 a2 a3 (fun n k => ptk_neg n k) hzH5.1
  have hzH3 := fzE c1.1 s2.2.2 a1 a2 (fun _ _ => rfl) hzH4.1
  have hzH2 := fzE c0.1 c1.1 a0 a1 (fun n k => pnm_neg n k) hzH3.1
  have hzH1 := fzE ga.1 c0.1 ga.2 a0 (fun n k => ptk_neg n k) hzH2.1
  have tv17 : n9 = tvl (vwC H0) (ptk (vwC H0) 30 (pOpt (vwC H0) 29 0 400 (pOpt (vwC H0) 28 0 60 (pOpt (vwC H0) 27 0 60 (pTime (vwC H0) (ptk (vwC H0) 26 (pnm (vwC H0) 0 19 (absC H0)))))))) := by
    have w := f17.2.2
    unfold nb_67 at w
    have w := w hzH3.1
    rw [v0, a0] at w
    exact w
  have tv27 : n14 = tvl (vwC H0) (ptk (vwC H0) 9 (pnm (vwC H0) 1 9 (ptk (vwC H0) 30 (pOpt (vwC H0) 29 0 400 (pOpt (vwC H0) 28 0 60 (pOpt (vwC H0) 27 0 60 (pTime (vwC H0) (ptk (vwC H0) 26 (pnm (vwC H0) 0 19 (absC H0)))))))))) := by
    have w := f27.2.2
    unfold nb_67 at w
    have w := w hzH6.1
    rw [v3, a3] at w
    exact w
  have kb30 := kdE h0 (hzH1.2)
  have gt := gt hzH1.1
  obtain ⟨g2_, g4_, g5_, g8_, g9_, g10_⟩ := gt
  exact ⟨(by
    have w := (uSlot f30 _ 2 (by rw [f29]; decide)).trans ((fr1 f27.1.2.1 (by decide +kernel) kc3 2).trans ((fr1 f22.1.2.1 (by decide +kernel) kc2 2).trans ((uSlot f20 _ 2 (by rw [f19]; decide)).trans ((fr1 f17.1.2.1 (by decide +kernel) kc0 2).trans (fr1 f12.1.2.1 (by decide +kernel) hk1 2)))))
    rw [gx] at w
    exact w.trans g2_), (by
    have w := (uSlot f30 _ 4 (by rw [f29]; decide)).trans ((fr1 f27.1.2.1 (by decide +kernel) kc3 4).trans ((fr1 f22.1.2.1 (by decide +kernel) kc2 4).trans ((uSlot f20 _ 4 (by rw [f19]; decide)).trans ((fr1 f17.1.2.1 (by decide +kernel) kc0 4).trans (fr1 f12.1.2.1 (by decide +kernel) hk1 4)))))
    rw [gx] at w
    exact w.trans g4_), (by
    have w := (uSlot f30 _ 5 (by rw [f29]; decide)).trans ((fr1 f27.1.2.1 (by decide +kernel) kc3 5).trans ((fr1 f22.1.2.1 (by decide +kernel) kc2 5).trans ((uSlot f20 _ 5 (by rw [f19]; decide)).trans ((fr1 f17.1.2.1 (by decide +kernel) kc0 5).trans (fr1 f12.1.2.1 (by decide +kernel) hk1 5)))))
    rw [gx] at w
    exact w.trans g5_), (by
    have w := (uSlot f30 _ 8 (by rw [f29]; decide)).trans ((fr1 f27.1.2.1 (by decide +kernel) kc3 8).trans ((fr1 f22.1.2.1 (by decide +kernel) kc2 8).trans ((uSlot f20 _ 8 (by rw [f19]; decide)).trans ((fr1 f17.1.2.1 (by decide +kernel) kc0 8).trans (fr1 f12.1.2.1 (by decide +kernel) hk1 8)))))
    rw [gx] at w
    exact w.trans g8_), (by
    have w := (uSlot f30 _ 9 (by rw [f29]; decide)).trans ((fr1 f27.1.2.1 (by decide +kernel) kc3 9).trans ((fr1 f22.1.2.1 (by decide +kernel) kc2 9).trans ((uSlot f20 _ 9 (by rw [f19]; decide)).trans ((fr1 f17.1.2.1 (by decide +kernel) kc0 9).trans (fr1 f12.1.2.1 (by decide +kernel) hk1 9)))))
    rw [gx] at w
    exact w.trans g9_), (by
    have w := (uSlot f30 _ 10 (by rw [f29]; decide)).trans ((fr1 f27.1.2.1 (by decide +kernel) kc3 10).trans ((fr1 f22.1.2.1 (by decide +kernel) kc2 10).trans ((uSlot f20 _ 10 (by rw [f19]; decide)).trans ((fr1 f17.1.2.1 (by decide +kernel) kc0 10).trans (fr1 f12.1.2.1 (by decide +kernel) hk1 10)))))
    rw [gx] at w
    exact w.trans g10_), (by
    have w := (uSlot f30 _ 12 (by rw [f29]; decide)).trans ((fr1 f27.1.2.1 (by decide +kernel) kc3 12).trans ((fr1 f22.1.2.1 (by decide +kernel) kc2 12).trans (uSame f20 _ 12 (Int.toNat_of_nonneg cz1) (by rw [f19]; rfl))))
    rw [gx] at w
    exact w.trans (tv17.trans (opV_yes (p := lyU (vwC H0) (absC H0)) kb30).symm)), (by
    have w := uSame f30 _ 13 (Int.toNat_of_nonneg cz1) (by rw [f29]; rfl)
    rw [gx] at w
    exact w.trans (tv27.trans (opL_yes (p := lyU (vwC H0) (absC H0)) kb30).symm))⟩
def g_75vw_102_1 : vG := ([(80, [3, 15, 14], [7, 6], 0), (0, [15], [], 13), (23, [3], [6], 1), (1067, [14, 2, 12, 13], [5, 6], 0), (90, [14], [], -2147483648), (91, [14], [], 2147483647), (0, [13], [], 9), (0, [12], [], 1), (1066, [2, 11], [4, 5], 0), (0, [11], [], 9), (80, [3, 10, 9], [4, 3], 0), (0, [10], [], 12), (23, [3], [3], 1), (1067, [9, 2, 7, 8], [2, 3], 0), (90, [9], [], -2147483648), (91, [9], [], 2147483647), (0, [8], [], 9), (0, [7], [], 1), (1066, [2, 6], [1, 2], 0), (0, [6], [], 30), (40, [4, 5], [], 0), (0, [5], [], 30), (20, [4, 2], [1], 2), (23, [2], [1], 4), (90, [4], [], -2147483648), (91, [4], [], 2147483647), (5000, [0, 1, 2, 3], [0, 1], 102), (0, [0], [], 30), (51, [1], [], 0), (0, [2], [], 30), (51, [3], [], 0)], (4000, [2, 3], [7], 145))
theorem c_75vw_102_1 {q0 : Nat} : vOkm T0 (eN e_75v L_75vw A_75v mu_75v n_75 B_75 (some q0)) 2 g_75vw_102_1 := vOk_inI fun ρ η f0 f1 f2 f3 f4 f5 f6 f7 f8 f9 f10 f11 f12 f13 f14 f15 f16 f17 f18 f19 f20 f21 f22 f23 f24 f25 f26 f27 f28 f29 f30 => q_75vw_7 (q0 := q0) (n0 := ρ 3) (n1 := ρ 2) (n2 := ρ 1) (n3 := ρ 0) (n4 := ρ 4) (n5 := ρ 5) (n6 := ρ 6) (n7 := ρ 7) (n8 := ρ 8) (n9 := ρ 9) (n10 := ρ 10) (n11 := ρ 11) (n12 := ρ 12) (n13 := ρ 13) (n14 := ρ 14) (n15 := ρ 15) (H0 := η 0) (H1 := η 1) (H2 := η 2) (H3 := η 3) (H4 := η 4) (H5 := η 5) (H6 := η 6) (H7 := η 7) f30 f29 f28 f27 f26 f25 f24 f23 f22 f21 f20 f19 f18 f17 f16 f15 f14 f13 f12 f11 f10 f9 f8 f7 f6 f5 f4 f3 f2 f1 f0
def p_75vw_102 : List vG := [g_75vw_102_0,
  g_75vw_102_1]
theorem r_75vw_102 : vCovBO (eRc e_75v L_75v cs_75v 2000 (102, [(0, (3, 4, 30, 0)), (1, (3, 1, -1, 0))])) p_75vw_102 = true := by decide +kernel
theorem q_75vw_8 {q0 : Nat} {n0 n1 n2 n3 n4 n5 n6 n7 n8 : Int} {H0 H1 H2 H3 H4 : gH} (f0 : 0 ≤ n0) (f1 : n1 = 30) (f2 : 0 ≤ n2) (f3 : n3 = 30) (f4 : (hLe T0 H0 H1 ∧ hFr s_75v.2.2.2.2 H0 H1 ∧ hWt T0 H1) ∧ ((Ab_75v_145 n3 n2 n1 n0 H0 H1 ∧ Bb_75_145 n3 n2 n1 n0 H0 H1) ∧ preb_75v n3 n2 H0) ∧ some q0 = some (mub_75v_145 n3 n2 n1 n0 H0 H1)) (f5 : n4 = 31) (f6 : (hLe T0 H1 H2 ∧ hFr s_66v.2.2.2.2 H1 H2 ∧ ((0 : Int) = 0 → H2.length = H1.length) ∧ hWt T0 H2) ∧ postb_66v n1 n4 H1 H2) (f7 : n5 = 0) (f8 : n6 = 2) (f9 : n7 ≤ 2147483647) (f10 : (-2147483648) ≤ n7) (f11 : (hLe T0 H2 H3 ∧ hFr s_67v.2.2.2.2 H2 H3 ∧ ((0 : Int) = 0 → H3.length = H2.length) ∧ hWt T0 H3) ∧ (postb_67v n7 n1 n5 n6 H2 H3 ∧ nb_67 n7 n1 n5 n6 H2 H3)) (f12 : hK H3 (n0).toNat = 1) (f13 : n8 = 3) (f14 : hUpd H4 H3 n0 n8 n7) : nb_75 n3 n2 H0 H4 := by
  unfold nb_75
  intro hk cz
  have pz := f4.2.1.2
  unfold preb_75v at pz
  have ga := f4.2.1.1.1
  unfold Ab_75v_145 at ga
  have vz : vwC H1 = vwC H0 := vwC_fr f4.1.2.1 (by decide +kernel)
  have c0 := f6.2
  unfold postb_66v at c0
  try rw [f5] at c0
  rw [vz] at c0
  rw [ga.2] at c0
  have a0 : absC H2 = (ptk (vwC H0) 31 (pSpd (vwC H0) (pOpt (vwC H0) 29 0 400 (pOpt (vwC H0) 28 0 60 (pOpt (vwC H0) 27 0 60 (pTime (vwC H0) (ptk (vwC H0) 26 (pnm (vwC H0) 0 19 (absC H0))))))))) := c0.2
  have v0 : vwC H2 = vwC H0 := (vwC_fr f6.1.2.1 (by decide +kernel)).trans vz
  have c1 := f11.2.1
  unfold postb_67v at c1
  try rw [f7] at c1
  try rw [f8] at c1
  rw [v0] at c1
  rw [a0] at c1
  have a1 : absC H3 = (pnm (vwC H0) 0 2 (ptk (vwC H0) 31 (pSpd (vwC H0) (pOpt (vwC H0) 29 0 400 (pOpt (vwC H0) 28 0 60 (pOpt (vwC H0) 27 0 60 (pTime (vwC H0) (ptk (vwC H0) 26 (pnm (vwC H0) 0 19 (absC H0)))))))))) := c1.2
  have v1 : vwC H3 = vwC H0 := (vwC_fr f11.1.2.1 (by decide +kernel)).trans v0
  have s2 := PF_up f14 c1.1 f12
  have a2 : absC H4 = (pnm (vwC H0) 0 2 (ptk (vwC H0) 31 (pSpd (vwC H0) (pOpt (vwC H0) 29 0 400 (pOpt (vwC H0) 28 0 60 (pOpt (vwC H0) 27 0 60 (pTime (vwC H0) (ptk (vwC H0) 26 (pnm (vwC H0) 0 19 (absC H0)))))))))) := s2.1.trans a1
  have v2 : vwC H4 = vwC H0 := s2.2.1.trans v1
  have gb := f4.2.1.1.2
  unfold Bb_75_145 at gb
  obtain ⟨gx, go, gs, gt⟩ := gb hk cz
  have hk1 : hK H1 (n0).toNat = 1 := by
    rw [gx]
    exact (go _ hk).1
  have cz1 : 0 ≤ n0 := by omega
  have kc0 : hK H2 (n0).toNat = 1 := kLe f6.1.1 hk1 rfl
  have kc1 : hK H3 (n0).toNat = 1 := kLe f11.1.1 kc0 rfl
  have kc2 : hK H4 (n0).toNat = 1 := kUp f14 kc1
  have cu : CUo H1 H4 n0 := (CUo_tr (CUo_fr f6.1.1 f6.1.2.1 (by decide +kernel)) (CUo_tr (CUo_fr f11.1.1 f11.1.2.1 (by decide +kernel)) (CUo_up f14)))
  rw [gx] at cu
  have sm : ∀ s : Nat, ¬ s = 3 → hV H4 (n0).toNat s = hV H1 (n0).toNat s := fun s h3 => (uSlot f14 _ s (by have w := f13; omega)).trans ((fr1 f11.1.2.1 (by decide +kernel) kc0 s).trans (fr1 f6.1.2.1 (by decide +kernel) hk1 s))
  rw [gx] at sm
  refine ⟨CUo_tr go cu, fun s h2 h3 h4 h5 h8 h9 h10 h12 h13 => (sm s h3).trans (gs s h2 h4 h5 h8 h9 h10 h12 h13), fun hf => ?_⟩
  have hzH3 := fzE c1.1 s2.2.2 a1 a2 (fun _ _ => rfl) hf
  have hzH2 := fzE c0.1 c1.1 a0 a1 (fun n k => pnm_neg n k) hzH3.1
  have hzH1 := fzE ga.1 c0.1 ga.2 a0 (fun n k => ptk_neg n k) hzH2.1
  have tv11 : n7 = tvl (vwC H0) (ptk (vwC H0) 31 (pSpd (vwC H0) (pOpt (vwC H0) 29 0 400 (pOpt (vwC H0) 28 0 60 (pOpt (vwC H0) 27 0 60 (pTime (vwC H0) (ptk (vwC H0) 26 (pnm (vwC H0) 0 19 (absC H0))))))))) := by
    have w := f11.2.2
    unfold nb_67 at w
    have w := w hzH3.1
    rw [v0, a0] at w
    exact w
  have gt := gt hzH1.1
  obtain ⟨g2_, g4_, g5_, g8_, g9_, g10_, g12_, g13_⟩ := gt
  exact ⟨(by
    have w := (uSlot f14 _ 2 (by rw [f13]; decide)).trans ((fr1 f11.1.2.1 (by decide +kernel) kc0 2).trans (fr1 f6.1.2.1 (by decide +kernel) hk1 2))
    rw [gx] at w
    exact w.trans g2_), (by
    have w := (uSlot f14 _ 4 (by rw [f13]; decide)).trans ((fr1 f11.1.2.1 (by decide +kernel) kc0 4).trans (fr1 f6.1.2.1 (by decide +kernel) hk1 4))
    rw [gx] at w
    exact w.trans g4_), (by
    have w := (uSlot f14 _ 5 (by rw [f13]; decide)).trans ((fr1 f11.1.2.1 (by decide +kernel) kc0 5).trans (fr1 f6.1.2.1 (by decide +kernel) hk1 5))
    rw [gx] at w
    exact w.trans g5_), (by
    have w := (uSlot f14 _ 8 (by rw [f13]; decide)).trans ((fr1 f11.1.2.1 (by decide +kernel) kc0 8).trans (fr1 f6.1.2.1 (by decide +kernel) hk1 8))
    rw [gx] at w
    exact w.trans g8_), (by
    have w := (uSlot f14 _ 9 (by rw [f13]; decide)).trans ((fr1 f11.1.2.1 (by decide +kernel) kc0 9).trans (fr1 f6.1.2.1 (by decide +kernel) hk1 9))
    rw [gx] at w
    exact w.trans g9_), (by
    have w := (uSlot f14 _ 10 (by rw [f13]; decide)).trans ((fr1 f11.1.2.1 (by decide +kernel) kc0 10).trans (fr1 f6.1.2.1 (by decide +kernel) hk1 10))
    rw [gx] at w
    exact w.trans g10_), (by
    have w := (uSlot f14 _ 12 (by rw [f13]; decide)).trans ((fr1 f11.1.2.1 (by decide +kernel) kc0 12).trans (fr1 f6.1.2.1 (by decide +kernel) hk1 12))
    rw [gx] at w
    exact w.trans g12_), (by
    have w := (uSlot f14 _ 13 (by rw [f13]; decide)).trans ((fr1 f11.1.2.1 (by decide +kernel) kc0 13).trans (fr1 f6.1.2.1 (by decide +kernel) hk1 13))
    rw [gx] at w
    exact w.trans g13_)⟩
def g_75vw_145_0 : vG := ([(80, [3, 8, 7], [4, 3], 0), (0, [8], [], 3), (23, [3], [3], 1), (1067, [7, 2, 5, 6], [2, 3], 0), (90, [7], [], -2147483648), (91, [7], [], 2147483647), (0, [6], [], 2), (0, [5], [], 0), (1066, [2, 4], [1, 2], 0), (0, [4], [], 31), (5000, [0, 1, 2, 3], [0, 1], 145), (0, [0], [], 30), (51, [1], [], 0), (0, [2], [], 30), (51, [3], [], 0)], (3000, [], [4], 161))
theorem c_75vw_145_0 {q0 : Nat} : vOkm T0 (eN e_75v L_75vw A_75v mu_75v n_75 B_75 (some q0)) 2 g_75vw_145_0 := vOk_inI fun ρ η f0 f1 f2 f3 f4 f5 f6 f7 f8 f9 f10 f11 f12 f13 f14 => q_75vw_8 (q0 := q0) (n0 := ρ 3) (n1 := ρ 2) (n2 := ρ 1) (n3 := ρ 0) (n4 := ρ 4) (n5 := ρ 5) (n6 := ρ 6) (n7 := ρ 7) (n8 := ρ 8) (H0 := η 0) (H1 := η 1) (H2 := η 2) (H3 := η 3) (H4 := η 4) f14 f13 f12 f11 f10 f9 f8 f7 f6 f5 f4 f3 f2 f1 f0
def p_75vw_145 : List vG := [g_75vw_145_0]
theorem r_75vw_145 : vCovBO (eRc e_75v L_75v cs_75v 2000 (145, [(0, (3, 4, 30, 0)), (1, (3, 1, -1, 0))])) p_75vw_145 = true := by decide +kernel
theorem m_75vw (d : Nat) : eC e_75vw (d + 5) := eC_ref (e := e_75v) (L := L_75v) (L' := L_75vw) (cs := cs_75v) (n := 2000) (d := d + 4) (A := A_75v) (μ := mu_75v) (tp := false) (p0 := p_75v_s) (p1 := p_75vw_s) (N := n_75) (B := B_75) rfl ⟨m_66v (d + 2), ⟨m_67vw (d + 1), ⟨m_81vw d, trivial⟩⟩⟩ rfl (.inl rfl) (by decide +kernel) (fun z => nomatch z) r_75v_s (allC c_75v_s_0 (allC c_75v_s_1 (allC c_75v_s_2 (allC c_75v_s_3 (allC c_75v_s_4 (allC c_75v_s_5 (allC c_75v_s_6 allN))))))) (allC (.inl ⟨p_75v_49, r_75v_49, fun q0 => (allC c_75v_49_0 (allC c_75v_49_1 (allC c_75v_49_2 (allC c_75v_49_3 allN))))⟩) (allC (.inl ⟨p_75v_75, r_75v_75, fun q0 => (allC c_75v_75_0 (allC c_75v_75_1 (allC c_75v_75_2 (allC c_75v_75_3 allN))))⟩) (allC (.inl ⟨p_75v_102, r_75v_102, fun q0 => (allC c_75v_102_0 (allC c_75v_102_1 (allC c_75v_102_2 (allC c_75v_102_3 (allC c_75v_102_4 (allC c_75v_102_5 allN))))))⟩) (allC (.inl ⟨p_75v_145, r_75v_145, fun q0 => (allC c_75v_145_0 (allC c_75v_145_1 (allC c_75v_145_2 allN)))⟩) allN)))) (sub0 (sub1 (sub1 trivial))) r_75vw_s (allC c_75vw_s_0 (allC c_75vw_s_1 allN)) (allC ⟨p_75vw_49, r_75vw_49, fun q0 => (allC c_75vw_49_0 (allC c_75vw_49_1 allN))⟩ (allC ⟨p_75vw_75, r_75vw_75, fun q0 => (allC c_75vw_75_0 (allC c_75vw_75_1 allN))⟩ (allC ⟨p_75vw_102, r_75vw_102, fun q0 => (allC c_75vw_102_0 (allC c_75vw_102_1 allN))⟩ (allC ⟨p_75vw_145, r_75vw_145, fun q0 => (allC c_75vw_145_0 allN)⟩ allN))))
/- Reader.readFade (LMixStage$Cue;)V, more fully -/
def nb_76 (a0 a1 : Int) (h0 h : gH) : Prop := hK h0 (a1).toNat = 1 → 0 ≤ a1 → CUo h0 h a1 ∧ (∀ s : Nat, ¬ s = 3 → ¬ s = 4 → ¬ s = 5 → ¬ s = 6 → ¬ s = 7 → ¬ s = 10 → ¬ s = 11 → hV h (a1).toNat s = hV h0 (a1).toNat s) ∧ (hV h 30 3 = 0 → hV h (a1).toNat 3 = tvl (vwC h0) (absC h0) ∧ hV h (a1).toNat 4 = mkA (vwC h0) (fdQ (vwC h0) (absC h0)) ∧ hV h (a1).toNat 5 = frA (vwC h0) (fdQ (vwC h0) (absC h0)) ∧ hV h (a1).toNat 6 = mkA (vwC h0) (fdR (vwC h0) (absC h0)) ∧ hV h (a1).toNat 7 = frA (vwC h0) (fdR (vwC h0) (absC h0)))
def n_76 : List Int → gH → gH → Prop := fun xs h0 h => match xs with
  | [a0, a1] => nb_76 a0 a1 h0 h
  | _ => True
noncomputable def e_76vw : vE := eV e_76v n_76
noncomputable def L_76vw : List vE := [e_66v, e_67vw, e_81vw]
def B_76 : Int → List Int → gH → gH → Prop := fun c xs h0 h => True
theorem q_76vw_0 {n0 n1 n2 n3 n4 n5 n6 n7 n8 n9 n10 n11 n12 n13 n14 n15 n16 n17 n18 n19 : Int} {H0 H1 H2 H3 H4 H5 H6 H7 H8 H9 H10 H11 H12 : gH} (f0 : 0 ≤ n0) (f1 : n1 = 30) (f2 : hWt T0 H0 ∧ preb_76v n1 n0 H0) (f3 : n2 = 0) (f4 : n3 = 2) (f5 : n4 ≤ 2147483647) (f6 : (-2147483648) ≤ n4) (f7 : (hLe T0 H0 H1 ∧ hFr s_67v.2.2.2.2 H0 H1 ∧ ((0 : Int) = 0 → H1.length = H0.length) ∧ hWt T0 H1) ∧ (postb_67v n4 n1 n2 n3 H0 H1 ∧ nb_67 n4 n1 n2 n3 H0 H1)) (f8 : hK H1 (n0).toNat = 1) (f9 : n5 = 3) (f10 : hUpd H2 H1 n0 n5 n4) (f11 : n6 = 27) (f12 : (hLe T0 H2 H3 ∧ hFr s_66v.2.2.2.2 H2 H3 ∧ ((0 : Int) = 0 → H3.length = H2.length) ∧ hWt T0 H3) ∧ postb_66v n1 n6 H2 H3) (f13 : n7 = 0) (f14 : (hLe T0 H3 H4 ∧ hFr s_81v.2.2.2.2 H3 H4 ∧ ((0 : Int) = 0 → H4.length = H3.length) ∧ hWt T0 H4) ∧ (postb_81v n1 n0 n7 H3 H4 ∧ nb_81 n1 n0 n7 H3 H4)) (f15 : n8 = 32) (f16 : (hLe T0 H4 H5 ∧ hFr s_66v.2.2.2.2 H4 H5 ∧ ((0 : Int) = 0 → H5.length = H4.length) ∧ hWt T0 H5) ∧ postb_66v n1 n8 H4 H5) (f17 : n9 = 1) (f18 : (hLe T0 H5 H6 ∧ hFr s_81v.2.2.2.2 H5 H6 ∧ ((0 : Int) = 0 → H6.length = H5.length) ∧ hWt T0 H6) ∧ (postb_81v n1 n0 n9 H5 H6 ∧ nb_81 n1 n0 n9 H5 H6)) (f19 : n10 = 29) (f20 : (hLe T0 H6 H7 ∧ hFr s_66v.2.2.2.2 H6 H7 ∧ ((0 : Int) = 0 → H7.length = H6.length) ∧ hWt T0 H7) ∧ postb_66v n1 n10 H6 H7) (f21 : n11 = 0) (f22 : n12 = 400) (f23 : n13 ≤ 2147483647) (f24 : (-2147483648) ≤ n13) (f25 : (hLe T0 H7 H8 ∧ hFr s_67v.2.2.2.2 H7 H8 ∧ ((0 : Int) = 0 → H8.length = H7.length) ∧ hWt T0 H8) ∧ (postb_67v n13 n1 n11 n12 H7 H8 ∧ nb_67 n13 n1 n11 n12 H7 H8)) (f26 : hK H8 (n0).toNat = 1) (f27 : n14 = 10) (f28 : hUpd H9 H8 n0 n14 n13) (f29 : n15 = 5) (f30 : (hLe T0 H9 H10 ∧ hFr s_66v.2.2.2.2 H9 H10 ∧ ((0 : Int) = 0 → H10.length = H9.length) ∧ hWt T0 H10) ∧ postb_66v n1 n15 H9 H10) (f31 : n16 = 0) (f32 : n17 = 400) (f33 : n18 ≤ 2147483647) (f34 : (-2147483648) ≤ n18) (f35 : (hLe T0 H10 H11 ∧ hFr s_67v.2.2.2.2 H10 H11 ∧ ((0 : Int) = 0 → H11.length = H10.length) ∧ hWt T0 H11) ∧ (postb_67v n18 n1 n16 n17 H10 H11 ∧ nb_67 n18 n1 n16 n17 H10 H11)) (f36 : hK H11 (n0).toNat = 1) (f37 : n19 = 11) (f38 : hUpd H12 H11 n0 n19 n18) : nb_76 n1 n0 H0 H12 := by
  unfold nb_76
  intro hk cz
  have pz := f2.2
  unfold preb_76v at pz
  have c0 := f7.2.1
  unfold postb_67v at c0
  try rw [f3] at c0
  try rw [f4] at c0
  have a0 : absC H1 = (pnm (vwC H0) 0 2 (absC H0)) := c0.2
  have v0 : vwC H1 = vwC H0 := (vwC_fr f7.1.2.1 (by decide +kernel))
  have s1 := PF_up f10 c0.1 f8
  have a1 : absC H2 = (pnm (vwC H0) 0 2 (absC H0)) := s1.1.trans a0
  have v1 : vwC H2 = vwC H0 := s1.2.1.trans v0
  have c2 := f12.2
  unfold postb_66v at c2
  try rw [f11] at c2
  rw [v1] at c2
  rw [a1] at c2
  have a2 : absC H3 = (ptk (vwC H0) 27 (pnm (vwC H0) 0 2 (absC H0))) := c2.2
  have v2 : vwC H3 = vwC H0 := (vwC_fr f12.1.2.1 (by decide +kernel)).trans v1
  have c3 := f14.2.1
  unfold postb_81v at c3
  try rw [f13] at c3
  rw [v2] at c3
  rw [a2] at c3
  have a3 : absC H4 = (pTime (vwC H0) (ptk (vwC H0) 27 (pnm (vwC H0) 0 2 (absC H0)))) := c3.2
  have v3 : vwC H4 = vwC H0 := (vwC_fr f14.1.2.1 (by decide +kernel)).trans v2
  have c4 := f16.2
  unfold postb_66v at c4
  try rw [f15] at c4
  rw [v3] at c4
  rw [a3] at c4
  have a4 : absC H5 = (ptk (vwC H0) 32 (pTime (vwC H0) (ptk (vwC H0) 27 (pnm (vwC H0) 0 2 (absC H0))))) := c4.2
  have v4 : vwC H5 = vwC H0 := (vwC_fr f16.1.2.1 (by decide +kernel)).trans v3
  have c5 := f18.2.1
  unfold postb_81v at c5
  try rw [f17] at c5
  rw [v4] at c5
  rw [a4] at c5
  have a5 : absC H6 = (pTime (vwC H0) (ptk (vwC H0) 32 (pTime (vwC H0) (ptk (vwC H0) 27 (pnm (vwC H0) 0 2 (absC H0)))))) := c5.2
  have v5 : vwC H6 = vwC H0 := (vwC_fr f18.1.2.1 (by decide +kernel)).trans v4
  have c6 := f20.2
  unfold postb_66v at c6
  try rw [f19] at c6
  rw [v5] at c6
  rw [a5] at c6
  have a6 : absC H7 = (ptk (vwC H0) 29 (pTime (vwC H0) (ptk (vwC H0) 32 (pTime (vwC H0) (ptk (vwC H0) 27 (pnm (vwC H0) 0 2 (absC H0))))))) := c6.2
  have v6 : vwC H7 = vwC H0 := (vwC_fr f20.1.2.1 (by decide +kernel)).trans v5
  have c7 := f25.2.1
  unfold postb_67v at c7
  try rw [f21] at c7
  try rw [f22] at c7
  rw [v6] at c7
  rw [a6] at c7
  have a7 : absC H8 = (pnm (vwC H0) 0 400 (ptk (vwC H0) 29 (pTime (vwC H0) (ptk (vwC H0) 32 (pTime (vwC H0) (ptk (vwC H0) 27 (pnm (vwC H0) 0 2 (absC H0)))))))) := c7.2
  have v7 : vwC H8 = vwC H0 := (vwC_fr f25.1.2.1 (by decide +kernel)).trans v6
  have s8 := PF_up f28 c7.1 f26
  have a8 : absC H9 = (pnm (vwC H0) 0 400 (ptk (vwC H0) 29 (pTime (vwC H0) (ptk (vwC H0) 32 (pTime (vwC H0) (ptk (vwC H0) 27 (pnm (vwC H0) 0 2 (absC H0)))))))) := s8.1.trans a7
  have v8 : vwC H9 = vwC H0 := s8.2.1.trans v7
  have c9 := f30.2
  unfold postb_66v at c9
  try rw [f29] at c9
  rw [v8] at c9
  rw [a8] at c9
  have a9 : absC H10 = (ptk (vwC H0) 5 (pnm (vwC H0) 0 400 (ptk (vwC H0) 29 (pTime (vwC H0) (ptk (vwC H0) 32 (pTime (vwC H0) (ptk (vwC H0) 27 (pnm (vwC H0) 0 2 (absC H0))))))))) := c9.2
  have v9 : vwC H10 = vwC H0 := (vwC_fr f30.1.2.1 (by decide +kernel)).trans v8
  have c10 := f35.2.1
  unfold postb_67v at c10
  try rw [f31] at c10
  try rw [f32] at c10
  rw [v9] at c10
  rw [a9] at c10
  have a10 : absC H11 = (pnm (vwC H0) 0 400 (ptk (vwC H0) 5 (pnm (vwC H0) 0 400 (ptk (vwC H0) 29 (pTime (vwC H0) (ptk (vwC H0) 32 (pTime (vwC H0) (ptk (vwC H0) 27 (pnm (vwC H0) 0 2 (absC H0)))))))))) := c10.2
  have v10 : vwC H11 = vwC H0 := (vwC_fr f35.1.2.1 (by decide +kernel)).trans v9
  have s11 := PF_up f38 c10.1 f36
  have a11 : absC H12 = (pnm (vwC H0) 0 400 (ptk (vwC H0) 5 (pnm (vwC H0) 0 400 (ptk (vwC H0) 29 (pTime (vwC H0) (ptk (vwC H0) 32 (pTime (vwC H0) (ptk (vwC H0) 27 (pnm (vwC H0) 0 2 (absC H0)))))))))) := s11.1.trans a10
  have v11 : vwC H12 = vwC H0 := s11.2.1.trans v10
  have kc0 : hK H1 (n0).toNat = 1 := kLe f7.1.1 hk rfl
  have kc1 : hK H2 (n0).toNat = 1 := kUp f10 kc0
  have kc2 : hK H3 (n0).toNat = 1 := kLe f12.1.1 kc1 rfl
  have kc3 : hK H4 (n0).toNat = 1 := kLe f14.1.1 kc2 rfl
  have ow14 := f14.2.2
  unfold nb_81 at ow14
  have ow14 := ow14 kc2 cz
  try rw [f1] at ow14
  try rw [f13] at ow14
  have kc4 : hK H5 (n0).toNat = 1 := kLe f16.1.1 kc3 rfl
  have kc5 : hK H6 (n0).toNat = 1 := kLe f18.1.1 kc4 rfl
  have ow18 := f18.2.2
  unfold nb_81 at ow18
  have ow18 := ow18 kc4 cz
  try rw [f1] at ow18
  try rw [f17] at ow18
  have kc6 : hK H7 (n0).toNat = 1 := kLe f20.1.1 kc5 rfl
  have kc7 : hK H8 (n0).toNat = 1 := kLe f25.1.1 kc6 rfl
  have kc8 : hK H9 (n0).toNat = 1 := kUp f28 kc7
  have kc9 : hK H10 (n0).toNat = 1 := kLe f30.1.1 kc8 rfl
  have kc10 : hK H11 (n0).toNat = 1 := kLe f35.1.1 kc9 rfl
  have kc11 : hK H12 (n0).toNat = 1 := kUp f38 kc10
  refine ⟨(CUo_tr (CUo_fr f7.1.1 f7.1.2.1 (by decide +kernel)) (CUo_tr (CUo_up f10) (CUo_tr (CUo_fr f12.1.1 f12.1.2.1 (by decide +kernel)) (CUo_tr ow14.1 (CUo_tr (CUo_fr f16.1.1 f16.1.2.1 (by decide +kernel)) (CUo_tr ow18.1 (CUo_tr (CUo_fr f20.1.1 f20.1.2.1 (by decide +kernel)) (CUo_tr (CUo_fr f25.1.1 f25.1.2.1 (by decide +kernel)) (CUo_tr (CUo_up f28) (CUo_tr (CUo_fr f30.1.1 f30.1.2.1 (by decide +kernel)) (CUo_tr (CUo_fr f35.1.1 f35.1.2.1 (by decide +kernel)) (CUo_up f38)))))))))))), fun s h3 h4 h5 h6 h7 h10 h11 => (uSlot f38 _ s (by have w := f37; omega)).trans ((fr1 f35.1.2.1 (by decide +kernel) kc9 s).trans ((fr1 f30.1.2.1 (by decide +kernel) kc8 s).trans ((uSlot f28 _ s (by have w := f27; omega)).trans ((fr1 f25.1.2.1 (by decide +kernel) kc6 s).trans ((fr1 f20.1.2.1 (by decide +kernel) kc5 s).trans (((ow18.2.2 (by decide)).1 s h6 h7).trans ((fr1 f16.1.2.1 (by decide +kernel) kc3 s).trans (((ow14.2.1 rfl).1 s h4 h5).trans ((fr1 f12.1.2.1 (by decide +kernel) kc1 s).trans ((uSlot f10 _ s (by have w := f9; omega)).trans (fr1 f7.1.2.1 (by decide +kernel) hk s))))))))))), fun hf => ?_⟩
  have hzH11 := fzE c10.1 s11.2.2 a10 a11 (fun _ _ => rfl) hf
  have hzH10 := fzE c9.1 c10.1 a9 a10 (fun n k => pnm_neg n k) hzH11.1
  have hzH9 := fzE s8.2.2 c9.1 a8 a9 (fun n k => ptk_neg n k) hzH10.1
  have hzH8 := fzE c7.1 s8.2.2 a7 a8 (fun _ _ => rfl) hzH9.1
  have hzH7 := fzE c6.1 c7.1 a6 a7 (fun n k => pnm_neg n k) hzH8.1
  have hzH6 := fzE c5.1 c6.1 a5 a6 (fun n k => ptk_neg n k) hzH7.1
  have hzH5 := fzE c4.1 c5.1 a4 a5 (fun n k => pTime_neg (vwC_ok H0) n k) hzH6.1
  have hzH4 := fzE c3.1 c4.1 a3 a4 (fun n k => ptk_neg n k) hzH5.1
  have hzH3 := fzE c2.1 c3.1 a2 a3 (fun n k => pTime_neg (vwC_ok H0) n k) hzH4.1
  have hzH2 := fzE s1.2.2 c2.1 a1 a2 (fun n k => ptk_neg n k) hzH3.1
  have hzH1 := fzE c0.1 s1.2.2 a0 a1 (fun _ _ => rfl) hzH2.1
  have hzH0 := fzE pz c0.1 rfl a0 (fun n k => pnm_neg n k) hzH1.1
  have tv7 : n4 = tvl (vwC H0) (absC H0) := by
    have w := f7.2.2
    unfold nb_67 at w
    have w := w hzH1.1
    exact w
  have tv25 : n13 = tvl (vwC H0) (ptk (vwC H0) 29 (pTime (vwC H0) (ptk (vwC H0) 32 (pTime (vwC H0) (ptk (vwC H0) 27 (pnm (vwC H0) 0 2 (absC H0))))))) := by
    have w := f25.2.2
    unfold nb_67 at w
    have w := w hzH8.1
    rw [v6, a6] at w
    exact w
  have tv35 : n18 = tvl (vwC H0) (ptk (vwC H0) 5 (pnm (vwC H0) 0 400 (ptk (vwC H0) 29 (pTime (vwC H0) (ptk (vwC H0) 32 (pTime (vwC H0) (ptk (vwC H0) 27 (pnm (vwC H0) 0 2 (absC H0))))))))) := by
    have w := f35.2.2
    unfold nb_67 at w
    have w := w hzH11.1
    rw [v9, a9] at w
    exact w
  have tm14 := (ow14.2.1 rfl).2 hzH4.1
  rw [v2, a2] at tm14
  have tm18 := (ow18.2.2 (by decide)).2 hzH6.1
  rw [v4, a4] at tm18
  exact ⟨((uSlot f38 _ 3 (by rw [f37]; decide)).trans ((fr1 f35.1.2.1 (by decide +kernel) kc9 3).trans ((fr1 f30.1.2.1 (by decide +kernel) kc8 3).trans ((uSlot f28 _ 3 (by rw [f27]; decide)).trans ((fr1 f25.1.2.1 (by decide +kernel) kc6 3).trans ((fr1 f20.1.2.1 (by decide +kernel) kc5 3).trans (((ow18.2.2 (by decide)).1 3 (by decide) (by decide)).trans ((fr1 f16.1.2.1 (by decide +kernel) kc3 3).trans (((ow14.2.1 rfl).1 3 (by decide) (by decide)).trans ((fr1 f12.1.2.1 (by decide +kernel) kc1 3).trans (uSame f10 _ 3 (Int.toNat_of_nonneg cz) (by rw [f9]; rfl)))))))))))).trans tv7, (uSlot f38 _ 4 (by rw [f37]; decide)).trans ((fr1 f35.1.2.1 (by decide +kernel) kc9 4).trans ((fr1 f30.1.2.1 (by decide +kernel) kc8 4).trans ((uSlot f28 _ 4 (by rw [f27]; decide)).trans ((fr1 f25.1.2.1 (by decide +kernel) kc6 4).trans ((fr1 f20.1.2.1 (by decide +kernel) kc5 4).trans (((ow18.2.2 (by decide)).1 4 (by decide) (by decide)).trans ((fr1 f16.1.2.1 (by decide +kernel) kc3 4).trans (tm14.1)))))))), (uSlot f38 _ 5 (by rw [f37]; decide)).trans ((fr1 f35.1.2.1 (by decide +kernel) kc9 5).trans ((fr1 f30.1.2.1 (by decide +kernel) kc8 5).trans ((uSlot f28 _ 5 (by rw [f27]; decide)).trans ((fr1 f25.1.2.1 (by decide +kernel) kc6 5).trans ((fr1 f20.1.2.1 (by decide +kernel) kc5 5).trans (((ow18.2.2 (by decide)).1 5 (by decide) (by decide)).trans ((fr1 f16.1.2.1 (by decide +kernel) kc3 5).trans (tm14.2)))))))), (uSlot f38 _ 6 (by rw [f37]; decide)).trans ((fr1 f35.1.2.1 (by decide +kernel) kc9 6).trans ((fr1 f30.1.2.1 (by decide +kernel) kc8 6).trans ((uSlot f28 _ 6 (by rw [f27]; decide)).trans ((fr1 f25.1.2.1 (by decide +kernel) kc6 6).trans ((fr1 f20.1.2.1 (by decide +kernel) kc5 6).trans (tm18.1)))))), (uSlot f38 _ 7 (by rw [f37]; decide)).trans ((fr1 f35.1.2.1 (by decide +kernel) kc9 7).trans ((fr1 f30.1.2.1 (by decide +kernel) kc8 7).trans ((uSlot f28 _ 7 (by rw [f27]; decide)).trans ((fr1 f25.1.2.1 (by decide +kernel) kc6 7).trans ((fr1 f20.1.2.1 (by decide +kernel) kc5 7).trans (tm18.2))))))⟩
def g_76vw_s_0 : vG := ([(80, [1, 19, 18], [12, 11], 0), (0, [19], [], 11), (23, [1], [11], 1), (1067, [18, 0, 16, 17], [10, 11], 0), (90, [18], [], -2147483648), (91, [18], [], 2147483647), (0, [17], [], 400), (0, [16], [], 0), (1066, [0, 15], [9, 10], 0), (0, [15], [], 5), (80, [1, 14, 13], [9, 8], 0), (0, [14], [], 10), (23, [1], [8], 1), (1067, [13, 0, 11, 12], [7, 8], 0), (90, [13], [], -2147483648), (91, [13], [], 2147483647), (0, [12], [], 400), (0, [11], [], 0), (1066, [0, 10], [6, 7], 0), (0, [10], [], 29), (1081, [0, 1, 9], [5, 6], 0), (0, [9], [], 1), (1066, [0, 8], [4, 5], 0), (0, [8], [], 32), (1081, [0, 1, 7], [3, 4], 0), (0, [7], [], 0), (1066, [0, 6], [2, 3], 0), (0, [6], [], 27), (80, [1, 5, 4], [2, 1], 0), (0, [5], [], 3), (23, [1], [1], 1), (1067, [4, 0, 2, 3], [0, 1], 0), (90, [4], [], -2147483648), (91, [4], [], 2147483647), (0, [3], [], 2), (0, [2], [], 0), (6000, [0, 1], [0], 0), (0, [0], [], 30), (51, [1], [], 0)], (3000, [], [12], 69))
theorem c_76vw_s_0 : vOkm T0 (eN e_76v L_76vw A_76v mu_76v n_76 B_76 none) 2 g_76vw_s_0 := vOk_inI fun ρ η f0 f1 f2 f3 f4 f5 f6 f7 f8 f9 f10 f11 f12 f13 f14 f15 f16 f17 f18 f19 f20 f21 f22 f23 f24 f25 f26 f27 f28 f29 f30 f31 f32 f33 f34 f35 f36 f37 f38 => q_76vw_0 (n0 := ρ 1) (n1 := ρ 0) (n2 := ρ 2) (n3 := ρ 3) (n4 := ρ 4) (n5 := ρ 5) (n6 := ρ 6) (n7 := ρ 7) (n8 := ρ 8) (n9 := ρ 9) (n10 := ρ 10) (n11 := ρ 11) (n12 := ρ 12) (n13 := ρ 13) (n14 := ρ 14) (n15 := ρ 15) (n16 := ρ 16) (n17 := ρ 17) (n18 := ρ 18) (n19 := ρ 19) (H0 := η 0) (H1 := η 1) (H2 := η 2) (H3 := η 3) (H4 := η 4) (H5 := η 5) (H6 := η 6) (H7 := η 7) (H8 := η 8) (H9 := η 9) (H10 := η 10) (H11 := η 11) (H12 := η 12) f38 f37 f36 f35 f34 f33 f32 f31 f30 f29 f28 f27 f26 f25 f24 f23 f22 f21 f20 f19 f18 f17 f16 f15 f14 f13 f12 f11 f10 f9 f8 f7 f6 f5 f4 f3 f2 f1 f0
def p_76vw_s : List vG := [g_76vw_s_0]
theorem r_76vw_s : vCovBO (eR0 e_76v L_76v cs_76v 2000) p_76vw_s = true := by decide +kernel
theorem m_76vw (d : Nat) : eC e_76vw (d + 5) := eC_ref (e := e_76v) (L := L_76v) (L' := L_76vw) (cs := cs_76v) (n := 2000) (d := d + 4) (A := A_76v) (μ := mu_76v) (tp := false) (p0 := p_76v_s) (p1 := p_76vw_s) (N := n_76) (B := B_76) rfl ⟨m_66v (d + 2), ⟨m_67vw (d + 1), ⟨m_81vw d, trivial⟩⟩⟩ rfl (.inl rfl) (by decide +kernel) (fun z => nomatch z) r_76v_s (allC c_76v_s_0 (allC c_76v_s_1 (allC c_76v_s_2 (allC c_76v_s_3 (allC c_76v_s_4 (allC c_76v_s_5 (allC c_76v_s_6 (allC c_76v_s_7 (allC c_76v_s_8 (allC c_76v_s_9 allN)))))))))) allN (sub0 (sub1 (sub1 trivial))) r_76vw_s (allC c_76vw_s_0 allN) allN
/- Reader.readDip (LMixStage$Cue;)V, more fully -/
def nb_77 (a0 a1 : Int) (h0 h : gH) : Prop := hK h0 (a1).toNat = 1 → 0 ≤ a1 → CUo h0 h a1 ∧ (∀ s : Nat, ¬ s = 3 → ¬ s = 14 → ¬ s = 15 → ¬ s = 16 → hV h (a1).toNat s = hV h0 (a1).toNat s) ∧ (hV h 30 3 = 0 → hV h (a1).toNat 3 = tvl (vwC h0) (absC h0))
def n_77 : List Int → gH → gH → Prop := fun xs h0 h => match xs with
  | [a0, a1] => nb_77 a0 a1 h0 h
  | _ => True
noncomputable def e_77vw : vE := eV e_77v n_77
noncomputable def L_77vw : List vE := [e_66v, e_67vw]
def B_77 : Int → List Int → gH → gH → Prop := fun c xs h0 h => True
theorem q_77vw_0 {n0 n1 n2 n3 n4 n5 n6 n7 n8 n9 n10 n11 n12 n13 n14 n15 n16 n17 n18 n19 n20 : Int} {H0 H1 H2 H3 H4 H5 H6 H7 H8 H9 H10 H11 : gH} (f0 : 0 ≤ n0) (f1 : n1 = 30) (f2 : hWt T0 H0 ∧ preb_77v n1 n0 H0) (f3 : n2 = 0) (f4 : n3 = 2) (f5 : n4 ≤ 2147483647) (f6 : (-2147483648) ≤ n4) (f7 : (hLe T0 H0 H1 ∧ hFr s_67v.2.2.2.2 H0 H1 ∧ ((0 : Int) = 0 → H1.length = H0.length) ∧ hWt T0 H1) ∧ (postb_67v n4 n1 n2 n3 H0 H1 ∧ nb_67 n4 n1 n2 n3 H0 H1)) (f8 : hK H1 (n0).toNat = 1) (f9 : n5 = 3) (f10 : hUpd H2 H1 n0 n5 n4) (f11 : n6 = 33) (f12 : (hLe T0 H2 H3 ∧ hFr s_66v.2.2.2.2 H2 H3 ∧ ((0 : Int) = 0 → H3.length = H2.length) ∧ hWt T0 H3) ∧ postb_66v n1 n6 H2 H3) (f13 : n7 = 0) (f14 : n8 = 2) (f15 : n9 ≤ 2147483647) (f16 : (-2147483648) ≤ n9) (f17 : (hLe T0 H3 H4 ∧ hFr s_67v.2.2.2.2 H3 H4 ∧ ((0 : Int) = 0 → H4.length = H3.length) ∧ hWt T0 H4) ∧ (postb_67v n9 n1 n7 n8 H3 H4 ∧ nb_67 n9 n1 n7 n8 H3 H4)) (f18 : hK H4 (n0).toNat = 1) (f19 : n10 = 14) (f20 : hUpd H5 H4 n0 n10 n9) (f21 : n11 = 34) (f22 : (hLe T0 H5 H6 ∧ hFr s_66v.2.2.2.2 H5 H6 ∧ ((0 : Int) = 0 → H6.length = H5.length) ∧ hWt T0 H6) ∧ postb_66v n1 n11 H5 H6) (f23 : n12 = 0) (f24 : n13 = 400) (f25 : n14 ≤ 2147483647) (f26 : (-2147483648) ≤ n14) (f27 : (hLe T0 H6 H7 ∧ hFr s_67v.2.2.2.2 H6 H7 ∧ ((0 : Int) = 0 → H7.length = H6.length) ∧ hWt T0 H7) ∧ (postb_67v n14 n1 n12 n13 H6 H7 ∧ nb_67 n14 n1 n12 n13 H6 H7)) (f28 : hK H7 (n0).toNat = 1) (f29 : n15 = 15) (f30 : hUpd H8 H7 n0 n15 n14) (f31 : n16 = 35) (f32 : (hLe T0 H8 H9 ∧ hFr s_66v.2.2.2.2 H8 H9 ∧ ((0 : Int) = 0 → H9.length = H8.length) ∧ hWt T0 H9) ∧ postb_66v n1 n16 H8 H9) (f33 : n17 = 0) (f34 : n18 = 60) (f35 : n19 ≤ 2147483647) (f36 : (-2147483648) ≤ n19) (f37 : (hLe T0 H9 H10 ∧ hFr s_67v.2.2.2.2 H9 H10 ∧ ((0 : Int) = 0 → H10.length = H9.length) ∧ hWt T0 H10) ∧ (postb_67v n19 n1 n17 n18 H9 H10 ∧ nb_67 n19 n1 n17 n18 H9 H10)) (f38 : hK H10 (n0).toNat = 1) (f39 : n20 = 16) (f40 : hUpd H11 H10 n0 n20 n19) : nb_77 n1 n0 H0 H11 := by
  unfold nb_77
  intro hk cz
  have pz := f2.2
  unfold preb_77v at pz
  have c0 := f7.2.1
  unfold postb_67v at c0
  try rw [f3] at c0
  try rw [f4] at c0
  have a0 : absC H1 = (pnm (vwC H0) 0 2 (absC H0)) := c0.2
  have v0 : vwC H1 = vwC H0 := (vwC_fr f7.1.2.1 (by decide +kernel))
  have s1 := PF_up f10 c0.1 f8
  have a1 : absC H2 = (pnm (vwC H0) 0 2 (absC H0)) := s1.1.trans a0
  have v1 : vwC H2 = vwC H0 := s1.2.1.trans v0
  have c2 := f12.2
  unfold postb_66v at c2
  try rw [f11] at c2
  rw [v1] at c2
  rw [a1] at c2
  have a2 : absC H3 = (ptk (vwC H0) 33 (pnm (vwC H0) 0 2 (absC H0))) := c2.2
  have v2 : vwC H3 = vwC H0 := (vwC_fr f12.1.2.1 (by decide +kernel)).trans v1
  have c3 := f17.2.1
  unfold postb_67v at c3
  try rw [f13] at c3
  try rw [f14] at c3
  rw [v2] at c3
  rw [a2] at c3
  have a3 : absC H4 = (pnm (vwC H0) 0 2 (ptk (vwC H0) 33 (pnm (vwC H0) 0 2 (absC H0)))) := c3.2
  have v3 : vwC H4 = vwC H0 := (vwC_fr f17.1.2.1 (by decide +kernel)).trans v2
  have s4 := PF_up f20 c3.1 f18
  have a4 : absC H5 = (pnm (vwC H0) 0 2 (ptk (vwC H0) 33 (pnm (vwC H0) 0 2 (absC H0)))) := s4.1.trans a3
  have v4 : vwC H5 = vwC H0 := s4.2.1.trans v3
  have c5 := f22.2
  unfold postb_66v at c5
  try rw [f21] at c5
  rw [v4] at c5
  rw [a4] at c5
  have a5 : absC H6 = (ptk (vwC H0) 34 (pnm (vwC H0) 0 2 (ptk (vwC H0) 33 (pnm (vwC H0) 0 2 (absC H0))))) := c5.2
  have v5 : vwC H6 = vwC H0 := (vwC_fr f22.1.2.1 (by decide +kernel)).trans v4
  have c6 := f27.2.1
  unfold postb_67v at c6
  try rw [f23] at c6
  try rw [f24] at c6
  rw [v5] at c6
  rw [a5] at c6
  have a6 : absC H7 = (pnm (vwC H0) 0 400 (ptk (vwC H0) 34 (pnm (vwC H0) 0 2 (ptk (vwC H0) 33 (pnm (vwC H0) 0 2 (absC H0)))))) := c6.2
  have v6 : vwC H7 = vwC H0 := (vwC_fr f27.1.2.1 (by decide +kernel)).trans v5
  have s7 := PF_up f30 c6.1 f28
  have a7 : absC H8 = (pnm (vwC H0) 0 400 (ptk (vwC H0) 34 (pnm (vwC H0) 0 2 (ptk (vwC H0) 33 (pnm (vwC H0) 0 2 (absC H0)))))) := s7.1.trans a6
  have v7 : vwC H8 = vwC H0 := s7.2.1.trans v6
  have c8 := f32.2
  unfold postb_66v at c8
  try rw [f31] at c8
  rw [v7] at c8
  rw [a7] at c8
  have a8 : absC H9 = (ptk (vwC H0) 35 (pnm (vwC H0) 0 400 (ptk (vwC H0) 34 (pnm (vwC H0) 0 2 (ptk (vwC H0) 33 (pnm (vwC H0) 0 2 (absC H0))))))) := c8.2
  have v8 : vwC H9 = vwC H0 := (vwC_fr f32.1.2.1 (by decide +kernel)).trans v7
  have c9 := f37.2.1
  unfold postb_67v at c9
  try rw [f33] at c9
  try rw [f34] at c9
  rw [v8] at c9
  rw [a8] at c9
  have a9 : absC H10 = (pnm (vwC H0) 0 60 (ptk (vwC H0) 35 (pnm (vwC H0) 0 400 (ptk (vwC H0) 34 (pnm (vwC H0) 0 2 (ptk (vwC H0) 33 (pnm (vwC H0) 0 2 (absC H0)))))))) := c9.2
  have v9 : vwC H10 = vwC H0 := (vwC_fr f37.1.2.1 (by decide +kernel)).trans v8
  have s10 := PF_up f40 c9.1 f38
  have a10 : absC H11 = (pnm (vwC H0) 0 60 (ptk (vwC H0) 35 (pnm (vwC H0) 0 400 (ptk (vwC H0) 34 (pnm (vwC H0) 0 2 (ptk (vwC H0) 33 (pnm (vwC H0) 0 2 (absC H0)))))))) := s10.1.trans a9
  have v10 : vwC H11 = vwC H0 := s10.2.1.trans v9
  have kc0 : hK H1 (n0).toNat = 1 := kLe f7.1.1 hk rfl
  have kc1 : hK H2 (n0).toNat = 1 := kUp f10 kc0
  have kc2 : hK H3 (n0).toNat = 1 := kLe f12.1.1 kc1 rfl
  have kc3 : hK H4 (n0).toNat = 1 := kLe f17.1.1 kc2 rfl
  have kc4 : hK H5 (n0).toNat = 1 := kUp f20 kc3
  have kc5 : hK H6 (n0).toNat = 1 := kLe f22.1.1 kc4 rfl
  have kc6 : hK H7 (n0).toNat = 1 := kLe f27.1.1 kc5 rfl
  have kc7 : hK H8 (n0).toNat = 1 := kUp f30 kc6
  have kc8 : hK H9 (n0).toNat = 1 := kLe f32.1.1 kc7 rfl
  have kc9 : hK H10 (n0).toNat = 1 := kLe f37.1.1 kc8 rfl
  have kc10 : hK H11 (n0).toNat = 1 := kUp f40 kc9
  refine ⟨(CUo_tr (CUo_fr f7.1.1 f7.1.2.1 (by decide +kernel)) (CUo_tr (CUo_up f10) (CUo_tr (CUo_fr f12.1.1 f12.1.2.1 (by decide +kernel)) (CUo_tr (CUo_fr f17.1.1 f17.1.2.1 (by decide +kernel)) (CUo_tr (CUo_up f20) (CUo_tr (CUo_fr f22.1.1 f22.1.2.1 (by decide +kernel)) (CUo_tr (CUo_fr f27.1.1 f27.1.2.1 (by decide +kernel)) (CUo_tr (CUo_up f30) (CUo_tr (CUo_fr f32.1.1 f32.1.2.1 (by decide +kernel)) (CUo_tr (CUo_fr f37.1.1 f37.1.2.1 (by decide +kernel)) (CUo_up f40))))))))))), fun s h3 h14 h15 h16 => (uSlot f40 _ s (by have w := f39; omega)).trans ((fr1 f37.1.2.1 (by decide +kernel) kc8 s).trans ((fr1 f32.1.2.1 (by decide +kernel) kc7 s).trans ((uSlot f30 _ s (by have w := f29; omega)).trans ((fr1 f27.1.2.1 (by decide +kernel) kc5 s).trans ((fr1 f22.1.2.1 (by decide +kernel) kc4 s).trans ((uSlot f20 _ s (by have w := f19; omega)).trans ((fr1 f17.1.2.1 (by decide +kernel) kc2 s).trans ((fr1 f12.1.2.1 (by decide +kernel) kc1 s).trans ((uSlot f10 _ s (by have w := f9; omega)).trans (fr1 f7.1.2.1 (by decide +kernel) hk s)))))))))), fun hf => ?_⟩
  have hzH10 := fzE c9.1 s10.2.2 a9 a10 (fun _ _ => rfl) hf
  have hzH9 := fzE c8.1 c9.1 a8 a9 (fun n k => pnm_neg n k) hzH10.1
  have hzH8 := fzE s7.2.2 c8.1 a7 a8 (fun n k => ptk_neg n k) hzH9.1
  have hzH7 := fzE c6.1 s7.2.2 a6 a7 (fun _ _ => rfl) hzH8.1
  have hzH6 := fzE c5.1 c6.1 a5 a6 (fun n k => pnm_neg n k) hzH7.1
  have hzH5 := fzE s4.2.2 c5.1 a4 a5 (fun n k => ptk_neg n k) hzH6.1
  have hzH4 := fzE c3.1 s4.2.2 a3 a4 (fun _ _ => rfl) hzH5.1
  have hzH3 := fzE c2.1 c3.1 a2 a3 (fun n k => pnm_neg n k) hzH4.1
  have hzH2 := fzE s1.2.2 c2.1 a1 a2 (fun n k => ptk_neg n k) hzH3.1
  have hzH1 := fzE c0.1 s1.2.2 a0 a1 (fun _ _ => rfl) hzH2.1
  have hzH0 := fzE pz c0.1 rfl a0 (fun n k => pnm_neg n k) hzH1.1
  have tv7 : n4 = tvl (vwC H0) (absC H0) := by
    have w := f7.2.2
    unfold nb_67 at w
    have w := w hzH1.1
    exact w
  have tv17 : n9 = tvl (vwC H0) (ptk (vwC H0) 33 (pnm (vwC H0) 0 2 (absC H0))) := by
    have w := f17.2.2
    unfold nb_67 at w
    have w := w hzH4.1
    rw [v2, a2] at w
    exact w
  have tv27 : n14 = tvl (vwC H0) (ptk (vwC H0) 34 (pnm (vwC H0) 0 2 (ptk (vwC H0) 33 (pnm (vwC H0) 0 2 (absC H0))))) := by
    have w := f27.2.2
    unfold nb_67 at w
    have w := w hzH7.1
    rw [v5, a5] at w
    exact w
  have tv37 : n19 = tvl (vwC H0) (ptk (vwC H0) 35 (pnm (vwC H0) 0 400 (ptk (vwC H0) 34 (pnm (vwC H0) 0 2 (ptk (vwC H0) 33 (pnm (vwC H0) 0 2 (absC H0))))))) := by
    have w := f37.2.2
    unfold nb_67 at w
    have w := w hzH10.1
    rw [v8, a8] at w
    exact w
  exact ((uSlot f40 _ 3 (by rw [f39]; decide)).trans ((fr1 f37.1.2.1 (by decide +kernel) kc8 3).trans ((fr1 f32.1.2.1 (by decide +kernel) kc7 3).trans ((uSlot f30 _ 3 (by rw [f29]; decide)).trans ((fr1 f27.1.2.1 (by decide +kernel) kc5 3).trans ((fr1 f22.1.2.1 (by decide +kernel) kc4 3).trans ((uSlot f20 _ 3 (by rw [f19]; decide)).trans ((fr1 f17.1.2.1 (by decide +kernel) kc2 3).trans ((fr1 f12.1.2.1 (by decide +kernel) kc1 3).trans (uSame f10 _ 3 (Int.toNat_of_nonneg cz) (by rw [f9]; rfl))))))))))).trans tv7
def g_77vw_s_0 : vG := ([(80, [1, 20, 19], [11, 10], 0), (0, [20], [], 16), (23, [1], [10], 1), (1067, [19, 0, 17, 18], [9, 10], 0), (90, [19], [], -2147483648), (91, [19], [], 2147483647), (0, [18], [], 60), (0, [17], [], 0), (1066, [0, 16], [8, 9], 0), (0, [16], [], 35), (80, [1, 15, 14], [8, 7], 0), (0, [15], [], 15), (23, [1], [7], 1), (1067, [14, 0, 12, 13], [6, 7], 0), (90, [14], [], -2147483648), (91, [14], [], 2147483647), (0, [13], [], 400), (0, [12], [], 0), (1066, [0, 11], [5, 6], 0), (0, [11], [], 34), (80, [1, 10, 9], [5, 4], 0), (0, [10], [], 14), (23, [1], [4], 1), (1067, [9, 0, 7, 8], [3, 4], 0), (90, [9], [], -2147483648), (91, [9], [], 2147483647), (0, [8], [], 2), (0, [7], [], 0), (1066, [0, 6], [2, 3], 0), (0, [6], [], 33), (80, [1, 5, 4], [2, 1], 0), (0, [5], [], 3), (23, [1], [1], 1), (1067, [4, 0, 2, 3], [0, 1], 0), (90, [4], [], -2147483648), (91, [4], [], 2147483647), (0, [3], [], 2), (0, [2], [], 0), (6000, [0, 1], [0], 0), (0, [0], [], 30), (51, [1], [], 0)], (3000, [], [11], 61))
theorem c_77vw_s_0 : vOkm T0 (eN e_77v L_77vw A_77v mu_77v n_77 B_77 none) 2 g_77vw_s_0 := vOk_inI fun ρ η f0 f1 f2 f3 f4 f5 f6 f7 f8 f9 f10 f11 f12 f13 f14 f15 f16 f17 f18 f19 f20 f21 f22 f23 f24 f25 f26 f27 f28 f29 f30 f31 f32 f33 f34 f35 f36 f37 f38 f39 f40 => q_77vw_0 (n0 := ρ 1) (n1 := ρ 0) (n2 := ρ 2) (n3 := ρ 3) (n4 := ρ 4) (n5 := ρ 5) (n6 := ρ 6) (n7 := ρ 7) (n8 := ρ 8) (n9 := ρ 9) (n10 := ρ 10) (n11 := ρ 11) (n12 := ρ 12) (n13 := ρ 13) (n14 := ρ 14) (n15 := ρ 15) (n16 := ρ 16) (n17 := ρ 17) (n18 := ρ 18) (n19 := ρ 19) (n20 := ρ 20) (H0 := η 0) (H1 := η 1) (H2 := η 2) (H3 := η 3) (H4 := η 4) (H5 := η 5) (H6 := η 6) (H7 := η 7) (H8 := η 8) (H9 := η 9) (H10 := η 10) (H11 := η 11) f40 f39 f38 f37 f36 f35 f34 f33 f32 f31 f30 f29 f28 f27 f26 f25 f24 f23 f22 f21 f20 f19 f18 f17 f16 f15 f14 f13 f12 f11 f10 f9 f8 f7 f6 f5 f4 f3 f2 f1 f0
def p_77vw_s : List vG := [g_77vw_s_0]
theorem r_77vw_s : vCovBO (eR0 e_77v L_77v cs_77v 2000) p_77vw_s = true := by decide +kernel
theorem m_77vw (d : Nat) : eC e_77vw (d + 4) := eC_ref (e := e_77v) (L := L_77v) (L' := L_77vw) (cs := cs_77v) (n := 2000) (d := d + 3) (A := A_77v) (μ := mu_77v) (tp := false) (p0 := p_77v_s) (p1 := p_77vw_s) (N := n_77) (B := B_77) rfl ⟨m_66v (d + 1), ⟨m_67vw d, trivial⟩⟩ rfl (.inl rfl) (by decide +kernel) (fun z => nomatch z) r_77v_s (allC c_77v_s_0 (allC c_77v_s_1 (allC c_77v_s_2 (allC c_77v_s_3 (allC c_77v_s_4 (allC c_77v_s_5 (allC c_77v_s_6 (allC c_77v_s_7 allN)))))))) allN (sub0 (sub1 trivial)) r_77vw_s (allC c_77vw_s_0 allN) allN
/- Reader.readWeight (LMixStage$Cue;)V, more fully -/
def nb_79 (a0 a1 : Int) (h0 h : gH) : Prop := hK h0 (a1).toNat = 1 → 0 ≤ a1 → CUo h0 h a1 ∧ (∀ s : Nat, ¬ s = 18 → hV h (a1).toNat s = hV h0 (a1).toNat s)
def n_79 : List Int → gH → gH → Prop := fun xs h0 h => match xs with
  | [a0, a1] => nb_79 a0 a1 h0 h
  | _ => True
noncomputable def e_79vw : vE := eV e_79v n_79
noncomputable def L_79vw : List vE := [e_64v, e_67vw, e_201k796]
def B_79 : Int → List Int → gH → gH → Prop := fun c xs h0 h => True
theorem q_79vw_0 {n0 n1 n2 n3 n4 n5 n6 n7 n8 n9 n10 n11 n12 : Int} {H0 H1 H2 H3 : gH} (f0 : 0 ≤ n0) (f1 : n1 = 30) (f2 : hWt T0 H0 ∧ preb_79v n1 n0 H0) (f3 : n2 ≤ 2147483647) (f4 : (-2147483648) ≤ n2) (f5 : hK H0 (n1).toNat = 4) (f6 : n2 = hV H0 (n1).toNat 2) (f7 : n3 = 3) (f8 : n2 ≠ n3) (f9 : 0 ≤ n4) (f10 : hK H0 (n0).toNat = 1) (f11 : n4 = hV H0 (n0).toNat 17) (f12 : n5 ≤ 2147483647) (f13 : (-2147483648) ≤ n5) (f14 : hK H0 (n0).toNat = 1) (f15 : n5 = hV H0 (n0).toNat 18) (f16 : n6 = 0) (f17 : n7 = 400) (f18 : n8 ≤ 2147483647) (f19 : (-2147483648) ≤ n8) (f20 : (hLe T0 H0 H1 ∧ hFr s_67v.2.2.2.2 H0 H1 ∧ ((0 : Int) = 0 → H1.length = H0.length) ∧ hWt T0 H1) ∧ (postb_67v n8 n1 n6 n7 H0 H1 ∧ nb_67 n8 n1 n6 n7 H0 H1)) (f21 : (hLe T0 H1 H2 ∧ hFr s_201k796.2.2.2.2 H1 H2 ∧ ((0 : Int) = 0 → H2.length = H1.length) ∧ hWt T0 H2) ∧ True) (f22 : n9 ≤ 2147483647) (f23 : (-2147483648) ≤ n9) (f24 : hK H2 (n0).toNat = 1) (f25 : n9 = hV H2 (n0).toNat 18) (f26 : n10 = 1) (f27 : n11 = w32 (n9 + n10)) (f28 : hK H2 (n0).toNat = 1) (f29 : n12 = 18) (f30 : hUpd H3 H2 n0 n12 n11) : nb_79 n1 n0 H0 H3 := by
  unfold nb_79
  intro hk cz
  have kc0 : hK H1 (n0).toNat = 1 := kLe f20.1.1 hk rfl
  have kc1 : hK H2 (n0).toNat = 1 := kLe f21.1.1 kc0 rfl
  have kc2 : hK H3 (n0).toNat = 1 := kUp f30 kc1
  exact ⟨(CUo_tr (CUo_fr f20.1.1 f20.1.2.1 (by decide +kernel)) (CUo_tr (CUo_fr f21.1.1 f21.1.2.1 (by decide +kernel)) (CUo_up f30))), fun s h18 => (uSlot f30 _ s (by have w := f29; omega)).trans ((fr1 f21.1.2.1 (by decide +kernel) kc0 s).trans (fr1 f20.1.2.1 (by decide +kernel) hk s))⟩
def g_79vw_s_0 : vG := ([(80, [1, 12, 11], [3, 2], 0), (0, [12], [], 18), (23, [1], [2], 1), (1, [11, 9, 10], [], 0), (0, [10], [], 1), (20, [9, 1], [2], 18), (23, [1], [2], 1), (90, [9], [], -2147483648), (91, [9], [], 2147483647), (1201, [4, 5, 8], [1, 2], 0), (1067, [8, 0, 6, 7], [0, 1], 0), (90, [8], [], -2147483648), (91, [8], [], 2147483647), (0, [7], [], 400), (0, [6], [], 0), (20, [5, 1], [0], 18), (23, [1], [0], 1), (90, [5], [], -2147483648), (91, [5], [], 2147483647), (20, [4, 1], [0], 17), (23, [1], [0], 1), (51, [4], [], 0), (41, [2, 3], [], 0), (0, [3], [], 3), (20, [2, 0], [0], 2), (23, [0], [0], 4), (90, [2], [], -2147483648), (91, [2], [], 2147483647), (6000, [0, 1], [0], 0), (0, [0], [], 30), (51, [1], [], 0)], (3000, [], [3], 50))
theorem c_79vw_s_0 : vOkm T0 (eN e_79v L_79vw A_79v mu_79v n_79 B_79 none) 2 g_79vw_s_0 := vOk_inI fun ρ η f0 f1 f2 f3 f4 f5 f6 f7 f8 f9 f10 f11 f12 f13 f14 f15 f16 f17 f18 f19 f20 f21 f22 f23 f24 f25 f26 f27 f28 f29 f30 => q_79vw_0 (n0 := ρ 1) (n1 := ρ 0) (n2 := ρ 2) (n3 := ρ 3) (n4 := ρ 4) (n5 := ρ 5) (n6 := ρ 6) (n7 := ρ 7) (n8 := ρ 8) (n9 := ρ 9) (n10 := ρ 10) (n11 := ρ 11) (n12 := ρ 12) (H0 := η 0) (H1 := η 1) (H2 := η 2) (H3 := η 3) f30 f29 f28 f27 f26 f25 f24 f23 f22 f21 f20 f19 f18 f17 f16 f15 f14 f13 f12 f11 f10 f9 f8 f7 f6 f5 f4 f3 f2 f1 f0
theorem q_79vw_1 {n0 n1 n2 n3 n4 n5 n6 n7 n8 n9 n10 n11 n12 n13 n14 : Int} {H0 H1 H2 H3 : gH} (f0 : 0 ≤ n0) (f1 : n1 = 30) (f2 : hWt T0 H0 ∧ preb_79v n1 n0 H0) (f3 : n2 ≤ 2147483647) (f4 : (-2147483648) ≤ n2) (f5 : hK H0 (n1).toNat = 4) (f6 : n2 = hV H0 (n1).toNat 2) (f7 : n3 = 3) (f8 : n2 = n3) (f9 : n4 ≤ 2147483647) (f10 : (-2147483648) ≤ n4) (f11 : hK H0 (n0).toNat = 1) (f12 : n4 = hV H0 (n0).toNat 18) (f13 : n5 = 4) (f14 : n4 < n5) (f15 : 0 ≤ n6) (f16 : hK H0 (n0).toNat = 1) (f17 : n6 = hV H0 (n0).toNat 17) (f18 : n7 ≤ 2147483647) (f19 : (-2147483648) ≤ n7) (f20 : hK H0 (n0).toNat = 1) (f21 : n7 = hV H0 (n0).toNat 18) (f22 : n8 = 0) (f23 : n9 = 400) (f24 : n10 ≤ 2147483647) (f25 : (-2147483648) ≤ n10) (f26 : (hLe T0 H0 H1 ∧ hFr s_67v.2.2.2.2 H0 H1 ∧ ((0 : Int) = 0 → H1.length = H0.length) ∧ hWt T0 H1) ∧ (postb_67v n10 n1 n8 n9 H0 H1 ∧ nb_67 n10 n1 n8 n9 H0 H1)) (f27 : (hLe T0 H1 H2 ∧ hFr s_201k796.2.2.2.2 H1 H2 ∧ ((0 : Int) = 0 → H2.length = H1.length) ∧ hWt T0 H2) ∧ True) (f28 : n11 ≤ 2147483647) (f29 : (-2147483648) ≤ n11) (f30 : hK H2 (n0).toNat = 1) (f31 : n11 = hV H2 (n0).toNat 18) (f32 : n12 = 1) (f33 : n13 = w32 (n11 + n12)) (f34 : hK H2 (n0).toNat = 1) (f35 : n14 = 18) (f36 : hUpd H3 H2 n0 n14 n13) : nb_79 n1 n0 H0 H3 := by
  unfold nb_79
  intro hk cz
  have kc0 : hK H1 (n0).toNat = 1 := kLe f26.1.1 hk rfl
  have kc1 : hK H2 (n0).toNat = 1 := kLe f27.1.1 kc0 rfl
  have kc2 : hK H3 (n0).toNat = 1 := kUp f36 kc1
  exact ⟨(CUo_tr (CUo_fr f26.1.1 f26.1.2.1 (by decide +kernel)) (CUo_tr (CUo_fr f27.1.1 f27.1.2.1 (by decide +kernel)) (CUo_up f36))), fun s h18 => (uSlot f36 _ s (by have w := f35; omega)).trans ((fr1 f27.1.2.1 (by decide +kernel) kc0 s).trans (fr1 f26.1.2.1 (by decide +kernel) hk s))⟩
def g_79vw_s_1 : vG := ([(80, [1, 14, 13], [3, 2], 0), (0, [14], [], 18), (23, [1], [2], 1), (1, [13, 11, 12], [], 0), (0, [12], [], 1), (20, [11, 1], [2], 18), (23, [1], [2], 1), (90, [11], [], -2147483648), (91, [11], [], 2147483647), (1201, [6, 7, 10], [1, 2], 0), (1067, [10, 0, 8, 9], [0, 1], 0), (90, [10], [], -2147483648), (91, [10], [], 2147483647), (0, [9], [], 400), (0, [8], [], 0), (20, [7, 1], [0], 18), (23, [1], [0], 1), (90, [7], [], -2147483648), (91, [7], [], 2147483647), (20, [6, 1], [0], 17), (23, [1], [0], 1), (51, [6], [], 0), (42, [4, 5], [], 0), (0, [5], [], 4), (20, [4, 1], [0], 18), (23, [1], [0], 1), (90, [4], [], -2147483648), (91, [4], [], 2147483647), (40, [2, 3], [], 0), (0, [3], [], 3), (20, [2, 0], [0], 2), (23, [0], [0], 4), (90, [2], [], -2147483648), (91, [2], [], 2147483647), (6000, [0, 1], [0], 0), (0, [0], [], 30), (51, [1], [], 0)], (3000, [], [3], 50))
theorem c_79vw_s_1 : vOkm T0 (eN e_79v L_79vw A_79v mu_79v n_79 B_79 none) 2 g_79vw_s_1 := vOk_inI fun ρ η f0 f1 f2 f3 f4 f5 f6 f7 f8 f9 f10 f11 f12 f13 f14 f15 f16 f17 f18 f19 f20 f21 f22 f23 f24 f25 f26 f27 f28 f29 f30 f31 f32 f33 f34 f35 f36 => q_79vw_1 (n0 := ρ 1) (n1 := ρ 0) (n2 := ρ 2) (n3 := ρ 3) (n4 := ρ 4) (n5 := ρ 5) (n6 := ρ 6) (n7 := ρ 7) (n8 := ρ 8) (n9 := ρ 9) (n10 := ρ 10) (n11 := ρ 11) (n12 := ρ 12) (n13 := ρ 13) (n14 := ρ 14) (H0 := η 0) (H1 := η 1) (H2 := η 2) (H3 := η 3) f36 f35 f34 f33 f32 f31 f30 f29 f28 f27 f26 f25 f24 f23 f22 f21 f20 f19 f18 f17 f16 f15 f14 f13 f12 f11 f10 f9 f8 f7 f6 f5 f4 f3 f2 f1 f0
theorem q_79vw_2 {n0 n1 n2 n3 n4 n5 n6 n7 n8 n9 n10 n11 n12 n13 n14 n15 : Int} {H0 H1 H2 H3 H4 : gH} (f0 : 0 ≤ n0) (f1 : n1 = 30) (f2 : hWt T0 H0 ∧ preb_79v n1 n0 H0) (f3 : n2 ≤ 2147483647) (f4 : (-2147483648) ≤ n2) (f5 : hK H0 (n1).toNat = 4) (f6 : n2 = hV H0 (n1).toNat 2) (f7 : n3 = 3) (f8 : n2 = n3) (f9 : n4 ≤ 2147483647) (f10 : (-2147483648) ≤ n4) (f11 : hK H0 (n0).toNat = 1) (f12 : n4 = hV H0 (n0).toNat 18) (f13 : n5 = 4) (f14 : n5 ≤ n4) (f15 : n6 = 2) (f16 : (hLe T0 H0 H1 ∧ hFr s_64v.2.2.2.2 H0 H1 ∧ ((0 : Int) = 0 → H1.length = H0.length) ∧ hWt T0 H1) ∧ postb_64v n1 n6 H0 H1) (f17 : 0 ≤ n7) (f18 : hK H1 (n0).toNat = 1) (f19 : n7 = hV H1 (n0).toNat 17) (f20 : n8 ≤ 2147483647) (f21 : (-2147483648) ≤ n8) (f22 : hK H1 (n0).toNat = 1) (f23 : n8 = hV H1 (n0).toNat 18) (f24 : n9 = 0) (f25 : n10 = 400) (f26 : n11 ≤ 2147483647) (f27 : (-2147483648) ≤ n11) (f28 : (hLe T0 H1 H2 ∧ hFr s_67v.2.2.2.2 H1 H2 ∧ ((0 : Int) = 0 → H2.length = H1.length) ∧ hWt T0 H2) ∧ (postb_67v n11 n1 n9 n10 H1 H2 ∧ nb_67 n11 n1 n9 n10 H1 H2)) (f29 : (hLe T0 H2 H3 ∧ hFr s_201k796.2.2.2.2 H2 H3 ∧ ((0 : Int) = 0 → H3.length = H2.length) ∧ hWt T0 H3) ∧ True) (f30 : n12 ≤ 2147483647) (f31 : (-2147483648) ≤ n12) (f32 : hK H3 (n0).toNat = 1) (f33 : n12 = hV H3 (n0).toNat 18) (f34 : n13 = 1) (f35 : n14 = w32 (n12 + n13)) (f36 : hK H3 (n0).toNat = 1) (f37 : n15 = 18) (f38 : hUpd H4 H3 n0 n15 n14) : nb_79 n1 n0 H0 H4 := by
  unfold nb_79
  intro hk cz
  have kc0 : hK H1 (n0).toNat = 1 := kLe f16.1.1 hk rfl
  have kc1 : hK H2 (n0).toNat = 1 := kLe f28.1.1 kc0 rfl
  have kc2 : hK H3 (n0).toNat = 1 := kLe f29.1.1 kc1 rfl
  have kc3 : hK H4 (n0).toNat = 1 := kUp f38 kc2
  exact ⟨(CUo_tr (CUo_fr f16.1.1 f16.1.2.1 (by decide +kernel)) (CUo_tr (CUo_fr f28.1.1 f28.1.2.1 (by decide +kernel)) (CUo_tr (CUo_fr f29.1.1 f29.1.2.1 (by decide +kernel)) (CUo_up f38)))), fun s h18 => (uSlot f38 _ s (by have w := f37; omega)).trans ((fr1 f29.1.2.1 (by decide +kernel) kc1 s).trans ((fr1 f28.1.2.1 (by decide +kernel) kc0 s).trans (fr1 f16.1.2.1 (by decide +kernel) hk s)))⟩
def g_79vw_s_2 : vG := ([(80, [1, 15, 14], [4, 3], 0), (0, [15], [], 18), (23, [1], [3], 1), (1, [14, 12, 13], [], 0), (0, [13], [], 1), (20, [12, 1], [3], 18), (23, [1], [3], 1), (90, [12], [], -2147483648), (91, [12], [], 2147483647), (1201, [7, 8, 11], [2, 3], 0), (1067, [11, 0, 9, 10], [1, 2], 0), (90, [11], [], -2147483648), (91, [11], [], 2147483647), (0, [10], [], 400), (0, [9], [], 0), (20, [8, 1], [1], 18), (23, [1], [1], 1), (90, [8], [], -2147483648), (91, [8], [], 2147483647), (20, [7, 1], [1], 17), (23, [1], [1], 1), (51, [7], [], 0), (1064, [0, 6], [0, 1], 0), (0, [6], [], 2), (43, [4, 5], [], 0), (0, [5], [], 4), (20, [4, 1], [0], 18), (23, [1], [0], 1), (90, [4], [], -2147483648), (91, [4], [], 2147483647), (40, [2, 3], [], 0), (0, [3], [], 3), (20, [2, 0], [0], 2), (23, [0], [0], 4), (90, [2], [], -2147483648), (91, [2], [], 2147483647), (6000, [0, 1], [0], 0), (0, [0], [], 30), (51, [1], [], 0)], (3000, [], [4], 50))
theorem c_79vw_s_2 : vOkm T0 (eN e_79v L_79vw A_79v mu_79v n_79 B_79 none) 2 g_79vw_s_2 := vOk_inI fun ρ η f0 f1 f2 f3 f4 f5 f6 f7 f8 f9 f10 f11 f12 f13 f14 f15 f16 f17 f18 f19 f20 f21 f22 f23 f24 f25 f26 f27 f28 f29 f30 f31 f32 f33 f34 f35 f36 f37 f38 => q_79vw_2 (n0 := ρ 1) (n1 := ρ 0) (n2 := ρ 2) (n3 := ρ 3) (n4 := ρ 4) (n5 := ρ 5) (n6 := ρ 6) (n7 := ρ 7) (n8 := ρ 8) (n9 := ρ 9) (n10 := ρ 10) (n11 := ρ 11) (n12 := ρ 12) (n13 := ρ 13) (n14 := ρ 14) (n15 := ρ 15) (H0 := η 0) (H1 := η 1) (H2 := η 2) (H3 := η 3) (H4 := η 4) f38 f37 f36 f35 f34 f33 f32 f31 f30 f29 f28 f27 f26 f25 f24 f23 f22 f21 f20 f19 f18 f17 f16 f15 f14 f13 f12 f11 f10 f9 f8 f7 f6 f5 f4 f3 f2 f1 f0
def p_79vw_s : List vG := [g_79vw_s_0,
  g_79vw_s_1,
  g_79vw_s_2]
theorem r_79vw_s : vCovBO (eR0 e_79v L_79v cs_79v 2000) p_79vw_s = true := by decide +kernel
theorem m_79vw (d : Nat) : eC e_79vw (d + 4) := eC_ref (e := e_79v) (L := L_79v) (L' := L_79vw) (cs := cs_79v) (n := 2000) (d := d + 3) (A := A_79v) (μ := mu_79v) (tp := false) (p0 := p_79v_s) (p1 := p_79vw_s) (N := n_79) (B := B_79) rfl ⟨m_64v (d + 2), ⟨m_67vw d, ⟨m_201k796 (d + 2), trivial⟩⟩⟩ rfl (.inl rfl) (by decide +kernel) (fun z => nomatch z) r_79v_s (allC c_79v_s_0 (allC c_79v_s_1 (allC c_79v_s_2 (allC c_79v_s_3 (allC c_79v_s_4 (allC c_79v_s_5 (allC c_79v_s_6 allN))))))) allN (sub0 (sub1 (sub0 trivial))) r_79vw_s (allC c_79vw_s_0 (allC c_79vw_s_1 (allC c_79vw_s_2 allN))) allN
/- Reader.readTaps (LMixStage$Cue;)V, more fully -/
def nb_78 (a0 a1 : Int) (h0 h : gH) : Prop := hK h0 (a1).toNat = 1 → 0 ≤ a1 → CUo h0 h a1 ∧ (∀ s : Nat, ¬ s = 3 → ¬ s = 18 → hV h (a1).toNat s = hV h0 (a1).toNat s) ∧ (hV h 30 3 = 0 → hV h (a1).toNat 3 = tvl (vwC h0) (absC h0))
def n_78 : List Int → gH → gH → Prop := fun xs h0 h => match xs with
  | [a0, a1] => nb_78 a0 a1 h0 h
  | _ => True
noncomputable def e_78vw : vE := eV e_78v n_78
noncomputable def L_78vw : List vE := [e_66v, e_67vw, e_79vw]
def Bb_78_23 (a0 a1 x0 x1 x2 : Int) (h0 h : gH) : Prop := hK h0 (a1).toNat = 1 → 0 ≤ a1 → x1 = a1 ∧ CUo h0 h a1 ∧ (∀ s : Nat, ¬ s = 3 → ¬ s = 18 → hV h (a1).toNat s = hV h0 (a1).toNat s) ∧ (hV h 30 3 = 0 → hV h (a1).toNat 3 = tvl (vwC h0) (absC h0))
def B_78 : Int → List Int → gH → gH → Prop := fun c xs h0 h => match c.toNat with
  | 23 => (match xs with
    | [a0, a1, x0, x1, x2] => Bb_78_23 a0 a1 x0 x1 x2 h0 h
    | _ => False)
  | _ => True
theorem q_78vw_0 {n0 n1 n2 n3 n4 n5 n6 n7 : Int} {H0 H1 H2 H3 H4 : gH} (f0 : 0 ≤ n0) (f1 : n1 = 30) (f2 : hWt T0 H0 ∧ preb_78v n1 n0 H0) (f3 : n2 = 0) (f4 : n3 = 2) (f5 : n4 ≤ 2147483647) (f6 : (-2147483648) ≤ n4) (f7 : (hLe T0 H0 H1 ∧ hFr s_67v.2.2.2.2 H0 H1 ∧ ((0 : Int) = 0 → H1.length = H0.length) ∧ hWt T0 H1) ∧ (postb_67v n4 n1 n2 n3 H0 H1 ∧ nb_67 n4 n1 n2 n3 H0 H1)) (f8 : hK H1 (n0).toNat = 1) (f9 : n5 = 3) (f10 : hUpd H2 H1 n0 n5 n4) (f11 : n6 = 36) (f12 : (hLe T0 H2 H3 ∧ hFr s_66v.2.2.2.2 H2 H3 ∧ ((0 : Int) = 0 → H3.length = H2.length) ∧ hWt T0 H3) ∧ postb_66v n1 n6 H2 H3) (f13 : (hLe T0 H3 H4 ∧ hFr s_79v.2.2.2.2 H3 H4 ∧ ((0 : Int) = 0 → H4.length = H3.length) ∧ hWt T0 H4) ∧ (postb_79v n1 n0 H3 H4 ∧ nb_79 n1 n0 H3 H4)) (f14 : n7 = 0) : Bb_78_23 n1 n0 n1 n0 n7 H0 H4 := by
  unfold Bb_78_23
  intro hk cz
  have pz := f2.2
  unfold preb_78v at pz
  have c0 := f7.2.1
  unfold postb_67v at c0
  try rw [f3] at c0
  try rw [f4] at c0
  have a0 : absC H1 = (pnm (vwC H0) 0 2 (absC H0)) := c0.2
  have v0 : vwC H1 = vwC H0 := (vwC_fr f7.1.2.1 (by decide +kernel))
  have s1 := PF_up f10 c0.1 f8
  have a1 : absC H2 = (pnm (vwC H0) 0 2 (absC H0)) := s1.1.trans a0
  have v1 : vwC H2 = vwC H0 := s1.2.1.trans v0
  have c2 := f12.2
  unfold postb_66v at c2
  try rw [f11] at c2
  rw [v1] at c2
  rw [a1] at c2
  have a2 : absC H3 = (ptk (vwC H0) 36 (pnm (vwC H0) 0 2 (absC H0))) := c2.2
  have v2 : vwC H3 = vwC H0 := (vwC_fr f12.1.2.1 (by decide +kernel)).trans v1
  have c3 := f13.2.1
  unfold postb_79v at c3
  rw [v2] at c3
  rw [a2] at c3
  have a3 : absC H4 = (pWt (vwC H0) (hV H3 (n0).toNat 18) (ptk (vwC H0) 36 (pnm (vwC H0) 0 2 (absC H0)))) := c3.2.1
  have v3 : vwC H4 = vwC H0 := (vwC_fr f13.1.2.1 (by decide +kernel)).trans v2
  have kc0 : hK H1 (n0).toNat = 1 := kLe f7.1.1 hk rfl
  have kc1 : hK H2 (n0).toNat = 1 := kUp f10 kc0
  have kc2 : hK H3 (n0).toNat = 1 := kLe f12.1.1 kc1 rfl
  have kc3 : hK H4 (n0).toNat = 1 := kLe f13.1.1 kc2 rfl
  have ow13 := f13.2.2
  unfold nb_79 at ow13
  have ow13 := ow13 kc2 cz
  try rw [f1] at ow13
  refine ⟨rfl, (CUo_tr (CUo_fr f7.1.1 f7.1.2.1 (by decide +kernel)) (CUo_tr (CUo_up f10) (CUo_tr (CUo_fr f12.1.1 f12.1.2.1 (by decide +kernel)) ow13.1))), fun s h3 h18 => (ow13.2 s h18).trans ((fr1 f12.1.2.1 (by decide +kernel) kc1 s).trans ((uSlot f10 _ s (by have w := f9; omega)).trans (fr1 f7.1.2.1 (by decide +kernel) hk s))), fun hf => ?_⟩
  have hzH3 := fzE c2.1 c3.1 a2 a3 (fun n k => pWt_neg (vwC_ok H0) n k) hf
  have hzH2 := fzE s1.2.2 c2.1 a1 a2 (fun n k => ptk_neg n k) hzH3.1
  have hzH1 := fzE c0.1 s1.2.2 a0 a1 (fun _ _ => rfl) hzH2.1
  have hzH0 := fzE pz.1 c0.1 rfl a0 (fun n k => pnm_neg n k) hzH1.1
  have tv7 : n4 = tvl (vwC H0) (absC H0) := by
    have w := f7.2.2
    unfold nb_67 at w
    have w := w hzH1.1
    exact w
  exact ((ow13.2 3 (by decide)).trans ((fr1 f12.1.2.1 (by decide +kernel) kc1 3).trans (uSame f10 _ 3 (Int.toNat_of_nonneg cz) (by rw [f9]; rfl)))).trans tv7
def g_78vw_s_0 : vG := ([(0, [7], [], 0), (1079, [0, 1], [3, 4], 0), (1066, [0, 6], [2, 3], 0), (0, [6], [], 36), (80, [1, 5, 4], [2, 1], 0), (0, [5], [], 3), (23, [1], [1], 1), (1067, [4, 0, 2, 3], [0, 1], 0), (90, [4], [], -2147483648), (91, [4], [], 2147483647), (0, [3], [], 2), (0, [2], [], 0), (6000, [0, 1], [0], 0), (0, [0], [], 30), (51, [1], [], 0)], (4000, [0, 1, 7], [4], 23))
theorem c_78vw_s_0 : vOkm T0 (eN e_78v L_78vw A_78v mu_78v n_78 B_78 none) 2 g_78vw_s_0 := vOk_inI fun ρ η f0 f1 f2 f3 f4 f5 f6 f7 f8 f9 f10 f11 f12 f13 f14 => q_78vw_0 (n0 := ρ 1) (n1 := ρ 0) (n2 := ρ 2) (n3 := ρ 3) (n4 := ρ 4) (n5 := ρ 5) (n6 := ρ 6) (n7 := ρ 7) (H0 := η 0) (H1 := η 1) (H2 := η 2) (H3 := η 3) (H4 := η 4) f14 f13 f12 f11 f10 f9 f8 f7 f6 f5 f4 f3 f2 f1 f0
def p_78vw_s : List vG := [g_78vw_s_0]
theorem r_78vw_s : vCovBO (eR0 e_78v L_78v cs_78v 2000) p_78vw_s = true := by decide +kernel
theorem q_78vw_1 {q0 : Nat} {n0 n1 n2 n3 n4 n5 : Int} {H0 H1 : gH} (f0 : n0 ≤ 2147483647) (f1 : (-2147483648) ≤ n0) (f2 : 0 ≤ n1) (f3 : n2 = 30) (f4 : 0 ≤ n3) (f5 : n4 = 30) (f6 : (hLe T0 H0 H1 ∧ hFr s_78v.2.2.2.2 H0 H1 ∧ hWt T0 H1) ∧ ((Ab_78v_23 n4 n3 n2 n1 n0 H0 H1 ∧ Bb_78_23 n4 n3 n2 n1 n0 H0 H1) ∧ preb_78v n4 n3 H0) ∧ some q0 = some (mub_78v_23 n4 n3 n2 n1 n0 H0 H1)) (f7 : n5 = 4) (f8 : n5 ≤ n0) : nb_78 n4 n3 H0 H1 := by
  unfold nb_78
  intro hk cz
  have pz := f6.2.1.2
  unfold preb_78v at pz
  have ga := f6.2.1.1.1
  unfold Ab_78v_23 at ga
  have vz : vwC H1 = vwC H0 := vwC_fr f6.1.2.1 (by decide +kernel)
  have gb := f6.2.1.1.2
  unfold Bb_78_23 at gb
  obtain ⟨gx, go, gs, gt⟩ := gb hk cz
  exact ⟨go, gs, gt⟩
def g_78vw_23_0 : vG := ([(43, [4, 5], [], 0), (0, [5], [], 4), (5000, [0, 1, 2, 3, 4], [0, 1], 23), (0, [0], [], 30), (51, [1], [], 0), (0, [2], [], 30), (51, [3], [], 0), (90, [4], [], -2147483648), (91, [4], [], 2147483647)], (3000, [], [1], 59))
theorem c_78vw_23_0 {q0 : Nat} : vOkm T0 (eN e_78v L_78vw A_78v mu_78v n_78 B_78 (some q0)) 2 g_78vw_23_0 := vOk_inI fun ρ η f0 f1 f2 f3 f4 f5 f6 f7 f8 => q_78vw_1 (q0 := q0) (n0 := ρ 4) (n1 := ρ 3) (n2 := ρ 2) (n3 := ρ 1) (n4 := ρ 0) (n5 := ρ 5) (H0 := η 0) (H1 := η 1) f8 f7 f6 f5 f4 f3 f2 f1 f0
theorem q_78vw_2 {q0 : Nat} {n0 n1 n2 n3 n4 n5 n6 : Int} {H0 H1 : gH} (f0 : n0 ≤ 2147483647) (f1 : (-2147483648) ≤ n0) (f2 : 0 ≤ n1) (f3 : n2 = 30) (f4 : 0 ≤ n3) (f5 : n4 = 30) (f6 : (hLe T0 H0 H1 ∧ hFr s_78v.2.2.2.2 H0 H1 ∧ hWt T0 H1) ∧ ((Ab_78v_23 n4 n3 n2 n1 n0 H0 H1 ∧ Bb_78_23 n4 n3 n2 n1 n0 H0 H1) ∧ preb_78v n4 n3 H0) ∧ some q0 = some (mub_78v_23 n4 n3 n2 n1 n0 H0 H1)) (f7 : n5 = 4) (f8 : n0 < n5) (f9 : n6 ≤ 2147483647) (f10 : (-2147483648) ≤ n6) (f11 : hK H1 (n2).toNat = 4) (f12 : n6 = hV H1 (n2).toNat 3) (f13 : n6 ≠ 0) : nb_78 n4 n3 H0 H1 := by
  unfold nb_78
  intro hk cz
  have pz := f6.2.1.2
  unfold preb_78v at pz
  have ga := f6.2.1.1.1
  unfold Ab_78v_23 at ga
  have vz : vwC H1 = vwC H0 := vwC_fr f6.1.2.1 (by decide +kernel)
  have gb := f6.2.1.1.2
  unfold Bb_78_23 at gb
  obtain ⟨gx, go, gs, gt⟩ := gb hk cz
  exact ⟨go, gs, gt⟩
def g_78vw_23_1 : vG := ([(31, [6], [], 0), (20, [6, 2], [1], 3), (23, [2], [1], 4), (90, [6], [], -2147483648), (91, [6], [], 2147483647), (42, [4, 5], [], 0), (0, [5], [], 4), (5000, [0, 1, 2, 3, 4], [0, 1], 23), (0, [0], [], 30), (51, [1], [], 0), (0, [2], [], 30), (51, [3], [], 0), (90, [4], [], -2147483648), (91, [4], [], 2147483647)], (3000, [], [1], 59))
theorem c_78vw_23_1 {q0 : Nat} : vOkm T0 (eN e_78v L_78vw A_78v mu_78v n_78 B_78 (some q0)) 2 g_78vw_23_1 := vOk_inI fun ρ η f0 f1 f2 f3 f4 f5 f6 f7 f8 f9 f10 f11 f12 f13 => q_78vw_2 (q0 := q0) (n0 := ρ 4) (n1 := ρ 3) (n2 := ρ 2) (n3 := ρ 1) (n4 := ρ 0) (n5 := ρ 5) (n6 := ρ 6) (H0 := η 0) (H1 := η 1) f13 f12 f11 f10 f9 f8 f7 f6 f5 f4 f3 f2 f1 f0
theorem q_78vw_3 {q0 : Nat} {n0 n1 n2 n3 n4 n5 n6 n7 n8 : Int} {H0 H1 : gH} (f0 : n0 ≤ 2147483647) (f1 : (-2147483648) ≤ n0) (f2 : 0 ≤ n1) (f3 : n2 = 30) (f4 : 0 ≤ n3) (f5 : n4 = 30) (f6 : (hLe T0 H0 H1 ∧ hFr s_78v.2.2.2.2 H0 H1 ∧ hWt T0 H1) ∧ ((Ab_78v_23 n4 n3 n2 n1 n0 H0 H1 ∧ Bb_78_23 n4 n3 n2 n1 n0 H0 H1) ∧ preb_78v n4 n3 H0) ∧ some q0 = some (mub_78v_23 n4 n3 n2 n1 n0 H0 H1)) (f7 : n5 = 4) (f8 : n0 < n5) (f9 : n6 ≤ 2147483647) (f10 : (-2147483648) ≤ n6) (f11 : hK H1 (n2).toNat = 4) (f12 : n6 = hV H1 (n2).toNat 3) (f13 : n6 = 0) (f14 : n7 ≤ 2147483647) (f15 : (-2147483648) ≤ n7) (f16 : hK H1 (n2).toNat = 4) (f17 : n7 = hV H1 (n2).toNat 2) (f18 : n8 = 5) (f19 : n7 ≠ n8) : nb_78 n4 n3 H0 H1 := by
  unfold nb_78
  intro hk cz
  have pz := f6.2.1.2
  unfold preb_78v at pz
  have ga := f6.2.1.1.1
  unfold Ab_78v_23 at ga
  have vz : vwC H1 = vwC H0 := vwC_fr f6.1.2.1 (by decide +kernel)
  have gb := f6.2.1.1.2
  unfold Bb_78_23 at gb
  obtain ⟨gx, go, gs, gt⟩ := gb hk cz
  exact ⟨go, gs, gt⟩
def g_78vw_23_2 : vG := ([(41, [7, 8], [], 0), (0, [8], [], 5), (20, [7, 2], [1], 2), (23, [2], [1], 4), (90, [7], [], -2147483648), (91, [7], [], 2147483647), (30, [6], [], 0), (20, [6, 2], [1], 3), (23, [2], [1], 4), (90, [6], [], -2147483648), (91, [6], [], 2147483647), (42, [4, 5], [], 0), (0, [5], [], 4), (5000, [0, 1, 2, 3, 4], [0, 1], 23), (0, [0], [], 30), (51, [1], [], 0), (0, [2], [], 30), (51, [3], [], 0), (90, [4], [], -2147483648), (91, [4], [], 2147483647)], (3000, [], [1], 59))
theorem c_78vw_23_2 {q0 : Nat} : vOkm T0 (eN e_78v L_78vw A_78v mu_78v n_78 B_78 (some q0)) 2 g_78vw_23_2 := vOk_inI fun ρ η f0 f1 f2 f3 f4 f5 f6 f7 f8 f9 f10 f11 f12 f13 f14 f15 f16 f17 f18 f19 => q_78vw_3 (q0 := q0) (n0 := ρ 4) (n1 := ρ 3) (n2 := ρ 2) (n3 := ρ 1) (n4 := ρ 0) (n5 := ρ 5) (n6 := ρ 6) (n7 := ρ 7) (n8 := ρ 8) (H0 := η 0) (H1 := η 1) f19 f18 f17 f16 f15 f14 f13 f12 f11 f10 f9 f8 f7 f6 f5 f4 f3 f2 f1 f0
theorem q_78vw_4 {q0 : Nat} {n0 n1 n2 n3 n4 n5 n6 n7 n8 n9 n10 : Int} {H0 H1 H2 H3 : gH} (f0 : n0 ≤ 2147483647) (f1 : (-2147483648) ≤ n0) (f2 : 0 ≤ n1) (f3 : n2 = 30) (f4 : 0 ≤ n3) (f5 : n4 = 30) (f6 : (hLe T0 H0 H1 ∧ hFr s_78v.2.2.2.2 H0 H1 ∧ hWt T0 H1) ∧ ((Ab_78v_23 n4 n3 n2 n1 n0 H0 H1 ∧ Bb_78_23 n4 n3 n2 n1 n0 H0 H1) ∧ preb_78v n4 n3 H0) ∧ some q0 = some (mub_78v_23 n4 n3 n2 n1 n0 H0 H1)) (f7 : n5 = 4) (f8 : n0 < n5) (f9 : n6 ≤ 2147483647) (f10 : (-2147483648) ≤ n6) (f11 : hK H1 (n2).toNat = 4) (f12 : n6 = hV H1 (n2).toNat 3) (f13 : n6 = 0) (f14 : n7 ≤ 2147483647) (f15 : (-2147483648) ≤ n7) (f16 : hK H1 (n2).toNat = 4) (f17 : n7 = hV H1 (n2).toNat 2) (f18 : n8 = 5) (f19 : n7 = n8) (f20 : n9 = 5) (f21 : (hLe T0 H1 H2 ∧ hFr s_66v.2.2.2.2 H1 H2 ∧ ((0 : Int) = 0 → H2.length = H1.length) ∧ hWt T0 H2) ∧ postb_66v n2 n9 H1 H2) (f22 : (hLe T0 H2 H3 ∧ hFr s_79v.2.2.2.2 H2 H3 ∧ ((0 : Int) = 0 → H3.length = H2.length) ∧ hWt T0 H3) ∧ (postb_79v n2 n1 H2 H3 ∧ nb_79 n2 n1 H2 H3)) (f23 : n10 = w32 (n0 + 1)) : Bb_78_23 n4 n3 n2 n1 n10 H0 H3 := by
  unfold Bb_78_23
  intro hk cz
  have pz := f6.2.1.2
  unfold preb_78v at pz
  have ga := f6.2.1.1.1
  unfold Ab_78v_23 at ga
  have vz : vwC H1 = vwC H0 := vwC_fr f6.1.2.1 (by decide +kernel)
  have c0 := f21.2
  unfold postb_66v at c0
  try rw [f20] at c0
  rw [vz] at c0
  have a0 : absC H2 = (ptk (vwC H0) 5 (absC H1)) := c0.2
  have v0 : vwC H2 = vwC H0 := (vwC_fr f21.1.2.1 (by decide +kernel)).trans vz
  have c1 := f22.2.1
  unfold postb_79v at c1
  rw [v0] at c1
  rw [a0] at c1
  have a1 : absC H3 = (pWt (vwC H0) (hV H2 (n1).toNat 18) (ptk (vwC H0) 5 (absC H1))) := c1.2.1
  have v1 : vwC H3 = vwC H0 := (vwC_fr f22.1.2.1 (by decide +kernel)).trans v0
  have gb := f6.2.1.1.2
  unfold Bb_78_23 at gb
  obtain ⟨gx, go, gs, gt⟩ := gb hk cz
  have hk1 : hK H1 (n1).toNat = 1 := by
    rw [gx]
    exact (go _ hk).1
  have cz1 : 0 ≤ n1 := by omega
  have kc0 : hK H2 (n1).toNat = 1 := kLe f21.1.1 hk1 rfl
  have kc1 : hK H3 (n1).toNat = 1 := kLe f22.1.1 kc0 rfl
  have ow22 := f22.2.2
  unfold nb_79 at ow22
  have ow22 := ow22 kc0 cz1
  try rw [f3] at ow22
  have cu : CUo H1 H3 n1 := (CUo_tr (CUo_fr f21.1.1 f21.1.2.1 (by decide +kernel)) ow22.1)
  rw [gx] at cu
  have sm : ∀ s : Nat, ¬ s = 18 → hV H3 (n1).toNat s = hV H1 (n1).toNat s := fun s h18 => (ow22.2 s h18).trans (fr1 f21.1.2.1 (by decide +kernel) hk1 s)
  rw [gx] at sm
  refine ⟨gx, CUo_tr go cu, fun s h3 h18 => (sm s h18).trans (gs s h3 h18), fun hf => ?_⟩
  have hzH2 := fzE c0.1 c1.1 a0 a1 (fun n k => pWt_neg (vwC_ok H0) n k) hf
  have hzH1 := fzE ga.2.1 c0.1 rfl a0 (fun n k => ptk_neg n k) hzH2.1
  exact (sm 3 (by decide)).trans (gt hzH1.1)
def g_78vw_23_3 : vG := ([(10, [10, 4], [], 1), (1079, [2, 3], [2, 3], 0), (1066, [2, 9], [1, 2], 0), (0, [9], [], 5), (40, [7, 8], [], 0), (0, [8], [], 5), (20, [7, 2], [1], 2), (23, [2], [1], 4), (90, [7], [], -2147483648), (91, [7], [], 2147483647), (30, [6], [], 0), (20, [6, 2], [1], 3), (23, [2], [1], 4), (90, [6], [], -2147483648), (91, [6], [], 2147483647), (42, [4, 5], [], 0), (0, [5], [], 4), (5000, [0, 1, 2, 3, 4], [0, 1], 23), (0, [0], [], 30), (51, [1], [], 0), (0, [2], [], 30), (51, [3], [], 0), (90, [4], [], -2147483648), (91, [4], [], 2147483647)], (4000, [2, 3, 10], [3], 23))
theorem c_78vw_23_3 {q0 : Nat} : vOkm T0 (eN e_78v L_78vw A_78v mu_78v n_78 B_78 (some q0)) 2 g_78vw_23_3 := vOk_inI fun ρ η f0 f1 f2 f3 f4 f5 f6 f7 f8 f9 f10 f11 f12 f13 f14 f15 f16 f17 f18 f19 f20 f21 f22 f23 => q_78vw_4 (q0 := q0) (n0 := ρ 4) (n1 := ρ 3) (n2 := ρ 2) (n3 := ρ 1) (n4 := ρ 0) (n5 := ρ 5) (n6 := ρ 6) (n7 := ρ 7) (n8 := ρ 8) (n9 := ρ 9) (n10 := ρ 10) (H0 := η 0) (H1 := η 1) (H2 := η 2) (H3 := η 3) f23 f22 f21 f20 f19 f18 f17 f16 f15 f14 f13 f12 f11 f10 f9 f8 f7 f6 f5 f4 f3 f2 f1 f0
def p_78vw_23 : List vG := [g_78vw_23_0,
  g_78vw_23_1,
  g_78vw_23_2,
  g_78vw_23_3]
theorem r_78vw_23 : vCovBO (eRc e_78v L_78v cs_78v 2000 (23, [(0, (3, 4, 30, 0)), (1, (3, 1, -1, 0)), (2, (0, -2147483648, 2147483647, 0))])) p_78vw_23 = true := by decide +kernel
theorem m_78vw (d : Nat) : eC e_78vw (d + 5) := eC_ref (e := e_78v) (L := L_78v) (L' := L_78vw) (cs := cs_78v) (n := 2000) (d := d + 4) (A := A_78v) (μ := mu_78v) (tp := false) (p0 := p_78v_s) (p1 := p_78vw_s) (N := n_78) (B := B_78) rfl ⟨m_66v (d + 2), ⟨m_67vw (d + 1), ⟨m_79vw d, trivial⟩⟩⟩ rfl (.inl rfl) (by decide +kernel) (fun z => nomatch z) r_78v_s (allC c_78v_s_0 (allC c_78v_s_1 (allC c_78v_s_2 (allC c_78v_s_3 allN)))) (allC (.inl ⟨p_78v_23, r_78v_23, fun q0 => (allC c_78v_23_0 (allC c_78v_23_1 (allC c_78v_23_2 (allC c_78v_23_3 (allC c_78v_23_4 (allC c_78v_23_5 allN))))))⟩) allN) (sub0 (sub1 (sub1 trivial))) r_78vw_s (allC c_78vw_s_0 allN) (allC ⟨p_78vw_23, r_78vw_23, fun q0 => (allC c_78vw_23_0 (allC c_78vw_23_1 (allC c_78vw_23_2 (allC c_78vw_23_3 allN))))⟩ allN)
