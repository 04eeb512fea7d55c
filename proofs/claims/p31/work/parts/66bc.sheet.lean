/-! CONTRACTS of methods told more fully. -/
/- Reader.readUse (LMixStage$Cue;)V, more fully -/
def nb_80 (a0 a1 : Int) (h0 h : gH) : Prop := hK h0 (a1).toNat = 1 → 0 ≤ a1 → CUo h0 h a1 ∧ (∀ s : Nat, ¬ s = 2 → ¬ s = 4 → ¬ s = 5 → hV h (a1).toNat s = hV h0 (a1).toNat s) ∧ (hV h 30 3 = 0 → hV h (a1).toNat 2 = pfi (BLc h0) ((vwC h0).2.2.1 (absC h0).1) 0 ∧ hV h (a1).toNat 4 = mkA (vwC h0) (usQ (vwC h0) (absC h0)) ∧ hV h (a1).toNat 5 = frA (vwC h0) (usQ (vwC h0) (absC h0)))
def n_80 : List Int → gH → gH → Prop := fun xs h0 h => match xs with
  | [a0, a1] => nb_80 a0 a1 h0 h
  | _ => True
noncomputable def e_80vw : vE := eV e_80v n_80
noncomputable def L_80vw : List vE := [e_65v, e_66v, e_71v, e_81vw, e_123v]
def B_80 : Int → List Int → gH → gH → Prop := fun c xs h0 h => True
theorem q_80vw_0 {n0 n1 n2 n3 n4 n5 n6 n7 n8 n9 n10 n11 : Int} {H0 H1 H2 H3 H4 H5 H6 : gH} (f0 : 0 ≤ n0) (f1 : n1 = 30) (f2 : hWt T0 H0 ∧ preb_80v n1 n0 H0) (f3 : n2 = 31) (f4 : hK H0 (n1).toNat = 4) (f5 : n2 = hV H0 (n1).toNat 0) (f6 : n3 ≤ 2147483647) (f7 : (-2147483648) ≤ n3) (f8 : hK H0 (n1).toNat = 4) (f9 : n3 = hV H0 (n1).toNat 1) (f10 : (hLe T0 H0 H1 ∧ hFr s_123v.2.2.2.2 H0 H1 ∧ ((0 : Int) = 0 → H1.length = H0.length) ∧ hWt T0 H1) ∧ postb_123v n4 n2 n3 H0 H1) (f11 : n5 ≤ 2147483647) (f12 : (-2147483648) ≤ n5) (f13 : (hLe T0 H1 H2 ∧ hFr s_71v.2.2.2.2 H1 H2 ∧ ((0 : Int) = 0 → H2.length = H1.length) ∧ hWt T0 H2) ∧ postb_71v n5 n1 n4 H1 H2) (f14 : hK H2 (n0).toNat = 1) (f15 : n6 = 2) (f16 : hUpd H3 H2 n0 n6 n5) (f17 : n7 ≤ 2147483647) (f18 : (-2147483648) ≤ n7) (f19 : hK H3 (n0).toNat = 1) (f20 : n7 = hV H3 (n0).toNat 2) (f21 : n8 = (-1)) (f22 : n7 ≠ n8) (f23 : n9 = 2) (f24 : (hLe T0 H3 H4 ∧ hFr s_66v.2.2.2.2 H3 H4 ∧ ((0 : Int) = 0 → H4.length = H3.length) ∧ hWt T0 H4) ∧ postb_66v n1 n9 H3 H4) (f25 : n10 = 26) (f26 : (hLe T0 H4 H5 ∧ hFr s_66v.2.2.2.2 H4 H5 ∧ ((0 : Int) = 0 → H5.length = H4.length) ∧ hWt T0 H5) ∧ postb_66v n1 n10 H4 H5) (f27 : n11 = 0) (f28 : (hLe T0 H5 H6 ∧ hFr s_81v.2.2.2.2 H5 H6 ∧ ((0 : Int) = 0 → H6.length = H5.length) ∧ hWt T0 H6) ∧ (postb_81v n1 n0 n11 H5 H6 ∧ nb_81 n1 n0 n11 H5 H6)) : nb_80 n1 n0 H0 H6 := by
  unfold nb_80
  intro hk cz
  have pz := f2.2
  unfold preb_80v at pz
  have s0 := PF_fr f10.1.1 f10.1.2.1 (by decide +kernel) pz.1
  have a0 : absC H1 = (absC H0) := s0.1
  have v0 : vwC H1 = vwC H0 := s0.2.1
  have s1 := PF_fr f13.1.1 f13.1.2.1 (by decide +kernel) s0.2.2
  have a1 : absC H2 = (absC H0) := s1.1.trans a0
  have v1 : vwC H2 = vwC H0 := s1.2.1.trans v0
  have s2 := PF_up f16 s1.2.2 f14
  have a2 : absC H3 = (absC H0) := s2.1.trans a1
  have v2 : vwC H3 = vwC H0 := s2.2.1.trans v1
  have c3 := f24.2
  unfold postb_66v at c3
  try rw [f23] at c3
  rw [v2] at c3
  rw [a2] at c3
  have a3 : absC H4 = (ptk (vwC H0) 2 (absC H0)) := c3.2
  have v3 : vwC H4 = vwC H0 := (vwC_fr f24.1.2.1 (by decide +kernel)).trans v2
  have c4 := f26.2
  unfold postb_66v at c4
  try rw [f25] at c4
  rw [v3] at c4
  rw [a3] at c4
  have a4 : absC H5 = (ptk (vwC H0) 26 (ptk (vwC H0) 2 (absC H0))) := c4.2
  have v4 : vwC H5 = vwC H0 := (vwC_fr f26.1.2.1 (by decide +kernel)).trans v3
  have c5 := f28.2.1
  unfold postb_81v at c5
  try rw [f27] at c5
  rw [v4] at c5
  rw [a4] at c5
  have a5 : absC H6 = (pTime (vwC H0) (ptk (vwC H0) 26 (ptk (vwC H0) 2 (absC H0)))) := c5.2
  have v5 : vwC H6 = vwC H0 := (vwC_fr f28.1.2.1 (by decide +kernel)).trans v4
  have kc0 : hK H1 (n0).toNat = 1 := kLe f10.1.1 hk rfl
  have kc1 : hK H2 (n0).toNat = 1 := kLe f13.1.1 kc0 rfl
  have kc2 : hK H3 (n0).toNat = 1 := kUp f16 kc1
  have kc3 : hK H4 (n0).toNat = 1 := kLe f24.1.1 kc2 rfl
  have kc4 : hK H5 (n0).toNat = 1 := kLe f26.1.1 kc3 rfl
  have kc5 : hK H6 (n0).toNat = 1 := kLe f28.1.1 kc4 rfl
  have ow28 := f28.2.2
  unfold nb_81 at ow28
  have ow28 := ow28 kc4 cz
  try rw [f1] at ow28
  try rw [f27] at ow28
  have r1 := f9
  rw [f1] at r1
  rw [show ((30 : Int)).toNat = 30 from rfl] at r1
  have pv := f10.2
  unfold postb_123v at pv
  rw [show n3 = hV H0 30 1 from r1] at pv
  have nx := nm_at pz.1 pv
  have pk := f13.2
  unfold postb_71v at pk
  rw [f10.1.2.1.1 30 13 (by decide +kernel), fRow f10.1.2.1 48 (by decide +kernel)] at pk
  refine ⟨(CUo_tr (CUo_fr f10.1.1 f10.1.2.1 (by decide +kernel)) (CUo_tr (CUo_fr f13.1.1 f13.1.2.1 (by decide +kernel)) (CUo_tr (CUo_up f16) (CUo_tr (CUo_fr f24.1.1 f24.1.2.1 (by decide +kernel)) (CUo_tr (CUo_fr f26.1.1 f26.1.2.1 (by decide +kernel)) ow28.1))))), fun s h2 h4 h5 => ((ow28.2.1 rfl).1 s h4 h5).trans ((fr1 f26.1.2.1 (by decide +kernel) kc3 s).trans ((fr1 f24.1.2.1 (by decide +kernel) kc2 s).trans ((uSlot f16 _ s (by have w := f15; omega)).trans ((fr1 f13.1.2.1 (by decide +kernel) kc0 s).trans (fr1 f10.1.2.1 (by decide +kernel) hk s))))), fun hf => ?_⟩
  have hzH5 := fzE c4.1 c5.1 a4 a5 (fun n k => pTime_neg (vwC_ok H0) n k) hf
  have hzH4 := fzE c3.1 c4.1 a3 a4 (fun n k => ptk_neg n k) hzH5.1
  have hzH3 := fzE s2.2.2 c3.1 a2 a3 (fun n k => ptk_neg n k) hzH4.1
  have hzH2 := fzE s1.2.2 s2.2.2 a1 a2 (fun _ _ => rfl) hzH3.1
  have hzH1 := fzE s0.2.2 s1.2.2 a0 a1 (fun _ _ => rfl) hzH2.1
  have hzH0 := fzE pz.1 s0.2.2 rfl a0 (fun _ _ => rfl) hzH1.1
  have tm28 := (ow28.2.1 rfl).2 hf
  rw [v4, a4] at tm28
  have q0 : 0 ≤ (ptk (vwC H0) 2 (absC H0)).1 := hzH4.2
  have k2 := (pt1_kind pz.1.2.1 q0).2
  rw [show (absC H0).1 = (absC H0).1 from rfl] at k2
  have nn := nx k2
  have ee : (ptk (vwC H0) 26 (ptk (vwC H0) 2 (absC H0))).1 = (usQ (vwC H0) (absC H0)).1 := by
    show pt1 (vwC H0) 26 (pt1 (vwC H0) 2 (absC H0).1) = pt1 (vwC H0) 26 (pt1 (vwC H0) 2 (absC H0).1)
    rw [show (absC H0).1 = (absC H0).1 from rfl]
  have pf : pfi (BLc H0) ((vwC H0).2.2.1 (absC H0).1) 0 = n5 := by
    rw [nn.2, pk.1 nn.1]
    exact pfi_bk nn.1 (fun j _ hj => (pz.2.1.2.2.2 j (by omega)).1)
  exact ⟨(((ow28.2.1 rfl).1 2 (by decide) (by decide)).trans ((fr1 f26.1.2.1 (by decide +kernel) kc3 2).trans ((fr1 f24.1.2.1 (by decide +kernel) kc2 2).trans (uSame f16 _ 2 (Int.toNat_of_nonneg cz) (by rw [f15]; rfl))))).trans pf.symm, (tm28.1).trans (mkA_1 ee), (tm28.2).trans (frA_1 ee)⟩
def g_80vw_s_0 : vG := ([(1081, [0, 1, 11], [5, 6], 0), (0, [11], [], 0), (1066, [0, 10], [4, 5], 0), (0, [10], [], 26), (1066, [0, 9], [3, 4], 0), (0, [9], [], 2), (41, [7, 8], [], 0), (0, [8], [], -1), (20, [7, 1], [3], 2), (23, [1], [3], 1), (90, [7], [], -2147483648), (91, [7], [], 2147483647), (80, [1, 6, 5], [3, 2], 0), (0, [6], [], 2), (23, [1], [2], 1), (1071, [5, 0, 4], [1, 2], 0), (90, [5], [], -2147483648), (91, [5], [], 2147483647), (1123, [4, 2, 3], [0, 1], 0), (20, [3, 0], [0], 1), (23, [0], [0], 4), (90, [3], [], -2147483648), (91, [3], [], 2147483647), (20, [2, 0], [0], 0), (23, [0], [0], 4), (0, [2], [], 31), (6000, [0, 1], [0], 0), (0, [0], [], 30), (51, [1], [], 0)], (3000, [], [6], 53))
theorem c_80vw_s_0 : vOkm T0 (eN e_80v L_80vw A_80v mu_80v n_80 B_80 none) 2 g_80vw_s_0 := vOk_inI fun ρ η f0 f1 f2 f3 f4 f5 f6 f7 f8 f9 f10 f11 f12 f13 f14 f15 f16 f17 f18 f19 f20 f21 f22 f23 f24 f25 f26 f27 f28 => q_80vw_0 (n0 := ρ 1) (n1 := ρ 0) (n2 := ρ 2) (n3 := ρ 3) (n4 := ρ 4) (n5 := ρ 5) (n6 := ρ 6) (n7 := ρ 7) (n8 := ρ 8) (n9 := ρ 9) (n10 := ρ 10) (n11 := ρ 11) (H0 := η 0) (H1 := η 1) (H2 := η 2) (H3 := η 3) (H4 := η 4) (H5 := η 5) (H6 := η 6) f28 f27 f26 f25 f24 f23 f22 f21 f20 f19 f18 f17 f16 f15 f14 f13 f12 f11 f10 f9 f8 f7 f6 f5 f4 f3 f2 f1 f0
theorem q_80vw_1 {n0 n1 n2 n3 n4 n5 n6 n7 n8 n9 n10 n11 n12 n13 : Int} {H0 H1 H2 H3 H4 H5 H6 H7 : gH} (f0 : 0 ≤ n0) (f1 : n1 = 30) (f2 : hWt T0 H0 ∧ preb_80v n1 n0 H0) (f3 : n2 = 31) (f4 : hK H0 (n1).toNat = 4) (f5 : n2 = hV H0 (n1).toNat 0) (f6 : n3 ≤ 2147483647) (f7 : (-2147483648) ≤ n3) (f8 : hK H0 (n1).toNat = 4) (f9 : n3 = hV H0 (n1).toNat 1) (f10 : (hLe T0 H0 H1 ∧ hFr s_123v.2.2.2.2 H0 H1 ∧ ((0 : Int) = 0 → H1.length = H0.length) ∧ hWt T0 H1) ∧ postb_123v n4 n2 n3 H0 H1) (f11 : n5 ≤ 2147483647) (f12 : (-2147483648) ≤ n5) (f13 : (hLe T0 H1 H2 ∧ hFr s_71v.2.2.2.2 H1 H2 ∧ ((0 : Int) = 0 → H2.length = H1.length) ∧ hWt T0 H2) ∧ postb_71v n5 n1 n4 H1 H2) (f14 : hK H2 (n0).toNat = 1) (f15 : n6 = 2) (f16 : hUpd H3 H2 n0 n6 n5) (f17 : n7 ≤ 2147483647) (f18 : (-2147483648) ≤ n7) (f19 : hK H3 (n0).toNat = 1) (f20 : n7 = hV H3 (n0).toNat 2) (f21 : n8 = (-1)) (f22 : n7 = n8) (f23 : n9 = 4) (f24 : n10 ≤ 2147483647) (f25 : (-2147483648) ≤ n10) (f26 : hK H3 (n1).toNat = 4) (f27 : n10 = hV H3 (n1).toNat 1) (f28 : (hLe T0 H3 H4 ∧ hFr s_65v.2.2.2.2 H3 H4 ∧ ((0 : Int) = 0 → H4.length = H3.length) ∧ hWt T0 H4) ∧ postb_65v n1 n9 n10 H3 H4) (f29 : n11 = 2) (f30 : (hLe T0 H4 H5 ∧ hFr s_66v.2.2.2.2 H4 H5 ∧ ((0 : Int) = 0 → H5.length = H4.length) ∧ hWt T0 H5) ∧ postb_66v n1 n11 H4 H5) (f31 : n12 = 26) (f32 : (hLe T0 H5 H6 ∧ hFr s_66v.2.2.2.2 H5 H6 ∧ ((0 : Int) = 0 → H6.length = H5.length) ∧ hWt T0 H6) ∧ postb_66v n1 n12 H5 H6) (f33 : n13 = 0) (f34 : (hLe T0 H6 H7 ∧ hFr s_81v.2.2.2.2 H6 H7 ∧ ((0 : Int) = 0 → H7.length = H6.length) ∧ hWt T0 H7) ∧ (postb_81v n1 n0 n13 H6 H7 ∧ nb_81 n1 n0 n13 H6 H7)) : nb_80 n1 n0 H0 H7 := by
  unfold nb_80
  intro hk cz
  have pz := f2.2
  unfold preb_80v at pz
  have s0 := PF_fr f10.1.1 f10.1.2.1 (by decide +kernel) pz.1
  have a0 : absC H1 = (absC H0) := s0.1
  have v0 : vwC H1 = vwC H0 := s0.2.1
  have s1 := PF_fr f13.1.1 f13.1.2.1 (by decide +kernel) s0.2.2
  have a1 : absC H2 = (absC H0) := s1.1.trans a0
  have v1 : vwC H2 = vwC H0 := s1.2.1.trans v0
  have s2 := PF_up f16 s1.2.2 f14
  have a2 : absC H3 = (absC H0) := s2.1.trans a1
  have v2 : vwC H3 = vwC H0 := s2.2.1.trans v1
  have c3 := f28.2
  unfold postb_65v at c3
  try rw [f23] at c3
  rw [v2] at c3
  rw [a2] at c3
  have a3 : absC H4 = (pbl (vwC H0) 4 n10 (absC H0)) := c3.2
  have v3 : vwC H4 = vwC H0 := (vwC_fr f28.1.2.1 (by decide +kernel)).trans v2
  have c4 := f30.2
  unfold postb_66v at c4
  try rw [f29] at c4
  rw [v3] at c4
  rw [a3] at c4
  have a4 : absC H5 = (ptk (vwC H0) 2 (pbl (vwC H0) 4 n10 (absC H0))) := c4.2
  have v4 : vwC H5 = vwC H0 := (vwC_fr f30.1.2.1 (by decide +kernel)).trans v3
  have c5 := f32.2
  unfold postb_66v at c5
  try rw [f31] at c5
  rw [v4] at c5
  rw [a4] at c5
  have a5 : absC H6 = (ptk (vwC H0) 26 (ptk (vwC H0) 2 (pbl (vwC H0) 4 n10 (absC H0)))) := c5.2
  have v5 : vwC H6 = vwC H0 := (vwC_fr f32.1.2.1 (by decide +kernel)).trans v4
  have c6 := f34.2.1
  unfold postb_81v at c6
  try rw [f33] at c6
  rw [v5] at c6
  rw [a5] at c6
  have a6 : absC H7 = (pTime (vwC H0) (ptk (vwC H0) 26 (ptk (vwC H0) 2 (pbl (vwC H0) 4 n10 (absC H0))))) := c6.2
  have v6 : vwC H7 = vwC H0 := (vwC_fr f34.1.2.1 (by decide +kernel)).trans v5
  have kc0 : hK H1 (n0).toNat = 1 := kLe f10.1.1 hk rfl
  have kc1 : hK H2 (n0).toNat = 1 := kLe f13.1.1 kc0 rfl
  have kc2 : hK H3 (n0).toNat = 1 := kUp f16 kc1
  have kc3 : hK H4 (n0).toNat = 1 := kLe f28.1.1 kc2 rfl
  have kc4 : hK H5 (n0).toNat = 1 := kLe f30.1.1 kc3 rfl
  have kc5 : hK H6 (n0).toNat = 1 := kLe f32.1.1 kc4 rfl
  have kc6 : hK H7 (n0).toNat = 1 := kLe f34.1.1 kc5 rfl
  have ow34 := f34.2.2
  unfold nb_81 at ow34
  have ow34 := ow34 kc5 cz
  try rw [f1] at ow34
  try rw [f33] at ow34
  have r1 := f9
  rw [f1] at r1
  rw [show ((30 : Int)).toNat = 30 from rfl] at r1
  have pv := f10.2
  unfold postb_123v at pv
  rw [show n3 = hV H0 30 1 from r1] at pv
  have nx := nm_at pz.1 pv
  have pk := f13.2
  unfold postb_71v at pk
  rw [f10.1.2.1.1 30 13 (by decide +kernel), fRow f10.1.2.1 48 (by decide +kernel)] at pk
  refine ⟨(CUo_tr (CUo_fr f10.1.1 f10.1.2.1 (by decide +kernel)) (CUo_tr (CUo_fr f13.1.1 f13.1.2.1 (by decide +kernel)) (CUo_tr (CUo_up f16) (CUo_tr (CUo_fr f28.1.1 f28.1.2.1 (by decide +kernel)) (CUo_tr (CUo_fr f30.1.1 f30.1.2.1 (by decide +kernel)) (CUo_tr (CUo_fr f32.1.1 f32.1.2.1 (by decide +kernel)) ow34.1)))))), fun s h2 h4 h5 => ((ow34.2.1 rfl).1 s h4 h5).trans ((fr1 f32.1.2.1 (by decide +kernel) kc4 s).trans ((fr1 f30.1.2.1 (by decide +kernel) kc3 s).trans ((fr1 f28.1.2.1 (by decide +kernel) kc2 s).trans ((uSlot f16 _ s (by have w := f15; omega)).trans ((fr1 f13.1.2.1 (by decide +kernel) kc0 s).trans (fr1 f10.1.2.1 (by decide +kernel) hk s)))))), fun hf => ?_⟩
  have hzH6 := fzE c5.1 c6.1 a5 a6 (fun n k => pTime_neg (vwC_ok H0) n k) hf
  have hzH5 := fzE c4.1 c5.1 a4 a5 (fun n k => ptk_neg n k) hzH6.1
  have hzH4 := fzE c3.1 c4.1 a3 a4 (fun n k => ptk_neg n k) hzH5.1
  have hzH3 := fzE s2.2.2 c3.1 a2 a3 (fun n k => pbl_neg n) hzH4.1
  have hzH2 := fzE s1.2.2 s2.2.2 a1 a2 (fun _ _ => rfl) hzH3.1
  have hzH1 := fzE s0.2.2 s1.2.2 a0 a1 (fun _ _ => rfl) hzH2.1
  have hzH0 := fzE pz.1 s0.2.2 rfl a0 (fun _ _ => rfl) hzH1.1
  have tm34 := (ow34.2.1 rfl).2 hf
  rw [v5, a5] at tm34
  have q0 : 0 ≤ (ptk (vwC H0) 2 (pbl (vwC H0) 4 n10 (absC H0))).1 := hzH5.2
  have k2 := (pt1_kind pz.1.2.1 q0).2
  rw [show (pbl (vwC H0) 4 n10 (absC H0)).1 = (absC H0).1 from pbl_1] at k2
  have nn := nx k2
  have ee : (ptk (vwC H0) 26 (ptk (vwC H0) 2 (pbl (vwC H0) 4 n10 (absC H0)))).1 = (usQ (vwC H0) (absC H0)).1 := by
    show pt1 (vwC H0) 26 (pt1 (vwC H0) 2 (pbl (vwC H0) 4 n10 (absC H0)).1) = pt1 (vwC H0) 26 (pt1 (vwC H0) 2 (absC H0).1)
    rw [show (pbl (vwC H0) 4 n10 (absC H0)).1 = (absC H0).1 from pbl_1]
  have pf : pfi (BLc H0) ((vwC H0).2.2.1 (absC H0).1) 0 = n5 := by
    rw [nn.2, pk.1 nn.1]
    exact pfi_bk nn.1 (fun j _ hj => (pz.2.1.2.2.2 j (by omega)).1)
  exact ⟨(((ow34.2.1 rfl).1 2 (by decide) (by decide)).trans ((fr1 f32.1.2.1 (by decide +kernel) kc4 2).trans ((fr1 f30.1.2.1 (by decide +kernel) kc3 2).trans ((fr1 f28.1.2.1 (by decide +kernel) kc2 2).trans (uSame f16 _ 2 (Int.toNat_of_nonneg cz) (by rw [f15]; rfl)))))).trans pf.symm, (tm34.1).trans (mkA_1 ee), (tm34.2).trans (frA_1 ee)⟩
def g_80vw_s_1 : vG := ([(1081, [0, 1, 13], [6, 7], 0), (0, [13], [], 0), (1066, [0, 12], [5, 6], 0), (0, [12], [], 26), (1066, [0, 11], [4, 5], 0), (0, [11], [], 2), (1065, [0, 9, 10], [3, 4], 0), (20, [10, 0], [3], 1), (23, [0], [3], 4), (90, [10], [], -2147483648), (91, [10], [], 2147483647), (0, [9], [], 4), (40, [7, 8], [], 0), (0, [8], [], -1), (20, [7, 1], [3], 2), (23, [1], [3], 1), (90, [7], [], -2147483648), (91, [7], [], 2147483647), (80, [1, 6, 5], [3, 2], 0), (0, [6], [], 2), (23, [1], [2], 1), (1071, [5, 0, 4], [1, 2], 0), (90, [5], [], -2147483648), (91, [5], [], 2147483647), (1123, [4, 2, 3], [0, 1], 0), (20, [3, 0], [0], 1), (23, [0], [0], 4), (90, [3], [], -2147483648), (91, [3], [], 2147483647), (20, [2, 0], [0], 0), (23, [0], [0], 4), (0, [2], [], 31), (6000, [0, 1], [0], 0), (0, [0], [], 30), (51, [1], [], 0)], (3000, [], [7], 53))
theorem c_80vw_s_1 : vOkm T0 (eN e_80v L_80vw A_80v mu_80v n_80 B_80 none) 2 g_80vw_s_1 := vOk_inI fun ρ η f0 f1 f2 f3 f4 f5 f6 f7 f8 f9 f10 f11 f12 f13 f14 f15 f16 f17 f18 f19 f20 f21 f22 f23 f24 f25 f26 f27 f28 f29 f30 f31 f32 f33 f34 => q_80vw_1 (n0 := ρ 1) (n1 := ρ 0) (n2 := ρ 2) (n3 := ρ 3) (n4 := ρ 4) (n5 := ρ 5) (n6 := ρ 6) (n7 := ρ 7) (n8 := ρ 8) (n9 := ρ 9) (n10 := ρ 10) (n11 := ρ 11) (n12 := ρ 12) (n13 := ρ 13) (H0 := η 0) (H1 := η 1) (H2 := η 2) (H3 := η 3) (H4 := η 4) (H5 := η 5) (H6 := η 6) (H7 := η 7) f34 f33 f32 f31 f30 f29 f28 f27 f26 f25 f24 f23 f22 f21 f20 f19 f18 f17 f16 f15 f14 f13 f12 f11 f10 f9 f8 f7 f6 f5 f4 f3 f2 f1 f0
def p_80vw_s : List vG := [g_80vw_s_0,
  g_80vw_s_1]
theorem r_80vw_s : vCovBO (eR0 e_80v L_80v cs_80v 2000) p_80vw_s = true := by decide +kernel
theorem m_80vw (d : Nat) : eC e_80vw (d + 5) := eC_ref (e := e_80v) (L := L_80v) (L' := L_80vw) (cs := cs_80v) (n := 2000) (d := d + 4) (A := A_80v) (μ := mu_80v) (tp := false) (p0 := p_80v_s) (p1 := p_80vw_s) (N := n_80) (B := B_80) rfl ⟨m_65v (d + 3), ⟨m_66v (d + 2), ⟨m_71v (d + 2), ⟨m_81vw d, ⟨m_123v (d + 3), trivial⟩⟩⟩⟩⟩ rfl (.inl rfl) (by decide +kernel) (fun z => nomatch z) r_80v_s (allC c_80v_s_0 (allC c_80v_s_1 (allC c_80v_s_2 (allC c_80v_s_3 (allC c_80v_s_4 (allC c_80v_s_5 (allC c_80v_s_6 (allC c_80v_s_7 (allC c_80v_s_8 (allC c_80v_s_9 (allC c_80v_s_10 allN))))))))))) allN (sub0 (sub0 (sub0 (sub1 (sub0 trivial))))) r_80vw_s (allC c_80vw_s_0 (allC c_80vw_s_1 allN)) allN
/- Cue.reset (II)V, more fully -/
def nb_24 (a0 a1 a2 : Int) (h0 h : gH) : Prop := hK h0 (a0).toNat = 1 → 0 ≤ a0 → CUo h0 h a0 ∧ hV h (a0).toNat 0 = a1 ∧ hV h (a0).toNat 1 = a2 ∧ hV h (a0).toNat 2 = 0 ∧ hV h (a0).toNat 4 = -1 ∧ hV h (a0).toNat 5 = 0 ∧ hV h (a0).toNat 6 = -1 ∧ hV h (a0).toNat 7 = 0 ∧ hV h (a0).toNat 8 = 0 ∧ hV h (a0).toNat 9 = -1 ∧ hV h (a0).toNat 10 = 100 ∧ hV h (a0).toNat 12 = 1 ∧ hV h (a0).toNat 13 = 1
def n_24 : List Int → gH → gH → Prop := fun xs h0 h => match xs with
  | [a0, a1, a2] => nb_24 a0 a1 a2 h0 h
  | _ => True
noncomputable def e_24vw : vE := eV e_24v n_24
noncomputable def L_24vw : List vE := []
def B_24 : Int → List Int → gH → gH → Prop := fun c xs h0 h => True
theorem q_24vw_0 {n0 n1 n2 n3 n4 n5 n6 n7 n8 n9 n10 n11 n12 n13 n14 n15 n16 n17 n18 n19 n20 n21 n22 n23 n24 n25 n26 n27 n28 n29 n30 n31 n32 n33 n34 n35 n36 : Int} {H0 H1 H2 H3 H4 H5 H6 H7 H8 H9 H10 H11 H12 H13 H14 H15 H16 H17 H18 : gH} (f0 : n0 ≤ 2147483647) (f1 : (-2147483648) ≤ n0) (f2 : n1 ≤ 2147483647) (f3 : (-2147483648) ≤ n1) (f4 : 0 ≤ n2) (f5 : hWt T0 H0 ∧ preb_24v n2 n1 n0 H0) (f6 : hK H0 (n2).toNat = 1) (f7 : n3 = 0) (f8 : hUpd H1 H0 n2 n3 n1) (f9 : hK H1 (n2).toNat = 1) (f10 : n4 = 1) (f11 : hUpd H2 H1 n2 n4 n0) (f12 : n5 = 0) (f13 : hK H2 (n2).toNat = 1) (f14 : n6 = 2) (f15 : hUpd H3 H2 n2 n6 n5) (f16 : n7 = 0) (f17 : hK H3 (n2).toNat = 1) (f18 : n8 = 3) (f19 : hUpd H4 H3 n2 n8 n7) (f20 : n9 = (-1)) (f21 : hK H4 (n2).toNat = 1) (f22 : n10 = 4) (f23 : hUpd H5 H4 n2 n10 n9) (f24 : n11 = 0) (f25 : hK H5 (n2).toNat = 1) (f26 : n12 = 5) (f27 : hUpd H6 H5 n2 n12 n11) (f28 : n13 = (-1)) (f29 : hK H6 (n2).toNat = 1) (f30 : n14 = 6) (f31 : hUpd H7 H6 n2 n14 n13) (f32 : n15 = 0) (f33 : hK H7 (n2).toNat = 1) (f34 : n16 = 7) (f35 : hUpd H8 H7 n2 n16 n15) (f36 : n17 = 0) (f37 : hK H8 (n2).toNat = 1) (f38 : n18 = 8) (f39 : hUpd H9 H8 n2 n18 n17) (f40 : n19 = (-1)) (f41 : hK H9 (n2).toNat = 1) (f42 : n20 = 9) (f43 : hUpd H10 H9 n2 n20 n19) (f44 : n21 = 100) (f45 : hK H10 (n2).toNat = 1) (f46 : n22 = 10) (f47 : hUpd H11 H10 n2 n22 n21) (f48 : n23 = 100) (f49 : hK H11 (n2).toNat = 1) (f50 : n24 = 11) (f51 : hUpd H12 H11 n2 n24 n23) (f52 : n25 = 1) (f53 : hK H12 (n2).toNat = 1) (f54 : n26 = 12) (f55 : hUpd H13 H12 n2 n26 n25) (f56 : n27 = 1) (f57 : hK H13 (n2).toNat = 1) (f58 : n28 = 13) (f59 : hUpd H14 H13 n2 n28 n27) (f60 : n29 = 0) (f61 : hK H14 (n2).toNat = 1) (f62 : n30 = 14) (f63 : hUpd H15 H14 n2 n30 n29) (f64 : n31 = 0) (f65 : hK H15 (n2).toNat = 1) (f66 : n32 = 15) (f67 : hUpd H16 H15 n2 n32 n31) (f68 : n33 = 0) (f69 : hK H16 (n2).toNat = 1) (f70 : n34 = 16) (f71 : hUpd H17 H16 n2 n34 n33) (f72 : n35 = 0) (f73 : hK H17 (n2).toNat = 1) (f74 : n36 = 18) (f75 : hUpd H18 H17 n2 n36 n35) : nb_24 n2 n1 n0 H0 H18 := by
  unfold nb_24
  intro hk cz
  have kc0 : hK H1 (n2).toNat = 1 := kUp f8 hk
  have kc1 : hK H2 (n2).toNat = 1 := kUp f11 kc0
  have kc2 : hK H3 (n2).toNat = 1 := kUp f15 kc1
  have kc3 : hK H4 (n2).toNat = 1 := kUp f19 kc2
  have kc4 : hK H5 (n2).toNat = 1 := kUp f23 kc3
  have kc5 : hK H6 (n2).toNat = 1 := kUp f27 kc4
  have kc6 : hK H7 (n2).toNat = 1 := kUp f31 kc5
  have kc7 : hK H8 (n2).toNat = 1 := kUp f35 kc6
  have kc8 : hK H9 (n2).toNat = 1 := kUp f39 kc7
  have kc9 : hK H10 (n2).toNat = 1 := kUp f43 kc8
  have kc10 : hK H11 (n2).toNat = 1 := kUp f47 kc9
  have kc11 : hK H12 (n2).toNat = 1 := kUp f51 kc10
  have kc12 : hK H13 (n2).toNat = 1 := kUp f55 kc11
  have kc13 : hK H14 (n2).toNat = 1 := kUp f59 kc12
  have kc14 : hK H15 (n2).toNat = 1 := kUp f63 kc13
  have kc15 : hK H16 (n2).toNat = 1 := kUp f67 kc14
  have kc16 : hK H17 (n2).toNat = 1 := kUp f71 kc15
  have kc17 : hK H18 (n2).toNat = 1 := kUp f75 kc16
  exact ⟨(CUo_tr (CUo_up f8) (CUo_tr (CUo_up f11) (CUo_tr (CUo_up f15) (CUo_tr (CUo_up f19) (CUo_tr (CUo_up f23) (CUo_tr (CUo_up f27) (CUo_tr (CUo_up f31) (CUo_tr (CUo_up f35) (CUo_tr (CUo_up f39) (CUo_tr (CUo_up f43) (CUo_tr (CUo_up f47) (CUo_tr (CUo_up f51) (CUo_tr (CUo_up f55) (CUo_tr (CUo_up f59) (CUo_tr (CUo_up f63) (CUo_tr (CUo_up f67) (CUo_tr (CUo_up f71) (CUo_up f75)))))))))))))))))), (uSlot f75 _ 0 (by rw [f74]; decide)).trans ((uSlot f71 _ 0 (by rw [f70]; decide)).trans ((uSlot f67 _ 0 (by rw [f66]; decide)).trans ((uSlot f63 _ 0 (by rw [f62]; decide)).trans ((uSlot f59 _ 0 (by rw [f58]; decide)).trans ((uSlot f55 _ 0 (by rw [f54]; decide)).trans ((uSlot f51 _ 0 (by rw [f50]; decide)).trans ((uSlot f47 _ 0 (by rw [f46]; decide)).trans ((uSlot f43 _ 0 (by rw [f42]; decide)).trans ((uSlot f39 _ 0 (by rw [f38]; decide)).trans ((uSlot f35 _ 0 (by rw [f34]; decide)).trans ((uSlot f31 _ 0 (by rw [f30]; decide)).trans ((uSlot f27 _ 0 (by rw [f26]; decide)).trans ((uSlot f23 _ 0 (by rw [f22]; decide)).trans ((uSlot f19 _ 0 (by rw [f18]; decide)).trans ((uSlot f15 _ 0 (by rw [f14]; decide)).trans ((uSlot f11 _ 0 (by rw [f10]; decide)).trans (uSame f8 _ 0 (Int.toNat_of_nonneg cz) (by rw [f7]; rfl)))))))))))))))))), (uSlot f75 _ 1 (by rw [f74]; decide)).trans ((uSlot f71 _ 1 (by rw [f70]; decide)).trans ((uSlot f67 _ 1 (by rw [f66]; decide)).trans ((uSlot f63 _ 1 (by rw [f62]; decide)).trans ((uSlot f59 _ 1 (by rw [f58]; decide)).trans ((uSlot f55 _ 1 (by rw [f54]; decide)).trans ((uSlot f51 _ 1 (by rw [f50]; decide)).trans ((uSlot f47 _ 1 (by rw [f46]; decide)).trans ((uSlot f43 _ 1 (by rw [f42]; decide)).trans ((uSlot f39 _ 1 (by rw [f38]; decide)).trans ((uSlot f35 _ 1 (by rw [f34]; decide)).trans ((uSlot f31 _ 1 (by rw [f30]; decide)).trans ((uSlot f27 _ 1 (by rw [f26]; decide)).trans ((uSlot f23 _ 1 (by rw [f22]; decide)).trans ((uSlot f19 _ 1 (by rw [f18]; decide)).trans ((uSlot f15 _ 1 (by rw [f14]; decide)).trans (uSame f11 _ 1 (Int.toNat_of_nonneg cz) (by rw [f10]; rfl))))))))))))))))), ((uSlot f75 _ 2 (by rw [f74]; decide)).trans ((uSlot f71 _ 2 (by rw [f70]; decide)).trans ((uSlot f67 _ 2 (by rw [f66]; decide)).trans ((uSlot f63 _ 2 (by rw [f62]; decide)).trans ((uSlot f59 _ 2 (by rw [f58]; decide)).trans ((uSlot f55 _ 2 (by rw [f54]; decide)).trans ((uSlot f51 _ 2 (by rw [f50]; decide)).trans ((uSlot f47 _ 2 (by rw [f46]; decide)).trans ((uSlot f43 _ 2 (by rw [f42]; decide)).trans ((uSlot f39 _ 2 (by rw [f38]; decide)).trans ((uSlot f35 _ 2 (by rw [f34]; decide)).trans ((uSlot f31 _ 2 (by rw [f30]; decide)).trans ((uSlot f27 _ 2 (by rw [f26]; decide)).trans ((uSlot f23 _ 2 (by rw [f22]; decide)).trans ((uSlot f19 _ 2 (by rw [f18]; decide)).trans (uSame f15 _ 2 (Int.toNat_of_nonneg cz) (by rw [f14]; rfl))))))))))))))))).trans f12, ((uSlot f75 _ 4 (by rw [f74]; decide)).trans ((uSlot f71 _ 4 (by rw [f70]; decide)).trans ((uSlot f67 _ 4 (by rw [f66]; decide)).trans ((uSlot f63 _ 4 (by rw [f62]; decide)).trans ((uSlot f59 _ 4 (by rw [f58]; decide)).trans ((uSlot f55 _ 4 (by rw [f54]; decide)).trans ((uSlot f51 _ 4 (by rw [f50]; decide)).trans ((uSlot f47 _ 4 (by rw [f46]; decide)).trans ((uSlot f43 _ 4 (by rw [f42]; decide)).trans ((uSlot f39 _ 4 (by rw [f38]; decide)).trans ((uSlot f35 _ 4 (by rw [f34]; decide)).trans ((uSlot f31 _ 4 (by rw [f30]; decide)).trans ((uSlot f27 _ 4 (by rw [f26]; decide)).trans (uSame f23 _ 4 (Int.toNat_of_nonneg cz) (by rw [f22]; rfl))))))))))))))).trans f20, ((uSlot f75 _ 5 (by rw [f74]; decide)).trans ((uSlot f71 _ 5 (by rw [f70]; decide)).trans ((uSlot f67 _ 5 (by rw [f66]; decide)).trans ((uSlot f63 _ 5 (by rw [f62]; decide)).trans ((uSlot f59 _ 5 (by rw [f58]; decide)).trans ((uSlot f55 _ 5 (by rw [f54]; decide)).trans ((uSlot f51 _ 5 (by rw [f50]; decide)).trans ((uSlot f47 _ 5 (by rw [f46]; decide)).trans ((uSlot f43 _ 5 (by rw [f42]; decide)).trans ((uSlot f39 _ 5 (by rw [f38]; decide)).trans ((uSlot f35 _ 5 (by rw [f34]; decide)).trans ((uSlot f31 _ 5 (by rw [f30]; decide)).trans (uSame f27 _ 5 (Int.toNat_of_nonneg cz) (by rw [f26]; rfl)))))))))))))).trans f24, ((uSlot f75 _ 6 (by rw [f74]; decide)).trans ((uSlot f71 _ 6 (by rw [f70]; decide)).trans ((uSlot f67 _ 6 (by rw [f66]; decide)).trans ((uSlot f63 _ 6 (by rw [f62]; decide)).trans ((uSlot f59 _ 6 (by rw [f58]; decide)).trans ((uSlot f55 _ 6 (by rw [f54]; decide)).trans ((uSlot f51 _ 6 (by rw [f50]; decide)).trans ((uSlot f47 _ 6 (by rw [f46]; decide)).trans ((uSlot f43 _ 6 (by rw [f42]; decide)).trans ((uSlot f39 _ 6 (by rw [f38]; decide)).trans ((uSlot f35 _ 6 (by rw [f34]; decide)).trans (uSame f31 _ 6 (Int.toNat_of_nonneg cz) (by rw [f30]; rfl))))))))))))).trans f28, ((uSlot f75 _ 7 (by rw [f74]; decide)).trans ((uSlot f71 _ 7 (by rw [f70]; decide)).trans ((uSlot f67 _ 7 (by rw [f66]; decide)).trans ((uSlot f63 _ 7 (by rw [f62]; decide)).trans ((uSlot f59 _ 7 (by rw [f58]; decide)).trans ((uSlot f55 _ 7 (by rw [f54]; decide)).trans ((uSlot f51 _ 7 (by rw [f50]; decide)).trans ((uSlot f47 _ 7 (by rw [f46]; decide)).trans ((uSlot f43 _ 7 (by rw [f42]; decide)).trans ((uSlot f39 _ 7 (by rw [f38]; decide)).trans (uSame f35 _ 7 (Int.toNat_of_nonneg cz) (by rw [f34]; rfl)))))))))))).trans f32, ((uSlot f75 _ 8 (by rw [f74]; decide)).trans ((uSlot f71 _ 8 (by rw [f70]; decide)).trans ((uSlot f67 _ 8 (by rw [f66]; decide)).trans ((uSlot f63 _ 8 (by rw [f62]; decide)).trans ((uSlot f59 _ 8 (by rw [f58]; decide)).trans ((uSlot f55 _ 8 (by rw [f54]; decide)).trans ((uSlot f51 _ 8 (by rw [f50]; decide)).trans ((uSlot f47 _ 8 (by rw [f46]; decide)).trans ((uSlot f43 _ 8 (by rw [f42]; decide)).trans (uSame f39 _ 8 (Int.toNat_of_nonneg cz) (by rw [f38]; rfl))))))))))).trans f36, ((uSlot f75 _ 9 (by rw [f74]; decide)).trans ((uSlot f71 _ 9 (by rw [f70]; decide)).trans ((uSlot f67 _ 9 (by rw [f66]; decide)).trans ((uSlot f63 _ 9 (by rw [f62]; decide)).trans ((uSlot f59 _ 9 (by rw [f58]; decide)).trans ((uSlot f55 _ 9 (by rw [f54]; decide)).trans ((uSlot f51 _ 9 (by rw [f50]; decide)).trans ((uSlot f47 _ 9 (by rw [f46]; decide)).trans (uSame f43 _ 9 (Int.toNat_of_nonneg cz) (by rw [f42]; rfl)))))))))).trans f40, ((uSlot f75 _ 10 (by rw [f74]; decide)).trans ((uSlot f71 _ 10 (by rw [f70]; decide)).trans ((uSlot f67 _ 10 (by rw [f66]; decide)).trans ((uSlot f63 _ 10 (by rw [f62]; decide)).trans ((uSlot f59 _ 10 (by rw [f58]; decide)).trans ((uSlot f55 _ 10 (by rw [f54]; decide)).trans ((uSlot f51 _ 10 (by rw [f50]; decide)).trans (uSame f47 _ 10 (Int.toNat_of_nonneg cz) (by rw [f46]; rfl))))))))).trans f44, ((uSlot f75 _ 12 (by rw [f74]; decide)).trans ((uSlot f71 _ 12 (by rw [f70]; decide)).trans ((uSlot f67 _ 12 (by rw [f66]; decide)).trans ((uSlot f63 _ 12 (by rw [f62]; decide)).trans ((uSlot f59 _ 12 (by rw [f58]; decide)).trans (uSame f55 _ 12 (Int.toNat_of_nonneg cz) (by rw [f54]; rfl))))))).trans f52, ((uSlot f75 _ 13 (by rw [f74]; decide)).trans ((uSlot f71 _ 13 (by rw [f70]; decide)).trans ((uSlot f67 _ 13 (by rw [f66]; decide)).trans ((uSlot f63 _ 13 (by rw [f62]; decide)).trans (uSame f59 _ 13 (Int.toNat_of_nonneg cz) (by rw [f58]; rfl)))))).trans f56⟩
def g_24vw_s_0 : vG := ([(80, [0, 36, 35], [18, 17], 0), (0, [36], [], 18), (23, [0], [17], 1), (0, [35], [], 0), (80, [0, 34, 33], [17, 16], 0), (0, [34], [], 16), (23, [0], [16], 1), (0, [33], [], 0), (80, [0, 32, 31], [16, 15], 0), (0, [32], [], 15), (23, [0], [15], 1), (0, [31], [], 0), (80, [0, 30, 29], [15, 14], 0), (0, [30], [], 14), (23, [0], [14], 1), (0, [29], [], 0), (80, [0, 28, 27], [14, 13], 0), (0, [28], [], 13), (23, [0], [13], 1), (0, [27], [], 1), (80, [0, 26, 25], [13, 12], 0), (0, [26], [], 12), (23, [0], [12], 1), (0, [25], [], 1), (80, [0, 24, 23], [12, 11], 0), (0, [24], [], 11), (23, [0], [11], 1), (0, [23], [], 100), (80, [0, 22, 21], [11, 10], 0), (0, [22], [], 10), (23, [0], [10], 1), (0, [21], [], 100), (80, [0, 20, 19], [10, 9], 0), (0, [20], [], 9), (23, [0], [9], 1), (0, [19], [], -1), (80, [0, 18, 17], [9, 8], 0), (0, [18], [], 8), (23, [0], [8], 1), (0, [17], [], 0), (80, [0, 16, 15], [8, 7], 0), (0, [16], [], 7), (23, [0], [7], 1), (0, [15], [], 0), (80, [0, 14, 13], [7, 6], 0), (0, [14], [], 6), (23, [0], [6], 1), (0, [13], [], -1), (80, [0, 12, 11], [6, 5], 0), (0, [12], [], 5), (23, [0], [5], 1), (0, [11], [], 0), (80, [0, 10, 9], [5, 4], 0), (0, [10], [], 4), (23, [0], [4], 1), (0, [9], [], -1), (80, [0, 8, 7], [4, 3], 0), (0, [8], [], 3), (23, [0], [3], 1), (0, [7], [], 0), (80, [0, 6, 5], [3, 2], 0), (0, [6], [], 2), (23, [0], [2], 1), (0, [5], [], 0), (80, [0, 4, 2], [2, 1], 0), (0, [4], [], 1), (23, [0], [1], 1), (80, [0, 3, 1], [1, 0], 0), (0, [3], [], 0), (23, [0], [0], 1), (6000, [0, 1, 2], [0], 0), (51, [0], [], 0), (90, [1], [], -2147483648), (91, [1], [], 2147483647), (90, [2], [], -2147483648), (91, [2], [], 2147483647)], (3000, [], [18], 92))
theorem c_24vw_s_0 : vOkm T0 (eN e_24v L_24vw A_24v mu_24v n_24 B_24 none) 3 g_24vw_s_0 := vOk_inI fun ρ η f0 f1 f2 f3 f4 f5 f6 f7 f8 f9 f10 f11 f12 f13 f14 f15 f16 f17 f18 f19 f20 f21 f22 f23 f24 f25 f26 f27 f28 f29 f30 f31 f32 f33 f34 f35 f36 f37 f38 f39 f40 f41 f42 f43 f44 f45 f46 f47 f48 f49 f50 f51 f52 f53 f54 f55 f56 f57 f58 f59 f60 f61 f62 f63 f64 f65 f66 f67 f68 f69 f70 f71 f72 f73 f74 f75 => q_24vw_0 (n0 := ρ 2) (n1 := ρ 1) (n2 := ρ 0) (n3 := ρ 3) (n4 := ρ 4) (n5 := ρ 5) (n6 := ρ 6) (n7 := ρ 7) (n8 := ρ 8) (n9 := ρ 9) (n10 := ρ 10) (n11 := ρ 11) (n12 := ρ 12) (n13 := ρ 13) (n14 := ρ 14) (n15 := ρ 15) (n16 := ρ 16) (n17 := ρ 17) (n18 := ρ 18) (n19 := ρ 19) (n20 := ρ 20) (n21 := ρ 21) (n22 := ρ 22) (n23 := ρ 23) (n24 := ρ 24) (n25 := ρ 25) (n26 := ρ 26) (n27 := ρ 27) (n28 := ρ 28) (n29 := ρ 29) (n30 := ρ 30) (n31 := ρ 31) (n32 := ρ 32) (n33 := ρ 33) (n34 := ρ 34) (n35 := ρ 35) (n36 := ρ 36) (H0 := η 0) (H1 := η 1) (H2 := η 2) (H3 := η 3) (H4 := η 4) (H5 := η 5) (H6 := η 6) (H7 := η 7) (H8 := η 8) (H9 := η 9) (H10 := η 10) (H11 := η 11) (H12 := η 12) (H13 := η 13) (H14 := η 14) (H15 := η 15) (H16 := η 16) (H17 := η 17) (H18 := η 18) f75 f74 f73 f72 f71 f70 f69 f68 f67 f66 f65 f64 f63 f62 f61 f60 f59 f58 f57 f56 f55 f54 f53 f52 f51 f50 f49 f48 f47 f46 f45 f44 f43 f42 f41 f40 f39 f38 f37 f36 f35 f34 f33 f32 f31 f30 f29 f28 f27 f26 f25 f24 f23 f22 f21 f20 f19 f18 f17 f16 f15 f14 f13 f12 f11 f10 f9 f8 f7 f6 f5 f4 f3 f2 f1 f0
def p_24vw_s : List vG := [g_24vw_s_0]
theorem r_24vw_s : vCovBO (eR0 e_24v L_24v cs_24v 2000) p_24vw_s = true := by decide +kernel
theorem m_24vw (d : Nat) : eC e_24vw (d + 1) := eC_ref (e := e_24v) (L := L_24v) (L' := L_24vw) (cs := cs_24v) (n := 2000) (d := d + 0) (A := A_24v) (μ := mu_24v) (tp := false) (p0 := p_24v_s) (p1 := p_24vw_s) (N := n_24) (B := B_24) rfl trivial rfl (.inl rfl) (by decide +kernel) (fun z => nomatch z) r_24v_s (allC c_24v_s_0 allN) allN trivial r_24vw_s (allC c_24vw_s_0 allN) allN
/- Reader.cueAt (II)LMixStage$Cue;, more fully -/
def nb_74 (r a0 a1 a2 : Int) (h0 h : gH) : Prop := C45 h0 → 0 ≤ a1 → a1 ≤ 6 → 0 ≤ a2 ∧ a2 < 16 → r = 50 + 2 * (16 * a1 + a2)
def n_74 : List Int → gH → gH → Prop := fun xs h0 h => match xs with
  | [r, a0, a1, a2] => nb_74 r a0 a1 a2 h0 h
  | _ => True
noncomputable def e_74vw : vE := eV e_74v n_74
noncomputable def L_74vw : List vE := []
def B_74 : Int → List Int → gH → gH → Prop := fun c xs h0 h => True
theorem q_74vw_0 {n0 n1 n2 n3 n4 n5 n6 : Int} {H0 : gH} (f0 : n0 ≤ 2147483647) (f1 : (-2147483648) ≤ n0) (f2 : n1 ≤ 2147483647) (f3 : (-2147483648) ≤ n1) (f4 : n2 = 30) (f5 : hWt T0 H0 ∧ preb_74v n2 n1 n0 H0) (f6 : n3 = 16) (f7 : n4 = w32 (n1 * n3)) (f8 : n5 = w32 (n4 + n0)) (f9 : n0 < 0) (f10 : n6 = -1) : nb_74 n6 n2 n1 n0 H0 H0 := by
  unfold nb_74
  intro h6 c0 c1 c2
  have wq7 := f7
  rw [f6] at wq7
  unfold w32 at wq7
  have wq8 := f8
  unfold w32 at wq8
  exfalso
  omega
def g_74vw_s_0 : vG := ([(50, [6], [], 0), (32, [2], [], 0), (1, [5, 4, 2], [], 0), (3, [4, 1, 3], [], 0), (0, [3], [], 16), (6000, [0, 1, 2], [0], 0), (0, [0], [], 30), (90, [1], [], -2147483648), (91, [1], [], 2147483647), (90, [2], [], -2147483648), (91, [2], [], 2147483647)], (3000, [6], [0], 40))
theorem c_74vw_s_0 : vOkm T0 (eN e_74v L_74vw A_74v mu_74v n_74 B_74 none) 3 g_74vw_s_0 := vOk_inI fun ρ η f0 f1 f2 f3 f4 f5 f6 f7 f8 f9 f10 => q_74vw_0 (n0 := ρ 2) (n1 := ρ 1) (n2 := ρ 0) (n3 := ρ 3) (n4 := ρ 4) (n5 := ρ 5) (n6 := ρ 6) (H0 := η 0) f10 f9 f8 f7 f6 f5 f4 f3 f2 f1 f0
theorem q_74vw_1 {n0 n1 n2 n3 n4 n5 n6 n7 : Int} {H0 : gH} (f0 : n0 ≤ 2147483647) (f1 : (-2147483648) ≤ n0) (f2 : n1 ≤ 2147483647) (f3 : (-2147483648) ≤ n1) (f4 : n2 = 30) (f5 : hWt T0 H0 ∧ preb_74v n2 n1 n0 H0) (f6 : n3 = 16) (f7 : n4 = w32 (n1 * n3)) (f8 : n5 = w32 (n4 + n0)) (f9 : 0 ≤ n0) (f10 : n6 = 16) (f11 : n6 ≤ n0) (f12 : n7 = -1) : nb_74 n7 n2 n1 n0 H0 H0 := by
  unfold nb_74
  intro h6 c0 c1 c2
  have wq7 := f7
  rw [f6] at wq7
  unfold w32 at wq7
  have wq8 := f8
  unfold w32 at wq8
  exfalso
  omega
def g_74vw_s_1 : vG := ([(50, [7], [], 0), (43, [2, 6], [], 0), (0, [6], [], 16), (33, [2], [], 0), (1, [5, 4, 2], [], 0), (3, [4, 1, 3], [], 0), (0, [3], [], 16), (6000, [0, 1, 2], [0], 0), (0, [0], [], 30), (90, [1], [], -2147483648), (91, [1], [], 2147483647), (90, [2], [], -2147483648), (91, [2], [], 2147483647)], (3000, [7], [0], 40))
theorem c_74vw_s_1 : vOkm T0 (eN e_74v L_74vw A_74v mu_74v n_74 B_74 none) 3 g_74vw_s_1 := vOk_inI fun ρ η f0 f1 f2 f3 f4 f5 f6 f7 f8 f9 f10 f11 f12 => q_74vw_1 (n0 := ρ 2) (n1 := ρ 1) (n2 := ρ 0) (n3 := ρ 3) (n4 := ρ 4) (n5 := ρ 5) (n6 := ρ 6) (n7 := ρ 7) (H0 := η 0) f12 f11 f10 f9 f8 f7 f6 f5 f4 f3 f2 f1 f0
theorem q_74vw_2 {n0 n1 n2 n3 n4 n5 n6 n7 : Int} {H0 : gH} (f0 : n0 ≤ 2147483647) (f1 : (-2147483648) ≤ n0) (f2 : n1 ≤ 2147483647) (f3 : (-2147483648) ≤ n1) (f4 : n2 = 30) (f5 : hWt T0 H0 ∧ preb_74v n2 n1 n0 H0) (f6 : n3 = 16) (f7 : n4 = w32 (n1 * n3)) (f8 : n5 = w32 (n4 + n0)) (f9 : 0 ≤ n0) (f10 : n6 = 16) (f11 : n0 < n6) (f12 : n5 < 0) (f13 : n7 = -1) : nb_74 n7 n2 n1 n0 H0 H0 := by
  unfold nb_74
  intro h6 c0 c1 c2
  have wq7 := f7
  rw [f6] at wq7
  unfold w32 at wq7
  have wq8 := f8
  unfold w32 at wq8
  exfalso
  omega
def g_74vw_s_2 : vG := ([(50, [7], [], 0), (32, [5], [], 0), (42, [2, 6], [], 0), (0, [6], [], 16), (33, [2], [], 0), (1, [5, 4, 2], [], 0), (3, [4, 1, 3], [], 0), (0, [3], [], 16), (6000, [0, 1, 2], [0], 0), (0, [0], [], 30), (90, [1], [], -2147483648), (91, [1], [], 2147483647), (90, [2], [], -2147483648), (91, [2], [], 2147483647)], (3000, [7], [0], 40))
theorem c_74vw_s_2 : vOkm T0 (eN e_74v L_74vw A_74v mu_74v n_74 B_74 none) 3 g_74vw_s_2 := vOk_inI fun ρ η f0 f1 f2 f3 f4 f5 f6 f7 f8 f9 f10 f11 f12 f13 => q_74vw_2 (n0 := ρ 2) (n1 := ρ 1) (n2 := ρ 0) (n3 := ρ 3) (n4 := ρ 4) (n5 := ρ 5) (n6 := ρ 6) (n7 := ρ 7) (H0 := η 0) f13 f12 f11 f10 f9 f8 f7 f6 f5 f4 f3 f2 f1 f0
theorem q_74vw_3 {n0 n1 n2 n3 n4 n5 n6 n7 n8 n9 n10 : Int} {H0 : gH} (f0 : n0 ≤ 2147483647) (f1 : (-2147483648) ≤ n0) (f2 : n1 ≤ 2147483647) (f3 : (-2147483648) ≤ n1) (f4 : n2 = 30) (f5 : hWt T0 H0 ∧ preb_74v n2 n1 n0 H0) (f6 : n3 = 16) (f7 : n4 = w32 (n1 * n3)) (f8 : n5 = w32 (n4 + n0)) (f9 : 0 ≤ n0) (f10 : n6 = 16) (f11 : n0 < n6) (f12 : 0 ≤ n5) (f13 : n7 = 45) (f14 : hK H0 (n2).toNat = 4) (f15 : n7 = hV H0 (n2).toNat 9) (f16 : n8 = (hN H0 (n7).toNat : Int)) (f17 : n8 = 112) (f18 : n5 < n8) (f19 : n9 = 45) (f20 : hK H0 (n2).toNat = 4) (f21 : n9 = hV H0 (n2).toNat 9) (f22 : n10 = hV H0 (n9).toNat (n5).toNat) : nb_74 n10 n2 n1 n0 H0 H0 := by
  unfold nb_74
  intro h6 c0 c1 c2
  have wq7 := f7
  rw [f6] at wq7
  unfold w32 at wq7
  have wq8 := f8
  unfold w32 at wq8
  have d := f22
  rw [f19] at d
  rw [show ((45 : Int)).toNat = 45 from rfl, h6 _ (by omega)] at d
  omega
def g_74vw_s_3 : vG := ([(22, [10, 9, 5], [0], 0), (20, [9, 0], [0], 9), (23, [0], [0], 4), (0, [9], [], 45), (42, [5, 8], [], 0), (0, [8], [], 112), (21, [8, 7], [0], 0), (20, [7, 0], [0], 9), (23, [0], [0], 4), (0, [7], [], 45), (33, [5], [], 0), (42, [2, 6], [], 0), (0, [6], [], 16), (33, [2], [], 0), (1, [5, 4, 2], [], 0), (3, [4, 1, 3], [], 0), (0, [3], [], 16), (6000, [0, 1, 2], [0], 0), (0, [0], [], 30), (90, [1], [], -2147483648), (91, [1], [], 2147483647), (90, [2], [], -2147483648), (91, [2], [], 2147483647)], (3000, [10], [0], 40))
theorem c_74vw_s_3 : vOkm T0 (eN e_74v L_74vw A_74v mu_74v n_74 B_74 none) 3 g_74vw_s_3 := vOk_inI fun ρ η f0 f1 f2 f3 f4 f5 f6 f7 f8 f9 f10 f11 f12 f13 f14 f15 f16 f17 f18 f19 f20 f21 f22 => q_74vw_3 (n0 := ρ 2) (n1 := ρ 1) (n2 := ρ 0) (n3 := ρ 3) (n4 := ρ 4) (n5 := ρ 5) (n6 := ρ 6) (n7 := ρ 7) (n8 := ρ 8) (n9 := ρ 9) (n10 := ρ 10) (H0 := η 0) f22 f21 f20 f19 f18 f17 f16 f15 f14 f13 f12 f11 f10 f9 f8 f7 f6 f5 f4 f3 f2 f1 f0
theorem q_74vw_4 {n0 n1 n2 n3 n4 n5 n6 n7 n8 n9 : Int} {H0 : gH} (f0 : n0 ≤ 2147483647) (f1 : (-2147483648) ≤ n0) (f2 : n1 ≤ 2147483647) (f3 : (-2147483648) ≤ n1) (f4 : n2 = 30) (f5 : hWt T0 H0 ∧ preb_74v n2 n1 n0 H0) (f6 : n3 = 16) (f7 : n4 = w32 (n1 * n3)) (f8 : n5 = w32 (n4 + n0)) (f9 : 0 ≤ n0) (f10 : n6 = 16) (f11 : n0 < n6) (f12 : 0 ≤ n5) (f13 : n7 = 45) (f14 : hK H0 (n2).toNat = 4) (f15 : n7 = hV H0 (n2).toNat 9) (f16 : n8 = (hN H0 (n7).toNat : Int)) (f17 : n8 = 112) (f18 : n8 ≤ n5) (f19 : n9 = -1) : nb_74 n9 n2 n1 n0 H0 H0 := by
  unfold nb_74
  intro h6 c0 c1 c2
  have wq7 := f7
  rw [f6] at wq7
  unfold w32 at wq7
  have wq8 := f8
  unfold w32 at wq8
  exfalso
  omega
def g_74vw_s_4 : vG := ([(50, [9], [], 0), (43, [5, 8], [], 0), (0, [8], [], 112), (21, [8, 7], [0], 0), (20, [7, 0], [0], 9), (23, [0], [0], 4), (0, [7], [], 45), (33, [5], [], 0), (42, [2, 6], [], 0), (0, [6], [], 16), (33, [2], [], 0), (1, [5, 4, 2], [], 0), (3, [4, 1, 3], [], 0), (0, [3], [], 16), (6000, [0, 1, 2], [0], 0), (0, [0], [], 30), (90, [1], [], -2147483648), (91, [1], [], 2147483647), (90, [2], [], -2147483648), (91, [2], [], 2147483647)], (3000, [9], [0], 40))
theorem c_74vw_s_4 : vOkm T0 (eN e_74v L_74vw A_74v mu_74v n_74 B_74 none) 3 g_74vw_s_4 := vOk_inI fun ρ η f0 f1 f2 f3 f4 f5 f6 f7 f8 f9 f10 f11 f12 f13 f14 f15 f16 f17 f18 f19 => q_74vw_4 (n0 := ρ 2) (n1 := ρ 1) (n2 := ρ 0) (n3 := ρ 3) (n4 := ρ 4) (n5 := ρ 5) (n6 := ρ 6) (n7 := ρ 7) (n8 := ρ 8) (n9 := ρ 9) (H0 := η 0) f19 f18 f17 f16 f15 f14 f13 f12 f11 f10 f9 f8 f7 f6 f5 f4 f3 f2 f1 f0
def p_74vw_s : List vG := [g_74vw_s_0,
  g_74vw_s_1,
  g_74vw_s_2,
  g_74vw_s_3,
  g_74vw_s_4]
theorem r_74vw_s : vCovBO (eR0 e_74v L_74v cs_74v 2000) p_74vw_s = true := by decide +kernel
theorem m_74vw (d : Nat) : eC e_74vw (d + 1) := eC_ref (e := e_74v) (L := L_74v) (L' := L_74vw) (cs := cs_74v) (n := 2000) (d := d + 0) (A := A_74v) (μ := mu_74v) (tp := false) (p0 := p_74v_s) (p1 := p_74vw_s) (N := n_74) (B := B_74) rfl trivial rfl (.inl rfl) (by decide +kernel) (fun z => nomatch z) r_74v_s (allC c_74v_s_0 (allC c_74v_s_1 (allC c_74v_s_2 (allC c_74v_s_3 (allC c_74v_s_4 (allC c_74v_s_5 allN)))))) allN trivial r_74vw_s (allC c_74vw_s_0 (allC c_74vw_s_1 (allC c_74vw_s_2 (allC c_74vw_s_3 (allC c_74vw_s_4 allN))))) allN
