/-! CONTRACTS of methods told more fully. -/
/- Tokens.placeOf (I)I -/
noncomputable def s_124x : vM := ([(3, 8, 31, 0), (0, -2147483648, 2147483647, 0)], (0, -2147483648, 2147483647, 0), 0, 0, [])
def postb_124x (r a0 a1 : Int) (h0 h : gH) : Prop := KS5 h0 → r = if 0 ≤ a1 ∧ a1 < 502 then hV h0 34 (a1).toNat else 0
def post_124x : List Int → gH → gH → Prop := fun xs h0 h => match xs with
  | [r, a0, a1] => postb_124x r a0 a1 h0 h
  | _ => True
noncomputable def e_124x : vE := (124, s_124x, pre0, post_124x)
noncomputable def L_124x : List vE := [e_199vk716]
def cs_124x : List vC := []
def A_124x : Int → List Int → gH → gH → Prop := fun c xs h0 h => True
def mu_124x : Int → List Int → gH → gH → Nat := fun c xs h0 h => 0
theorem q_124x_0 {n0 n1 n2 n3 : Int} {H0 H1 : gH} (f0 : n0 ≤ 2147483647) (f1 : (-2147483648) ≤ n0) (f2 : n1 = 31) (f3 : hWt T0 H0 ∧ True) (f4 : n2 = 34) (f5 : n2 = hV H0 (n1).toNat 2) (f6 : n3 ≤ 2147483647) (f7 : (-2147483648) ≤ n3) (f8 : (hLe T0 H0 H1 ∧ hFr s_199vk716.2.2.2.2 H0 H1 ∧ ((0 : Int) = 0 → H1.length = H0.length) ∧ hWt T0 H1) ∧ postb_199vk716 n3 n2 n0 H0 H1) : postb_124x n3 n1 n0 H0 H1 := by
  have q := f8.2
  unfold postb_199vk716 at q
  unfold postb_124x
  intro ks
  exact atQ_r (q := 34) (n := 502) q f4 ks.2.2.2.2.2.2.1
theorem c_124x_s_0 : vOkm T0 (eP e_124x L_124x A_124x mu_124x none) 2 ([(1199, [3, 2, 1], [0, 1], 0), (90, [3], [], -2147483648), (91, [3], [], 2147483647), (20, [2, 0], [0], 2), (0, [2], [], 34), (6000, [0, 1], [0], 0), (0, [0], [], 31), (90, [1], [], -2147483648), (91, [1], [], 2147483647)], (3000, [3], [1], 8)) := vOk_in fun ρ η h => by
  obtain ⟨f0, f1, f2, f3, f4, f5, f6, f7, f8, _⟩ := h
  exact q_124x_0 (n0 := ρ 1) (n1 := ρ 0) (n2 := ρ 2) (n3 := ρ 3) (H0 := η 0) (H1 := η 1) f8 f7 f6 f5 f4 f3 f2 f1 f0
def p_124x_s : List vG := [([(1199, [3, 2, 1], [0, 1], 0), (90, [3], [], -2147483648), (91, [3], [], 2147483647), (20, [2, 0], [0], 2), (0, [2], [], 34), (6000, [0, 1], [0], 0), (0, [0], [], 31), (90, [1], [], -2147483648), (91, [1], [], 2147483647)], (3000, [3], [1], 8))]
theorem r_124x_s : vCovO false (eR0 e_124x L_124x cs_124x 2000) p_124x_s = true := by decide +kernel
theorem m_124x (d : Nat) : eC e_124x (d + 2) := eC_ok (e := e_124x) (L := L_124x) (cs := cs_124x) (n := 2000) (d := d + 1) (A := A_124x) (μ := mu_124x) (tp := false) (p0 := p_124x_s) rfl ⟨m_199vk716 d, trivial⟩ rfl (.inr pre0_ok) (by decide +kernel) (fun z => nomatch z) r_124x_s (allC c_124x_s_0 allN) allN
/- Reader.takeInt (II)I, more fully -/
def nb_67 (r a0 a1 a2 : Int) (h0 h : gH) : Prop := hV h 30 3 = 0 → r = tvl (vwC h0) (absC h0)
def n_67 : List Int → gH → gH → Prop := fun xs h0 h => match xs with
  | [r, a0, a1, a2] => nb_67 r a0 a1 a2 h0 h
  | _ => True
noncomputable def e_67vw : vE := eV e_67v n_67
noncomputable def L_67vw : List vE := [e_65v, e_66v, e_123v]
def B_67 : Int → List Int → gH → gH → Prop := fun c xs h0 h => True
theorem q_67vw_0 {n0 n1 n2 n3 n4 n5 n6 n7 n8 n9 : Int} {H0 H1 H2 H3 : gH} (f0 : n2 = 30) (f1 : hWt T0 H0 ∧ preb_67v n2 n1 n0 H0) (f2 : n4 = hV H0 (n2).toNat 1) (f3 : (hLe T0 H0 H1 ∧ hFr s_123v.2.2.2.2 H0 H1 ∧ ((0 : Int) = 0 → H1.length = H0.length) ∧ hWt T0 H1) ∧ postb_123v n5 n3 n4 H0 H1) (f4 : n6 = (Int64.ofInt n5).toInt32.toInt) (f5 : (hLe T0 H1 H2 ∧ hFr s_65v.2.2.2.2 H1 H2 ∧ ((0 : Int) = 0 → H2.length = H1.length) ∧ hWt T0 H2) ∧ postb_65v n2 n7 n8 H1 H2) (f6 : n9 = 3) (f7 : (hLe T0 H2 H3 ∧ hFr s_66v.2.2.2.2 H2 H3 ∧ ((0 : Int) = 0 → H3.length = H2.length) ∧ hWt T0 H3) ∧ postb_66v n2 n9 H2 H3) : nb_67 n6 n2 n1 n0 H0 H3 := by
  have pz := f1.2
  unfold preb_67v at pz
  unfold nb_67
  intro hf
  have s1 := PF_fr f3.1.1 f3.1.2.1 (by decide +kernel) pz
  have pv := f3.2
  unfold postb_123v at pv
  have r1 := f2
  rw [f0] at r1
  rw [show ((30 : Int)).toNat = 30 from rfl] at r1
  rw [show n4 = hV H0 30 1 from r1] at pv
  have hx := val_at pz pv f4
  have pt := f7.2
  unfold postb_66v at pt
  rw [f6] at pt
  have q := (absC_pos pt.1 hf).2
  rw [pt.2] at q
  have pb := f5.2
  unfold postb_65v at pb
  rw [s1.1, s1.2.1] at pb
  have vb : vwC H2 = vwC H0 := (vwC_fr f5.1.2.1 (by decide +kernel)).trans s1.2.1
  rw [vb, pb.2] at q
  have k := (pt1_kind pz.2.1 q).2
  rw [pbl_1] at k
  unfold tvl
  exact hx k
def g_67vw_s_0 : vG := ([(1066, [0, 9], [2, 3], 0), (0, [9], [], 3), (1065, [0, 7, 8], [1, 2], 0), (18, [6, 5], [], 0), (1123, [5, 3, 4], [0, 1], 0), (20, [4, 0], [0], 1), (6000, [0, 1, 2], [0], 0), (0, [0], [], 30)], (3000, [6], [3], 38))
theorem c_67vw_s_0 : vOkm T0 (eN e_67v L_67vw A_67v mu_67v n_67 B_67 none) 3 g_67vw_s_0 := vOk_inI fun ρ η f0 f1 f2 f3 f4 f5 f6 f7 => q_67vw_0 (n0 := ρ 2) (n1 := ρ 1) (n2 := ρ 0) (n3 := ρ 3) (n4 := ρ 4) (n5 := ρ 5) (n6 := ρ 6) (n7 := ρ 7) (n8 := ρ 8) (n9 := ρ 9) (H0 := η 0) (H1 := η 1) (H2 := η 2) (H3 := η 3) f7 f6 f5 f4 f3 f2 f1 f0
theorem q_67vw_1 {n0 n1 n2 n3 n4 n5 n6 n7 : Int} {H0 H1 H2 : gH} (f0 : n2 = 30) (f1 : hWt T0 H0 ∧ preb_67v n2 n1 n0 H0) (f2 : n4 = hV H0 (n2).toNat 1) (f3 : (hLe T0 H0 H1 ∧ hFr s_123v.2.2.2.2 H0 H1 ∧ ((0 : Int) = 0 → H1.length = H0.length) ∧ hWt T0 H1) ∧ postb_123v n5 n3 n4 H0 H1) (f4 : n6 = (Int64.ofInt n5).toInt32.toInt) (f5 : n7 = 3) (f6 : (hLe T0 H1 H2 ∧ hFr s_66v.2.2.2.2 H1 H2 ∧ ((0 : Int) = 0 → H2.length = H1.length) ∧ hWt T0 H2) ∧ postb_66v n2 n7 H1 H2) : nb_67 n6 n2 n1 n0 H0 H2 := by
  have pz := f1.2
  unfold preb_67v at pz
  unfold nb_67
  intro hf
  have s1 := PF_fr f3.1.1 f3.1.2.1 (by decide +kernel) pz
  have pv := f3.2
  unfold postb_123v at pv
  have r1 := f2
  rw [f0] at r1
  rw [show ((30 : Int)).toNat = 30 from rfl] at r1
  rw [show n4 = hV H0 30 1 from r1] at pv
  have hx := val_at pz pv f4
  have pt := f6.2
  unfold postb_66v at pt
  rw [f5] at pt
  have q := (absC_pos pt.1 hf).2
  rw [pt.2] at q
  rw [s1.2.1, s1.1] at q
  have k := (pt1_kind pz.2.1 q).2
  unfold tvl
  exact hx k
def g_67vw_s_1 : vG := ([(1066, [0, 7], [1, 2], 0), (0, [7], [], 3), (18, [6, 5], [], 0), (1123, [5, 3, 4], [0, 1], 0), (20, [4, 0], [0], 1), (6000, [0, 1, 2], [0], 0), (0, [0], [], 30)], (3000, [6], [2], 38))
theorem c_67vw_s_1 : vOkm T0 (eN e_67v L_67vw A_67v mu_67v n_67 B_67 none) 3 g_67vw_s_1 := vOk_inI fun ρ η f0 f1 f2 f3 f4 f5 f6 => q_67vw_1 (n0 := ρ 2) (n1 := ρ 1) (n2 := ρ 0) (n3 := ρ 3) (n4 := ρ 4) (n5 := ρ 5) (n6 := ρ 6) (n7 := ρ 7) (H0 := η 0) (H1 := η 1) (H2 := η 2) f6 f5 f4 f3 f2 f1 f0
theorem q_67vw_2 {n0 n1 n2 n3 n4 n5 n6 n7 n8 n9 : Int} {H0 H1 H2 H3 : gH} (f0 : n2 = 30) (f1 : hWt T0 H0 ∧ preb_67v n2 n1 n0 H0) (f2 : n4 = hV H0 (n2).toNat 1) (f3 : (hLe T0 H0 H1 ∧ hFr s_123v.2.2.2.2 H0 H1 ∧ ((0 : Int) = 0 → H1.length = H0.length) ∧ hWt T0 H1) ∧ postb_123v n5 n3 n4 H0 H1) (f4 : n6 = (Int64.ofInt n5).toInt32.toInt) (f5 : (hLe T0 H1 H2 ∧ hFr s_65v.2.2.2.2 H1 H2 ∧ ((0 : Int) = 0 → H2.length = H1.length) ∧ hWt T0 H2) ∧ postb_65v n2 n7 n8 H1 H2) (f6 : n9 = 3) (f7 : (hLe T0 H2 H3 ∧ hFr s_66v.2.2.2.2 H2 H3 ∧ ((0 : Int) = 0 → H3.length = H2.length) ∧ hWt T0 H3) ∧ postb_66v n2 n9 H2 H3) : nb_67 n6 n2 n1 n0 H0 H3 := by
  have pz := f1.2
  unfold preb_67v at pz
  unfold nb_67
  intro hf
  have s1 := PF_fr f3.1.1 f3.1.2.1 (by decide +kernel) pz
  have pv := f3.2
  unfold postb_123v at pv
  have r1 := f2
  rw [f0] at r1
  rw [show ((30 : Int)).toNat = 30 from rfl] at r1
  rw [show n4 = hV H0 30 1 from r1] at pv
  have hx := val_at pz pv f4
  have pt := f7.2
  unfold postb_66v at pt
  rw [f6] at pt
  have q := (absC_pos pt.1 hf).2
  rw [pt.2] at q
  have pb := f5.2
  unfold postb_65v at pb
  rw [s1.1, s1.2.1] at pb
  have vb : vwC H2 = vwC H0 := (vwC_fr f5.1.2.1 (by decide +kernel)).trans s1.2.1
  rw [vb, pb.2] at q
  have k := (pt1_kind pz.2.1 q).2
  rw [pbl_1] at k
  unfold tvl
  exact hx k
def g_67vw_s_2 : vG := ([(1066, [0, 9], [2, 3], 0), (0, [9], [], 3), (1065, [0, 7, 8], [1, 2], 0), (18, [6, 5], [], 0), (1123, [5, 3, 4], [0, 1], 0), (20, [4, 0], [0], 1), (6000, [0, 1, 2], [0], 0), (0, [0], [], 30)], (3000, [6], [3], 38))
theorem c_67vw_s_2 : vOkm T0 (eN e_67v L_67vw A_67v mu_67v n_67 B_67 none) 3 g_67vw_s_2 := vOk_inI fun ρ η f0 f1 f2 f3 f4 f5 f6 f7 => q_67vw_2 (n0 := ρ 2) (n1 := ρ 1) (n2 := ρ 0) (n3 := ρ 3) (n4 := ρ 4) (n5 := ρ 5) (n6 := ρ 6) (n7 := ρ 7) (n8 := ρ 8) (n9 := ρ 9) (H0 := η 0) (H1 := η 1) (H2 := η 2) (H3 := η 3) f7 f6 f5 f4 f3 f2 f1 f0
def p_67vw_s : List vG := [g_67vw_s_0,
  g_67vw_s_1,
  g_67vw_s_2]
theorem r_67vw_s : vCovBO (eR0 e_67v L_67v cs_67v 2000) p_67vw_s = true := by decide +kernel
theorem m_67vw (d : Nat) : eC e_67vw (d + 3) := eC_ref (e := e_67v) (L := L_67v) (L' := L_67vw) (cs := cs_67v) (n := 2000) (d := d + 2) (A := A_67v) (μ := mu_67v) (tp := false) (p0 := p_67v_s) (p1 := p_67vw_s) (N := n_67) (B := B_67) rfl ⟨m_65v (d + 1), ⟨m_66v d, ⟨m_123v (d + 1), trivial⟩⟩⟩ rfl (.inl rfl) (by decide +kernel) (fun z => nomatch z) r_67v_s (allC c_67v_s_0 (allC c_67v_s_1 (allC c_67v_s_2 (allC c_67v_s_3 (allC c_67v_s_4 (allC c_67v_s_5 (allC c_67v_s_6 (allC c_67v_s_7 (allC c_67v_s_8 allN))))))))) allN (sub0 (sub0 (sub0 trivial))) r_67vw_s (allC c_67vw_s_0 (allC c_67vw_s_1 (allC c_67vw_s_2 allN))) allN
/- Reader.readTime (LMixStage$Cue;Z)V, more fully -/
def nb_81 (a0 a1 a2 : Int) (h0 h : gH) : Prop := hK h0 (a1).toNat = 1 → 0 ≤ a1 → CUo h0 h a1 ∧ (a2 = 0 → (∀ s : Nat, ¬ s = 4 → ¬ s = 5 → hV h (a1).toNat s = hV h0 (a1).toNat s) ∧ (hV h 30 3 = 0 → hV h (a1).toNat 4 = mkA (vwC h0) (absC h0) ∧ hV h (a1).toNat 5 = frA (vwC h0) (absC h0))) ∧ (¬ a2 = 0 → (∀ s : Nat, ¬ s = 6 → ¬ s = 7 → hV h (a1).toNat s = hV h0 (a1).toNat s) ∧ (hV h 30 3 = 0 → hV h (a1).toNat 6 = mkA (vwC h0) (absC h0) ∧ hV h (a1).toNat 7 = frA (vwC h0) (absC h0)))
def n_81 : List Int → gH → gH → Prop := fun xs h0 h => match xs with
  | [a0, a1, a2] => nb_81 a0 a1 a2 h0 h
  | _ => True
noncomputable def e_81vw : vE := eV e_81v n_81
noncomputable def L_81vw : List vE := [e_66v, e_67vw]
def B_81 : Int → List Int → gH → gH → Prop := fun c xs h0 h => True
theorem q_81vw_0 {n0 n1 n2 n3 n4 n5 n6 n7 n8 n9 n10 n11 : Int} {H0 H1 H2 H3 : gH} (f0 : n0 ≤ 1) (f1 : 0 ≤ n0) (f2 : 0 ≤ n1) (f3 : n2 = 30) (f4 : hWt T0 H0 ∧ preb_81v n2 n1 n0 H0) (f5 : n3 = (-1)) (f6 : n4 = 0) (f7 : n5 ≤ 2147483647) (f8 : (-2147483648) ≤ n5) (f9 : hK H0 (n2).toNat = 4) (f10 : n5 = hV H0 (n2).toNat 2) (f11 : n6 = 37) (f12 : n5 ≠ n6) (f13 : n7 = 0) (f14 : n8 = 60) (f15 : n9 ≤ 2147483647) (f16 : (-2147483648) ≤ n9) (f17 : (hLe T0 H0 H1 ∧ hFr s_67v.2.2.2.2 H0 H1 ∧ ((0 : Int) = 0 → H1.length = H0.length) ∧ hWt T0 H1) ∧ (postb_67v n9 n2 n7 n8 H0 H1 ∧ nb_67 n9 n2 n7 n8 H0 H1)) (f18 : n0 = 0) (f19 : hK H1 (n1).toNat = 1) (f20 : n10 = 4) (f21 : hUpd H2 H1 n1 n10 n3) (f22 : hK H2 (n1).toNat = 1) (f23 : n11 = 5) (f24 : hUpd H3 H2 n1 n11 n9) : nb_81 n2 n1 n0 H0 H3 := by
  unfold nb_81
  intro hk cz
  have pz := f4.2
  unfold preb_81v at pz
  have c0 := f17.2.1
  unfold postb_67v at c0
  try rw [f13] at c0
  try rw [f14] at c0
  have a0 : absC H1 = (pnm (vwC H0) 0 60 (absC H0)) := c0.2
  have v0 : vwC H1 = vwC H0 := (vwC_fr f17.1.2.1 (by decide +kernel))
  have s1 := PF_up f21 c0.1 f19
  have a1 : absC H2 = (pnm (vwC H0) 0 60 (absC H0)) := s1.1.trans a0
  have v1 : vwC H2 = vwC H0 := s1.2.1.trans v0
  have s2 := PF_up f24 s1.2.2 f22
  have a2 : absC H3 = (pnm (vwC H0) 0 60 (absC H0)) := s2.1.trans a1
  have v2 : vwC H3 = vwC H0 := s2.2.1.trans v1
  have b0 := kd_at pz
  have g0 := f10
  rw [f3] at g0
  rw [show ((30 : Int)).toNat = 30 from rfl] at g0
  have h0 : (absC H0).1 < 0 ∨ ¬ (vwC H0).1 (absC H0).1 = 37 := by
    rcases b0 with q | q
    · exact .inl q
    · right
      rw [q]
      omega
  have kc0 : hK H1 (n1).toNat = 1 := kLe f17.1.1 hk rfl
  have kc1 : hK H2 (n1).toNat = 1 := kUp f21 kc0
  have kc2 : hK H3 (n1).toNat = 1 := kUp f24 kc1
  refine ⟨(CUo_tr (CUo_fr f17.1.1 f17.1.2.1 (by decide +kernel)) (CUo_tr (CUo_up f21) (CUo_up f24))), fun _ => ⟨fun s h1 h2 => (uSlot f24 _ s (by have w := f23; omega)).trans ((uSlot f21 _ s (by have w := f20; omega)).trans (fr1 f17.1.2.1 (by decide +kernel) hk s)), ?_⟩, fun z => absurd z (by have w := f18; omega)⟩
  · intro hf
    have hzH2 := fzE s1.2.2 s2.2.2 a1 a2 (fun _ _ => rfl) hf
    have hzH1 := fzE c0.1 s1.2.2 a0 a1 (fun _ _ => rfl) hzH2.1
    have hzH0 := fzE pz c0.1 rfl a0 (fun n k => pnm_neg n k) hzH1.1
    have tv17 : n9 = tvl (vwC H0) (absC H0) := by
      have w := f17.2.2
      unfold nb_67 at w
      have w := w hzH1.1
      exact w
    exact ⟨((uSlot f24 _ 4 (by rw [f23]; decide)).trans (uSame f21 _ 4 (Int.toNat_of_nonneg cz) (by rw [f20]; rfl))).trans (by rw [(mkA_int (kdN h0 hzH0.2)).1]; exact f5), (uSame f24 _ 5 (Int.toNat_of_nonneg cz) (by rw [f23]; rfl)).trans (by rw [(mkA_int (kdN h0 hzH0.2)).2]; exact tv17)⟩
def g_81vw_s_0 : vG := ([(80, [1, 11, 9], [3, 2], 0), (0, [11], [], 5), (23, [1], [2], 1), (80, [1, 10, 3], [2, 1], 0), (0, [10], [], 4), (23, [1], [1], 1), (30, [2], [], 0), (1067, [9, 0, 7, 8], [0, 1], 0), (90, [9], [], -2147483648), (91, [9], [], 2147483647), (0, [8], [], 60), (0, [7], [], 0), (41, [5, 6], [], 0), (0, [6], [], 37), (20, [5, 0], [0], 2), (23, [0], [0], 4), (90, [5], [], -2147483648), (91, [5], [], 2147483647), (0, [4], [], 0), (0, [3], [], -1), (6000, [0, 1, 2], [0], 0), (0, [0], [], 30), (51, [1], [], 0), (90, [2], [], 0), (91, [2], [], 1)], (3000, [], [3], 123))
theorem c_81vw_s_0 : vOkm T0 (eN e_81v L_81vw A_81v mu_81v n_81 B_81 none) 3 g_81vw_s_0 := vOk_inI fun ρ η f0 f1 f2 f3 f4 f5 f6 f7 f8 f9 f10 f11 f12 f13 f14 f15 f16 f17 f18 f19 f20 f21 f22 f23 f24 => q_81vw_0 (n0 := ρ 2) (n1 := ρ 1) (n2 := ρ 0) (n3 := ρ 3) (n4 := ρ 4) (n5 := ρ 5) (n6 := ρ 6) (n7 := ρ 7) (n8 := ρ 8) (n9 := ρ 9) (n10 := ρ 10) (n11 := ρ 11) (H0 := η 0) (H1 := η 1) (H2 := η 2) (H3 := η 3) f24 f23 f22 f21 f20 f19 f18 f17 f16 f15 f14 f13 f12 f11 f10 f9 f8 f7 f6 f5 f4 f3 f2 f1 f0
theorem q_81vw_1 {n0 n1 n2 n3 n4 n5 n6 n7 n8 n9 n10 n11 : Int} {H0 H1 H2 H3 : gH} (f0 : n0 ≤ 1) (f1 : 0 ≤ n0) (f2 : 0 ≤ n1) (f3 : n2 = 30) (f4 : hWt T0 H0 ∧ preb_81v n2 n1 n0 H0) (f5 : n3 = (-1)) (f6 : n4 = 0) (f7 : n5 ≤ 2147483647) (f8 : (-2147483648) ≤ n5) (f9 : hK H0 (n2).toNat = 4) (f10 : n5 = hV H0 (n2).toNat 2) (f11 : n6 = 37) (f12 : n5 ≠ n6) (f13 : n7 = 0) (f14 : n8 = 60) (f15 : n9 ≤ 2147483647) (f16 : (-2147483648) ≤ n9) (f17 : (hLe T0 H0 H1 ∧ hFr s_67v.2.2.2.2 H0 H1 ∧ ((0 : Int) = 0 → H1.length = H0.length) ∧ hWt T0 H1) ∧ (postb_67v n9 n2 n7 n8 H0 H1 ∧ nb_67 n9 n2 n7 n8 H0 H1)) (f18 : n0 ≠ 0) (f19 : hK H1 (n1).toNat = 1) (f20 : n10 = 6) (f21 : hUpd H2 H1 n1 n10 n3) (f22 : hK H2 (n1).toNat = 1) (f23 : n11 = 7) (f24 : hUpd H3 H2 n1 n11 n9) : nb_81 n2 n1 n0 H0 H3 := by
  unfold nb_81
  intro hk cz
  have pz := f4.2
  unfold preb_81v at pz
  have c0 := f17.2.1
  unfold postb_67v at c0
  try rw [f13] at c0
  try rw [f14] at c0
  have a0 : absC H1 = (pnm (vwC H0) 0 60 (absC H0)) := c0.2
  have v0 : vwC H1 = vwC H0 := (vwC_fr f17.1.2.1 (by decide +kernel))
  have s1 := PF_up f21 c0.1 f19
  have a1 : absC H2 = (pnm (vwC H0) 0 60 (absC H0)) := s1.1.trans a0
  have v1 : vwC H2 = vwC H0 := s1.2.1.trans v0
  have s2 := PF_up f24 s1.2.2 f22
  have a2 : absC H3 = (pnm (vwC H0) 0 60 (absC H0)) := s2.1.trans a1
  have v2 : vwC H3 = vwC H0 := s2.2.1.trans v1
  have b0 := kd_at pz
  have g0 := f10
  rw [f3] at g0
  rw [show ((30 : Int)).toNat = 30 from rfl] at g0
  have h0 : (absC H0).1 < 0 ∨ ¬ (vwC H0).1 (absC H0).1 = 37 := by
    rcases b0 with q | q
    · exact .inl q
    · right
      rw [q]
      omega
  have kc0 : hK H1 (n1).toNat = 1 := kLe f17.1.1 hk rfl
  have kc1 : hK H2 (n1).toNat = 1 := kUp f21 kc0
  have kc2 : hK H3 (n1).toNat = 1 := kUp f24 kc1
  refine ⟨(CUo_tr (CUo_fr f17.1.1 f17.1.2.1 (by decide +kernel)) (CUo_tr (CUo_up f21) (CUo_up f24))), fun z => absurd z (by have w := f18; omega), fun _ => ⟨fun s h1 h2 => (uSlot f24 _ s (by have w := f23; omega)).trans ((uSlot f21 _ s (by have w := f20; omega)).trans (fr1 f17.1.2.1 (by decide +kernel) hk s)), ?_⟩⟩
  · intro hf
    have hzH2 := fzE s1.2.2 s2.2.2 a1 a2 (fun _ _ => rfl) hf
    have hzH1 := fzE c0.1 s1.2.2 a0 a1 (fun _ _ => rfl) hzH2.1
    have hzH0 := fzE pz c0.1 rfl a0 (fun n k => pnm_neg n k) hzH1.1
    have tv17 : n9 = tvl (vwC H0) (absC H0) := by
      have w := f17.2.2
      unfold nb_67 at w
      have w := w hzH1.1
      exact w
    exact ⟨((uSlot f24 _ 6 (by rw [f23]; decide)).trans (uSame f21 _ 6 (Int.toNat_of_nonneg cz) (by rw [f20]; rfl))).trans (by rw [(mkA_int (kdN h0 hzH0.2)).1]; exact f5), (uSame f24 _ 7 (Int.toNat_of_nonneg cz) (by rw [f23]; rfl)).trans (by rw [(mkA_int (kdN h0 hzH0.2)).2]; exact tv17)⟩
def g_81vw_s_1 : vG := ([(80, [1, 11, 9], [3, 2], 0), (0, [11], [], 7), (23, [1], [2], 1), (80, [1, 10, 3], [2, 1], 0), (0, [10], [], 6), (23, [1], [1], 1), (31, [2], [], 0), (1067, [9, 0, 7, 8], [0, 1], 0), (90, [9], [], -2147483648), (91, [9], [], 2147483647), (0, [8], [], 60), (0, [7], [], 0), (41, [5, 6], [], 0), (0, [6], [], 37), (20, [5, 0], [0], 2), (23, [0], [0], 4), (90, [5], [], -2147483648), (91, [5], [], 2147483647), (0, [4], [], 0), (0, [3], [], -1), (6000, [0, 1, 2], [0], 0), (0, [0], [], 30), (51, [1], [], 0), (90, [2], [], 0), (91, [2], [], 1)], (3000, [], [3], 123))
theorem c_81vw_s_1 : vOkm T0 (eN e_81v L_81vw A_81v mu_81v n_81 B_81 none) 3 g_81vw_s_1 := vOk_inI fun ρ η f0 f1 f2 f3 f4 f5 f6 f7 f8 f9 f10 f11 f12 f13 f14 f15 f16 f17 f18 f19 f20 f21 f22 f23 f24 => q_81vw_1 (n0 := ρ 2) (n1 := ρ 1) (n2 := ρ 0) (n3 := ρ 3) (n4 := ρ 4) (n5 := ρ 5) (n6 := ρ 6) (n7 := ρ 7) (n8 := ρ 8) (n9 := ρ 9) (n10 := ρ 10) (n11 := ρ 11) (H0 := η 0) (H1 := η 1) (H2 := η 2) (H3 := η 3) f24 f23 f22 f21 f20 f19 f18 f17 f16 f15 f14 f13 f12 f11 f10 f9 f8 f7 f6 f5 f4 f3 f2 f1 f0
theorem q_81vw_2 {n0 n1 n2 n3 n4 n5 n6 n7 n8 n9 n10 n11 n12 n13 n14 n15 n16 n17 n18 n19 n20 n21 n22 : Int} {H0 H1 H2 H3 H4 H5 H6 : gH} (f0 : n0 ≤ 1) (f1 : 0 ≤ n0) (f2 : 0 ≤ n1) (f3 : n2 = 30) (f4 : hWt T0 H0 ∧ preb_81v n2 n1 n0 H0) (f5 : n3 = (-1)) (f6 : n4 = 0) (f7 : n5 ≤ 2147483647) (f8 : (-2147483648) ≤ n5) (f9 : hK H0 (n2).toNat = 4) (f10 : n5 = hV H0 (n2).toNat 2) (f11 : n6 = 37) (f12 : n5 = n6) (f13 : n7 = 37) (f14 : (hLe T0 H0 H1 ∧ hFr s_66v.2.2.2.2 H0 H1 ∧ ((0 : Int) = 0 → H1.length = H0.length) ∧ hWt T0 H1) ∧ postb_66v n2 n7 H0 H1) (f15 : n8 = 0) (f16 : n9 = 7) (f17 : n10 ≤ 2147483647) (f18 : (-2147483648) ≤ n10) (f19 : (hLe T0 H1 H2 ∧ hFr s_67v.2.2.2.2 H1 H2 ∧ ((0 : Int) = 0 → H2.length = H1.length) ∧ hWt T0 H2) ∧ (postb_67v n10 n2 n8 n9 H1 H2 ∧ nb_67 n10 n2 n8 n9 H1 H2)) (f20 : n11 ≤ 2147483647) (f21 : (-2147483648) ≤ n11) (f22 : hK H2 (n2).toNat = 4) (f23 : n11 = hV H2 (n2).toNat 2) (f24 : n12 = 6) (f25 : n11 = n12) (f26 : n13 ≤ 2147483647) (f27 : (-2147483648) ≤ n13) (f28 : hK H2 (n2).toNat = 4) (f29 : n13 = hV H2 (n2).toNat 2) (f30 : n14 = 6) (f31 : n13 ≠ n14) (f32 : n15 = (-1)) (f33 : n16 ≤ 2147483647) (f34 : (-2147483648) ≤ n16) (f35 : hK H2 (n2).toNat = 4) (f36 : n16 = hV H2 (n2).toNat 2) (f37 : (hLe T0 H2 H3 ∧ hFr s_66v.2.2.2.2 H2 H3 ∧ ((0 : Int) = 0 → H3.length = H2.length) ∧ hWt T0 H3) ∧ postb_66v n2 n16 H2 H3) (f38 : n17 = 0) (f39 : n18 = 60) (f40 : n19 ≤ 2147483647) (f41 : (-2147483648) ≤ n19) (f42 : (hLe T0 H3 H4 ∧ hFr s_67v.2.2.2.2 H3 H4 ∧ ((0 : Int) = 0 → H4.length = H3.length) ∧ hWt T0 H4) ∧ (postb_67v n19 n2 n17 n18 H3 H4 ∧ nb_67 n19 n2 n17 n18 H3 H4)) (f43 : n20 = w32 (n15 * n19)) (f44 : n0 = 0) (f45 : hK H4 (n1).toNat = 1) (f46 : n21 = 4) (f47 : hUpd H5 H4 n1 n21 n10) (f48 : hK H5 (n1).toNat = 1) (f49 : n22 = 5) (f50 : hUpd H6 H5 n1 n22 n20) : nb_81 n2 n1 n0 H0 H6 := by
  exfalso
  clear f0 f1 f2 f3 f4 f5 f6 f7 f8 f9 f10 f11 f12 f13 f14 f15 f16 f17 f18 f19 f20 f21 f22 f26 f27 f28 f32 f33 f34 f35 f36 f37 f38 f39 f40 f41 f42 f43 f44 f45 f46 f47 f48 f49 f50
  omega
def g_81vw_s_2 : vG := ([(80, [1, 22, 20], [6, 5], 0), (0, [22], [], 5), (23, [1], [5], 1), (80, [1, 21, 10], [5, 4], 0), (0, [21], [], 4), (23, [1], [4], 1), (30, [2], [], 0), (3, [20, 15, 19], [], 0), (1067, [19, 0, 17, 18], [3, 4], 0), (90, [19], [], -2147483648), (91, [19], [], 2147483647), (0, [18], [], 60), (0, [17], [], 0), (1066, [0, 16], [2, 3], 0), (20, [16, 0], [2], 2), (23, [0], [2], 4), (90, [16], [], -2147483648), (91, [16], [], 2147483647), (0, [15], [], -1), (41, [13, 14], [], 0), (0, [14], [], 6), (20, [13, 0], [2], 2), (23, [0], [2], 4), (90, [13], [], -2147483648), (91, [13], [], 2147483647), (40, [11, 12], [], 0), (0, [12], [], 6), (20, [11, 0], [2], 2), (23, [0], [2], 4), (90, [11], [], -2147483648), (91, [11], [], 2147483647), (1067, [10, 0, 8, 9], [1, 2], 0), (90, [10], [], -2147483648), (91, [10], [], 2147483647), (0, [9], [], 7), (0, [8], [], 0), (1066, [0, 7], [0, 1], 0), (0, [7], [], 37), (40, [5, 6], [], 0), (0, [6], [], 37), (20, [5, 0], [0], 2), (23, [0], [0], 4), (90, [5], [], -2147483648), (91, [5], [], 2147483647), (0, [4], [], 0), (0, [3], [], -1), (6000, [0, 1, 2], [0], 0), (0, [0], [], 30), (51, [1], [], 0), (90, [2], [], 0), (91, [2], [], 1)], (3000, [], [6], 123))
theorem c_81vw_s_2 : vOkm T0 (eN e_81v L_81vw A_81v mu_81v n_81 B_81 none) 3 g_81vw_s_2 := vOk_inI fun ρ η f0 f1 f2 f3 f4 f5 f6 f7 f8 f9 f10 f11 f12 f13 f14 f15 f16 f17 f18 f19 f20 f21 f22 f23 f24 f25 f26 f27 f28 f29 f30 f31 f32 f33 f34 f35 f36 f37 f38 f39 f40 f41 f42 f43 f44 f45 f46 f47 f48 f49 f50 => q_81vw_2 (n0 := ρ 2) (n1 := ρ 1) (n2 := ρ 0) (n3 := ρ 3) (n4 := ρ 4) (n5 := ρ 5) (n6 := ρ 6) (n7 := ρ 7) (n8 := ρ 8) (n9 := ρ 9) (n10 := ρ 10) (n11 := ρ 11) (n12 := ρ 12) (n13 := ρ 13) (n14 := ρ 14) (n15 := ρ 15) (n16 := ρ 16) (n17 := ρ 17) (n18 := ρ 18) (n19 := ρ 19) (n20 := ρ 20) (n21 := ρ 21) (n22 := ρ 22) (H0 := η 0) (H1 := η 1) (H2 := η 2) (H3 := η 3) (H4 := η 4) (H5 := η 5) (H6 := η 6) f50 f49 f48 f47 f46 f45 f44 f43 f42 f41 f40 f39 f38 f37 f36 f35 f34 f33 f32 f31 f30 f29 f28 f27 f26 f25 f24 f23 f22 f21 f20 f19 f18 f17 f16 f15 f14 f13 f12 f11 f10 f9 f8 f7 f6 f5 f4 f3 f2 f1 f0
theorem q_81vw_3 {n0 n1 n2 n3 n4 n5 n6 n7 n8 n9 n10 n11 n12 n13 n14 n15 n16 n17 n18 n19 n20 n21 n22 : Int} {H0 H1 H2 H3 H4 H5 H6 : gH} (f0 : n0 ≤ 1) (f1 : 0 ≤ n0) (f2 : 0 ≤ n1) (f3 : n2 = 30) (f4 : hWt T0 H0 ∧ preb_81v n2 n1 n0 H0) (f5 : n3 = (-1)) (f6 : n4 = 0) (f7 : n5 ≤ 2147483647) (f8 : (-2147483648) ≤ n5) (f9 : hK H0 (n2).toNat = 4) (f10 : n5 = hV H0 (n2).toNat 2) (f11 : n6 = 37) (f12 : n5 = n6) (f13 : n7 = 37) (f14 : (hLe T0 H0 H1 ∧ hFr s_66v.2.2.2.2 H0 H1 ∧ ((0 : Int) = 0 → H1.length = H0.length) ∧ hWt T0 H1) ∧ postb_66v n2 n7 H0 H1) (f15 : n8 = 0) (f16 : n9 = 7) (f17 : n10 ≤ 2147483647) (f18 : (-2147483648) ≤ n10) (f19 : (hLe T0 H1 H2 ∧ hFr s_67v.2.2.2.2 H1 H2 ∧ ((0 : Int) = 0 → H2.length = H1.length) ∧ hWt T0 H2) ∧ (postb_67v n10 n2 n8 n9 H1 H2 ∧ nb_67 n10 n2 n8 n9 H1 H2)) (f20 : n11 ≤ 2147483647) (f21 : (-2147483648) ≤ n11) (f22 : hK H2 (n2).toNat = 4) (f23 : n11 = hV H2 (n2).toNat 2) (f24 : n12 = 6) (f25 : n11 = n12) (f26 : n13 ≤ 2147483647) (f27 : (-2147483648) ≤ n13) (f28 : hK H2 (n2).toNat = 4) (f29 : n13 = hV H2 (n2).toNat 2) (f30 : n14 = 6) (f31 : n13 ≠ n14) (f32 : n15 = (-1)) (f33 : n16 ≤ 2147483647) (f34 : (-2147483648) ≤ n16) (f35 : hK H2 (n2).toNat = 4) (f36 : n16 = hV H2 (n2).toNat 2) (f37 : (hLe T0 H2 H3 ∧ hFr s_66v.2.2.2.2 H2 H3 ∧ ((0 : Int) = 0 → H3.length = H2.length) ∧ hWt T0 H3) ∧ postb_66v n2 n16 H2 H3) (f38 : n17 = 0) (f39 : n18 = 60) (f40 : n19 ≤ 2147483647) (f41 : (-2147483648) ≤ n19) (f42 : (hLe T0 H3 H4 ∧ hFr s_67v.2.2.2.2 H3 H4 ∧ ((0 : Int) = 0 → H4.length = H3.length) ∧ hWt T0 H4) ∧ (postb_67v n19 n2 n17 n18 H3 H4 ∧ nb_67 n19 n2 n17 n18 H3 H4)) (f43 : n20 = w32 (n15 * n19)) (f44 : n0 ≠ 0) (f45 : hK H4 (n1).toNat = 1) (f46 : n21 = 6) (f47 : hUpd H5 H4 n1 n21 n10) (f48 : hK H5 (n1).toNat = 1) (f49 : n22 = 7) (f50 : hUpd H6 H5 n1 n22 n20) : nb_81 n2 n1 n0 H0 H6 := by
  exfalso
  clear f0 f1 f2 f3 f4 f5 f6 f7 f8 f9 f10 f11 f12 f13 f14 f15 f16 f17 f18 f19 f20 f21 f22 f26 f27 f28 f32 f33 f34 f35 f36 f37 f38 f39 f40 f41 f42 f43 f44 f45 f46 f47 f48 f49 f50
  omega
def g_81vw_s_3 : vG := ([(80, [1, 22, 20], [6, 5], 0), (0, [22], [], 7), (23, [1], [5], 1), (80, [1, 21, 10], [5, 4], 0), (0, [21], [], 6), (23, [1], [4], 1), (31, [2], [], 0), (3, [20, 15, 19], [], 0), (1067, [19, 0, 17, 18], [3, 4], 0), (90, [19], [], -2147483648), (91, [19], [], 2147483647), (0, [18], [], 60), (0, [17], [], 0), (1066, [0, 16], [2, 3], 0), (20, [16, 0], [2], 2), (23, [0], [2], 4), (90, [16], [], -2147483648), (91, [16], [], 2147483647), (0, [15], [], -1), (41, [13, 14], [], 0), (0, [14], [], 6), (20, [13, 0], [2], 2), (23, [0], [2], 4), (90, [13], [], -2147483648), (91, [13], [], 2147483647), (40, [11, 12], [], 0), (0, [12], [], 6), (20, [11, 0], [2], 2), (23, [0], [2], 4), (90, [11], [], -2147483648), (91, [11], [], 2147483647), (1067, [10, 0, 8, 9], [1, 2], 0), (90, [10], [], -2147483648), (91, [10], [], 2147483647), (0, [9], [], 7), (0, [8], [], 0), (1066, [0, 7], [0, 1], 0), (0, [7], [], 37), (40, [5, 6], [], 0), (0, [6], [], 37), (20, [5, 0], [0], 2), (23, [0], [0], 4), (90, [5], [], -2147483648), (91, [5], [], 2147483647), (0, [4], [], 0), (0, [3], [], -1), (6000, [0, 1, 2], [0], 0), (0, [0], [], 30), (51, [1], [], 0), (90, [2], [], 0), (91, [2], [], 1)], (3000, [], [6], 123))
theorem c_81vw_s_3 : vOkm T0 (eN e_81v L_81vw A_81v mu_81v n_81 B_81 none) 3 g_81vw_s_3 := vOk_inI fun ρ η f0 f1 f2 f3 f4 f5 f6 f7 f8 f9 f10 f11 f12 f13 f14 f15 f16 f17 f18 f19 f20 f21 f22 f23 f24 f25 f26 f27 f28 f29 f30 f31 f32 f33 f34 f35 f36 f37 f38 f39 f40 f41 f42 f43 f44 f45 f46 f47 f48 f49 f50 => q_81vw_3 (n0 := ρ 2) (n1 := ρ 1) (n2 := ρ 0) (n3 := ρ 3) (n4 := ρ 4) (n5 := ρ 5) (n6 := ρ 6) (n7 := ρ 7) (n8 := ρ 8) (n9 := ρ 9) (n10 := ρ 10) (n11 := ρ 11) (n12 := ρ 12) (n13 := ρ 13) (n14 := ρ 14) (n15 := ρ 15) (n16 := ρ 16) (n17 := ρ 17) (n18 := ρ 18) (n19 := ρ 19) (n20 := ρ 20) (n21 := ρ 21) (n22 := ρ 22) (H0 := η 0) (H1 := η 1) (H2 := η 2) (H3 := η 3) (H4 := η 4) (H5 := η 5) (H6 := η 6) f50 f49 f48 f47 f46 f45 f44 f43 f42 f41 f40 f39 f38 f37 f36 f35 f34 f33 f32 f31 f30 f29 f28 f27 f26 f25 f24 f23 f22 f21 f20 f19 f18 f17 f16 f15 f14 f13 f12 f11 f10 f9 f8 f7 f6 f5 f4 f3 f2 f1 f0
theorem q_81vw_4 {n0 n1 n2 n3 n4 n5 n6 n7 n8 n9 n10 n11 n12 n13 n14 n15 n16 n17 n18 n19 n20 n21 n22 : Int} {H0 H1 H2 H3 H4 H5 H6 : gH} (f0 : n0 ≤ 1) (f1 : 0 ≤ n0) (f2 : 0 ≤ n1) (f3 : n2 = 30) (f4 : hWt T0 H0 ∧ preb_81v n2 n1 n0 H0) (f5 : n3 = (-1)) (f6 : n4 = 0) (f7 : n5 ≤ 2147483647) (f8 : (-2147483648) ≤ n5) (f9 : hK H0 (n2).toNat = 4) (f10 : n5 = hV H0 (n2).toNat 2) (f11 : n6 = 37) (f12 : n5 = n6) (f13 : n7 = 37) (f14 : (hLe T0 H0 H1 ∧ hFr s_66v.2.2.2.2 H0 H1 ∧ ((0 : Int) = 0 → H1.length = H0.length) ∧ hWt T0 H1) ∧ postb_66v n2 n7 H0 H1) (f15 : n8 = 0) (f16 : n9 = 7) (f17 : n10 ≤ 2147483647) (f18 : (-2147483648) ≤ n10) (f19 : (hLe T0 H1 H2 ∧ hFr s_67v.2.2.2.2 H1 H2 ∧ ((0 : Int) = 0 → H2.length = H1.length) ∧ hWt T0 H2) ∧ (postb_67v n10 n2 n8 n9 H1 H2 ∧ nb_67 n10 n2 n8 n9 H1 H2)) (f20 : n11 ≤ 2147483647) (f21 : (-2147483648) ≤ n11) (f22 : hK H2 (n2).toNat = 4) (f23 : n11 = hV H2 (n2).toNat 2) (f24 : n12 = 6) (f25 : n11 = n12) (f26 : n13 ≤ 2147483647) (f27 : (-2147483648) ≤ n13) (f28 : hK H2 (n2).toNat = 4) (f29 : n13 = hV H2 (n2).toNat 2) (f30 : n14 = 6) (f31 : n13 = n14) (f32 : n15 = 1) (f33 : n16 ≤ 2147483647) (f34 : (-2147483648) ≤ n16) (f35 : hK H2 (n2).toNat = 4) (f36 : n16 = hV H2 (n2).toNat 2) (f37 : (hLe T0 H2 H3 ∧ hFr s_66v.2.2.2.2 H2 H3 ∧ ((0 : Int) = 0 → H3.length = H2.length) ∧ hWt T0 H3) ∧ postb_66v n2 n16 H2 H3) (f38 : n17 = 0) (f39 : n18 = 60) (f40 : n19 ≤ 2147483647) (f41 : (-2147483648) ≤ n19) (f42 : (hLe T0 H3 H4 ∧ hFr s_67v.2.2.2.2 H3 H4 ∧ ((0 : Int) = 0 → H4.length = H3.length) ∧ hWt T0 H4) ∧ (postb_67v n19 n2 n17 n18 H3 H4 ∧ nb_67 n19 n2 n17 n18 H3 H4)) (f43 : n20 = w32 (n15 * n19)) (f44 : n0 = 0) (f45 : hK H4 (n1).toNat = 1) (f46 : n21 = 4) (f47 : hUpd H5 H4 n1 n21 n10) (f48 : hK H5 (n1).toNat = 1) (f49 : n22 = 5) (f50 : hUpd H6 H5 n1 n22 n20) : nb_81 n2 n1 n0 H0 H6 := by
  unfold nb_81
  intro hk cz
  have pz := f4.2
  unfold preb_81v at pz
  have c0 := f14.2
  unfold postb_66v at c0
  try rw [f13] at c0
  have a0 : absC H1 = (ptk (vwC H0) 37 (absC H0)) := c0.2
  have v0 : vwC H1 = vwC H0 := (vwC_fr f14.1.2.1 (by decide +kernel))
  have c1 := f19.2.1
  unfold postb_67v at c1
  try rw [f15] at c1
  try rw [f16] at c1
  rw [v0] at c1
  rw [a0] at c1
  have a1 : absC H2 = (pnm (vwC H0) 0 7 (ptk (vwC H0) 37 (absC H0))) := c1.2
  have v1 : vwC H2 = vwC H0 := (vwC_fr f19.1.2.1 (by decide +kernel)).trans v0
  have x2_16 := f36
  rw [f3] at x2_16
  rw [show ((30 : Int)).toNat = 30 from rfl] at x2_16
  have u2_16 := f23
  rw [f3] at u2_16
  rw [show ((30 : Int)).toNat = 30 from rfl] at u2_16
  have kx2_16 : n16 = 6 := by omega
  have c2 := f37.2
  unfold postb_66v at c2
  rw [kx2_16] at c2
  rw [v1] at c2
  rw [a1] at c2
  have a2 : absC H3 = (ptk (vwC H0) 6 (pnm (vwC H0) 0 7 (ptk (vwC H0) 37 (absC H0)))) := c2.2
  have v2 : vwC H3 = vwC H0 := (vwC_fr f37.1.2.1 (by decide +kernel)).trans v1
  have c3 := f42.2.1
  unfold postb_67v at c3
  try rw [f38] at c3
  try rw [f39] at c3
  rw [v2] at c3
  rw [a2] at c3
  have a3 : absC H4 = (pnm (vwC H0) 0 60 (ptk (vwC H0) 6 (pnm (vwC H0) 0 7 (ptk (vwC H0) 37 (absC H0))))) := c3.2
  have v3 : vwC H4 = vwC H0 := (vwC_fr f42.1.2.1 (by decide +kernel)).trans v2
  have s4 := PF_up f47 c3.1 f45
  have a4 : absC H5 = (pnm (vwC H0) 0 60 (ptk (vwC H0) 6 (pnm (vwC H0) 0 7 (ptk (vwC H0) 37 (absC H0))))) := s4.1.trans a3
  have v4 : vwC H5 = vwC H0 := s4.2.1.trans v3
  have s5 := PF_up f50 s4.2.2 f48
  have a5 : absC H6 = (pnm (vwC H0) 0 60 (ptk (vwC H0) 6 (pnm (vwC H0) 0 7 (ptk (vwC H0) 37 (absC H0))))) := s5.1.trans a4
  have v5 : vwC H6 = vwC H0 := s5.2.1.trans v4
  have b0 := kd_at pz
  have g0 := f10
  rw [f3] at g0
  rw [show ((30 : Int)).toNat = 30 from rfl] at g0
  have h0 : (absC H0).1 < 0 ∨ (vwC H0).1 (absC H0).1 = 37 := by
    rcases b0 with q | q
    · exact .inl q
    · right
      rw [q]
      omega
  have b1 := kd_at c1.1
  rw [v1] at b1
  rw [a1] at b1
  have g1 := f23
  rw [f3] at g1
  rw [show ((30 : Int)).toNat = 30 from rfl] at g1
  have h1 : (pnm (vwC H0) 0 7 (ptk (vwC H0) 37 (absC H0))).1 < 0 ∨ (vwC H0).1 (pnm (vwC H0) 0 7 (ptk (vwC H0) 37 (absC H0))).1 = 6 := by
    rcases b1 with q | q
    · exact .inl q
    · right
      rw [q]
      omega
  have b2 := kd_at c1.1
  rw [v1] at b2
  rw [a1] at b2
  have g2 := f29
  rw [f3] at g2
  rw [show ((30 : Int)).toNat = 30 from rfl] at g2
  have h2 : (pnm (vwC H0) 0 7 (ptk (vwC H0) 37 (absC H0))).1 < 0 ∨ (vwC H0).1 (pnm (vwC H0) 0 7 (ptk (vwC H0) 37 (absC H0))).1 = 6 := by
    rcases b2 with q | q
    · exact .inl q
    · right
      rw [q]
      omega
  have kc0 : hK H1 (n1).toNat = 1 := kLe f14.1.1 hk rfl
  have kc1 : hK H2 (n1).toNat = 1 := kLe f19.1.1 kc0 rfl
  have kc2 : hK H3 (n1).toNat = 1 := kLe f37.1.1 kc1 rfl
  have kc3 : hK H4 (n1).toNat = 1 := kLe f42.1.1 kc2 rfl
  have kc4 : hK H5 (n1).toNat = 1 := kUp f47 kc3
  have kc5 : hK H6 (n1).toNat = 1 := kUp f50 kc4
  refine ⟨(CUo_tr (CUo_fr f14.1.1 f14.1.2.1 (by decide +kernel)) (CUo_tr (CUo_fr f19.1.1 f19.1.2.1 (by decide +kernel)) (CUo_tr (CUo_fr f37.1.1 f37.1.2.1 (by decide +kernel)) (CUo_tr (CUo_fr f42.1.1 f42.1.2.1 (by decide +kernel)) (CUo_tr (CUo_up f47) (CUo_up f50)))))), fun _ => ⟨fun s h1 h2 => (uSlot f50 _ s (by have w := f49; omega)).trans ((uSlot f47 _ s (by have w := f46; omega)).trans ((fr1 f42.1.2.1 (by decide +kernel) kc2 s).trans ((fr1 f37.1.2.1 (by decide +kernel) kc1 s).trans ((fr1 f19.1.2.1 (by decide +kernel) kc0 s).trans (fr1 f14.1.2.1 (by decide +kernel) hk s))))), ?_⟩, fun z => absurd z (by have w := f44; omega)⟩
  · intro hf
    have hzH5 := fzE s4.2.2 s5.2.2 a4 a5 (fun _ _ => rfl) hf
    have hzH4 := fzE c3.1 s4.2.2 a3 a4 (fun _ _ => rfl) hzH5.1
    have hzH3 := fzE c2.1 c3.1 a2 a3 (fun n k => pnm_neg n k) hzH4.1
    have hzH2 := fzE c1.1 c2.1 a1 a2 (fun n k => ptk_neg n k) hzH3.1
    have hzH1 := fzE c0.1 c1.1 a0 a1 (fun n k => pnm_neg n k) hzH2.1
    have hzH0 := fzE pz c0.1 rfl a0 (fun n k => ptk_neg n k) hzH1.1
    have tv19 : n10 = tvl (vwC H0) (ptk (vwC H0) 37 (absC H0)) := by
      have w := f19.2.2
      unfold nb_67 at w
      have w := w hzH2.1
      rw [v0, a0] at w
      exact w
    have tv42 : n19 = tvl (vwC H0) (ptk (vwC H0) 6 (pnm (vwC H0) 0 7 (ptk (vwC H0) 37 (absC H0)))) := by
      have w := f42.2.2
      unfold nb_67 at w
      have w := w hzH4.1
      rw [v2, a2] at w
      exact w
    have k37 := kdE h0 hzH0.2
    have m37 := mkA_mark k37
    have k6 := kdE h1 (hzH2.2)
    have fr := frA_plus k37 k6
    refine ⟨((uSlot f50 _ 4 (by rw [f49]; decide)).trans (uSame f47 _ 4 (Int.toNat_of_nonneg cz) (by rw [f46]; rfl))).trans (by rw [m37]; exact tv19), (uSame f50 _ 5 (Int.toNat_of_nonneg cz) (by rw [f49]; rfl)).trans ?_⟩
    rw [fr]
    have wv := f43
    rw [f32] at wv
    have bd := tvl_bd (h := H0) pz.2.1 (p := (ptk (vwC H0) 6 (pnm (vwC H0) 0 7 (ptk (vwC H0) 37 (absC H0)))))
    rw [← tv42] at bd ⊢
    rw [w32_id (by omega) (by omega)] at wv
    omega
def g_81vw_s_4 : vG := ([(80, [1, 22, 20], [6, 5], 0), (0, [22], [], 5), (23, [1], [5], 1), (80, [1, 21, 10], [5, 4], 0), (0, [21], [], 4), (23, [1], [4], 1), (30, [2], [], 0), (3, [20, 15, 19], [], 0), (1067, [19, 0, 17, 18], [3, 4], 0), (90, [19], [], -2147483648), (91, [19], [], 2147483647), (0, [18], [], 60), (0, [17], [], 0), (1066, [0, 16], [2, 3], 0), (20, [16, 0], [2], 2), (23, [0], [2], 4), (90, [16], [], -2147483648), (91, [16], [], 2147483647), (0, [15], [], 1), (40, [13, 14], [], 0), (0, [14], [], 6), (20, [13, 0], [2], 2), (23, [0], [2], 4), (90, [13], [], -2147483648), (91, [13], [], 2147483647), (40, [11, 12], [], 0), (0, [12], [], 6), (20, [11, 0], [2], 2), (23, [0], [2], 4), (90, [11], [], -2147483648), (91, [11], [], 2147483647), (1067, [10, 0, 8, 9], [1, 2], 0), (90, [10], [], -2147483648), (91, [10], [], 2147483647), (0, [9], [], 7), (0, [8], [], 0), (1066, [0, 7], [0, 1], 0), (0, [7], [], 37), (40, [5, 6], [], 0), (0, [6], [], 37), (20, [5, 0], [0], 2), (23, [0], [0], 4), (90, [5], [], -2147483648), (91, [5], [], 2147483647), (0, [4], [], 0), (0, [3], [], -1), (6000, [0, 1, 2], [0], 0), (0, [0], [], 30), (51, [1], [], 0), (90, [2], [], 0), (91, [2], [], 1)], (3000, [], [6], 123))
theorem c_81vw_s_4 : vOkm T0 (eN e_81v L_81vw A_81v mu_81v n_81 B_81 none) 3 g_81vw_s_4 := vOk_inI fun ρ η f0 f1 f2 f3 f4 f5 f6 f7 f8 f9 f10 f11 f12 f13 f14 f15 f16 f17 f18 f19 f20 f21 f22 f23 f24 f25 f26 f27 f28 f29 f30 f31 f32 f33 f34 f35 f36 f37 f38 f39 f40 f41 f42 f43 f44 f45 f46 f47 f48 f49 f50 => q_81vw_4 (n0 := ρ 2) (n1 := ρ 1) (n2 := ρ 0) (n3 := ρ 3) (n4 := ρ 4) (n5 := ρ 5) (n6 := ρ 6) (n7 := ρ 7) (n8 := ρ 8) (n9 := ρ 9) (n10 := ρ 10) (n11 := ρ 11) (n12 := ρ 12) (n13 := ρ 13) (n14 := ρ 14) (n15 := ρ 15) (n16 := ρ 16) (n17 := ρ 17) (n18 := ρ 18) (n19 := ρ 19) (n20 := ρ 20) (n21 := ρ 21) (n22 := ρ 22) (H0 := η 0) (H1 := η 1) (H2 := η 2) (H3 := η 3) (H4 := η 4) (H5 := η 5) (H6 := η 6) f50 f49 f48 f47 f46 f45 f44 f43 f42 f41 f40 f39 f38 f37 f36 f35 f34 f33 f32 f31 f30 f29 f28 f27 f26 f25 f24 f23 f22 f21 f20 f19 f18 f17 f16 f15 f14 f13 f12 f11 f10 f9 f8 f7 f6 f5 f4 f3 f2 f1 f0
theorem q_81vw_5 {n0 n1 n2 n3 n4 n5 n6 n7 n8 n9 n10 n11 n12 n13 n14 n15 n16 n17 n18 n19 n20 n21 n22 : Int} {H0 H1 H2 H3 H4 H5 H6 : gH} (f0 : n0 ≤ 1) (f1 : 0 ≤ n0) (f2 : 0 ≤ n1) (f3 : n2 = 30) (f4 : hWt T0 H0 ∧ preb_81v n2 n1 n0 H0) (f5 : n3 = (-1)) (f6 : n4 = 0) (f7 : n5 ≤ 2147483647) (f8 : (-2147483648) ≤ n5) (f9 : hK H0 (n2).toNat = 4) (f10 : n5 = hV H0 (n2).toNat 2) (f11 : n6 = 37) (f12 : n5 = n6) (f13 : n7 = 37) (f14 : (hLe T0 H0 H1 ∧ hFr s_66v.2.2.2.2 H0 H1 ∧ ((0 : Int) = 0 → H1.length = H0.length) ∧ hWt T0 H1) ∧ postb_66v n2 n7 H0 H1) (f15 : n8 = 0) (f16 : n9 = 7) (f17 : n10 ≤ 2147483647) (f18 : (-2147483648) ≤ n10) (f19 : (hLe T0 H1 H2 ∧ hFr s_67v.2.2.2.2 H1 H2 ∧ ((0 : Int) = 0 → H2.length = H1.length) ∧ hWt T0 H2) ∧ (postb_67v n10 n2 n8 n9 H1 H2 ∧ nb_67 n10 n2 n8 n9 H1 H2)) (f20 : n11 ≤ 2147483647) (f21 : (-2147483648) ≤ n11) (f22 : hK H2 (n2).toNat = 4) (f23 : n11 = hV H2 (n2).toNat 2) (f24 : n12 = 6) (f25 : n11 = n12) (f26 : n13 ≤ 2147483647) (f27 : (-2147483648) ≤ n13) (f28 : hK H2 (n2).toNat = 4) (f29 : n13 = hV H2 (n2).toNat 2) (f30 : n14 = 6) (f31 : n13 = n14) (f32 : n15 = 1) (f33 : n16 ≤ 2147483647) (f34 : (-2147483648) ≤ n16) (f35 : hK H2 (n2).toNat = 4) (f36 : n16 = hV H2 (n2).toNat 2) (f37 : (hLe T0 H2 H3 ∧ hFr s_66v.2.2.2.2 H2 H3 ∧ ((0 : Int) = 0 → H3.length = H2.length) ∧ hWt T0 H3) ∧ postb_66v n2 n16 H2 H3) (f38 : n17 = 0) (f39 : n18 = 60) (f40 : n19 ≤ 2147483647) (f41 : (-2147483648) ≤ n19) (f42 : (hLe T0 H3 H4 ∧ hFr s_67v.2.2.2.2 H3 H4 ∧ ((0 : Int) = 0 → H4.length = H3.length) ∧ hWt T0 H4) ∧ (postb_67v n19 n2 n17 n18 H3 H4 ∧ nb_67 n19 n2 n17 n18 H3 H4)) (f43 : n20 = w32 (n15 * n19)) (f44 : n0 ≠ 0) (f45 : hK H4 (n1).toNat = 1) (f46 : n21 = 6) (f47 : hUpd H5 H4 n1 n21 n10) (f48 : hK H5 (n1).toNat = 1) (f49 : n22 = 7) (f50 : hUpd H6 H5 n1 n22 n20) : nb_81 n2 n1 n0 H0 H6 := by
  unfold nb_81
  intro hk cz
  have pz := f4.2
  unfold preb_81v at pz
  have c0 := f14.2
  unfold postb_66v at c0
  try rw [f13] at c0
  have a0 : absC H1 = (ptk (vwC H0) 37 (absC H0)) := c0.2
  have v0 : vwC H1 = vwC H0 := (vwC_fr f14.1.2.1 (by decide +kernel))
  have c1 := f19.2.1
  unfold postb_67v at c1
  try rw [f15] at c1
  try rw [f16] at c1
  rw [v0] at c1
  rw [a0] at c1
  have a1 : absC H2 = (pnm (vwC H0) 0 7 (ptk (vwC H0) 37 (absC H0))) := c1.2
  have v1 : vwC H2 = vwC H0 := (vwC_fr f19.1.2.1 (by decide +kernel)).trans v0
  have x2_16 := f36
  rw [f3] at x2_16
  rw [show ((30 : Int)).toNat = 30 from rfl] at x2_16
  have u2_16 := f23
  rw [f3] at u2_16
  rw [show ((30 : Int)).toNat = 30 from rfl] at u2_16
  have kx2_16 : n16 = 6 := by omega
  have c2 := f37.2
  unfold postb_66v at c2
  rw [kx2_16] at c2
  rw [v1] at c2
  rw [a1] at c2
  have a2 : absC H3 = (ptk (vwC H0) 6 (pnm (vwC H0) 0 7 (ptk (vwC H0) 37 (absC H0)))) := c2.2
  have v2 : vwC H3 = vwC H0 := (vwC_fr f37.1.2.1 (by decide +kernel)).trans v1
  have c3 := f42.2.1
  unfold postb_67v at c3
  try rw [f38] at c3
  try rw [f39] at c3
  rw [v2] at c3
  rw [a2] at c3
  have a3 : absC H4 = (pnm (vwC H0) 0 60 (ptk (vwC H0) 6 (pnm (vwC H0) 0 7 (ptk (vwC H0) 37 (absC H0))))) := c3.2
  have v3 : vwC H4 = vwC H0 := (vwC_fr f42.1.2.1 (by decide +kernel)).trans v2
  have s4 := PF_up f47 c3.1 f45
  have a4 : absC H5 = (pnm (vwC H0) 0 60 (ptk (vwC H0) 6 (pnm (vwC H0) 0 7 (ptk (vwC H0) 37 (absC H0))))) := s4.1.trans a3
  have v4 : vwC H5 = vwC H0 := s4.2.1.trans v3
  have s5 := PF_up f50 s4.2.2 f48
  have a5 : absC H6 = (pnm (vwC H0) 0 60 (ptk (vwC H0) 6 (pnm (vwC H0) 0 7 (ptk (vwC H0) 37 (absC H0))))) := s5.1.trans a4
  have v5 : vwC H6 = vwC H0 := s5.2.1.trans v4
  have b0 := kd_at pz
  have g0 := f10
  rw [f3] at g0
  rw [show ((30 : Int)).toNat = 30 from rfl] at g0
  have h0 : (absC H0).1 < 0 ∨ (vwC H0).1 (absC H0).1 = 37 := by
    rcases b0 with q | q
    · exact .inl q
    · right
      rw [q]
      omega
  have b1 := kd_at c1.1
  rw [v1] at b1
  rw [a1] at b1
  have g1 := f23
  rw [f3] at g1
  rw [show ((30 : Int)).toNat = 30 from rfl] at g1
  have h1 : (pnm (vwC H0) 0 7 (ptk (vwC H0) 37 (absC H0))).1 < 0 ∨ (vwC H0).1 (pnm (vwC H0) 0 7 (ptk (vwC H0) 37 (absC H0))).1 = 6 := by
    rcases b1 with q | q
    · exact .inl q
    · right
      rw [q]
      omega
  have b2 := kd_at c1.1
  rw [v1] at b2
  rw [a1] at b2
  have g2 := f29
  rw [f3] at g2
  rw [show ((30 : Int)).toNat = 30 from rfl] at g2
  have h2 : (pnm (vwC H0) 0 7 (ptk (vwC H0) 37 (absC H0))).1 < 0 ∨ (vwC H0).1 (pnm (vwC H0) 0 7 (ptk (vwC H0) 37 (absC H0))).1 = 6 := by
    rcases b2 with q | q
    · exact .inl q
    · right
      rw [q]
      omega
  have kc0 : hK H1 (n1).toNat = 1 := kLe f14.1.1 hk rfl
  have kc1 : hK H2 (n1).toNat = 1 := kLe f19.1.1 kc0 rfl
  have kc2 : hK H3 (n1).toNat = 1 := kLe f37.1.1 kc1 rfl
  have kc3 : hK H4 (n1).toNat = 1 := kLe f42.1.1 kc2 rfl
  have kc4 : hK H5 (n1).toNat = 1 := kUp f47 kc3
  have kc5 : hK H6 (n1).toNat = 1 := kUp f50 kc4
  refine ⟨(CUo_tr (CUo_fr f14.1.1 f14.1.2.1 (by decide +kernel)) (CUo_tr (CUo_fr f19.1.1 f19.1.2.1 (by decide +kernel)) (CUo_tr (CUo_fr f37.1.1 f37.1.2.1 (by decide +kernel)) (CUo_tr (CUo_fr f42.1.1 f42.1.2.1 (by decide +kernel)) (CUo_tr (CUo_up f47) (CUo_up f50)))))), fun z => absurd z (by have w := f44; omega), fun _ => ⟨fun s h1 h2 => (uSlot f50 _ s (by have w := f49; omega)).trans ((uSlot f47 _ s (by have w := f46; omega)).trans ((fr1 f42.1.2.1 (by decide +kernel) kc2 s).trans ((fr1 f37.1.2.1 (by decide +kernel) kc1 s).trans ((fr1 f19.1.2.1 (by decide +kernel) kc0 s).trans (fr1 f14.1.2.1 (by decide +kernel) hk s))))), ?_⟩⟩
  · intro hf
    have hzH5 := fzE s4.2.2 s5.2.2 a4 a5 (fun _ _ => rfl) hf
    have hzH4 := fzE c3.1 s4.2.2 a3 a4 (fun _ _ => rfl) hzH5.1
    have hzH3 := fzE c2.1 c3.1 a2 a3 (fun n k => pnm_neg n k) hzH4.1
    have hzH2 := fzE c1.1 c2.1 a1 a2 (fun n k => ptk_neg n k) hzH3.1
    have hzH1 := fzE c0.1 c1.1 a0 a1 (fun n k => pnm_neg n k) hzH2.1
    have hzH0 := fzE pz c0.1 rfl a0 (fun n k => ptk_neg n k) hzH1.1
    have tv19 : n10 = tvl (vwC H0) (ptk (vwC H0) 37 (absC H0)) := by
      have w := f19.2.2
      unfold nb_67 at w
      have w := w hzH2.1
      rw [v0, a0] at w
      exact w
    have tv42 : n19 = tvl (vwC H0) (ptk (vwC H0) 6 (pnm (vwC H0) 0 7 (ptk (vwC H0) 37 (absC H0)))) := by
      have w := f42.2.2
      unfold nb_67 at w
      have w := w hzH4.1
      rw [v2, a2] at w
      exact w
    have k37 := kdE h0 hzH0.2
    have m37 := mkA_mark k37
    have k6 := kdE h1 (hzH2.2)
    have fr := frA_plus k37 k6
    refine ⟨((uSlot f50 _ 6 (by rw [f49]; decide)).trans (uSame f47 _ 6 (Int.toNat_of_nonneg cz) (by rw [f46]; rfl))).trans (by rw [m37]; exact tv19), (uSame f50 _ 7 (Int.toNat_of_nonneg cz) (by rw [f49]; rfl)).trans ?_⟩
    rw [fr]
    have wv := f43
    rw [f32] at wv
    have bd := tvl_bd (h := H0) pz.2.1 (p := (ptk (vwC H0) 6 (pnm (vwC H0) 0 7 (ptk (vwC H0) 37 (absC H0)))))
    rw [← tv42] at bd ⊢
    rw [w32_id (by omega) (by omega)] at wv
    omega
def g_81vw_s_5 : vG := ([(80, [1, 22, 20], [6, 5], 0), (0, [22], [], 7), (23, [1], [5], 1), (80, [1, 21, 10], [5, 4], 0), (0, [21], [], 6), (23, [1], [4], 1), (31, [2], [], 0), (3, [20, 15, 19], [], 0), (1067, [19, 0, 17, 18], [3, 4], 0), (90, [19], [], -2147483648), (91, [19], [], 2147483647), (0, [18], [], 60), (0, [17], [], 0), (1066, [0, 16], [2, 3], 0), (20, [16, 0], [2], 2), (23, [0], [2], 4), (90, [16], [], -2147483648), (91, [16], [], 2147483647), (0, [15], [], 1), (40, [13, 14], [], 0), (0, [14], [], 6), (20, [13, 0], [2], 2), (23, [0], [2], 4), (90, [13], [], -2147483648), (91, [13], [], 2147483647), (40, [11, 12], [], 0), (0, [12], [], 6), (20, [11, 0], [2], 2), (23, [0], [2], 4), (90, [11], [], -2147483648), (91, [11], [], 2147483647), (1067, [10, 0, 8, 9], [1, 2], 0), (90, [10], [], -2147483648), (91, [10], [], 2147483647), (0, [9], [], 7), (0, [8], [], 0), (1066, [0, 7], [0, 1], 0), (0, [7], [], 37), (40, [5, 6], [], 0), (0, [6], [], 37), (20, [5, 0], [0], 2), (23, [0], [0], 4), (90, [5], [], -2147483648), (91, [5], [], 2147483647), (0, [4], [], 0), (0, [3], [], -1), (6000, [0, 1, 2], [0], 0), (0, [0], [], 30), (51, [1], [], 0), (90, [2], [], 0), (91, [2], [], 1)], (3000, [], [6], 123))
theorem c_81vw_s_5 : vOkm T0 (eN e_81v L_81vw A_81v mu_81v n_81 B_81 none) 3 g_81vw_s_5 := vOk_inI fun ρ η f0 f1 f2 f3 f4 f5 f6 f7 f8 f9 f10 f11 f12 f13 f14 f15 f16 f17 f18 f19 f20 f21 f22 f23 f24 f25 f26 f27 f28 f29 f30 f31 f32 f33 f34 f35 f36 f37 f38 f39 f40 f41 f42 f43 f44 f45 f46 f47 f48 f49 f50 => q_81vw_5 (n0 := ρ 2) (n1 := ρ 1) (n2 := ρ 0) (n3 := ρ 3) (n4 := ρ 4) (n5 := ρ 5) (n6 := ρ 6) (n7 := ρ 7) (n8 := ρ 8) (n9 := ρ 9) (n10 := ρ 10) (n11 := ρ 11) (n12 := ρ 12) (n13 := ρ 13) (n14 := ρ 14) (n15 := ρ 15) (n16 := ρ 16) (n17 := ρ 17) (n18 := ρ 18) (n19 := ρ 19) (n20 := ρ 20) (n21 := ρ 21) (n22 := ρ 22) (H0 := η 0) (H1 := η 1) (H2 := η 2) (H3 := η 3) (H4 := η 4) (H5 := η 5) (H6 := η 6) f50 f49 f48 f47 f46 f45 f44 f43 f42 f41 f40 f39 f38 f37 f36 f35 f34 f33 f32 f31 f30 f29 f28 f27 f26 f25 f24 f23 f22 f21 f20 f19 f18 f17 f16 f15 f14 f13 f12 f11 f10 f9 f8 f7 f6 f5 f4 f3 f2 f1 f0
theorem q_81vw_6 {n0 n1 n2 n3 n4 n5 n6 n7 n8 n9 n10 n11 n12 n13 n14 n15 n16 : Int} {H0 H1 H2 H3 H4 : gH} (f0 : n0 ≤ 1) (f1 : 0 ≤ n0) (f2 : 0 ≤ n1) (f3 : n2 = 30) (f4 : hWt T0 H0 ∧ preb_81v n2 n1 n0 H0) (f5 : n3 = (-1)) (f6 : n4 = 0) (f7 : n5 ≤ 2147483647) (f8 : (-2147483648) ≤ n5) (f9 : hK H0 (n2).toNat = 4) (f10 : n5 = hV H0 (n2).toNat 2) (f11 : n6 = 37) (f12 : n5 = n6) (f13 : n7 = 37) (f14 : (hLe T0 H0 H1 ∧ hFr s_66v.2.2.2.2 H0 H1 ∧ ((0 : Int) = 0 → H1.length = H0.length) ∧ hWt T0 H1) ∧ postb_66v n2 n7 H0 H1) (f15 : n8 = 0) (f16 : n9 = 7) (f17 : n10 ≤ 2147483647) (f18 : (-2147483648) ≤ n10) (f19 : (hLe T0 H1 H2 ∧ hFr s_67v.2.2.2.2 H1 H2 ∧ ((0 : Int) = 0 → H2.length = H1.length) ∧ hWt T0 H2) ∧ (postb_67v n10 n2 n8 n9 H1 H2 ∧ nb_67 n10 n2 n8 n9 H1 H2)) (f20 : n11 ≤ 2147483647) (f21 : (-2147483648) ≤ n11) (f22 : hK H2 (n2).toNat = 4) (f23 : n11 = hV H2 (n2).toNat 2) (f24 : n12 = 6) (f25 : n11 ≠ n12) (f26 : n13 ≤ 2147483647) (f27 : (-2147483648) ≤ n13) (f28 : hK H2 (n2).toNat = 4) (f29 : n13 = hV H2 (n2).toNat 2) (f30 : n14 = 7) (f31 : n13 ≠ n14) (f32 : n0 = 0) (f33 : hK H2 (n1).toNat = 1) (f34 : n15 = 4) (f35 : hUpd H3 H2 n1 n15 n10) (f36 : hK H3 (n1).toNat = 1) (f37 : n16 = 5) (f38 : hUpd H4 H3 n1 n16 n4) : nb_81 n2 n1 n0 H0 H4 := by
  unfold nb_81
  intro hk cz
  have pz := f4.2
  unfold preb_81v at pz
  have c0 := f14.2
  unfold postb_66v at c0
  try rw [f13] at c0
  have a0 : absC H1 = (ptk (vwC H0) 37 (absC H0)) := c0.2
  have v0 : vwC H1 = vwC H0 := (vwC_fr f14.1.2.1 (by decide +kernel))
  have c1 := f19.2.1
  unfold postb_67v at c1
  try rw [f15] at c1
  try rw [f16] at c1
  rw [v0] at c1
  rw [a0] at c1
  have a1 : absC H2 = (pnm (vwC H0) 0 7 (ptk (vwC H0) 37 (absC H0))) := c1.2
  have v1 : vwC H2 = vwC H0 := (vwC_fr f19.1.2.1 (by decide +kernel)).trans v0
  have s2 := PF_up f35 c1.1 f33
  have a2 : absC H3 = (pnm (vwC H0) 0 7 (ptk (vwC H0) 37 (absC H0))) := s2.1.trans a1
  have v2 : vwC H3 = vwC H0 := s2.2.1.trans v1
  have s3 := PF_up f38 s2.2.2 f36
  have a3 : absC H4 = (pnm (vwC H0) 0 7 (ptk (vwC H0) 37 (absC H0))) := s3.1.trans a2
  have v3 : vwC H4 = vwC H0 := s3.2.1.trans v2
  have b0 := kd_at pz
  have g0 := f10
  rw [f3] at g0
  rw [show ((30 : Int)).toNat = 30 from rfl] at g0
  have h0 : (absC H0).1 < 0 ∨ (vwC H0).1 (absC H0).1 = 37 := by
    rcases b0 with q | q
    · exact .inl q
    · right
      rw [q]
      omega
  have b1 := kd_at c1.1
  rw [v1] at b1
  rw [a1] at b1
  have g1 := f23
  rw [f3] at g1
  rw [show ((30 : Int)).toNat = 30 from rfl] at g1
  have h1 : (pnm (vwC H0) 0 7 (ptk (vwC H0) 37 (absC H0))).1 < 0 ∨ ¬ (vwC H0).1 (pnm (vwC H0) 0 7 (ptk (vwC H0) 37 (absC H0))).1 = 6 := by
    rcases b1 with q | q
    · exact .inl q
    · right
      rw [q]
      omega
  have b2 := kd_at c1.1
  rw [v1] at b2
  rw [a1] at b2
  have g2 := f29
  rw [f3] at g2
  rw [show ((30 : Int)).toNat = 30 from rfl] at g2
  have h2 : (pnm (vwC H0) 0 7 (ptk (vwC H0) 37 (absC H0))).1 < 0 ∨ ¬ (vwC H0).1 (pnm (vwC H0) 0 7 (ptk (vwC H0) 37 (absC H0))).1 = 7 := by
    rcases b2 with q | q
    · exact .inl q
    · right
      rw [q]
      omega
  have kc0 : hK H1 (n1).toNat = 1 := kLe f14.1.1 hk rfl
  have kc1 : hK H2 (n1).toNat = 1 := kLe f19.1.1 kc0 rfl
  have kc2 : hK H3 (n1).toNat = 1 := kUp f35 kc1
  have kc3 : hK H4 (n1).toNat = 1 := kUp f38 kc2
  refine ⟨(CUo_tr (CUo_fr f14.1.1 f14.1.2.1 (by decide +kernel)) (CUo_tr (CUo_fr f19.1.1 f19.1.2.1 (by decide +kernel)) (CUo_tr (CUo_up f35) (CUo_up f38)))), fun _ => ⟨fun s h1 h2 => (uSlot f38 _ s (by have w := f37; omega)).trans ((uSlot f35 _ s (by have w := f34; omega)).trans ((fr1 f19.1.2.1 (by decide +kernel) kc0 s).trans (fr1 f14.1.2.1 (by decide +kernel) hk s))), ?_⟩, fun z => absurd z (by have w := f32; omega)⟩
  · intro hf
    have hzH3 := fzE s2.2.2 s3.2.2 a2 a3 (fun _ _ => rfl) hf
    have hzH2 := fzE c1.1 s2.2.2 a1 a2 (fun _ _ => rfl) hzH3.1
    have hzH1 := fzE c0.1 c1.1 a0 a1 (fun n k => pnm_neg n k) hzH2.1
    have hzH0 := fzE pz c0.1 rfl a0 (fun n k => ptk_neg n k) hzH1.1
    have tv19 : n10 = tvl (vwC H0) (ptk (vwC H0) 37 (absC H0)) := by
      have w := f19.2.2
      unfold nb_67 at w
      have w := w hzH2.1
      rw [v0, a0] at w
      exact w
    have k37 := kdE h0 hzH0.2
    have m37 := mkA_mark k37
    have k6 := kdN h1 (hzH2.2)
    have k7 := kdN h2 (hzH2.2)
    have fr := frA_zero k37 k6 k7
    refine ⟨((uSlot f38 _ 4 (by rw [f37]; decide)).trans (uSame f35 _ 4 (Int.toNat_of_nonneg cz) (by rw [f34]; rfl))).trans (by rw [m37]; exact tv19), (uSame f38 _ 5 (Int.toNat_of_nonneg cz) (by rw [f37]; rfl)).trans ?_⟩
    rw [fr]
    exact f6
def g_81vw_s_6 : vG := ([(80, [1, 16, 4], [4, 3], 0), (0, [16], [], 5), (23, [1], [3], 1), (80, [1, 15, 10], [3, 2], 0), (0, [15], [], 4), (23, [1], [2], 1), (30, [2], [], 0), (41, [13, 14], [], 0), (0, [14], [], 7), (20, [13, 0], [2], 2), (23, [0], [2], 4), (90, [13], [], -2147483648), (91, [13], [], 2147483647), (41, [11, 12], [], 0), (0, [12], [], 6), (20, [11, 0], [2], 2), (23, [0], [2], 4), (90, [11], [], -2147483648), (91, [11], [], 2147483647), (1067, [10, 0, 8, 9], [1, 2], 0), (90, [10], [], -2147483648), (91, [10], [], 2147483647), (0, [9], [], 7), (0, [8], [], 0), (1066, [0, 7], [0, 1], 0), (0, [7], [], 37), (40, [5, 6], [], 0), (0, [6], [], 37), (20, [5, 0], [0], 2), (23, [0], [0], 4), (90, [5], [], -2147483648), (91, [5], [], 2147483647), (0, [4], [], 0), (0, [3], [], -1), (6000, [0, 1, 2], [0], 0), (0, [0], [], 30), (51, [1], [], 0), (90, [2], [], 0), (91, [2], [], 1)], (3000, [], [4], 123))
theorem c_81vw_s_6 : vOkm T0 (eN e_81v L_81vw A_81v mu_81v n_81 B_81 none) 3 g_81vw_s_6 := vOk_inI fun ρ η f0 f1 f2 f3 f4 f5 f6 f7 f8 f9 f10 f11 f12 f13 f14 f15 f16 f17 f18 f19 f20 f21 f22 f23 f24 f25 f26 f27 f28 f29 f30 f31 f32 f33 f34 f35 f36 f37 f38 => q_81vw_6 (n0 := ρ 2) (n1 := ρ 1) (n2 := ρ 0) (n3 := ρ 3) (n4 := ρ 4) (n5 := ρ 5) (n6 := ρ 6) (n7 := ρ 7) (n8 := ρ 8) (n9 := ρ 9) (n10 := ρ 10) (n11 := ρ 11) (n12 := ρ 12) (n13 := ρ 13) (n14 := ρ 14) (n15 := ρ 15) (n16 := ρ 16) (H0 := η 0) (H1 := η 1) (H2 := η 2) (H3 := η 3) (H4 := η 4) f38 f37 f36 f35 f34 f33 f32 f31 f30 f29 f28 f27 f26 f25 f24 f23 f22 f21 f20 f19 f18 f17 f16 f15 f14 f13 f12 f11 f10 f9 f8 f7 f6 f5 f4 f3 f2 f1 f0
theorem q_81vw_7 {n0 n1 n2 n3 n4 n5 n6 n7 n8 n9 n10 n11 n12 n13 n14 n15 n16 : Int} {H0 H1 H2 H3 H4 : gH} (f0 : n0 ≤ 1) (f1 : 0 ≤ n0) (f2 : 0 ≤ n1) (f3 : n2 = 30) (f4 : hWt T0 H0 ∧ preb_81v n2 n1 n0 H0) (f5 : n3 = (-1)) (f6 : n4 = 0) (f7 : n5 ≤ 2147483647) (f8 : (-2147483648) ≤ n5) (f9 : hK H0 (n2).toNat = 4) (f10 : n5 = hV H0 (n2).toNat 2) (f11 : n6 = 37) (f12 : n5 = n6) (f13 : n7 = 37) (f14 : (hLe T0 H0 H1 ∧ hFr s_66v.2.2.2.2 H0 H1 ∧ ((0 : Int) = 0 → H1.length = H0.length) ∧ hWt T0 H1) ∧ postb_66v n2 n7 H0 H1) (f15 : n8 = 0) (f16 : n9 = 7) (f17 : n10 ≤ 2147483647) (f18 : (-2147483648) ≤ n10) (f19 : (hLe T0 H1 H2 ∧ hFr s_67v.2.2.2.2 H1 H2 ∧ ((0 : Int) = 0 → H2.length = H1.length) ∧ hWt T0 H2) ∧ (postb_67v n10 n2 n8 n9 H1 H2 ∧ nb_67 n10 n2 n8 n9 H1 H2)) (f20 : n11 ≤ 2147483647) (f21 : (-2147483648) ≤ n11) (f22 : hK H2 (n2).toNat = 4) (f23 : n11 = hV H2 (n2).toNat 2) (f24 : n12 = 6) (f25 : n11 ≠ n12) (f26 : n13 ≤ 2147483647) (f27 : (-2147483648) ≤ n13) (f28 : hK H2 (n2).toNat = 4) (f29 : n13 = hV H2 (n2).toNat 2) (f30 : n14 = 7) (f31 : n13 ≠ n14) (f32 : n0 ≠ 0) (f33 : hK H2 (n1).toNat = 1) (f34 : n15 = 6) (f35 : hUpd H3 H2 n1 n15 n10) (f36 : hK H3 (n1).toNat = 1) (f37 : n16 = 7) (f38 : hUpd H4 H3 n1 n16 n4) : nb_81 n2 n1 n0 H0 H4 := by
  unfold nb_81
  intro hk cz
  have pz := f4.2
  unfold preb_81v at pz
  have c0 := f14.2
  unfold postb_66v at c0
  try rw [f13] at c0
  have a0 : absC H1 = (ptk (vwC H0) 37 (absC H0)) := c0.2
  have v0 : vwC H1 = vwC H0 := (vwC_fr f14.1.2.1 (by decide +kernel))
  have c1 := f19.2.1
  unfold postb_67v at c1
  try rw [f15] at c1
  try rw [f16] at c1
  rw [v0] at c1
  rw [a0] at c1
  have a1 : absC H2 = (pnm (vwC H0) 0 7 (ptk (vwC H0) 37 (absC H0))) := c1.2
  have v1 : vwC H2 = vwC H0 := (vwC_fr f19.1.2.1 (by decide +kernel)).trans v0
  have s2 := PF_up f35 c1.1 f33
  have a2 : absC H3 = (pnm (vwC H0) 0 7 (ptk (vwC H0) 37 (absC H0))) := s2.1.trans a1
  have v2 : vwC H3 = vwC H0 := s2.2.1.trans v1
  have s3 := PF_up f38 s2.2.2 f36
  have a3 : absC H4 = (pnm (vwC H0) 0 7 (ptk (vwC H0) 37 (absC H0))) := s3.1.trans a2
  have v3 : vwC H4 = vwC H0 := s3.2.1.trans v2
  have b0 := kd_at pz
  have g0 := f10
  rw [f3] at g0
  rw [show ((30 : Int)).toNat = 30 from rfl] at g0
  have h0 : (absC H0).1 < 0 ∨ (vwC H0).1 (absC H0).1 = 37 := by
    rcases b0 with q | q
    · exact .inl q
    · right
      rw [q]
      omega
  have b1 := kd_at c1.1
  rw [v1] at b1
  rw [a1] at b1
  have g1 := f23
  rw [f3] at g1
  rw [show ((30 : Int)).toNat = 30 from rfl] at g1
  have h1 : (pnm (vwC H0) 0 7 (ptk (vwC H0) 37 (absC H0))).1 < 0 ∨ ¬ (vwC H0).1 (pnm (vwC H0) 0 7 (ptk (vwC H0) 37 (absC H0))).1 = 6 := by
    rcases b1 with q | q
    · exact .inl q
    · right
      rw [q]
      omega
  have b2 := kd_at c1.1
  rw [v1] at b2
  rw [a1] at b2
  have g2 := f29
  rw [f3] at g2
  rw [show ((30 : Int)).toNat = 30 from rfl] at g2
  have h2 : (pnm (vwC H0) 0 7 (ptk (vwC H0) 37 (absC H0))).1 < 0 ∨ ¬ (vwC H0).1 (pnm (vwC H0) 0 7 (ptk (vwC H0) 37 (absC H0))).1 = 7 := by
    rcases b2 with q | q
    · exact .inl q
    · right
      rw [q]
      omega
  have kc0 : hK H1 (n1).toNat = 1 := kLe f14.1.1 hk rfl
  have kc1 : hK H2 (n1).toNat = 1 := kLe f19.1.1 kc0 rfl
  have kc2 : hK H3 (n1).toNat = 1 := kUp f35 kc1
  have kc3 : hK H4 (n1).toNat = 1 := kUp f38 kc2
  refine ⟨(CUo_tr (CUo_fr f14.1.1 f14.1.2.1 (by decide +kernel)) (CUo_tr (CUo_fr f19.1.1 f19.1.2.1 (by decide +kernel)) (CUo_tr (CUo_up f35) (CUo_up f38)))), fun z => absurd z (by have w := f32; omega), fun _ => ⟨fun s h1 h2 => (uSlot f38 _ s (by have w := f37; omega)).trans ((uSlot f35 _ s (by have w := f34; omega)).trans ((fr1 f19.1.2.1 (by decide +kernel) kc0 s).trans (fr1 f14.1.2.1 (by decide +kernel) hk s))), ?_⟩⟩
  · intro hf
    have hzH3 := fzE s2.2.2 s3.2.2 a2 a3 (fun _ _ => rfl) hf
    have hzH2 := fzE c1.1 s2.2.2 a1 a2 (fun _ _ => rfl) hzH3.1
    have hzH1 := fzE c0.1 c1.1 a0 a1 (fun n k => pnm_neg n k) hzH2.1
    have hzH0 := fzE pz c0.1 rfl a0 (fun n k => ptk_neg n k) hzH1.1
    have tv19 : n10 = tvl (vwC H0) (ptk (vwC H0) 37 (absC H0)) := by
      have w := f19.2.2
      unfold nb_67 at w
      have w := w hzH2.1
      rw [v0, a0] at w
      exact w
    have k37 := kdE h0 hzH0.2
    have m37 := mkA_mark k37
    have k6 := kdN h1 (hzH2.2)
    have k7 := kdN h2 (hzH2.2)
    have fr := frA_zero k37 k6 k7
    refine ⟨((uSlot f38 _ 6 (by rw [f37]; decide)).trans (uSame f35 _ 6 (Int.toNat_of_nonneg cz) (by rw [f34]; rfl))).trans (by rw [m37]; exact tv19), (uSame f38 _ 7 (Int.toNat_of_nonneg cz) (by rw [f37]; rfl)).trans ?_⟩
    rw [fr]
    exact f6
def g_81vw_s_7 : vG := ([(80, [1, 16, 4], [4, 3], 0), (0, [16], [], 7), (23, [1], [3], 1), (80, [1, 15, 10], [3, 2], 0), (0, [15], [], 6), (23, [1], [2], 1), (31, [2], [], 0), (41, [13, 14], [], 0), (0, [14], [], 7), (20, [13, 0], [2], 2), (23, [0], [2], 4), (90, [13], [], -2147483648), (91, [13], [], 2147483647), (41, [11, 12], [], 0), (0, [12], [], 6), (20, [11, 0], [2], 2), (23, [0], [2], 4), (90, [11], [], -2147483648), (91, [11], [], 2147483647), (1067, [10, 0, 8, 9], [1, 2], 0), (90, [10], [], -2147483648), (91, [10], [], 2147483647), (0, [9], [], 7), (0, [8], [], 0), (1066, [0, 7], [0, 1], 0), (0, [7], [], 37), (40, [5, 6], [], 0), (0, [6], [], 37), (20, [5, 0], [0], 2), (23, [0], [0], 4), (90, [5], [], -2147483648), (91, [5], [], 2147483647), (0, [4], [], 0), (0, [3], [], -1), (6000, [0, 1, 2], [0], 0), (0, [0], [], 30), (51, [1], [], 0), (90, [2], [], 0), (91, [2], [], 1)], (3000, [], [4], 123))
theorem c_81vw_s_7 : vOkm T0 (eN e_81v L_81vw A_81v mu_81v n_81 B_81 none) 3 g_81vw_s_7 := vOk_inI fun ρ η f0 f1 f2 f3 f4 f5 f6 f7 f8 f9 f10 f11 f12 f13 f14 f15 f16 f17 f18 f19 f20 f21 f22 f23 f24 f25 f26 f27 f28 f29 f30 f31 f32 f33 f34 f35 f36 f37 f38 => q_81vw_7 (n0 := ρ 2) (n1 := ρ 1) (n2 := ρ 0) (n3 := ρ 3) (n4 := ρ 4) (n5 := ρ 5) (n6 := ρ 6) (n7 := ρ 7) (n8 := ρ 8) (n9 := ρ 9) (n10 := ρ 10) (n11 := ρ 11) (n12 := ρ 12) (n13 := ρ 13) (n14 := ρ 14) (n15 := ρ 15) (n16 := ρ 16) (H0 := η 0) (H1 := η 1) (H2 := η 2) (H3 := η 3) (H4 := η 4) f38 f37 f36 f35 f34 f33 f32 f31 f30 f29 f28 f27 f26 f25 f24 f23 f22 f21 f20 f19 f18 f17 f16 f15 f14 f13 f12 f11 f10 f9 f8 f7 f6 f5 f4 f3 f2 f1 f0
theorem q_81vw_8 {n0 n1 n2 n3 n4 n5 n6 n7 n8 n9 n10 n11 n12 n13 n14 n15 n16 n17 n18 n19 n20 n21 n22 n23 n24 : Int} {H0 H1 H2 H3 H4 H5 H6 : gH} (f0 : n0 ≤ 1) (f1 : 0 ≤ n0) (f2 : 0 ≤ n1) (f3 : n2 = 30) (f4 : hWt T0 H0 ∧ preb_81v n2 n1 n0 H0) (f5 : n3 = (-1)) (f6 : n4 = 0) (f7 : n5 ≤ 2147483647) (f8 : (-2147483648) ≤ n5) (f9 : hK H0 (n2).toNat = 4) (f10 : n5 = hV H0 (n2).toNat 2) (f11 : n6 = 37) (f12 : n5 = n6) (f13 : n7 = 37) (f14 : (hLe T0 H0 H1 ∧ hFr s_66v.2.2.2.2 H0 H1 ∧ ((0 : Int) = 0 → H1.length = H0.length) ∧ hWt T0 H1) ∧ postb_66v n2 n7 H0 H1) (f15 : n8 = 0) (f16 : n9 = 7) (f17 : n10 ≤ 2147483647) (f18 : (-2147483648) ≤ n10) (f19 : (hLe T0 H1 H2 ∧ hFr s_67v.2.2.2.2 H1 H2 ∧ ((0 : Int) = 0 → H2.length = H1.length) ∧ hWt T0 H2) ∧ (postb_67v n10 n2 n8 n9 H1 H2 ∧ nb_67 n10 n2 n8 n9 H1 H2)) (f20 : n11 ≤ 2147483647) (f21 : (-2147483648) ≤ n11) (f22 : hK H2 (n2).toNat = 4) (f23 : n11 = hV H2 (n2).toNat 2) (f24 : n12 = 6) (f25 : n11 ≠ n12) (f26 : n13 ≤ 2147483647) (f27 : (-2147483648) ≤ n13) (f28 : hK H2 (n2).toNat = 4) (f29 : n13 = hV H2 (n2).toNat 2) (f30 : n14 = 7) (f31 : n13 = n14) (f32 : n15 ≤ 2147483647) (f33 : (-2147483648) ≤ n15) (f34 : hK H2 (n2).toNat = 4) (f35 : n15 = hV H2 (n2).toNat 2) (f36 : n16 = 6) (f37 : n15 ≠ n16) (f38 : n17 = (-1)) (f39 : n18 ≤ 2147483647) (f40 : (-2147483648) ≤ n18) (f41 : hK H2 (n2).toNat = 4) (f42 : n18 = hV H2 (n2).toNat 2) (f43 : (hLe T0 H2 H3 ∧ hFr s_66v.2.2.2.2 H2 H3 ∧ ((0 : Int) = 0 → H3.length = H2.length) ∧ hWt T0 H3) ∧ postb_66v n2 n18 H2 H3) (f44 : n19 = 0) (f45 : n20 = 60) (f46 : n21 ≤ 2147483647) (f47 : (-2147483648) ≤ n21) (f48 : (hLe T0 H3 H4 ∧ hFr s_67v.2.2.2.2 H3 H4 ∧ ((0 : Int) = 0 → H4.length = H3.length) ∧ hWt T0 H4) ∧ (postb_67v n21 n2 n19 n20 H3 H4 ∧ nb_67 n21 n2 n19 n20 H3 H4)) (f49 : n22 = w32 (n17 * n21)) (f50 : n0 = 0) (f51 : hK H4 (n1).toNat = 1) (f52 : n23 = 4) (f53 : hUpd H5 H4 n1 n23 n10) (f54 : hK H5 (n1).toNat = 1) (f55 : n24 = 5) (f56 : hUpd H6 H5 n1 n24 n22) : nb_81 n2 n1 n0 H0 H6 := by
  unfold nb_81
  intro hk cz
  have pz := f4.2
  unfold preb_81v at pz
  have c0 := f14.2
  unfold postb_66v at c0
  try rw [f13] at c0
  have a0 : absC H1 = (ptk (vwC H0) 37 (absC H0)) := c0.2
  have v0 : vwC H1 = vwC H0 := (vwC_fr f14.1.2.1 (by decide +kernel))
  have c1 := f19.2.1
  unfold postb_67v at c1
  try rw [f15] at c1
  try rw [f16] at c1
  rw [v0] at c1
  rw [a0] at c1
  have a1 : absC H2 = (pnm (vwC H0) 0 7 (ptk (vwC H0) 37 (absC H0))) := c1.2
  have v1 : vwC H2 = vwC H0 := (vwC_fr f19.1.2.1 (by decide +kernel)).trans v0
  have x2_18 := f42
  rw [f3] at x2_18
  rw [show ((30 : Int)).toNat = 30 from rfl] at x2_18
  have u2_18 := f29
  rw [f3] at u2_18
  rw [show ((30 : Int)).toNat = 30 from rfl] at u2_18
  have kx2_18 : n18 = 7 := by omega
  have c2 := f43.2
  unfold postb_66v at c2
  rw [kx2_18] at c2
  rw [v1] at c2
  rw [a1] at c2
  have a2 : absC H3 = (ptk (vwC H0) 7 (pnm (vwC H0) 0 7 (ptk (vwC H0) 37 (absC H0)))) := c2.2
  have v2 : vwC H3 = vwC H0 := (vwC_fr f43.1.2.1 (by decide +kernel)).trans v1
  have c3 := f48.2.1
  unfold postb_67v at c3
  try rw [f44] at c3
  try rw [f45] at c3
  rw [v2] at c3
  rw [a2] at c3
  have a3 : absC H4 = (pnm (vwC H0) 0 60 (ptk (vwC H0) 7 (pnm (vwC H0) 0 7 (ptk (vwC H0) 37 (absC H0))))) := c3.2
  have v3 : vwC H4 = vwC H0 := (vwC_fr f48.1.2.1 (by decide +kernel)).trans v2
  have s4 := PF_up f53 c3.1 f51
  have a4 : absC H5 = (pnm (vwC H0) 0 60 (ptk (vwC H0) 7 (pnm (vwC H0) 0 7 (ptk (vwC H0) 37 (absC H0))))) := s4.1.trans a3
  have v4 : vwC H5 = vwC H0 := s4.2.1.trans v3
  have s5 := PF_up f56 s4.2.2 f54
  have a5 : absC H6 = (pnm (vwC H0) 0 60 (ptk (vwC H0) 7 (pnm (vwC H0) 0 7 (ptk (vwC H0) 37 (absC H0))))) := s5.1.trans a4
  have v5 : vwC H6 = vwC H0 := s5.2.1.trans v4
  have b0 := kd_at pz
  have g0 := f10
  rw [f3] at g0
  rw [show ((30 : Int)).toNat = 30 from rfl] at g0
  have h0 : (absC H0).1 < 0 ∨ (vwC H0).1 (absC H0).1 = 37 := by
    rcases b0 with q | q
    · exact .inl q
    · right
      rw [q]
      omega
  have b1 := kd_at c1.1
  rw [v1] at b1
  rw [a1] at b1
  have g1 := f23
  rw [f3] at g1
  rw [show ((30 : Int)).toNat = 30 from rfl] at g1
  have h1 : (pnm (vwC H0) 0 7 (ptk (vwC H0) 37 (absC H0))).1 < 0 ∨ ¬ (vwC H0).1 (pnm (vwC H0) 0 7 (ptk (vwC H0) 37 (absC H0))).1 = 6 := by
    rcases b1 with q | q
    · exact .inl q
    · right
      rw [q]
      omega
  have b2 := kd_at c1.1
  rw [v1] at b2
  rw [a1] at b2
  have g2 := f29
  rw [f3] at g2
  rw [show ((30 : Int)).toNat = 30 from rfl] at g2
  have h2 : (pnm (vwC H0) 0 7 (ptk (vwC H0) 37 (absC H0))).1 < 0 ∨ (vwC H0).1 (pnm (vwC H0) 0 7 (ptk (vwC H0) 37 (absC H0))).1 = 7 := by
    rcases b2 with q | q
    · exact .inl q
    · right
      rw [q]
      omega
  have b3 := kd_at c1.1
  rw [v1] at b3
  rw [a1] at b3
  have g3 := f35
  rw [f3] at g3
  rw [show ((30 : Int)).toNat = 30 from rfl] at g3
  have h3 : (pnm (vwC H0) 0 7 (ptk (vwC H0) 37 (absC H0))).1 < 0 ∨ ¬ (vwC H0).1 (pnm (vwC H0) 0 7 (ptk (vwC H0) 37 (absC H0))).1 = 6 := by
    rcases b3 with q | q
    · exact .inl q
    · right
      rw [q]
      omega
  have kc0 : hK H1 (n1).toNat = 1 := kLe f14.1.1 hk rfl
  have kc1 : hK H2 (n1).toNat = 1 := kLe f19.1.1 kc0 rfl
  have kc2 : hK H3 (n1).toNat = 1 := kLe f43.1.1 kc1 rfl
  have kc3 : hK H4 (n1).toNat = 1 := kLe f48.1.1 kc2 rfl
  have kc4 : hK H5 (n1).toNat = 1 := kUp f53 kc3
  have kc5 : hK H6 (n1).toNat = 1 := kUp f56 kc4
  refine ⟨(CUo_tr (CUo_fr f14.1.1 f14.1.2.1 (by decide +kernel)) (CUo_tr (CUo_fr f19.1.1 f19.1.2.1 (by decide +kernel)) (CUo_tr (CUo_fr f43.1.1 f43.1.2.1 (by decide +kernel)) (CUo_tr (CUo_fr f48.1.1 f48.1.2.1 (by decide +kernel)) (CUo_tr (CUo_up f53) (CUo_up f56)))))), fun _ => ⟨fun s h1 h2 => (uSlot f56 _ s (by have w := f55; omega)).trans ((uSlot f53 _ s (by have w := f52; omega)).trans ((fr1 f48.1.2.1 (by decide +kernel) kc2 s).trans ((fr1 f43.1.2.1 (by decide +kernel) kc1 s).trans ((fr1 f19.1.2.1 (by decide +kernel) kc0 s).trans (fr1 f14.1.2.1 (by decide +kernel) hk s))))), ?_⟩, fun z => absurd z (by have w := f50; omega)⟩
  · intro hf
    have hzH5 := fzE s4.2.2 s5.2.2 a4 a5 (fun _ _ => rfl) hf
    have hzH4 := fzE c3.1 s4.2.2 a3 a4 (fun _ _ => rfl) hzH5.1
    have hzH3 := fzE c2.1 c3.1 a2 a3 (fun n k => pnm_neg n k) hzH4.1
    have hzH2 := fzE c1.1 c2.1 a1 a2 (fun n k => ptk_neg n k) hzH3.1
    have hzH1 := fzE c0.1 c1.1 a0 a1 (fun n k => pnm_neg n k) hzH2.1
    have hzH0 := fzE pz c0.1 rfl a0 (fun n k => ptk_neg n k) hzH1.1
    have tv19 : n10 = tvl (vwC H0) (ptk (vwC H0) 37 (absC H0)) := by
      have w := f19.2.2
      unfold nb_67 at w
      have w := w hzH2.1
      rw [v0, a0] at w
      exact w
    have tv48 : n21 = tvl (vwC H0) (ptk (vwC H0) 7 (pnm (vwC H0) 0 7 (ptk (vwC H0) 37 (absC H0)))) := by
      have w := f48.2.2
      unfold nb_67 at w
      have w := w hzH4.1
      rw [v2, a2] at w
      exact w
    have k37 := kdE h0 hzH0.2
    have m37 := mkA_mark k37
    have k6 := kdN h1 (hzH2.2)
    have k7 := kdE h2 (hzH2.2)
    have fr := frA_minus k37 k6 k7
    refine ⟨((uSlot f56 _ 4 (by rw [f55]; decide)).trans (uSame f53 _ 4 (Int.toNat_of_nonneg cz) (by rw [f52]; rfl))).trans (by rw [m37]; exact tv19), (uSame f56 _ 5 (Int.toNat_of_nonneg cz) (by rw [f55]; rfl)).trans ?_⟩
    rw [fr]
    have wv := f49
    rw [f38] at wv
    have bd := tvl_bd (h := H0) pz.2.1 (p := (ptk (vwC H0) 7 (pnm (vwC H0) 0 7 (ptk (vwC H0) 37 (absC H0)))))
    rw [← tv48] at bd ⊢
    rw [w32_id (by omega) (by omega)] at wv
    omega
def g_81vw_s_8 : vG := ([(80, [1, 24, 22], [6, 5], 0), (0, [24], [], 5), (23, [1], [5], 1), (80, [1, 23, 10], [5, 4], 0), (0, [23], [], 4), (23, [1], [4], 1), (30, [2], [], 0), (3, [22, 17, 21], [], 0), (1067, [21, 0, 19, 20], [3, 4], 0), (90, [21], [], -2147483648), (91, [21], [], 2147483647), (0, [20], [], 60), (0, [19], [], 0), (1066, [0, 18], [2, 3], 0), (20, [18, 0], [2], 2), (23, [0], [2], 4), (90, [18], [], -2147483648), (91, [18], [], 2147483647), (0, [17], [], -1), (41, [15, 16], [], 0), (0, [16], [], 6), (20, [15, 0], [2], 2), (23, [0], [2], 4), (90, [15], [], -2147483648), (91, [15], [], 2147483647), (40, [13, 14], [], 0), (0, [14], [], 7), (20, [13, 0], [2], 2), (23, [0], [2], 4), (90, [13], [], -2147483648), (91, [13], [], 2147483647), (41, [11, 12], [], 0), (0, [12], [], 6), (20, [11, 0], [2], 2), (23, [0], [2], 4), (90, [11], [], -2147483648), (91, [11], [], 2147483647), (1067, [10, 0, 8, 9], [1, 2], 0), (90, [10], [], -2147483648), (91, [10], [], 2147483647), (0, [9], [], 7), (0, [8], [], 0), (1066, [0, 7], [0, 1], 0), (0, [7], [], 37), (40, [5, 6], [], 0), (0, [6], [], 37), (20, [5, 0], [0], 2), (23, [0], [0], 4), (90, [5], [], -2147483648), (91, [5], [], 2147483647), (0, [4], [], 0), (0, [3], [], -1), (6000, [0, 1, 2], [0], 0), (0, [0], [], 30), (51, [1], [], 0), (90, [2], [], 0), (91, [2], [], 1)], (3000, [], [6], 123))
theorem c_81vw_s_8 : vOkm T0 (eN e_81v L_81vw A_81v mu_81v n_81 B_81 none) 3 g_81vw_s_8 := vOk_inI fun ρ η f0 f1 f2 f3 f4 f5 f6 f7 f8 f9 f10 f11 f12 f13 f14 f15 f16 f17 f18 f19 f20 f21 f22 f23 f24 f25 f26 f27 f28 f29 f30 f31 f32 f33 f34 f35 f36 f37 f38 f39 f40 f41 f42 f43 f44 f45 f46 f47 f48 f49 f50 f51 f52 f53 f54 f55 f56 => q_81vw_8 (n0 := ρ 2) (n1 := ρ 1) (n2 := ρ 0) (n3 := ρ 3) (n4 := ρ 4) (n5 := ρ 5) (n6 := ρ 6) (n7 := ρ 7) (n8 := ρ 8) (n9 := ρ 9) (n10 := ρ 10) (n11 := ρ 11) (n12 := ρ 12) (n13 := ρ 13) (n14 := ρ 14) (n15 := ρ 15) (n16 := ρ 16) (n17 := ρ 17) (n18 := ρ 18) (n19 := ρ 19) (n20 := ρ 20) (n21 := ρ 21) (n22 := ρ 22) (n23 := ρ 23) (n24 := ρ 24) (H0 := η 0) (H1 := η 1) (H2 := η 2) (H3 := η 3) (H4 := η 4) (H5 := η 5) (H6 := η 6) f56 f55 f54 f53 f52 f51 f50 f49 f48 f47 f46 f45 f44 f43 f42 f41 f40 f39 f38 f37 f36 f35 f34 f33 f32 f31 f30 f29 f28 f27 f26 f25 f24 f23 f22 f21 f20 f19 f18 f17 f16 f15 f14 f13 f12 f11 f10 f9 f8 f7 f6 f5 f4 f3 f2 f1 f0
theorem q_81vw_9 {n0 n1 n2 n3 n4 n5 n6 n7 n8 n9 n10 n11 n12 n13 n14 n15 n16 n17 n18 n19 n20 n21 n22 n23 n24 : Int} {H0 H1 H2 H3 H4 H5 H6 : gH} (f0 : n0 ≤ 1) (f1 : 0 ≤ n0) (f2 : 0 ≤ n1) (f3 : n2 = 30) (f4 : hWt T0 H0 ∧ preb_81v n2 n1 n0 H0) (f5 : n3 = (-1)) (f6 : n4 = 0) (f7 : n5 ≤ 2147483647) (f8 : (-2147483648) ≤ n5) (f9 : hK H0 (n2).toNat = 4) (f10 : n5 = hV H0 (n2).toNat 2) (f11 : n6 = 37) (f12 : n5 = n6) (f13 : n7 = 37) (f14 : (hLe T0 H0 H1 ∧ hFr s_66v.2.2.2.2 H0 H1 ∧ ((0 : Int) = 0 → H1.length = H0.length) ∧ hWt T0 H1) ∧ postb_66v n2 n7 H0 H1) (f15 : n8 = 0) (f16 : n9 = 7) (f17 : n10 ≤ 2147483647) (f18 : (-2147483648) ≤ n10) (f19 : (hLe T0 H1 H2 ∧ hFr s_67v.2.2.2.2 H1 H2 ∧ ((0 : Int) = 0 → H2.length = H1.length) ∧ hWt T0 H2) ∧ (postb_67v n10 n2 n8 n9 H1 H2 ∧ nb_67 n10 n2 n8 n9 H1 H2)) (f20 : n11 ≤ 2147483647) (f21 : (-2147483648) ≤ n11) (f22 : hK H2 (n2).toNat = 4) (f23 : n11 = hV H2 (n2).toNat 2) (f24 : n12 = 6) (f25 : n11 ≠ n12) (f26 : n13 ≤ 2147483647) (f27 : (-2147483648) ≤ n13) (f28 : hK H2 (n2).toNat = 4) (f29 : n13 = hV H2 (n2).toNat 2) (f30 : n14 = 7) (f31 : n13 = n14) (f32 : n15 ≤ 2147483647) (f33 : (-2147483648) ≤ n15) (f34 : hK H2 (n2).toNat = 4) (f35 : n15 = hV H2 (n2).toNat 2) (f36 : n16 = 6) (f37 : n15 ≠ n16) (f38 : n17 = (-1)) (f39 : n18 ≤ 2147483647) (f40 : (-2147483648) ≤ n18) (f41 : hK H2 (n2).toNat = 4) (f42 : n18 = hV H2 (n2).toNat 2) (f43 : (hLe T0 H2 H3 ∧ hFr s_66v.2.2.2.2 H2 H3 ∧ ((0 : Int) = 0 → H3.length = H2.length) ∧ hWt T0 H3) ∧ postb_66v n2 n18 H2 H3) (f44 : n19 = 0) (f45 : n20 = 60) (f46 : n21 ≤ 2147483647) (f47 : (-2147483648) ≤ n21) (f48 : (hLe T0 H3 H4 ∧ hFr s_67v.2.2.2.2 H3 H4 ∧ ((0 : Int) = 0 → H4.length = H3.length) ∧ hWt T0 H4) ∧ (postb_67v n21 n2 n19 n20 H3 H4 ∧ nb_67 n21 n2 n19 n20 H3 H4)) (f49 : n22 = w32 (n17 * n21)) (f50 : n0 ≠ 0) (f51 : hK H4 (n1).toNat = 1) (f52 : n23 = 6) (f53 : hUpd H5 H4 n1 n23 n10) (f54 : hK H5 (n1).toNat = 1) (f55 : n24 = 7) (f56 : hUpd H6 H5 n1 n24 n22) : nb_81 n2 n1 n0 H0 H6 := by
  unfold nb_81
  intro hk cz
  have pz := f4.2
  unfold preb_81v at pz
  have c0 := f14.2
  unfold postb_66v at c0
  try rw [f13] at c0
  have a0 : absC H1 = (ptk (vwC H0) 37 (absC H0)) := c0.2
  have v0 : vwC H1 = vwC H0 := (vwC_fr f14.1.2.1 (by decide +kernel))
  have c1 := f19.2.1
  unfold postb_67v at c1
  try rw [f15] at c1
  try rw [f16] at c1
  rw [v0] at c1
  rw [a0] at c1
  have a1 : absC H2 = (pnm (vwC H0) 0 7 (ptk (vwC H0) 37 (absC H0))) := c1.2
  have v1 : vwC H2 = vwC H0 := (vwC_fr f19.1.2.1 (by decide +kernel)).trans v0
  have x2_18 := f42
  rw [f3] at x2_18
  rw [show ((30 : Int)).toNat = 30 from rfl] at x2_18
  have u2_18 := f29
  rw [f3] at u2_18
  rw [show ((30 : Int)).toNat = 30 from rfl] at u2_18
  have kx2_18 : n18 = 7 := by omega
  have c2 := f43.2
  unfold postb_66v at c2
  rw [kx2_18] at c2
  rw [v1] at c2
  rw [a1] at c2
  have a2 : absC H3 = (ptk (vwC H0) 7 (pnm (vwC H0) 0 7 (ptk (vwC H0) 37 (absC H0)))) := c2.2
  have v2 : vwC H3 = vwC H0 := (vwC_fr f43.1.2.1 (by decide +kernel)).trans v1
  have c3 := f48.2.1
  unfold postb_67v at c3
  try rw [f44] at c3
  try rw [f45] at c3
  rw [v2] at c3
  rw [a2] at c3
  have a3 : absC H4 = (pnm (vwC H0) 0 60 (ptk (vwC H0) 7 (pnm (vwC H0) 0 7 (ptk (vwC H0) 37 (absC H0))))) := c3.2
  have v3 : vwC H4 = vwC H0 := (vwC_fr f48.1.2.1 (by decide +kernel)).trans v2
  have s4 := PF_up f53 c3.1 f51
  have a4 : absC H5 = (pnm (vwC H0) 0 60 (ptk (vwC H0) 7 (pnm (vwC H0) 0 7 (ptk (vwC H0) 37 (absC H0))))) := s4.1.trans a3
  have v4 : vwC H5 = vwC H0 := s4.2.1.trans v3
  have s5 := PF_up f56 s4.2.2 f54
  have a5 : absC H6 = (pnm (vwC H0) 0 60 (ptk (vwC H0) 7 (pnm (vwC H0) 0 7 (ptk (vwC H0) 37 (absC H0))))) := s5.1.trans a4
  have v5 : vwC H6 = vwC H0 := s5.2.1.trans v4
  have b0 := kd_at pz
  have g0 := f10
  rw [f3] at g0
  rw [show ((30 : Int)).toNat = 30 from rfl] at g0
  have h0 : (absC H0).1 < 0 ∨ (vwC H0).1 (absC H0).1 = 37 := by
    rcases b0 with q | q
    · exact .inl q
    · right
      rw [q]
      omega
  have b1 := kd_at c1.1
  rw [v1] at b1
  rw [a1] at b1
  have g1 := f23
  rw [f3] at g1
  rw [show ((30 : Int)).toNat = 30 from rfl] at g1
  have h1 : (pnm (vwC H0) 0 7 (ptk (vwC H0) 37 (absC H0))).1 < 0 ∨ ¬ (vwC H0).1 (pnm (vwC H0) 0 7 (ptk (vwC H0) 37 (absC H0))).1 = 6 := by
    rcases b1 with q | q
    · exact .inl q
    · right
      rw [q]
      omega
  have b2 := kd_at c1.1
  rw [v1] at b2
  rw [a1] at b2
  have g2 := f29
  rw [f3] at g2
  rw [show ((30 : Int)).toNat = 30 from rfl] at g2
  have h2 : (pnm (vwC H0) 0 7 (ptk (vwC H0) 37 (absC H0))).1 < 0 ∨ (vwC H0).1 (pnm (vwC H0) 0 7 (ptk (vwC H0) 37 (absC H0))).1 = 7 := by
    rcases b2 with q | q
    · exact .inl q
    · right
      rw [q]
      omega
  have b3 := kd_at c1.1
  rw [v1] at b3
  rw [a1] at b3
  have g3 := f35
  rw [f3] at g3
  rw [show ((30 : Int)).toNat = 30 from rfl] at g3
  have h3 : (pnm (vwC H0) 0 7 (ptk (vwC H0) 37 (absC H0))).1 < 0 ∨ ¬ (vwC H0).1 (pnm (vwC H0) 0 7 (ptk (vwC H0) 37 (absC H0))).1 = 6 := by
    rcases b3 with q | q
    · exact .inl q
    · right
      rw [q]
      omega
  have kc0 : hK H1 (n1).toNat = 1 := kLe f14.1.1 hk rfl
  have kc1 : hK H2 (n1).toNat = 1 := kLe f19.1.1 kc0 rfl
  have kc2 : hK H3 (n1).toNat = 1 := kLe f43.1.1 kc1 rfl
  have kc3 : hK H4 (n1).toNat = 1 := kLe f48.1.1 kc2 rfl
  have kc4 : hK H5 (n1).toNat = 1 := kUp f53 kc3
  have kc5 : hK H6 (n1).toNat = 1 := kUp f56 kc4
  refine ⟨(CUo_tr (CUo_fr f14.1.1 f14.1.2.1 (by decide +kernel)) (CUo_tr (CUo_fr f19.1.1 f19.1.2.1 (by decide +kernel)) (CUo_tr (CUo_fr f43.1.1 f43.1.2.1 (by decide +kernel)) (CUo_tr (CUo_fr f48.1.1 f48.1.2.1 (by decide +kernel)) (CUo_tr (CUo_up f53) (CUo_up f56)))))), fun z => absurd z (by have w := f50; omega), fun _ => ⟨fun s h1 h2 => (uSlot f56 _ s (by have w := f55; omega)).trans ((uSlot f53 _ s (by have w := f52; omega)).trans ((fr1 f48.1.2.1 (by decide +kernel) kc2 s).trans ((fr1 f43.1.2.1 (by decide +kernel) kc1 s).trans ((fr1 f19.1.2.1 (by decide +kernel) kc0 s).trans (fr1 f14.1.2.1 (by decide +kernel) hk s))))), ?_⟩⟩
  · intro hf
    have hzH5 := fzE s4.2.2 s5.2.2 a4 a5 (fun _ _ => rfl) hf
    have hzH4 := fzE c3.1 s4.2.2 a3 a4 (fun _ _ => rfl) hzH5.1
    have hzH3 := fzE c2.1 c3.1 a2 a3 (fun n k => pnm_neg n k) hzH4.1
    have hzH2 := fzE c1.1 c2.1 a1 a2 (fun n k => ptk_neg n k) hzH3.1
    have hzH1 := fzE c0.1 c1.1 a0 a1 (fun n k => pnm_neg n k) hzH2.1
    have hzH0 := fzE pz c0.1 rfl a0 (fun n k => ptk_neg n k) hzH1.1
    have tv19 : n10 = tvl (vwC H0) (ptk (vwC H0) 37 (absC H0)) := by
      have w := f19.2.2
      unfold nb_67 at w
      have w := w hzH2.1
      rw [v0, a0] at w
      exact w
    have tv48 : n21 = tvl (vwC H0) (ptk (vwC H0) 7 (pnm (vwC H0) 0 7 (ptk (vwC H0) 37 (absC H0)))) := by
      have w := f48.2.2
      unfold nb_67 at w
      have w := w hzH4.1
      rw [v2, a2] at w
      exact w
    have k37 := kdE h0 hzH0.2
    have m37 := mkA_mark k37
    have k6 := kdN h1 (hzH2.2)
    have k7 := kdE h2 (hzH2.2)
    have fr := frA_minus k37 k6 k7
    refine ⟨((uSlot f56 _ 6 (by rw [f55]; decide)).trans (uSame f53 _ 6 (Int.toNat_of_nonneg cz) (by rw [f52]; rfl))).trans (by rw [m37]; exact tv19), (uSame f56 _ 7 (Int.toNat_of_nonneg cz) (by rw [f55]; rfl)).trans ?_⟩
    rw [fr]
    have wv := f49
    rw [f38] at wv
    have bd := tvl_bd (h := H0) pz.2.1 (p := (ptk (vwC H0) 7 (pnm (vwC H0) 0 7 (ptk (vwC H0) 37 (absC H0)))))
    rw [← tv48] at bd ⊢
    rw [w32_id (by omega) (by omega)] at wv
    omega
def g_81vw_s_9 : vG := ([(80, [1, 24, 22], [6, 5], 0), (0, [24], [], 7), (23, [1], [5], 1), (80, [1, 23, 10], [5, 4], 0), (0, [23], [], 6), (23, [1], [4], 1), (31, [2], [], 0), (3, [22, 17, 21], [], 0), (1067, [21, 0, 19, 20], [3, 4], 0), (90, [21], [], -2147483648), (91, [21], [], 2147483647), (0, [20], [], 60), (0, [19], [], 0), (1066, [0, 18], [2, 3], 0), (20, [18, 0], [2], 2), (23, [0], [2], 4), (90, [18], [], -2147483648), (91, [18], [], 2147483647), (0, [17], [], -1), (41, [15, 16], [], 0), (0, [16], [], 6), (20, [15, 0], [2], 2), (23, [0], [2], 4), (90, [15], [], -2147483648), (91, [15], [], 2147483647), (40, [13, 14], [], 0), (0, [14], [], 7), (20, [13, 0], [2], 2), (23, [0], [2], 4), (90, [13], [], -2147483648), (91, [13], [], 2147483647), (41, [11, 12], [], 0), (0, [12], [], 6), (20, [11, 0], [2], 2), (23, [0], [2], 4), (90, [11], [], -2147483648), (91, [11], [], 2147483647), (1067, [10, 0, 8, 9], [1, 2], 0), (90, [10], [], -2147483648), (91, [10], [], 2147483647), (0, [9], [], 7), (0, [8], [], 0), (1066, [0, 7], [0, 1], 0), (0, [7], [], 37), (40, [5, 6], [], 0), (0, [6], [], 37), (20, [5, 0], [0], 2), (23, [0], [0], 4), (90, [5], [], -2147483648), (91, [5], [], 2147483647), (0, [4], [], 0), (0, [3], [], -1), (6000, [0, 1, 2], [0], 0), (0, [0], [], 30), (51, [1], [], 0), (90, [2], [], 0), (91, [2], [], 1)], (3000, [], [6], 123))
theorem c_81vw_s_9 : vOkm T0 (eN e_81v L_81vw A_81v mu_81v n_81 B_81 none) 3 g_81vw_s_9 := vOk_inI fun ρ η f0 f1 f2 f3 f4 f5 f6 f7 f8 f9 f10 f11 f12 f13 f14 f15 f16 f17 f18 f19 f20 f21 f22 f23 f24 f25 f26 f27 f28 f29 f30 f31 f32 f33 f34 f35 f36 f37 f38 f39 f40 f41 f42 f43 f44 f45 f46 f47 f48 f49 f50 f51 f52 f53 f54 f55 f56 => q_81vw_9 (n0 := ρ 2) (n1 := ρ 1) (n2 := ρ 0) (n3 := ρ 3) (n4 := ρ 4) (n5 := ρ 5) (n6 := ρ 6) (n7 := ρ 7) (n8 := ρ 8) (n9 := ρ 9) (n10 := ρ 10) (n11 := ρ 11) (n12 := ρ 12) (n13 := ρ 13) (n14 := ρ 14) (n15 := ρ 15) (n16 := ρ 16) (n17 := ρ 17) (n18 := ρ 18) (n19 := ρ 19) (n20 := ρ 20) (n21 := ρ 21) (n22 := ρ 22) (n23 := ρ 23) (n24 := ρ 24) (H0 := η 0) (H1 := η 1) (H2 := η 2) (H3 := η 3) (H4 := η 4) (H5 := η 5) (H6 := η 6) f56 f55 f54 f53 f52 f51 f50 f49 f48 f47 f46 f45 f44 f43 f42 f41 f40 f39 f38 f37 f36 f35 f34 f33 f32 f31 f30 f29 f28 f27 f26 f25 f24 f23 f22 f21 f20 f19 f18 f17 f16 f15 f14 f13 f12 f11 f10 f9 f8 f7 f6 f5 f4 f3 f2 f1 f0
theorem q_81vw_10 {n0 n1 n2 n3 n4 n5 n6 n7 n8 n9 n10 n11 n12 n13 n14 n15 n16 n17 n18 n19 n20 n21 n22 n23 n24 : Int} {H0 H1 H2 H3 H4 H5 H6 : gH} (f0 : n0 ≤ 1) (f1 : 0 ≤ n0) (f2 : 0 ≤ n1) (f3 : n2 = 30) (f4 : hWt T0 H0 ∧ preb_81v n2 n1 n0 H0) (f5 : n3 = (-1)) (f6 : n4 = 0) (f7 : n5 ≤ 2147483647) (f8 : (-2147483648) ≤ n5) (f9 : hK H0 (n2).toNat = 4) (f10 : n5 = hV H0 (n2).toNat 2) (f11 : n6 = 37) (f12 : n5 = n6) (f13 : n7 = 37) (f14 : (hLe T0 H0 H1 ∧ hFr s_66v.2.2.2.2 H0 H1 ∧ ((0 : Int) = 0 → H1.length = H0.length) ∧ hWt T0 H1) ∧ postb_66v n2 n7 H0 H1) (f15 : n8 = 0) (f16 : n9 = 7) (f17 : n10 ≤ 2147483647) (f18 : (-2147483648) ≤ n10) (f19 : (hLe T0 H1 H2 ∧ hFr s_67v.2.2.2.2 H1 H2 ∧ ((0 : Int) = 0 → H2.length = H1.length) ∧ hWt T0 H2) ∧ (postb_67v n10 n2 n8 n9 H1 H2 ∧ nb_67 n10 n2 n8 n9 H1 H2)) (f20 : n11 ≤ 2147483647) (f21 : (-2147483648) ≤ n11) (f22 : hK H2 (n2).toNat = 4) (f23 : n11 = hV H2 (n2).toNat 2) (f24 : n12 = 6) (f25 : n11 ≠ n12) (f26 : n13 ≤ 2147483647) (f27 : (-2147483648) ≤ n13) (f28 : hK H2 (n2).toNat = 4) (f29 : n13 = hV H2 (n2).toNat 2) (f30 : n14 = 7) (f31 : n13 = n14) (f32 : n15 ≤ 2147483647) (f33 : (-2147483648) ≤ n15) (f34 : hK H2 (n2).toNat = 4) (f35 : n15 = hV H2 (n2).toNat 2) (f36 : n16 = 6) (f37 : n15 = n16) (f38 : n17 = 1) (f39 : n18 ≤ 2147483647) (f40 : (-2147483648) ≤ n18) (f41 : hK H2 (n2).toNat = 4) (f42 : n18 = hV H2 (n2).toNat 2) (f43 : (hLe T0 H2 H3 ∧ hFr s_66v.2.2.2.2 H2 H3 ∧ ((0 : Int) = 0 → H3.length = H2.length) ∧ hWt T0 H3) ∧ postb_66v n2 n18 H2 H3) (f44 : n19 = 0) (f45 : n20 = 60) (f46 : n21 ≤ 2147483647) (f47 : (-2147483648) ≤ n21) (f48 : (hLe T0 H3 H4 ∧ hFr s_67v.2.2.2.2 H3 H4 ∧ ((0 : Int) = 0 → H4.length = H3.length) ∧ hWt T0 H4) ∧ (postb_67v n21 n2 n19 n20 H3 H4 ∧ nb_67 n21 n2 n19 n20 H3 H4)) (f49 : n22 = w32 (n17 * n21)) (f50 : n0 = 0) (f51 : hK H4 (n1).toNat = 1) (f52 : n23 = 4) (f53 : hUpd H5 H4 n1 n23 n10) (f54 : hK H5 (n1).toNat = 1) (f55 : n24 = 5) (f56 : hUpd H6 H5 n1 n24 n22) : nb_81 n2 n1 n0 H0 H6 := by
  exfalso
  clear f0 f1 f2 f3 f4 f5 f6 f7 f8 f9 f10 f11 f12 f13 f14 f15 f16 f17 f18 f19 f20 f21 f22 f23 f24 f25 f26 f27 f28 f32 f33 f34 f38 f39 f40 f41 f42 f43 f44 f45 f46 f47 f48 f49 f50 f51 f52 f53 f54 f55 f56
  omega
def g_81vw_s_10 : vG := ([(80, [1, 24, 22], [6, 5], 0), (0, [24], [], 5), (23, [1], [5], 1), (80, [1, 23, 10], [5, 4], 0), (0, [23], [], 4), (23, [1], [4], 1), (30, [2], [], 0), (3, [22, 17, 21], [], 0), (1067, [21, 0, 19, 20], [3, 4], 0), (90, [21], [], -2147483648), (91, [21], [], 2147483647), (0, [20], [], 60), (0, [19], [], 0), (1066, [0, 18], [2, 3], 0), (20, [18, 0], [2], 2), (23, [0], [2], 4), (90, [18], [], -2147483648), (91, [18], [], 2147483647), (0, [17], [], 1), (40, [15, 16], [], 0), (0, [16], [], 6), (20, [15, 0], [2], 2), (23, [0], [2], 4), (90, [15], [], -2147483648), (91, [15], [], 2147483647), (40, [13, 14], [], 0), (0, [14], [], 7), (20, [13, 0], [2], 2), (23, [0], [2], 4), (90, [13], [], -2147483648), (91, [13], [], 2147483647), (41, [11, 12], [], 0), (0, [12], [], 6), (20, [11, 0], [2], 2), (23, [0], [2], 4), (90, [11], [], -2147483648), (91, [11], [], 2147483647), (1067, [10, 0, 8, 9], [1, 2], 0), (90, [10], [], -2147483648), (91, [10], [], 2147483647), (0, [9], [], 7), (0, [8], [], 0), (1066, [0, 7], [0, 1], 0), (0, [7], [], 37), (40, [5, 6], [], 0), (0, [6], [], 37), (20, [5, 0], [0], 2), (23, [0], [0], 4), (90, [5], [], -2147483648), (91, [5], [], 2147483647), (0, [4], [], 0), (0, [3], [], -1), (6000, [0, 1, 2], [0], 0), (0, [0], [], 30), (51, [1], [], 0), (90, [2], [], 0), (91, [2], [], 1)], (3000, [], [6], 123))
theorem c_81vw_s_10 : vOkm T0 (eN e_81v L_81vw A_81v mu_81v n_81 B_81 none) 3 g_81vw_s_10 := vOk_inI fun ρ η f0 f1 f2 f3 f4 f5 f6 f7 f8 f9 f10 f11 f12 f13 f14 f15 f16 f17 f18 f19 f20 f21 f22 f23 f24 f25 f26 f27 f28 f29 f30 f31 f32 f33 f34 f35 f36 f37 f38 f39 f40 f41 f42 f43 f44 f45 f46 f47 f48 f49 f50 f51 f52 f53 f54 f55 f56 => q_81vw_10 (n0 := ρ 2) (n1 := ρ 1) (n2 := ρ 0) (n3 := ρ 3) (n4 := ρ 4) (n5 := ρ 5) (n6 := ρ 6) (n7 := ρ 7) (n8 := ρ 8) (n9 := ρ 9) (n10 := ρ 10) (n11 := ρ 11) (n12 := ρ 12) (n13 := ρ 13) (n14 := ρ 14) (n15 := ρ 15) (n16 := ρ 16) (n17 := ρ 17) (n18 := ρ 18) (n19 := ρ 19) (n20 := ρ 20) (n21 := ρ 21) (n22 := ρ 22) (n23 := ρ 23) (n24 := ρ 24) (H0 := η 0) (H1 := η 1) (H2 := η 2) (H3 := η 3) (H4 := η 4) (H5 := η 5) (H6 := η 6) f56 f55 f54 f53 f52 f51 f50 f49 f48 f47 f46 f45 f44 f43 f42 f41 f40 f39 f38 f37 f36 f35 f34 f33 f32 f31 f30 f29 f28 f27 f26 f25 f24 f23 f22 f21 f20 f19 f18 f17 f16 f15 f14 f13 f12 f11 f10 f9 f8 f7 f6 f5 f4 f3 f2 f1 f0
theorem q_81vw_11 {n0 n1 n2 n3 n4 n5 n6 n7 n8 n9 n10 n11 n12 n13 n14 n15 n16 n17 n18 n19 n20 n21 n22 n23 n24 : Int} {H0 H1 H2 H3 H4 H5 H6 : gH} (f0 : n0 ≤ 1) (f1 : 0 ≤ n0) (f2 : 0 ≤ n1) (f3 : n2 = 30) (f4 : hWt T0 H0 ∧ preb_81v n2 n1 n0 H0) (f5 : n3 = (-1)) (f6 : n4 = 0) (f7 : n5 ≤ 2147483647) (f8 : (-2147483648) ≤ n5) (f9 : hK H0 (n2).toNat = 4) (f10 : n5 = hV H0 (n2).toNat 2) (f11 : n6 = 37) (f12 : n5 = n6) (f13 : n7 = 37) (f14 : (hLe T0 H0 H1 ∧ hFr s_66v.2.2.2.2 H0 H1 ∧ ((0 : Int) = 0 → H1.length = H0.length) ∧ hWt T0 H1) ∧ postb_66v n2 n7 H0 H1) (f15 : n8 = 0) (f16 : n9 = 7) (f17 : n10 ≤ 2147483647) (f18 : (-2147483648) ≤ n10) (f19 : (hLe T0 H1 H2 ∧ hFr s_67v.2.2.2.2 H1 H2 ∧ ((0 : Int) = 0 → H2.length = H1.length) ∧ hWt T0 H2) ∧ (postb_67v n10 n2 n8 n9 H1 H2 ∧ nb_67 n10 n2 n8 n9 H1 H2)) (f20 : n11 ≤ 2147483647) (f21 : (-2147483648) ≤ n11) (f22 : hK H2 (n2).toNat = 4) (f23 : n11 = hV H2 (n2).toNat 2) (f24 : n12 = 6) (f25 : n11 ≠ n12) (f26 : n13 ≤ 2147483647) (f27 : (-2147483648) ≤ n13) (f28 : hK H2 (n2).toNat = 4) (f29 : n13 = hV H2 (n2).toNat 2) (f30 : n14 = 7) (f31 : n13 = n14) (f32 : n15 ≤ 2147483647) (f33 : (-2147483648) ≤ n15) (f34 : hK H2 (n2).toNat = 4) (f35 : n15 = hV H2 (n2).toNat 2) (f36 : n16 = 6) (f37 : n15 = n16) (f38 : n17 = 1) (f39 : n18 ≤ 2147483647) (f40 : (-2147483648) ≤ n18) (f41 : hK H2 (n2).toNat = 4) (f42 : n18 = hV H2 (n2).toNat 2) (f43 : (hLe T0 H2 H3 ∧ hFr s_66v.2.2.2.2 H2 H3 ∧ ((0 : Int) = 0 → H3.length = H2.length) ∧ hWt T0 H3) ∧ postb_66v n2 n18 H2 H3) (f44 : n19 = 0) (f45 : n20 = 60) (f46 : n21 ≤ 2147483647) (f47 : (-2147483648) ≤ n21) (f48 : (hLe T0 H3 H4 ∧ hFr s_67v.2.2.2.2 H3 H4 ∧ ((0 : Int) = 0 → H4.length = H3.length) ∧ hWt T0 H4) ∧ (postb_67v n21 n2 n19 n20 H3 H4 ∧ nb_67 n21 n2 n19 n20 H3 H4)) (f49 : n22 = w32 (n17 * n21)) (f50 : n0 ≠ 0) (f51 : hK H4 (n1).toNat = 1) (f52 : n23 = 6) (f53 : hUpd H5 H4 n1 n23 n10) (f54 : hK H5 (n1).toNat = 1) (f55 : n24 = 7) (f56 : hUpd H6 H5 n1 n24 n22) : nb_81 n2 n1 n0 H0 H6 := by
  exfalso
  clear f0 f1 f2 f3 f4 f5 f6 f7 f8 f9 f10 f11 f12 f13 f14 f15 f16 f17 f18 f19 f20 f21 f22 f23 f24 f25 f26 f27 f28 f32 f33 f34 f38 f39 f40 f41 f42 f43 f44 f45 f46 f47 f48 f49 f50 f51 f52 f53 f54 f55 f56
  omega
def g_81vw_s_11 : vG := ([(80, [1, 24, 22], [6, 5], 0), (0, [24], [], 7), (23, [1], [5], 1), (80, [1, 23, 10], [5, 4], 0), (0, [23], [], 6), (23, [1], [4], 1), (31, [2], [], 0), (3, [22, 17, 21], [], 0), (1067, [21, 0, 19, 20], [3, 4], 0), (90, [21], [], -2147483648), (91, [21], [], 2147483647), (0, [20], [], 60), (0, [19], [], 0), (1066, [0, 18], [2, 3], 0), (20, [18, 0], [2], 2), (23, [0], [2], 4), (90, [18], [], -2147483648), (91, [18], [], 2147483647), (0, [17], [], 1), (40, [15, 16], [], 0), (0, [16], [], 6), (20, [15, 0], [2], 2), (23, [0], [2], 4), (90, [15], [], -2147483648), (91, [15], [], 2147483647), (40, [13, 14], [], 0), (0, [14], [], 7), (20, [13, 0], [2], 2), (23, [0], [2], 4), (90, [13], [], -2147483648), (91, [13], [], 2147483647), (41, [11, 12], [], 0), (0, [12], [], 6), (20, [11, 0], [2], 2), (23, [0], [2], 4), (90, [11], [], -2147483648), (91, [11], [], 2147483647), (1067, [10, 0, 8, 9], [1, 2], 0), (90, [10], [], -2147483648), (91, [10], [], 2147483647), (0, [9], [], 7), (0, [8], [], 0), (1066, [0, 7], [0, 1], 0), (0, [7], [], 37), (40, [5, 6], [], 0), (0, [6], [], 37), (20, [5, 0], [0], 2), (23, [0], [0], 4), (90, [5], [], -2147483648), (91, [5], [], 2147483647), (0, [4], [], 0), (0, [3], [], -1), (6000, [0, 1, 2], [0], 0), (0, [0], [], 30), (51, [1], [], 0), (90, [2], [], 0), (91, [2], [], 1)], (3000, [], [6], 123))
theorem c_81vw_s_11 : vOkm T0 (eN e_81v L_81vw A_81v mu_81v n_81 B_81 none) 3 g_81vw_s_11 := vOk_inI fun ρ η f0 f1 f2 f3 f4 f5 f6 f7 f8 f9 f10 f11 f12 f13 f14 f15 f16 f17 f18 f19 f20 f21 f22 f23 f24 f25 f26 f27 f28 f29 f30 f31 f32 f33 f34 f35 f36 f37 f38 f39 f40 f41 f42 f43 f44 f45 f46 f47 f48 f49 f50 f51 f52 f53 f54 f55 f56 => q_81vw_11 (n0 := ρ 2) (n1 := ρ 1) (n2 := ρ 0) (n3 := ρ 3) (n4 := ρ 4) (n5 := ρ 5) (n6 := ρ 6) (n7 := ρ 7) (n8 := ρ 8) (n9 := ρ 9) (n10 := ρ 10) (n11 := ρ 11) (n12 := ρ 12) (n13 := ρ 13) (n14 := ρ 14) (n15 := ρ 15) (n16 := ρ 16) (n17 := ρ 17) (n18 := ρ 18) (n19 := ρ 19) (n20 := ρ 20) (n21 := ρ 21) (n22 := ρ 22) (n23 := ρ 23) (n24 := ρ 24) (H0 := η 0) (H1 := η 1) (H2 := η 2) (H3 := η 3) (H4 := η 4) (H5 := η 5) (H6 := η 6) f56 f55 f54 f53 f52 f51 f50 f49 f48 f47 f46 f45 f44 f43 f42 f41 f40 f39 f38 f37 f36 f35 f34 f33 f32 f31 f30 f29 f28 f27 f26 f25 f24 f23 f22 f21 f20 f19 f18 f17 f16 f15 f14 f13 f12 f11 f10 f9 f8 f7 f6 f5 f4 f3 f2 f1 f0
def p_81vw_s : List vG := [g_81vw_s_0,
  g_81vw_s_1,
  g_81vw_s_2,
  g_81vw_s_3,
  g_81vw_s_4,
  g_81vw_s_5,
  g_81vw_s_6,
  g_81vw_s_7,
  g_81vw_s_8,
  g_81vw_s_9,
  g_81vw_s_10,
  g_81vw_s_11]
theorem r_81vw_s : vCovBO (eR0 e_81v L_81v cs_81v 2000) p_81vw_s = true := by decide +kernel
theorem m_81vw (d : Nat) : eC e_81vw (d + 4) := eC_ref (e := e_81v) (L := L_81v) (L' := L_81vw) (cs := cs_81v) (n := 2000) (d := d + 3) (A := A_81v) (μ := mu_81v) (tp := false) (p0 := p_81v_s) (p1 := p_81vw_s) (N := n_81) (B := B_81) rfl ⟨m_66v (d + 1), ⟨m_67vw d, trivial⟩⟩ rfl (.inl rfl) (by decide +kernel) (fun z => nomatch z) r_81v_s (allC c_81v_s_0 (allC c_81v_s_1 (allC c_81v_s_2 (allC c_81v_s_3 (allC c_81v_s_4 (allC c_81v_s_5 (allC c_81v_s_6 (allC c_81v_s_7 (allC c_81v_s_8 (allC c_81v_s_9 (allC c_81v_s_10 (allC c_81v_s_11 (allC c_81v_s_12 (allC c_81v_s_13 (allC c_81v_s_14 (allC c_81v_s_15 (allC c_81v_s_16 (allC c_81v_s_17 (allC c_81v_s_18 (allC c_81v_s_19 (allC c_81v_s_20 (allC c_81v_s_21 (allC c_81v_s_22 allN))))))))))))))))))))))) allN (sub0 (sub1 trivial)) r_81vw_s (allC c_81vw_s_0 (allC c_81vw_s_1 (allC c_81vw_s_2 (allC c_81vw_s_3 (allC c_81vw_s_4 (allC c_81vw_s_5 (allC c_81vw_s_6 (allC c_81vw_s_7 (allC c_81vw_s_8 (allC c_81vw_s_9 (allC c_81vw_s_10 (allC c_81vw_s_11 allN)))))))))))) allN
