/- Reader.readLoud ()V, more fully -/
def nbo_86 (a0 : Int) (h0 h : gH) : Prop := ∀ d : Int, d = hV h0 30 8 → RO h0 d → W49 h0 → RO h d ∧ OT h0 h d ∧ W49 h ∧ ∀ (L : List Int) (R : List Rul), CODE h0 d L → (L.length : Int) ≤ (absC h0).1 → RLl h0 d L R → R.length < 12 → 0 ≤ (absC h).1 → (absC h).2 = 0 → (vwC h0).1 (absC h0).1 = 40 → ∃ M : List Int, CODE h d (L ++ M) ∧ ((L ++ M).length : Int) ≤ (absC h).1 ∧ RLl h d (L ++ M) (R ++ [(xRule (vwC h0) (absC h0))]) ∧ GRl (xRule (vwC h0) (absC h0))
def no_86 : List Int → gH → gH → Prop := fun xs h0 h => match xs with
  | [a0] => nbo_86 a0 h0 h
  | _ => True
noncomputable def e_86o : vE := eV e_86v no_86
noncomputable def L_86o : List vE := [e_66v, e_67vw, e_99o, e_102o]
def Bo_86 : Int → List Int → gH → gH → Prop := fun c xs h0 h => True
theorem q_86o_0 {n0 n1 n2 n3 n4 n5 n6 n7 n8 n9 n10 : Int} {H0 H1 H2 H3 H4 H5 H6 : gH} (f0 : n0 = 30) (f1 : hWt T0 H0 ∧ preb_86v n0 H0) (f2 : n1 = 40) (f3 : (hLe T0 H0 H1 ∧ hFr s_66v.2.2.2.2 H0 H1 ∧ ((0 : Int) = 0 → H1.length = H0.length) ∧ hWt T0 H1) ∧ postb_66v n0 n1 H0 H1) (f4 : n2 = 0) (f5 : n3 = 9999) (f6 : n4 ≤ 2147483647) (f7 : (-2147483648) ≤ n4) (f8 : (hLe T0 H1 H2 ∧ hFr s_67v.2.2.2.2 H1 H2 ∧ ((0 : Int) = 0 → H2.length = H1.length) ∧ hWt T0 H2) ∧ (postb_67v n4 n0 n2 n3 H1 H2 ∧ nb_67 n4 n0 n2 n3 H1 H2)) (f9 : n5 = 41) (f10 : (hLe T0 H2 H3 ∧ hFr s_66v.2.2.2.2 H2 H3 ∧ ((0 : Int) = 0 → H3.length = H2.length) ∧ hWt T0 H3) ∧ postb_66v n0 n5 H2 H3) (f11 : n6 = 1) (f12 : n7 = 60) (f13 : n8 ≤ 2147483647) (f14 : (-2147483648) ≤ n8) (f15 : (hLe T0 H3 H4 ∧ hFr s_67v.2.2.2.2 H3 H4 ∧ ((0 : Int) = 0 → H4.length = H3.length) ∧ hWt T0 H4) ∧ (postb_67v n8 n0 n6 n7 H3 H4 ∧ nb_67 n8 n0 n6 n7 H3 H4)) (f16 : 0 ≤ n9) (f17 : hK H4 (n0).toNat = 4) (f18 : n9 = hV H4 (n0).toNat 8) (f19 : (hLe T0 H4 H5 ∧ hFr s_99.2.2.2.2 H4 H5 ∧ ((0 : Int) = 0 → H5.length = H4.length) ∧ hWt T0 H5) ∧ (True ∧ nbo_99 n9 H4 H5)) (f20 : 0 ≤ n10) (f21 : hK H5 (n0).toNat = 4) (f22 : n10 = hV H5 (n0).toNat 8) (f23 : (hLe T0 H5 H6 ∧ hFr s_102v.2.2.2.2 H5 H6 ∧ ((0 : Int) = 0 → H6.length = H5.length) ∧ hWt T0 H6) ∧ (postb_102v n10 n4 n8 H5 H6 ∧ nbo_102 n10 n4 n8 H5 H6)) : nbo_86 n0 H0 H6 := by
  unfold nbo_86
  intro d ed zo w49
  have pz := f1.2
  unfold preb_86v at pz
  have pz := pz.1
  have c0 := f3.2
  unfold postb_66v at c0
  try rw [f2] at c0
  have a0 : absC H1 = (ptk (vwC H0) 40 (absC H0)) := c0.2
  have v0 : vwC H1 = vwC H0 := (vwC_fr f3.1.2.1 (by decide +kernel))
  have c1 := f8.2.1
  unfold postb_67v at c1
  try rw [f4] at c1
  try rw [f5] at c1
  rw [v0] at c1
  rw [a0] at c1
  have a1 : absC H2 = (pnm (vwC H0) 0 9999 (ptk (vwC H0) 40 (absC H0))) := c1.2
  have v1 : vwC H2 = vwC H0 := (vwC_fr f8.1.2.1 (by decide +kernel)).trans v0
  have c2 := f10.2
  unfold postb_66v at c2
  try rw [f9] at c2
  rw [v1] at c2
  rw [a1] at c2
  have a2 : absC H3 = (ptk (vwC H0) 41 (pnm (vwC H0) 0 9999 (ptk (vwC H0) 40 (absC H0)))) := c2.2
  have v2 : vwC H3 = vwC H0 := (vwC_fr f10.1.2.1 (by decide +kernel)).trans v1
  have c3 := f15.2.1
  unfold postb_67v at c3
  try rw [f11] at c3
  try rw [f12] at c3
  rw [v2] at c3
  rw [a2] at c3
  have a3 : absC H4 = (pnm (vwC H0) 1 60 (ptk (vwC H0) 41 (pnm (vwC H0) 0 9999 (ptk (vwC H0) 40 (absC H0))))) := c3.2
  have v3 : vwC H4 = vwC H0 := (vwC_fr f15.1.2.1 (by decide +kernel)).trans v2
  have s4 := PF_fr f19.1.1 f19.1.2.1 (by decide +kernel) c3.1
  have a4 : absC H5 = (pnm (vwC H0) 1 60 (ptk (vwC H0) 41 (pnm (vwC H0) 0 9999 (ptk (vwC H0) 40 (absC H0))))) := s4.1.trans a3
  have v4 : vwC H5 = vwC H0 := s4.2.1.trans v3
  have s5 := PF_fr f23.1.1 f23.1.2.1 (by decide +kernel) s4.2.2
  have a5 : absC H6 = (pnm (vwC H0) 1 60 (ptk (vwC H0) 41 (pnm (vwC H0) 0 9999 (ptk (vwC H0) 40 (absC H0))))) := s5.1.trans a4
  have v5 : vwC H6 = vwC H0 := s5.2.1.trans v4
  have r18 : n9 = hV H4 30 8 := by
    have w := f18
    rw [f0] at w
    exact w
  have r22 : n10 = hV H5 30 8 := by
    have w := f22
    rw [f0] at w
    exact w
  have pb := f19.2.2
  unfold nbo_99 at pb
  rw [show n9 = d from r18.trans (show hV H4 30 8 = d from ((f15.1.2.1.1 30 8 (by decide +kernel)).trans ((f10.1.2.1.1 30 8 (by decide +kernel)).trans ((f8.1.2.1.1 30 8 (by decide +kernel)).trans (f3.1.2.1.1 30 8 (by decide +kernel))))).trans ed.symm)] at pb
  have en := f23.2.2
  unfold nbo_102 at en
  rw [show n10 = d from r22.trans (show hV H5 30 8 = d from ((f19.1.2.1.1 30 8 (by decide +kernel)).trans ((f15.1.2.1.1 30 8 (by decide +kernel)).trans ((f10.1.2.1.1 30 8 (by decide +kernel)).trans ((f8.1.2.1.1 30 8 (by decide +kernel)).trans (f3.1.2.1.1 30 8 (by decide +kernel)))))).trans ed.symm)] at en
  obtain ⟨g1, g2, gr⟩ := RR_loud zo (SMf_tr (SMf_fr f3.1.1 f3.1.2.1 (by decide +kernel) (by decide +kernel)) (SMf_tr (SMf_fr f8.1.1 f8.1.2.1 (by decide +kernel) (by decide +kernel)) (SMf_tr (SMf_fr f10.1.1 f10.1.2.1 (by decide +kernel) (by decide +kernel)) (SMf_fr f15.1.1 f15.1.2.1 (by decide +kernel) (by decide +kernel))))) pb en
  refine ⟨g1, g2, (W49_le f23.1.1 (W49_le f19.1.1 (W49_le f15.1.1 (W49_le f10.1.1 (W49_le f8.1.1 (W49_le f3.1.1 w49)))))), fun L R cl hl rl lt hp h2 k40 => ?_⟩
  have hf : hV H6 30 3 = 0 := fault_no s5.2.2 hp
  have hzH5 := fzE s4.2.2 s5.2.2 a4 a5 (fun _ _ => rfl) hf
  have hzH4 := fzE c3.1 s4.2.2 a3 a4 (fun _ _ => rfl) hzH5.1
  have hzH3 := fzE c2.1 c3.1 a2 a3 (fun n k => pnm_neg n k) hzH4.1
  have hzH2 := fzE c1.1 c2.1 a1 a2 (fun n k => ptk_neg n k) hzH3.1
  have hzH1 := fzE c0.1 c1.1 a0 a1 (fun n k => pnm_neg n k) hzH2.1
  have hzH0 := fzE pz c0.1 rfl a0 (fun n k => ptk_neg n k) hzH1.1
  have tv15 : n8 = tvl (vwC H0) (ptk (vwC H0) 41 (pnm (vwC H0) 0 9999 (ptk (vwC H0) 40 (absC H0)))) := by
    have w := f15.2.2
    unfold nb_67 at w
    have w := w hzH4.1
    rw [v2, a2] at w
    exact w
  have eH : absC H6 = pLoud (vwC H0) (absC H0) := a5
  rw [eH] at hp h2
  have pin := pLoud_in (absC_ok pz) hp h2
  have mv := pLoud_mv pz.2.1 hp
  unfold tvl at tv15
  have y := gr L R cl rl lt (by omega)
  rw [xRule_loud k40]
  refine ⟨[], y.2, ?_, y.1, GRl_none⟩
  rw [List.append_nil, eH]
  omega
def g_86o_s_0 : vG := ([(1102, [10, 4, 8], [5, 6], 0), (20, [10, 0], [5], 8), (23, [0], [5], 4), (51, [10], [], 0), (1099, [9], [4, 5], 0), (20, [9, 0], [4], 8), (23, [0], [4], 4), (51, [9], [], 0), (1067, [8, 0, 6, 7], [3, 4], 0), (90, [8], [], -2147483648), (91, [8], [], 2147483647), (0, [7], [], 60), (0, [6], [], 1), (1066, [0, 5], [2, 3], 0), (0, [5], [], 41), (1067, [4, 0, 2, 3], [1, 2], 0), (90, [4], [], -2147483648), (91, [4], [], 2147483647), (0, [3], [], 9999), (0, [2], [], 0), (1066, [0, 1], [0, 1], 0), (0, [1], [], 40), (6000, [0], [0], 0), (0, [0], [], 30)], (3000, [], [6], 45))
theorem c_86o_s_0 : vOkm T0 (eN e_86v L_86o A_86v mu_86v no_86 Bo_86 none) 1 g_86o_s_0 := vOk_inI fun ρ η f0 f1 f2 f3 f4 f5 f6 f7 f8 f9 f10 f11 f12 f13 f14 f15 f16 f17 f18 f19 f20 f21 f22 f23 => q_86o_0 (n0 := ρ 0) (n1 := ρ 1) (n2 := ρ 2) (n3 := ρ 3) (n4 := ρ 4) (n5 := ρ 5) (n6 := ρ 6) (n7 := ρ 7) (n8 := ρ 8) (n9 := ρ 9) (n10 := ρ 10) (H0 := η 0) (H1 := η 1) (H2 := η 2) (H3 := η 3) (H4 := η 4) (H5 := η 5) (H6 := η 6) f23 f22 f21 f20 f19 f18 f17 f16 f15 f14 f13 f12 f11 f10 f9 f8 f7 f6 f5 f4 f3 f2 f1 f0
def p_86o_s : List vG := [g_86o_s_0]
theorem r_86o_s : vCovBO (eR0 e_86v L_86v cs_86v 2000) p_86o_s = true := by decide +kernel
theorem m_86o (d : Nat) : eC e_86o (d + 4) := eC_ref (e := e_86v) (L := L_86v) (L' := L_86o) (cs := cs_86v) (n := 2000) (d := d + 3) (A := A_86v) (μ := mu_86v) (tp := false) (p0 := p_86v_s) (p1 := p_86o_s) (N := no_86) (B := Bo_86) rfl ⟨m_66v (d + 1), ⟨m_67vw d, ⟨m_99o (d + 1), ⟨m_102o (d + 1), trivial⟩⟩⟩⟩ rfl (.inl rfl) (by decide +kernel) (fun z => nomatch z) r_86v_s (allC c_86v_s_0 (allC c_86v_s_1 (allC c_86v_s_2 (allC c_86v_s_3 (allC c_86v_s_4 (allC c_86v_s_5 allN)))))) allN (sub0 (sub1 (sub1 (sub1 trivial)))) r_86o_s (allC c_86o_s_0 allN) allN
