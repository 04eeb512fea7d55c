/-! WHAT IS COUPLED at the law's loop (hand; behind mixc, mixr, mixt, mixrr). -/
def CPL (h : gH) : Prop := mC h = mR h ∧ MT (mC h) ∧ ICm h ∧ IRm h ∧ KM h ∧ RDY h ∧ KEYS h
theorem KEYS_fr {W : List (Nat × Nat)} {a b : gH} (f : hFr W a b) (c : vFreeR W 292 = true) (z : KEYS a) : KEYS b := by
  unfold KEYS
  rw [fRow f 292 c]
  exact z
theorem ICm_fr {W : List (Nat × Nat)} {a b : gH} (f : hFr W a b) (c : cMC W = true) (z : ICm a) : ICm b := by
  unfold cMC at c
  simp only [Bool.and_eq_true] at c
  exact ICm_of (ED_fr f c.2.2) z
noncomputable def cCPL (W : List (Nat × Nat)) : Bool := cMC W && (cRM W && (cRD W && vFreeR W 292))
theorem CPL_fr {W : List (Nat × Nat)} {a b : gH} (le : hLe T0 a b) (f : hFr W a b) (c : cCPL W = true) (z : CPL a) : CPL b := by
  unfold cCPL at c
  simp only [Bool.and_eq_true] at c
  obtain ⟨c1, c2, c3, c4⟩ := c
  obtain ⟨z1, z2, z3, z4, z5, z6, z7⟩ := z
  have e := mC_fr f c1
  have r := mR_fr f c2
  exact ⟨e.trans (z1.trans r.1.symm), by rw [e]; exact z2, ICm_fr f c1 z3, r.2 z4, KM_le le z5, RDY_fr le f c3 z6, KEYS_fr f c4 z7⟩
noncomputable def cCPa (W : List (Nat × Nat)) : Bool := cRM W && vFreeR W 292
noncomputable def cCPb (W : List (Nat × Nat)) : Bool := cMC W && (cRD W && vFreeR W 292)
/-- a call of both, told by one change of the told state -/
theorem CPL_pair {Wc Wr : List (Nat × Nat)} {a b c : gH} {F : MXS → MXS × Int} {r1 r2 : Int} (z : CPL a) (f1 : hFr Wc a b) (c1 : cCPa Wc = true) (pa : KM b ∧ ICm b ∧ (mC b, r1) = F (mC a)) (rd : RDY b) (le2 : hLe T0 b c) (f2 : hFr Wr b c) (c2 : cCPb Wr = true) (pb : IRm b → MT (mR b) → IRm c ∧ (mR c, r2) = F (mR b)) (mt : ∀ m, MT m → MT (F m).1) : r2 = r1 ∧ CPL c := by
  unfold cCPa at c1
  unfold cCPb at c2
  simp only [Bool.and_eq_true] at c1 c2
  obtain ⟨z1, z2, z3, z4, z5, z6, z7⟩ := z
  obtain ⟨p1, p2, p3⟩ := pa
  have rb := mR_fr f1 c1.1
  have q := pb (rb.2 z4) (by rw [rb.1, ← z1]; exact z2)
  have e : (mR c, r2) = (mC b, r1) := by rw [q.2, p3, rb.1, ← z1]
  have ec := mC_fr f2 c2.1
  have m1 : mR c = mC b := congrArg Prod.fst e
  refine ⟨congrArg Prod.snd e, ec.trans m1.symm, ?_, ICm_fr f2 c2.1 p2, q.1, KM_le le2 p1, RDY_fr le2 f2 c2.2.1 rd, KEYS_fr f2 c2.2.2 (KEYS_fr f1 c1.2 z7)⟩
  rw [ec, show mC b = (F (mC a)).1 from congrArg Prod.fst p3]
  exact mt _ z2
theorem CPL_R {W : List (Nat × Nat)} {a b : gH} (z : CPL a) (f : hFr W a b) (c : cRM W = true) : mR b = mC a ∧ MT (mR b) := by
  have r := mR_fr f c
  exact ⟨r.1.trans z.1.symm, by rw [r.1, ← z.1]; exact z.2.1⟩
theorem CPL_pre {h : gH} (z : CPL h) : KM h ∧ ICm h ∧ MT (mC h) := ⟨z.2.2.2.2.1, z.2.2.1, z.2.1⟩
theorem CPL_rd {h : gH} (z : CPL h) : RDY h ∧ KM h ∧ ICm h ∧ MT (mC h) := ⟨z.2.2.2.2.2.1, z.2.2.2.2.1, z.2.2.1, z.2.1⟩
