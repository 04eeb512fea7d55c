/-! THE CLASS'S tape, SHEETS' number and EDITIONS (hand; behind mix.lean.txt and tokens12.lean.txt). -/
def KM (h : gH) : Prop := TP h ∧ (hK h 20 = 700 ∧ hN h 20 = 6) ∧ (hK h 21 = 700 ∧ hN h 21 = 6) ∧ hK h 22 = 700 ∧ hN h 22 = 360
def ICm (h : gH) : Prop := hV h 19 4 ≤ hV h 19 3 - 1
noncomputable def mC (h : gH) : MXS := (hV h 7 1, hV h 8, hV h 7 2, hV h 7 4, hV h 19 3, hV h 20, hV h 21, hV h 22, if hV h 19 4 = hV h 19 3 - 1 then 1 else 0)
theorem KM_le {a b : gH} (le : hLe T0 a b) (z : KM a) : KM b := by
  obtain ⟨z0, ⟨z1, z2⟩, ⟨z3, z4⟩, z5, z6⟩ := z
  exact ⟨TP_le le z0, ⟨kLe le z1 rfl, (le.2 _ (hK_lt z1 (by decide))).2.1.trans z2⟩, ⟨kLe le z3 rfl, (le.2 _ (hK_lt z3 (by decide))).2.1.trans z4⟩, kLe le z5 rfl, (le.2 _ (hK_lt z5 (by decide))).2.1.trans z6⟩
theorem KM_up {a b : gH} {o i w : Int} (f : hUpd b a o i w) (z : KM a) : KM b := by
  obtain ⟨z0, ⟨z1, z2⟩, ⟨z3, z4⟩, z5, z6⟩ := z
  exact ⟨TP_up f z0, ⟨(f.2.2 _).1.trans z1, (f.2.2 _).2.trans z2⟩, ⟨(f.2.2 _).1.trans z3, (f.2.2 _).2.trans z4⟩, (f.2.2 _).1.trans z5, (f.2.2 _).2.trans z6⟩
/-- the rows of the EDITIONS stay -/
def ERs (a b : gH) : Prop := hV b 20 = hV a 20 ∧ hV b 21 = hV a 21 ∧ hV b 22 = hV a 22
noncomputable def cER (W : List (Nat × Nat)) : Bool := vFreeR W 20 && (vFreeR W 21 && vFreeR W 22)
theorem ER_fr {W : List (Nat × Nat)} {a b : gH} (f : hFr W a b) (c : cER W = true) : ERs a b := by
  unfold cER at c
  simp only [Bool.and_eq_true] at c
  exact ⟨fRow f 20 c.1, fRow f 21 c.2.1, fRow f 22 c.2.2⟩
theorem ER_up {a b : gH} {o i w : Int} (f : hUpd b a o i w) (n0 : ¬ o = 20) (n1 : ¬ o = 21) (n2 : ¬ o = 22) : ERs a b := ⟨uRowNe f 20 (by omega), uRowNe f 21 (by omega), uRowNe f 22 (by omega)⟩
theorem ER_rfl {a : gH} : ERs a a := ⟨rfl, rfl, rfl⟩
theorem ER_tr {a b c : gH} (x : ERs a b) (y : ERs b c) : ERs a c := ⟨y.1.trans x.1, y.2.1.trans x.2.1, y.2.2.trans x.2.2⟩
/-- the other parts stay -/
def MOs (a b : gH) : Prop := hV b 7 1 = hV a 7 1 ∧ hV b 8 = hV a 8 ∧ hV b 7 2 = hV a 7 2 ∧ hV b 7 4 = hV a 7 4
noncomputable def cMO (W : List (Nat × Nat)) : Bool := vFree W 7 1 && (vFreeR W 8 && (vFree W 7 2 && vFree W 7 4))
theorem MO_fr {W : List (Nat × Nat)} {a b : gH} (f : hFr W a b) (c : cMO W = true) : MOs a b := by
  unfold cMO at c
  simp only [Bool.and_eq_true] at c
  exact ⟨f.1 7 1 c.1, fRow f 8 c.2.1, f.1 7 2 c.2.2.1, f.1 7 4 c.2.2.2⟩
theorem MO_tr {a b c : gH} (x : MOs a b) (y : MOs b c) : MOs a c := ⟨y.1.trans x.1, y.2.1.trans x.2.1, y.2.2.1.trans x.2.2.1, y.2.2.2.trans x.2.2.2⟩
theorem MO_up {a b : gH} {o i w : Int} (f : hUpd b a o i w) (n0 : ¬ o = 7) (n1 : ¬ o = 8) : MOs a b := by
  have e := uRowNe f 7 (by omega)
  exact ⟨congrFun e 1, uRowNe f 8 (by omega), congrFun e 2, congrFun e 4⟩
def EDs (a b : gH) : Prop := hV b 19 3 = hV a 19 3 ∧ hV b 19 4 = hV a 19 4
noncomputable def cED (W : List (Nat × Nat)) : Bool := vFree W 19 3 && vFree W 19 4
theorem ED_fr {W : List (Nat × Nat)} {a b : gH} (f : hFr W a b) (c : cED W = true) : EDs a b := by
  unfold cED at c
  simp only [Bool.and_eq_true] at c
  exact ⟨f.1 19 3 c.1, f.1 19 4 c.2⟩
theorem mC_of {a b : gH} (x : MOs a b) (y : ERs a b) (z : EDs a b) : mC b = mC a := by
  unfold mC
  rw [x.1, x.2.1, x.2.2.1, x.2.2.2, y.1, y.2.1, y.2.2, z.1, z.2]
noncomputable def cMC (W : List (Nat × Nat)) : Bool := cMO W && (cER W && cED W)
theorem mC_fr {W : List (Nat × Nat)} {a b : gH} (f : hFr W a b) (c : cMC W = true) : mC b = mC a := by
  unfold cMC at c
  simp only [Bool.and_eq_true] at c
  exact mC_of (MO_fr f c.1) (ER_fr f c.2.1) (ED_fr f c.2.2)
theorem ICm_of {a b : gH} (y : EDs a b) (z : ICm a) : ICm b := by
  unfold ICm
  rw [y.1, y.2]
  exact z
theorem MTc {h : gH} (z : MT (mC h)) : (0 ≤ hV h 7 1 ∧ hV h 7 1 ≤ 2000) ∧ (0 ≤ hV h 7 4 ∧ hV h 7 4 ≤ 8) ∧ (1 ≤ hV h 19 3 ∧ hV h 19 3 ≤ 6) ∧ (∀ j : Nat, 0 ≤ hV h 20 j ∧ hV h 20 j ≤ 60) ∧ (∀ j : Nat, 0 ≤ hV h 21 j ∧ hV h 21 j ≤ 10) ∧ (∀ j : Nat, -1 ≤ hV h 22 j ∧ hV h 22 j ≤ 59) ∧ ∀ j : Nat, hV h 19 3 ≤ (j : Int) → hV h 20 j = 0 ∧ hV h 21 j = 0 := z
theorem atQ_r {h : gH} {a i r : Int} {q n : Nat} (e : r = atQ h a i) (ha : a = (q : Int)) (hn : hN h q = n) : r = if 0 ≤ i ∧ i < (n : Int) then hV h q i.toNat else 0 := by
  rw [e]
  unfold atQ
  subst ha
  rw [Int.toNat_natCast, hn]
  by_cases c : 0 ≤ i ∧ i < (n : Int)
  · rw [if_pos c, if_pos ⟨by omega, c⟩]
  · rw [if_neg c, if_neg (fun w => c w.2)]
theorem putQ_r {a0 a1 a2 : Int} {a b : gH} {q n : Nat} (h : putQ a0 a1 a2 a b) (ha : a0 = (q : Int)) (hn : hN a q = n) (h1 : a1 < (n : Int)) : hV b q = uF (hV a q) a1 a2 := by
  subst ha
  have y := putQ_row h (Int.natCast_nonneg q) (by rw [Int.toNat_natCast, hn]; exact h1)
  rw [Int.toNat_natCast] at y
  exact y
noncomputable def cPT (W : List (Nat × Nat)) : Bool := (vFree W 7 2 && vFree W 7 4) && (cER W && cED W)
theorem mC_put {W : List (Nat × Nat)} {a b : gH} {w : Int} (f : hFr W a b) (c : cPT W = true) (e1 : hV b 7 1 = hV a 7 1 + 4) (e2 : hV b 8 = pW w (hV a 8) (hV a 7 1) 4) : mC b = mPut w (mC a) := by
  unfold cPT at c
  simp only [Bool.and_eq_true] at c
  have y := ER_fr f c.2.1
  have z := ED_fr f c.2.2
  unfold mC
  rw [e1, e2, f.1 7 2 c.1.1, f.1 7 4 c.1.2, y.1, y.2.1, y.2.2, z.1, z.2]
  rfl
theorem mC_size {a b : gH} {r : Nat → Int} (x : MOs a b) (z : EDs a b) (e0 : hV b 20 = r) (e1 : hV b 21 = hV a 21) (e2 : hV b 22 = hV a 22) : mC b = ((mC a).1, (mC a).2.1, (mC a).2.2.1, (mC a).2.2.2.1, (mC a).2.2.2.2.1, r, (mC a).2.2.2.2.2.2) := by
  unfold mC
  rw [x.1, x.2.1, x.2.2.1, x.2.2.2, e0, e1, e2, z.1, z.2]
theorem mC_taped {a b : gH} {w n : Int} {o i : Int} (f : hUpd b a o i w) (ho : o = 7) (hi : i = 1) (e : w = n) : mC b = (n, (mC a).2) := by
  subst ho hi e
  have y := ER_up f (by decide) (by decide) (by decide)
  have r := uRowNe f 19 (by decide)
  unfold mC
  rw [uSame f 7 1 rfl rfl, uRowNe f 8 (by decide), uSlot f 7 2 (by decide), uSlot f 7 4 (by decide), y.1, y.2.1, y.2.2, r]
theorem mC_begin {a b : gH} {e : Int} (x : MOs a b) (y : ERs a b) (e3 : hV b 19 3 = e) (n : ¬ hV b 19 4 = e - 1) : mC b = ((mC a).1, (mC a).2.1, (mC a).2.2.1, (mC a).2.2.2.1, e, (mC a).2.2.2.2.2.1, (mC a).2.2.2.2.2.2.1, (mC a).2.2.2.2.2.2.2.1, 0) := by
  unfold mC
  rw [x.1, x.2.1, x.2.2.1, x.2.2.2, y.1, y.2.1, y.2.2, e3, if_neg n]
/-- what a reading wants, and leaves -/
def D7 (h : gH) : Prop := 0 ≤ hV h 7 5 ∧ hK h (hV h 7 5).toNat = 5
def RDY (h : gH) : Prop := KS5 h ∧ KB h ∧ CU h ∧ DR h ∧ D7 h ∧ WDS h ∧ PBt h
noncomputable def cRD (W : List (Nat × Nat)) : Bool := vFreeR W 45 && (vFree W 30 8 && (vFree W 7 5 && (vFreeR W 32 && vFreeR W 34)))
theorem D7_fr {W : List (Nat × Nat)} {a b : gH} (le : hLe T0 a b) (f : hFr W a b) (c : vFree W 7 5 = true) (z : D7 a) : D7 b := by
  unfold D7
  rw [f.1 7 5 c]
  exact ⟨z.1, kLe le z.2 rfl⟩
theorem RDY_fr {W : List (Nat × Nat)} {a b : gH} (le : hLe T0 a b) (f : hFr W a b) (c : cRD W = true) (z : RDY a) : RDY b := by
  unfold cRD at c
  simp only [Bool.and_eq_true] at c
  obtain ⟨z1, z2, z3, z4, z5, z6, z7⟩ := z
  refine ⟨KS5_le le z1, KB_le le z2, CU_fr le f c.1 z3, (DR_fr le f c.2.1 z4).1, D7_fr le f c.2.2.1 z5, WDS_fr le f c.2.2.2.1 z6, ?_⟩
  unfold PBt
  rw [fRow f 34 c.2.2.2.2]
  exact z7
theorem mC_read {a b : gH} {p : Int} (e1 : hV b 7 1 = 0) (e8 : hV b 8 = hV a 8) (e2 : hV b 7 2 = p) (e4 : hV b 7 4 = hV a 7 4) (y : ERs a b) (z : EDs a b) : mC b = (0, (mC a).2.1, p, (mC a).2.2.2) := by
  unfold mC
  rw [e1, e8, e2, e4, y.1, y.2.1, y.2.2, z.1, z.2]
theorem mC_told {a b : gH} {p : Int} (e1 : hV b 7 1 = 0) (e8 : hV b 8 = hV a 8) (e2 : hV b 7 2 = p) (e4 : hV b 7 4 = hV a 7 4 + 1) (y : ERs a b) (e3 : hV b 19 3 = hV a 19 3) (et : hV b 19 4 = hV a 19 3 - 1) : mC b = (0, (mC a).2.1, p, (mC a).2.2.2.1 + 1, (mC a).2.2.2.2.1, (mC a).2.2.2.2.2.1, (mC a).2.2.2.2.2.2.1, (mC a).2.2.2.2.2.2.2.1, 1) := by
  unfold mC
  rw [e1, e8, e2, e4, y.1, y.2.1, y.2.2, e3, et, if_pos rfl]
theorem CU_upc {a b : gH} {o i w : Int} (f : hUpd b a o i w) (n : ¬ o = 45) (z : CU a) : CU b := by
  obtain ⟨z1, z2, z3⟩ := z
  refine ⟨(f.2.2 _).1.trans z1, (f.2.2 _).2.trans z2, fun j hj => ?_⟩
  rw [uRowNe f 45 (by omega), (f.2.2 _).1]
  exact z3 j hj
theorem mRead_1 {m : MXS} (h : ¬ 8 ≤ m.2.2.2.1) (c : pRes (pRead (pTx m.2.1 m.1)) = 0 ∧ ¬ (pTx m.2.1 m.1).1 0 = 19) : mRead m = ((0, m.2.1, pPlc (pRead (pTx m.2.1 m.1)), m.2.2.2.1 + 1, m.2.2.2.2.1, m.2.2.2.2.2.1, m.2.2.2.2.2.2.1, m.2.2.2.2.2.2.2.1, 1), pRes (pRead (pTx m.2.1 m.1))) := by
  unfold mRead
  rw [if_neg h, if_pos c]
theorem mRead_0 {m : MXS} (h : ¬ 8 ≤ m.2.2.2.1) (c : ¬ (pRes (pRead (pTx m.2.1 m.1)) = 0 ∧ ¬ (pTx m.2.1 m.1).1 0 = 19)) : mRead m = ((0, m.2.1, pPlc (pRead (pTx m.2.1 m.1)), m.2.2.2), pRes (pRead (pTx m.2.1 m.1))) := by
  unfold mRead
  rw [if_neg h, if_neg c]
