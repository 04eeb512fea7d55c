theorem o64_sub {x y : Int} (h : -9223372036854775808 ≤ x - y) (k : x - y ≤ 9223372036854775807) : o64 (fun x y => x - y) x y = x - y := by
  show (Int64.ofInt x - Int64.ofInt y).toInt = _
  rw [← Int64.ofInt_sub, Int64.toInt_ofInt]
  exact bmod64q h k
/-- between 0 and n steps -/
theorem mul_btw {s k n : Int} (h0 : 0 ≤ k) (h1 : k ≤ n) : (0 ≤ s ∧ 0 ≤ s * k ∧ s * k ≤ s * n) ∨ (s ≤ 0 ∧ s * n ≤ s * k ∧ s * k ≤ 0) := by
  rcases Int.le_total 0 s with c | c
  · exact .inl ⟨c, Int.mul_nonneg c h0, Int.mul_le_mul_of_nonneg_left h1 c⟩
  · refine .inr ⟨c, ?_, ?_⟩
    · have := Int.mul_le_mul_of_nonneg_left h1 (show 0 ≤ -s by omega)
      rw [Int.neg_mul, Int.neg_mul] at this
      omega
    · have := Int.mul_nonneg (show 0 ≤ -s by omega) h0
      rw [Int.neg_mul] at this
      omega
/-- a product of an int and a natural int -/
theorem mul_in {x y : Int} (h1 : -2147483648 ≤ x) (h2 : x ≤ 2147483647) (h3 : 0 ≤ y) (h4 : y ≤ 2147483647) : -4611686018427387904 ≤ x * y ∧ x * y ≤ 4611686018427387904 := by
  have a := mul_btw (s := x) h3 h4
  omega
/-- a step of a wave stays in its range -/
theorem wave_in {v s k n : Int} (h1 : -9999 ≤ v) (h2 : v ≤ 9999) (h3 : -9999 ≤ v + s * n) (h4 : v + s * n ≤ 9999) (h0 : 0 ≤ k) (h5 : k ≤ n) : -19998 ≤ s * k ∧ s * k ≤ 19998 ∧ -9999 ≤ v + s * k ∧ v + s * k ≤ 9999 := by
  have a := mul_btw (s := s) h0 h5
  omega
def CWc (k z a b v s : Int) : Prop := k ≤ 3 ∧ (b ≤ a ∨ (0 ≤ a ∧ b ≤ z ∧ -9999 ≤ v ∧ v ≤ 9999 ∧ -9999 ≤ v + s * (b - 1 - a) ∧ v + s * (b - 1 - a) ≤ 9999))
def ngF (x : Int) : Int := if x < 0 then w32 (-x) else x
def smF (x y : Int) : Int := ngF (w32 (x - y))
def atR (h : gH) (a i : Int) : Int := if 0 ≤ a ∧ 0 ≤ i ∧ i < (hN h a.toNat : Int) then hV h a.toNat i.toNat else 0
theorem atR_fr {W : List (Nat × Nat)} {a b : gH} (le : hLe T0 a b) (f : hFr W a b) {x : Int} (hk : hK a x.toNat = 780) (c : vLoc W 780 0 = false) (i : Int) : atR b x i = atR a x i := by
  unfold atR
  rw [(le.2 _ (hK_lt hk (by decide))).2.1, f.2.2 _ 780 hk rfl i.toNat (by rw [vLoc_row (by decide) i.toNat 0]; exact c)]
def RW (h : gH) (s : Int) : Int := hV h (hV h 24 s.toNat).toNat 4
def putR (a0 a1 a2 : Int) (a b : gH) : Prop := ∀ o i : Nat, hV b o i = if (o : Int) = a0 ∧ (i : Int) = a1 ∧ (i : Int) < (hN a o : Int) then a2 else hV a o i
theorem putR_same {a0 a1 a2 : Int} {a : gH} (h : a0 < 0 ∨ a1 < 0 ∨ (hN a a0.toNat : Int) ≤ a1) : putR a0 a1 a2 a a := fun o i => by
  rw [if_neg]
  intro z
  obtain ⟨z1, z2, z3⟩ := z
  rcases h with h | h | h
  · omega
  · omega
  · rw [show a0.toNat = o by omega] at h
    omega
theorem putR_upd {a0 a1 a2 : Int} {a b : gH} (f : hUpd b a a0 a1 a2) (h : a1 < (hN a a0.toNat : Int)) : putR a0 a1 a2 a b := fun o i => by
  rw [f.1 o i]
  by_cases c : (o : Int) = a0 ∧ (i : Int) = a1
  · rw [if_pos c, if_pos ⟨c.1, c.2, by rw [show a0.toNat = o by omega] at h; omega⟩]
  · rw [if_neg c, if_neg (fun z => c ⟨z.1, z.2.1⟩)]
/-- a new object with its rows -/
def NEWo (h : gH) (o : Int) : Prop := hV h o.toNat 4 = o + 1 ∧ hV h o.toNat 5 = o + 2 ∧ hK h (o + 1).toNat = 780 ∧ hN h (o + 1).toNat = 240 ∧ hK h (o + 2).toNat = 788 ∧ hN h (o + 2).toNat = 8 ∧ ∀ i : Nat, hV h (o + 1).toNat i = 0
theorem NEWo_up {a b : gH} {o p i w : Int} (f : hUpd b a p i w) (z : NEWo a o) (h0 : 0 ≤ o) (h1 : ¬ p = o ∨ (¬ i = 4 ∧ ¬ i = 5)) (h2 : ¬ p = o + 1) : NEWo b o := by
  obtain ⟨z1, z2, z3, z4, z5, z6, z7⟩ := z
  have s : ∀ j : Nat, j = 4 ∨ j = 5 → hV b o.toNat j = hV a o.toNat j := fun j hj => by
    rcases h1 with h1 | h1
    · exact uPlace f _ _ (by omega)
    · exact uSlot f _ _ (by omega)
  refine ⟨(s 4 (.inl rfl)).trans z1, (s 5 (.inr rfl)).trans z2, (f.2.2 _).1.trans z3, (f.2.2 _).2.trans z4, (f.2.2 _).1.trans z5, (f.2.2 _).2.trans z6, fun j => (uPlace f _ _ (by omega)).trans (z7 j)⟩
noncomputable def cNW (W : List (Nat × Nat)) : Bool := !(vLoc W 7 4) && (!(vLoc W 7 5) && !(vLoc W 780 0))
theorem NEWo_fr {W : List (Nat × Nat)} {a b : gH} (le : hLe T0 a b) (f : hFr W a b) (c : cNW W = true) {o : Int} (k : hK a o.toNat = 7) (z : NEWo a o) : NEWo b o := by
  unfold cNW at c
  simp only [Bool.and_eq_true, Bool.not_eq_true'] at c
  obtain ⟨z1, z2, z3, z4, z5, z6, z7⟩ := z
  refine ⟨(f.2.2 _ 7 k rfl 4 c.1).trans z1, (f.2.2 _ 7 k rfl 5 c.2.1).trans z2, kLe le z3 rfl, (le.2 _ (hK_lt z3 (by decide))).2.1.trans z4, kLe le z5 rfl, (le.2 _ (hK_lt z5 (by decide))).2.1.trans z6, fun j => (f.2.2 _ 780 z3 rfl j (by rw [vLoc_row (by decide) j 0]; exact c.2.2)).trans (z7 j)⟩
def NEWs (h : gH) (o x y : Int) : Prop := NEWo h o ∧ hV h o.toNat 1 = x ∧ hV h o.toNat 2 = y
theorem NEWs_up {a b : gH} {o p i w x y : Int} (f : hUpd b a p i w) (z : NEWs a o x y) (h0 : 0 ≤ o) (h1 : ¬ p = o ∨ (¬ i = 4 ∧ ¬ i = 5 ∧ ¬ i = 1 ∧ ¬ i = 2)) (h2 : ¬ p = o + 1) : NEWs b o x y := by
  obtain ⟨z1, z2, z3⟩ := z
  have s : ∀ j : Nat, j = 1 ∨ j = 2 → hV b o.toNat j = hV a o.toNat j := fun j hj => by
    rcases h1 with h1 | h1
    · exact uPlace f _ _ (by omega)
    · exact uSlot f _ _ (by omega)
  exact ⟨NEWo_up f z1 h0 (by omega) h2, (s 1 (.inl rfl)).trans z2, (s 2 (.inr rfl)).trans z3⟩
noncomputable def cNS (W : List (Nat × Nat)) : Bool := cNW W && (!(vLoc W 7 1) && !(vLoc W 7 2))
theorem NEWs_fr {W : List (Nat × Nat)} {a b : gH} (le : hLe T0 a b) (f : hFr W a b) (c : cNS W = true) {o x y : Int} (k : hK a o.toNat = 7) (z : NEWs a o x y) : NEWs b o x y := by
  unfold cNS at c
  simp only [Bool.and_eq_true, Bool.not_eq_true'] at c
  exact ⟨NEWo_fr le f c.1 k z.1, (f.2.2 _ 7 k rfl 1 c.2.1).trans z.2.1, (f.2.2 _ 7 k rfl 2 c.2.2).trans z.2.2⟩
def ADS (r x y : Int) (a b : gH) : Prop := r = -1 ∨ ((a.length : Int) ≤ hV b 24 r.toNat ∧ NEWs b (hV b 24 r.toNat) x y)
theorem ADS_from {r x y : Int} {a a' b : gH} (e3 : a'.length = a.length) (h : ADS r x y a' b) : ADS r x y a b := by
  unfold ADS at h ⊢
  rw [e3] at h
  exact h
/-- all rows of SAMPLES stay -/
def SRs (a b : gH) : Prop := ∀ o : Nat, hK a o = 780 → hK b o = 780 ∧ hN b o = hN a o ∧ ∀ j : Nat, hV b o j = hV a o j
theorem SRs_rfl (a : gH) : SRs a a := fun _ h => ⟨h, rfl, fun _ => rfl⟩
theorem SRs_tr {a b c : gH} (x : SRs a b) (y : SRs b c) : SRs a c := fun o h => ⟨(y o (x o h).1).1, (y o (x o h).1).2.1.trans (x o h).2.1, fun j => ((y o (x o h).1).2.2 j).trans ((x o h).2.2 j)⟩
theorem SRs_fr {W : List (Nat × Nat)} {a b : gH} (le : hLe T0 a b) (f : hFr W a b) (c : vLoc W 780 0 = false) : SRs a b := fun o h => ⟨kLe le h rfl, (le.2 _ (hK_lt h (by decide))).2.1, fun j => f.2.2 o 780 h rfl j (by rw [vLoc_row (by decide) j 0]; exact c)⟩
theorem SRs_up {a b : gH} {o i w : Int} (f : hUpd b a o i w) {k : Nat} (hk : hK a o.toNat = k) (ne : ¬ k = 780) : SRs a b := fun q h => ⟨(f.2.2 q).1.trans h, (f.2.2 q).2, fun j => uPlace f q j (fun e => ne (by rw [← hk, ← e, Int.toNat_natCast]; exact h))⟩
/-- one of a row's numbers told anew -/
def PUs (a b : gH) (q i v : Int) : Prop := ∀ o : Nat, hK a o = 780 → hK b o = 780 ∧ hN b o = hN a o ∧ ∀ j : Nat, hV b o j = if (o : Int) = q ∧ (j : Int) = i ∧ (j : Int) < (hN a o : Int) then v else hV a o j
theorem PUs_put {a b : gH} {q i v : Int} (le : hLe T0 a b) (p : putR q i v a b) : PUs a b q i v := fun o h => ⟨kLe le h rfl, (le.2 _ (hK_lt h (by decide))).2.1, fun j => p o j⟩
theorem PUs_pre {a b c : gH} {q i v : Int} (x : SRs a b) (y : PUs b c q i v) : PUs a c q i v := fun o h => by
  obtain ⟨x1, x2, x3⟩ := x o h
  obtain ⟨y1, y2, y3⟩ := y o x1
  exact ⟨y1, y2.trans x2, fun j => by rw [y3 j, x3 j, x2]⟩
theorem PUs_post {a b c : gH} {q i v : Int} (x : PUs a b q i v) (y : SRs b c) : PUs a c q i v := fun o h => by
  obtain ⟨x1, x2, x3⟩ := x o h
  obtain ⟨y1, y2, y3⟩ := y o x1
  exact ⟨y1, y2.trans x2, fun j => by rw [y3 j, x3 j]⟩
/-- a wave over a row -/
def WRsz (a b : gH) (q i j v s : Int) : Prop := ∀ o : Nat, hK a o = 780 → hK b o = 780 ∧ hN b o = hN a o ∧ ∀ k : Nat, hV b o k = if (o : Int) = q ∧ i ≤ (k : Int) ∧ (k : Int) < j ∧ (k : Int) < (hN a o : Int) then v + s * ((k : Int) - i) else hV a o k
theorem WRs_0 {a b : gH} {q i j v s : Int} (h : j ≤ i) (x : SRs a b) : WRsz a b q i j v s := fun o k => by
  obtain ⟨x1, x2, x3⟩ := x o k
  exact ⟨x1, x2, fun z => by rw [x3 z, if_neg (by omega)]⟩
theorem WRs_end {a b : gH} {q i j v s : Int} (h : j ≤ i) (x : WRsz a b q i j v s) : SRs a b := fun o k => by
  obtain ⟨x1, x2, x3⟩ := x o k
  exact ⟨x1, x2, fun z => by rw [x3 z, if_neg (by omega)]⟩
theorem WRs_put {a b c : gH} {q i k v s w : Int} (hk : i ≤ k) (x : WRsz a b q i k v s) (y : PUs b c q k w) (e : w = v + s * (k - i)) : WRsz a c q i (k + 1) v s := fun o h => by
  subst e
  obtain ⟨x1, x2, x3⟩ := x o h
  obtain ⟨y1, y2, y3⟩ := y o x1
  refine ⟨y1, y2.trans x2, fun z => ?_⟩
  rw [y3 z, x3 z, x2]
  by_cases c1 : (o : Int) = q ∧ (z : Int) = k ∧ (z : Int) < (hN a o : Int)
  · rw [if_pos c1, if_pos (by omega), c1.2.1]
  · rw [if_neg c1]
    by_cases c2 : (o : Int) = q ∧ i ≤ (z : Int) ∧ (z : Int) < k ∧ (z : Int) < (hN a o : Int)
    · rw [if_pos c2, if_pos (by omega)]
    · rw [if_neg c2, if_neg (by omega)]
theorem WRs_pre {a b c : gH} {q i j v s : Int} (x : SRs a b) (y : WRsz b c q i j v s) : WRsz a c q i j v s := fun o h => by
  obtain ⟨x1, x2, x3⟩ := x o h
  obtain ⟨y1, y2, y3⟩ := y o x1
  exact ⟨y1, y2.trans x2, fun k => by rw [y3 k, x3 k, x2]⟩
theorem WRs_post {a b c : gH} {q i j v s : Int} (x : WRsz a b q i j v s) (y : SRs b c) : WRsz a c q i j v s := fun o h => by
  obtain ⟨x1, x2, x3⟩ := x o h
  obtain ⟨y1, y2, y3⟩ := y o x1
  exact ⟨y1, y2.trans x2, fun k => by rw [y3 k, x3 k]⟩
/-- all rows but one stay -/
def XRs (a b : gH) (q : Int) : Prop := ∀ o : Nat, hK a o = 780 → hK b o = 780 ∧ hN b o = hN a o ∧ (¬ (o : Int) = q → ∀ j : Nat, hV b o j = hV a o j)
theorem XRs_of {a b : gH} {q : Int} (x : SRs a b) : XRs a b q := fun o h => ⟨(x o h).1, (x o h).2.1, fun _ => (x o h).2.2⟩
theorem XRs_put {a b : gH} {q i v : Int} (x : PUs a b q i v) : XRs a b q := fun o h => ⟨(x o h).1, (x o h).2.1, fun n j => by rw [(x o h).2.2 j, if_neg (fun z => n z.1)]⟩
theorem XRs_tr {a b c : gH} {q : Int} (x : XRs a b q) (y : XRs b c q) : XRs a c q := fun o h => ⟨(y o (x o h).1).1, (y o (x o h).1).2.1.trans (x o h).2.1, fun n j => ((y o (x o h).1).2.2 n j).trans ((x o h).2.2 n j)⟩
