theorem o64_rg (f : Int64 → Int64 → Int64) (x y : Int) : -9223372036854775808 ≤ o64 f x y ∧ o64 f x y ≤ 9223372036854775807 := by
  unfold o64
  have h1 := Int64.le_toInt (f (Int64.ofInt x) (Int64.ofInt y))
  have h2 := Int64.toInt_lt (f (Int64.ofInt x) (Int64.ofInt y))
  omega
/-- comparisons of longs -/
theorem lgw {k x y : Int} (e : k = (lg_cmp (Int64.ofInt x) (Int64.ofInt y)).toInt) (h1 : -9223372036854775808 ≤ x) (h2 : x ≤ 9223372036854775807) (h3 : -9223372036854775808 ≤ y) (h4 : y ≤ 9223372036854775807) : (0 ≤ k ↔ y ≤ x) ∧ (k ≤ 0 ↔ x ≤ y) := by
  have ex : (Int64.ofInt x).toInt = x := Int64.toInt_ofInt_of_le (by omega) (by omega)
  have ey : (Int64.ofInt y).toInt = y := Int64.toInt_ofInt_of_le (by omega) (by omega)
  have a1 := lg_cmp_ge (Int64.ofInt x) (Int64.ofInt y)
  have a2 := lg_cmp_le (Int64.ofInt x) (Int64.ofInt y)
  rw [Int32.le_iff_toInt_le, Int64.le_iff_toInt_le, ex, ey, ← e] at a1 a2
  exact ⟨a1, a2⟩
def RMs (a b : gH) (m : Int) : Prop := (hV a m.toNat 10 = -1 ∧ SRs a b) ∨ (¬ hV a m.toNat 10 = -1 ∧ XRs a b (hV a m.toNat 4))
def KQ (a b : gH) : Prop := ∀ o : Nat, hK a o = 780 → hK b o = 780 ∧ hN b o = hN a o ∧ ((∀ s : Nat, (s : Int) < hV a 23 1 → (KV a s = 6 ∨ ¬ HV a s = -1) → ¬ (o : Int) = RW a s) → ∀ j : Nat, hV b o j = hV a o j)
theorem KQ_of {a b : gH} (x : SRs a b) : KQ a b := fun o h => ⟨(x o h).1, (x o h).2.1, fun _ => (x o h).2.2⟩
theorem KQ_post {a b c : gH} (x : KQ a b) (y : SRs b c) : KQ a c := fun o h => ⟨(y o (x o h).1).1, (y o (x o h).1).2.1.trans (x o h).2.1, fun n j => ((y o (x o h).1).2.2 j).trans ((x o h).2.2 n j)⟩
theorem KQ_step {a b c : gH} {m n : Int} (x : KQ a b) (e4 : hV b m.toNat 4 = hV a m.toNat 4) (e10 : hV b m.toNat 10 = hV a m.toNat 10) (y : RMs b c m) (h0 : 0 ≤ n) (hn : n < hV a 23 1) (hm : m = hV a 24 n.toNat) : KQ a c := fun o h => by
  obtain ⟨x1, x2, x3⟩ := x o h
  rcases y with ⟨_, y⟩ | ⟨yn, y⟩
  · obtain ⟨y1, y2, y3⟩ := y o x1
    exact ⟨y1, y2.trans x2, fun z j => (y3 j).trans (x3 z j)⟩
  · obtain ⟨y1, y2, y3⟩ := y o x1
    refine ⟨y1, y2.trans x2, fun z j => (y3 (fun e => ?_) j).trans (x3 z j)⟩
    refine z n.toNat (by omega) (.inr ?_) ?_
    · unfold HV
      rw [Int.toNat_natCast, ← hm, ← e10]
      exact yn
    · unfold RW
      rw [Int.toNat_natCast, ← hm, ← e4]
      exact e
theorem KQ_make {a b c : gH} {m n : Int} (x : SRs a b) (e4 : hV b m.toNat 4 = hV a m.toNat 4) (y : RMs b c m) (h0 : 0 ≤ n) (hn : n < hV a 23 1) (hm : m = hV a 24 n.toNat) (h6 : KV a n = 6) : KQ a c := fun o h => by
  obtain ⟨x1, x2, x3⟩ := x o h
  rcases y with ⟨_, y⟩ | ⟨_, y⟩
  · obtain ⟨y1, y2, y3⟩ := y o x1
    exact ⟨y1, y2.trans x2, fun _ j => (y3 j).trans (x3 j)⟩
  · obtain ⟨y1, y2, y3⟩ := y o x1
    refine ⟨y1, y2.trans x2, fun z j => (y3 (fun e => ?_) j).trans (x3 j)⟩
    refine z n.toNat (by omega) (.inl ?_) ?_
    · rw [Int.toNat_of_nonneg h0]
      exact h6
    · unfold RW
      rw [Int.toNat_natCast, ← hm, ← e4]
      exact e
/-- the reference's SAMPLES -/
def KSp (m0 m : Nat → Int) (s : Int) : Prop := ∀ k : Nat, ¬ (240 * s ≤ (k : Int) ∧ (k : Int) < 240 * s + 240) → m k = m0 k
def KSm (n : Int) (kd m0 m : Nat → Int) : Prop := ∀ k : Nat, ¬ (((k / 240 : Nat) : Int) < n ∧ kd (k / 240) = 6) → m k = m0 k
theorem KSp_up {m0 m : Nat → Int} {s i w : Int} (z : KSp m0 m s) (h1 : 240 * s ≤ i) (h2 : i < 240 * s + 240) : KSp m0 (uF m i w) s := fun k hk => by
  rw [uF_at, if_neg (by omega)]
  exact z k hk
theorem KSm_of {n : Int} {kd m0 m m' : Nat → Int} {s : Int} (x : KSm n kd m0 m) (y : KSp m m' s) (h0 : 0 ≤ s) (h1 : s < n) (h2 : kd s.toNat = 6) : KSm n kd m0 m' := fun k hk => by
  rw [y k (fun e => hk ⟨by omega, by rw [show k / 240 = s.toNat by omega]; exact h2⟩)]
  exact x k hk
def wvF (m : Nat → Int) (q i j v s : Int) : Nat → Int := fun k => if q + i ≤ (k : Int) ∧ (k : Int) < q + j then v + s * ((k : Int) - q - i) else m k
theorem wvF_0 {m : Nat → Int} {q i j v s : Int} (h : j ≤ i) : wvF m q i j v s = m := funext fun k => if_neg (by omega)
theorem wvF_step {m : Nat → Int} {q i j v s p w : Int} (hj : i ≤ j) (hp : p = q + j) (hw : w = v + s * (j - i)) : uF (wvF m q i j v s) p w = wvF m q i (j + 1) v s := funext fun k => by
  subst hp
  subst hw
  show (if (k : Int) = q + j then _ else (if q + i ≤ (k : Int) ∧ (k : Int) < q + j then _ else _)) = (if q + i ≤ (k : Int) ∧ (k : Int) < q + (j + 1) then _ else _)
  by_cases c1 : (k : Int) = q + j
  · rw [if_pos c1, if_pos (by omega), c1]
    rw [show q + j - q - i = j - i by omega]
  · rw [if_neg c1]
    by_cases c2 : q + i ≤ (k : Int) ∧ (k : Int) < q + j
    · rw [if_pos c2, if_pos (by omega)]
    · rw [if_neg c2, if_neg (by omega)]
def FLm (r x y n0 : Int) (f0 l0 f l : Nat → Int) : Prop := (r = -1 ∧ f = f0 ∧ l = l0) ∨ (0 ≤ r ∧ r = n0 ∧ f = uF f0 n0 x ∧ l = uF l0 n0 y)
def WVc (h : gH) (x a b v s : Int) : Prop := 0 ≤ x ∧ x < hV h 23 1 ∧ 0 ≤ hV h 24 x.toNat ∧ KV h x ≤ 3 ∧ 0 ≤ a ∧ a < b ∧ b ≤ SV h x ∧ -9999 ≤ v ∧ v ≤ 9999 ∧ -9999 ≤ v + s * (b - 1 - a) ∧ v + s * (b - 1 - a) ≤ 9999
def WVm (h : gH) (x a b v s : Int) : Prop := 0 ≤ x ∧ x < hV h 285 64 ∧ hV h 328 x.toNat < 4 ∧ ¬ hV h 329 x.toNat = -1 ∧ 0 ≤ a ∧ a < b ∧ b ≤ hV h 329 x.toNat ∧ -9999 ≤ v ∧ v ≤ 9999 ∧ -9999 ≤ v + s * (b - 1 - a) ∧ v + s * (b - 1 - a) ≤ 9999
def K7 (h : gH) : Prop := ∀ s : Nat, (s : Int) < hV h 23 1 → hK h (hV h 24 s).toNat = 7
/-- what is coupled -/
def CQs (h : gH) (s : Nat) : Prop := RW h s = hV h 24 s + 1 ∧ hK h (RW h s).toNat = 780 ∧ hN h (RW h s).toNat = 240 ∧ (KV h s = 1 → hV h (hV h 24 s).toNat 1 = hV h 330 s ∧ hV h (hV h 24 s).toNat 2 = hV h 331 s) ∧ (KV h s ≤ 3 → (hV h 329 s = -1 ∨ (1 ≤ hV h 329 s ∧ hV h 329 s ≤ 240)) ∧ ∀ i : Nat, i < 240 → hV h (RW h s).toNat i = hV h 337 (240 * s + i))
def CQ (h : gH) : Prop := (∀ s : Nat, (s : Int) < hV h 23 1 → CQs h s) ∧ ∀ j : Nat, 240 * hV h 23 1 ≤ (j : Int) → hV h 337 j = 0
/-- the objects of SOUNDS stay, but for what is told of them -/
def SOs (a c : gH) : Prop := hV c 23 1 = hV a 23 1 ∧ hV c 24 = hV a 24 ∧ ∀ o : Nat, hK a o = 7 → hK c o = 7 ∧ hV c o 0 = hV a o 0 ∧ hV c o 1 = hV a o 1 ∧ hV c o 2 = hV a o 2 ∧ hV c o 4 = hV a o 4
noncomputable def cSO (W : List (Nat × Nat)) : Bool := vFree W 23 1 && (vFreeR W 24 && (!(vLoc W 7 0) && (!(vLoc W 7 1) && (!(vLoc W 7 2) && !(vLoc W 7 4)))))
theorem SOs_fr {W : List (Nat × Nat)} {a b : gH} (le : hLe T0 a b) (f : hFr W a b) (c : cSO W = true) : SOs a b := by
  unfold cSO at c
  simp only [Bool.and_eq_true, Bool.not_eq_true'] at c
  obtain ⟨c1, c2, c3, c4, c5, c6⟩ := c
  exact ⟨f.1 23 1 c1, fRow f 24 c2, fun o h => ⟨kLe le h rfl, f.2.2 o 7 h rfl 0 c3, f.2.2 o 7 h rfl 1 c4, f.2.2 o 7 h rfl 2 c5, f.2.2 o 7 h rfl 4 c6⟩⟩
theorem SOs_tr {a b c : gH} (x : SOs a b) (y : SOs b c) : SOs a c := ⟨y.1.trans x.1, y.2.1.trans x.2.1, fun o h => by
  obtain ⟨x0, x1, x2, x3, x4⟩ := x.2.2 o h
  obtain ⟨y0, y1, y2, y3, y4⟩ := y.2.2 o x0
  exact ⟨y0, y1.trans x1, y2.trans x2, y3.trans x3, y4.trans x4⟩⟩
theorem SOs_KV {a c : gH} (so : SOs a c) {s : Int} (k : hK a (hV a 24 s.toNat).toNat = 7) : KV c s = KV a s ∧ RW c s = RW a s := by
  unfold KV RW
  rw [so.2.1]
  exact ⟨(so.2.2 _ k).2.1, (so.2.2 _ k).2.2.2.2⟩
def RKs (a c : gH) : Prop := ∀ o : Nat, hK a o = 780 → hK c o = 780 ∧ hN c o = hN a o
theorem RKs_le {a b : gH} (le : hLe T0 a b) : RKs a b := fun _ h => ⟨kLe le h rfl, (le.2 _ (hK_lt h (by decide))).2.1⟩
theorem CQ_mk {a c : gH} (pc : CP a) (z : CQ a) (so : SOs a c) (rk : RKs a c) (m1 : hV c 330 = hV a 330) (m2 : hV c 331 = hV a 331) (mm : ∀ s : Nat, (s : Int) < hV a 23 1 → KV a s ≤ 3 → hV c 329 s = hV a 329 s) (rows : ∀ s : Nat, (s : Int) < hV a 23 1 → KV a s ≤ 3 → ∀ i : Nat, i < 240 → hV c (RW a s).toNat i = hV c 337 (240 * s + i)) (e0 : ∀ j : Nat, 240 * hV a 23 1 ≤ (j : Int) → hV c 337 j = 0) : CQ c := by
  refine ⟨fun s hs => ?_, fun j hj => e0 j (by rw [← so.1]; exact hj)⟩
  rw [so.1] at hs
  have k7 := (pc.2.1 s hs).2.1
  obtain ⟨z1, z2, z3, z4, z5⟩ := z.1 s hs
  have e := SOs_KV so (s := (s : Int)) (by rw [Int.toNat_natCast]; exact k7)
  have o := so.2.2 _ k7
  have r := rk _ z2
  unfold CQs
  rw [e.1, e.2, so.2.1, o.2.2.1, o.2.2.2.1, m1, m2]
  exact ⟨z1, r.1, r.2.trans z3, z4, fun h3 => ⟨by rw [mm s hs h3]; exact (z5 h3).1, rows s hs h3⟩⟩
noncomputable def cQ (W : List (Nat × Nat)) : Bool := cSO W && (!(vLoc W 780 0) && (vFreeR W 329 && (vFreeR W 330 && (vFreeR W 331 && vFreeR W 337))))
theorem CQ_fr {W : List (Nat × Nat)} {a b : gH} (le : hLe T0 a b) (f : hFr W a b) (c : cQ W = true) (pc : CP a) (z : CQ a) : CQ b := by
  unfold cQ at c
  simp only [Bool.and_eq_true, Bool.not_eq_true'] at c
  obtain ⟨c1, c2, c3, c4, c5, c6⟩ := c
  have sr := SRs_fr le f c2
  have m := fRow f 337 c6
  refine CQ_mk pc z (SOs_fr le f c1) (RKs_le le) (fRow f 330 c4) (fRow f 331 c5) (fun s _ _ => by rw [fRow f 329 c3]) (fun s hs h3 i hi => ?_) (fun j hj => by rw [m]; exact z.2 j hj)
  obtain ⟨z1, z2, z3, z4, z5⟩ := z.1 s hs
  rw [m, (sr _ z2).2.2 i]
  exact (z5 h3).2 i hi
theorem CQ_fr2 {W V : List (Nat × Nat)} {a b c : gH} (le1 : hLe T0 a b) (f1 : hFr W a b) (c1 : cQ W = true) (le2 : hLe T0 b c) (f2 : hFr V b c) (c2 : cQ V = true) (pc : CP a) (z : CQ a) : CQ c := by
  unfold cQ at c1 c2
  simp only [Bool.and_eq_true, Bool.not_eq_true'] at c1 c2
  obtain ⟨c11, c12, c13, c14, c15, c16⟩ := c1
  obtain ⟨c21, c22, c23, c24, c25, c26⟩ := c2
  have sr := SRs_tr (SRs_fr le1 f1 c12) (SRs_fr le2 f2 c22)
  have m : hV c 337 = hV a 337 := (fRow f2 337 c26).trans (fRow f1 337 c16)
  refine CQ_mk pc z (SOs_tr (SOs_fr le1 f1 c11) (SOs_fr le2 f2 c21)) (fun o h => ⟨(sr o h).1, (sr o h).2.1⟩) ((fRow f2 330 c24).trans (fRow f1 330 c14)) ((fRow f2 331 c25).trans (fRow f1 331 c15)) (fun s _ _ => by rw [fRow f2 329 c23, fRow f1 329 c13]) (fun s hs h3 i hi => ?_) (fun j hj => by rw [m]; exact z.2 j hj)
  obtain ⟨z1, z2, z3, z4, z5⟩ := z.1 s hs
  rw [m, (sr _ z2).2.2 i]
  exact (z5 h3).2 i hi
/-- the rows of two SOUNDS are not one -/
theorem RW_inj {a : gH} (pc : CP a) (z : CQ a) {s t : Nat} (hs : (s : Int) < hV a 23 1) (ht : (t : Int) < hV a 23 1) (e : RW a s = RW a t) : s = t := by
  have x := (z.1 s hs).1
  have y := (z.1 t ht).1
  exact pc.2.2 s t hs ht (by omega)
theorem RW_nn {a : gH} (pc : CP a) (z : CQ a) {s : Nat} (hs : (s : Int) < hV a 23 1) : 0 ≤ RW a s := by
  have x := (z.1 s hs).1
  have y := (pc.2.1 s hs).1
  omega
noncomputable def cQa (W : List (Nat × Nat)) : Bool := cSO W && (vFreeR W 329 && (vFreeR W 330 && (vFreeR W 331 && vFreeR W 337)))
noncomputable def cQb (W : List (Nat × Nat)) : Bool := cSO W && (!(vLoc W 780 0) && (vFreeR W 330 && vFreeR W 331))
/-- a call of both that writes SAMPLES: the rows told -/
theorem CQ_two {W V : List (Nat × Nat)} {a b c : gH} (pc : CP a) (z : CQ a) (le1 : hLe T0 a b) (f1 : hFr W a b) (c1 : cQa W = true) (le2 : hLe T0 b c) (f2 : hFr V b c) (c2 : cQb V = true) (mm : ∀ s : Nat, (s : Int) < hV a 23 1 → KV a s ≤ 3 → hV c 329 s = hV b 329 s) (rows : ∀ s : Nat, (s : Int) < hV a 23 1 → KV a s ≤ 3 → ∀ i : Nat, i < 240 → hV b (RW a s).toNat i = hV c 337 (240 * s + i)) (e0 : ∀ j : Nat, 240 * hV a 23 1 ≤ (j : Int) → hV c 337 j = hV b 337 j) : CQ c := by
  unfold cQa at c1
  unfold cQb at c2
  simp only [Bool.and_eq_true, Bool.not_eq_true'] at c1 c2
  obtain ⟨c11, c12, c13, c14, c15⟩ := c1
  obtain ⟨c21, c22, c23, c24⟩ := c2
  have rk : RKs a c := fun o h => ⟨kLe le2 (kLe le1 h rfl) rfl, ((RKs_le le2) o (kLe le1 h rfl)).2.trans ((RKs_le le1) o h).2⟩
  refine CQ_mk pc z (SOs_tr (SOs_fr le1 f1 c11) (SOs_fr le2 f2 c21)) rk ((fRow f2 330 c23).trans (fRow f1 330 c13)) ((fRow f2 331 c24).trans (fRow f1 331 c14)) (fun s hs h3 => by rw [mm s hs h3, fRow f1 329 c12]) (fun s hs h3 i hi => ?_) (fun j hj => by rw [e0 j hj, fRow f1 337 c15]; exact z.2 j hj)
  have k := kLe le1 (z.1 s hs).2.1 rfl
  rw [f2.2.2 _ 780 k rfl i (by rw [vLoc_row (by decide) i 0]; exact c22)]
  exact rows s hs h3 i hi
theorem CQ_sample {W V : List (Nat × Nat)} {a b c : gH} {r r' x y v : Int} (pc : CP a) (zs : CS a) (z : CQ a) (le1 : hLe T0 a b) (f1 : hFr W a b) (c1 : cQa W = true) (p : (SMc a x y v ∧ r = 1) ∨ (¬ SMc a x y v ∧ r = 0)) (p2 : (r = 1 ∧ PUs a b (RW a x) y v) ∨ (r = 0 ∧ SRs a b)) (le2 : hLe T0 b c) (f2 : hFr V b c) (c2 : cQb V = true) (c3 : vFreeR V 329 = true) (e : r = r') (q : (r' = 1 ∧ hV c 337 = uF (hV b 337) (240 * x + y) v) ∨ (r' = 0 ∧ hV c 337 = hV b 337)) : CQ c := by
  have c1' := c1
  unfold cQa at c1'
  simp only [Bool.and_eq_true] at c1'
  have m1 := fRow f1 337 c1'.2.2.2.2
  have m3 := fRow f2 329 c3
  rcases p2 with ⟨r1, p2⟩ | ⟨r1, p2⟩
  · rcases q with ⟨_, q⟩ | ⟨q1, _⟩
    · have sm := p.resolve_right (fun w => by omega)
      obtain ⟨s1, s2, s3, s4, s5, s6, s7, s8⟩ := sm.1
      have cs := zs x.toNat (by omega)
      rw [Int.toNat_of_nonneg s1] at cs
      have cv := (cs.2.resolve_left (by omega)).2 s4
      have cq := ((z.1 x.toNat (by omega)).2.2.2.2 (by rw [Int.toNat_of_nonneg s1]; exact s4)).1
      have y240 : y < 240 := by
        unfold mz at cv
        split at cv <;> omega
      refine CQ_two pc z le1 f1 c1 le2 f2 c2 (fun s _ _ => by rw [m3]) (fun s hs h3 i hi => ?_) (fun j hj => by rw [q, uF_at, if_neg (by omega)])
      obtain ⟨z1, z2, z3, z4, z5⟩ := z.1 s hs
      have nn := RW_nn pc z hs
      rw [(p2 _ z2).2.2 i, q, uF_at, m1, z3]
      by_cases hx : s = x.toNat
      · by_cases hy : (i : Int) = y
        · rw [if_pos ⟨by rw [Int.toNat_of_nonneg nn, hx, Int.toNat_of_nonneg s1], hy, by omega⟩, if_pos (by omega)]
        · rw [if_neg (fun w => hy w.2.1), if_neg (by omega)]
          exact (z5 h3).2 i hi
      · rw [if_neg (fun w => hx (RW_inj pc z hs (by omega) (by rw [Int.toNat_of_nonneg nn] at w; rw [Int.toNat_of_nonneg s1]; exact w.1))), if_neg (by omega)]
        exact (z5 h3).2 i hi
    · omega
  · rcases q with ⟨q1, _⟩ | ⟨_, q⟩
    · omega
    · refine CQ_two pc z le1 f1 c1 le2 f2 c2 (fun s _ _ => by rw [m3]) (fun s hs h3 i hi => ?_) (fun j _ => by rw [q])
      obtain ⟨z1, z2, z3, z4, z5⟩ := z.1 s hs
      rw [(p2 _ z2).2.2 i, q, m1]
      exact (z5 h3).2 i hi
theorem wave_iff {W : List (Nat × Nat)} {a b : gH} {x i j v s : Int} (pc : CP a) (zs : CS a) (f1 : hFr W a b) (c1 : (cX W && vFreeR W 329) = true) : WVc a x i j v s ↔ WVm b x i j v s := by
  rw [Bool.and_eq_true] at c1
  obtain ⟨cx, c3⟩ := c1
  unfold cX at cx
  simp only [Bool.and_eq_true, Bool.not_eq_true'] at cx
  have e3 : hV b 285 64 = hV a 285 64 := f1.1 285 64 cx.1
  have e4 : hV b 328 = hV a 328 := fRow f1 328 cx.2.1
  have e5 : hV b 329 = hV a 329 := fRow f1 329 c3
  unfold WVc WVm
  rw [e3, e4, e5, ← pc.1]
  by_cases h : 0 ≤ x ∧ x < hV a 23 1
  · have y1 := pc.2.1 x.toNat (by omega)
    have y2 := (zs x.toNat (by omega)).2
    rw [Int.toNat_of_nonneg h.1] at y1 y2
    unfold mz at y2
    constructor
    · rintro ⟨w1, w2, w3, w4, w5, w6, w7, w8⟩
      have w9 := (y2.resolve_left (by omega)).2 w4
      refine ⟨w1, w2, by omega, ?_, w5, w6, ?_, w8⟩
      · split at w9 <;> omega
      · split at w9 <;> omega
    · rintro ⟨w1, w2, w3, w4, w5, w6, w7, w8⟩
      have w9 := (y2.resolve_left (by omega)).2 (by omega)
      refine ⟨w1, w2, y1.1, by omega, w5, w6, ?_, w8⟩
      split at w9 <;> omega
  · constructor
    · intro w
      exact absurd ⟨w.1, w.2.1⟩ h
    · intro w
      exact absurd ⟨w.1, w.2.1⟩ h
theorem CQ_wave {W V : List (Nat × Nat)} {a b c : gH} {x i j v s : Int} (pc : CP a) (zs : CS a) (z : CQ a) (le1 : hLe T0 a b) (f1 : hFr W a b) (c1 : cQa W = true) (cx : (cX W && vFreeR W 329) = true) (p : (WVc a x i j v s ∧ ∃ t : Int, WRsz a b (RW a x) i t v s ∧ (t = j ∨ (240 ≤ t ∧ t ≤ j))) ∨ (¬ WVc a x i j v s ∧ SRs a b)) (le2 : hLe T0 b c) (f2 : hFr V b c) (c2 : cQb V = true) (c3 : vFreeR V 329 = true) (q : (WVm b x i j v s ∧ hV c 337 = wvF (hV b 337) (240 * x) i j v s) ∨ (¬ WVm b x i j v s ∧ hV c 337 = hV b 337)) : CQ c := by
  have c1' := c1
  unfold cQa at c1'
  simp only [Bool.and_eq_true] at c1'
  have m1 := fRow f1 337 c1'.2.2.2.2
  have m3 := fRow f2 329 c3
  have iff := wave_iff (x := x) (i := i) (j := j) (v := v) (s := s) pc zs f1 cx
  rcases p with ⟨p1, p2⟩ | ⟨p1, p2⟩
  · rcases q with ⟨_, q⟩ | ⟨q1, _⟩
    · obtain ⟨s1, s2, s3, s4, s5, s6, s7, s8⟩ := p1
      have cs := zs x.toNat (by omega)
      rw [Int.toNat_of_nonneg s1] at cs
      have cv := (cs.2.resolve_left (by omega)).2 s4
      have cq := ((z.1 x.toNat (by omega)).2.2.2.2 (by rw [Int.toNat_of_nonneg s1]; exact s4)).1
      have j240 : j ≤ 240 := by
        unfold mz at cv
        split at cv <;> omega
      obtain ⟨j', p2, hj⟩ := p2
      obtain rfl : j = j' := by omega
      refine CQ_two pc z le1 f1 c1 le2 f2 c2 (fun s _ _ => by rw [m3]) (fun t ht h3 k hk => ?_) (fun k hk => by rw [q]; exact if_neg (by omega))
      obtain ⟨z1, z2, z3, z4, z5⟩ := z.1 t ht
      have nn := RW_nn pc z ht
      rw [(p2 _ z2).2.2 k, q, m1, z3]
      show _ = (if 240 * x + i ≤ ((240 * t + k : Nat) : Int) ∧ ((240 * t + k : Nat) : Int) < 240 * x + j then v + s * (((240 * t + k : Nat) : Int) - 240 * x - i) else hV a 337 (240 * t + k))
      by_cases hx : t = x.toNat
      · by_cases hy : i ≤ (k : Int) ∧ (k : Int) < j
        · rw [if_pos ⟨by rw [Int.toNat_of_nonneg nn, hx, Int.toNat_of_nonneg s1], hy.1, hy.2, by omega⟩, if_pos (by omega), show ((240 * t + k : Nat) : Int) - 240 * x - i = (k : Int) - i by omega]
        · rw [if_neg (fun w => hy ⟨w.2.1, w.2.2.1⟩), if_neg (by omega)]
          exact (z5 h3).2 k hk
      · rw [if_neg (fun w => hx (RW_inj pc z ht (by omega) (by rw [Int.toNat_of_nonneg nn] at w; rw [Int.toNat_of_nonneg s1]; exact w.1))), if_neg (by omega)]
        exact (z5 h3).2 k hk
    · exact absurd (iff.mp p1) q1
  · rcases q with ⟨q1, _⟩ | ⟨_, q⟩
    · exact absurd (iff.mpr q1) p1
    · refine CQ_two pc z le1 f1 c1 le2 f2 c2 (fun s _ _ => by rw [m3]) (fun t ht h3 k hk => ?_) (fun k _ => by rw [q])
      obtain ⟨z1, z2, z3, z4, z5⟩ := z.1 t ht
      rw [(p2 _ z2).2.2 k, q, m1]
      exact (z5 h3).2 k hk
theorem CQ_keep {W V : List (Nat × Nat)} {a b c : gH} (pc : CP a) (zs : CS a) (z : CQ a) (le1 : hLe T0 a b) (f1 : hFr W a b) (c1 : cQa W = true) (cx : cX W = true) (p : KQ a b) (le2 : hLe T0 b c) (f2 : hFr V b c) (c2 : cQb V = true) (km : KMk (hV b 328) (hV b 329) (hV c 329)) (q : KSm (hV b 285 64) (hV b 328) (hV b 337) (hV c 337)) : CQ c := by
  have c1' := c1
  unfold cQa at c1'
  simp only [Bool.and_eq_true] at c1'
  have m1 := fRow f1 337 c1'.2.2.2.2
  unfold cX at cx
  simp only [Bool.and_eq_true, Bool.not_eq_true'] at cx
  have e3 : hV b 285 64 = hV a 285 64 := f1.1 285 64 cx.1
  have e4 : hV b 328 = hV a 328 := fRow f1 328 cx.2.1
  rw [e4] at km
  rw [e3, e4, ← pc.1] at q
  refine CQ_two pc z le1 f1 c1 le2 f2 c2 (fun s hs h3 => km s (by rw [← (pc.2.1 s hs).2.2.1]; omega)) (fun s hs h3 i hi => ?_) (fun j hj => q j (fun w => by omega))
  obtain ⟨z1, z2, z3, z4, z5⟩ := z.1 s hs
  have nn := RW_nn pc z hs
  have kd := (pc.2.1 s hs).2.2.1
  have hv := ((zs s hs).2.resolve_left (by omega)).1
  rw [(p _ z2).2.2 (fun t ht h6 e => by
    rw [Int.toNat_of_nonneg nn] at e
    obtain rfl := RW_inj pc z hs ht e
    rcases h6 with h6 | h6
    · omega
    · exact h6 hv) i, q (240 * s + i) (fun w => by
    have := w.2
    rw [show (240 * s + i) / 240 = s by omega] at this
    omega), m1]
  exact (z5 h3).2 i hi
theorem CQ_add {W V : List (Nat × Nat)} {a b c : gH} {r k sz mn r' x y x' y' : Int} {C D : Prop} (pc : CP a) (z : CQ a) (le1 : hLe T0 a b) (f1 : hFr W a b) (c1 : (cX W && (vFreeR W 329 && (vFreeR W 330 && (vFreeR W 331 && (vFreeR W 337 && (!(vLoc W 7 1) && (!(vLoc W 7 2) && (!(vLoc W 7 4) && !(vLoc W 780 0))))))))) = true) (p : (C ∧ ADDp r k sz a b) ∨ (¬ C ∧ r = -1 ∧ SAMEp a b)) (ad : ADS r x y a b) (le2 : hLe T0 b c) (f2 : hFr V b c) (c2 : (cSO V && (!(vLoc V 780 0) && vFreeR V 337)) = true) (q : (D ∧ hV b 285 64 ≤ 19 ∧ ADDm r' k mn (hV b 285 64) (hV c 285 64) (hV b 328) (hV b 338) (hV b 329) (hV c 328) (hV c 338) (hV c 329)) ∨ (¬ (D ∧ hV b 285 64 ≤ 19) ∧ r' = -1 ∧ SAMm (hV b 285 64) (hV c 285 64) (hV b 328) (hV b 338) (hV b 329) (hV c 328) (hV c 338) (hV c 329))) (fl : FLm r' x' y' (hV b 285 64) (hV b 330) (hV b 331) (hV c 330) (hV c 331)) (h : C ↔ D) (h1 : k = 1 → x = x' ∧ y = y') (h3 : C → k ≤ 3 → mn = -1 ∨ (1 ≤ mn ∧ mn ≤ 240)) : CQ c := by
  rw [Bool.and_eq_true] at c1
  obtain ⟨cx, cz⟩ := c1
  unfold cX at cx
  simp only [Bool.and_eq_true, Bool.not_eq_true'] at cx cz c2
  obtain ⟨c31, c32, c33, c34, c35, c36, c37, c38⟩ := cz
  obtain ⟨c21, c22, c23⟩ := c2
  have c21' := c21
  unfold cSO at c21'
  simp only [Bool.and_eq_true, Bool.not_eq_true'] at c21'
  have e3 : hV b 285 64 = hV a 285 64 := f1.1 285 64 cx.1
  have z1 := pc.1
  have b29 : hV b 329 = hV a 329 := fRow f1 329 c31
  have b30 : hV b 330 = hV a 330 := fRow f1 330 c32
  have b31 : hV b 331 = hV a 331 := fRow f1 331 c33
  have m : hV c 337 = hV a 337 := (fRow f2 337 c23).trans (fRow f1 337 c34)
  have g1 : hV c 23 1 = hV b 23 1 := f2.1 23 1 c21'.1
  have g2 : hV c 24 = hV b 24 := fRow f2 24 c21'.2.1
  have sr1 := SRs_fr le1 f1 c38
  have sr2 := SRs_fr le2 f2 c22
  have so2 := SOs_fr le2 f2 c21
  -- an old one
  have old : ∀ s : Nat, (s : Int) < hV a 23 1 → hV b 24 s = hV a 24 s → (hV c 330 s = hV a 330 s ∧ hV c 331 s = hV a 331 s ∧ hV c 329 s = hV a 329 s) → CQs c s := fun s hs he hm => by
    have k7 := (pc.2.1 s hs).2.1
    have kb : hK b (hV a 24 s).toNat = 7 := kLe le1 k7 rfl
    have o := so2.2.2 _ kb
    obtain ⟨y1, y2, y3, y4, y5⟩ := z.1 s hs
    have w0 : hV c (hV a 24 s).toNat 0 = hV a (hV a 24 s).toNat 0 := o.2.1.trans (f1.2.2 _ 7 k7 rfl 0 cx.2.2.2.1)
    have w1 : hV c (hV a 24 s).toNat 1 = hV a (hV a 24 s).toNat 1 := o.2.2.1.trans (f1.2.2 _ 7 k7 rfl 1 c35)
    have w2 : hV c (hV a 24 s).toNat 2 = hV a (hV a 24 s).toNat 2 := o.2.2.2.1.trans (f1.2.2 _ 7 k7 rfl 2 c36)
    have w4 : hV c (hV a 24 s).toNat 4 = hV a (hV a 24 s).toNat 4 := o.2.2.2.2.trans (f1.2.2 _ 7 k7 rfl 4 c37)
    have kv : KV c s = KV a s := by
      unfold KV
      rw [g2, Int.toNat_natCast, he]
      exact w0
    have rw_ : RW c s = RW a s := by
      unfold RW
      rw [g2, Int.toNat_natCast, he]
      exact w4
    have r1 := sr1 _ y2
    have r2 := sr2 _ r1.1
    unfold CQs
    rw [kv, rw_, g2, he, w1, w2, hm.1, hm.2.1, hm.2.2, m]
    exact ⟨y1, r2.1, r2.2.1.trans (r1.2.1.trans y3), y4, fun h3 => ⟨(y5 h3).1, fun i hi => by rw [r2.2.2 i, r1.2.2 i]; exact (y5 h3).2 i hi⟩⟩
  have same : hV b 23 1 = hV a 23 1 → hV b 24 = hV a 24 → (hV c 330 = hV b 330 ∧ hV c 331 = hV b 331 ∧ hV c 329 = hV b 329) → CQ c := fun w1 w2 w3 => ⟨fun s hs => by
    rw [g1, w1] at hs
    exact old s hs (by rw [w2]) ⟨by rw [w3.1, b30], by rw [w3.2.1, b31], by rw [w3.2.2, b29]⟩, fun j hj => by
    rw [g1, w1] at hj
    rw [m]
    exact z.2 j hj⟩
  have none : r' = -1 → hV c 330 = hV b 330 ∧ hV c 331 = hV b 331 := fun w1 => by
    rcases fl with ⟨_, f3, f4⟩ | ⟨f2, _⟩
    · exact ⟨f3, f4⟩
    · omega
  rcases p with ⟨hc, p⟩ | ⟨hc, p1, p2⟩
  · rcases p with ⟨p1, p2, p3, p4⟩ | ⟨p1, p0, p2, p3, p4, p5, p6, p7, p8, p9, p10⟩
    · rcases q with ⟨_, q1, _⟩ | ⟨_, q2, q3⟩
      · omega
      · exact same p3 p4 ⟨(none q2).1, (none q2).2, q3.2.2.2⟩
    · rcases q with ⟨_, q1, q2⟩ | ⟨q1, _⟩
      · have rr : r' = r := by have := q2.1; omega
        have n0 : hV b 285 64 = r := by omega
        have mm : hV c 329 = uF (hV a 329) r mn := by rw [q2.2.2.2.2, n0, b29]
        have ff : hV c 330 = uF (hV a 330) r x' ∧ hV c 331 = uF (hV a 331) r y' := by
          rcases fl with ⟨f2, _⟩ | ⟨_, _, f3, f4⟩
          · omega
          · rw [n0, b30] at f3
            rw [n0, b31] at f4
            exact ⟨f3, f4⟩
        refine ⟨fun s hs => ?_, fun j hj => ?_⟩
        · rw [g1, p3] at hs
          by_cases hsr : (s : Int) = r
          · have hn : hV b 24 s = hV b 24 r.toNat := by rw [show r.toNat = s by omega]
            obtain ⟨_, ns, nx, ny⟩ := ad.resolve_left (by omega)
            obtain ⟨n4, n5, n6, n7, _, _, n8⟩ := ns
            have o := so2.2.2 _ p6
            have kv : KV c s = k := by
              rw [← p7]
              unfold KV
              rw [g2, Int.toNat_natCast, hn]
              exact o.2.1
            have rw_ : RW c s = hV b 24 r.toNat + 1 := by
              unfold RW
              rw [g2, Int.toNat_natCast, hn]
              exact o.2.2.2.2.trans n4
            have r2 := sr2 _ n6
            unfold CQs
            rw [kv, rw_, g2, hn, o.2.2.1, o.2.2.2.1, nx, ny, ff.1, ff.2, mm, uF_at, uF_at, uF_at, if_pos hsr, if_pos hsr, if_pos hsr, m]
            refine ⟨rfl, r2.1, r2.2.1.trans n7, h1, fun hk => ⟨h3 hc hk, fun i hi => ?_⟩⟩
            rw [r2.2.2 i, n8 i]
            exact (z.2 _ (by omega)).symm
          · exact old s (by omega) (by rw [p4, uF_at, if_neg hsr]) ⟨by rw [ff.1, uF_at, if_neg hsr], by rw [ff.2, uF_at, if_neg hsr], by rw [mm, uF_at, if_neg hsr]⟩
        · rw [g1, p3] at hj
          rw [m]
          exact z.2 j (by omega)
      · exact absurd ⟨h.mp hc, by omega⟩ q1
  · rcases q with ⟨hd, _⟩ | ⟨_, q2, q3⟩
    · exact absurd (h.mpr hd) hc
    · exact same p2.1 p2.2 ⟨(none q2).1, (none q2).2, q3.2.2.2⟩
/-- seam -/
def SEc (h : gH) (x : Int) : Prop := 0 ≤ x ∧ x < hV h 23 1 ∧ 0 ≤ hV h 24 x.toNat ∧ KV h x = 1 ∧ ¬ SV h x = 0
def SEm (h : gH) (x : Int) : Prop := 0 ≤ x ∧ x < hV h 285 64 ∧ hV h 328 x.toNat = 1 ∧ ¬ hV h 329 x.toNat = -1
def RK (h : gH) : Prop := ∀ s : Nat, (s : Int) < hV h 23 1 → 0 ≤ hV h 24 s → hK h (RW h s).toNat = 780
theorem CQ_RK {h : gH} (z : CQ h) : RK h := fun s hs _ => (z.1 s hs).2.1
theorem seam_eq {W : List (Nat × Nat)} {a b : gH} {r r' x : Int} (pc : CP a) (zs : CS a) (z : CQ a) (so : SO a) (f1 : hFr W a b) (c1 : (cX W && (vFreeR W 329 && (vFreeR W 330 && (vFreeR W 331 && vFreeR W 337)))) = true) (p : (SEc a x ∧ r = smF (atR a (RW a x) (w32 (hV a (hV a 24 x.toNat).toNat 2 - 1))) (atR a (RW a x) (hV a (hV a 24 x.toNat).toNat 1))) ∨ (¬ SEc a x ∧ r = -1)) (q : (SEm b x ∧ r' = smF (hV b 337 (240 * x + hV b 331 x.toNat - 1).toNat) (hV b 337 (240 * x + hV b 330 x.toNat).toNat)) ∨ (¬ SEm b x ∧ r' = -1)) : r = r' := by
  rw [Bool.and_eq_true] at c1
  obtain ⟨cx, cz⟩ := c1
  unfold cX at cx
  simp only [Bool.and_eq_true, Bool.not_eq_true'] at cx cz
  have e3 : hV b 285 64 = hV a 285 64 := f1.1 285 64 cx.1
  have e4 : hV b 328 = hV a 328 := fRow f1 328 cx.2.1
  have e5 : hV b 329 = hV a 329 := fRow f1 329 cz.1
  have e6 : hV b 330 = hV a 330 := fRow f1 330 cz.2.1
  have e7 : hV b 331 = hV a 331 := fRow f1 331 cz.2.2.1
  have e8 : hV b 337 = hV a 337 := fRow f1 337 cz.2.2.2
  by_cases h : 0 ≤ x ∧ x < hV a 23 1
  · have y1 := pc.2.1 x.toNat (by omega)
    have y2 := (zs x.toNat (by omega)).2
    have y3 := z.1 x.toNat (by omega)
    unfold CQs at y3
    rw [Int.toNat_of_nonneg h.1] at y1 y2 y3
    unfold mz at y2
    have iff : SEc a x ↔ SEm b x := by
      unfold SEc SEm
      rw [e3, e4, e5, ← pc.1]
      constructor
      · rintro ⟨w1, w2, w3, w4, w5⟩
        have w9 := (y2.resolve_left (by omega)).2 (by omega)
        refine ⟨w1, w2, by omega, fun e => w5 ?_⟩
        rw [w9, if_pos (by omega)]
      · rintro ⟨w1, w2, w3, w4⟩
        have w9 := (y2.resolve_left (by omega)).2 (by omega)
        have w8 := (y3.2.2.2.2 (by omega)).1
        refine ⟨w1, w2, y1.1, by omega, fun e => ?_⟩
        rw [w9] at e
        split at e <;> omega
    rcases p with ⟨p1, p2⟩ | ⟨p1, p2⟩
    · rcases q with ⟨_, q2⟩ | ⟨q1, _⟩
      · have k1 := p1.2.2.2.1
        have sl := y3.2.2.2.1 k1
        have l := SO1 so (s := x.toNat) (by have := pc.1; omega) (by omega)
        have rows := (y3.2.2.2.2 (by omega)).2
        have nn := RW_nn pc z (s := x.toNat) (by omega)
        rw [Int.toNat_of_nonneg h.1] at nn
        rw [p2, q2, e6, e7, e8, sl.1, sl.2]
        have at_ : ∀ i : Int, 0 ≤ i → i < 240 → atR a (RW a x) i = hV a 337 (240 * x + i).toNat := fun i h0 h1 => by
          unfold atR
          rw [if_pos ⟨nn, h0, by rw [y3.2.2.1]; omega⟩, rows i.toNat (by omega)]
          refine congrArg (hV a 337) ?_
          omega
        rw [w32_id (by omega) (by omega), at_ _ (by omega) (by omega), at_ _ (by omega) (by omega), show 240 * x + (hV a 331 x.toNat - 1) = 240 * x + hV a 331 x.toNat - 1 by omega]
      · exact absurd (iff.mp p1) q1
    · rcases q with ⟨q1, _⟩ | ⟨_, q2⟩
      · exact absurd (iff.mpr q1) p1
      · omega
  · rcases p with ⟨p1, _⟩ | ⟨_, p2⟩
    · exact absurd ⟨p1.1, p1.2.1⟩ h
    · rcases q with ⟨q1, _⟩ | ⟨_, q2⟩
      · exact absurd ⟨q1.1, by rw [pc.1, ← e3]; exact q1.2.1⟩ h
      · omega
