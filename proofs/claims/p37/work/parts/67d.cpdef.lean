/-! SIZES COUPLED (for sample): of all SOUNDS that are no MIXED ones. -/
def CS (h : gH) : Prop := ∀ s : Nat, (s : Int) < hV h 23 1 → hK h (hV h 24 s).toNat = 7 ∧ (KV h s = 6 ∨ (HV h s = -1 ∧ (KV h s ≤ 3 → SV h s = mz (hV h 329 s))))
def KEc (a b : gH) : Prop := ∀ o : Nat, hK a o = 7 → ¬ hV a o 0 = 6 → hV a o 10 = -1 → hV b o 6 = hV a o 6 ∧ hV b o 10 = -1
def KMp (m0 m : Nat → Int) (s : Int) : Prop := ∀ k : Nat, ¬ (k : Int) = s → m k = m0 k
def KMk (kd m0 m : Nat → Int) : Prop := ∀ s : Nat, ¬ kd s = 6 → m s = m0 s
theorem KEc_refl (a : gH) : KEc a a := fun _ _ _ h => ⟨rfl, h⟩
theorem KEc_fr {W : List (Nat × Nat)} {a b : gH} (f : hFr W a b) (c6 : vLoc W 7 6 = false) (c10 : vLoc W 7 10 = false) : KEc a b := fun o hk _ h => ⟨f.2.2 o 7 hk rfl 6 c6, (f.2.2 o 7 hk rfl 10 c10).trans h⟩
theorem KEc_trans {W : List (Nat × Nat)} {a b c : gH} (le : hLe T0 a b) (f : hFr W a b) (c0 : vLoc W 7 0 = false) (x : KEc a b) (y : KEc b c) : KEc a c := fun o hk h6 h10 => by
  obtain ⟨x1, x2⟩ := x o hk h6 h10
  obtain ⟨y1, y2⟩ := y o (kLe le hk rfl) (by rw [f.2.2 o 7 hk rfl 0 c0]; exact h6) x2
  exact ⟨y1.trans x1, y2⟩
theorem lgc {k x y : Int} (e : k = (lg_cmp (Int64.ofInt x) (Int64.ofInt y)).toInt) (h1 : -2147483648 ≤ x) (h2 : x ≤ 2147483647) (h3 : -2147483648 ≤ y) (h4 : y ≤ 2147483647) : (0 ≤ k ↔ y ≤ x) ∧ (k ≤ 0 ↔ x ≤ y) := by
  have ex : (Int64.ofInt x).toInt = x := Int64.toInt_ofInt_of_le (by omega) (by omega)
  have ey : (Int64.ofInt y).toInt = y := Int64.toInt_ofInt_of_le (by omega) (by omega)
  have a1 := lg_cmp_ge (Int64.ofInt x) (Int64.ofInt y)
  have a2 := lg_cmp_le (Int64.ofInt x) (Int64.ofInt y)
  rw [Int32.le_iff_toInt_le, Int64.le_iff_toInt_le, ex, ey, ← e] at a1 a2
  exact ⟨a1, a2⟩
/-- the slots of a sound behind a run that doesn't write them -/
theorem SH_atz {a b : gH} {W : List (Nat × Nat)} (f : hFr W a b) (c0 : vLoc W 7 0 = false) {s t : Int} (e : hV b 24 s.toNat = hV a 24 t.toNat) (hk : hK a (hV a 24 t.toNat).toNat = 7) : KV b s = KV a t ∧ (vLoc W 7 6 = false → SV b s = SV a t) ∧ (vLoc W 7 10 = false → HV b s = HV a t) := by
  unfold KV SV HV
  rw [e]
  exact ⟨f.2.2 _ 7 hk rfl 0 c0, fun c => f.2.2 _ 7 hk rfl 6 c, fun c => f.2.2 _ 7 hk rfl 10 c⟩
noncomputable def cZ (W : List (Nat × Nat)) : Bool := vFree W 23 1 && (vFreeR W 24 && (vFreeR W 329 && (!(vLoc W 7 0) && (!(vLoc W 7 6) && !(vLoc W 7 10)))))
theorem CS_fr {W : List (Nat × Nat)} {a b : gH} (le : hLe T0 a b) (f : hFr W a b) (c : cZ W = true) (z : CS a) : CS b := by
  unfold cZ at c
  simp only [Bool.and_eq_true, Bool.not_eq_true'] at c
  obtain ⟨c1, c2, c3, c4, c5, c6⟩ := c
  have e1 : hV b 23 1 = hV a 23 1 := f.1 23 1 c1
  have e2 : hV b 24 = hV a 24 := fRow f 24 c2
  have e3 : hV b 329 = hV a 329 := fRow f 329 c3
  intro s hs
  rw [e1] at hs
  obtain ⟨y1, y2⟩ := z s hs
  have k := SH_atz f c4 (s := s) (t := s) (by rw [e2]) (by rw [Int.toNat_natCast]; exact y1)
  rw [e2, e3, k.1, k.2.1 c5, k.2.2 c6]
  exact ⟨kLe le y1 rfl, y2⟩
/-- make and again of both: what is no MIXED one stays -/
noncomputable def cZa (W : List (Nat × Nat)) : Bool := vFree W 23 1 && (vFreeR W 24 && (vFreeR W 329 && (vFreeR W 328 && !(vLoc W 7 0))))
noncomputable def cZb (W : List (Nat × Nat)) : Bool := vFree W 23 1 && (vFreeR W 24 && (!(vLoc W 7 0) && (!(vLoc W 7 6) && !(vLoc W 7 10))))
theorem CS_keep {W V : List (Nat × Nat)} {a b c : gH} (p : CP a) (z : CS a) (le1 : hLe T0 a b) (f1 : hFr W a b) (c1 : cZa W = true) (k1 : KEc a b) (le2 : hLe T0 b c) (f2 : hFr V b c) (c2 : cZb V = true) (k2 : KMk (hV b 328) (hV b 329) (hV c 329)) : CS c := by
  unfold cZa at c1
  unfold cZb at c2
  simp only [Bool.and_eq_true, Bool.not_eq_true'] at c1 c2
  obtain ⟨c11, c12, c13, c14, c15⟩ := c1
  obtain ⟨c21, c22, c23, c24, c25⟩ := c2
  have e1 : hV c 23 1 = hV a 23 1 := (f2.1 23 1 c21).trans (f1.1 23 1 c11)
  have b2 : hV b 24 = hV a 24 := fRow f1 24 c12
  have e2 : hV c 24 = hV a 24 := (fRow f2 24 c22).trans b2
  have b3 : hV b 329 = hV a 329 := fRow f1 329 c13
  have b4 : hV b 328 = hV a 328 := fRow f1 328 c14
  intro s hs
  rw [e1] at hs
  obtain ⟨y1, y2⟩ := z s hs
  have yk := (p.2.1 s hs).2.2.1
  have kb : hK b (hV b 24 s).toNat = 7 := by rw [b2]; exact kLe le1 y1 rfl
  have s1 := SH_atz f1 c15 (s := s) (t := s) (by rw [b2]) (by rw [Int.toNat_natCast]; exact y1)
  have s2 := SH_atz f2 c23 (s := s) (t := s) (by rw [fRow f2 24 c22]) (by rw [Int.toNat_natCast]; exact kb)
  have t6 := s2.2.1 c24
  have t10 := s2.2.2 c25
  refine ⟨by rw [e2]; exact kLe le2 (kLe le1 y1 rfl) rfl, ?_⟩
  rw [s2.1, s1.1, t6, t10]
  rcases y2 with y2 | ⟨y2, y3⟩
  · exact .inl y2
  · by_cases h6 : KV a s = 6
    · exact .inl h6
    · refine .inr ?_
      have w := k1 (hV a 24 s).toNat y1 (by unfold KV at h6; rw [Int.toNat_natCast] at h6; exact h6) (by unfold HV at y2; rw [Int.toNat_natCast] at y2; exact y2)
      have w6 : SV b s = SV a s := by
        unfold SV
        rw [b2, Int.toNat_natCast]
        exact w.1
      have w10 : HV b s = -1 := by
        unfold HV
        rw [b2, Int.toNat_natCast]
        exact w.2
      refine ⟨w10, fun h3 => ?_⟩
      rw [w6, y3 h3, k2 s (by rw [b4, ← yk]; exact h6), b3]
noncomputable def cZc (W : List (Nat × Nat)) : Bool := vFreeR W 329 && (!(vLoc W 7 0) && (!(vLoc W 7 6) && !(vLoc W 7 10)))
theorem CS_add {W V : List (Nat × Nat)} {a b c : gH} {r k sz mn r' : Int} {C D : Prop} (pc : CP a) (z : CS a) (le1 : hLe T0 a b) (f1 : hFr W a b) (c1 : (cX W && cZc W) = true) (p : (C ∧ ADDp r k sz a b) ∨ (¬ C ∧ r = -1 ∧ SAMEp a b)) (le2 : hLe T0 b c) (f2 : hFr V b c) (c2 : cZb V = true) (q : (D ∧ hV b 285 64 ≤ 19 ∧ ADDm r' k mn (hV b 285 64) (hV c 285 64) (hV b 328) (hV b 338) (hV b 329) (hV c 328) (hV c 338) (hV c 329)) ∨ (¬ (D ∧ hV b 285 64 ≤ 19) ∧ r' = -1 ∧ SAMm (hV b 285 64) (hV c 285 64) (hV b 328) (hV b 338) (hV b 329) (hV c 328) (hV c 338) (hV c 329))) (h : C ↔ D) (hz : k ≤ 3 → sz = mz mn) : CS c := by
  rw [Bool.and_eq_true] at c1
  obtain ⟨cx, cz⟩ := c1
  unfold cX at cx
  unfold cZc at cz
  unfold cZb at c2
  simp only [Bool.and_eq_true, Bool.not_eq_true'] at cx cz c2
  obtain ⟨c31, c32, c33, c34⟩ := cz
  obtain ⟨c21, c22, c23, c24, c25⟩ := c2
  have e3 : hV b 285 64 = hV a 285 64 := f1.1 285 64 cx.1
  have z1 := pc.1
  have b3 : hV b 329 = hV a 329 := fRow f1 329 c31
  have g1 : hV c 23 1 = hV b 23 1 := f2.1 23 1 c21
  have g2 : hV c 24 = hV b 24 := fRow f2 24 c22
  -- what stood there
  have old : hV c 329 = hV a 329 ∨ (hV c 329 = uF (hV a 329) (hV a 23 1) mn) → ∀ s : Nat, (s : Int) < hV a 23 1 → hV b 24 s = hV a 24 s → hK c (hV c 24 s).toNat = 7 ∧ (KV c s = 6 ∨ (HV c s = -1 ∧ (KV c s ≤ 3 → SV c s = mz (hV c 329 s)))) := fun hm s hs he => by
    obtain ⟨y1, y2⟩ := z s hs
    have kb : hK b (hV b 24 s).toNat = 7 := by rw [he]; exact kLe le1 y1 rfl
    have s1 := SH_atz f1 c32 (s := s) (t := s) (by rw [Int.toNat_natCast]; exact he) (by rw [Int.toNat_natCast]; exact y1)
    have s2 := SH_atz f2 c23 (s := s) (t := s) (by rw [g2]) (by rw [Int.toNat_natCast]; exact kb)
    have m1 : hV c 329 s = hV a 329 s := by
      rcases hm with hm | hm
      · rw [hm]
      · rw [hm, uF_at, if_neg (by omega)]
    refine ⟨by rw [g2]; exact kLe le2 kb rfl, ?_⟩
    rw [s2.1, s1.1, s2.2.1 c24, s1.2.1 c33, s2.2.2 c25, s1.2.2 c34, m1]
    exact y2
  have same : hV b 23 1 = hV a 23 1 → hV b 24 = hV a 24 → hV c 329 = hV b 329 → CS c := fun w1 w2 w3 s hs => by
    rw [g1, w1] at hs
    exact old (.inl (w3.trans b3)) s hs (by rw [w2])
  rcases p with ⟨hc, p⟩ | ⟨hc, p1, p2⟩
  · rcases p with ⟨p1, p2, p3, p4⟩ | ⟨p1, p0, p2, p3, p4, p5, p6, p7, p8, p9, p10⟩
    · rcases q with ⟨_, q1, _⟩ | ⟨_, q2, q3⟩
      · omega
      · exact same p3 p4 q3.2.2.2
    · rcases q with ⟨_, q1, q2⟩ | ⟨q1, _⟩
      · have mm : hV c 329 = uF (hV a 329) (hV a 23 1) mn := by rw [q2.2.2.2.2, e3, ← z1, b3]
        intro s hs
        rw [g1, p3] at hs
        by_cases hsr : (s : Int) = r
        · have hn : hV b 24 s = hV b 24 r.toNat := by rw [show r.toNat = s by omega]
          have s2 := SH_atz f2 c23 (s := s) (t := r) (by rw [Int.toNat_natCast, g2, hn]) p6
          refine ⟨by rw [g2, hn]; exact kLe le2 p6 rfl, ?_⟩
          rw [s2.1, s2.2.1 c24, s2.2.2 c25, p7, p9, p10, mm, uF_at, if_pos (by omega)]
          exact .inr ⟨rfl, hz⟩
        · refine old (.inr mm) s (by omega) ?_
          rw [p4, uF_at, if_neg hsr]
      · exact absurd ⟨h.mp hc, by omega⟩ q1
  · rcases q with ⟨hd, _⟩ | ⟨_, q2, q3⟩
    · exact absurd (h.mpr hd) hc
    · exact same p2.1 p2.2 q3.2.2.2
/-- sample -/
def SMc (h : gH) (x y v : Int) : Prop := 0 ≤ x ∧ x < hV h 23 1 ∧ 0 ≤ hV h 24 x.toNat ∧ KV h x ≤ 3 ∧ 0 ≤ y ∧ y < SV h x ∧ -9999 ≤ v ∧ v ≤ 9999
def SMm (h : gH) (x y v : Int) : Prop := 0 ≤ x ∧ x < hV h 285 64 ∧ hV h 328 x.toNat < 4 ∧ ¬ hV h 329 x.toNat = -1 ∧ 0 ≤ y ∧ y < hV h 329 x.toNat ∧ -9999 ≤ v ∧ v ≤ 9999
theorem sample_eq {W : List (Nat × Nat)} {a b : gH} {r r' x y v : Int} (pc : CP a) (z : CS a) (f1 : hFr W a b) (c1 : (cX W && vFreeR W 329) = true) (p : (SMc a x y v ∧ r = 1) ∨ (¬ SMc a x y v ∧ r = 0)) (q : (SMm b x y v ∧ r' = 1) ∨ (¬ SMm b x y v ∧ r' = 0)) : r = r' := by
  rw [Bool.and_eq_true] at c1
  obtain ⟨cx, c3⟩ := c1
  unfold cX at cx
  simp only [Bool.and_eq_true, Bool.not_eq_true'] at cx
  have e3 : hV b 285 64 = hV a 285 64 := f1.1 285 64 cx.1
  have e4 : hV b 328 = hV a 328 := fRow f1 328 cx.2.1
  have e5 : hV b 329 = hV a 329 := fRow f1 329 c3
  have iff : SMc a x y v ↔ SMm b x y v := by
    unfold SMc SMm
    rw [e3, e4, e5, ← pc.1]
    by_cases h : 0 ≤ x ∧ x < hV a 23 1
    · have y1 := pc.2.1 x.toNat (by omega)
      have y2 := (z x.toNat (by omega)).2
      rw [Int.toNat_of_nonneg h.1] at y1 y2
      unfold mz at y2
      constructor
      · intro w
        have w3 := y2.resolve_left (by omega)
        have w4 := w3.2 (by omega)
        split at w4
        · omega
        · omega
      · intro w
        have w3 := y2.resolve_left (by omega)
        have w4 := w3.2 (by omega)
        split at w4
        · omega
        · omega
    · constructor
      · intro w
        omega
      · intro w
        omega
  rcases p with ⟨p1, p2⟩ | ⟨p1, p2⟩
  · rcases q with ⟨_, q2⟩ | ⟨q1, _⟩
    · omega
    · exact absurd (iff.mp p1) q1
  · rcases q with ⟨q1, _⟩ | ⟨_, q2⟩
    · exact absurd (iff.mpr q1) p1
    · omega
