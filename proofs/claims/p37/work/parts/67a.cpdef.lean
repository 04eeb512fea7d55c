/-! THE SOUNDS OF BOTH, COUPLED: how many, their kinds, their mouths' counts. -/
def KV (h : gH) (s : Int) : Int := hV h (hV h 24 s.toNat).toNat 0
def MV (h : gH) (s : Int) : Int := hV h (hV h 24 s.toNat).toNat 7
def SV (h : gH) (s : Int) : Int := hV h (hV h 24 s.toNat).toNat 6
def HV (h : gH) (s : Int) : Int := hV h (hV h 24 s.toNat).toNat 10
def mz (x : Int) : Int := if x < 0 then 0 else x
def ADDp (r k z : Int) (a b : gH) : Prop := (r = -1 ∧ 20 ≤ hV a 23 1 ∧ hV b 23 1 = hV a 23 1 ∧ hV b 24 = hV a 24) ∨ (r = hV a 23 1 ∧ 0 ≤ r ∧ r ≤ 19 ∧ hV b 23 1 = r + 1 ∧ hV b 24 = uF (hV a 24) r (hV b 24 r.toNat) ∧ (a.length : Int) ≤ hV b 24 r.toNat ∧ hK b (hV b 24 r.toNat).toNat = 7 ∧ KV b r = k ∧ MV b r = 0 ∧ SV b r = z ∧ HV b r = -1)
def SAMEp (a b : gH) : Prop := hV b 23 1 = hV a 23 1 ∧ hV b 24 = hV a 24
def SNCp (k n a b : Int) : Prop := 0 ≤ k ∧ k ≤ 3 ∧ (n = -1 ∨ (1 ≤ n ∧ n ≤ 240)) ∧ (k = 1 → 0 ≤ a ∧ a < b ∧ b ≤ 240 ∧ (n = -1 ∨ b ≤ n)) ∧ (k = 3 → 0 ≤ a ∧ a ≤ 7)
def ADDm (r k mn n0 n : Int) (kd0 mo0 ma0 kd mo ma : Nat → Int) : Prop := r = n0 ∧ n = n0 + 1 ∧ kd = uF kd0 n0 k ∧ mo = uF mo0 n0 0 ∧ ma = uF ma0 n0 mn
def SAMm (n0 n : Int) (kd0 mo0 ma0 kd mo ma : Nat → Int) : Prop := n = n0 ∧ kd = kd0 ∧ mo = mo0 ∧ ma = ma0
theorem ADDp_from {r k z : Int} {a a' b : gH} (e1 : hV a' 23 1 = hV a 23 1) (e2 : hV a' 24 = hV a 24) (e3 : a'.length = a.length) (h : ADDp r k z a' b) : ADDp r k z a b := by
  unfold ADDp at h ⊢
  rw [e1, e2, e3] at h
  exact h
def CP (h : gH) : Prop := hV h 23 1 = hV h 285 64 ∧ (∀ s : Nat, (s : Int) < hV h 23 1 → 0 ≤ hV h 24 s ∧ hK h (hV h 24 s).toNat = 7 ∧ KV h s = hV h 328 s ∧ MV h s = hV h 338 s) ∧ ∀ s t : Nat, (s : Int) < hV h 23 1 → (t : Int) < hV h 23 1 → hV h 24 s = hV h 24 t → s = t
/-- what a method of the class keeps of the reference, and of the slots of sounds -/
noncomputable def cX (W : List (Nat × Nat)) : Bool := vFree W 285 64 && (vFreeR W 328 && (vFreeR W 338 && (!(vLoc W 7 0) && !(vLoc W 7 7))))
/-- what a method of the reference keeps of the class -/
noncomputable def cY (W : List (Nat × Nat)) : Bool := vFree W 23 1 && (vFreeR W 24 && (!(vLoc W 7 0) && !(vLoc W 7 7)))
theorem KV_at {a b : gH} {W : List (Nat × Nat)} (f : hFr W a b) (c0 : vLoc W 7 0 = false) (c7 : vLoc W 7 7 = false) {s t : Int} (e : hV b 24 s.toNat = hV a 24 t.toNat) (hk : hK a (hV a 24 t.toNat).toNat = 7) : KV b s = KV a t ∧ MV b s = MV a t := by
  unfold KV MV
  rw [e]
  exact ⟨f.2.2 _ 7 hk rfl 0 c0, f.2.2 _ 7 hk rfl 7 c7⟩
theorem CP_fr {W : List (Nat × Nat)} {a b : gH} (le : hLe T0 a b) (f : hFr W a b) (c : (cX W && cY W) = true) (z : CP a) : CP b := by
  unfold cX cY at c
  simp only [Bool.and_eq_true, Bool.not_eq_true'] at c
  obtain ⟨⟨c1, c2, c3, c4, c5⟩, c6, c7, _, _⟩ := c
  have e1 : hV b 23 1 = hV a 23 1 := f.1 23 1 c6
  have e2 : hV b 24 = hV a 24 := fRow f 24 c7
  have e3 : hV b 285 64 = hV a 285 64 := f.1 285 64 c1
  have e4 : hV b 328 = hV a 328 := fRow f 328 c2
  have e5 : hV b 338 = hV a 338 := fRow f 338 c3
  obtain ⟨z1, z2, z3⟩ := z
  refine ⟨by rw [e1, e3]; exact z1, fun s hs => ?_, fun s t hs ht he => ?_⟩
  · rw [e1] at hs
    obtain ⟨y1, y2, y3, y4⟩ := z2 s hs
    have k := KV_at f c4 c5 (s := s) (t := s) (by rw [e2]) (by rw [Int.toNat_natCast]; exact y2)
    rw [e2, e4, e5, k.1, k.2]
    exact ⟨y1, kLe le y2 rfl, y3, y4⟩
  · rw [e1] at hs ht
    rw [e2] at he
    exact z3 s t hs ht he
theorem CP_same {W V : List (Nat × Nat)} {a b c : gH} (z : CP a) (le1 : hLe T0 a b) (f1 : hFr W a b) (c1 : cX W = true) (p : SAMEp a b) (le2 : hLe T0 b c) (f2 : hFr V b c) (c2 : cY V = true) (q : SAMm (hV b 285 64) (hV c 285 64) (hV b 328) (hV b 338) (hV b 329) (hV c 328) (hV c 338) (hV c 329)) : CP c := by
  unfold cX at c1
  unfold cY at c2
  simp only [Bool.and_eq_true, Bool.not_eq_true'] at c1 c2
  obtain ⟨c11, c12, c13, c14, c15⟩ := c1
  obtain ⟨c21, c22, c23, c24⟩ := c2
  obtain ⟨q1, q2, q3, _⟩ := q
  have e1 : hV c 23 1 = hV a 23 1 := (f2.1 23 1 c21).trans p.1
  have e2 : hV c 24 = hV a 24 := (fRow f2 24 c22).trans p.2
  have e3 : hV c 285 64 = hV a 285 64 := q1.trans (f1.1 285 64 c11)
  have e4 : hV c 328 = hV a 328 := q2.trans (fRow f1 328 c12)
  have e5 : hV c 338 = hV a 338 := q3.trans (fRow f1 338 c13)
  obtain ⟨z1, z2, z3⟩ := z
  refine ⟨by rw [e1, e3]; exact z1, fun s hs => ?_, fun s t hs ht he => ?_⟩
  · rw [e1] at hs
    obtain ⟨y1, y2, y3, y4⟩ := z2 s hs
    have k1 := KV_at f1 c14 c15 (s := s) (t := s) (by rw [p.2]) (by rw [Int.toNat_natCast]; exact y2)
    have hb : hK b (hV b 24 s).toNat = 7 := by rw [p.2]; exact kLe le1 y2 rfl
    have k2 := KV_at f2 c23 c24 (s := s) (t := s) (by rw [fRow f2 24 c22]) (by rw [Int.toNat_natCast]; exact hb)
    rw [e2, e4, e5, k2.1, k2.2, k1.1, k1.2]
    exact ⟨y1, kLe le2 (kLe le1 y2 rfl) rfl, y3, y4⟩
  · rw [e1] at hs ht
    rw [e2] at he
    exact z3 s t hs ht he
theorem CP_add {W V : List (Nat × Nat)} {a b c : gH} {r k sz mn r' : Int} (z : CP a) (le1 : hLe T0 a b) (f1 : hFr W a b) (c1 : cX W = true) (hr : 0 ≤ r) (p : ADDp r k sz a b) (le2 : hLe T0 b c) (f2 : hFr V b c) (c2 : cY V = true) (q : ADDm r' k mn (hV b 285 64) (hV c 285 64) (hV b 328) (hV b 338) (hV b 329) (hV c 328) (hV c 338) (hV c 329)) : CP c := by
  unfold cX at c1
  unfold cY at c2
  simp only [Bool.and_eq_true, Bool.not_eq_true'] at c1 c2
  obtain ⟨c11, c12, c13, c14, c15⟩ := c1
  obtain ⟨c21, c22, c23, c24⟩ := c2
  obtain ⟨q1, q2, q3, q4, _⟩ := q
  rcases p with ⟨p1, _⟩ | ⟨p1, _, p2, p3, p4, p5, p6, p7, p8, _⟩
  · omega
  have e1 : hV c 23 1 = r + 1 := (f2.1 23 1 c21).trans p3
  have e2 : hV c 24 = hV b 24 := fRow f2 24 c22
  have e3 : hV b 285 64 = hV a 285 64 := f1.1 285 64 c11
  have e4 : hV b 328 = hV a 328 := fRow f1 328 c12
  have e5 : hV b 338 = hV a 338 := fRow f1 338 c13
  obtain ⟨z1, z2, z3⟩ := z
  have en : hV b 285 64 = r := by rw [e3, ← z1, p1]
  have old : ∀ s : Nat, (s : Int) < r → hV c 24 s = hV a 24 s := fun s hs => by
    rw [e2, p4, uF_at, if_neg (by omega)]
  have new : ∀ s : Nat, (s : Int) = r → hV c 24 s = hV b 24 r.toNat := fun s hs => by
    rw [e2, show r.toNat = s by omega]
  refine ⟨by rw [e1, q2, en], fun s hs => ?_, fun s t hs ht he => ?_⟩
  · rw [e1] at hs
    by_cases hsr : (s : Int) = r
    · have k2 := KV_at f2 c23 c24 (s := s) (t := r) (by rw [Int.toNat_natCast]; exact new s hsr) p6
      refine ⟨by rw [new s hsr]; omega, by rw [new s hsr]; exact kLe le2 p6 rfl, ?_, ?_⟩
      · rw [k2.1, p7, q3, uF_at, if_pos (by omega)]
      · rw [k2.2, p8, q4, uF_at, if_pos (by omega)]
    · obtain ⟨y1, y2, y3, y4⟩ := z2 s (by omega)
      have hb : hV b 24 s = hV a 24 s := by rw [← e2]; exact old s (by omega)
      have k1 := KV_at f1 c14 c15 (s := s) (t := s) (by rw [Int.toNat_natCast]; exact hb) (by rw [Int.toNat_natCast]; exact y2)
      have hkb : hK b (hV b 24 s).toNat = 7 := by rw [hb]; exact kLe le1 y2 rfl
      have k2 := KV_at f2 c23 c24 (s := s) (t := s) (by rw [e2]) (by rw [Int.toNat_natCast]; exact hkb)
      refine ⟨by rw [old s (by omega)]; exact y1, by rw [old s (by omega)]; exact kLe le2 (kLe le1 y2 rfl) rfl, ?_, ?_⟩
      · rw [k2.1, k1.1, q3, uF_at, if_neg (by omega), e4]
        exact y3
      · rw [k2.2, k1.2, q4, uF_at, if_neg (by omega), e5]
        exact y4
  · rw [e1] at hs ht
    have far : ∀ t : Nat, (t : Int) < r → ¬ hV b 24 r.toNat = hV a 24 t := fun t ht he => by
      obtain ⟨y1, y2, _⟩ := z2 t (by omega)
      have := hK_lt y2 (by decide)
      rw [← he] at this
      omega
    by_cases hsr : (s : Int) = r
    · by_cases htr : (t : Int) = r
      · omega
      · rw [new s hsr, old t (by omega)] at he
        exact absurd he (far t (by omega))
    · by_cases htr : (t : Int) = r
      · rw [new t htr, old s (by omega)] at he
        exact absurd he.symm (far s (by omega))
      · rw [old s (by omega), old t (by omega)] at he
        exact z3 s t (by omega) (by omega) he
/-- a telling of both: the same answer, and coupled again -/
theorem pair_cp {W V : List (Nat × Nat)} {a b c : gH} {r k sz mn r' : Int} {C D : Prop} (z : CP a) (le1 : hLe T0 a b) (f1 : hFr W a b) (c1 : cX W = true) (p : (C ∧ ADDp r k sz a b) ∨ (¬ C ∧ r = -1 ∧ SAMEp a b)) (le2 : hLe T0 b c) (f2 : hFr V b c) (c2 : cY V = true) (q : (D ∧ hV b 285 64 ≤ 19 ∧ ADDm r' k mn (hV b 285 64) (hV c 285 64) (hV b 328) (hV b 338) (hV b 329) (hV c 328) (hV c 338) (hV c 329)) ∨ (¬ (D ∧ hV b 285 64 ≤ 19) ∧ r' = -1 ∧ SAMm (hV b 285 64) (hV c 285 64) (hV b 328) (hV b 338) (hV b 329) (hV c 328) (hV c 338) (hV c 329))) (h : C ↔ D) : r = r' ∧ CP c := by
  have e3 : hV b 285 64 = hV a 285 64 := f1.1 285 64 (by unfold cX at c1; simp only [Bool.and_eq_true] at c1; exact c1.1)
  have z1 := z.1
  rcases p with ⟨hc, p⟩ | ⟨hc, p1, p2⟩
  · have p' := p
    rcases p with ⟨p1, p2, p3, p4⟩ | ⟨p1, p0, p2, _⟩
    · rcases q with ⟨_, q1, _⟩ | ⟨_, q2, q3⟩
      · omega
      · exact ⟨by omega, CP_same z le1 f1 c1 ⟨p3, p4⟩ le2 f2 c2 q3⟩
    · rcases q with ⟨_, q1, q2⟩ | ⟨q1, _⟩
      · exact ⟨by have := q2.1; omega, CP_add z le1 f1 c1 p0 p' le2 f2 c2 q2⟩
      · exact absurd ⟨h.mp hc, by omega⟩ q1
  · rcases q with ⟨hd, _⟩ | ⟨_, q2, q3⟩
    · exact absurd (h.mpr hd) hc
    · exact ⟨by omega, CP_same z le1 f1 c1 p2 le2 f2 c2 q3⟩
theorem kBack {a b : gH} {o k : Nat} (le : hLe T0 a b) (l : b.length = a.length) (hk : hK b o = k) (h9 : k ≠ 999) : hK a o = k := by
  have := hK_lt hk h9
  rw [← (le.2 o (by omega)).1]
  exact hk
theorem trim_iff {W : List (Nat × Nat)} {a b : gH} (z : CP a) (f1 : hFr W a b) (c1 : cX W = true) {x y w : Int} : (0 ≤ x ∧ x < hV a 23 1 ∧ 0 ≤ y ∧ y < w ∧ w ≤ 240 ∧ 0 ≤ hV a 24 (x.toNat)) ↔ (0 ≤ x ∧ x < hV b 285 64 ∧ 0 ≤ y ∧ y < w ∧ w ≤ 240) := by
  have e3 : hV b 285 64 = hV a 285 64 := f1.1 285 64 (by unfold cX at c1; simp only [Bool.and_eq_true] at c1; exact c1.1)
  rw [e3, ← z.1]
  constructor
  · intro h
    exact ⟨h.1, h.2.1, h.2.2.1, h.2.2.2.1, h.2.2.2.2.1⟩
  · intro h
    exact ⟨h.1, h.2.1, h.2.2.1, h.2.2.2.1, h.2.2.2.2, (z.2.1 x.toNat (by omega)).1⟩
theorem mute_iff {W : List (Nat × Nat)} {a b : gH} (z : CP a) (f1 : hFr W a b) (c1 : cX W = true) {x : Int} : (0 ≤ x ∧ x < hV a 23 1 ∧ 0 ≤ hV a 24 (x.toNat) ∧ KV a x = 2) ↔ (0 ≤ x ∧ x < hV b 285 64 ∧ hV b 328 (x.toNat) = 2) := by
  have c1' := c1
  unfold cX at c1'
  simp only [Bool.and_eq_true] at c1'
  have e3 : hV b 285 64 = hV a 285 64 := f1.1 285 64 c1'.1
  have e4 : hV b 328 = hV a 328 := fRow f1 328 c1'.2.1
  rw [e3, e4, ← z.1]
  constructor
  · intro h
    have y := (z.2.1 x.toNat (by omega)).2.2.1
    rw [Int.toNat_of_nonneg h.1] at y
    exact ⟨h.1, h.2.1, by rw [← y]; exact h.2.2.2⟩
  · intro h
    have y := z.2.1 x.toNat (by omega)
    rw [Int.toNat_of_nonneg h.1] at y
    exact ⟨h.1, h.2.1, y.1, by rw [y.2.2.1]; exact h.2.2⟩
/-- a mouth more -/
def MOXp (q r : Int) (a b : gH) : Prop := hV b q.toNat 7 = r ∧ ∀ o : Nat, hK a o = 7 → ¬ (o : Int) = q → hV b o 7 = hV a o 7
def MOSp (a b : gH) : Prop := ∀ o : Nat, hK a o = 7 → hV b o 7 = hV a o 7
noncomputable def cXm (W : List (Nat × Nat)) : Bool := vFree W 285 64 && (vFreeR W 328 && (vFreeR W 338 && (!(vLoc W 7 0) && (vFree W 23 1 && vFreeR W 24))))
noncomputable def cYm (W : List (Nat × Nat)) : Bool := vFree W 23 1 && (vFreeR W 24 && (vFree W 285 64 && (vFreeR W 328 && (!(vLoc W 7 0) && !(vLoc W 7 7)))))
theorem mouth_cp {W V : List (Nat × Nat)} {a b c : gH} {r r' x y : Int} (z : CP a) (le1 : hLe T0 a b) (f1 : hFr W a b) (c1 : cXm W = true) (p : ((0 ≤ x ∧ x < hV a 23 1 ∧ 0 ≤ hV a 24 (x.toNat) ∧ KV a x = 2 ∧ 0 ≤ y ∧ y ≤ 59 ∧ MV a x ≤ 7) ∧ r = MV a x + 1 ∧ MOXp (hV a 24 (x.toNat)) r a b) ∨ (¬ (0 ≤ x ∧ x < hV a 23 1 ∧ 0 ≤ hV a 24 (x.toNat) ∧ KV a x = 2 ∧ 0 ≤ y ∧ y ≤ 59 ∧ MV a x ≤ 7) ∧ r = -1 ∧ MOSp a b)) (le2 : hLe T0 b c) (f2 : hFr V b c) (c2 : cYm V = true) (q : ((0 ≤ x ∧ x < hV b 285 64 ∧ hV b 328 (x.toNat) = 2 ∧ 0 ≤ y ∧ y ≤ 59 ∧ hV b 338 (x.toNat) ≤ 7) ∧ r' = hV b 338 (x.toNat) + 1 ∧ hV c 338 = uF (hV b 338) x r') ∨ (¬ (0 ≤ x ∧ x < hV b 285 64 ∧ hV b 328 (x.toNat) = 2 ∧ 0 ≤ y ∧ y ≤ 59 ∧ hV b 338 (x.toNat) ≤ 7) ∧ r' = -1 ∧ hV c 338 = hV b 338)) : r = r' ∧ CP c := by
  unfold cXm at c1
  unfold cYm at c2
  simp only [Bool.and_eq_true, Bool.not_eq_true'] at c1 c2
  obtain ⟨c11, c12, c13, c14, c15, c16⟩ := c1
  obtain ⟨c21, c22, c23, c24, c25, c26⟩ := c2
  have g1 : hV b 23 1 = hV a 23 1 := f1.1 23 1 c15
  have g2 : hV b 24 = hV a 24 := fRow f1 24 c16
  have g3 : hV b 285 64 = hV a 285 64 := f1.1 285 64 c11
  have g4 : hV b 328 = hV a 328 := fRow f1 328 c12
  have g5 : hV b 338 = hV a 338 := fRow f1 338 c13
  have e1 : hV c 23 1 = hV a 23 1 := (f2.1 23 1 c21).trans g1
  have e2 : hV c 24 = hV a 24 := (fRow f2 24 c22).trans g2
  have e3 : hV c 285 64 = hV a 285 64 := (f2.1 285 64 c23).trans g3
  have e4 : hV c 328 = hV a 328 := (fRow f2 328 c24).trans g4
  obtain ⟨z1, z2, z3⟩ := z
  rw [g3, g4, g5] at q
  -- the slots of a sound in c
  have kc : ∀ s : Nat, (s : Int) < hV a 23 1 → 0 ≤ hV a 24 s ∧ hK c (hV a 24 s).toNat = 7 ∧ KV c s = hV a 328 s ∧ MV c s = hV b (hV a 24 s).toNat 7 ∧ MV a s = hV a 338 s ∧ hK a (hV a 24 s).toNat = 7 := fun s hs => by
    obtain ⟨y1, y2, y3, y4⟩ := z2 s hs
    have hb := kLe le1 y2 rfl
    refine ⟨y1, kLe le2 hb rfl, ?_, ?_, y4, y2⟩
    · rw [← y3]
      unfold KV
      rw [e2, Int.toNat_natCast]
      exact (f2.2.2 _ 7 hb rfl 0 c25).trans (f1.2.2 _ 7 y2 rfl 0 c14)
    · unfold MV
      rw [e2, Int.toNat_natCast]
      exact f2.2.2 _ 7 hb rfl 7 c26
  -- where both count
  have iff : (0 ≤ x ∧ x < hV a 23 1 ∧ 0 ≤ hV a 24 (x.toNat) ∧ KV a x = 2 ∧ 0 ≤ y ∧ y ≤ 59 ∧ MV a x ≤ 7) ↔ (0 ≤ x ∧ x < hV a 285 64 ∧ hV a 328 (x.toNat) = 2 ∧ 0 ≤ y ∧ y ≤ 59 ∧ hV a 338 (x.toNat) ≤ 7) := by
    rw [← z1]
    constructor
    · intro h
      have w := z2 x.toNat (by omega)
      rw [Int.toNat_of_nonneg h.1] at w
      exact ⟨h.1, h.2.1, by rw [← w.2.2.1]; exact h.2.2.2.1, h.2.2.2.2.1, h.2.2.2.2.2.1, by rw [← w.2.2.2]; exact h.2.2.2.2.2.2⟩
    · intro h
      have w := z2 x.toNat (by omega)
      rw [Int.toNat_of_nonneg h.1] at w
      exact ⟨h.1, h.2.1, w.1, by rw [w.2.2.1]; exact h.2.2.1, h.2.2.2.1, h.2.2.2.2.1, by rw [w.2.2.2]; exact h.2.2.2.2.2⟩
  rcases p with ⟨pc, pr, px, po⟩ | ⟨pc, pr, po⟩
  · rcases q with ⟨qc, qr, qx⟩ | ⟨qc, _⟩
    · have w := z2 x.toNat (by omega)
      rw [Int.toNat_of_nonneg pc.1] at w
      have rr : r = r' := by rw [pr, qr, w.2.2.2]
      refine ⟨rr, by rw [e1, e3]; exact z1, fun s hs => ?_, fun s t hs ht he => ?_⟩
      · rw [e1] at hs
        obtain ⟨k1, k2, k3, k4, k5, k6⟩ := kc s hs
        refine ⟨by rw [e2]; exact k1, by rw [e2]; exact k2, by rw [e4]; exact k3, ?_⟩
        rw [k4, qx, uF_at]
        by_cases hx : (s : Int) = x
        · rw [if_pos hx, ← rr, ← px, show x.toNat = s by omega]
        · rw [if_neg hx, ← k5, po _ k6 (fun he => hx ?_)]
          · unfold MV
            rw [Int.toNat_natCast]
          · have := z3 s x.toNat hs (by omega) (by omega)
            omega
      · rw [e1] at hs ht
        rw [e2] at he
        exact z3 s t hs ht he
    · exact absurd (iff.mp pc) qc
  · rcases q with ⟨qc, _⟩ | ⟨_, qr, qx⟩
    · exact absurd (iff.mpr qc) pc
    · refine ⟨by omega, by rw [e1, e3]; exact z1, fun s hs => ?_, fun s t hs ht he => ?_⟩
      · rw [e1] at hs
        obtain ⟨k1, k2, k3, k4, k5, k6⟩ := kc s hs
        refine ⟨by rw [e2]; exact k1, by rw [e2]; exact k2, by rw [e4]; exact k3, ?_⟩
        rw [k4, qx, ← k5, po _ k6]
        unfold MV
        rw [Int.toNat_natCast]
      · rw [e1] at hs ht
        rw [e2] at he
        exact z3 s t hs ht he
/-- what a new one is of -/
def ADQ (r s : Int) (b : gH) : Prop := r = -1 ∨ hV b (hV b 24 r.toNat).toNat 3 = s
