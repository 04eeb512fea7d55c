/-! THE RULES read by the class: a RULE's rows (hand). -/
def CDl (L : List Int) (a b : Int) (C : List Int) : Prop := 0 ≤ a ∧ b = a + (C.length : Int) ∧ b ≤ (L.length : Int) ∧ ∀ (i : Nat) (x : Int), C[i]? = some x → L[a.toNat + i]? = some x
theorem CDl_app {L M : List Int} {a b : Int} {C : List Int} (z : CDl L a b C) : CDl (L ++ M) a b C := by
  obtain ⟨z1, z2, z3, z4⟩ := z
  refine ⟨z1, z2, by rw [List.length_append]; omega, fun i x h => ?_⟩
  have y := z4 i x h
  obtain ⟨hi, _⟩ := List.getElem?_eq_some_iff.mp y
  rw [List.getElem?_append_left hi]
  exact y
theorem CDl_end {L C : List Int} {a b : Int} (ha : a = (L.length : Int)) (hb : b = ((L ++ C).length : Int)) : CDl (L ++ C) a b C := by
  rw [List.length_append] at hb
  refine ⟨by omega, by omega, by rw [List.length_append]; omega, fun i x h => ?_⟩
  rw [List.getElem?_append_right (by omega), show a.toNat + i - L.length = i by omega]
  exact h
theorem CDo_of {h : gH} {d : Int} {L : List Int} {a b : Int} {C : List Int} (c : CODE h d L) (l : L.length ≤ 1000) (z : CDl L a b C) : CDo h d a b C := ⟨z.1, z.2.1, by have := z.2.2.1; omega, fun i x hx => c.2 _ _ (z.2.2.2 i x hx)⟩
def RLj (h : gH) (d : Int) (L : List Int) (i : Nat) : Rul → Prop
  | none => 0 < hV h (d.toNat + 6) i
  | some e => hV h (d.toNat + 6) i = 0 ∧ CDl L (hV h (d.toNat + 2) i) (hV h (d.toNat + 3) i) (e.1.map enc) ∧ CDl L (hV h (d.toNat + 3) i) (hV h (d.toNat + 4) i) (cC false false e.2)
/-- RULES R of a code L -/
def RLl (h : gH) (d : Int) (L : List Int) (R : List Rul) : Prop := hV h d.toNat 0 = (R.length : Int) ∧ R.length ≤ 12 ∧ ∀ (i : Nat) (r : Rul), R[i]? = some r → RLj h d L i r
theorem RLo_of {h : gH} {d : Int} {L : List Int} {R : List Rul} (c : CODE h d L) (l : L.length ≤ 1000) (z : RLl h d L R) : RLo h d R := by
  refine ⟨z.1, z.2.1, fun i r hr => ?_⟩
  have q := z.2.2 i r hr
  cases r with
  | none => exact q
  | some e => exact ⟨q.1, CDo_of c l q.2.1, CDo_of c l q.2.2⟩
theorem RLj_eq {a b : gH} {d : Int} {L M : List Int} {i : Nat} {r : Rul} (e2 : hV b (d.toNat + 2) i = hV a (d.toNat + 2) i) (e3 : hV b (d.toNat + 3) i = hV a (d.toNat + 3) i) (e4 : hV b (d.toNat + 4) i = hV a (d.toNat + 4) i) (e6 : hV b (d.toNat + 6) i = hV a (d.toNat + 6) i) (z : RLj a d L i r) : RLj b d (L ++ M) i r := by
  cases r with
  | none =>
    show 0 < hV b (d.toNat + 6) i
    rw [e6]
    exact z
  | some e =>
    show hV b (d.toNat + 6) i = 0 ∧ CDl (L ++ M) (hV b (d.toNat + 2) i) (hV b (d.toNat + 3) i) _ ∧ CDl (L ++ M) (hV b (d.toNat + 3) i) (hV b (d.toNat + 4) i) _
    rw [e2, e3, e4, e6]
    exact ⟨z.1, CDl_app z.2.1, CDl_app z.2.2⟩
/-- one RULE more -/
theorem RLl_add {a b : gH} {d : Int} {L M : List Int} {R : List Rul} {r : Rul} (z : RLl a d L R) (l : R.length < 12) (s0 : hV b d.toNat 0 = (R.length : Int) + 1) (e2 : ∀ i : Nat, i < R.length → hV b (d.toNat + 2) i = hV a (d.toNat + 2) i) (e3 : ∀ i : Nat, i < R.length → hV b (d.toNat + 3) i = hV a (d.toNat + 3) i) (e4 : ∀ i : Nat, i < R.length → hV b (d.toNat + 4) i = hV a (d.toNat + 4) i) (e6 : ∀ i : Nat, i < R.length → hV b (d.toNat + 6) i = hV a (d.toNat + 6) i) (w : RLj b d (L ++ M) R.length r) : RLl b d (L ++ M) (R ++ [r]) := by
  refine ⟨by rw [s0, List.length_append]; rfl, by rw [List.length_append]; exact l, fun i q h => ?_⟩
  by_cases c : i < R.length
  · rw [List.getElem?_append_left c] at h
    exact RLj_eq (e2 i c) (e3 i c) (e4 i c) (e6 i c) (z.2.2 i q h)
  · rw [List.getElem?_append_right (by omega)] at h
    have hz : i - R.length = 0 := Classical.byContradiction fun n => by
      rw [List.getElem?_eq_none (by show 1 ≤ i - R.length; omega)] at h
      cases h
    rw [hz] at h
    have h : some r = some q := h
    rw [← Option.some.inj h, show i = R.length by omega]
    exact w
/-- a row of a Rules object is written at i -/
def PUTr (a b : gH) (d : Int) (j : Nat) (i x : Int) : Prop := RO b d ∧ OT a b d ∧ (∀ s : Nat, hV b d.toNat s = hV a d.toNat s) ∧ (∀ k : Nat, 1 ≤ k → k ≤ 8 → ¬ k = j → hV b (d.toNat + k) = hV a (d.toNat + k)) ∧ (0 ≤ i → i < 12 → hV b (d.toNat + j) = uF (hV a (d.toNat + j)) i x)
theorem PUTr_at {a b : gH} {d r i x : Int} {s : Nat} (z : RO a d) (le : hLe T0 a b) (p : putQ r i x a b) (s1 : 3 ≤ s) (s2 : s ≤ 7) (hr : r = hV a d.toNat s) : PUTr a b d (s - 1) i x := by
  have oz := z.1
  have r2 : r = ((d.toNat + (s - 1) : Nat) : Int) := by
    have w := RO_row z hr (.inr ⟨s1, by omega⟩)
    rw [if_neg (by omega)] at w
    exact w
  have ob : hV b d.toNat = hV a d.toNat := putQ_ne p _ (by omega)
  refine ⟨RO_le le z ⟨fun k _ _ => congrFun ob k, congrFun ob 1⟩, fun q k => ⟨k.elim (fun k => (kLe le k rfl).trans k.symm) (fun k => (kLe le k rfl).trans k.symm), fun h => putQ_ne p q (by omega)⟩, fun s => congrFun ob s, fun k _ _ kn => putQ_ne p _ (by omega), fun i0 i1 => ?_⟩
  exact putQ_r (q := d.toNat + (s - 1)) (n := 12) p r2 (z.2.2.2.2.2.2.1 (s - 1) (by omega) (by omega)) i1
/-- a slot that tells no row is written -/
theorem slot_up {a b : gH} {d o i w : Int} (z : RO a d) (u : hUpd b a o i w) (ho : o = d) (hi : i = 0 ∨ i = 2) : RO b d ∧ OT a b d ∧ (∀ k : Nat, 1 ≤ k → hV b (d.toNat + k) = hV a (d.toNat + k)) ∧ (∀ s : Nat, ¬ (s : Int) = i → hV b d.toNat s = hV a d.toNat s) ∧ hV b d.toNat i.toNat = w := by
  subst ho
  obtain ⟨z1, z2, z3, z4, z5, z6, z7, z8, z9⟩ := z
  have o0 : ((o.toNat : Nat) : Int) = o := Int.toNat_of_nonneg (by omega)
  have sl : ∀ s : Nat, ¬ (s : Int) = i → hV b o.toNat s = hV a o.toNat s := fun s h => uSlot u _ s h
  exact ⟨⟨z1, (u.2.2 _).1.trans z2, fun s s1 s2 => (sl s (by omega)).trans (z3 s s1 s2), (sl 1 (by omega)).trans z4, fun j j1 j2 => (u.2.2 _).1.trans (z5 j j1 j2), (u.2.2 _).2.trans z6, fun j j1 j2 => (u.2.2 _).2.trans (z7 j j1 j2), (u.2.2 _).2.trans z8, (u.2.2 _).2.trans z9⟩, fun q _ => ⟨(u.2.2 q).1, fun h => uRowNe u q (by omega)⟩, fun k _ => uRowNe u _ (by omega), sl, uSame u o.toNat i.toNat o0 (Int.toNat_of_nonneg (by omega))⟩
/-- a RULE ends: rows 4 and 6 (right), 5 and 6 (loud), one more -/
def ENDp (a b : gH) (d : Int) (j : Nat) (x w : Int) : Prop := RO a d → RO b d ∧ OT a b d ∧ (∀ s : Nat, ¬ s = 0 → hV b d.toNat s = hV a d.toNat s) ∧ (∀ k : Nat, 1 ≤ k → k ≤ 8 → ¬ k = j → ¬ k = 6 → hV b (d.toNat + k) = hV a (d.toNat + k)) ∧ (0 ≤ hV a d.toNat 0 → hV a d.toNat 0 < 12 → hV b (d.toNat + j) = uF (hV a (d.toNat + j)) (hV a d.toNat 0) x ∧ hV b (d.toNat + 6) = uF (hV a (d.toNat + 6)) (hV a d.toNat 0) w ∧ hV b d.toNat 0 = hV a d.toNat 0 + 1)
theorem END_at {a b c e : gH} {d r1 n1 x r2 n2 w n3 n4 o i : Int} {s : Nat} (s1 : 5 ≤ s) (s2 : s ≤ 6) (hr1 : r1 = hV a d.toNat s) (hn1 : n1 = hV a d.toNat 0) (le1 : hLe T0 a b) (p1 : putQ r1 n1 x a b) (hr2 : r2 = hV b d.toNat 7) (hn2 : n2 = hV b d.toNat 0) (le2 : hLe T0 b c) (p2 : putQ r2 n2 w b c) (hn3 : n3 = hV c d.toNat 0) (w4 : n4 = w32 (n3 + 1)) (u : hUpd e c o i n4) (ho : o = d) (hi : i = 0) : ENDp a e d (s - 1) x w := fun z => by
  obtain ⟨a1, a2, a3, a4, a5⟩ := PUTr_at z le1 p1 (by omega) (by omega) hr1
  obtain ⟨b1, b2, b3, b4, b5⟩ := PUTr_at a1 le2 p2 (by decide) (by decide) hr2
  obtain ⟨c1, c2, c3, c4, c5⟩ := slot_up b1 u ho (.inl hi)
  refine ⟨c1, OT_tr a2 (OT_tr b2 c2), fun k k0 => (c4 k (by omega)).trans ((b3 k).trans (a3 k)), fun k k1 k2 kj k6 => (c3 k k1).trans ((b4 k k1 k2 k6).trans (a4 k k1 k2 kj)), fun m0 m1 => ⟨?_, ?_, ?_⟩⟩
  · rw [c3 (s - 1) (by omega), b4 (s - 1) (by omega) (by omega) (by omega), a5 (by omega) (by omega), hn1]
  · have en : n2 = hV a d.toNat 0 := hn2.trans (a3 0)
    rw [c3 6 (by decide), b5 (by omega) (by omega), a4 6 (by decide) (by decide) (by omega), en]
  · have en : n3 = hV a d.toNat 0 := hn3.trans ((b3 0).trans (a3 0))
    rw [w32_id (by omega) (by omega)] at w4
    subst hi
    have c5 : hV e d.toNat 0 = n4 := c5
    rw [c5]
    omega
