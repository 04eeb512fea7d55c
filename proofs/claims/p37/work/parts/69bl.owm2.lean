/-! What is owed, by the class (hand; behind owe10 and owm). -/
def LVk (a b : gH) (o : Int) : Prop := ∀ R, RLo a o R → RLo b o R
theorem LVk_tr {a b c : gH} {o : Int} (x : LVk a b o) (y : LVk b c o) : LVk a c o := fun R r => y R (x R r)
theorem LVk_sm {a b : gH} {o : Int} (z : RO a o) (s : SMf a b) : LVk a b o := fun _ r => RLo_sm z s r
theorem LVk_ev {a b : gH} {o : Int} (v : EVs a b o) : LVk a b o := fun _ r => RLo_eq (fun j j1 j2 => v.2.1 j j1 (by omega)) (v.2.2 0 (by decide) (by decide)) r
theorem LVk_se {a b : gH} {o k x : Int} (z : RO a o) (s : SETp a b o k x) : LVk a b o := fun _ r => RLo_eq (s z).2.1 ((s z).2.2.1 0) r
noncomputable def cRO (W : List (Nat × Nat)) : Bool := !(vLoc W 5 1) && (!(vLoc W 5 3) && (!(vLoc W 5 4) && (!(vLoc W 5 5) && (!(vLoc W 5 6) && (!(vLoc W 5 7) && (!(vLoc W 5 8) && !(vLoc W 5 9)))))))
theorem RO_fr {W : List (Nat × Nat)} {a b : gH} {d : Int} (le : hLe T0 a b) (f : hFr W a b) (c : cRO W = true) (z : RO a d) : RO b d := by
  unfold cRO at c
  simp only [Bool.and_eq_true, Bool.not_eq_true'] at c
  obtain ⟨c1, c3, c4, c5, c6, c7, c8, c9⟩ := c
  have s : ∀ k : Nat, vLoc W 5 k = false → hV b d.toNat k = hV a d.toNat k := fun k h => f.2.2 d.toNat 5 z.2.1 rfl k h
  refine RO_le le z ⟨fun k k1 k2 => ?_, s 1 c1⟩
  rcases (show k = 3 ∨ k = 4 ∨ k = 5 ∨ k = 6 ∨ k = 7 ∨ k = 8 ∨ k = 9 by omega) with w | w | w | w | w | w | w <;> subst w
  · exact s 3 c3
  · exact s 4 c4
  · exact s 5 c5
  · exact s 6 c6
  · exact s 7 c7
  · exact s 8 c8
  · exact s 9 c9
theorem RX_f5 {W : List (Nat × Nat)} {a b : gH} (z : RX a) (le : hLe T0 a b) (f : hFr W a b) (c : cRO W = true) (c7 : vFree W 7 5 = true) (c8 : vFree W 30 8 = true) : RX b := ⟨W49_le le z.1, by rw [f.1 7 5 c7, f.1 30 8 c8]; exact z.2.1, RO_fr le f c z.2.2.1, RO_fr le f c z.2.2.2⟩
theorem clO_mm {x y r : Int} (h1 : (x ≤ 999999 ∧ y = x) ∨ (999999 < x ∧ y = 999999)) (h2 : (0 ≤ y ∧ r = y) ∨ (y < 0 ∧ r = 0)) : r = clO x := by
  unfold clO
  by_cases c : x < 0
  · rw [if_pos c]
    omega
  · rw [if_neg c]
    by_cases d : 999999 < x
    · rw [if_pos d]
      omega
    · rw [if_neg d]
      omega
