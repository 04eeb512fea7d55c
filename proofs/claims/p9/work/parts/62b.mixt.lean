/-! THE TOLD STATE keeps to its bounds (hand; behind mix.lean.txt). -/
theorem MT_put {w : Int} {m : MXS} (z : MT m) (h : m.1 ≤ 1996) : MT (mPut w m) := by
  obtain ⟨z1, z2⟩ := z
  refine ⟨⟨?_, ?_⟩, z2⟩
  · show 0 ≤ m.1 + 4
    omega
  · show m.1 + 4 ≤ 2000
    omega
theorem MT_feed {a b c d e : Int} {m : MXS} (z : MT m) : MT (mFeed a b c d e m).1 := by
  unfold mFeed
  by_cases k : 2000 < m.1 + 20
  · rw [if_pos k]
    exact z
  · rw [if_neg k]
    have z1 := MT_put (w := a) z (by omega)
    have z2 := MT_put (w := b) z1 (by show m.1 + 4 ≤ 1996; omega)
    have z3 := MT_put (w := c) z2 (by show m.1 + 4 + 4 ≤ 1996; omega)
    have z4 := MT_put (w := d) z3 (by show m.1 + 4 + 4 + 4 ≤ 1996; omega)
    exact MT_put (w := e) z4 (by show m.1 + 4 + 4 + 4 + 4 ≤ 1996; omega)
theorem MT_back {n : Int} {m : MXS} (z : MT m) : MT (mBack n m).1 := by
  unfold mBack
  by_cases k : n < 0 ∨ m.1 < n
  · rw [if_pos k]
    exact z
  · rw [if_neg k]
    have z1 := z.1
    exact ⟨⟨by show 0 ≤ m.1 - n; omega, by show m.1 - n ≤ 2000; omega⟩, z.2⟩
theorem MT_read {m : MXS} (z : MT m) : MT (mRead m).1 := by
  unfold mRead
  by_cases k : 8 ≤ m.2.2.2.1
  · rw [if_pos k]
    exact z
  · have z2 := z.2.1
    rw [if_neg k]
    by_cases c : pRes (pRead (pTx m.2.1 m.1)) = 0 ∧ ¬ (pTx m.2.1 m.1).1 0 = 19
    · rw [if_pos c]
      exact ⟨⟨by show (0 : Int) ≤ 0; decide, by show (0 : Int) ≤ 2000; decide⟩, ⟨by show 0 ≤ m.2.2.2.1 + 1; omega, by show m.2.2.2.1 + 1 ≤ 8; omega⟩, z.2.2⟩
    · rw [if_neg c]
      exact ⟨⟨by show (0 : Int) ≤ 0; decide, by show (0 : Int) ≤ 2000; decide⟩, z.2⟩
theorem MT_reel {n : Int} {m : MXS} (z : MT m) : MT (mReel n m).1 := by
  unfold mReel
  by_cases k : m.2.2.2.1 = 0 ∧ m.2.2.2.2.1 ≤ 1 ∧ 1 ≤ n ∧ n ≤ 60
  · rw [if_pos k]
    obtain ⟨z1, z2, z3, z4, z5, z6, z7⟩ := z
    refine ⟨z1, z2, z3, fun j => ?_, z5, z6, fun j hj => ?_⟩
    · show 0 ≤ uF m.2.2.2.2.2.1 0 n j ∧ uF m.2.2.2.2.2.1 0 n j ≤ 60
      rw [uF_at]
      by_cases c : (j : Int) = 0
      · rw [if_pos c]
        omega
      · rw [if_neg c]
        exact z4 j
    · show uF m.2.2.2.2.2.1 0 n j = 0 ∧ _
      have hj2 : m.2.2.2.2.1 ≤ (j : Int) := hj
      rw [uF_at, if_neg (by omega)]
      exact z7 j hj
  · rw [if_neg k]
    exact z
theorem MT_begin {m : MXS} (z : MT m) : MT (mBegin m).1 := by
  unfold mBegin
  by_cases k : 6 ≤ m.2.2.2.2.1 ∨ m.2.2.2.2.2.1 (m.2.2.2.2.1 - 1).toNat = 0
  · rw [if_pos k]
    exact z
  · rw [if_neg k]
    obtain ⟨z1, z2, z3, z4, z5, z6, z7⟩ := z
    refine ⟨z1, z2, ⟨by show 1 ≤ m.2.2.2.2.1 + 1; omega, by show m.2.2.2.2.1 + 1 ≤ 6; omega⟩, z4, z5, z6, fun j hj => z7 j ?_⟩
    have hj2 : m.2.2.2.2.1 + 1 ≤ (j : Int) := hj
    omega
theorem pO_in {first p : Int} {o : Nat → Int} (h : ∀ j : Nat, -1 ≤ o j ∧ o j ≤ 59) : ∀ {k : Nat}, (first = -1 ∨ (0 ≤ first ∧ first + (k : Int) ≤ 60)) → ∀ j : Nat, -1 ≤ pO first p o k j ∧ pO first p o k j ≤ 59 := by
  intro k
  induction k with
  | zero => intro _ j; exact h j
  | succ k ih =>
    intro c j
    show -1 ≤ uF (pO first p o k) (p + (k : Int)) (if first = -1 then -1 else first + (k : Int)) j ∧ uF (pO first p o k) (p + (k : Int)) (if first = -1 then -1 else first + (k : Int)) j ≤ 59
    rw [uF_at]
    by_cases q : (j : Int) = p + (k : Int)
    · rw [if_pos q]
      by_cases e : first = -1
      · rw [if_pos e]
        omega
      · rw [if_neg e]
        omega
    · rw [if_neg q]
      exact ih (by omega) j
theorem MT_ext {first n : Int} {m : MXS} (z : MT m) (fa : first = -1 ∨ (0 ≤ first ∧ first + n ≤ 60)) : MT (mExt first n m).1 := by
  unfold mExt
  by_cases k : m.2.2.2.2.1 - 1 = 0 ∨ m.2.2.2.2.2.2.2.2 = 1 ∨ 10 ≤ m.2.2.2.2.2.2.1 (m.2.2.2.2.1 - 1).toNat ∨ n < 1 ∨ 60 - m.2.2.2.2.2.1 (m.2.2.2.2.1 - 1).toNat < n
  · rw [if_pos k]
    exact z
  · rw [if_neg k]
    obtain ⟨z1, z2, z3, z4, z5, z6, z7⟩ := z
    have y4 := z4 (m.2.2.2.2.1 - 1).toNat
    have y5 := z5 (m.2.2.2.2.1 - 1).toNat
    refine ⟨z1, z2, z3, fun j => ?_, fun j => ?_, fun j => ?_, fun j hj => ?_⟩
    · show 0 ≤ uF m.2.2.2.2.2.1 (m.2.2.2.2.1 - 1) (m.2.2.2.2.2.1 (m.2.2.2.2.1 - 1).toNat + n) j ∧ uF m.2.2.2.2.2.1 (m.2.2.2.2.1 - 1) (m.2.2.2.2.2.1 (m.2.2.2.2.1 - 1).toNat + n) j ≤ 60
      rw [uF_at]
      by_cases c : (j : Int) = m.2.2.2.2.1 - 1
      · rw [if_pos c]
        omega
      · rw [if_neg c]
        exact z4 j
    · show 0 ≤ uF m.2.2.2.2.2.2.1 (m.2.2.2.2.1 - 1) (m.2.2.2.2.2.2.1 (m.2.2.2.2.1 - 1).toNat + 1) j ∧ uF m.2.2.2.2.2.2.1 (m.2.2.2.2.1 - 1) (m.2.2.2.2.2.2.1 (m.2.2.2.2.1 - 1).toNat + 1) j ≤ 10
      rw [uF_at]
      by_cases c : (j : Int) = m.2.2.2.2.1 - 1
      · rw [if_pos c]
        omega
      · rw [if_neg c]
        exact z5 j
    · exact pO_in z6 (by omega) j
    · have hj2 : m.2.2.2.2.1 ≤ (j : Int) := hj
      show uF m.2.2.2.2.2.1 (m.2.2.2.2.1 - 1) (m.2.2.2.2.2.1 (m.2.2.2.2.1 - 1).toNat + n) j = 0 ∧ uF m.2.2.2.2.2.2.1 (m.2.2.2.2.1 - 1) (m.2.2.2.2.2.2.1 (m.2.2.2.2.1 - 1).toNat + 1) j = 0
      rw [uF_at, uF_at, if_neg (by omega), if_neg (by omega)]
      exact z7 j hj
theorem MT_keep {a b : Int} {m : MXS} (z : MT m) : MT (mKeep a b m).1 := by
  unfold mKeep
  by_cases k : m.2.2.2.2.1 - 1 = 0 ∨ a < 0 ∨ b ≤ a ∨ m.2.2.2.2.2.1 (m.2.2.2.2.1 - 1 - 1).toNat < b
  · rw [if_pos k]
    exact z
  · rw [if_neg k]
    have y4 := z.2.2.2.1 (m.2.2.2.2.1 - 1 - 1).toNat
    exact MT_ext z (.inr ⟨by omega, by omega⟩)
