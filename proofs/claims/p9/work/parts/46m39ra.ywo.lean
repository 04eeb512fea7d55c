/-! BOUNDS of what waits, in ints. -/
theorem wo_leI {w : Nat → Int} {n : Int} (h : 0 ≤ n) : 0 ≤ wo w n.toNat ∧ wo w n.toNat ≤ n := by
  have := wo_le (w := w) n.toNat
  omega
