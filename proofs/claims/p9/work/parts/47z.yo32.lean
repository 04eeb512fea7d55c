/-! THE RANGE OF AN OPERATION ON 32 BITS. -/
theorem o32_lo {f : Int32 → Int32 → Int32} {x y r : Int} (h : r = o32 f x y) : -2147483648 ≤ r := by
  rw [h]
  exact (show (-2147483648 : Int) ≤ (o32 f x y) ∧ o32 f x y ≤ 2147483647 from sFull_ok _).1
theorem o32_hi {f : Int32 → Int32 → Int32} {x y r : Int} (h : r = o32 f x y) : r ≤ 2147483647 := by
  rw [h]
  exact (show (-2147483648 : Int) ≤ (o32 f x y) ∧ o32 f x y ≤ 2147483647 from sFull_ok _).2
