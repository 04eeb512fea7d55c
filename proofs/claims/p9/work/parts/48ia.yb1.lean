/-! WHAT A ROW OF TRUTHS KEEPS of 0 or 1. -/
theorem b1_in {w x : Int} (h : w = o32 (fun x _ => x &&& 1) x 0) (h0 : 0 ≤ x) (h1 : x ≤ 1) : w = x := by
  have hx : x = 0 ∨ x = 1 := by omega
  rcases hx with hx | hx
  · rw [hx] at h ⊢
    rw [h]
    decide
  · rw [hx] at h ⊢
    rw [h]
    decide
