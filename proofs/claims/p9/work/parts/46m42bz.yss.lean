/-! STAMPS that may stand one ahead. -/
theorem SSp_le {st st' : Int} {stamp gen mk : Nat → Int} (h : SSp st stamp gen mk) (h1 : st ≤ st') : SSp st' stamp gen mk := by
  refine ⟨fun s hs => ?_, fun k hk => Int.le_trans (h.2 k hk) h1⟩
  have z := h.1 s hs
  omega
