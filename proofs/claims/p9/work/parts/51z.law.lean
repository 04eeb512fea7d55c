/-! THE LAW'S STEPS THROUGH THE SCRIPT. -/
theorem law_ix {N i m s c k : Int} (hN0 : 0 ≤ N) (hN : N ≤ 3072) (h0 : 0 ≤ i) (hs : s = 6) (hm : m = w32 (N - s)) (hi : i ≤ m) (hk : k = w32 (i + c)) (hc : 0 ≤ c ∧ c ≤ 5) : 0 ≤ k ∧ k < N := by
  unfold w32 at *
  omega
theorem law_i0 {N i m s : Int} (hN0 : 0 ≤ N) (hN : N ≤ 3072) (h0 : 0 ≤ i) (hs : s = 6) (hm : m = w32 (N - s)) (hi : i ≤ m) : 0 ≤ i ∧ i < N := by
  unfold w32 at *
  omega
theorem law_st {N i m s k : Int} (hN0 : 0 ≤ N) (hN : N ≤ 3072) (h0 : 0 ≤ i) (hs : s = 6) (hm : m = w32 (N - s)) (hi : i ≤ m) (hk : k = w32 (i + 6)) : k = i + 6 ∧ i + 6 ≤ 3072 := by
  unfold w32 at *
  omega
