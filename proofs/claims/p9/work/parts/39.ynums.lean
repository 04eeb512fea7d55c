/-! NUMBERS for the reference's contracts: bits, divisions. -/
theorem and_rng (x y : Int32) (h : 0 ≤ y.toInt) : 0 ≤ (x &&& y).toInt ∧ (x &&& y).toInt ≤ y.toInt := by
  have h0 : (y.toBitVec.toNat : Int) = y.toInt := by
    rw [← Int32.toInt_toBitVec] at h ⊢
    rw [BitVec.toInt_eq_toNat_cond] at h ⊢
    split at h
    · rename_i q
      rw [if_pos q]
    · have := y.toBitVec.isLt
      omega
  have h1 : (x &&& y).toBitVec.toNat ≤ y.toBitVec.toNat := by
    rw [Int32.toBitVec_and, BitVec.toNat_and]
    exact Nat.and_le_right
  have h2 : (x &&& y).toInt = ((x &&& y).toBitVec.toNat : Int) := by
    rw [← Int32.toInt_toBitVec]
    have := Int32.toInt_lt y
    exact BitVec.toInt_eq_toNat_of_lt (by omega)
  omega
theorem o32_and_r {k x c : Int} (h : k = o32 (fun x y => x &&& y) x c) (h0 : 0 ≤ c) (h1 : c ≤ 2147483647) : 0 ≤ k ∧ k ≤ c := by
  have e : (Int32.ofInt c).toInt = c := by
    rw [Int32.toInt_ofInt, bmod32]
    exact w32_id (by omega) h1
  have := and_rng (Int32.ofInt x) (Int32.ofInt c) (by rw [e]; exact h0)
  rw [e] at this
  rw [h]
  exact this
theorem i32_id {x : Int} (h0 : -2147483648 ≤ x) (h1 : x ≤ 2147483647) : (Int32.ofInt x).toInt = x := by
  rw [Int32.toInt_ofInt, bmod32]
  exact w32_id h0 h1
theorem o32_div {k x y : Int} (h : k = o32 (fun x y => x / y) x y) (hx0 : -2147483648 ≤ x) (hx1 : x ≤ 2147483647) (hy0 : 0 < y) (hy1 : y ≤ 2147483647) : k = Int.tdiv x y := by
  rw [h]
  unfold o32
  rw [Int32.toInt_div, i32_id hx0 hx1, i32_id (by omega) hy1]
  rw [bmod32]
  have h2 : Int.tdiv x y ≤ 2147483647 ∧ -2147483648 ≤ Int.tdiv x y := by
    rcases Int.lt_or_le x 0 with z | z
    · have h3 : Int.tdiv x y = -(Int.tdiv (-x) y) := by rw [Int.neg_tdiv, Int.neg_neg]
      have h4 : Int.tdiv (-x) y = (-x) / y := Int.tdiv_eq_ediv_of_nonneg (by omega)
      have h5 : (-x) / y ≤ -x := Int.ediv_le_self _ (by omega)
      have h6 : 0 ≤ (-x) / y := Int.ediv_nonneg (by omega) (by omega)
      omega
    · have h4 : Int.tdiv x y = x / y := Int.tdiv_eq_ediv_of_nonneg z
      have h5 : x / y ≤ x := Int.ediv_le_self _ z
      have h6 : 0 ≤ x / y := Int.ediv_nonneg z (by omega)
      omega
  exact w32_id h2.2 h2.1
theorem o32_div_pos {k x y : Int} (h : k = o32 (fun x y => x / y) x y) (hx0 : 0 ≤ x) (hx1 : x ≤ 2147483647) (hy0 : 0 < y) (hy1 : y ≤ 2147483647) : k = x / y := by
  rw [o32_div h (by omega) hx1 hy0 hy1]
  exact Int.tdiv_eq_ediv_of_nonneg hx0
