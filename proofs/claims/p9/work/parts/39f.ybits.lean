/-! BITS of ints. -/
def bt (x : Int) (k : Nat) : Bool := (Int32.ofInt x).toBitVec.getLsbD k
def BTS (r : Int) (p : Nat → Prop) : Prop := ∀ j : Nat, j < 32 → (bt r j = true ↔ p j)
theorem bt_or (x y : Int) (k : Nat) : bt (o32 (fun x y => x ||| y) x y) k = (bt x k || bt y k) := by
  unfold bt o32
  rw [of32, Int32.toBitVec_or, BitVec.getLsbD_or]
theorem bt_and (x y : Int) (k : Nat) : bt (o32 (fun x y => x &&& y) x y) k = (bt x k && bt y k) := by
  unfold bt o32
  rw [of32, Int32.toBitVec_and, BitVec.getLsbD_and]
theorem bt_xor (x y : Int) (k : Nat) : bt (o32 (fun x y => x ^^^ y) x y) k = (bt x k ^^ bt y k) := by
  unfold bt o32
  rw [of32, Int32.toBitVec_xor, BitVec.getLsbD_xor]
theorem bt_ones : ∀ k : Fin 32, bt (-1) k.val = true := by decide +kernel
theorem bt_zero (k : Nat) : bt 0 k = false := by
  show (0#32).getLsbD k = false
  exact BitVec.getLsbD_zero
theorem bt_not {n x m : Int} {k : Nat} (h : n = o32 (fun x y => x ^^^ y) x m) (hm : m = -1) (hk : k < 32) : bt n k = !bt x k := by
  rw [h, bt_xor, hm, bt_ones ⟨k, hk⟩, Bool.xor_true]
theorem shl_tab : ∀ c : Fin 32, ∀ k : Fin 32, bt (o32 (fun x y => x <<< (y &&& 31)) 1 (c.val : Int)) k.val = decide (k.val = c.val) := by decide +kernel
theorem bt_shl {n x c : Int} {k : Nat} (h : n = o32 (fun x y => x <<< (y &&& 31)) x c) (hx : x = 1) (h0 : 0 ≤ c) (h1 : c < 32) (hk : k < 32) : bt n k = true ↔ (k : Int) = c := by
  have e := shl_tab ⟨c.toNat, by omega⟩ ⟨k, hk⟩
  dsimp only at e
  rw [show ((c.toNat : Nat) : Int) = c by omega] at e
  rw [h, hx, e, decide_eq_true_eq]
  omega
theorem shr_amt : ∀ k : Fin 32, ((Int32.ofInt (k.val : Int) &&& 31).toBitVec.smod 32#32).toNat = k.val := by decide +kernel
theorem bv_test (x : BitVec 32) (k : Nat) (hk : k < 32) : (x.sshiftRight k &&& 1#32) = (if x.getLsbD k = true then 1#32 else 0#32) := by
  apply BitVec.eq_of_getLsbD_eq
  intro i hi
  rw [BitVec.getLsbD_and, BitVec.getLsbD_sshiftRight]
  by_cases h0 : i = 0
  · subst h0
    rw [if_pos (by omega), Nat.add_zero]
    cases hx : x.getLsbD k with
    | true => rw [if_pos rfl]; decide
    | false => rw [if_neg (by decide)]; decide
  · have e : (1#32).getLsbD i = false := by
      rw [BitVec.getLsbD_one]
      simp [h0]
    rw [e, Bool.and_false]
    split
    · exact e.symm
    · exact BitVec.getLsbD_zero.symm
theorem bt_test {n m x k c : Int} (h1 : n = o32 (fun x y => x >>> (y &&& 31)) x k) (h2 : m = o32 (fun x y => x &&& y) n c) (hc : c = 1) (h0 : 0 ≤ k) (hk : k < 32) : (m = 1 ↔ bt x k.toNat = true) ∧ (m = 0 ∨ m = 1) := by
  have e : (Int32.ofInt x >>> (Int32.ofInt k &&& 31)).toBitVec &&& 1#32 = if (Int32.ofInt x).toBitVec.getLsbD k.toNat = true then 1#32 else 0#32 := by
    rw [Int32.toBitVec_shiftRight]
    have a := shr_amt ⟨k.toNat, by omega⟩
    dsimp only at a
    rw [show ((k.toNat : Nat) : Int) = k by omega] at a
    show BitVec.sshiftRight _ _ &&& _ = _
    rw [show (BitVec.smod (Int32.ofInt k &&& 31).toBitVec 32).toNat = k.toNat from a]
    exact bv_test _ _ (by omega)
  have f : m = (if bt x k.toNat = true then 1 else 0) := by
    rw [h2, h1, hc]
    unfold o32
    rw [of32, ← Int32.toInt_toBitVec, Int32.toBitVec_and]
    show ((Int32.ofInt x >>> (Int32.ofInt k &&& 31)).toBitVec &&& 1#32).toInt = _
    rw [e]
    unfold bt
    split <;> rfl
  rw [f]
  cases bt x k.toNat with
  | true => exact ⟨by simp, .inr rfl⟩
  | false => exact ⟨by simp, .inl rfl⟩
theorem bt_any {n : Int} (hr : -2147483648 ≤ n) (hr2 : n ≤ 2147483647) (h : ¬ n = 0) : ∃ k, k < 32 ∧ bt n k = true := by
  refine Classical.byContradiction fun hn => h ?_
  have e : (Int32.ofInt n).toBitVec = 0#32 := by
    apply BitVec.eq_of_getLsbD_eq
    intro i hi
    rw [BitVec.getLsbD_zero]
    cases hb : (Int32.ofInt n).toBitVec.getLsbD i with
    | false => rfl
    | true => exact absurd ⟨i, hi, hb⟩ hn
  have f : (Int32.ofInt n).toInt = n := i32_id hr hr2
  rw [← f, ← Int32.toInt_toBitVec, e]
  rfl
/-- how many bits are not set -/
def nz (p : Nat → Bool) : Nat → Nat
  | 0 => 0
  | n + 1 => nz p n + (if p n = true then 0 else 1)
theorem nz_le {p q : Nat → Bool} : ∀ {n : Nat}, (∀ k, k < n → p k = true → q k = true) → nz q n ≤ nz p n := by
  intro n
  induction n with
  | zero => intro _; exact Nat.le_refl 0
  | succ n ih =>
    intro h
    have a := ih fun k hk => h k (Nat.lt_succ_of_lt hk)
    have b := h n (Nat.lt_succ_self n)
    unfold nz
    by_cases hp : p n = true
    · rw [if_pos hp, if_pos (b hp)]
      omega
    · rw [if_neg hp]
      split <;> omega
theorem nz_lt {p q : Nat → Bool} : ∀ {n : Nat}, (∀ k, k < n → p k = true → q k = true) → (∃ k, k < n ∧ p k = false ∧ q k = true) → nz q n < nz p n := by
  intro n
  induction n with
  | zero => intro _ h; obtain ⟨k, hk, _⟩ := h; omega
  | succ n ih =>
    intro h hx
    obtain ⟨k, hk, h1, h2⟩ := hx
    unfold nz
    by_cases e : k = n
    · subst e
      have a := nz_le (p := p) (q := q) (n := k) fun j hj => h j (Nat.lt_succ_of_lt hj)
      rw [if_pos h2, if_neg (by rw [h1]; decide)]
      omega
    · have a := ih (fun j hj => h j (Nat.lt_succ_of_lt hj)) ⟨k, by omega, h1, h2⟩
      have b := h n (Nat.lt_succ_self n)
      by_cases hp : p n = true
      · rw [if_pos hp, if_pos (b hp)]
        omega
      · rw [if_neg hp]
        split <;> omega
/-- a set of bits below 20 is not negative, and below 2 ^ s if its bits are -/
theorem bt_neg {r : Int} (hr : -2147483648 ≤ r) (hr2 : r ≤ 2147483647) (h : bt r 31 = false) : 0 ≤ r := by
  have f : (Int32.ofInt r).toInt = r := i32_id hr hr2
  rw [← f, ← Int32.toInt_toBitVec]
  rw [BitVec.toInt_eq_toNat_cond]
  have hm : (Int32.ofInt r).toBitVec.msb = false := by
    rw [BitVec.msb_eq_getLsbD_last]
    exact h
  rw [BitVec.msb_eq_decide] at hm
  rw [decide_eq_false_iff_not] at hm
  rw [if_pos (by omega)]
  omega
theorem bt_ge {r : Int} (h0 : 0 ≤ r) (hr2 : r ≤ 2147483647) {k : Nat} (h : bt r k = true) : ((2 ^ k : Nat) : Int) ≤ r := by
  unfold bt at h
  rw [← BitVec.testBit_toNat] at h
  have a := Nat.ge_two_pow_of_testBit h
  have f : (Int32.ofInt r).toInt = r := i32_id (by omega) hr2
  have t : (Int32.ofInt r).toBitVec.toInt = r := by
    rw [Int32.toInt_toBitVec]
    exact f
  have := (Int32.ofInt r).toBitVec.isLt
  rw [BitVec.toInt_eq_toNat_cond] at t
  split at t <;> omega
theorem shl_val : ∀ c : Fin 31, o32 (fun x y => x <<< (y &&& 31)) 1 (c.val : Int) = ((2 ^ c.val : Nat) : Int) := by decide +kernel
theorem o32_shl {n x c : Int} (h : n = o32 (fun x y => x <<< (y &&& 31)) x c) (hx : x = 1) (h0 : 0 ≤ c) (h1 : c < 31) : n = ((2 ^ c.toNat : Nat) : Int) := by
  have e := shl_val ⟨c.toNat, by omega⟩
  dsimp only at e
  rw [show ((c.toNat : Nat) : Int) = c by omega] at e
  rw [h, hx, e]
/-! The text's bytes. -/
def atv (f : Nat → Int) (size i : Int) : Int := if i < size then o32 (fun x y => x &&& y) (f i.toNat) 255 else 0
theorem atv_in {f : Nat → Int} {size i m r : Int} (h : i < size) (hm : m = 255) (hr : r = o32 (fun x y => x &&& y) (f i.toNat) m) : r = atv f size i := by
  unfold atv
  rw [if_pos h, hr, hm]
theorem atv_out {f : Nat → Int} {size i r : Int} (h : ¬ i < size) (hr : r = 0) : r = atv f size i := by
  unfold atv
  rw [if_neg h, hr]
