/-! LONGS, and the letters and digits of a run, step by step (behind tokens.lean.txt). -/
theorem bmod64q {x : Int} (h : -9223372036854775808 ≤ x) (k : x ≤ 9223372036854775807) : Int.bmod x 18446744073709551616 = x := by
  unfold Int.bmod
  dsimp only
  split <;> omega
theorem o64_mul {x y : Int} (h : -9223372036854775808 ≤ x * y) (k : x * y ≤ 9223372036854775807) : o64 (fun x y => x * y) x y = x * y := by
  show (Int64.ofInt x * Int64.ofInt y).toInt = _
  rw [← Int64.ofInt_mul, Int64.toInt_ofInt]
  exact bmod64q h k
theorem o64_add {x y : Int} (h : -9223372036854775808 ≤ x + y) (k : x + y ≤ 9223372036854775807) : o64 (fun x y => x + y) x y = x + y := by
  show (Int64.ofInt x + Int64.ofInt y).toInt = _
  rw [← Int64.ofInt_add, Int64.toInt_ofInt]
  exact bmod64q h k
theorem pLe_le {B : Nat → Int} {n : Nat} : ∀ {f i : Nat}, pLe B n f i ≤ f := by
  intro f
  induction f with
  | zero => intro i; exact Nat.le_refl _
  | succ f ih =>
    intro i
    unfold pLe
    split
    · exact Nat.succ_le_succ ih
    · exact Nat.zero_le _
theorem pDi_le {B : Nat → Int} {n : Nat} : ∀ {f i : Nat}, pDi B n f i ≤ f := by
  intro f
  induction f with
  | zero => intro i; exact Nat.le_refl _
  | succ f ih =>
    intro i
    unfold pDi
    split
    · exact Nat.succ_le_succ ih
    · exact Nat.zero_le _
/-- a letter more at e -/
theorem pLe_more {B : Nat → Int} {n e : Nat} (h : e < n) (h1 : 97 ≤ B e) (h2 : B e ≤ 122) : pLe B n (n - e) e = pLe B n (n - (e + 1)) (e + 1) + 1 := by
  rw [show n - e = (n - (e + 1)) + 1 by omega]
  show (if e < n ∧ 97 ≤ B e ∧ B e ≤ 122 then pLe B n (n - (e + 1)) (e + 1) + 1 else 0) = _
  rw [if_pos ⟨h, h1, h2⟩]
/-- no letter at e -/
theorem pLe_end {B : Nat → Int} {n e : Nat} (h : n ≤ e ∨ B e < 97 ∨ 122 < B e) : pLe B n (n - e) e = 0 := by
  cases hf : n - e with
  | zero => rfl
  | succ f =>
    show (if e < n ∧ 97 ≤ B e ∧ B e ≤ 122 then pLe B n f (e + 1) + 1 else 0) = _
    rw [if_neg (by omega)]
theorem pDi_more {B : Nat → Int} {n e : Nat} (h : e < n) (h1 : 48 ≤ B e) (h2 : B e ≤ 57) : pDi B n (n - e) e = pDi B n (n - (e + 1)) (e + 1) + 1 := by
  rw [show n - e = (n - (e + 1)) + 1 by omega]
  show (if e < n ∧ 48 ≤ B e ∧ B e ≤ 57 then pDi B n (n - (e + 1)) (e + 1) + 1 else 0) = _
  rw [if_pos ⟨h, h1, h2⟩]
theorem pDi_end {B : Nat → Int} {n e : Nat} (h : n ≤ e ∨ B e < 48 ∨ 57 < B e) : pDi B n (n - e) e = 0 := by
  cases hf : n - e with
  | zero => rfl
  | succ f =>
    show (if e < n ∧ 48 ≤ B e ∧ B e ≤ 57 then pDi B n f (e + 1) + 1 else 0) = _
    rw [if_neg (by omega)]
/-- what a loop over letters keeps: m letters read from i on -/
def LEs (B : Nat → Int) (n i e : Nat) : Prop := i ≤ e ∧ (e ≤ n ∨ e = i) ∧ (∀ j, i ≤ j → j < e → 97 ≤ B j ∧ B j ≤ 122) ∧ pLe B n (n - i) i = (e - i) + pLe B n (n - e) e
theorem LEs_zero {B : Nat → Int} {n i : Nat} : LEs B n i i := ⟨Nat.le_refl _, .inr rfl, fun j h k => by omega, by omega⟩
theorem LEs_step {B : Nat → Int} {n i e : Nat} (z : LEs B n i e) (h : e < n) (h1 : 97 ≤ B e) (h2 : B e ≤ 122) : LEs B n i (e + 1) := by
  obtain ⟨z1, z2, z3, z4⟩ := z
  refine ⟨by omega, by omega, fun j hj k => ?_, ?_⟩
  · by_cases c : j = e
    · rw [c]
      exact ⟨h1, h2⟩
    · exact z3 j hj (by omega)
  · rw [z4, pLe_more h h1 h2]
    omega
theorem LEs_end {B : Nat → Int} {n i e : Nat} (z : LEs B n i e) (h : n ≤ e ∨ B e < 97 ∨ 122 < B e) : pLe B n (n - i) i = e - i := by
  rw [z.2.2.2, pLe_end h]
  rfl
def DIs (B : Nat → Int) (n i e : Nat) : Prop := i ≤ e ∧ (e ≤ n ∨ e = i) ∧ (∀ j, i ≤ j → j < e → 48 ≤ B j ∧ B j ≤ 57) ∧ pDi B n (n - i) i = (e - i) + pDi B n (n - e) e
theorem DIs_zero {B : Nat → Int} {n i : Nat} : DIs B n i i := ⟨Nat.le_refl _, .inr rfl, fun j h k => by omega, by omega⟩
theorem DIs_step {B : Nat → Int} {n i e : Nat} (z : DIs B n i e) (h : e < n) (h1 : 48 ≤ B e) (h2 : B e ≤ 57) : DIs B n i (e + 1) := by
  obtain ⟨z1, z2, z3, z4⟩ := z
  refine ⟨by omega, by omega, fun j hj k => ?_, ?_⟩
  · by_cases c : j = e
    · rw [c]
      exact ⟨h1, h2⟩
    · exact z3 j hj (by omega)
  · rw [z4, pDi_more h h1 h2]
    omega
theorem DIs_end {B : Nat → Int} {n i e : Nat} (z : DIs B n i e) (h : n ≤ e ∨ B e < 48 ∨ 57 < B e) : pDi B n (n - i) i = e - i := by
  rw [z.2.2.2, pDi_end h]
  rfl
/-- the codes' bounds -/
theorem pCd_in {B : Nat → Int} {i : Nat} : ∀ {m : Nat}, (∀ j, i ≤ j → j < i + m → 97 ≤ B j ∧ B j ≤ 122) → 0 ≤ pCd 32 B m i 0 ∧ pCd 32 B m i 0 < 32 ^ m := by
  intro m
  induction m with
  | zero => intro _; exact ⟨Int.le_refl _, by show (0 : Int) < 1; decide⟩
  | succ m ih =>
    intro h
    have z := ih (fun j a b => h j a (by omega))
    have y := h (i + m) (by omega) (by omega)
    rw [pCd_add, Int.pow_succ]
    omega
theorem pVa_in {B : Nat → Int} {i : Nat} : ∀ {m : Nat}, (∀ j, i ≤ j → j < i + m → 48 ≤ B j ∧ B j ≤ 57) → 0 ≤ pVa B m i 0 ∧ pVa B m i 0 < 10 ^ m := by
  intro m
  induction m with
  | zero => intro _; exact ⟨Int.le_refl _, by show (0 : Int) < 1; decide⟩
  | succ m ih =>
    intro h
    have z := ih (fun j a b => h j a (by omega))
    have y := h (i + m) (by omega) (by omega)
    rw [pVa_add, Int.pow_succ]
    omega
/-- what the loop's long holds: the number of the first letters as long as they are few -/
def LCd (B : Nat → Int) (i e : Nat) (x : Int) : Prop := e - i ≤ 9 → x = pCd 32 B (e - i) i 0
def LVa (B : Nat → Int) (i e : Nat) (x : Int) : Prop := e - i ≤ 9 → x = pVa B (e - i) i 0
theorem pow32 : ∀ m : Nat, m ≤ 8 → (32 : Int) ^ m ≤ 1099511627776
  | 0, _ | 1, _ | 2, _ | 3, _ | 4, _ | 5, _ | 6, _ | 7, _ | 8, _ => by decide
  | m + 9, h => by omega
theorem pow10 : ∀ m : Nat, m ≤ 8 → (10 : Int) ^ m ≤ 1099511627776
  | 0, _ | 1, _ | 2, _ | 3, _ | 4, _ | 5, _ | 6, _ | 7, _ | 8, _ => by decide
  | m + 9, h => by omega
theorem LCd_step {B : Nat → Int} {n i e : Nat} {x y a : Int} (z : LEs B n i e) (c : LCd B i e x) (h1 : 97 ≤ B e) (h2 : B e ≤ 122) (ha : a = o64 (fun x y => x * y) x 32) (hy : y = o64 (fun x y => x + y) a (B e - 96)) : LCd B i (e + 1) y := fun h => by
  obtain ⟨z1, z2, z3, z4⟩ := z
  have k := c (by omega)
  have b := pCd_in (B := B) (i := i) (m := e - i) (fun j p q => z3 j p (by omega))
  have p := pow32 (e - i) (by omega)
  rw [← k] at b
  rw [o64_mul (by omega) (by omega)] at ha
  rw [o64_add (by omega) (by omega)] at hy
  rw [show e + 1 - i = (e - i) + 1 by omega, pCd_add, ← k, show i + (e - i) = e by omega]
  omega
theorem LVa_step {B : Nat → Int} {n i e : Nat} {x y a : Int} (z : DIs B n i e) (c : LVa B i e x) (h1 : 48 ≤ B e) (h2 : B e ≤ 57) (ha : a = o64 (fun x y => x * y) x 10) (hy : y = o64 (fun x y => x + y) a (B e - 48)) : LVa B i (e + 1) y := fun h => by
  obtain ⟨z1, z2, z3, z4⟩ := z
  have k := c (by omega)
  have b := pVa_in (B := B) (i := i) (m := e - i) (fun j p q => z3 j p (by omega))
  have p := pow10 (e - i) (by omega)
  rw [← k] at b
  rw [o64_mul (by omega) (by omega)] at ha
  rw [o64_add (by omega) (by omega)] at hy
  rw [show e + 1 - i = (e - i) + 1 by omega, pVa_add, ← k, show i + (e - i) = e by omega]
  omega
