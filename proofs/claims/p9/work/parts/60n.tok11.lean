/-! ONE STEP of the scan (behind scanName). -/
def ONE (B : Nat → Int) (n i : Nat) (p r : Int) (a b : gH) : Prop :=
  ((B i = 9 ∨ B i = 10 ∨ B i = 13 ∨ B i = 32) ∧ r = p + 1 ∧ SMT a b) ∨
  (¬ (B i = 9 ∨ B i = 10 ∨ B i = 13 ∨ B i = 32) ∧ (97 ≤ B i ∧ B i ≤ 122) ∧ r = p + pLe B n (n - i) i ∧ NTL B n i p a b) ∨
  (¬ (B i = 9 ∨ B i = 10 ∨ B i = 13 ∨ B i = 32) ∧ ¬ (97 ≤ B i ∧ B i ≤ 122) ∧ (48 ≤ B i ∧ B i ≤ 57) ∧ r = p + pDi B n (n - i) i ∧ NTD B n i p a b) ∨
  (¬ (B i = 9 ∨ B i = 10 ∨ B i = 13 ∨ B i = 32) ∧ ¬ (97 ≤ B i ∧ B i ≤ 122) ∧ ¬ (48 ≤ B i ∧ B i ≤ 57) ∧ (i + 1 < n ∧ B (i + 1) = 61 ∧ ¬ sg2 (B i) = 1) ∧ r = p + 2 ∧ NTp (sg2 (B i)) p 0 a b) ∨
  (¬ (B i = 9 ∨ B i = 10 ∨ B i = 13 ∨ B i = 32) ∧ ¬ (97 ≤ B i ∧ B i ≤ 122) ∧ ¬ (48 ≤ B i ∧ B i ≤ 57) ∧ ¬ (i + 1 < n ∧ B (i + 1) = 61 ∧ ¬ sg2 (B i) = 1) ∧ r = p + 1 ∧ NTp (sg1 (B i)) p 0 a b)
theorem NTD_from {B : Nat → Int} {n i : Nat} {p : Int} {a b c : gH} (z : SMT a b) (y : NTD B n i p b c) : NTD B n i p a c := y.elim fun v w => ⟨v, NTp_from z w.1, w.2⟩
theorem NTL_from {B : Nat → Int} {n i : Nat} {p : Int} {a b c : gH} (z : SMT a b) (y : NTL B n i p b c) : NTL B n i p a c := y.elim fun v w => ⟨v, NTp_from z w.1, w.2⟩
