/-! CONDITIONS TOLD AS FUNCTIONS of their facts. -/
noncomputable def vImp (T : Nat → Nat → vT) (P : vP) (ρ : Nat → Int) (η : Nat → gH) (G : Prop) (l : List vF) : Prop := List.rec (motive := fun _ => Prop) G (fun f _ ih => fD T P ρ η f → ih) l
theorem vImp_of {T : Nat → Nat → vT} {P : vP} {ρ : Nat → Int} {η : Nat → gH} {G : Prop} : ∀ {l : List vF}, vImp T P ρ η G l → (∀ f ∈ l, fD T P ρ η f) → G := by
  intro l
  induction l with
  | nil => intro h _; exact h
  | cons a l ih => intro h hf; exact ih (show vImp T P ρ η G l from (show fD T P ρ η a → vImp T P ρ η G l from h) (hf a List.mem_cons_self)) (fun f hm => hf f (List.mem_cons_of_mem _ hm))
theorem vOk_inI {T : Nat → Nat → vT} {P : vP} {m : Nat} {g : vG} (h : ∀ (ρ : Nat → Int) (η : Nat → gH), vImp T P ρ η (fD T P ρ η (vFin m g).2) g.1) : vOkm T P m g := fun ρ η hf => vImp_of (h ρ η) (by rw [vFin_fst] at hf; exact hf)
theorem bTo {a b lo hi : Int} (e : b = a) (h : lo ≤ b ∧ b ≤ hi) : lo ≤ a ∧ a ≤ hi := e ▸ h
/-- intervals: what a sum that doesn't wrap is between -/
def Iv (x a b : Int) : Prop := a ≤ x ∧ x ≤ b
theorem Iat {x a b : Int} (h : a ≤ x) (k : x ≤ b) : Iv x a b := ⟨h, k⟩
theorem IC (c : Int) : Iv c c c := ⟨Int.le_refl _, Int.le_refl _⟩
theorem Iad {x y a b c d : Int} (h : Iv x a b) (k : Iv y c d) : Iv (x + y) (a + c) (b + d) := ⟨Int.add_le_add h.1 k.1, Int.add_le_add h.2 k.2⟩
theorem Isu {x y a b c d : Int} (h : Iv x a b) (k : Iv y c d) : Iv (x - y) (a - d) (b - c) := ⟨Int.sub_le_sub h.1 k.2, Int.sub_le_sub h.2 k.1⟩
theorem Iml {x a b : Int} (n : Int) (hn : decide (0 ≤ n) = true) (h : Iv x a b) : Iv (n * x) (n * a) (n * b) := ⟨Int.mul_le_mul_of_nonneg_left h.1 (of_decide_eq_true hn), Int.mul_le_mul_of_nonneg_left h.2 (of_decide_eq_true hn)⟩
theorem Imr {x a b : Int} (n : Int) (hn : decide (0 ≤ n) = true) (h : Iv x a b) : Iv (x * n) (a * n) (b * n) := ⟨Int.mul_le_mul_of_nonneg_right h.1 (of_decide_eq_true hn), Int.mul_le_mul_of_nonneg_right h.2 (of_decide_eq_true hn)⟩
theorem w32_iv {x a b : Int} (h : Iv x a b) (k : (decide (-2147483648 ≤ a) && decide (b ≤ 2147483647)) = true) : w32 x = x := by
  rw [Bool.and_eq_true, decide_eq_true_eq, decide_eq_true_eq] at k
  exact w32_id (Int.le_trans k.1 h.1) (Int.le_trans h.2 k.2)
