/-! CONDITIONS TOLD AS FUNCTIONS of their facts. -/
noncomputable def vImp (T : Nat → Nat → vT) (P : vP) (ρ : Nat → Int) (η : Nat → gH) (G : Prop) (l : List vF) : Prop := List.rec (motive := fun _ => Prop) G (fun f _ ih => fD T P ρ η f → ih) l
theorem vImp_of {T : Nat → Nat → vT} {P : vP} {ρ : Nat → Int} {η : Nat → gH} {G : Prop} : ∀ {l : List vF}, vImp T P ρ η G l → (∀ f ∈ l, fD T P ρ η f) → G := by
  intro l
  induction l with
  | nil => intro h _; exact h
  | cons a l ih => intro h hf; exact ih (show vImp T P ρ η G l from (show fD T P ρ η a → vImp T P ρ η G l from h) (hf a List.mem_cons_self)) (fun f hm => hf f (List.mem_cons_of_mem _ hm))
theorem vOk_inI {T : Nat → Nat → vT} {P : vP} {m : Nat} {g : vG} (h : ∀ (ρ : Nat → Int) (η : Nat → gH), vImp T P ρ η (fD T P ρ η (vFin m g).2) g.1) : vOkm T P m g := fun ρ η hf => vImp_of (h ρ η) (by rw [vFin_fst] at hf; exact hf)
theorem bTo {a b lo hi : Int} (e : b = a) (h : lo ≤ b ∧ b ≤ hi) : lo ≤ a ∧ a ≤ hi := e ▸ h
