/-! RULES that stand: what termOf and holds want. -/
theorem CG_at {code ci : Nat → Int} {a b c : Int} (h : CGp code ci a b) (h0 : 0 ≤ a) (hc : a ≤ c) (hb : c < b) : (code c.toNat = 1 → ci c.toNat ≤ 4) ∧ (¬ code c.toNat < 2 → 2 ≤ dpt code a.toNat (c - a).toNat) ∧ 0 ≤ dpt code a.toNat (c - a).toNat ∧ dpt code a.toNat (c - a).toNat ≤ c - a ∧ dpt code a.toNat (c + 1 - a).toNat = if code c.toNat < 2 then dpt code a.toNat (c - a).toNat + 1 else dpt code a.toNat (c - a).toNat - 1 := by
  have z := h.2 (c - a).toNat (by omega)
  have e : a.toNat + (c - a).toNat = c.toNat := by omega
  rw [e] at z
  have l := dpt_le (f := code) (i := a.toNat) (c - a).toNat
  refine ⟨z.1, z.2, CG_pos h _ (by omega), by omega, ?_⟩
  rw [show (c + 1 - a).toNat = (c - a).toNat + 1 by omega]
  show (if code (a.toNat + (c - a).toNat) < 2 then _ else _) = _
  rw [e]
theorem RG_at {ru rs rf rt lf la ll lr le code ci : Nat → Int} {sd E L a : Int} (h : RGs ru rs rf rt lf la ll lr le code ci sd E L) (h0 : 0 ≤ sd) (h1 : 12 * sd ≤ a) (h2 : a < 12 * sd + ru sd.toNat) : rok rs rf rt lf la ll lr le code ci sd E L a.toNat := by
  have z := h (a - 12 * sd).toNat (by omega)
  rw [show 12 * sd.toNat + (a - 12 * sd).toNat = a.toNat by omega] at z
  exact z
theorem rok_lit {rs rf rt lf la ll lr le code ci : Nat → Int} {sd E L l : Int} {q : Nat} (h : rok rs rf rt lf la ll lr le code ci sd E L q) (h0 : 0 ≤ l) (h1 : lf q ≤ l) (h2 : l < la q) : lok ll lr le code ci sd E l.toNat := h.2.2.2 l.toNat (by omega) (by omega)
theorem shl_8 {n x c : Int} (h : n = o32 (fun x y => x <<< (y &&& 31)) x c) (hx : x = 1) (h0 : 0 ≤ c) (h1 : c ≤ 8) : n ≤ 256 := by
  have e := o32_shl h hx h0 (by omega)
  have : (2 ^ c.toNat : Nat) ≤ 2 ^ 8 := Nat.pow_le_pow_right (by decide) (by omega)
  omega
