/-! WHAT THE SCAN keeps (behind the key words). -/
def SMT (a b : gH) : Prop := hV b 31 4 = hV a 31 4 ∧ hV b 33 = hV a 33 ∧ hV b 34 = hV a 34 ∧ hV b 35 = hV a 35 ∧ hV b 8 = hV a 8 ∧ hV b 32 = hV a 32
theorem SMT_rfl {a : gH} : SMT a a := ⟨rfl, rfl, rfl, rfl, rfl, rfl⟩
theorem SMT_trans {a b c : gH} (z : SMT a b) (y : SMT b c) : SMT a c := ⟨y.1.trans z.1, y.2.1.trans z.2.1, y.2.2.1.trans z.2.2.1, y.2.2.2.1.trans z.2.2.2.1, y.2.2.2.2.1.trans z.2.2.2.2.1, y.2.2.2.2.2.trans z.2.2.2.2.2⟩
noncomputable def cSM (W : List (Nat × Nat)) : Bool := vFree W 31 4 && (vFreeR W 33 && (vFreeR W 34 && (vFreeR W 35 && (vFreeR W 8 && vFreeR W 32))))
theorem SMT_fr {W : List (Nat × Nat)} {a b : gH} (f : hFr W a b) (c : cSM W = true) : SMT a b := by
  unfold cSM at c
  simp only [Bool.and_eq_true] at c
  exact ⟨f.1 31 4 c.1, fRow f 33 c.2.1, fRow f 34 c.2.2.1, fRow f 35 c.2.2.2.1, fRow f 8 c.2.2.2.2.1, fRow f 32 c.2.2.2.2.2⟩
theorem NTp_from {k p v : Int} {a b c : gH} (z : SMT a b) (y : NTp k p v b c) : NTp k p v a c := by
  unfold NTp at y ⊢
  rw [z.1, z.2.1, z.2.2.1, z.2.2.2.1, z.2.2.2.2.2] at y
  exact y
/-- the tape's row -/
def TP (h : gH) : Prop := hK h 8 = 692 ∧ hN h 8 = 2000
theorem TP_le {a b : gH} (le : hLe T0 a b) (z : TP a) : TP b := ⟨kLe le z.1 rfl, (le.2 _ (hK_lt z.1 (by decide))).2.1.trans z.2⟩
theorem at8 {a b : gH} {x r e : Int} (z : SMT a b) (t : TP b) (q : x = atQ b r e) (hr : r = 8) (h0 : 0 ≤ e) (h1 : e < 2000) : x = hV a 8 e.toNat := by
  unfold atQ at q
  rw [hr] at q
  have n : hN b 8 = 2000 := t.2
  rw [if_pos ⟨by decide, h0, by show _ < (hN b 8 : Int); rw [n]; exact h1⟩] at q
  rw [q]
  show hV b 8 e.toNat = _
  rw [z.2.2.2.2.1]
/-- a token of digits, told -/
theorem tkD_1 {B : Nat → Int} {n i : Nat} (h : 4 < pDi B n (n - i) i) : (tkD B n i).1 = 1 := by
  unfold tkD
  rw [if_pos h]
theorem tkD_3 {B : Nat → Int} {n i : Nat} (h : ¬ 4 < pDi B n (n - i) i) : (tkD B n i).1 = 3 ∧ (tkD B n i).2.2.1 = pVa B (pDi B n (n - i) i) i 0 := by
  unfold tkD
  rw [if_neg h]
  exact ⟨rfl, rfl⟩
def NTD (B : Nat → Int) (n i : Nat) (p : Int) (a b : gH) : Prop := ∃ v, NTp (tkD B n i).1 p v a b ∧ ((tkD B n i).1 = 3 → v = (tkD B n i).2.2.1)
theorem NTD_mk {B : Nat → Int} {n i e : Nat} {p v k : Int} {a b : gH} (z : DIs B n i e) (c : LVa B i e v) (hb : n ≤ e ∨ B e < 48 ∨ 57 < B e) (t : NTp k p v a b) (hk : (e - i ≤ 4 ∧ k = 3) ∨ (4 < e - i ∧ k = 1)) : NTD B n i p a b := by
  have m := DIs_end z hb
  rcases hk with ⟨h, hk⟩ | ⟨h, hk⟩
  · have q := tkD_3 (B := B) (n := n) (i := i) (by omega)
    refine ⟨v, by rw [q.1, ← hk]; exact t, fun _ => ?_⟩
    rw [q.2, m]
    exact c (by omega)
  · have q := tkD_1 (B := B) (n := n) (i := i) (by omega)
    refine ⟨v, by rw [q, ← hk]; exact t, fun w => ?_⟩
    rw [q] at w
    exact absurd w (by decide)
