/-! ROWS AS FUNCTIONS; predicates over the reference's rows (boilerplate printed by wip/gen/preds.py). -/
def uF (f : Nat → Int) (i w : Int) : Nat → Int := fun j => if (j : Int) = i then w else f j
theorem uF_at (f : Nat → Int) (i w : Int) (j : Nat) : uF f i w j = if (j : Int) = i then w else f j := rfl
theorem uRow {h' h : gH} {o i w : Int} (f : hUpd h' h o i w) (q : Nat) (n : (q : Int) = o) : hV h' q = uF (hV h q) i w := by
  funext j
  have z := f.1 q j
  unfold uF
  by_cases m : (j : Int) = i
  · rw [if_pos ⟨n, m⟩] at z
    rw [if_pos m]
    exact z
  · rw [if_neg fun y => m y.2] at z
    rw [if_neg m]
    exact z
theorem uRowNe {h' h : gH} {o i w : Int} (f : hUpd h' h o i w) (q : Nat) (n : ¬ (q : Int) = o) : hV h' q = hV h q := funext fun j => uPlace f q j n
theorem fRow {W : List (Nat × Nat)} {a b : gH} (f : hFr W a b) (o : Nat) (c : vFreeR W o = true) : hV b o = hV a o := funext (f.2.1 o c)
