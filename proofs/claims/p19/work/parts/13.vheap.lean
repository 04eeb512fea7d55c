/-! THE HEAP READ AS NUMBERS; what its slots may hold. -/
def vI : Value → Int
  | .int x => x.toInt
  | .long x => x.toInt
  | .ref i => (i : Int)
  | _ => -1
def hK (lh : gH) (o : Nat) : Nat := match lh[o]? with
  | some (.inl x) => if x.1 < 100 then x.1 else 999
  | some (.inr y) => 100 + y.1
  | none => 999
def hN (lh : gH) (o : Nat) : Nat := match lh[o]? with
  | some (.inl x) => gN x.1
  | some (.inr y) => y.2.1
  | none => 0
def hVal (lh : gH) (o i : Nat) : Value := match lh[o]? with
  | some (.inl x) => x.2 i
  | some (.inr y) => y.2.2 i
  | none => .null
def hV (lh : gH) (o i : Nat) : Int := vI (hVal lh o i)
def hSet (lh : gH) (o i : Nat) (w : Value) : gH := match lh[o]? with
  | some (.inl x) => lh.set o (.inl (x.1, gup x.2 i w))
  | some (.inr y) => lh.set o (.inr (y.1, y.2.1, gup y.2.2 i w))
  | none => lh
theorem hup_at (f : Nat → Value) (k j : Nat) (v : Value) : gup f k v j = if j = k then v else f j := by
  unfold gup
  cases h : Nat.beq j k with
  | true => rw [if_pos (Nat.eq_of_beq_eq_true h)]; rfl
  | false => rw [if_neg (Nat.ne_of_beq_eq_false h)]; rfl
theorem hSet_length (lh : gH) (o i : Nat) (w : Value) : (hSet lh o i w).length = lh.length := by
  unfold hSet
  split <;> simp
theorem hSet_ne {lh : gH} {o i : Nat} {w : Value} {q : Nat} (h : q ≠ o) : (hSet lh o i w)[q]? = lh[q]? := by
  unfold hSet
  split
  · rw [List.getElem?_set_ne (Ne.symm h)]
  · rw [List.getElem?_set_ne (Ne.symm h)]
  · rfl
theorem hSet_K (lh : gH) (o i : Nat) (w : Value) (q : Nat) : hK (hSet lh o i w) q = hK lh q := by
  by_cases hq : q = o
  · subst hq
    unfold hK hSet
    cases h : lh[q]? with
    | none => dsimp only; rw [h]
    | some c =>
      have hl := (List.getElem?_eq_some_iff.mp h).1
      cases c with
      | inl x => dsimp only; rw [List.getElem?_set_self hl]
      | inr y => dsimp only; rw [List.getElem?_set_self hl]
  · unfold hK
    rw [hSet_ne hq]
theorem hSet_N (lh : gH) (o i : Nat) (w : Value) (q : Nat) : hN (hSet lh o i w) q = hN lh q := by
  by_cases hq : q = o
  · subst hq
    unfold hN hSet
    cases h : lh[q]? with
    | none => dsimp only; rw [h]
    | some c =>
      have hl := (List.getElem?_eq_some_iff.mp h).1
      cases c with
      | inl x => dsimp only; rw [List.getElem?_set_self hl]
      | inr y => dsimp only; rw [List.getElem?_set_self hl]
  · unfold hN
    rw [hSet_ne hq]
theorem hSet_val {lh : gH} {o : Nat} (ho : o < lh.length) (i : Nat) (w : Value) (q j : Nat) : hVal (hSet lh o i w) q j = if q = o ∧ j = i then w else hVal lh q j := by
  by_cases hq : q = o
  · subst hq
    unfold hVal hSet
    cases h : lh[q]? with
    | none => exact absurd h (by simp [List.getElem?_eq_none_iff]; omega)
    | some c =>
      cases c with
      | inl x =>
        dsimp only
        rw [List.getElem?_set_self ho]
        show gup x.2 i w j = _
        rw [hup_at]
        by_cases hj : j = i
        · rw [if_pos hj, if_pos ⟨rfl, hj⟩]
        · rw [if_neg hj, if_neg fun z => hj z.2]
      | inr y =>
        dsimp only
        rw [List.getElem?_set_self ho]
        show gup y.2.2 i w j = _
        rw [hup_at]
        by_cases hj : j = i
        · rw [if_pos hj, if_pos ⟨rfl, hj⟩]
        · rw [if_neg hj, if_neg fun z => hj z.2]
  · rw [if_neg fun z => hq z.1]
    unfold hVal
    rw [hSet_ne hq]
theorem hSet_V {lh : gH} {o : Nat} (ho : o < lh.length) (i : Nat) (w : Value) (q j : Nat) : hV (hSet lh o i w) q j = if q = o ∧ j = i then vI w else hV lh q j := by
  unfold hV
  rw [hSet_val ho]
  split <;> rfl
theorem hPush_ne {lh : gH} {c : gC} {q : Nat} (h : q < lh.length) : (lh ++ [c])[q]? = lh[q]? := List.getElem?_append_left h
theorem hPush_K {lh : gH} {c : gC} {q : Nat} (h : q < lh.length) : hK (lh ++ [c]) q = hK lh q := by
  unfold hK
  rw [hPush_ne h]
theorem hPush_N {lh : gH} {c : gC} {q : Nat} (h : q < lh.length) : hN (lh ++ [c]) q = hN lh q := by
  unfold hN
  rw [hPush_ne h]
theorem hPush_val {lh : gH} {c : gC} {q : Nat} (h : q < lh.length) (j : Nat) : hVal (lh ++ [c]) q j = hVal lh q j := by
  unfold hVal
  rw [hPush_ne h]
theorem hK_lt {lh : gH} {o k : Nat} (h : hK lh o = k) (hk : k ≠ 999) : o < lh.length := by
  unfold hK at h
  cases hc : lh[o]? with
  | none => rw [hc] at h; exact absurd h.symm hk
  | some c => exact (List.getElem?_eq_some_iff.mp hc).1
/-- a slot's type: tag (0 an int from a to b, 1 a long, else a ref to kind a, of length b if b is not negative), a, b, 0 where it may be written again (else once, by the constructor: 1, or 2 + the place that it holds) -/
abbrev vT : Type := Nat × Int × Int × Nat
def isA (T : Nat → Nat → vT) (lh : gH) (k : Nat) (n : Int) (i : Nat) : Prop := (k ≠ 999 ∧ 7 ≤ i) ∧ (hK lh i = k ∧ hN lh i ≤ 65536) ∧ (n < 0 ∨ (if k < 100 then (i : Int) = n else (hN lh i : Int) = n)) ∧ ∀ f, f < hN lh i → (T k f).2.2.2 ≠ 0 → hVal lh i f ≠ .null
def vOK (T : Nat → Nat → vT) (lh : gH) (t : vT) (v : Value) : Prop := match t.1 with
  | 0 => ∃ x : Int32, v = .int x ∧ t.2.1 ≤ x.toInt ∧ x.toInt ≤ t.2.2.1
  | 1 => ∃ x : Int64, v = .long x
  | _ => v = .null ∨ ∃ i, v = .ref i ∧ isA T lh t.2.1.toNat t.2.2.1 i ∧ (2 ≤ t.2.2.2 → i = t.2.2.2 - 2)
def WT (T : Nat → Nat → vT) (lh : gH) : Prop := ∀ o i, o < lh.length → i < hN lh o → vOK T lh (T (hK lh o) i) (hVal lh o i)
def hLe (T : Nat → Nat → vT) (lh lh' : gH) : Prop := lh.length ≤ lh'.length ∧ ∀ o, o < lh.length → hK lh' o = hK lh o ∧ hN lh' o = hN lh o ∧ ∀ f, f < hN lh o → (T (hK lh o) f).2.2.2 ≠ 0 → hVal lh o f ≠ .null → hVal lh' o f = hVal lh o f
theorem hLe.refl (T : Nat → Nat → vT) (lh : gH) : hLe T lh lh := ⟨Nat.le_refl _, fun _ _ => ⟨rfl, rfl, fun _ _ _ _ => rfl⟩⟩
theorem hLe.trans {T : Nat → Nat → vT} {a b c : gH} (h1 : hLe T a b) (h2 : hLe T b c) : hLe T a c := by
  refine ⟨Nat.le_trans h1.1 h2.1, fun o ho => ?_⟩
  obtain ⟨a1, a2, a3⟩ := h1.2 o ho
  obtain ⟨b1, b2, b3⟩ := h2.2 o (Nat.lt_of_lt_of_le ho h1.1)
  refine ⟨b1.trans a1, b2.trans a2, fun f hf hn hz => (b3 f (by rw [a2]; exact hf) (by rw [a1]; exact hn) (by rw [a3 f hf hn hz]; exact hz)).trans (a3 f hf hn hz)⟩
theorem isA.lt {T : Nat → Nat → vT} {lh : gH} {k : Nat} {n : Int} {i : Nat} (h : isA T lh k n i) : i < lh.length := hK_lt h.2.1.1 h.1.1
theorem isA.mono {T : Nat → Nat → vT} {lh lh' : gH} {k : Nat} {n : Int} {i : Nat} (hl : hLe T lh lh') (h : isA T lh k n i) : isA T lh' k n i := by
  obtain ⟨a1, a2, a3⟩ := hl.2 i h.lt
  obtain ⟨b0, b1, b2, b3⟩ := h
  refine ⟨b0, ⟨a1.trans b1.1, by rw [a2]; exact b1.2⟩, by rw [a2]; exact b2, fun f hf hn => ?_⟩
  have hf' : f < hN lh i := by rw [← a2]; exact hf
  rw [a3 f hf' (by rw [b1.1]; exact hn) (b3 f hf' hn)]
  exact b3 f hf' hn
theorem vOK.mono {T : Nat → Nat → vT} {lh lh' : gH} {t : vT} {v : Value} (hl : hLe T lh lh') (h : vOK T lh t v) : vOK T lh' t v := by
  unfold vOK at h ⊢
  split
  · rename_i e; rw [e] at h; exact h
  · rename_i e; rw [e] at h; exact h
  · rename_i e1 e2
    split at h
    · rename_i e; exact absurd e e1
    · rename_i e; exact absurd e e2
    · rcases h with h | ⟨i, h1, h2⟩
      · exact .inl h
      · exact .inr ⟨i, h1, h2.1.mono hl, h2.2⟩
theorem hLe.set {T : Nat → Nat → vT} {lh : gH} {o i : Nat} {w : Value} (ho : o < lh.length) (hn : (T (hK lh o) i).2.2.2 = 0) : hLe T lh (hSet lh o i w) := by
  refine ⟨by rw [hSet_length]; exact Nat.le_refl _, fun q _ => ⟨hSet_K _ _ _ _ _, hSet_N _ _ _ _ _, fun f _ hf _ => ?_⟩⟩
  rw [hSet_val ho]
  split
  · rename_i e
    obtain ⟨rfl, rfl⟩ := e
    exact absurd hn hf
  · rfl
theorem WT.set {T : Nat → Nat → vT} {lh : gH} {o i : Nat} {w : Value} (h : WT T lh) (ho : o < lh.length) (hn : (T (hK lh o) i).2.2.2 = 0) (hw : vOK T lh (T (hK lh o) i) w) : WT T (hSet lh o i w) := by
  have hl := hLe.set (T := T) (i := i) (w := w) ho hn
  intro q j hq hj
  rw [hSet_length] at hq
  rw [hSet_N] at hj
  rw [hSet_K, hSet_val ho]
  split
  · rename_i e
    obtain ⟨rfl, rfl⟩ := e
    exact hw.mono hl
  · exact (h q j hq hj).mono hl
theorem hLe.push {T : Nat → Nat → vT} (lh : gH) (c : gC) : hLe T lh (lh ++ [c]) := by
  refine ⟨by rw [List.length_append]; omega, fun q hq => ⟨hPush_K hq, hPush_N hq, fun f _ _ _ => hPush_val hq f⟩⟩
theorem WT.push {T : Nat → Nat → vT} {lh : gH} {c : gC} (h : WT T lh) (hc : ∀ j, j < hN (lh ++ [c]) lh.length → vOK T (lh ++ [c]) (T (hK (lh ++ [c]) lh.length) j) (hVal (lh ++ [c]) lh.length j)) : WT T (lh ++ [c]) := by
  intro q j hq hj
  by_cases hl : q < lh.length
  · rw [hPush_N hl] at hj
    rw [hPush_K hl, hPush_val hl]
    exact (h q j hl hj).mono (hLe.push lh c)
  · rw [List.length_append] at hq
    have e : q = lh.length := by
      have : q < lh.length + 1 := hq
      omega
    subst e
    exact hc j hj
