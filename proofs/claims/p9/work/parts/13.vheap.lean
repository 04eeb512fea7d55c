/-! FOR THE KERNEL: lists by their recursor, numbers made whole. (As p1's part 12.) -/
noncomputable def fNat {α : Type} (n : Nat) (k : Nat → α) : α := Nat.rec (motive := fun _ => α) (k 0) (fun m _ => k (Nat.succ m)) n
noncomputable def fNth {α : Type} (l : List α) : Nat → Option α := List.rec (motive := fun _ => Nat → Option α) (fun _ => none) (fun a _ ih i => Nat.rec (motive := fun _ => Option α) (some a) (fun k _ => ih k) i) l
noncomputable def fAny {α : Type} (f : α → Bool) (l : List α) : Bool := List.rec (motive := fun _ => Bool) false (fun a _ ih => bif f a then true else ih) l
theorem fNat_eq {α : Type} (n : Nat) (k : Nat → α) : fNat n k = k n := by cases n <;> rfl
theorem fNth_eq {α : Type} (l : List α) (i : Nat) : fNth l i = l[i]? := by
  induction l generalizing i with
  | nil => rfl
  | cons a t ih => cases i with
    | zero => rfl
    | succ i => exact (ih i).trans (by simp)
theorem fAny_ok {α : Type} {f : α → Bool} {l : List α} (h : fAny f l = true) : ∃ a, a ∈ l ∧ f a = true := by
  induction l with
  | nil => cases h
  | cons a l ih =>
    replace h : (bif f a then true else fAny f l) = true := h
    cases hq : f a with
    | true => exact ⟨a, List.mem_cons_self, hq⟩
    | false =>
      rw [hq] at h
      obtain ⟨b, h1, h2⟩ := ih h
      exact ⟨b, List.mem_cons_of_mem _ h1, h2⟩
theorem fAny_of {α : Type} {f : α → Bool} {l : List α} {a : α} (h : a ∈ l) (hf : f a = true) : fAny f l = true := by
  induction l with
  | nil => cases h
  | cons b l ih =>
    show (bif f b then true else fAny f l) = true
    cases hq : f b with
    | true => rfl
    | false =>
      rcases List.mem_cons.mp h with rfl | h
      · rw [hf] at hq; cases hq
      · exact ih h
/-! THE HEAP READ AS NUMBERS; what its slots may hold. -/
def vI : Value → Int
  | .int x => x.toInt
  | .long x => x.toInt
  | .ref i => (i : Int)
  | _ => -1
/-- of rows at places that are known: the class of what they may hold (0: any; 1: the script's row, not to be written) -/
noncomputable def vPcT : List (Nat × Nat) → Nat → Nat := fun l o => List.rec (motive := fun _ => Nat) 0 (fun q _ ih => bif Nat.beq q.1 o then q.2 else ih) l
def vPcs : List (Nat × Nat) := [(8, 74), (20, 75), (21, 75), (22, 75), (25, 76), (26, 76), (27, 84), (28, 84), (29, 84), (32, 78), (33, 77), (34, 77), (35, 78), (45, 88), (46, 80), (47, 80), (48, 79), (49, 80), (51, 87), (53, 87), (55, 87), (57, 87), (59, 87), (61, 87), (63, 87), (65, 87), (67, 87), (69, 87), (71, 87), (73, 87), (75, 87), (77, 87), (79, 87), (81, 87), (83, 87), (85, 87), (87, 87), (89, 87), (91, 87), (93, 87), (95, 87), (97, 87), (99, 87), (101, 87), (103, 87), (105, 87), (107, 87), (109, 87), (111, 87), (113, 87), (115, 87), (117, 87), (119, 87), (121, 87), (123, 87), (125, 87), (127, 87), (129, 87), (131, 87), (133, 87), (135, 87), (137, 87), (139, 87), (141, 87), (143, 87), (145, 87), (147, 87), (149, 87), (151, 87), (153, 87), (155, 87), (157, 87), (159, 87), (161, 87), (163, 87), (165, 87), (167, 87), (169, 87), (171, 87), (173, 87), (175, 87), (177, 87), (179, 87), (181, 87), (183, 87), (185, 87), (187, 87), (189, 87), (191, 87), (193, 87), (195, 87), (197, 87), (199, 87), (201, 87), (203, 87), (205, 87), (207, 87), (209, 87), (211, 87), (213, 87), (215, 87), (217, 87), (219, 87), (221, 87), (223, 87), (225, 87), (227, 87), (229, 87), (231, 87), (233, 87), (235, 87), (237, 87), (239, 87), (241, 87), (243, 87), (245, 87), (247, 87), (249, 87), (251, 87), (253, 87), (255, 87), (257, 87), (259, 87), (261, 87), (263, 87), (265, 87), (267, 87), (269, 87), (271, 87), (273, 87), (276, 81), (277, 81), (278, 81), (279, 82), (280, 81), (282, 83), (283, 83), (286, 2), (287, 3), (288, 4), (289, 5), (290, 6), (291, 7), (292, 8), (293, 9), (294, 10), (295, 11), (296, 12), (297, 13), (298, 14), (299, 15), (300, 16), (301, 17), (302, 18), (303, 19), (304, 20), (305, 21), (306, 22), (307, 23), (308, 24), (309, 25), (310, 26), (311, 27), (312, 28), (313, 29), (314, 30), (315, 31), (316, 32), (317, 33), (318, 34), (319, 35), (320, 36), (321, 37), (322, 38), (323, 39), (324, 40), (325, 41), (326, 42), (327, 43), (328, 44), (329, 45), (330, 46), (331, 47), (332, 48), (333, 49), (334, 50), (335, 51), (336, 52), (337, 53), (338, 54), (339, 55), (340, 56), (341, 57), (342, 58), (343, 59), (344, 60), (345, 61), (346, 62), (347, 63), (348, 64), (349, 65), (350, 66), (351, 67), (352, 68), (353, 69), (354, 70), (355, 71), (356, 72), (357, 73)]
/-- the kinds + 1 of the cells that stay, by their places (0: none) -/
def vKds : List (List Nat) := [[0, 0, 0, 0, 0, 0, 0, 12, 693, 105, 6, 101, 101, 101, 101, 101], [101, 101, 101, 4, 701, 701, 701, 1, 106, 709, 709, 773, 773, 773, 5, 9], [726, 717, 717, 726, 6, 101, 101, 101, 101, 101, 101, 101, 101, 811, 741, 741], [734, 741, 2, 797, 2, 797, 2, 797, 2, 797, 2, 797, 2, 797, 2, 797], [2, 797, 2, 797, 2, 797, 2, 797, 2, 797, 2, 797, 2, 797, 2, 797], [2, 797, 2, 797, 2, 797, 2, 797, 2, 797, 2, 797, 2, 797, 2, 797], [2, 797, 2, 797, 2, 797, 2, 797, 2, 797, 2, 797, 2, 797, 2, 797], [2, 797, 2, 797, 2, 797, 2, 797, 2, 797, 2, 797, 2, 797, 2, 797], [2, 797, 2, 797, 2, 797, 2, 797, 2, 797, 2, 797, 2, 797, 2, 797], [2, 797, 2, 797, 2, 797, 2, 797, 2, 797, 2, 797, 2, 797, 2, 797], [2, 797, 2, 797, 2, 797, 2, 797, 2, 797, 2, 797, 2, 797, 2, 797], [2, 797, 2, 797, 2, 797, 2, 797, 2, 797, 2, 797, 2, 797, 2, 797], [2, 797, 2, 797, 2, 797, 2, 797, 2, 797, 2, 797, 2, 797, 2, 797], [2, 797, 2, 797, 2, 797, 2, 797, 2, 797, 2, 797, 2, 797, 2, 797], [2, 797, 2, 797, 2, 797, 2, 797, 2, 797, 2, 797, 2, 797, 2, 797], [2, 797, 2, 797, 2, 797, 2, 797, 2, 797, 2, 797, 2, 797, 2, 797], [2, 797, 2, 797, 2, 797, 2, 797, 2, 797, 2, 797, 2, 797, 2, 797], [2, 797, 3, 11, 749, 749, 749, 758, 749, 10, 765, 765, 11, 13, 119, 127], [133, 141, 149, 158, 166, 173, 181, 190, 197, 205, 213, 221, 229, 237, 245, 253], [261, 269, 277, 285, 293, 301, 309, 317, 325, 333, 341, 352, 360, 365, 373, 381], [389, 397, 405, 413, 421, 429, 437, 445, 453, 461, 469, 477, 485, 493, 501, 509], [517, 525, 533, 541, 549, 557, 565, 573, 581, 589, 597, 605, 613, 622, 632, 638], [645, 653, 664, 669, 680, 685]]
noncomputable def vKd (o : Nat) : Nat := match fNth vKds (Nat.div o 16) with
  | some l => (match fNth l (Nat.mod o 16) with
    | some k => k
    | none => 0)
  | none => 0
noncomputable def vPc (o : Nat) : Nat := bif Nat.blt o 7 then 1 else vPcT vPcs o
theorem vPc_low {o : Nat} (h : o < 7) : vPc o = 1 := by
  unfold vPc
  rw [Nat.blt_eq.mpr h]
  rfl
/-- of rows at other places: by their lengths (SAMPLES, MOUTHS, taps' weights) -/
def vLn (k n : Nat) : Nat := bif Nat.beq k 0 then (bif Nat.beq n 240 then 85 else (bif Nat.beq n 8 then 86 else (bif Nat.beq n 4 then 87 else 0))) else 0
noncomputable def vPd (o k n : Nat) : Nat := bif Nat.blt o 358 then vPc o else vLn k n
theorem vPd_lo {o k n : Nat} (h : o < 358) : vPd o k n = vPc o := by
  unfold vPd
  rw [Nat.blt_eq.mpr h]
  rfl
theorem vPd_new {o k n : Nat} (h : 358 ≤ o) : vPd o k n = vLn k n := by
  unfold vPd
  rw [show Nat.blt o 358 = false from by
    cases hq : Nat.blt o 358 with
    | false => rfl
    | true => have := Nat.blt_eq.mp hq; omega]
  rfl
/-- a cell's kind: its class' number, or 100 + its row kind + 8 * the class of what it may hold -/
noncomputable def hK (lh : gH) (o : Nat) : Nat := match lh[o]? with
  | some (.inl x) => if x.1 < 100 then x.1 else 999
  | some (.inr y) => if y.1 < 8 then 100 + y.1 + 8 * vPd o y.1 y.2.1 else 999
  | none => 999
def hN (lh : gH) (o : Nat) : Nat := match lh[o]? with
  | some (.inl x) => gN x.1
  | some (.inr y) => y.2.1
  | none => 0
def hVal (lh : gH) (o i : Nat) : Value := match lh[o]? with
  | some (.inl x) => x.2 i
  | some (.inr y) => y.2.2 i
  | none => .null
def hV (lh : gH) (o i : Nat) : Int := vI (hVal lh o i)
def hSet (lh : gH) (o i : Nat) (w : Value) : gH := match lh[o]? with
  | some (.inl x) => lh.set o (.inl (x.1, gup x.2 i w))
  | some (.inr y) => lh.set o (.inr (y.1, y.2.1, gup y.2.2 i w))
  | none => lh
theorem hup_at (f : Nat → Value) (k j : Nat) (v : Value) : gup f k v j = if j = k then v else f j := by
  unfold gup
  cases h : Nat.beq j k with
  | true => rw [if_pos (Nat.eq_of_beq_eq_true h)]; rfl
  | false => rw [if_neg (Nat.ne_of_beq_eq_false h)]; rfl
theorem hSet_length (lh : gH) (o i : Nat) (w : Value) : (hSet lh o i w).length = lh.length := by
  unfold hSet
  split <;> simp
theorem hSet_gsz (lh : gH) (o i : Nat) (w : Value) : gsz (hSet lh o i w) = gsz lh := by
  unfold hSet
  split
  · rename_i h; exact gsz_set h rfl
  · rename_i h; exact gsz_set h rfl
  · rfl
theorem hSet_ne {lh : gH} {o i : Nat} {w : Value} {q : Nat} (h : q ≠ o) : (hSet lh o i w)[q]? = lh[q]? := by
  unfold hSet
  split
  · rw [List.getElem?_set_ne (Ne.symm h)]
  · rw [List.getElem?_set_ne (Ne.symm h)]
  · rfl
theorem hSet_K (lh : gH) (o i : Nat) (w : Value) (q : Nat) : hK (hSet lh o i w) q = hK lh q := by
  by_cases hq : q = o
  · subst hq
    unfold hK hSet
    cases h : lh[q]? with
    | none => dsimp only; rw [h]
    | some c =>
      have hl := (List.getElem?_eq_some_iff.mp h).1
      cases c with
      | inl x => dsimp only; rw [List.getElem?_set_self hl]
      | inr y => dsimp only; rw [List.getElem?_set_self hl]
  · unfold hK
    rw [hSet_ne hq]
theorem hSet_N (lh : gH) (o i : Nat) (w : Value) (q : Nat) : hN (hSet lh o i w) q = hN lh q := by
  by_cases hq : q = o
  · subst hq
    unfold hN hSet
    cases h : lh[q]? with
    | none => dsimp only; rw [h]
    | some c =>
      have hl := (List.getElem?_eq_some_iff.mp h).1
      cases c with
      | inl x => dsimp only; rw [List.getElem?_set_self hl]
      | inr y => dsimp only; rw [List.getElem?_set_self hl]
  · unfold hN
    rw [hSet_ne hq]
theorem hSet_val {lh : gH} {o : Nat} (ho : o < lh.length) (i : Nat) (w : Value) (q j : Nat) : hVal (hSet lh o i w) q j = if q = o ∧ j = i then w else hVal lh q j := by
  by_cases hq : q = o
  · subst hq
    unfold hVal hSet
    cases h : lh[q]? with
    | none => exact absurd h (by simp [List.getElem?_eq_none_iff]; omega)
    | some c =>
      cases c with
      | inl x =>
        dsimp only
        rw [List.getElem?_set_self ho]
        show gup x.2 i w j = _
        rw [hup_at]
        by_cases hj : j = i
        · rw [if_pos hj, if_pos ⟨rfl, hj⟩]
        · rw [if_neg hj, if_neg fun z => hj z.2]
      | inr y =>
        dsimp only
        rw [List.getElem?_set_self ho]
        show gup y.2.2 i w j = _
        rw [hup_at]
        by_cases hj : j = i
        · rw [if_pos hj, if_pos ⟨rfl, hj⟩]
        · rw [if_neg hj, if_neg fun z => hj z.2]
  · rw [if_neg fun z => hq z.1]
    unfold hVal
    rw [hSet_ne hq]
theorem hSet_V {lh : gH} {o : Nat} (ho : o < lh.length) (i : Nat) (w : Value) (q j : Nat) : hV (hSet lh o i w) q j = if q = o ∧ j = i then vI w else hV lh q j := by
  unfold hV
  rw [hSet_val ho]
  split <;> rfl
theorem hPush_ne {lh : gH} {c : gC} {q : Nat} (h : q < lh.length) : (lh ++ [c])[q]? = lh[q]? := List.getElem?_append_left h
theorem hPush_K {lh : gH} {c : gC} {q : Nat} (h : q < lh.length) : hK (lh ++ [c]) q = hK lh q := by
  unfold hK
  rw [hPush_ne h]
theorem hPush_N {lh : gH} {c : gC} {q : Nat} (h : q < lh.length) : hN (lh ++ [c]) q = hN lh q := by
  unfold hN
  rw [hPush_ne h]
theorem hPush_val {lh : gH} {c : gC} {q : Nat} (h : q < lh.length) (j : Nat) : hVal (lh ++ [c]) q j = hVal lh q j := by
  unfold hVal
  rw [hPush_ne h]
theorem hK_lt {lh : gH} {o k : Nat} (h : hK lh o = k) (hk : k ≠ 999) : o < lh.length := by
  unfold hK at h
  cases hc : lh[o]? with
  | none => rw [hc] at h; exact absurd h.symm hk
  | some c => exact (List.getElem?_eq_some_iff.mp hc).1
/-- a slot's type: tag (0 an int from a to b, 1 a long, 3 a ref that may be written again, else a ref or null; to kind a, of length b if b is not negative), a, b, 0 where it may be written again (else once, by the constructor: 1, or 2 + the place that it holds) -/
abbrev vT : Type := Nat × Int × Int × Nat
def isA (T : Nat → Nat → vT) (lh : gH) (k : Nat) (n : Int) (i : Nat) : Prop := (k ≠ 999 ∧ (k ≠ 108 → 7 ≤ i)) ∧ (hK lh i = k ∧ hN lh i ≤ 65536) ∧ (n < 0 ∨ (if k < 100 then (i : Int) = n else (hN lh i : Int) = n)) ∧ ∀ f, f < hN lh i → (T k f).2.2.2 ≠ 0 → hVal lh i f ≠ .null
def vOK (T : Nat → Nat → vT) (lh : gH) (t : vT) (v : Value) : Prop := match t.1 with
  | 0 => ∃ x : Int32, v = .int x ∧ t.2.1 ≤ x.toInt ∧ x.toInt ≤ t.2.2.1
  | 1 => ∃ x : Int64, v = .long x
  | 3 => ∃ i, v = .ref i ∧ isA T lh t.2.1.toNat t.2.2.1 i
  | _ => v = .null ∨ ∃ i, v = .ref i ∧ isA T lh t.2.1.toNat t.2.2.1 i ∧ (2 ≤ t.2.2.2 → i = t.2.2.2 - 2)
/-- the cells that stay have their kinds -/
def KS (lh : gH) : Prop := ∀ o k, vKd o = k + 1 → hK lh o = k
def WT (T : Nat → Nat → vT) (lh : gH) : Prop := KS lh ∧ ∀ o i, o < lh.length → i < hN lh o → vOK T lh (T (hK lh o) i) (hVal lh o i)
def hLe (T : Nat → Nat → vT) (lh lh' : gH) : Prop := lh.length ≤ lh'.length ∧ ∀ o, o < lh.length → hK lh' o = hK lh o ∧ hN lh' o = hN lh o ∧ ∀ f, f < hN lh o → (T (hK lh o) f).2.2.2 ≠ 0 → hVal lh o f ≠ .null → hVal lh' o f = hVal lh o f
theorem hLe.refl (T : Nat → Nat → vT) (lh : gH) : hLe T lh lh := ⟨Nat.le_refl _, fun _ _ => ⟨rfl, rfl, fun _ _ _ _ => rfl⟩⟩
theorem hLe.trans {T : Nat → Nat → vT} {a b c : gH} (h1 : hLe T a b) (h2 : hLe T b c) : hLe T a c := by
  refine ⟨Nat.le_trans h1.1 h2.1, fun o ho => ?_⟩
  obtain ⟨a1, a2, a3⟩ := h1.2 o ho
  obtain ⟨b1, b2, b3⟩ := h2.2 o (Nat.lt_of_lt_of_le ho h1.1)
  refine ⟨b1.trans a1, b2.trans a2, fun f hf hn hz => (b3 f (by rw [a2]; exact hf) (by rw [a1]; exact hn) (by rw [a3 f hf hn hz]; exact hz)).trans (a3 f hf hn hz)⟩
theorem isA.lt {T : Nat → Nat → vT} {lh : gH} {k : Nat} {n : Int} {i : Nat} (h : isA T lh k n i) : i < lh.length := hK_lt h.2.1.1 h.1.1
theorem isA.mono {T : Nat → Nat → vT} {lh lh' : gH} {k : Nat} {n : Int} {i : Nat} (hl : hLe T lh lh') (h : isA T lh k n i) : isA T lh' k n i := by
  obtain ⟨a1, a2, a3⟩ := hl.2 i h.lt
  obtain ⟨b0, b1, b2, b3⟩ := h
  refine ⟨b0, ⟨a1.trans b1.1, by rw [a2]; exact b1.2⟩, by rw [a2]; exact b2, fun f hf hn => ?_⟩
  have hf' : f < hN lh i := by rw [← a2]; exact hf
  rw [a3 f hf' (by rw [b1.1]; exact hn) (b3 f hf' hn)]
  exact b3 f hf' hn
theorem vOK.mono {T : Nat → Nat → vT} {lh lh' : gH} {t : vT} {v : Value} (hl : hLe T lh lh') (h : vOK T lh t v) : vOK T lh' t v := by
  unfold vOK at h ⊢
  split
  · rename_i e; rw [e] at h; exact h
  · rename_i e; rw [e] at h; exact h
  · rename_i e; rw [e] at h
    obtain ⟨i, h1, h2⟩ := h
    exact ⟨i, h1, h2.mono hl⟩
  · rename_i e1 e2 e3
    split at h
    · rename_i e; exact absurd e e1
    · rename_i e; exact absurd e e2
    · rename_i e; exact absurd e e3
    · rcases h with h | ⟨i, h1, h2⟩
      · exact .inl h
      · exact .inr ⟨i, h1, h2.1.mono hl, h2.2⟩
theorem hLe.set {T : Nat → Nat → vT} {lh : gH} {o i : Nat} {w : Value} (ho : o < lh.length) (hn : (T (hK lh o) i).2.2.2 = 0) : hLe T lh (hSet lh o i w) := by
  refine ⟨by rw [hSet_length]; exact Nat.le_refl _, fun q _ => ⟨hSet_K _ _ _ _ _, hSet_N _ _ _ _ _, fun f _ hf _ => ?_⟩⟩
  rw [hSet_val ho]
  split
  · rename_i e
    obtain ⟨rfl, rfl⟩ := e
    exact absurd hn hf
  · rfl
theorem vKd_chk : (vKds.all fun l => l.all fun k => !(Nat.beq k 1000)) = true := by decide +kernel
theorem vKd_ne {o k : Nat} (h : vKd o = k + 1) : k ≠ 999 := by
  intro e
  subst e
  unfold vKd at h
  rw [fNth_eq] at h
  have hc := vKd_chk
  rw [List.all_eq_true] at hc
  match hl : vKds[Nat.div o 16]?, h with
  | some l, h =>
    dsimp only at h
    rw [fNth_eq] at h
    have h2 := hc l (List.mem_of_getElem? hl)
    rw [List.all_eq_true] at h2
    match hk : l[Nat.mod o 16]?, h with
    | some q, h =>
      dsimp only at h
      have h3 := h2 q (List.mem_of_getElem? hk)
      rw [h] at h3
      cases h3
theorem KS.le {T : Nat → Nat → vT} {lh lh' : gH} (hl : hLe T lh lh') (h : KS lh) : KS lh' := fun o k ho => by
  have h1 := h o k ho
  rw [(hl.2 o (hK_lt h1 (vKd_ne ho))).1]
  exact h1
theorem WT.set {T : Nat → Nat → vT} {lh : gH} {o i : Nat} {w : Value} (h : WT T lh) (ho : o < lh.length) (hn : (T (hK lh o) i).2.2.2 = 0) (hw : vOK T lh (T (hK lh o) i) w) : WT T (hSet lh o i w) := by
  have hl := hLe.set (T := T) (i := i) (w := w) ho hn
  refine ⟨h.1.le hl, ?_⟩
  intro q j hq hj
  rw [hSet_length] at hq
  rw [hSet_N] at hj
  rw [hSet_K, hSet_val ho]
  split
  · rename_i e
    obtain ⟨rfl, rfl⟩ := e
    exact hw.mono hl
  · exact (h.2 q j hq hj).mono hl
theorem hLe.push {T : Nat → Nat → vT} (lh : gH) (c : gC) : hLe T lh (lh ++ [c]) := by
  refine ⟨by rw [List.length_append]; omega, fun q hq => ⟨hPush_K hq, hPush_N hq, fun f _ _ _ => hPush_val hq f⟩⟩
theorem WT.push {T : Nat → Nat → vT} {lh : gH} {c : gC} (h : WT T lh) (hc : ∀ j, j < hN (lh ++ [c]) lh.length → vOK T (lh ++ [c]) (T (hK (lh ++ [c]) lh.length) j) (hVal (lh ++ [c]) lh.length j)) : WT T (lh ++ [c]) := by
  refine ⟨h.1.le (hLe.push (T := T) lh c), ?_⟩
  intro q j hq hj
  by_cases hl : q < lh.length
  · rw [hPush_N hl] at hj
    rw [hPush_K hl, hPush_val hl]
    exact (h.2 q j hl hj).mono (hLe.push lh c)
  · rw [List.length_append] at hq
    have e : q = lh.length := by
      have : q < lh.length + 1 := hq
      omega
    subst e
    exact hc j hj
/-! WHAT IS WRITTEN: kinds and slots; what is not told there stays. -/
noncomputable def vLoc (W : List (Nat × Nat)) (k i : Nat) : Bool := fAny (fun q => Nat.beq q.1 k && (Nat.ble 100 k || Nat.beq q.2 i)) W
theorem vLoc_sub {W1 W2 : List (Nat × Nat)} (h : (W1.all fun q => vLoc W2 q.1 q.2) = true) {k i : Nat} (h2 : vLoc W2 k i = false) : vLoc W1 k i = false := by
  cases h1 : vLoc W1 k i with
  | false => rfl
  | true =>
    unfold vLoc at h1
    obtain ⟨q, hq, hf⟩ := fAny_ok h1
    have h3 := List.all_eq_true.mp h q hq
    rw [Bool.and_eq_true] at hf
    have e := Nat.eq_of_beq_eq_true hf.1
    subst e
    obtain ⟨r, hr, hg⟩ := fAny_ok h3
    rw [Bool.and_eq_true] at hg
    have h4 : vLoc W2 q.1 i = true := by
      unfold vLoc
      refine fAny_of hr ?_
      rw [hg.1]
      show (Nat.ble 100 q.1 || Nat.beq r.2 i) = true
      cases hb : Nat.ble 100 q.1 with
      | true => rfl
      | false =>
        rw [hb] at hf hg
        have e1 := Nat.eq_of_beq_eq_true (show Nat.beq q.2 i = true from hf.2)
        have e2 := Nat.eq_of_beq_eq_true (show Nat.beq r.2 q.2 = true from hg.2)
        show Nat.beq r.2 i = true
        rw [e2, e1]
        exact Nat.beq_refl i
    rw [h2] at h4
    cases h4
def hLw (T : Nat → Nat → vT) (W : List (Nat × Nat)) (Z : Bool) (a b : gH) : Prop := hLe T a b ∧ (∀ o i, o < a.length → vLoc W (hK a o) i = false → hVal b o i = hVal a o i) ∧ (Z = true → b.length = a.length) ∧ gsz b + 300 * a.length ≤ gsz a + 300 * b.length
theorem hLw.refl (T : Nat → Nat → vT) (W : List (Nat × Nat)) (Z : Bool) (a : gH) : hLw T W Z a a := ⟨hLe.refl T a, fun _ _ _ _ => rfl, fun _ => rfl, Nat.le_refl _⟩
theorem hLw.trans {T : Nat → Nat → vT} {W : List (Nat × Nat)} {Z : Bool} {a b c : gH} (h1 : hLw T W Z a b) (h2 : hLw T W Z b c) : hLw T W Z a c := by
  refine ⟨h1.1.trans h2.1, fun o i ho hw => ?_, fun z => (h2.2.2.1 z).trans (h1.2.2.1 z), by have := h1.2.2.2; have := h2.2.2.2; omega⟩
  have e := (h1.1.2 o ho).1
  exact (h2.2.1 o i (Nat.lt_of_lt_of_le ho h1.1.1) (by rw [e]; exact hw)).trans (h1.2.1 o i ho hw)
theorem hLw.sub {T : Nat → Nat → vT} {W1 W2 : List (Nat × Nat)} {Z1 Z2 : Bool} {a b : gH} (h : hLw T W1 Z1 a b) (hs : (W1.all fun q => vLoc W2 q.1 q.2) = true) (hz : Z2 = true → Z1 = true) : hLw T W2 Z2 a b :=
  ⟨h.1, fun o i ho hw => h.2.1 o i ho (vLoc_sub hs hw), fun z => h.2.2.1 (hz z), h.2.2.2⟩
theorem hLw.set {T : Nat → Nat → vT} {W : List (Nat × Nat)} {Z : Bool} {lh : gH} {o i : Nat} {w : Value} (ho : o < lh.length) (hn : (T (hK lh o) i).2.2.2 = 0) (hw : vLoc W (hK lh o) i = true) : hLw T W Z lh (hSet lh o i w) := by
  refine ⟨hLe.set ho hn, fun q j hq hj => ?_, fun _ => hSet_length _ _ _ _, by rw [hSet_gsz, hSet_length]; exact Nat.le_refl _⟩
  rw [hSet_val ho]
  split
  · rename_i e
    obtain ⟨rfl, rfl⟩ := e
    rw [hw] at hj
    cases hj
  · rfl
/-- the cell stays, and its slot isn't written -/
noncomputable def vFree (W : List (Nat × Nat)) (o f : Nat) : Bool := fNat (vKd o) (fun k => Nat.rec (motive := fun _ => Bool) false (fun k _ => !(vLoc W k f)) k)
noncomputable def vFreeR (W : List (Nat × Nat)) (o : Nat) : Bool := Nat.ble 101 (vKd o) && vFree W o 0
/-- what stays, as numbers -/
def hFr (W : List (Nat × Nat)) (a b : gH) : Prop := (∀ o f, vFree W o f = true → hV b o f = hV a o f) ∧ (∀ o, vFreeR W o = true → ∀ i, hV b o i = hV a o i) ∧ ∀ o k, hK a o = k → Nat.beq k 999 = false → ∀ f, vLoc W k f = false → hV b o f = hV a o f
theorem vFree_ok {W : List (Nat × Nat)} {o f : Nat} (h : vFree W o f = true) : ∃ k, vKd o = k + 1 ∧ vLoc W k f = false := by
  unfold vFree at h
  rw [fNat_eq] at h
  cases hk : vKd o with
  | zero => rw [hk] at h; cases h
  | succ k =>
    rw [hk] at h
    replace h : (!(vLoc W k f)) = true := h
    exact ⟨k, rfl, by cases hv : vLoc W k f with
      | true => rw [hv] at h; cases h
      | false => rfl⟩
theorem vLoc_row {W : List (Nat × Nat)} {k : Nat} (hk : 100 ≤ k) (i j : Nat) : vLoc W k i = vLoc W k j := by
  unfold vLoc
  rw [Nat.ble_eq.mpr hk]
  rfl
theorem hLw.fr {T : Nat → Nat → vT} {W : List (Nat × Nat)} {Z : Bool} {a b : gH} (h : hLw T W Z a b) (hk : KS a) : hFr W a b := by
  refine ⟨fun o f hf => ?_, fun o ho i => ?_, fun o k ho hk9 f hf => ?_⟩
  · obtain ⟨k, h1, h2⟩ := vFree_ok hf
    have h3 := hk o k h1
    unfold hV
    rw [h.2.1 o f (hK_lt h3 (vKd_ne h1)) (by rw [h3]; exact h2)]
  · unfold vFreeR at ho
    rw [Bool.and_eq_true] at ho
    obtain ⟨k, h1, h2⟩ := vFree_ok ho.2
    have h3 := hk o k h1
    have h4 := Nat.le_of_ble_eq_true ho.1
    unfold hV
    rw [h.2.1 o i (hK_lt h3 (vKd_ne h1)) (by rw [h3, vLoc_row (by omega) i 0]; exact h2)]
  · unfold hV
    rw [h.2.1 o f (hK_lt ho (Nat.ne_of_beq_eq_false hk9)) (by rw [ho]; exact hf)]
