/-! THE REFERENCE'S tape, SHEETS' number and EDITIONS (hand; behind mix.lean.txt and rread.lean.txt). -/
def IRm (h : gH) : Prop := ∀ s : Nat, (s : Int) < hV h 285 18 → hV h 293 s ≤ hV h 285 60 - 1
noncomputable def tdR (h : gH) : Int := @ite Int (∃ s : Nat, (s : Int) < hV h 285 18 ∧ hV h 293 s = hV h 285 60 - 1) (Classical.propDecidable _) 1 0
noncomputable def mR (h : gH) : MXS := (hV h 285 2, BT h, hV h 285 17, hV h 285 18, hV h 285 60, hV h 325, hV h 326, hV h 327, tdR h)
theorem tdR_1 {h : gH} {s : Nat} (a : (s : Int) < hV h 285 18) (b : hV h 293 s = hV h 285 60 - 1) : tdR h = 1 := if_pos ⟨s, a, b⟩
theorem tdR_0 {h : gH} (n : ∀ s : Nat, (s : Int) < hV h 285 18 → ¬ hV h 293 s = hV h 285 60 - 1) : tdR h = 0 := if_neg (fun ⟨s, a, b⟩ => n s a b)
theorem tdR_same {a b : gH} (e18 : hV b 285 18 = hV a 285 18) (e60 : hV b 285 60 = hV a 285 60) (e : hV b 293 = hV a 293) : tdR b = tdR a := by
  unfold tdR
  rw [e18, e60, e]
theorem IRm_same {a b : gH} (e18 : hV b 285 18 = hV a 285 18) (e60 : hV b 285 60 = hV a 285 60) (e : hV b 293 = hV a 293) (z : IRm a) : IRm b := by
  unfold IRm
  rw [e18, e60, e]
  exact z
theorem BT_same {a b : gH} (e : hV b 286 = hV a 286) : BT b = BT a := by
  unfold BT
  rw [e]
theorem mR_mk {a b : gH} {x2 x17 x18 x60 t : Int} {bt r5 r6 r7 : Nat → Int} (c2 : hV b 285 2 = x2) (cb : BT b = bt) (c17 : hV b 285 17 = x17) (c18 : hV b 285 18 = x18) (c60 : hV b 285 60 = x60) (e5 : hV b 325 = r5) (e6 : hV b 326 = r6) (e7 : hV b 327 = r7) (et : tdR b = t) : mR b = (x2, bt, x17, x18, x60, r5, r6, r7, t) := by
  unfold mR
  rw [c2, cb, c17, c18, c60, e5, e6, e7, et]
theorem MTr {h : gH} (z : MT (mR h)) : (0 ≤ hV h 285 2 ∧ hV h 285 2 ≤ 2000) ∧ (0 ≤ hV h 285 18 ∧ hV h 285 18 ≤ 8) ∧ (1 ≤ hV h 285 60 ∧ hV h 285 60 ≤ 6) ∧ (∀ j : Nat, 0 ≤ hV h 325 j ∧ hV h 325 j ≤ 60) ∧ (∀ j : Nat, 0 ≤ hV h 326 j ∧ hV h 326 j ≤ 10) ∧ (∀ j : Nat, -1 ≤ hV h 327 j ∧ hV h 327 j ≤ 59) ∧ ∀ j : Nat, hV h 285 60 ≤ (j : Int) → hV h 325 j = 0 ∧ hV h 326 j = 0 := z
theorem uRowQ {h' h : gH} {o i w : Int} (f : hUpd h' h o i w) (q : Nat) (e : o = (q : Int)) : hV h' q = uF (hV h q) i w := funext fun j => by
  rw [f.1 q j, uF_at]
  by_cases c : (j : Int) = i
  · rw [if_pos c, if_pos ⟨e.symm, c⟩]
  · rw [if_neg c, if_neg (fun z => c z.2)]
theorem uF_0 {r : Nat → Int} {i w : Int} (h : ∀ j : Nat, (j : Int) = i → r j = w) : uF r i w = r := funext fun j => by
  rw [uF_at]
  by_cases c : (j : Int) = i
  · rw [if_pos c, h j c]
  · rw [if_neg c]
theorem BT_put {a b : gH} {i v w : Int} (e : hV b 286 = uF (hV a 286) i v) (bt : o32 (fun x y => x &&& y) v 255 = w) : BT b = uF (BT a) i w := funext fun j => by
  rw [uF_at]
  show o32 (fun x y => x &&& y) (hV b 286 j) 255 = _
  rw [e, uF_at]
  by_cases c : (j : Int) = i
  · rw [if_pos c, if_pos c, bt]
  · rw [if_neg c, if_neg c]
    rfl
noncomputable def cRM (W : List (Nat × Nat)) : Bool := (vFree W 285 2 && (vFreeR W 286 && vFree W 285 17)) && ((vFree W 285 18 && (vFree W 285 60 && vFreeR W 293)) && (vFreeR W 325 && (vFreeR W 326 && vFreeR W 327)))
theorem mR_fr {W : List (Nat × Nat)} {a b : gH} (f : hFr W a b) (c : cRM W = true) : mR b = mR a ∧ (IRm a → IRm b) := by
  unfold cRM at c
  simp only [Bool.and_eq_true] at c
  obtain ⟨⟨c1, c2, c3⟩, ⟨c4, c5, c6⟩, c7, c8, c9⟩ := c
  have e18 := f.1 285 18 c4
  have e60 := f.1 285 60 c5
  have e293 := fRow f 293 c6
  refine ⟨mR_mk (a := a) (f.1 285 2 c1) (BT_same (fRow f 286 c2)) (f.1 285 17 c3) e18 e60 (fRow f 325 c7) (fRow f 326 c8) (fRow f 327 c9) (tdR_same e18 e60 e293), IRm_same e18 e60 e293⟩
noncomputable def cPTR (W : List (Nat × Nat)) : Bool := vFree W 285 17 && ((vFree W 285 18 && (vFree W 285 60 && vFreeR W 293)) && (vFreeR W 325 && (vFreeR W 326 && vFreeR W 327)))
theorem mR_put {W : List (Nat × Nat)} {a b : gH} {w : Int} (f : hFr W a b) (c : cPTR W = true) (e1 : hV b 285 2 = hV a 285 2 + 4) (e2 : BT b = pW w (BT a) (hV a 285 2) 4) : mR b = mPut w (mR a) ∧ (IRm a → IRm b) := by
  unfold cPTR at c
  simp only [Bool.and_eq_true] at c
  obtain ⟨c3, ⟨c4, c5, c6⟩, c7, c8, c9⟩ := c
  have e18 := f.1 285 18 c4
  have e60 := f.1 285 60 c5
  have e293 := fRow f 293 c6
  exact ⟨mR_mk (a := a) e1 e2 (f.1 285 17 c3) e18 e60 (fRow f 325 c7) (fRow f 326 c8) (fRow f 327 c9) (tdR_same e18 e60 e293), IRm_same e18 e60 e293⟩
