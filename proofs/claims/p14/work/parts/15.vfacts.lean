/-! WHAT THE FACTS AND GOALS SAY. -/
def w32 (x : Int) : Int := (x + 2147483648) % 4294967296 - 2147483648
def w64 (x : Int) : Int := (x + 9223372036854775808) % 18446744073709551616 - 9223372036854775808
def o32 (f : Int32 → Int32 → Int32) (x y : Int) : Int := (f (Int32.ofInt x) (Int32.ofInt y)).toInt
def o64 (f : Int64 → Int64 → Int64) (x y : Int) : Int := (f (Int64.ofInt x) (Int64.ofInt y)).toInt
theorem bmod32 (x : Int) : x.bmod (2 ^ 32) = w32 x := by
  show Int.bmod x 4294967296 = w32 x
  unfold w32 Int.bmod
  dsimp only
  split <;> omega
theorem bmod64 (x : Int) : x.bmod (2 ^ 64) = w64 x := by
  show Int.bmod x 18446744073709551616 = w64 x
  unfold w64 Int.bmod
  dsimp only
  split <;> omega
theorem of32 (x : Int32) : Int32.ofInt x.toInt = x := Int32.ofInt_toInt x
theorem of64 (x : Int64) : Int64.ofInt x.toInt = x := Int64.ofInt_toInt x
theorem o32_at (f : Int32 → Int32 → Int32) (x y : Int32) : o32 f x.toInt y.toInt = (f x y).toInt := by
  unfold o32
  rw [of32, of32]
theorem o64_at (f : Int64 → Int64 → Int64) (x y : Int64) : o64 f x.toInt y.toInt = (f x y).toInt := by
  unfold o64
  rw [of64, of64]
theorem o32_add (x y : Int) : o32 (fun x y => x + y) x y = w32 (x + y) := by
  unfold o32
  rw [Int32.toInt_add, Int32.toInt_ofInt, Int32.toInt_ofInt, ← Int.add_bmod, bmod32]
theorem o32_sub (x y : Int) : o32 (fun x y => x - y) x y = w32 (x - y) := by
  unfold o32
  rw [Int32.toInt_sub, Int32.toInt_ofInt, Int32.toInt_ofInt, ← Int.sub_bmod, bmod32]
theorem o32_mul (x y : Int) : o32 (fun x y => x * y) x y = w32 (x * y) := by
  unfold o32
  rw [Int32.toInt_mul, Int32.toInt_ofInt, Int32.toInt_ofInt, ← Int.mul_bmod, bmod32]
theorem o32_neg (x : Int) : o32 (fun x _ => -x) x 0 = w32 (-x) := by
  unfold o32
  rw [Int32.toInt_neg, Int32.toInt_ofInt]
  have h := o32_sub 0 x
  unfold o32 at h
  rw [Int32.toInt_sub, Int32.toInt_ofInt, Int32.toInt_ofInt] at h
  rw [Int.zero_sub] at h
  rw [← h]
  show Int.bmod (-_) _ = Int.bmod (Int.bmod 0 4294967296 - _) _
  rw [show Int.bmod 0 4294967296 = 0 from rfl, Int.zero_sub]
/-- the ints of the objects that stay keep to their bounds -/
noncomputable def vRg (T : Nat → Nat → vT) (o f : Nat) (lo hi : Int) : Bool := fNat (vKd o) (fun k => Nat.rec (motive := fun _ => Bool) false (fun k _ => bif Nat.blt k 100 then (bif Nat.blt f (gN k) then (bif Nat.beq (T k f).1 0 then (decide (lo ≤ (T k f).2.1) && decide ((T k f).2.2.1 ≤ hi)) else false) else false) else false) k)
def hWt (T : Nat → Nat → vT) (h : gH) : Prop := ∀ o f lo hi, vRg T o f lo hi = true → lo ≤ hV h o f ∧ hV h o f ≤ hi
theorem WT.rg {T : Nat → Nat → vT} {h : gH} (hw : WT T h) : hWt T h := fun o f lo hi hr => by
  unfold vRg at hr
  rw [fNat_eq] at hr
  cases hk : vKd o with
  | zero => rw [hk] at hr; cases hr
  | succ k =>
    rw [hk] at hr
    replace hr : (bif Nat.blt k 100 then (bif Nat.blt f (gN k) then (bif Nat.beq (T k f).1 0 then (decide (lo ≤ (T k f).2.1) && decide ((T k f).2.2.1 ≤ hi)) else false) else false) else false) = true := hr
    have h1 := hw.1 o k hk
    cases c1 : Nat.blt k 100 with
    | false => rw [c1] at hr; cases hr
    | true =>
      rw [c1] at hr
      cases c2 : Nat.blt f (gN k) with
      | false => rw [c2] at hr; cases hr
      | true =>
        rw [c2] at hr
        cases c3 : Nat.beq (T k f).1 0 with
        | false => rw [c3] at hr; cases hr
        | true =>
          rw [c3] at hr
          dsimp only [cond_true] at hr
          rw [Bool.and_eq_true, decide_eq_true_eq, decide_eq_true_eq] at hr
          have hk1 := Nat.blt_eq.mp c1
          have hlt := hK_lt h1 (vKd_ne hk)
          have hn : hN h o = gN k := by
            unfold hK at h1
            unfold hN
            cases hc : h[o]? with
            | none => rw [hc] at h1; dsimp only at h1; omega
            | some c =>
              rw [hc] at h1
              cases c with
              | inl x =>
                dsimp only at h1
                split at h1
                · show gN x.1 = gN k
                  rw [h1]
                · omega
              | inr y =>
                dsimp only at h1
                split at h1 <;> omega
          have h2 := hw.2 o f hlt (by rw [hn]; exact Nat.blt_eq.mp c2)
          rw [h1] at h2
          unfold vOK at h2
          rw [Nat.eq_of_beq_eq_true c3] at h2
          obtain ⟨x, e, b1, b2⟩ := h2
          unfold hV
          rw [e]
          show lo ≤ x.toInt ∧ x.toInt ≤ hi
          omega
/-- what a method's premises, ends and cuts say: premise, end (answer and arguments), the method's own premise, assertion, goal at a cut, goal at the end; what a method writes; what this one writes -/
abbrev vP : Type := (Nat → List Int → gH → Prop) × (Nat → List Int → gH → gH → Prop) × (List Int → gH → Prop) × (Int → List Int → gH → gH → Prop) × (Int → List Int → gH → gH → Prop) × (List Int → gH → gH → Prop) × (Nat → List (Nat × Nat)) × List (Nat × Nat)
/-- o's slot i is w now, all else is as it was -/
def hUpd (h' h : gH) (o i w : Int) : Prop := (∀ q j : Nat, hV h' q j = if (q : Int) = o ∧ (j : Int) = i then w else hV h q j) ∧ h'.length = h.length ∧ ∀ q, hK h' q = hK h q ∧ hN h' q = hN h q
def fX2 (T : Nat → Nat → vT) (P : vP) (op : Nat) (xs : List Int) (hs : List gH) (c : Int) : Prop :=
  if op < 2000 then (match hs with
    | [h, h'] => (hLe T h h' ∧ hFr (P.2.2.2.2.2.2.1 (op - 1000)) h h' ∧ (c = 0 → h'.length = h.length) ∧ hWt T h') ∧ P.2.1 (op - 1000) xs h h'
    | _ => True)
  else if op < 3000 then (match hs with
    | [h] => P.1 (op - 2000) xs h
    | _ => False)
  else if op < 4000 then (match hs with
    | [h0, h] => P.2.2.2.2.2.1 xs h0 h
    | _ => False)
  else if op < 5000 then (match hs with
    | [h0, h] => P.2.2.2.2.1 c xs h0 h
    | _ => False)
  else if op < 6000 then (match hs with
    | [h0, h] => (hLe T h0 h ∧ hFr P.2.2.2.2.2.2.2 h0 h ∧ hWt T h) ∧ P.2.2.2.1 c xs h0 h
    | _ => True)
  else (match hs with
    | [h0] => hWt T h0 ∧ P.2.2.1 xs h0
    | _ => True)
def fXa (op : Nat) (xs : List Int) (hs : List gH) (c : Int) : Prop := match op, xs, hs with
  | 0, [k], _ => k = c
  | 1, [k, x, y], _ => k = w32 (x + y)
  | 2, [k, x, y], _ => k = w32 (x - y)
  | 3, [k, x, y], _ => k = w32 (x * y)
  | 4, [k, x, y], _ => k = o32 (fun x y => x &&& y) x y
  | 5, [k, x, y], _ => k = o32 (fun x y => x ||| y) x y
  | 6, [k, x, y], _ => k = o32 (fun x y => x ^^^ y) x y
  | 7, [k, x, y], _ => k = o32 (fun x y => x <<< (y &&& 31)) x y
  | 8, [k, x, y], _ => k = o32 (fun x y => x >>> (y &&& 31)) x y
  | 9, [k, x, y], _ => k = o32 (fun x y => (x.toUInt32 >>> (y.toUInt32 &&& Int32.toUInt32 31)).toInt32) x y
  | 10, [k, x], _ => k = w32 (x + c)
  | 11, [k, x, y], _ => k = o32 (fun x y => x / y) x y
  | 12, [k, x, y], _ => k = o32 (fun x y => x - x / y * y) x y
  | 13, [k, x], _ => k = o32 (fun x _ => (x.toUInt32 % 65536).toInt32) x 0
  | 14, [k, x], _ => k = w32 (-x)
  | 15, [k, x], _ => k = o32 (fun x _ => x.toInt8.toInt32) x 0
  | 16, [k, x], _ => k = o32 (fun x _ => x &&& 1) x 0
  | 17, [k, x], _ => k = x
  | 18, [k, x], _ => k = (Int64.ofInt x).toInt32.toInt
  | 61, [k, x, y], _ => k = o64 (fun x y => x + y) x y
  | 62, [k, x, y], _ => k = o64 (fun x y => x - y) x y
  | 63, [k, x, y], _ => k = o64 (fun x y => x * y) x y
  | 64, [k, x, y], _ => k = o64 (fun x y => x / y) x y
  | 65, [k, x, y], _ => k = (lg_cmp (Int64.ofInt x) (Int64.ofInt y)).toInt
  | 66, [x], _ => x < c
  | 67, [x], _ => c < x
  | 68, [x], _ => x ≠ c
  | 20, [k, x], [h] => k = hV h x.toNat c.toNat
  | 21, [k, x], [h] => k = (hN h x.toNat : Int)
  | 22, [k, x, i], [h] => k = hV h x.toNat i.toNat
  | 23, [x], [h] => hK h x.toNat = c.toNat
  | 30, [x], _ => x = 0
  | 31, [x], _ => x ≠ 0
  | 32, [x], _ => x < 0
  | 33, [x], _ => 0 ≤ x
  | 34, [x], _ => 0 < x
  | 35, [x], _ => x ≤ 0
  | 40, [x, y], _ => x = y
  | 41, [x, y], _ => x ≠ y
  | 42, [x, y], _ => x < y
  | 43, [x, y], _ => y ≤ x
  | 44, [x, y], _ => y < x
  | 45, [x, y], _ => x ≤ y
  | 50, [x], _ => x = -1
  | 51, [x], _ => 0 ≤ x
  | 70, [i], _ => 0 ≤ i ∧ i < c
  | 71, [i, r], [h] => 0 ≤ i ∧ i < (hN h r.toNat : Int)
  | 72, [y], _ => y ≠ 0
  | 80, [o, i, w], [h', h] => hUpd h' h o i w
  | 90, [k], _ => c ≤ k
  | 91, [k], _ => k ≤ c
  | _, _, _ => False
def fX (T : Nat → Nat → vT) (P : vP) (op : Nat) (xs : List Int) (hs : List gH) (c : Int) : Prop := bif Nat.ble 1000 op then fX2 T P op xs hs c else fXa op xs hs c
def fD (T : Nat → Nat → vT) (P : vP) (ρ : Nat → Int) (η : Nat → gH) (f : vF) : Prop := fX T P f.1 (f.2.1.map ρ) (f.2.2.1.map η) f.2.2.2
/-- a condition: for all names and heaps, the facts give the goal -/
def vOk (T : Nat → Nat → vT) (P : vP) (g : vG) : Prop := ∀ (ρ : Nat → Int) (η : Nat → gH), (∀ f ∈ g.1, fD T P ρ η f) → fD T P ρ η g.2
theorem fD_congr {T : Nat → Nat → vT} {P : vP} {ρ ρ' : Nat → Int} {η η' : Nat → gH} {f : vF} (h1 : ∀ k ∈ f.2.1, ρ k = ρ' k) (h2 : ∀ k ∈ f.2.2.1, η k = η' k) : fD T P ρ η f ↔ fD T P ρ' η' f := by
  unfold fD
  rw [List.map_congr_left h1, List.map_congr_left h2]
