/-! WHAT THE FACTS AND GOALS SAY. -/
def w32 (x : Int) : Int := (x + 2147483648) % 4294967296 - 2147483648
def w64 (x : Int) : Int := (x + 9223372036854775808) % 18446744073709551616 - 9223372036854775808
def o32 (f : Int32 → Int32 → Int32) (x y : Int) : Int := (f (Int32.ofInt x) (Int32.ofInt y)).toInt
def o64 (f : Int64 → Int64 → Int64) (x y : Int) : Int := (f (Int64.ofInt x) (Int64.ofInt y)).toInt
theorem bmod32 (x : Int) : x.bmod (2 ^ 32) = w32 x := by
  show Int.bmod x 4294967296 = w32 x
  unfold w32 Int.bmod
  dsimp only
  split <;> omega
theorem bmod64 (x : Int) : x.bmod (2 ^ 64) = w64 x := by
  show Int.bmod x 18446744073709551616 = w64 x
  unfold w64 Int.bmod
  dsimp only
  split <;> omega
theorem of32 (x : Int32) : Int32.ofInt x.toInt = x := Int32.ofInt_toInt x
theorem of64 (x : Int64) : Int64.ofInt x.toInt = x := Int64.ofInt_toInt x
theorem o32_at (f : Int32 → Int32 → Int32) (x y : Int32) : o32 f x.toInt y.toInt = (f x y).toInt := by
  unfold o32
  rw [of32, of32]
theorem o64_at (f : Int64 → Int64 → Int64) (x y : Int64) : o64 f x.toInt y.toInt = (f x y).toInt := by
  unfold o64
  rw [of64, of64]
theorem o32_add (x y : Int) : o32 (fun x y => x + y) x y = w32 (x + y) := by
  unfold o32
  rw [Int32.toInt_add, Int32.toInt_ofInt, Int32.toInt_ofInt, ← Int.add_bmod, bmod32]
theorem o32_sub (x y : Int) : o32 (fun x y => x - y) x y = w32 (x - y) := by
  unfold o32
  rw [Int32.toInt_sub, Int32.toInt_ofInt, Int32.toInt_ofInt, ← Int.sub_bmod, bmod32]
theorem o32_mul (x y : Int) : o32 (fun x y => x * y) x y = w32 (x * y) := by
  unfold o32
  rw [Int32.toInt_mul, Int32.toInt_ofInt, Int32.toInt_ofInt, ← Int.mul_bmod, bmod32]
theorem o32_neg (x : Int) : o32 (fun x _ => -x) x 0 = w32 (-x) := by
  unfold o32
  rw [Int32.toInt_neg, Int32.toInt_ofInt]
  have h := o32_sub 0 x
  unfold o32 at h
  rw [Int32.toInt_sub, Int32.toInt_ofInt, Int32.toInt_ofInt] at h
  rw [Int.zero_sub] at h
  rw [← h]
  show Int.bmod (-_) _ = Int.bmod (Int.bmod 0 4294967296 - _) _
  rw [show Int.bmod 0 4294967296 = 0 from rfl, Int.zero_sub]
/-- the ints of the objects that stay keep to their bounds -/
noncomputable def vRg (T : Nat → Nat → vT) (o f : Nat) (lo hi : Int) : Bool := fNat (vKd o) (fun k => Nat.rec (motive := fun _ => Bool) false (fun k _ => bif Nat.blt k 100 then (bif Nat.blt f (gN k) then (bif Nat.beq (T k f).1 0 then (decide (lo ≤ (T k f).2.1) && decide ((T k f).2.2.1 ≤ hi)) else false) else false) else false) k)
def hWt (T : Nat → Nat → vT) (h : gH) : Prop := ∀ o f lo hi, vRg T o f lo hi = true → lo ≤ hV h o f ∧ hV h o f ≤ hi
theorem WT.rg {T : Nat → Nat → vT} {h : gH} (hw : WT T h) : hWt T h := fun o f lo hi hr => by
  unfold vRg at hr
  rw [fNat_eq] at hr
  cases hk : vKd o with
  | zero => rw [hk] at hr; cases hr
  | succ k =>
    rw [hk] at hr
    replace hr : (bif Nat.blt k 100 then (bif Nat.blt f (gN k) then (bif Nat.beq (T k f).1 0 then (decide (lo ≤ (T k f).2.1) && decide ((T k f).2.2.1 ≤ hi)) else false) else false) else false) = true := hr
    have h1 := hw.1 o k hk
    cases c1 : Nat.blt k 100 with
    | false => rw [c1] at hr; cases hr
    | true =>
      rw [c1] at hr
      cases c2 : Nat.blt f (gN k) with
      | false => rw [c2] at hr; cases hr
      | true =>
        rw [c2] at hr
        cases c3 : Nat.beq (T k f).1 0 with
        | false => rw [c3] at hr; cases hr
        | true =>
          rw [c3] at hr
          dsimp only [cond_true] at hr
          rw [Bool.and_eq_true, decide_eq_true_eq, decide_eq_true_eq] at hr
          have hk1 := Nat.blt_eq.mp c1
          have hlt := hK_lt h1 (vKd_ne hk)
          have hn : hN h o = gN k := by
            unfold hK at h1
            unfold hN
            cases hc : h[o]? with
            | none => rw [hc] at h1; dsimp only at h1; omega
            | some c =>
              rw [hc] at h1
              cases c with
              | inl x =>
                dsimp only at h1
                split at h1
                · show gN x.1 = gN k
                  rw [h1]
                · omega
              | inr y =>
                dsimp only at h1
                split at h1 <;> omega
          have h2 := hw.2 o f hlt (by rw [hn]; exact Nat.blt_eq.mp c2)
          rw [h1] at h2
          unfold vOK at h2
          rw [Nat.eq_of_beq_eq_true c3] at h2
          obtain ⟨x, e, b1, b2⟩ := h2
          unfold hV
          rw [e]
          show lo ≤ x.toInt ∧ x.toInt ≤ hi
          omega
/-- what a method's premises, ends and cuts say: premise, end (answer and arguments), the method's own premise, assertion, goal at a cut, goal at the end; what a method writes; what this one writes -/
abbrev vP : Type := (Nat → List Int → gH → Prop) × (Nat → List Int → gH → gH → Prop) × (List Int → gH → Prop) × (Int → List Int → gH → gH → Prop) × (Int → List Int → gH → gH → Prop) × (List Int → gH → gH → Prop) × (Nat → List (Nat × Nat)) × List (Nat × Nat)
/-- o's slot i is w now, all else is as it was -/
def hUpd (h' h : gH) (o i w : Int) : Prop := (∀ q j : Nat, hV h' q j = if (q : Int) = o ∧ (j : Int) = i then w else hV h q j) ∧ h'.length = h.length ∧ ∀ q, hK h' q = hK h q ∧ hN h' q = hN h q
def fX2 (T : Nat → Nat → vT) (P : vP) (op : Nat) (xs : List Int) (hs : List gH) (c : Int) : Prop :=
  if op < 2000 then (match hs with
    | [h, h'] => (hLe T h h' ∧ hFr (P.2.2.2.2.2.2.1 (op - 1000)) h h' ∧ (c = 0 → h'.length = h.length) ∧ hWt T h') ∧ P.2.1 (op - 1000) xs h h'
    | _ => True)
  else if op < 3000 then (match hs with
    | [h] => P.1 (op - 2000) xs h
    | _ => False)
  else if op < 4000 then (match hs with
    | [h0, h] => P.2.2.2.2.2.1 xs h0 h
    | _ => False)
  else if op < 5000 then (match hs with
    | [h0, h] => P.2.2.2.2.1 c xs h0 h
    | _ => False)
  else if op < 6000 then (match hs with
    | [h0, h] => (hLe T h0 h ∧ hFr P.2.2.2.2.2.2.2 h0 h ∧ hWt T h) ∧ P.2.2.2.1 c xs h0 h
    | _ => True)
  else (match hs with
    | [h0] => hWt T h0 ∧ P.2.2.1 xs h0
    | _ => True)
def fXa_0 (xs : List Int) (c : Int) : Prop := match xs with
  | [k] => k = c
  | _ => False
def fXa_1 (xs : List Int) (c : Int) : Prop := match xs with
  | [k, x, y] => k = w32 (x + y)
  | _ => False
def fXa_2 (xs : List Int) (c : Int) : Prop := match xs with
  | [k, x, y] => k = w32 (x - y)
  | _ => False
def fXa_3 (xs : List Int) (c : Int) : Prop := match xs with
  | [k, x, y] => k = w32 (x * y)
  | _ => False
def fXa_4 (xs : List Int) (c : Int) : Prop := match xs with
  | [k, x, y] => k = o32 (fun x y => x &&& y) x y
  | _ => False
def fXa_5 (xs : List Int) (c : Int) : Prop := match xs with
  | [k, x, y] => k = o32 (fun x y => x ||| y) x y
  | _ => False
def fXa_6 (xs : List Int) (c : Int) : Prop := match xs with
  | [k, x, y] => k = o32 (fun x y => x ^^^ y) x y
  | _ => False
def fXa_7 (xs : List Int) (c : Int) : Prop := match xs with
  | [k, x, y] => k = o32 (fun x y => x <<< (y &&& 31)) x y
  | _ => False
def fXa_8 (xs : List Int) (c : Int) : Prop := match xs with
  | [k, x, y] => k = o32 (fun x y => x >>> (y &&& 31)) x y
  | _ => False
def fXa_9 (xs : List Int) (c : Int) : Prop := match xs with
  | [k, x, y] => k = o32 (fun x y => (x.toUInt32 >>> (y.toUInt32 &&& Int32.toUInt32 31)).toInt32) x y
  | _ => False
def fXa_10 (xs : List Int) (c : Int) : Prop := match xs with
  | [k, x] => k = w32 (x + c)
  | _ => False
def fXa_11 (xs : List Int) (c : Int) : Prop := match xs with
  | [k, x, y] => k = o32 (fun x y => x / y) x y
  | _ => False
def fXa_12 (xs : List Int) (c : Int) : Prop := match xs with
  | [k, x, y] => k = o32 (fun x y => x - x / y * y) x y
  | _ => False
def fXa_13 (xs : List Int) (c : Int) : Prop := match xs with
  | [k, x] => k = o32 (fun x _ => (x.toUInt32 % 65536).toInt32) x 0
  | _ => False
def fXa_14 (xs : List Int) (c : Int) : Prop := match xs with
  | [k, x] => k = w32 (-x)
  | _ => False
def fXa_15 (xs : List Int) (c : Int) : Prop := match xs with
  | [k, x] => k = o32 (fun x _ => x.toInt8.toInt32) x 0
  | _ => False
def fXa_16 (xs : List Int) (c : Int) : Prop := match xs with
  | [k, x] => k = o32 (fun x _ => x &&& 1) x 0
  | _ => False
def fXa_17 (xs : List Int) (c : Int) : Prop := match xs with
  | [k, x] => k = x
  | _ => False
def fXa_18 (xs : List Int) (c : Int) : Prop := match xs with
  | [k, x] => k = (Int64.ofInt x).toInt32.toInt
  | _ => False
def fXa_20 (xs : List Int) (hs : List gH) (c : Int) : Prop := match xs with
  | [k, x] => (match hs with
    | [h] => k = hV h x.toNat c.toNat
    | _ => False)
  | _ => False
def fXa_21 (xs : List Int) (hs : List gH) (c : Int) : Prop := match xs with
  | [k, x] => (match hs with
    | [h] => k = (hN h x.toNat : Int)
    | _ => False)
  | _ => False
def fXa_22 (xs : List Int) (hs : List gH) (c : Int) : Prop := match xs with
  | [k, x, i] => (match hs with
    | [h] => k = hV h x.toNat i.toNat
    | _ => False)
  | _ => False
def fXa_23 (xs : List Int) (hs : List gH) (c : Int) : Prop := match xs with
  | [x] => (match hs with
    | [h] => hK h x.toNat = c.toNat
    | _ => False)
  | _ => False
def fXa_30 (xs : List Int) (c : Int) : Prop := match xs with
  | [x] => x = 0
  | _ => False
def fXa_31 (xs : List Int) (c : Int) : Prop := match xs with
  | [x] => x ≠ 0
  | _ => False
def fXa_32 (xs : List Int) (c : Int) : Prop := match xs with
  | [x] => x < 0
  | _ => False
def fXa_33 (xs : List Int) (c : Int) : Prop := match xs with
  | [x] => 0 ≤ x
  | _ => False
def fXa_34 (xs : List Int) (c : Int) : Prop := match xs with
  | [x] => 0 < x
  | _ => False
def fXa_35 (xs : List Int) (c : Int) : Prop := match xs with
  | [x] => x ≤ 0
  | _ => False
def fXa_40 (xs : List Int) (c : Int) : Prop := match xs with
  | [x, y] => x = y
  | _ => False
def fXa_41 (xs : List Int) (c : Int) : Prop := match xs with
  | [x, y] => x ≠ y
  | _ => False
def fXa_42 (xs : List Int) (c : Int) : Prop := match xs with
  | [x, y] => x < y
  | _ => False
def fXa_43 (xs : List Int) (c : Int) : Prop := match xs with
  | [x, y] => y ≤ x
  | _ => False
def fXa_44 (xs : List Int) (c : Int) : Prop := match xs with
  | [x, y] => y < x
  | _ => False
def fXa_45 (xs : List Int) (c : Int) : Prop := match xs with
  | [x, y] => x ≤ y
  | _ => False
def fXa_50 (xs : List Int) (c : Int) : Prop := match xs with
  | [x] => x = -1
  | _ => False
def fXa_51 (xs : List Int) (c : Int) : Prop := match xs with
  | [x] => 0 ≤ x
  | _ => False
def fXa_61 (xs : List Int) (c : Int) : Prop := match xs with
  | [k, x, y] => k = o64 (fun x y => x + y) x y
  | _ => False
def fXa_62 (xs : List Int) (c : Int) : Prop := match xs with
  | [k, x, y] => k = o64 (fun x y => x - y) x y
  | _ => False
def fXa_63 (xs : List Int) (c : Int) : Prop := match xs with
  | [k, x, y] => k = o64 (fun x y => x * y) x y
  | _ => False
def fXa_64 (xs : List Int) (c : Int) : Prop := match xs with
  | [k, x, y] => k = o64 (fun x y => x / y) x y
  | _ => False
def fXa_65 (xs : List Int) (c : Int) : Prop := match xs with
  | [k, x, y] => k = (lg_cmp (Int64.ofInt x) (Int64.ofInt y)).toInt
  | _ => False
def fXa_66 (xs : List Int) (c : Int) : Prop := match xs with
  | [x] => x < c
  | _ => False
def fXa_67 (xs : List Int) (c : Int) : Prop := match xs with
  | [x] => c < x
  | _ => False
def fXa_68 (xs : List Int) (c : Int) : Prop := match xs with
  | [x] => x ≠ c
  | _ => False
def fXa_70 (xs : List Int) (c : Int) : Prop := match xs with
  | [i] => 0 ≤ i ∧ i < c
  | _ => False
def fXa_71 (xs : List Int) (hs : List gH) (c : Int) : Prop := match xs with
  | [i, r] => (match hs with
    | [h] => 0 ≤ i ∧ i < (hN h r.toNat : Int)
    | _ => False)
  | _ => False
def fXa_72 (xs : List Int) (c : Int) : Prop := match xs with
  | [y] => y ≠ 0
  | _ => False
def fXa_80 (xs : List Int) (hs : List gH) (c : Int) : Prop := match xs with
  | [o, i, w] => (match hs with
    | [h', h] => hUpd h' h o i w
    | _ => False)
  | _ => False
def fXa_90 (xs : List Int) (c : Int) : Prop := match xs with
  | [k] => c ≤ k
  | _ => False
def fXa_91 (xs : List Int) (c : Int) : Prop := match xs with
  | [k] => k ≤ c
  | _ => False
def fXa (op : Nat) (xs : List Int) (hs : List gH) (c : Int) : Prop := bif Nat.ble op 31 then (bif Nat.ble op 11 then (bif Nat.ble op 5 then (bif Nat.ble op 2 then (bif Nat.ble op 0 then (bif Nat.beq op 0 then fXa_0 xs c else False) else (bif Nat.ble op 1 then (bif Nat.beq op 1 then fXa_1 xs c else False) else (bif Nat.beq op 2 then fXa_2 xs c else False))) else (bif Nat.ble op 3 then (bif Nat.beq op 3 then fXa_3 xs c else False) else (bif Nat.ble op 4 then (bif Nat.beq op 4 then fXa_4 xs c else False) else (bif Nat.beq op 5 then fXa_5 xs c else False)))) else (bif Nat.ble op 8 then (bif Nat.ble op 6 then (bif Nat.beq op 6 then fXa_6 xs c else False) else (bif Nat.ble op 7 then (bif Nat.beq op 7 then fXa_7 xs c else False) else (bif Nat.beq op 8 then fXa_8 xs c else False))) else (bif Nat.ble op 9 then (bif Nat.beq op 9 then fXa_9 xs c else False) else (bif Nat.ble op 10 then (bif Nat.beq op 10 then fXa_10 xs c else False) else (bif Nat.beq op 11 then fXa_11 xs c else False))))) else (bif Nat.ble op 17 then (bif Nat.ble op 14 then (bif Nat.ble op 12 then (bif Nat.beq op 12 then fXa_12 xs c else False) else (bif Nat.ble op 13 then (bif Nat.beq op 13 then fXa_13 xs c else False) else (bif Nat.beq op 14 then fXa_14 xs c else False))) else (bif Nat.ble op 15 then (bif Nat.beq op 15 then fXa_15 xs c else False) else (bif Nat.ble op 16 then (bif Nat.beq op 16 then fXa_16 xs c else False) else (bif Nat.beq op 17 then fXa_17 xs c else False)))) else (bif Nat.ble op 21 then (bif Nat.ble op 18 then (bif Nat.beq op 18 then fXa_18 xs c else False) else (bif Nat.ble op 20 then (bif Nat.beq op 20 then fXa_20 xs hs c else False) else (bif Nat.beq op 21 then fXa_21 xs hs c else False))) else (bif Nat.ble op 23 then (bif Nat.ble op 22 then (bif Nat.beq op 22 then fXa_22 xs hs c else False) else (bif Nat.beq op 23 then fXa_23 xs hs c else False)) else (bif Nat.ble op 30 then (bif Nat.beq op 30 then fXa_30 xs c else False) else (bif Nat.beq op 31 then fXa_31 xs c else False)))))) else (bif Nat.ble op 61 then (bif Nat.ble op 41 then (bif Nat.ble op 34 then (bif Nat.ble op 32 then (bif Nat.beq op 32 then fXa_32 xs c else False) else (bif Nat.ble op 33 then (bif Nat.beq op 33 then fXa_33 xs c else False) else (bif Nat.beq op 34 then fXa_34 xs c else False))) else (bif Nat.ble op 35 then (bif Nat.beq op 35 then fXa_35 xs c else False) else (bif Nat.ble op 40 then (bif Nat.beq op 40 then fXa_40 xs c else False) else (bif Nat.beq op 41 then fXa_41 xs c else False)))) else (bif Nat.ble op 44 then (bif Nat.ble op 42 then (bif Nat.beq op 42 then fXa_42 xs c else False) else (bif Nat.ble op 43 then (bif Nat.beq op 43 then fXa_43 xs c else False) else (bif Nat.beq op 44 then fXa_44 xs c else False))) else (bif Nat.ble op 50 then (bif Nat.ble op 45 then (bif Nat.beq op 45 then fXa_45 xs c else False) else (bif Nat.beq op 50 then fXa_50 xs c else False)) else (bif Nat.ble op 51 then (bif Nat.beq op 51 then fXa_51 xs c else False) else (bif Nat.beq op 61 then fXa_61 xs c else False))))) else (bif Nat.ble op 67 then (bif Nat.ble op 64 then (bif Nat.ble op 62 then (bif Nat.beq op 62 then fXa_62 xs c else False) else (bif Nat.ble op 63 then (bif Nat.beq op 63 then fXa_63 xs c else False) else (bif Nat.beq op 64 then fXa_64 xs c else False))) else (bif Nat.ble op 65 then (bif Nat.beq op 65 then fXa_65 xs c else False) else (bif Nat.ble op 66 then (bif Nat.beq op 66 then fXa_66 xs c else False) else (bif Nat.beq op 67 then fXa_67 xs c else False)))) else (bif Nat.ble op 71 then (bif Nat.ble op 68 then (bif Nat.beq op 68 then fXa_68 xs c else False) else (bif Nat.ble op 70 then (bif Nat.beq op 70 then fXa_70 xs c else False) else (bif Nat.beq op 71 then fXa_71 xs hs c else False))) else (bif Nat.ble op 80 then (bif Nat.ble op 72 then (bif Nat.beq op 72 then fXa_72 xs c else False) else (bif Nat.beq op 80 then fXa_80 xs hs c else False)) else (bif Nat.ble op 90 then (bif Nat.beq op 90 then fXa_90 xs c else False) else (bif Nat.beq op 91 then fXa_91 xs c else False))))))
def fX (T : Nat → Nat → vT) (P : vP) (op : Nat) (xs : List Int) (hs : List gH) (c : Int) : Prop := bif Nat.ble 1000 op then fX2 T P op xs hs c else fXa op xs hs c
def fD (T : Nat → Nat → vT) (P : vP) (ρ : Nat → Int) (η : Nat → gH) (f : vF) : Prop := fX T P f.1 (f.2.1.map ρ) (f.2.2.1.map η) f.2.2.2
/-- a condition: for all names and heaps, the facts give the goal -/
def vOk (T : Nat → Nat → vT) (P : vP) (g : vG) : Prop := ∀ (ρ : Nat → Int) (η : Nat → gH), (∀ f ∈ g.1, fD T P ρ η f) → fD T P ρ η g.2
theorem fD_congr {T : Nat → Nat → vT} {P : vP} {ρ ρ' : Nat → Int} {η η' : Nat → gH} {f : vF} (h1 : ∀ k ∈ f.2.1, ρ k = ρ' k) (h2 : ∀ k ∈ f.2.2.1, η k = η' k) : fD T P ρ η f ↔ fD T P ρ' η' f := by
  unfold fD
  rw [List.map_congr_left h1, List.map_congr_left h2]
