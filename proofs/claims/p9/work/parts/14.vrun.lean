/-! FOR THE KERNEL, on. (As p1's part 12.) -/
noncomputable def fInt {α : Type} (i : Int) (k : Int → α) : α := Int.rec (motive := fun _ => α) (fun n => fNat n (fun n => k (Int.ofNat n))) (fun n => fNat n (fun n => k (Int.negSucc n))) i
noncomputable def fV {α : Type} (v : Nat × Int × Int) (k : Nat × Int × Int → α) : α := fNat v.1 (fun t => fInt v.2.1 (fun a => fInt v.2.2 (fun b => k (t, a, b))))
noncomputable def fSet {α : Type} (l : List α) (c : α) : Nat → List α := List.rec (motive := fun _ => Nat → List α) (fun _ => []) (fun a t ih i => Nat.rec (motive := fun _ => List α) (c :: t) (fun k _ => a :: ih k) i) l
noncomputable def fSnoc {α : Type} (l : List α) (c : α) : List α := List.rec (motive := fun _ => List α) [c] (fun a _ ih => a :: ih) l
noncomputable def fLen {α : Type} (l : List α) : Nat := List.rec (motive := fun _ => Nat) 0 (fun _ _ n => Nat.succ n) l
noncomputable def fFilt {α β : Type} (f : α → Bool) (l : List α) : (List α → β) → β := List.rec (motive := fun _ => (List α → β) → β) (fun k => k []) (fun a _ ih k => bif f a then ih (fun t => k (a :: t)) else ih k) l
noncomputable def fFind (pc : Nat) (l : List gE) : Option gE := List.rec (motive := fun _ => Option gE) none (fun e _ ih => bif Nat.beq e.1 pc then some e else ih) l
noncomputable def sAtt (j pc : Nat) : Option gE := match fNth gPgs (Nat.div j 16) with
  | some A => (match fNth A (Nat.mod j 16) with
    | some B => (match fNth B (Nat.div pc 32) with
      | some l => fFind pc l
      | none => none)
    | none => none)
  | none => none
theorem fInt_eq {α : Type} (i : Int) (k : Int → α) : fInt i k = k i := by
  cases i with
  | ofNat n => exact fNat_eq n (fun n => k (Int.ofNat n))
  | negSucc n => exact fNat_eq n (fun n => k (Int.negSucc n))
theorem fV_eq {α : Type} (v : Nat × Int × Int) (k : Nat × Int × Int → α) : fV v k = k v := by
  unfold fV
  rw [fNat_eq, fInt_eq, fInt_eq]
theorem fSet_eq {α : Type} (l : List α) (c : α) (i : Nat) : fSet l c i = l.set i c := by
  induction l generalizing i with
  | nil => rfl
  | cons a t ih => cases i with
    | zero => rfl
    | succ i => exact congrArg (a :: ·) (ih i)
theorem fSnoc_eq {α : Type} (l : List α) (c : α) : fSnoc l c = l ++ [c] := by
  induction l with
  | nil => rfl
  | cons a t ih => exact congrArg (a :: ·) ih
theorem fLen_eq {α : Type} (l : List α) : fLen l = l.length := by
  induction l with
  | nil => rfl
  | cons a t ih => exact congrArg Nat.succ ih
theorem fFilt_eq {α β : Type} (f : α → Bool) (l : List α) (k : List α → β) : fFilt f l k = k (l.filter f) := by
  induction l generalizing k with
  | nil => rfl
  | cons a t ih =>
    rw [List.filter_cons]
    show (bif f a then fFilt f t (fun t => k (a :: t)) else fFilt f t k) = _
    cases f a with
    | true => exact ih _
    | false => exact ih _
theorem fFind_eq (pc : Nat) (l : List gE) : fFind pc l = l.find? (fun e => Nat.beq e.1 pc) := by
  induction l with
  | nil => rfl
  | cons a t ih =>
    rw [List.find?_cons]
    show (bif Nat.beq a.1 pc then some a else fFind pc t) = _
    cases Nat.beq a.1 pc with
    | true => rfl
    | false => exact ih
theorem sAtt_eq (j pc : Nat) : sAtt j pc = gAtt j pc := by
  unfold sAtt gAtt gProg
  rw [fNth_eq, List.getD_eq_getElem?_getD (l := gPgs)]
  show (match gPgs[j / 16]? with
    | some A => _
    | none => none) = _
  cases gPgs[j / 16]? with
  | none => rfl
  | some A =>
    dsimp only [Option.getD_some]
    rw [fNth_eq, List.getD_eq_getElem?_getD (l := A)]
    show (match A[j % 16]? with
      | some B => _
      | none => none) = _
    cases A[j % 16]? with
    | none => rfl
    | some B =>
      dsimp only [Option.getD_some]
      rw [fNth_eq, List.getD_eq_getElem?_getD]
      show (match B[pc / 32]? with
        | some l => _
        | none => none) = _
      cases B[pc / 32]? with
      | none => rfl
      | some l => exact fFind_eq pc l

/-! THE GENERATOR OF CONDITIONS: a run over names. A fact or goal: op, names, heaps, a constant; its meaning stands in part 15. -/
abbrev vF : Type := Nat × List Nat × List Nat × Int
abbrev vG : Type := List vF × vF
/-- tag (0 int, 1 long, 2 ref or null, 3 ref, 4 null, 5 ref to a cell that is being made), name, kind, length + 1 of a row, place + 1 of a cell that stays (0: not known) -/
abbrev vV : Type := Nat × Nat × Nat × Nat
abbrev vL : Type := List (Nat × vV)
/-- the next name, the heap now, the facts -/
abbrev vS : Type := Nat × Nat × List vF
/-- of a method: what it takes, what it gives (tag 9: nothing), 1 if it has a premise to be shown, 1 if it makes cells, what it writes -/
abbrev vM : Type := List vT × vT × Nat × Nat × List (Nat × Nat)
abbrev vR : Type := Option (List vG)
def vApp (x y : vR) : vR := match x with
  | some l => (match y with
    | some m => some (l ++ m)
    | none => none)
  | none => none
def vIsI (v : vV) : Bool := Nat.beq v.1 0
def vIsL (v : vV) : Bool := Nat.beq v.1 1
def vIsA (v : vV) : Bool := Nat.ble 2 v.1
def vCat (v : vV) : Nat := bif Nat.beq v.1 1 then 2 else 1
def vFull (t : vT) : Bool := decide (t.2.1 ≤ -2147483648) && decide (2147483647 ≤ t.2.2.1)
/-- may v stand where the type t is asked (an int's bounds aside) -/
def vFits (t : vT) (v : vV) : Bool := match t.1 with
  | 0 => Nat.beq v.1 0
  | 1 => Nat.beq v.1 1
  | 2 => (Nat.beq v.1 4 && Nat.beq t.2.2.2 0) || (((Nat.beq v.1 2 && Nat.beq t.2.2.2 0) || Nat.beq v.1 3) && (Nat.beq v.2.2.1 t.2.1.toNat && (decide (t.2.2.1 < 0) || Nat.beq v.2.2.2 (t.2.2.1.toNat + 1))))
  | 3 => Nat.beq v.1 3 && (Nat.beq v.2.2.1 t.2.1.toNat && (decide (t.2.2.1 < 0) || Nat.beq v.2.2.2 (t.2.2.1.toNat + 1)))
  | _ => false
/-- what comes out of a slot of type t (name k) -/
def vOut (t : vT) (k : Nat) : vV := match t.1 with
  | 0 => (0, k, 0, 0)
  | 1 => (1, k, 0, 0)
  | 3 => (3, k, t.2.1.toNat, (t.2.2.1 + 1).toNat)
  | _ => (bif Nat.beq t.2.2.2 0 then 2 else 3, k, t.2.1.toNat, (t.2.2.1 + 1).toNat)
def vRng (t : vT) (k : Nat) : List vF := bif Nat.beq t.1 0 then [(90, [k], [], t.2.1), (91, [k], [], t.2.2.1)] else bif Nat.beq t.1 2 && Nat.ble 2 t.2.2.2 then [(0, [k], [], ((t.2.2.2 - 2 : Nat) : Int))] else bif Nat.beq t.1 3 && (decide (t.2.1 < 100) && decide (0 ≤ t.2.2.1)) then [(0, [k], [], t.2.2.1)] else bif Nat.beq t.1 3 || (Nat.beq t.1 2 && Nat.beq t.2.2.2 1) then [(51, [k], [], 0)] else []
def vEqF (f g : vF) : Bool := Nat.beq f.1 g.1 && (decide (f.2.1 = g.2.1) && (decide (f.2.2.1 = g.2.2.1) && decide (f.2.2.2 = g.2.2.2)))
/-- bounds of a row that stand among the facts: 0 ≤ i (33), and i < k (42) with k the row's length (21), or i's bounds with a known length -/
noncomputable def vBnd (fs : List vF) (i r n : Nat) : Bool := (fAny (fun f => vEqF f (33, [i], [], 0)) fs && fAny (fun f => match f with
    | (42, [j, k], [], _) => Nat.beq j i && fAny (fun g => match g with
      | (21, [k', r'], [_], _) => Nat.beq k' k && Nat.beq r' r
      | _ => false) fs
    | _ => false) fs) || (Nat.ble 1 n && fAny (fun f => match f with
    | (0, [j], [], c) => Nat.beq j i && (decide (0 ≤ c) && decide (c + 1 < (n : Int)))
    | _ => false) fs)
noncomputable def sLkV (k : Nat) (l : vL) : Option vV := List.rec (motive := fun _ => Option vV) none (fun q _ ih => bif Nat.beq q.1 k then some q.2 else ih) l
section VINS
variable (T : Nat → Nat → vT) (W : List (Nat × Nat)) (Z : Bool) (Sg : Nat → Option vM) (K : vS → Nat → vL → List vV → vR) (S : vS) (pc a b : Nat) (v : Int) (lv : vL) (st : List vV)
/-- on with a new name and what is known of it -/
noncomputable def vNew (mk : Nat → List vF) (k : Nat → vS → vR) : vR := fNat S.1 (fun n => k n (n + 1, S.2.1, mk n ++ S.2.2))
def vGoal (g : vF) (r : vR) : vR := match r with
  | some l => some ((S.2.2, g) :: l)
  | none => none
/-- place i of the stack is not null: a goal -/
noncomputable def vNN (i : Nat) (k : List vV → vR) : vR := match fNth st i with
  | some w => bif Nat.beq w.1 2 then vGoal S (51, [w.2.1], [], 0) (k (fSet st (3, w.2) i)) else k st
  | none => none
/-- arguments that must not be null: goals -/
noncomputable def vProm (ts : List vT) : List vV → (List vV → vR) → vR := List.rec (motive := fun _ => List vV → (List vV → vR) → vR) (fun as k => k as) (fun t _ ih as k => match as with
  | [] => k []
  | w :: as => bif Nat.beq t.1 3 && Nat.beq w.1 2 then vGoal S (51, [w.2.1], [], 0) (ih as (fun as => k ((3, w.2) :: as))) else ih as (fun as => k (w :: as))) ts
noncomputable def vI_load (ok : vV → Bool) (i n : Nat) : vR := match sLkV i lv with
  | some w => bif ok w then K S (pc + n) lv (w :: st) else none
  | none => none
noncomputable def vI_store (ok : vV → Bool) (i n : Nat) : vR := match st with
  | w :: r => bif ok w then fFilt (fun q => !(q.1 == i) && !(q.1 + 1 == i && vCat q.2 == 2)) lv (fun l => K S (pc + n) ((i, w) :: l) r) else none
  | _ => none
noncomputable def vI_lstore (i n : Nat) : vR := match st with
  | w :: r => bif vIsL w then fFilt (fun q => !(q.1 == i) && (!(q.1 == i + 1) && !(q.1 + 1 == i && vCat q.2 == 2))) lv (fun l => K S (pc + n) ((i, w) :: l) r) else none
  | _ => none
noncomputable def vI_iinc (i : Nat) (n : Int) : vR := match sLkV i lv with
  | some w => bif vIsI w then vNew S (fun k => [(10, [k, w.2.1], [], n)]) (fun k S => fFilt (fun q => !(q.1 == i) && !(q.1 + 1 == i && vCat q.2 == 2)) lv (fun l => K S (pc + 3) ((i, (0, k, 0, 0)) :: l) st)) else none
  | none => none
noncomputable def vI_int (x : Int32) (n : Nat) : vR := fInt x.toInt (fun x => vNew S (fun k => [(0, [k], [], x)]) (fun k S => K S (pc + n) lv ((0, k, 0, 0) :: st)))
noncomputable def vI_long (x : Int64) (n : Nat) : vR := fInt x.toInt (fun x => vNew S (fun k => [(0, [k], [], x)]) (fun k S => K S (pc + n) lv ((1, k, 0, 0) :: st)))
noncomputable def vI_bin (op : Nat) : vR := match st with
  | y :: x :: r => bif vIsI y && vIsI x then vNew S (fun k => [(op, [k, x.2.1, y.2.1], [], 0)]) (fun k S => K S (pc + 1) lv ((0, k, 0, 0) :: r)) else none
  | _ => none
noncomputable def vI_div (op : Nat) : vR := match st with
  | y :: x :: r => bif vIsI y && vIsI x then vGoal S (72, [y.2.1], [], 0) (vNew S (fun k => [(op, [k, x.2.1, y.2.1], [], 0)]) (fun k S => K S (pc + 1) lv ((0, k, 0, 0) :: r))) else none
  | _ => none
noncomputable def vI_un (op : Nat) : vR := match st with
  | x :: r => bif vIsI x then vNew S (fun k => [(op, [k, x.2.1], [], 0)]) (fun k S => K S (pc + 1) lv ((0, k, 0, 0) :: r)) else none
  | _ => none
noncomputable def vI_lbin (op : Nat) : vR := match st with
  | y :: x :: r => bif vIsL y && vIsL x then vNew S (fun k => [(op, [k, x.2.1, y.2.1], [], 0)]) (fun k S => K S (pc + 1) lv ((1, k, 0, 0) :: r)) else none
  | _ => none
noncomputable def vI_ldiv : vR := match st with
  | y :: x :: r => bif vIsL y && vIsL x then vGoal S (72, [y.2.1], [], 0) (vNew S (fun k => [(64, [k, x.2.1, y.2.1], [], 0)]) (fun k S => K S (pc + 1) lv ((1, k, 0, 0) :: r))) else none
  | _ => none
noncomputable def vI_conv (ok : vV → Bool) (op tg : Nat) : vR := match st with
  | x :: r => bif ok x then vNew S (fun k => [(op, [k, x.2.1], [], 0)]) (fun k S => K S (pc + 1) lv ((tg, k, 0, 0) :: r)) else none
  | _ => none
noncomputable def vI_lcmp : vR := match st with
  | y :: x :: r => bif vIsL y && vIsL x then vNew S (fun k => [(65, [k, x.2.1, y.2.1], [], 0)]) (fun k S => K S (pc + 1) lv ((0, k, 0, 0) :: r)) else none
  | _ => none
noncomputable def vI_dup : vR := match st with
  | w :: r => bif Nat.beq (vCat w) 1 then K S (pc + 1) lv (w :: w :: r) else none
  | _ => none
noncomputable def vI_dup2 : vR := match st with
  | w :: r => bif Nat.beq (vCat w) 2 then K S (pc + 1) lv (w :: w :: r) else (match r with
    | w2 :: r2 => bif Nat.beq (vCat w2) 1 then K S (pc + 1) lv (w :: w2 :: w :: w2 :: r2) else none
    | _ => none)
  | _ => none
noncomputable def vI_pop : vR := match st with
  | w :: r => bif Nat.beq (vCat w) 1 then K S (pc + 1) lv r else none
  | _ => none
def vCn (c : Jvm.ClassFile.Cond) : Nat := match c with
  | .eq => 30
  | .ne => 31
  | .lt => 32
  | .ge => 33
  | .gt => 34
  | .le => 35
def vNg (c : Jvm.ClassFile.Cond) : Nat := match c with
  | .eq => 31
  | .ne => 30
  | .lt => 33
  | .ge => 32
  | .gt => 35
  | .le => 34
def vAdd (f : vF) : vS := (S.1, S.2.1, f :: S.2.2)
noncomputable def vI_if (c : Jvm.ClassFile.Cond) : vR := match st with
  | x :: r => bif vIsI x then vApp (K (vAdd S (vCn c, [x.2.1], [], 0)) a lv r) (K (vAdd S (vNg c, [x.2.1], [], 0)) (pc + 3) lv r) else none
  | _ => none
noncomputable def vI_icmp (c : Jvm.ClassFile.Cond) : vR := match st with
  | y :: x :: r => bif vIsI y && vIsI x then vApp (K (vAdd S (vCn c + 10, [x.2.1, y.2.1], [], 0)) a lv r) (K (vAdd S (vNg c + 10, [x.2.1, y.2.1], [], 0)) (pc + 3) lv r) else none
  | _ => none
/-- the refs of this name are not null -/
def vHere (k : Nat) (w : vV) : vV := bif Nat.beq w.1 2 && Nat.beq w.2.1 k then (3, w.2.1, w.2.2.1, w.2.2.2) else w
noncomputable def vI_null (t0 t1 : Nat) : vR := match st with
  | x :: r => (match x.1 with
    | 2 => vApp (K (vAdd S (50, [x.2.1], [], 0)) t0 lv r) (K (vAdd S (51, [x.2.1], [], 0)) t1 (lv.map fun q => (q.1, vHere x.2.1 q.2)) (r.map (vHere x.2.1)))
    | 3 => K S t1 lv r
    | 4 => K S t0 lv r
    | 5 => K S t1 lv r
    | _ => none)
  | _ => none
noncomputable def vGo (off : Int) (k : Nat → vR) : vR := bif decide (0 ≤ (pc : Int) + off) then fNat ((pc : Int) + off).toNat k else none
noncomputable def vTabR (lo : Int) (offs : Array Int) (x : Nat) (r : List vV) : Nat → Int → vR := Nat.rec (motive := fun _ => Int → vR) (fun _ => some []) (fun _ ih n => vApp (match offs[(n - lo).toNat]? with
  | some off => vGo pc off (fun t => K (vAdd S (0, [x], [], n)) t lv r)
  | none => none) (fInt (n + 1) ih))
noncomputable def vI_table (dflt lo hi : Int) (offs : Array Int) : vR := match st with
  | x :: r => bif vIsI x then vApp (vGo pc dflt (fun t => K (vAdd S (66, [x.2.1], [], lo)) t lv r)) (vApp (vGo pc dflt (fun t => K (vAdd S (67, [x.2.1], [], hi)) t lv r)) (vTabR K S pc lv lo offs x.2.1 r (hi - lo + 1).toNat lo)) else none
  | _ => none
noncomputable def vLkR (dflt : Int) (x : Nat) (r : List vV) : List (Int × Int) → vS → vR := fun ps => List.rec (motive := fun _ => vS → vR) (fun S => vGo pc dflt (fun t => K S t lv r)) (fun q _ ih S => vApp (vGo pc q.2 (fun t => K (vAdd S (0, [x], [], q.1)) t lv r)) (ih (vAdd S (68, [x], [], q.1)))) ps
noncomputable def vI_lookup (dflt : Int) (ps : Array (Int × Int)) : vR := match st with
  | x :: r => bif vIsI x then vLkR K pc lv dflt x.2.1 r ps.toList S else none
  | _ => none
noncomputable def vI_get : vR := match st with
  | x :: r => bif Nat.beq x.1 3 && (Nat.beq x.2.2.1 a && (Nat.blt a 100 && Nat.blt b (gN a))) then vNew S (fun k => (20, [k, x.2.1], [S.2.1], (b : Int)) :: (23, [x.2.1], [S.2.1], (a : Int)) :: vRng (T a b) k) (fun k S => K S (pc + 3) lv (vOut (T a b) k :: r)) else none
  | _ => none
/-- on with a new heap: o's slot i is w -/
noncomputable def vSet (o i w : Nat) (tg : Nat) (k : vS → vR) : vR := fNat (S.2.1 + 1) (fun h => k (S.1, h, (80, [o, i, w], [h, S.2.1], (tg : Int)) :: S.2.2))
def vBounds (t : vT) (w : Nat) (r : vR) : vR := bif Nat.beq t.1 0 && !vFull t then vGoal S (90, [w], [], t.2.1) (vGoal S (91, [w], [], t.2.2.1) r) else r
noncomputable def vI_put : vR := match st with
  | w :: x :: r => bif Nat.beq x.1 3 && (Nat.beq x.2.2.1 a && (Nat.blt a 100 && (Nat.blt b (gN a) && (Nat.beq (T a b).2.2.2 0 && (vFits (T a b) w && vLoc W a b))))) then vBounds S (T a b) w.2.1 (vNew S (fun k => [(0, [k], [], (b : Int)), (23, [x.2.1], [S.2.1], (a : Int))]) (fun k S => vSet S x.2.1 k w.2.1 (bif Nat.beq w.1 0 then 0 else bif Nat.beq w.1 1 then 1 else 2) (fun S => K S (pc + 3) lv r))) else none
  | _ => none
noncomputable def vRow (x i : vV) (r : vR) : vR := bif vBnd S.2.2 i.2.1 x.2.1 x.2.2.2 then r else bif Nat.ble 1 x.2.2.2 then vGoal S (70, [i.2.1], [], ((x.2.2.2 - 1 : Nat) : Int)) r else vGoal S (71, [i.2.1, x.2.1], [S.2.1], 0) r
noncomputable def vI_len : vR := match st with
  | x :: r => bif Nat.beq x.1 3 && Nat.ble 100 x.2.2.1 then (bif Nat.ble 1 x.2.2.2 then vNew S (fun k => [(0, [k], [], ((x.2.2.2 - 1 : Nat) : Int)), (21, [k, x.2.1], [S.2.1], 0)]) (fun k S => K S (pc + 1) lv ((0, k, 0, 0) :: r)) else vNew S (fun k => [(21, [k, x.2.1], [S.2.1], 0)]) (fun k S => K S (pc + 1) lv ((0, k, 0, 0) :: r))) else none
  | _ => none
noncomputable def vI_ald (t : Nat → Bool) : vR := match st with
  | i :: x :: r => bif Nat.beq x.1 3 && (vIsI i && (Nat.ble 100 x.2.2.1 && t (Nat.mod (x.2.2.1 - 100) 8))) then vRow S x i (vNew S (fun k => (22, [k, x.2.1, i.2.1], [S.2.1], 0) :: vRng (T x.2.2.1 0) k) (fun k S => K S (pc + 1) lv (vOut (T x.2.2.1 0) k :: r))) else none
  | _ => none
noncomputable def vI_iast : vR := match st with
  | w :: i :: x :: r => bif Nat.beq x.1 3 && (vIsI i && (vIsI w && (Nat.ble 100 x.2.2.1 && (Nat.beq (Nat.mod (x.2.2.1 - 100) 8) 0 && (!(Nat.beq x.2.2.1 108) && (vFits (T x.2.2.1 0) w && (Nat.beq (T x.2.2.1 0).2.2.2 0 && vLoc W x.2.2.1 0))))))) then vRow S x i (vBounds S (T x.2.2.1 0) w.2.1 (vSet (vAdd S (23, [x.2.1], [S.2.1], (x.2.2.1 : Int))) x.2.1 i.2.1 w.2.1 0 (fun S => K S (pc + 1) lv r))) else none
  | _ => none
noncomputable def vI_bast : vR := match st with
  | w :: i :: x :: r => bif Nat.beq x.1 3 && (vIsI i && (vIsI w && (Nat.ble 100 x.2.2.1 && ((Nat.beq (Nat.mod (x.2.2.1 - 100) 8) 2 || Nat.beq (Nat.mod (x.2.2.1 - 100) 8) 3) && vLoc W x.2.2.1 0)))) then vRow S x i (vNew S (fun k => [(bif Nat.beq (Nat.mod (x.2.2.1 - 100) 8) 2 then 15 else 16, [k, w.2.1], [], 0)]) (fun k S => vSet (vAdd S (23, [x.2.1], [S.2.1], (x.2.2.1 : Int))) x.2.1 i.2.1 k 0 (fun S => K S (pc + 1) lv r))) else none
  | _ => none
noncomputable def vI_last : vR := match st with
  | w :: i :: x :: r => bif Nat.beq x.1 3 && (vIsI i && (vIsL w && (Nat.ble 100 x.2.2.1 && (Nat.beq (Nat.mod (x.2.2.1 - 100) 8) 1 && (vFits (T x.2.2.1 0) w && (Nat.beq (T x.2.2.1 0).2.2.2 0 && vLoc W x.2.2.1 0)))))) then vRow S x i (vSet (vAdd S (23, [x.2.1], [S.2.1], (x.2.2.1 : Int))) x.2.1 i.2.1 w.2.1 1 (fun S => K S (pc + 1) lv r)) else none
  | _ => none
noncomputable def vI_aast : vR := match st with
  | w :: i :: x :: r => bif Nat.beq x.1 3 && (vIsI i && (Nat.beq w.1 3 && (Nat.ble 100 x.2.2.1 && (Nat.ble 4 (Nat.mod (x.2.2.1 - 100) 8) && (Nat.beq (gEl (Nat.mod (x.2.2.1 - 100) 8)) w.2.2.1 && (Nat.blt w.2.2.1 100 && (vFits (T x.2.2.1 0) w && (Nat.beq (T x.2.2.1 0).2.2.2 0 && vLoc W x.2.2.1 0)))))))) then vRow S x i (vSet (vAdd S (23, [x.2.1], [S.2.1], (x.2.2.1 : Int))) x.2.1 i.2.1 w.2.1 2 (fun S => K S (pc + 1) lv r)) else none
  | _ => none
noncomputable def vCats (r : List vV) : Bool := Nat.ble (r.map vCat).sum 8
def vAll (ts : List vT) (as : List vV) : Bool := match ts, as with
  | [], [] => true
  | t :: ts, a :: as => vFits t a && (Nat.beq t.2.2.2 0 && vAll ts as)
  | _, _ => false
/-- the bounds of a call's ints -/
noncomputable def vBndAll : List vT → List vV → vR → vR := fun ts => List.rec (motive := fun _ => List vV → vR → vR) (fun _ q => q) (fun t _ ih as q => match as with
  | a :: as => vBounds S t a.2.1 (ih as q)
  | [] => q) ts
/-- a call of method j with these arguments -/
noncomputable def vCal (j n : Nat) (as0 r : List vV) : vR := match Sg j with
  | some m => vProm S m.1 as0 (fun as => bif vAll m.1 as && (Nat.ble (as.map vCat).sum (gMax j) && (vCats r && ((m.2.2.2.2.all fun q => vLoc W q.1 q.2) && (!Z || Nat.beq m.2.2.2.1 0)))) then
      vBndAll S m.1 as ((fun q : vR => bif Nat.beq m.2.2.1 1 then vGoal S (2000 + j, as.map (fun w => w.2.1), [S.2.1], 0) q else q)
      (fNat (S.2.1 + 1) (fun h => bif Nat.beq m.2.1.1 9 then K (S.1, h, (1000 + j, as.map (fun w => w.2.1), [S.2.1, h], (m.2.2.2.1 : Int)) :: S.2.2) (pc + n) lv r else fNat S.1 (fun k => K (k + 1, h, (1000 + j, k :: as.map (fun w => w.2.1), [S.2.1, h], (m.2.2.2.1 : Int)) :: (vRng m.2.1 k ++ S.2.2)) (pc + n) lv (vOut m.2.1 k :: r))))) else none)
  | none => none
noncomputable def vI_virt : vR := match st.drop b with
  | x :: r => bif Nat.beq x.1 3 && (Nat.beq x.2.2.1 (Int.toNat v) && Nat.blt x.2.2.1 100) then vCal W Z Sg K S pc lv a 3 (x :: (st.take b).reverse) r else none
  | _ => none
noncomputable def vI_stat : vR := bif Nat.ble b st.length then vCal W Z Sg K S pc lv a 3 (st.take b).reverse (st.drop b) else none
noncomputable def vI_spec : vR := bif Nat.beq a 9999 then none else (match st.drop b with
  | x :: r => bif Nat.beq x.1 3 then vCal W Z Sg K S pc lv a 3 (x :: (st.take b).reverse) r else none
  | _ => none)
/-- the return: the method's own post is the goal (op 3000; the return's place among the constants) -/
noncomputable def vI_ret (tg : Nat) (rt : vT) : vR := bif (Nat.beq rt.1 tg || (Nat.beq tg 2 && Nat.beq rt.1 3)) && Nat.beq rt.2.2.2 0 then (match st with
  | [] => bif Nat.beq tg 9 then some [(S.2.2, (3000, [], [S.2.1], (pc : Int)))] else none
  | [w] => bif vFits rt w && !(Nat.beq tg 9) then vBounds S rt w.2.1 (some [(S.2.2, (3000, [w.2.1], [S.2.1], (pc : Int)))]) else none
  | _ => none) else none
end VINS
noncomputable def vIns (T : Nat → Nat → vT) (W : List (Nat × Nat)) (Z : Bool) (Sg : Nat → Option vM) : Instr → (vS → Nat → vL → List vV → vR) → vT → vS → Nat → Nat → Nat → Int → vL → List vV → vR := @Instr.rec (fun _ => (vS → Nat → vL → List vV → vR) → vT → vS → Nat → Nat → Nat → Int → vL → List vV → vR)
  (fun K rt S pc a b v lv st => vNN S st 1 (fun st => vI_ald T K S pc lv st (fun t => Nat.ble 4 t)))
  (fun K rt S pc a b v lv st => vNN S st 2 (fun st => vI_aast T W K S pc lv st))
  (fun K rt S pc a b v lv st => vNew S (fun k => [(50, [k], [], 0)]) (fun k S => K S (pc + 1) lv ((4, k, 0, 0) :: st)))
  (fun i K rt S pc a b v lv st => vI_load K S pc lv st vIsA i 2)
  (fun i K rt S pc a b v lv st => vI_load K S pc lv st vIsA i 1)
  (fun _ K rt S pc a b v lv st => none)
  (fun K rt S pc a b v lv st => vI_ret S pc st 2 rt)
  (fun K rt S pc a b v lv st => vNN S st 0 (fun st => vI_len K S pc lv st))
  (fun i K rt S pc a b v lv st => vI_store K S pc lv st vIsA i 2)
  (fun i K rt S pc a b v lv st => vI_store K S pc lv st vIsA i 1)
  (fun _ _ _ _ _ _ _ _ _ => none)
  (fun K rt S pc a b v lv st => vNN S st 1 (fun st => vI_ald T K S pc lv st (fun t => Nat.beq t 2 || Nat.beq t 3)))
  (fun K rt S pc a b v lv st => vNN S st 2 (fun st => vI_bast W K S pc lv st))
  (fun n K rt S pc a b v lv st => vI_int K S pc lv st (Int8.ofInt n).toInt32 2)
  (fun _ _ _ _ _ _ _ _ _ => none)
  (fun _ _ _ _ _ _ _ _ _ => none)
  (fun _ _ _ _ _ _ _ _ _ _ => none)
  (fun _ _ _ _ _ _ _ _ _ => none)
  (fun _ _ _ _ _ _ _ _ _ => none)
  (fun _ _ _ _ _ _ _ _ _ => none)
  (fun _ _ _ _ _ _ _ _ _ => none)
  (fun _ _ _ _ _ _ _ _ _ => none)
  (fun _ _ _ _ _ _ _ _ _ => none)
  (fun _ _ _ _ _ _ _ _ _ _ => none)
  (fun _ _ _ _ _ _ _ _ _ _ => none)
  (fun _ _ _ _ _ _ _ _ _ => none)
  (fun _ _ _ _ _ _ _ _ _ _ => none)
  (fun _ _ _ _ _ _ _ _ _ _ => none)
  (fun _ _ _ _ _ _ _ _ _ => none)
  (fun _ _ _ _ _ _ _ _ _ => none)
  (fun _ _ _ _ _ _ _ _ _ => none)
  (fun _ _ _ _ _ _ _ _ _ => none)
  (fun _ _ _ _ _ _ _ _ _ _ => none)
  (fun _ _ _ _ _ _ _ _ _ _ => none)
  (fun _ _ _ _ _ _ _ _ _ => none)
  (fun K rt S pc a b v lv st => vI_dup K S pc lv st)
  (fun _ _ _ _ _ _ _ _ _ => none)
  (fun _ _ _ _ _ _ _ _ _ => none)
  (fun K rt S pc a b v lv st => vI_dup2 K S pc lv st)
  (fun _ _ _ _ _ _ _ _ _ => none)
  (fun _ _ _ _ _ _ _ _ _ => none)
  (fun _ _ _ _ _ _ _ _ _ => none)
  (fun _ _ _ _ _ _ _ _ _ => none)
  (fun _ _ _ _ _ _ _ _ _ => none)
  (fun _ _ _ _ _ _ _ _ _ => none)
  (fun _ _ _ _ _ _ _ _ _ => none)
  (fun _ _ _ _ _ _ _ _ _ => none)
  (fun _ _ _ _ _ _ _ _ _ _ => none)
  (fun _ _ _ _ _ _ _ _ _ _ => none)
  (fun _ _ _ _ _ _ _ _ _ => none)
  (fun _ _ _ _ _ _ _ _ _ _ => none)
  (fun _ _ _ _ _ _ _ _ _ _ => none)
  (fun _ _ _ _ _ _ _ _ _ => none)
  (fun _ _ _ _ _ _ _ _ _ => none)
  (fun _ _ _ _ _ _ _ _ _ => none)
  (fun _ _ _ _ _ _ _ _ _ => none)
  (fun _ _ _ _ _ _ _ _ _ _ => none)
  (fun _ _ _ _ _ _ _ _ _ _ => none)
  (fun _ _ _ _ _ _ _ _ _ => none)
  (fun _ K rt S pc a b v lv st => vNN S st 0 (fun st => vI_get T K S pc a b lv st))
  (fun _ K rt S pc a b v lv st => none)
  (fun _ K rt S pc a b v lv st => K S a lv st)
  (fun _ _ _ _ _ _ _ _ _ _ => none)
  (fun K rt S pc a b v lv st => vI_un K S pc lv st 15)
  (fun K rt S pc a b v lv st => vI_un K S pc lv st 13)
  (fun _ _ _ _ _ _ _ _ _ => none)
  (fun _ _ _ _ _ _ _ _ _ => none)
  (fun K rt S pc a b v lv st => vI_conv K S pc lv st vIsI 17 1)
  (fun _ _ _ _ _ _ _ _ _ => none)
  (fun K rt S pc a b v lv st => vI_bin K S pc lv st 1)
  (fun K rt S pc a b v lv st => vNN S st 1 (fun st => vI_ald T K S pc lv st (fun t => Nat.beq t 0)))
  (fun K rt S pc a b v lv st => vI_bin K S pc lv st 4)
  (fun K rt S pc a b v lv st => vNN S st 2 (fun st => vI_iast T W K S pc lv st))
  (fun n K rt S pc a b v lv st => vI_int K S pc lv st (Int32.ofInt n) 1)
  (fun K rt S pc a b v lv st => vI_div K S pc lv st 11)
  (fun _ _ _ _ _ _ _ _ _ _ _ => none)
  (fun c _ K rt S pc a b v lv st => vI_icmp K S pc a lv st c)
  (fun c _ K rt S pc a b v lv st => vI_if K S pc a lv st c)
  (fun _ K rt S pc a b v lv st => vI_null K S lv st (pc + 3) a)
  (fun _ K rt S pc a b v lv st => vI_null K S lv st a (pc + 3))
  (fun i n K rt S pc a b v lv st => vI_iinc K S pc lv st i n)
  (fun i K rt S pc a b v lv st => vI_load K S pc lv st vIsI i 2)
  (fun i K rt S pc a b v lv st => vI_load K S pc lv st vIsI i 1)
  (fun K rt S pc a b v lv st => vI_bin K S pc lv st 3)
  (fun K rt S pc a b v lv st => vI_un K S pc lv st 14)
  (fun _ _ _ _ _ _ _ _ _ _ => none)
  (fun _ _ _ _ _ _ _ _ _ _ => none)
  (fun _ _ _ _ _ _ _ _ _ _ _ => none)
  (fun _ K rt S pc a b v lv st => vNN S st b (fun st => vI_spec W Z Sg K S pc a b lv st))
  (fun _ K rt S pc a b v lv st => vI_stat W Z Sg K S pc a b lv st)
  (fun _ K rt S pc a b v lv st => vNN S st b (fun st => vI_virt W Z Sg K S pc a b v lv st))
  (fun K rt S pc a b v lv st => vI_bin K S pc lv st 5)
  (fun K rt S pc a b v lv st => vI_div K S pc lv st 12)
  (fun K rt S pc a b v lv st => vI_ret S pc st 0 rt)
  (fun K rt S pc a b v lv st => vI_bin K S pc lv st 7)
  (fun K rt S pc a b v lv st => vI_bin K S pc lv st 8)
  (fun i K rt S pc a b v lv st => vI_store K S pc lv st vIsI i 2)
  (fun i K rt S pc a b v lv st => vI_store K S pc lv st vIsI i 1)
  (fun K rt S pc a b v lv st => vI_bin K S pc lv st 2)
  (fun K rt S pc a b v lv st => vI_bin K S pc lv st 9)
  (fun K rt S pc a b v lv st => vI_bin K S pc lv st 6)
  (fun _ _ _ _ _ _ _ _ _ _ => none)
  (fun _ _ _ _ _ _ _ _ _ _ => none)
  (fun _ _ _ _ _ _ _ _ _ => none)
  (fun _ _ _ _ _ _ _ _ _ => none)
  (fun K rt S pc a b v lv st => vI_conv K S pc lv st vIsL 18 0)
  (fun K rt S pc a b v lv st => vI_lbin K S pc lv st 61)
  (fun K rt S pc a b v lv st => vNN S st 1 (fun st => vI_ald T K S pc lv st (fun t => Nat.beq t 1)))
  (fun _ _ _ _ _ _ _ _ _ => none)
  (fun K rt S pc a b v lv st => vNN S st 2 (fun st => vI_last T W K S pc lv st))
  (fun K rt S pc a b v lv st => vI_lcmp K S pc lv st)
  (fun n K rt S pc a b v lv st => vI_long K S pc lv st (Int64.ofNat (n : Nat)) 1)
  (fun _ K rt S pc a b v lv st => bif Nat.beq b 1 then none else vI_int K S pc lv st (Int32.ofInt v) 2)
  (fun _ K rt S pc a b v lv st => vI_int K S pc lv st (Int32.ofInt v) 3)
  (fun _ K rt S pc a b v lv st => vI_long K S pc lv st (Int64.ofInt v) 3)
  (fun K rt S pc a b v lv st => vI_ldiv K S pc lv st)
  (fun i K rt S pc a b v lv st => vI_load K S pc lv st vIsL i 2)
  (fun i K rt S pc a b v lv st => vI_load K S pc lv st vIsL i 1)
  (fun K rt S pc a b v lv st => vI_lbin K S pc lv st 63)
  (fun _ _ _ _ _ _ _ _ _ => none)
  (fun dflt ps K rt S pc a b v lv st => vI_lookup K S pc lv st dflt ps)
  (fun _ _ _ _ _ _ _ _ _ => none)
  (fun _ _ _ _ _ _ _ _ _ => none)
  (fun K rt S pc a b v lv st => vI_ret S pc st 1 rt)
  (fun _ _ _ _ _ _ _ _ _ => none)
  (fun _ _ _ _ _ _ _ _ _ => none)
  (fun i K rt S pc a b v lv st => vI_lstore K S pc lv st i 2)
  (fun i K rt S pc a b v lv st => vI_lstore K S pc lv st i 1)
  (fun K rt S pc a b v lv st => vI_lbin K S pc lv st 62)
  (fun _ _ _ _ _ _ _ _ _ => none)
  (fun _ _ _ _ _ _ _ _ _ => none)
  (fun _ _ _ _ _ _ _ _ _ => none)
  (fun _ _ _ _ _ _ _ _ _ => none)
  (fun _ _ _ _ _ _ _ _ _ _ _ => none)
  (fun _ K rt S pc a b v lv st => none)
  (fun _ K rt S pc a b v lv st => none)
  (fun _ _ _ _ _ _ _ _ _ => none)
  (fun K rt S pc a b v lv st => vI_pop K S pc lv st)
  (fun _ _ _ _ _ _ _ _ _ => none)
  (fun _ K rt S pc a b v lv st => vNN S st 1 (fun st => vI_put T W K S pc a b lv st))
  (fun _ _ _ _ _ _ _ _ _ _ => none)
  (fun _ _ _ _ _ _ _ _ _ _ => none)
  (fun K rt S pc a b v lv st => vI_ret S pc st 9 rt)
  (fun _ _ _ _ _ _ _ _ _ => none)
  (fun _ _ _ _ _ _ _ _ _ => none)
  (fun n K rt S pc a b v lv st => vI_int K S pc lv st (Int16.ofInt n).toInt32 3)
  (fun _ _ _ _ _ _ _ _ _ => none)
  (fun dflt lo hi offs K rt S pc a b v lv st => vI_table K S pc lv st dflt lo hi offs)
/-- a cut of a method: its place, what the slots hold there (slot, type) -/
abbrev vC : Type := Nat × List (Nat × vT)
/-- the slots' values, new names from n on -/
noncomputable def vTake (ls : List (Nat × vT)) : Nat → vL := List.rec (motive := fun _ => Nat → vL) (fun _ => []) (fun q _ ih n => (q.1, vOut q.2 n) :: fNat (n + 1) ih) ls
noncomputable def vRngs (ls : List (Nat × vT)) : Nat → List vF := List.rec (motive := fun _ => Nat → List vF) (fun _ => []) (fun q _ ih n => vRng q.2 n ++ fNat (n + 1) ih) ls
/-- arrival at a cut: the slots have their types; the goal is its assertion, and its measure is smaller (op 4000) -/
noncomputable def vArrL (S : vS) (pc : Nat) (lv : vL) (ls : List (Nat × vT)) : List Nat → vR := List.rec (motive := fun _ => List Nat → vR) (fun ns => some [(S.2.2, (4000, ns.reverse, [S.2.1], (pc : Int)))]) (fun q _ ih ns => match sLkV q.1 lv with
    | some w => bif vFits q.2 w && Nat.beq q.2.2.2.2 0 then vBounds S q.2 w.2.1 (ih (w.2.1 :: ns)) else none
    | none => none) ls
noncomputable def vArr (S : vS) (c : vC) (lv : vL) (st : List vV) : vR := match st with
  | [] => vArrL S c.1 lv c.2 []
  | _ => none
noncomputable def fFindC (pc : Nat) (l : List vC) : Option vC := List.rec (motive := fun _ => Option vC) none (fun e _ ih => bif Nat.beq e.1 pc then some e else ih) l
/-- n steps at most from a place of method j to the next cuts -/
noncomputable def vRun (T : Nat → Nat → vT) (W : List (Nat × Nat)) (Z : Bool) (Sg : Nat → Option vM) (cs : List vC) (rt : vT) (j : Nat) (n : Nat) : Bool → vS → Nat → vL → List vV → vR := Nat.rec (motive := fun _ => Bool → vS → Nat → vL → List vV → vR) (fun _ _ _ _ _ => none) (fun _ ih first S pc lv st => fNat pc (fun pc => match (bif first then none else fFindC pc cs) with
  | some c => vArr S c lv st
  | none => (match sAtt j pc with
    | none => none
    | some e => vIns T W Z Sg e.2.1 (ih false) rt S pc e.2.2.1 e.2.2.2.1 e.2.2.2.2.1 lv st))) n
