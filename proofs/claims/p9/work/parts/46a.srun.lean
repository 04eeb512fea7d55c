/-! THE SYMBOLIC RUN: ints by intervals, inputs by name; all paths; closed, so that the kernel can do it. -/
abbrev sV : Type := Nat × Int × Int
abbrev sI : Type := List (Int × Int)
abbrev sC : Type := Nat × Nat × List (Nat × sV)
abbrev sH : Type := List sC
abbrev sL : Type := List (Nat × sV)
abbrev sLf : Type := sI × sH × Nat × List sV
def sFull : Int × Int := (-2147483648, 2147483647)
def sFulL : Int × Int := (-9223372036854775808, 9223372036854775807)
def sK0 (c : Int) : sV := (0, c, c)
def sMk (p : Int × Int) : sV := (0, p.1, p.2)
def sMkL (p : Int × Int) : sV := (1, p.1, p.2)
/-- the interval of an int value -/
noncomputable def sIv (cs : sI) (v : sV) : Int × Int := bif Nat.beq v.1 0 then v.2 else (match fNth cs (v.1 - 10) with
  | some p => p
  | none => sFull)
def sIsI (v : sV) : Bool := Nat.beq v.1 0 || Nat.ble 10 v.1
def sCat (v : sV) : Nat := bif Nat.beq v.1 1 then 2 else 1
def sZ (ty : FieldType) : sV := match ty with
  | .long => (1, 0, 0)
  | .object _ => (2, 0, 0)
  | .array _ => (2, 0, 0)
  | .float => (9, 0, 0)
  | .double => (9, 0, 0)
  | _ => (0, 0, 0)
def sDf (k : Nat) (j : Nat) : sV := bif Nat.blt k 100 then sZ (gYt k j) else sZ (gTy (k - 100))
noncomputable def sLk2 (j : Nat) (l : List (Nat × sV)) (d : sV) : sV := List.rec (motive := fun _ => sV) d (fun q _ ih => bif Nat.beq j q.1 then q.2 else ih) l
noncomputable def sGet (c : sC) (j : Nat) : sV := sLk2 j c.2.2 (sDf c.1 j)
noncomputable def sPut (c : sC) (j : Nat) (v : sV) : sC := (c.1, c.2.1, (j, v) :: c.2.2)
noncomputable def sLk (k : Nat) (l : sL) : Option sV := List.rec (motive := fun _ => Option sV) none (fun q _ ih => bif Nat.beq q.1 k then some q.2 else ih) l
def sSt1 (lv : sL) (i : Nat) (v : sV) : sL := (i, v) :: lv.filter (fun q => !(q.1 == i) && !(q.1 + 1 == i && sCat q.2 == 2))
def sSt2 (lv : sL) (i : Nat) (v : sV) : sL := (i, v) :: lv.filter (fun q => !(q.1 == i) && (!(q.1 == i + 1) && !(q.1 + 1 == i && sCat q.2 == 2)))
def sApp : Option (List sLf) → Option (List sLf) → Option (List sLf)
  | some a, some b => some (a ++ b)
  | _, _ => none
/-- never, ever, or both -/
def sCmp (c : Jvm.ClassFile.Cond) (X Y : Int × Int) : Option Bool := match c with
  | .eq => bif decide (X.1 = X.2) && (decide (Y.1 = Y.2) && decide (X.1 = Y.1)) then some true else bif decide (X.2 < Y.1) || decide (Y.2 < X.1) then some false else none
  | .ne => bif decide (X.1 = X.2) && (decide (Y.1 = Y.2) && decide (X.1 = Y.1)) then some false else bif decide (X.2 < Y.1) || decide (Y.2 < X.1) then some true else none
  | .lt => bif decide (X.2 < Y.1) then some true else bif decide (Y.2 ≤ X.1) then some false else none
  | .ge => bif decide (X.2 < Y.1) then some false else bif decide (Y.2 ≤ X.1) then some true else none
  | .gt => bif decide (Y.2 < X.1) then some true else bif decide (X.2 ≤ Y.1) then some false else none
  | .le => bif decide (Y.2 < X.1) then some false else bif decide (X.2 ≤ Y.1) then some true else none
def sNeg (c : Jvm.ClassFile.Cond) : Jvm.ClassFile.Cond := match c with
  | .eq => .ne
  | .ne => .eq
  | .lt => .ge
  | .ge => .lt
  | .gt => .le
  | .le => .gt
def sFlip (c : Jvm.ClassFile.Cond) : Jvm.ClassFile.Cond := match c with
  | .eq => .eq
  | .ne => .ne
  | .lt => .gt
  | .ge => .le
  | .gt => .lt
  | .le => .ge
/-- what is left of X where 'x c n' holds -/
def sCut (c : Jvm.ClassFile.Cond) (X : Int × Int) (n : Int) : Int × Int := match c with
  | .eq => (n, n)
  | .ne => bif decide (X.1 = n) then (n + 1, X.2) else bif decide (X.2 = n) then (X.1, n - 1) else X
  | .lt => (X.1, bif decide (X.2 < n) then X.2 else n - 1)
  | .ge => (bif decide (X.1 < n) then n else X.1, X.2)
  | .gt => (bif decide (X.1 ≤ n) then n + 1 else X.1, X.2)
  | .le => (X.1, bif decide (n < X.2) then n else X.2)
noncomputable def sRef1 (c : Jvm.ClassFile.Cond) (cs : sI) (v : sV) (n : Int) : sI := bif Nat.ble 10 v.1 then fSet cs (sCut c (sIv cs v) n) (v.1 - 10) else cs
noncomputable def sRef (c : Jvm.ClassFile.Cond) (cs : sI) (x y : sV) : sI := bif decide ((sIv cs y).1 = (sIv cs y).2) then sRef1 c cs x (sIv cs y).1 else bif decide ((sIv cs x).1 = (sIv cs x).2) then sRef1 (sFlip c) cs y (sIv cs x).1 else cs
noncomputable def sBr3 (c : Jvm.ClassFile.Cond) (cs : sI) (x y : sV) (k : sI → Option (List sLf)) : Option (List sLf) := match sCmp c (sIv cs x) (sIv cs y) with
  | some false => some []
  | _ => k (sRef c cs x y)
noncomputable def sBr1 (c : Jvm.ClassFile.Cond) (cs : sI) (x y : sV) (kt kf : sI → Option (List sLf)) : Option (List sLf) := match sCmp c (sIv cs x) (sIv cs y) with
  | some true => kt cs
  | some false => kf cs
  | none => (match c with
    | .eq => sApp (sBr3 .lt cs x y kf) (sApp (sBr3 .gt cs x y kf) (sBr3 .eq cs x y kt))
    | .ne => sApp (sBr3 .lt cs x y kt) (sApp (sBr3 .gt cs x y kt) (sBr3 .eq cs x y kf))
    | .lt => sApp (kt (sRef .lt cs x y)) (kf (sRef .ge cs x y))
    | .ge => sApp (kt (sRef .ge cs x y)) (kf (sRef .lt cs x y))
    | .gt => sApp (kt (sRef .gt cs x y)) (kf (sRef .le cs x y))
    | .le => sApp (kt (sRef .le cs x y)) (kf (sRef .gt cs x y)))
def sSelf (c : Jvm.ClassFile.Cond) : Bool := match c with
  | .eq => true
  | .ge => true
  | .le => true
  | _ => false
/-- inputs 3 and 4, and 2 and 4, are compared by their order, which is input 6, and 7: (the input of the order, turned round) -/
def sPair (x y : sV) : Option (Nat × Bool) := bif Nat.beq y.1 14 then (bif Nat.beq x.1 13 then some (16, false) else bif Nat.beq x.1 12 then some (17, false) else none) else bif Nat.beq x.1 14 then (bif Nat.beq y.1 13 then some (16, true) else bif Nat.beq y.1 12 then some (17, true) else none) else none
noncomputable def sBr (c : Jvm.ClassFile.Cond) (cs : sI) (x y : sV) (kt kf : sI → Option (List sLf)) : Option (List sLf) := match sPair x y with
  | some q => sBr1 (bif q.2 then sFlip c else c) cs (q.1, 0, 0) (sK0 0) kt kf
  | none => bif Nat.ble 10 x.1 && Nat.beq x.1 y.1 then (bif sSelf c then kt cs else kf cs) else sBr1 c cs x y kt kf
/-- each value of an interval, one by one, m at most -/
noncomputable def sEach (cs : sI) (v : sV) (k : sI → Int → Option (List sLf)) (m : Nat) : Int → Option (List sLf) := Nat.rec (motive := fun _ => Int → Option (List sLf)) (fun n => k (sRef1 .eq cs v n) n) (fun _ ih n => sApp (k (sRef1 .eq cs v n) n) (fInt (n + 1) ih)) m
/-- by cases over an index within 0 .. n - 1 -/
noncomputable def sIdx (cs : sI) (v : sV) (n : Nat) (k : sI → Int → Option (List sLf)) : Option (List sLf) :=
  bif decide (0 ≤ (sIv cs v).1) && (decide ((sIv cs v).2 < (n : Int)) && (decide ((sIv cs v).1 ≤ (sIv cs v).2) && decide ((sIv cs v).2 - (sIv cs v).1 ≤ 64))) then sEach cs v k ((sIv cs v).2 - (sIv cs v).1).toNat (sIv cs v).1 else none
def sFitI (ty : FieldType) (X : Int × Int) : Bool := match ty with
  | .int => true
  | .boolean => decide (0 ≤ X.1) && decide (X.2 ≤ 1)
  | _ => false
noncomputable def sFit (cs : sI) (ty : FieldType) (v : sV) : Bool := match ty with
  | .long => Nat.beq v.1 1
  | .object _ => Nat.beq v.1 2 || Nat.beq v.1 3
  | .array _ => Nat.beq v.1 2 || Nat.beq v.1 3
  | ty => sIsI v && sFitI ty (sIv cs v)
def sOne (X : Int × Int) : Bool := decide (X.1 = X.2)
def sBin (f : Int32 → Int32 → Int32) (g : Int × Int → Int × Int → Int × Int) (X Y : Int × Int) : sV := bif sOne X && sOne Y then sK0 (f (Int32.ofInt X.1) (Int32.ofInt Y.1)).toInt else sMk (g X Y)
def sAny (_ _ : Int × Int) : Int × Int := sFull
/-- a mask that is not negative -/
def sAnd (_ Y : Int × Int) : Int × Int := bif sOne Y && decide (0 ≤ Y.1) then (0, Y.1) else sFull
def sUn (f : Int32 → Int32) (X : Int × Int) : sV := bif sOne X then sK0 (f (Int32.ofInt X.1)).toInt else sMk sFull
def sLbin (f : Int64 → Int64 → Int64) (X Y : Int × Int) : sV := bif sOne X && sOne Y then (1, (f (Int64.ofInt X.1) (Int64.ofInt Y.1)).toInt, (f (Int64.ofInt X.1) (Int64.ofInt Y.1)).toInt) else sMkL sFulL
section SINS
variable (K : sI → Nat → sL → List sV → sH → Option (List sLf)) (C : sI → Nat → List sV → sH → Option (List sLf)) (rt : Option FieldType) (dp : Bool) (cs : sI) (pc a b : Nat) (v : Int) (lv : sL) (st : List sV) (lh : sH)
noncomputable def sI_load (t : sV → Bool) (i n : Nat) : Option (List sLf) := match sLk i lv with
  | some w => bif t w then K cs (pc + n) lv (w :: st) lh else none
  | none => none
def sIsL (v : sV) : Bool := Nat.beq v.1 1
def sIsA (v : sV) : Bool := Nat.beq v.1 2 || Nat.beq v.1 3
noncomputable def sI_store (t : sV → Bool) (i n : Nat) : Option (List sLf) := match st with
  | w :: r => bif t w then fFilt (fun q => !(q.1 == i) && !(q.1 + 1 == i && sCat q.2 == 2)) lv (fun l => K cs (pc + n) ((i, w) :: l) r lh) else none
  | _ => none
noncomputable def sI_lstore (i n : Nat) : Option (List sLf) := match st with
  | w :: r => bif sIsL w then fFilt (fun q => !(q.1 == i) && (!(q.1 == i + 1) && !(q.1 + 1 == i && sCat q.2 == 2))) lv (fun l => K cs (pc + n) ((i, w) :: l) r lh) else none
  | _ => none
noncomputable def sI_iinc (i : Nat) (n : Int) : Option (List sLf) := match sLk i lv with
  | some w => bif sIsI w then fV (sUn (fun x => x + Int32.ofInt n) (sIv cs w)) (fun u => fFilt (fun q => !(q.1 == i) && !(q.1 + 1 == i && sCat q.2 == 2)) lv (fun l => K cs (pc + 3) ((i, u) :: l) st lh)) else none
  | none => none
noncomputable def sI_int (x : Int32) (n : Nat) : Option (List sLf) := fV (sK0 x.toInt) (fun u => K cs (pc + n) lv (u :: st) lh)
noncomputable def sI_long (x : Int64) (n : Nat) : Option (List sLf) := fV (1, x.toInt, x.toInt) (fun u => K cs (pc + n) lv (u :: st) lh)
noncomputable def sI_bin (f : Int32 → Int32 → Int32) (g : Int × Int → Int × Int → Int × Int) : Option (List sLf) := match st with
  | y :: x :: r => bif sIsI y && sIsI x then fV (sBin f g (sIv cs x) (sIv cs y)) (fun u => K cs (pc + 1) lv (u :: r) lh) else none
  | _ => none
noncomputable def sI_div (f : Int32 → Int32 → Int32) : Option (List sLf) := match st with
  | y :: x :: r => bif (sIsI y && sIsI x) && (decide (0 < (sIv cs y).1) || decide ((sIv cs y).2 < 0)) then fV (sBin f sAny (sIv cs x) (sIv cs y)) (fun u => K cs (pc + 1) lv (u :: r) lh) else none
  | _ => none
noncomputable def sI_un (f : Int32 → Int32) : Option (List sLf) := match st with
  | x :: r => bif sIsI x then fV (sUn f (sIv cs x)) (fun u => K cs (pc + 1) lv (u :: r) lh) else none
  | _ => none
noncomputable def sI_lbin (f : Int64 → Int64 → Int64) : Option (List sLf) := match st with
  | y :: x :: r => bif sIsL y && sIsL x then fV (sLbin f x.2 y.2) (fun u => K cs (pc + 1) lv (u :: r) lh) else none
  | _ => none
noncomputable def sI_ldiv : Option (List sLf) := match st with
  | y :: x :: r => bif (sIsL y && sIsL x) && (decide (0 < y.2.1) || decide (y.2.2 < 0)) then fV (sLbin (fun x y => x / y) x.2 y.2) (fun u => K cs (pc + 1) lv (u :: r) lh) else none
  | _ => none
noncomputable def sI_lcmp : Option (List sLf) := match st with
  | y :: x :: r => bif sIsL y && sIsL x then fV (bif sOne x.2 && sOne y.2 then sK0 (lg_cmp (Int64.ofInt x.2.1) (Int64.ofInt y.2.1)).toInt else sMk sFull) (fun u => K cs (pc + 1) lv (u :: r) lh) else none
  | _ => none
noncomputable def sI_i2l : Option (List sLf) := match st with
  | x :: r => bif sIsI x then fV (sMkL (sIv cs x)) (fun u => K cs (pc + 1) lv (u :: r) lh) else none
  | _ => none
noncomputable def sI_l2i : Option (List sLf) := match st with
  | x :: r => bif sIsL x then fV (bif sOne x.2 then sK0 (Int64.ofInt x.2.1).toInt32.toInt else sMk sFull) (fun u => K cs (pc + 1) lv (u :: r) lh) else none
  | _ => none
noncomputable def sI_dup : Option (List sLf) := match st with
  | w :: r => bif Nat.beq (sCat w) 1 then K cs (pc + 1) lv (w :: w :: r) lh else none
  | _ => none
noncomputable def sI_dup2 : Option (List sLf) := match st with
  | w :: r => bif Nat.beq (sCat w) 2 then K cs (pc + 1) lv (w :: w :: r) lh else (match r with
    | w2 :: r2 => bif Nat.beq (sCat w) 1 && Nat.beq (sCat w2) 1 then K cs (pc + 1) lv (w :: w2 :: w :: w2 :: r2) lh else none
    | _ => none)
  | _ => none
noncomputable def sI_pop : Option (List sLf) := match st with
  | w :: r => bif Nat.beq (sCat w) 1 then K cs (pc + 1) lv r lh else none
  | _ => none
noncomputable def sI_if (c : Jvm.ClassFile.Cond) : Option (List sLf) := match st with
  | x :: r => bif sIsI x then sBr c cs x (sK0 0) (fun cs => K cs a lv r lh) (fun cs => K cs (pc + 3) lv r lh) else none
  | _ => none
noncomputable def sI_icmp (c : Jvm.ClassFile.Cond) : Option (List sLf) := match st with
  | y :: x :: r => bif sIsI y && sIsI x then sBr c cs x y (fun cs => K cs a lv r lh) (fun cs => K cs (pc + 3) lv r lh) else none
  | _ => none
noncomputable def sI_null (t1 t2 : Nat) : Option (List sLf) := match st with
  | x :: r => bif Nat.beq x.1 2 then K cs t1 lv r lh else bif Nat.beq x.1 3 then K cs t2 lv r lh else none
  | _ => none
noncomputable def sGo (pc : Nat) (off : Int) (k : Nat → Option (List sLf)) : Option (List sLf) := bif decide (0 ≤ (pc : Int) + off) then k ((pc : Int) + off).toNat else none
noncomputable def sI_table (dflt lo hi : Int) (offs : Array Int) : Option (List sLf) := match st with
  | x :: r => bif sIsI x && (decide ((Int32.ofInt lo).toInt = lo) && decide ((Int32.ofInt hi).toInt = hi)) then sBr .lt cs x (sK0 lo) (fun cs => sGo pc dflt (fun t => K cs t lv r lh)) (fun cs => sBr .gt cs x (sK0 hi) (fun cs => sGo pc dflt (fun t => K cs t lv r lh)) (fun cs2 =>
      bif decide (lo ≤ hi) then sEach cs2 x (fun cs n => bif decide ((sIv cs2 x).2 < n) || decide (n < (sIv cs2 x).1) then some [] else (match offs[(n - lo).toNat]? with
        | some off => sGo pc off (fun t => K cs t lv r lh)
        | none => none)) (hi - lo).toNat lo else none)) else none
  | _ => none
noncomputable def sI_get : Option (List sLf) := match st with
  | x :: r => bif Nat.beq x.1 3 then (match fNth lh x.2.1.toNat with
    | some o => bif Nat.beq o.1 a && Nat.blt a 100 then fV (sGet o b) (fun u => K cs (pc + 3) lv (u :: r) lh) else none
    | none => none) else none
  | _ => none
noncomputable def sI_put : Option (List sLf) := match st with
  | w :: x :: r => bif Nat.beq x.1 3 then (match fNth lh x.2.1.toNat with
    | some o => bif (Nat.beq o.1 a && Nat.blt a 100) && (sFit cs (gYt a b) w && Nat.ble 7 x.2.1.toNat) then K cs (pc + 3) lv r (fSet lh (sPut o b w) x.2.1.toNat) else none
    | none => none) else none
  | _ => none
noncomputable def sI_gets : Option (List sLf) := bif Nat.beq a 0 then K cs (pc + 3) lv (sK0 1 :: st) lh else K cs (pc + 3) lv ((4, 0, 0) :: st) lh
noncomputable def sI_new : Option (List sLf) := bif Nat.blt a 100 then fNat (fLen lh) (fun z => K cs (pc + 3) lv ((3, Int.ofNat z, 0) :: st) (fSnoc lh (a, 0, []))) else none
noncomputable def sI_newa (n : Nat) : Option (List sLf) := match st with
  | x :: r => bif sIsI x && (sOne (sIv cs x) && (decide (0 ≤ (sIv cs x).1) && decide ((sIv cs x).1 ≤ 65536))) then fNat (fLen lh) (fun z => fNat (sIv cs x).1.toNat (fun y => K cs (pc + n) lv ((3, Int.ofNat z, 0) :: r) (fSnoc lh (100 + a, y, [])))) else none
  | _ => none
noncomputable def sI_len : Option (List sLf) := match st with
  | x :: r => bif Nat.beq x.1 3 then (match fNth lh x.2.1.toNat with
    | some o => bif Nat.ble 100 o.1 && Nat.ble o.2.1 65536 then K cs (pc + 1) lv (sK0 (o.2.1 : Int) :: r) lh else none
    | none => none) else none
  | _ => none
noncomputable def sI_ald (t : Nat → Bool) : Option (List sLf) := match st with
  | i :: x :: r => bif Nat.beq x.1 3 && sIsI i then (match fNth lh x.2.1.toNat with
    | some o => bif (Nat.ble 100 o.1 && t (o.1 - 100)) && Nat.ble o.2.1 65536 then sIdx cs i o.2.1 (fun cs n => fV (sGet o n.toNat) (fun u => K cs (pc + 1) lv (u :: r) lh)) else none
    | none => none) else none
  | _ => none
def sNar (t : Nat) (X : Int × Int) : sV := bif Nat.beq t 2 then (bif sOne X then sK0 (Int32.ofInt X.1).toInt8.toInt32.toInt else (0, -128, 127)) else (bif sOne X then sK0 (Int32.ofInt X.1 &&& 1).toInt else (0, 0, 1))
noncomputable def sI_ist (t : Nat → Bool) (g : Nat → sV → sV) : Option (List sLf) := match st with
  | w :: i :: x :: r => bif Nat.beq x.1 3 && (sIsI i && sIsI w) then (match fNth lh x.2.1.toNat with
    | some o => bif (Nat.ble 100 o.1 && t (o.1 - 100)) && (Nat.ble o.2.1 65536 && Nat.ble 7 x.2.1.toNat) then sIdx cs i o.2.1 (fun cs n => fV (g (o.1 - 100) w) (fun u => fNat n.toNat (fun y => K cs (pc + 1) lv r (fSet lh (sPut o y u) x.2.1.toNat)))) else none
    | none => none) else none
  | _ => none
noncomputable def sI_last : Option (List sLf) := match st with
  | w :: i :: x :: r => bif Nat.beq x.1 3 && (sIsI i && sIsL w) then (match fNth lh x.2.1.toNat with
    | some o => bif (Nat.ble 100 o.1 && Nat.beq (o.1 - 100) 1) && (Nat.ble o.2.1 65536 && Nat.ble 7 x.2.1.toNat) then sIdx cs i o.2.1 (fun cs n => fNat n.toNat (fun y => K cs (pc + 1) lv r (fSet lh (sPut o y w) x.2.1.toNat))) else none
    | none => none) else none
  | _ => none
noncomputable def sI_aast : Option (List sLf) := match st with
  | w :: i :: x :: r => bif Nat.beq x.1 3 && (sIsI i && Nat.beq w.1 3) then (match fNth lh x.2.1.toNat with
    | some o => (match fNth lh w.2.1.toNat with
      | some ob => bif (Nat.ble 100 o.1 && (Nat.beq (gEl (o.1 - 100)) ob.1 && Nat.blt ob.1 100)) && (Nat.ble o.2.1 65536 && Nat.ble 7 x.2.1.toNat) then sIdx cs i o.2.1 (fun cs n => fNat n.toNat (fun y => K cs (pc + 1) lv r (fSet lh (sPut o y w) x.2.1.toNat))) else none
      | none => none)
    | none => none) else none
  | _ => none
noncomputable def sBack (lv : sL) (n : Nat) (r : List sV) (l : List sLf) : Option (List sLf) := List.rec (motive := fun _ => Option (List sLf)) (some []) (fun f _ ih => sApp (K f.1 (pc + n) lv (f.2.2.2 ++ r) f.2.1) ih) l
def sCats (st : List sV) : Bool := Nat.ble (st.map sCat).sum 8
noncomputable def sI_virt : Option (List sLf) := match st.drop b with
  | x :: r => bif Nat.beq x.1 3 then (match fNth lh x.2.1.toNat with
    | some o => bif (Int.toNat v == o.1 && Nat.blt o.1 100) && sCats r then (match C cs a (x :: (st.take b).reverse) lh with
      | some l => sBack K pc lv 3 r l
      | none => none) else none
    | none => none) else none
  | _ => none
noncomputable def sI_stat : Option (List sLf) := bif Nat.ble b st.length && sCats (st.drop b) then (match C cs a (st.take b).reverse lh with
    | some l => sBack K pc lv 3 (st.drop b) l
    | none => none) else none
noncomputable def sI_spec : Option (List sLf) := bif Nat.beq a 9999 then (match st with
  | x :: r => bif Nat.beq x.1 3 && (dp && sCats r) then K cs (pc + 3) lv r lh else none
  | _ => none) else (match st.drop b with
  | x :: r => bif Nat.beq x.1 3 && sCats r then (match C cs a (x :: (st.take b).reverse) lh with
      | some l => sBack K pc lv 3 r l
      | none => none) else none
  | _ => none)
noncomputable def sI_iret : Option (List sLf) := match st with
  | [x] => (match rt with
    | some ty => bif sIsI x && (sFitI ty (sIv cs x) || (sOne (sIv cs x) && decide (narrow ty (.int (Int32.ofInt (sIv cs x).1)) = .int (Int32.ofInt (sIv cs x).1)))) then some [(cs, lh, pc, st)] else none
    | none => none)
  | _ => none
noncomputable def sI_lret : Option (List sLf) := match st with
  | [x] => (match rt with
    | some .long => bif sIsL x then some [(cs, lh, pc, st)] else none
    | _ => none)
  | _ => none
noncomputable def sI_aret : Option (List sLf) := match rt with
  | some (.object _) => (match st with
    | [x] => bif sIsA x then some [(cs, lh, pc, st)] else none
    | _ => none)
  | some (.array _) => (match st with
    | [x] => bif sIsA x then some [(cs, lh, pc, st)] else none
    | _ => none)
  | _ => none
noncomputable def sI_vret : Option (List sLf) := match st with
  | [] => (match rt with
    | none => some [(cs, lh, pc, st)]
    | _ => none)
  | _ => none
end SINS
noncomputable def sIns : Instr → (sI → Nat → sL → List sV → sH → Option (List sLf)) → (sI → Nat → List sV → sH → Option (List sLf)) → Option FieldType → Bool → sI → Nat → Nat → Nat → Int → sL → List sV → sH → Option (List sLf) := @Instr.rec (fun _ => (sI → Nat → sL → List sV → sH → Option (List sLf)) → (sI → Nat → List sV → sH → Option (List sLf)) → Option FieldType → Bool → sI → Nat → Nat → Nat → Int → sL → List sV → sH → Option (List sLf))
  (fun K C rt dp cs pc a b v lv st lh => sI_ald K cs pc lv st lh (fun t => Nat.ble 4 t))
  (fun K C rt dp cs pc a b v lv st lh => sI_aast K cs pc lv st lh)
  (fun K C rt dp cs pc a b v lv st lh => K cs (pc + 1) lv ((2, 0, 0) :: st) lh)
  (fun i K C rt dp cs pc a b v lv st lh => sI_load K cs pc lv st lh sIsA i 2)
  (fun i K C rt dp cs pc a b v lv st lh => sI_load K cs pc lv st lh sIsA i 1)
  (fun _ K C rt dp cs pc a b v lv st lh => sI_newa K cs pc a lv st lh 3)
  (fun K C rt dp cs pc a b v lv st lh => sI_aret rt cs pc st lh)
  (fun K C rt dp cs pc a b v lv st lh => sI_len K cs pc lv st lh)
  (fun i K C rt dp cs pc a b v lv st lh => sI_store K cs pc lv st lh sIsA i 2)
  (fun i K C rt dp cs pc a b v lv st lh => sI_store K cs pc lv st lh sIsA i 1)
  (fun _ _ _ _ _ _ _ _ _ _ _ _ => none)
  (fun K C rt dp cs pc a b v lv st lh => sI_ald K cs pc lv st lh (fun t => Nat.beq t 2 || Nat.beq t 3))
  (fun K C rt dp cs pc a b v lv st lh => sI_ist K cs pc lv st lh (fun t => Nat.beq t 2 || Nat.beq t 3) (fun t w => sNar t (sIv cs w)))
  (fun n K C rt dp cs pc a b v lv st lh => sI_int K cs pc lv st lh (Int8.ofInt n).toInt32 2)
  (fun _ _ _ _ _ _ _ _ _ _ _ _ => none)
  (fun _ _ _ _ _ _ _ _ _ _ _ _ => none)
  (fun _ _ _ _ _ _ _ _ _ _ _ _ _ => none)
  (fun _ _ _ _ _ _ _ _ _ _ _ _ => none)
  (fun _ _ _ _ _ _ _ _ _ _ _ _ => none)
  (fun _ _ _ _ _ _ _ _ _ _ _ _ => none)
  (fun _ _ _ _ _ _ _ _ _ _ _ _ => none)
  (fun _ _ _ _ _ _ _ _ _ _ _ _ => none)
  (fun _ _ _ _ _ _ _ _ _ _ _ _ => none)
  (fun _ _ _ _ _ _ _ _ _ _ _ _ _ => none)
  (fun _ _ _ _ _ _ _ _ _ _ _ _ _ => none)
  (fun _ _ _ _ _ _ _ _ _ _ _ _ => none)
  (fun _ _ _ _ _ _ _ _ _ _ _ _ _ => none)
  (fun _ _ _ _ _ _ _ _ _ _ _ _ _ => none)
  (fun _ _ _ _ _ _ _ _ _ _ _ _ => none)
  (fun _ _ _ _ _ _ _ _ _ _ _ _ => none)
  (fun _ _ _ _ _ _ _ _ _ _ _ _ => none)
  (fun _ _ _ _ _ _ _ _ _ _ _ _ => none)
  (fun _ _ _ _ _ _ _ _ _ _ _ _ _ => none)
  (fun _ _ _ _ _ _ _ _ _ _ _ _ _ => none)
  (fun _ _ _ _ _ _ _ _ _ _ _ _ => none)
  (fun K C rt dp cs pc a b v lv st lh => sI_dup K cs pc lv st lh)
  (fun _ _ _ _ _ _ _ _ _ _ _ _ => none)
  (fun _ _ _ _ _ _ _ _ _ _ _ _ => none)
  (fun K C rt dp cs pc a b v lv st lh => sI_dup2 K cs pc lv st lh)
  (fun _ _ _ _ _ _ _ _ _ _ _ _ => none)
  (fun _ _ _ _ _ _ _ _ _ _ _ _ => none)
  (fun _ _ _ _ _ _ _ _ _ _ _ _ => none)
  (fun _ _ _ _ _ _ _ _ _ _ _ _ => none)
  (fun _ _ _ _ _ _ _ _ _ _ _ _ => none)
  (fun _ _ _ _ _ _ _ _ _ _ _ _ => none)
  (fun _ _ _ _ _ _ _ _ _ _ _ _ => none)
  (fun _ _ _ _ _ _ _ _ _ _ _ _ => none)
  (fun _ _ _ _ _ _ _ _ _ _ _ _ _ => none)
  (fun _ _ _ _ _ _ _ _ _ _ _ _ _ => none)
  (fun _ _ _ _ _ _ _ _ _ _ _ _ => none)
  (fun _ _ _ _ _ _ _ _ _ _ _ _ _ => none)
  (fun _ _ _ _ _ _ _ _ _ _ _ _ _ => none)
  (fun _ _ _ _ _ _ _ _ _ _ _ _ => none)
  (fun _ _ _ _ _ _ _ _ _ _ _ _ => none)
  (fun _ _ _ _ _ _ _ _ _ _ _ _ => none)
  (fun _ _ _ _ _ _ _ _ _ _ _ _ => none)
  (fun _ _ _ _ _ _ _ _ _ _ _ _ _ => none)
  (fun _ _ _ _ _ _ _ _ _ _ _ _ _ => none)
  (fun _ _ _ _ _ _ _ _ _ _ _ _ => none)
  (fun _ K C rt dp cs pc a b v lv st lh => sI_get K cs pc a b lv st lh)
  (fun _ K C rt dp cs pc a b v lv st lh => sI_gets K cs pc a lv st lh)
  (fun _ K C rt dp cs pc a b v lv st lh => K cs a lv st lh)
  (fun _ _ _ _ _ _ _ _ _ _ _ _ _ => none)
  (fun K C rt dp cs pc a b v lv st lh => sI_un K cs pc lv st lh (fun x => x.toInt8.toInt32))
  (fun K C rt dp cs pc a b v lv st lh => sI_un K cs pc lv st lh (fun x => (x.toUInt32 % 65536).toInt32))
  (fun _ _ _ _ _ _ _ _ _ _ _ _ => none)
  (fun _ _ _ _ _ _ _ _ _ _ _ _ => none)
  (fun K C rt dp cs pc a b v lv st lh => sI_i2l K cs pc lv st lh)
  (fun _ _ _ _ _ _ _ _ _ _ _ _ => none)
  (fun K C rt dp cs pc a b v lv st lh => sI_bin K cs pc lv st lh (fun x y => x + y) sAny)
  (fun K C rt dp cs pc a b v lv st lh => sI_ald K cs pc lv st lh (fun t => Nat.beq t 0))
  (fun K C rt dp cs pc a b v lv st lh => sI_bin K cs pc lv st lh (fun x y => x &&& y) sAnd)
  (fun K C rt dp cs pc a b v lv st lh => sI_ist K cs pc lv st lh (fun t => Nat.beq t 0) (fun _ w => w))
  (fun n K C rt dp cs pc a b v lv st lh => sI_int K cs pc lv st lh (Int32.ofInt n) 1)
  (fun K C rt dp cs pc a b v lv st lh => sI_div K cs pc lv st lh (fun x y => x / y))
  (fun _ _ _ _ _ _ _ _ _ _ _ _ _ _ => none)
  (fun c _ K C rt dp cs pc a b v lv st lh => sI_icmp K cs pc a lv st lh c)
  (fun c _ K C rt dp cs pc a b v lv st lh => sI_if K cs pc a lv st lh c)
  (fun _ K C rt dp cs pc a b v lv st lh => sI_null K cs lv st lh (pc + 3) a)
  (fun _ K C rt dp cs pc a b v lv st lh => sI_null K cs lv st lh a (pc + 3))
  (fun i n K C rt dp cs pc a b v lv st lh => sI_iinc K cs pc lv st lh i n)
  (fun i K C rt dp cs pc a b v lv st lh => sI_load K cs pc lv st lh sIsI i 2)
  (fun i K C rt dp cs pc a b v lv st lh => sI_load K cs pc lv st lh sIsI i 1)
  (fun K C rt dp cs pc a b v lv st lh => sI_bin K cs pc lv st lh (fun x y => x * y) sAny)
  (fun K C rt dp cs pc a b v lv st lh => sI_un K cs pc lv st lh (fun x => -x))
  (fun _ _ _ _ _ _ _ _ _ _ _ _ _ => none)
  (fun _ _ _ _ _ _ _ _ _ _ _ _ _ => none)
  (fun _ _ _ _ _ _ _ _ _ _ _ _ _ _ => none)
  (fun _ K C rt dp cs pc a b v lv st lh => sI_spec K C dp cs pc a b lv st lh)
  (fun _ K C rt dp cs pc a b v lv st lh => sI_stat K C cs pc a b lv st lh)
  (fun _ K C rt dp cs pc a b v lv st lh => sI_virt K C cs pc a b v lv st lh)
  (fun K C rt dp cs pc a b v lv st lh => sI_bin K cs pc lv st lh (fun x y => x ||| y) sAny)
  (fun K C rt dp cs pc a b v lv st lh => sI_div K cs pc lv st lh (fun x y => x - x / y * y))
  (fun K C rt dp cs pc a b v lv st lh => sI_iret rt cs pc st lh)
  (fun K C rt dp cs pc a b v lv st lh => sI_bin K cs pc lv st lh (fun x y => x <<< (y &&& 31)) sAny)
  (fun K C rt dp cs pc a b v lv st lh => sI_bin K cs pc lv st lh (fun x y => x >>> (y &&& 31)) sAny)
  (fun i K C rt dp cs pc a b v lv st lh => sI_store K cs pc lv st lh sIsI i 2)
  (fun i K C rt dp cs pc a b v lv st lh => sI_store K cs pc lv st lh sIsI i 1)
  (fun K C rt dp cs pc a b v lv st lh => sI_bin K cs pc lv st lh (fun x y => x - y) sAny)
  (fun K C rt dp cs pc a b v lv st lh => sI_bin K cs pc lv st lh (fun x y => (x.toUInt32 >>> (y.toUInt32 &&& Int32.toUInt32 31)).toInt32) sAny)
  (fun K C rt dp cs pc a b v lv st lh => sI_bin K cs pc lv st lh (fun x y => x ^^^ y) sAny)
  (fun _ _ _ _ _ _ _ _ _ _ _ _ _ => none)
  (fun _ _ _ _ _ _ _ _ _ _ _ _ _ => none)
  (fun _ _ _ _ _ _ _ _ _ _ _ _ => none)
  (fun _ _ _ _ _ _ _ _ _ _ _ _ => none)
  (fun K C rt dp cs pc a b v lv st lh => sI_l2i K cs pc lv st lh)
  (fun K C rt dp cs pc a b v lv st lh => sI_lbin K cs pc lv st lh (fun x y => x + y))
  (fun K C rt dp cs pc a b v lv st lh => sI_ald K cs pc lv st lh (fun t => Nat.beq t 1))
  (fun _ _ _ _ _ _ _ _ _ _ _ _ => none)
  (fun K C rt dp cs pc a b v lv st lh => sI_last K cs pc lv st lh)
  (fun K C rt dp cs pc a b v lv st lh => sI_lcmp K cs pc lv st lh)
  (fun n K C rt dp cs pc a b v lv st lh => sI_long K cs pc lv st lh (Int64.ofNat (n : Nat)) 1)
  (fun _ K C rt dp cs pc a b v lv st lh => bif Nat.beq b 1 then K cs (pc + 2) lv ((3, ((2 * a + 1 : Nat) : Int), 0) :: st) lh else sI_int K cs pc lv st lh (Int32.ofInt v) 2)
  (fun _ K C rt dp cs pc a b v lv st lh => sI_int K cs pc lv st lh (Int32.ofInt v) 3)
  (fun _ K C rt dp cs pc a b v lv st lh => sI_long K cs pc lv st lh (Int64.ofInt v) 3)
  (fun K C rt dp cs pc a b v lv st lh => sI_ldiv K cs pc lv st lh)
  (fun i K C rt dp cs pc a b v lv st lh => sI_load K cs pc lv st lh sIsL i 2)
  (fun i K C rt dp cs pc a b v lv st lh => sI_load K cs pc lv st lh sIsL i 1)
  (fun K C rt dp cs pc a b v lv st lh => sI_lbin K cs pc lv st lh (fun x y => x * y))
  (fun _ _ _ _ _ _ _ _ _ _ _ _ => none)
  (fun _ _ _ _ _ _ _ _ _ _ _ _ _ _ => none)
  (fun _ _ _ _ _ _ _ _ _ _ _ _ => none)
  (fun _ _ _ _ _ _ _ _ _ _ _ _ => none)
  (fun K C rt dp cs pc a b v lv st lh => sI_lret rt cs pc st lh)
  (fun _ _ _ _ _ _ _ _ _ _ _ _ => none)
  (fun _ _ _ _ _ _ _ _ _ _ _ _ => none)
  (fun i K C rt dp cs pc a b v lv st lh => sI_lstore K cs pc lv st lh i 2)
  (fun i K C rt dp cs pc a b v lv st lh => sI_lstore K cs pc lv st lh i 1)
  (fun K C rt dp cs pc a b v lv st lh => sI_lbin K cs pc lv st lh (fun x y => x - y))
  (fun _ _ _ _ _ _ _ _ _ _ _ _ => none)
  (fun _ _ _ _ _ _ _ _ _ _ _ _ => none)
  (fun _ _ _ _ _ _ _ _ _ _ _ _ => none)
  (fun _ _ _ _ _ _ _ _ _ _ _ _ => none)
  (fun _ _ _ _ _ _ _ _ _ _ _ _ _ _ => none)
  (fun _ K C rt dp cs pc a b v lv st lh => sI_new K cs pc a lv st lh)
  (fun _ K C rt dp cs pc a b v lv st lh => sI_newa K cs pc a lv st lh 2)
  (fun _ _ _ _ _ _ _ _ _ _ _ _ => none)
  (fun K C rt dp cs pc a b v lv st lh => sI_pop K cs pc lv st lh)
  (fun _ _ _ _ _ _ _ _ _ _ _ _ => none)
  (fun _ K C rt dp cs pc a b v lv st lh => sI_put K cs pc a b lv st lh)
  (fun _ _ _ _ _ _ _ _ _ _ _ _ _ => none)
  (fun _ _ _ _ _ _ _ _ _ _ _ _ _ => none)
  (fun K C rt dp cs pc a b v lv st lh => sI_vret rt cs pc st lh)
  (fun _ _ _ _ _ _ _ _ _ _ _ _ => none)
  (fun _ _ _ _ _ _ _ _ _ _ _ _ => none)
  (fun n K C rt dp cs pc a b v lv st lh => sI_int K cs pc lv st lh (Int16.ofInt n).toInt32 3)
  (fun _ _ _ _ _ _ _ _ _ _ _ _ => none)
  (fun dflt lo hi offs K C rt dp cs pc a b v lv st lh => sI_table K cs pc lv st lh dflt lo hi offs)
def s_sl (vs : List sV) : Nat := (vs.map sCat).sum
def s_args : Nat → List sV → sL
  | _, [] => []
  | i, v :: vs => (i, v) :: s_args (bif Nat.beq (sCat v) 2 then i + 2 else i + 1) vs
noncomputable def sCall (ih : sI → Nat → Nat → Nat → sL → List sV → sH → Option (List sLf)) (d : Nat) (cs : sI) (j : Nat) (as : List sV) (lh : sH) : Option (List sLf) := match d with
  | 0 => none
  | d + 1 => bif Nat.ble (s_sl as) (gMax j) then ih cs j d 0 (s_args 0 as) [] lh else none
noncomputable def sStep (ih : sI → Nat → Nat → Nat → sL → List sV → sH → Option (List sLf)) (cs : sI) (j d pc : Nat) (lv : sL) (st : List sV) (lh : sH) : Option (List sLf) := fNat pc (fun pc => match sAtt j pc with
  | none => none
  | some e => sIns e.2.1 (fun cs => ih cs j d) (sCall ih d) (gRt j) (Nat.ble 1 d) cs pc e.2.2.1 e.2.2.2.1 e.2.2.2.2.1 lv st lh)
noncomputable def sRun (n : Nat) : sI → Nat → Nat → Nat → sL → List sV → sH → Option (List sLf) := Nat.rec (motive := fun _ => sI → Nat → Nat → Nat → sL → List sV → sH → Option (List sLf)) (fun _ _ _ _ _ _ _ => none) (fun _ ih => sStep ih) n
theorem sRun_zero : sRun 0 = fun _ _ _ _ _ _ _ => none := rfl
theorem sRun_succ (n : Nat) : sRun (n + 1) = sStep (sRun n) := rfl

