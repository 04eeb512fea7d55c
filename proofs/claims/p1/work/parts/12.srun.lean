/-! THE SYMBOLIC RUN: ints by intervals, inputs by name; all paths; closed, so that the kernel can do it. -/
abbrev sV : Type := Nat × Int × Int
abbrev sI : Type := List (Int × Int)
abbrev sC : Type := Nat × Nat × List (Nat × sV)
abbrev sH : Type := List sC
abbrev sL : Type := List (Nat × sV)
abbrev sLf : Type := sI × sH × Nat × List sV
def sFull : Int × Int := (-2147483648, 2147483647)
def sFulL : Int × Int := (-9223372036854775808, 9223372036854775807)
def sK0 (c : Int) : sV := (0, c, c)
def sMk (p : Int × Int) : sV := (0, p.1, p.2)
def sMkL (p : Int × Int) : sV := (1, p.1, p.2)
/-- the interval of an int value -/
def sIv (cs : sI) (v : sV) : Int × Int := bif Nat.beq v.1 0 then v.2 else cs.getD (v.1 - 10) sFull
def sIsI (v : sV) : Bool := Nat.beq v.1 0 || Nat.ble 10 v.1
def sCat (v : sV) : Nat := bif Nat.beq v.1 1 then 2 else 1
def sZ (ty : FieldType) : sV := match ty with
  | .long => (1, 0, 0)
  | .object _ => (2, 0, 0)
  | .array _ => (2, 0, 0)
  | .float => (9, 0, 0)
  | .double => (9, 0, 0)
  | _ => (0, 0, 0)
def sDf (k : Nat) (j : Nat) : sV := bif Nat.blt k 100 then sZ (gYt k j) else sZ (gTy (k - 100))
def sLk2 (j : Nat) : List (Nat × sV) → sV → sV
  | [], d => d
  | q :: l, d => bif Nat.beq j q.1 then q.2 else sLk2 j l d
def sGet (c : sC) (j : Nat) : sV := sLk2 j c.2.2 (sDf c.1 j)
def sPut (c : sC) (j : Nat) (v : sV) : sC := (c.1, c.2.1, (j, v) :: c.2.2)
def sLk (k : Nat) : sL → Option sV
  | [] => none
  | q :: l => bif Nat.beq q.1 k then some q.2 else sLk k l
def sSt1 (lv : sL) (i : Nat) (v : sV) : sL := (i, v) :: lv.filter (fun q => !(q.1 == i) && !(q.1 + 1 == i && sCat q.2 == 2))
def sSt2 (lv : sL) (i : Nat) (v : sV) : sL := (i, v) :: lv.filter (fun q => !(q.1 == i) && (!(q.1 == i + 1) && !(q.1 + 1 == i && sCat q.2 == 2)))
def sApp : Option (List sLf) → Option (List sLf) → Option (List sLf)
  | some a, some b => some (a ++ b)
  | _, _ => none
/-- never, ever, or both -/
def sCmp (c : Jvm.ClassFile.Cond) (X Y : Int × Int) : Option Bool := match c with
  | .eq => bif decide (X.1 = X.2) && (decide (Y.1 = Y.2) && decide (X.1 = Y.1)) then some true else bif decide (X.2 < Y.1) || decide (Y.2 < X.1) then some false else none
  | .ne => bif decide (X.1 = X.2) && (decide (Y.1 = Y.2) && decide (X.1 = Y.1)) then some false else bif decide (X.2 < Y.1) || decide (Y.2 < X.1) then some true else none
  | .lt => bif decide (X.2 < Y.1) then some true else bif decide (Y.2 ≤ X.1) then some false else none
  | .ge => bif decide (X.2 < Y.1) then some false else bif decide (Y.2 ≤ X.1) then some true else none
  | .gt => bif decide (Y.2 < X.1) then some true else bif decide (X.2 ≤ Y.1) then some false else none
  | .le => bif decide (Y.2 < X.1) then some false else bif decide (X.2 ≤ Y.1) then some true else none
def sNeg (c : Jvm.ClassFile.Cond) : Jvm.ClassFile.Cond := match c with
  | .eq => .ne
  | .ne => .eq
  | .lt => .ge
  | .ge => .lt
  | .gt => .le
  | .le => .gt
def sFlip (c : Jvm.ClassFile.Cond) : Jvm.ClassFile.Cond := match c with
  | .eq => .eq
  | .ne => .ne
  | .lt => .gt
  | .ge => .le
  | .gt => .lt
  | .le => .ge
/-- what is left of X where 'x c n' holds -/
def sCut (c : Jvm.ClassFile.Cond) (X : Int × Int) (n : Int) : Int × Int := match c with
  | .eq => (n, n)
  | .ne => bif decide (X.1 = n) then (n + 1, X.2) else bif decide (X.2 = n) then (X.1, n - 1) else X
  | .lt => (X.1, bif decide (X.2 < n) then X.2 else n - 1)
  | .ge => (bif decide (X.1 < n) then n else X.1, X.2)
  | .gt => (bif decide (X.1 ≤ n) then n + 1 else X.1, X.2)
  | .le => (X.1, bif decide (n < X.2) then n else X.2)
def sRef1 (c : Jvm.ClassFile.Cond) (cs : sI) (v : sV) (n : Int) : sI := bif Nat.ble 10 v.1 then cs.set (v.1 - 10) (sCut c (sIv cs v) n) else cs
def sRef (c : Jvm.ClassFile.Cond) (cs : sI) (x y : sV) : sI := bif decide ((sIv cs y).1 = (sIv cs y).2) then sRef1 c cs x (sIv cs y).1 else bif decide ((sIv cs x).1 = (sIv cs x).2) then sRef1 (sFlip c) cs y (sIv cs x).1 else cs
def sBr (c : Jvm.ClassFile.Cond) (cs : sI) (x y : sV) (kt kf : sI → Option (List sLf)) : Option (List sLf) := match sCmp c (sIv cs x) (sIv cs y) with
  | some true => kt cs
  | some false => kf cs
  | none => sApp (kt (sRef c cs x y)) (kf (sRef (sNeg c) cs x y))
/-- each value of an interval, one by one, m at most -/
def sEach (cs : sI) (v : sV) (k : sI → Int → Option (List sLf)) : Nat → Int → Option (List sLf)
  | 0, n => k (sRef1 .eq cs v n) n
  | m + 1, n => sApp (k (sRef1 .eq cs v n) n) (sEach cs v k m (n + 1))
/-- by cases over an index within 0 .. n - 1 -/
def sIdx (cs : sI) (v : sV) (n : Nat) (k : sI → Int → Option (List sLf)) : Option (List sLf) :=
  bif decide (0 ≤ (sIv cs v).1) && (decide ((sIv cs v).2 < (n : Int)) && (decide ((sIv cs v).1 ≤ (sIv cs v).2) && decide ((sIv cs v).2 - (sIv cs v).1 ≤ 64))) then sEach cs v k ((sIv cs v).2 - (sIv cs v).1).toNat (sIv cs v).1 else none
def sFitI (ty : FieldType) (X : Int × Int) : Bool := match ty with
  | .int => true
  | .boolean => decide (0 ≤ X.1) && decide (X.2 ≤ 1)
  | _ => false
def sFit (cs : sI) (ty : FieldType) (v : sV) : Bool := match ty with
  | .long => Nat.beq v.1 1
  | .object _ => Nat.beq v.1 2 || Nat.beq v.1 3
  | .array _ => Nat.beq v.1 2 || Nat.beq v.1 3
  | ty => sIsI v && sFitI ty (sIv cs v)
def sOne (X : Int × Int) : Bool := decide (X.1 = X.2)
def sBin (f : Int32 → Int32 → Int32) (g : Int × Int → Int × Int → Int × Int) (X Y : Int × Int) : sV := bif sOne X && sOne Y then sK0 (f (Int32.ofInt X.1) (Int32.ofInt Y.1)).toInt else sMk (g X Y)
def sAny (_ _ : Int × Int) : Int × Int := sFull
/-- a mask that is not negative -/
def sAnd (_ Y : Int × Int) : Int × Int := bif sOne Y && decide (0 ≤ Y.1) then (0, Y.1) else sFull
def sUn (f : Int32 → Int32) (X : Int × Int) : sV := bif sOne X then sK0 (f (Int32.ofInt X.1)).toInt else sMk sFull
def sLbin (f : Int64 → Int64 → Int64) (X Y : Int × Int) : sV := bif sOne X && sOne Y then (1, (f (Int64.ofInt X.1) (Int64.ofInt Y.1)).toInt, (f (Int64.ofInt X.1) (Int64.ofInt Y.1)).toInt) else sMkL sFulL
section SINS
variable (K : sI → Nat → sL → List sV → sH → Option (List sLf)) (C : sI → Nat → List sV → sH → Option (List sLf)) (rt : Option FieldType) (dp : Bool) (cs : sI) (pc a b : Nat) (v : Int) (lv : sL) (st : List sV) (lh : sH)
def sI_load (t : sV → Bool) (i n : Nat) : Option (List sLf) := match sLk i lv with
  | some w => bif t w then K cs (pc + n) lv (w :: st) lh else none
  | none => none
def sIsL (v : sV) : Bool := Nat.beq v.1 1
def sIsA (v : sV) : Bool := Nat.beq v.1 2 || Nat.beq v.1 3
def sI_store (t : sV → Bool) (i n : Nat) : Option (List sLf) := match st with
  | w :: r => bif t w then K cs (pc + n) (sSt1 lv i w) r lh else none
  | _ => none
def sI_lstore (i n : Nat) : Option (List sLf) := match st with
  | w :: r => bif sIsL w then K cs (pc + n) (sSt2 lv i w) r lh else none
  | _ => none
def sI_iinc (i : Nat) (n : Int) : Option (List sLf) := match sLk i lv with
  | some w => bif sIsI w then K cs (pc + 3) (sSt1 lv i (sUn (fun x => x + Int32.ofInt n) (sIv cs w))) st lh else none
  | none => none
def sI_int (x : Int32) (n : Nat) : Option (List sLf) := K cs (pc + n) lv (sK0 x.toInt :: st) lh
def sI_long (x : Int64) (n : Nat) : Option (List sLf) := K cs (pc + n) lv ((1, x.toInt, x.toInt) :: st) lh
def sI_bin (f : Int32 → Int32 → Int32) (g : Int × Int → Int × Int → Int × Int) : Option (List sLf) := match st with
  | y :: x :: r => bif sIsI y && sIsI x then K cs (pc + 1) lv (sBin f g (sIv cs x) (sIv cs y) :: r) lh else none
  | _ => none
def sI_div (f : Int32 → Int32 → Int32) : Option (List sLf) := match st with
  | y :: x :: r => bif (sIsI y && sIsI x) && (decide (0 < (sIv cs y).1) || decide ((sIv cs y).2 < 0)) then K cs (pc + 1) lv (sBin f sAny (sIv cs x) (sIv cs y) :: r) lh else none
  | _ => none
def sI_un (f : Int32 → Int32) : Option (List sLf) := match st with
  | x :: r => bif sIsI x then K cs (pc + 1) lv (sUn f (sIv cs x) :: r) lh else none
  | _ => none
def sI_lbin (f : Int64 → Int64 → Int64) : Option (List sLf) := match st with
  | y :: x :: r => bif sIsL y && sIsL x then K cs (pc + 1) lv (sLbin f x.2 y.2 :: r) lh else none
  | _ => none
def sI_ldiv : Option (List sLf) := match st with
  | y :: x :: r => bif (sIsL y && sIsL x) && (decide (0 < y.2.1) || decide (y.2.2 < 0)) then K cs (pc + 1) lv (sLbin (fun x y => x / y) x.2 y.2 :: r) lh else none
  | _ => none
def sI_lcmp : Option (List sLf) := match st with
  | y :: x :: r => bif sIsL y && sIsL x then K cs (pc + 1) lv ((bif sOne x.2 && sOne y.2 then sK0 (lg_cmp (Int64.ofInt x.2.1) (Int64.ofInt y.2.1)).toInt else sMk sFull) :: r) lh else none
  | _ => none
def sI_i2l : Option (List sLf) := match st with
  | x :: r => bif sIsI x then K cs (pc + 1) lv (sMkL (sIv cs x) :: r) lh else none
  | _ => none
def sI_l2i : Option (List sLf) := match st with
  | x :: r => bif sIsL x then K cs (pc + 1) lv ((bif sOne x.2 then sK0 (Int64.ofInt x.2.1).toInt32.toInt else sMk sFull) :: r) lh else none
  | _ => none
def sI_dup : Option (List sLf) := match st with
  | w :: r => bif Nat.beq (sCat w) 1 then K cs (pc + 1) lv (w :: w :: r) lh else none
  | _ => none
def sI_dup2 : Option (List sLf) := match st with
  | w :: r => bif Nat.beq (sCat w) 2 then K cs (pc + 1) lv (w :: w :: r) lh else (match r with
    | w2 :: r2 => bif Nat.beq (sCat w) 1 && Nat.beq (sCat w2) 1 then K cs (pc + 1) lv (w :: w2 :: w :: w2 :: r2) lh else none
    | _ => none)
  | _ => none
def sI_pop : Option (List sLf) := match st with
  | w :: r => bif Nat.beq (sCat w) 1 then K cs (pc + 1) lv r lh else none
  | _ => none
def sI_if (c : Jvm.ClassFile.Cond) : Option (List sLf) := match st with
  | x :: r => bif sIsI x then sBr c cs x (sK0 0) (fun cs => K cs a lv r lh) (fun cs => K cs (pc + 3) lv r lh) else none
  | _ => none
def sI_icmp (c : Jvm.ClassFile.Cond) : Option (List sLf) := match st with
  | y :: x :: r => bif sIsI y && sIsI x then sBr c cs x y (fun cs => K cs a lv r lh) (fun cs => K cs (pc + 3) lv r lh) else none
  | _ => none
def sI_null (t1 t2 : Nat) : Option (List sLf) := match st with
  | x :: r => bif Nat.beq x.1 2 then K cs t1 lv r lh else bif Nat.beq x.1 3 then K cs t2 lv r lh else none
  | _ => none
def sGo (pc : Nat) (off : Int) (k : Nat → Option (List sLf)) : Option (List sLf) := bif decide (0 ≤ (pc : Int) + off) then k ((pc : Int) + off).toNat else none
def sI_table (dflt lo hi : Int) (offs : Array Int) : Option (List sLf) := match st with
  | x :: r => bif sIsI x && (decide ((Int32.ofInt lo).toInt = lo) && decide ((Int32.ofInt hi).toInt = hi)) then sBr .lt cs x (sK0 lo) (fun cs => sGo pc dflt (fun t => K cs t lv r lh)) (fun cs => sBr .gt cs x (sK0 hi) (fun cs => sGo pc dflt (fun t => K cs t lv r lh)) (fun cs2 =>
      bif decide (lo ≤ hi) then sEach cs2 x (fun cs n => bif decide ((sIv cs2 x).2 < n) || decide (n < (sIv cs2 x).1) then some [] else (match offs[(n - lo).toNat]? with
        | some off => sGo pc off (fun t => K cs t lv r lh)
        | none => none)) (hi - lo).toNat lo else none)) else none
  | _ => none
def sI_get : Option (List sLf) := match st with
  | x :: r => bif Nat.beq x.1 3 then (match lh[x.2.1.toNat]? with
    | some o => bif Nat.beq o.1 a && Nat.blt a 100 then K cs (pc + 3) lv (sGet o b :: r) lh else none
    | none => none) else none
  | _ => none
def sI_put : Option (List sLf) := match st with
  | w :: x :: r => bif Nat.beq x.1 3 then (match lh[x.2.1.toNat]? with
    | some o => bif (Nat.beq o.1 a && Nat.blt a 100) && (sFit cs (gYt a b) w && Nat.ble 7 x.2.1.toNat) then K cs (pc + 3) lv r (lh.set x.2.1.toNat (sPut o b w)) else none
    | none => none) else none
  | _ => none
def sI_gets : Option (List sLf) := bif Nat.beq a 0 then K cs (pc + 3) lv (sK0 1 :: st) lh else K cs (pc + 3) lv ((4, 0, 0) :: st) lh
def sI_new : Option (List sLf) := bif Nat.blt a 100 then K cs (pc + 3) lv ((3, (lh.length : Int), 0) :: st) (lh ++ [(a, 0, [])]) else none
def sI_newa (n : Nat) : Option (List sLf) := match st with
  | x :: r => bif sIsI x && (sOne (sIv cs x) && (decide (0 ≤ (sIv cs x).1) && decide ((sIv cs x).1 ≤ 65536))) then K cs (pc + n) lv ((3, (lh.length : Int), 0) :: r) (lh ++ [(100 + a, (sIv cs x).1.toNat, [])]) else none
  | _ => none
def sI_len : Option (List sLf) := match st with
  | x :: r => bif Nat.beq x.1 3 then (match lh[x.2.1.toNat]? with
    | some o => bif Nat.ble 100 o.1 && Nat.ble o.2.1 65536 then K cs (pc + 1) lv (sK0 (o.2.1 : Int) :: r) lh else none
    | none => none) else none
  | _ => none
def sI_ald (t : Nat → Bool) : Option (List sLf) := match st with
  | i :: x :: r => bif Nat.beq x.1 3 && sIsI i then (match lh[x.2.1.toNat]? with
    | some o => bif (Nat.ble 100 o.1 && t (o.1 - 100)) && Nat.ble o.2.1 65536 then sIdx cs i o.2.1 (fun cs n => K cs (pc + 1) lv (sGet o n.toNat :: r) lh) else none
    | none => none) else none
  | _ => none
def sNar (t : Nat) (X : Int × Int) : sV := bif Nat.beq t 2 then (bif sOne X then sK0 (Int32.ofInt X.1).toInt8.toInt32.toInt else (0, -128, 127)) else (bif sOne X then sK0 (Int32.ofInt X.1 &&& 1).toInt else (0, 0, 1))
def sI_ist (t : Nat → Bool) (g : Nat → sV → sV) : Option (List sLf) := match st with
  | w :: i :: x :: r => bif Nat.beq x.1 3 && (sIsI i && sIsI w) then (match lh[x.2.1.toNat]? with
    | some o => bif (Nat.ble 100 o.1 && t (o.1 - 100)) && (Nat.ble o.2.1 65536 && Nat.ble 7 x.2.1.toNat) then sIdx cs i o.2.1 (fun cs n => K cs (pc + 1) lv r (lh.set x.2.1.toNat (sPut o n.toNat (g (o.1 - 100) w)))) else none
    | none => none) else none
  | _ => none
def sI_last : Option (List sLf) := match st with
  | w :: i :: x :: r => bif Nat.beq x.1 3 && (sIsI i && sIsL w) then (match lh[x.2.1.toNat]? with
    | some o => bif (Nat.ble 100 o.1 && Nat.beq (o.1 - 100) 1) && (Nat.ble o.2.1 65536 && Nat.ble 7 x.2.1.toNat) then sIdx cs i o.2.1 (fun cs n => K cs (pc + 1) lv r (lh.set x.2.1.toNat (sPut o n.toNat w))) else none
    | none => none) else none
  | _ => none
def sI_aast : Option (List sLf) := match st with
  | w :: i :: x :: r => bif Nat.beq x.1 3 && (sIsI i && Nat.beq w.1 3) then (match lh[x.2.1.toNat]? with
    | some o => (match lh[w.2.1.toNat]? with
      | some ob => bif (Nat.ble 100 o.1 && (Nat.beq (gEl (o.1 - 100)) ob.1 && Nat.blt ob.1 100)) && (Nat.ble o.2.1 65536 && Nat.ble 7 x.2.1.toNat) then sIdx cs i o.2.1 (fun cs n => K cs (pc + 1) lv r (lh.set x.2.1.toNat (sPut o n.toNat w))) else none
      | none => none)
    | none => none) else none
  | _ => none
def sBack (lv : sL) (n : Nat) (r : List sV) : List sLf → Option (List sLf)
  | [] => some []
  | f :: l => sApp (K f.1 (pc + n) lv (f.2.2.2 ++ r) f.2.1) (sBack lv n r l)
def sCats (st : List sV) : Bool := Nat.ble (st.map sCat).sum 8
def sI_virt : Option (List sLf) := match st.drop b with
  | x :: r => bif Nat.beq x.1 3 then (match lh[x.2.1.toNat]? with
    | some o => bif (Int.toNat v == o.1 && Nat.blt o.1 100) && sCats r then (match C cs a (x :: (st.take b).reverse) lh with
      | some l => sBack K pc lv 3 r l
      | none => none) else none
    | none => none) else none
  | _ => none
def sI_stat : Option (List sLf) := bif Nat.ble b st.length && sCats (st.drop b) then (match C cs a (st.take b).reverse lh with
    | some l => sBack K pc lv 3 (st.drop b) l
    | none => none) else none
def sI_spec : Option (List sLf) := bif Nat.beq a 9999 then (match st with
  | x :: r => bif Nat.beq x.1 3 && (dp && sCats r) then K cs (pc + 3) lv r lh else none
  | _ => none) else (match st.drop b with
  | x :: r => bif Nat.beq x.1 3 && sCats r then (match C cs a (x :: (st.take b).reverse) lh with
      | some l => sBack K pc lv 3 r l
      | none => none) else none
  | _ => none)
def sI_iret : Option (List sLf) := match st with
  | [x] => (match rt with
    | some ty => bif sIsI x && (sFitI ty (sIv cs x) || (sOne (sIv cs x) && decide (narrow ty (.int (Int32.ofInt (sIv cs x).1)) = .int (Int32.ofInt (sIv cs x).1)))) then some [(cs, lh, pc, st)] else none
    | none => none)
  | _ => none
def sI_lret : Option (List sLf) := match st with
  | [x] => (match rt with
    | some .long => bif sIsL x then some [(cs, lh, pc, st)] else none
    | _ => none)
  | _ => none
def sI_aret : Option (List sLf) := match rt with
  | some (.object _) => (match st with
    | [x] => bif sIsA x then some [(cs, lh, pc, st)] else none
    | _ => none)
  | some (.array _) => (match st with
    | [x] => bif sIsA x then some [(cs, lh, pc, st)] else none
    | _ => none)
  | _ => none
def sI_vret : Option (List sLf) := match st with
  | [] => (match rt with
    | none => some [(cs, lh, pc, st)]
    | _ => none)
  | _ => none
def sIns : Instr → Option (List sLf)
  | .iload_n i => sI_load K cs pc lv st lh sIsI i 1
  | .iload i => sI_load K cs pc lv st lh sIsI i 2
  | .lload_n i => sI_load K cs pc lv st lh sIsL i 1
  | .lload i => sI_load K cs pc lv st lh sIsL i 2
  | .aload_n i => sI_load K cs pc lv st lh sIsA i 1
  | .aload i => sI_load K cs pc lv st lh sIsA i 2
  | .istore_n i => sI_store K cs pc lv st lh sIsI i 1
  | .istore i => sI_store K cs pc lv st lh sIsI i 2
  | .lstore_n i => sI_lstore K cs pc lv st lh i 1
  | .lstore i => sI_lstore K cs pc lv st lh i 2
  | .astore_n i => sI_store K cs pc lv st lh sIsA i 1
  | .astore i => sI_store K cs pc lv st lh sIsA i 2
  | .iinc i n => sI_iinc K cs pc lv st lh i n
  | .iconst n => sI_int K cs pc lv st lh (Int32.ofInt n) 1
  | .bipush n => sI_int K cs pc lv st lh (Int8.ofInt n).toInt32 2
  | .sipush n => sI_int K cs pc lv st lh (Int16.ofInt n).toInt32 3
  | .lconst n => sI_long K cs pc lv st lh (Int64.ofNat (n : Nat)) 1
  | .aconst_null => K cs (pc + 1) lv ((2, 0, 0) :: st) lh
  | .ldc _ => bif Nat.beq b 1 then K cs (pc + 2) lv ((3, ((2 * a + 1 : Nat) : Int), 0) :: st) lh else sI_int K cs pc lv st lh (Int32.ofInt v) 2
  | .ldc_w _ => sI_int K cs pc lv st lh (Int32.ofInt v) 3
  | .ldc2_w _ => sI_long K cs pc lv st lh (Int64.ofInt v) 3
  | .iadd => sI_bin K cs pc lv st lh (fun x y => x + y) sAny
  | .isub => sI_bin K cs pc lv st lh (fun x y => x - y) sAny
  | .imul => sI_bin K cs pc lv st lh (fun x y => x * y) sAny
  | .iand => sI_bin K cs pc lv st lh (fun x y => x &&& y) sAnd
  | .ior => sI_bin K cs pc lv st lh (fun x y => x ||| y) sAny
  | .ixor => sI_bin K cs pc lv st lh (fun x y => x ^^^ y) sAny
  | .ishl => sI_bin K cs pc lv st lh (fun x y => x <<< (y &&& 31)) sAny
  | .ishr => sI_bin K cs pc lv st lh (fun x y => x >>> (y &&& 31)) sAny
  | .iushr => sI_bin K cs pc lv st lh (fun x y => (x.toUInt32 >>> (y.toUInt32 &&& Int32.toUInt32 31)).toInt32) sAny
  | .idiv => sI_div K cs pc lv st lh (fun x y => x / y)
  | .irem => sI_div K cs pc lv st lh (fun x y => x - x / y * y)
  | .ineg => sI_un K cs pc lv st lh (fun x => -x)
  | .i2b => sI_un K cs pc lv st lh (fun x => x.toInt8.toInt32)
  | .i2c => sI_un K cs pc lv st lh (fun x => (x.toUInt32 % 65536).toInt32)
  | .ladd => sI_lbin K cs pc lv st lh (fun x y => x + y)
  | .lsub => sI_lbin K cs pc lv st lh (fun x y => x - y)
  | .lmul => sI_lbin K cs pc lv st lh (fun x y => x * y)
  | .ldiv => sI_ldiv K cs pc lv st lh
  | .lcmp => sI_lcmp K cs pc lv st lh
  | .i2l => sI_i2l K cs pc lv st lh
  | .l2i => sI_l2i K cs pc lv st lh
  | .dup => sI_dup K cs pc lv st lh
  | .dup2 => sI_dup2 K cs pc lv st lh
  | .pop => sI_pop K cs pc lv st lh
  | .ifCond c _ => sI_if K cs pc a lv st lh c
  | .if_icmp c _ => sI_icmp K cs pc a lv st lh c
  | .ifnull _ => sI_null K cs lv st lh a (pc + 3)
  | .ifnonnull _ => sI_null K cs lv st lh (pc + 3) a
  | .goto _ => K cs a lv st lh
  | .tableswitch dflt lo hi offs => sI_table K cs pc lv st lh dflt lo hi offs
  | .getfield _ => sI_get K cs pc a b lv st lh
  | .putfield _ => sI_put K cs pc a b lv st lh
  | .getstatic _ => sI_gets K cs pc a lv st lh
  | .new _ => sI_new K cs pc a lv st lh
  | .newarray _ => sI_newa K cs pc a lv st lh 2
  | .anewarray _ => sI_newa K cs pc a lv st lh 3
  | .arraylength => sI_len K cs pc lv st lh
  | .iaload => sI_ald K cs pc lv st lh (fun t => Nat.beq t 0)
  | .laload => sI_ald K cs pc lv st lh (fun t => Nat.beq t 1)
  | .baload => sI_ald K cs pc lv st lh (fun t => Nat.beq t 2 || Nat.beq t 3)
  | .aaload => sI_ald K cs pc lv st lh (fun t => Nat.ble 4 t)
  | .iastore => sI_ist K cs pc lv st lh (fun t => Nat.beq t 0) (fun _ w => w)
  | .bastore => sI_ist K cs pc lv st lh (fun t => Nat.beq t 2 || Nat.beq t 3) (fun t w => sNar t (sIv cs w))
  | .lastore => sI_last K cs pc lv st lh
  | .aastore => sI_aast K cs pc lv st lh
  | .invokevirtual _ => sI_virt K C cs pc a b v lv st lh
  | .invokestatic _ => sI_stat K C cs pc a b lv st lh
  | .invokespecial _ => sI_spec K C dp cs pc a b lv st lh
  | .ireturn => sI_iret rt cs pc st lh
  | .lreturn => sI_lret rt cs pc st lh
  | .areturn => sI_aret rt cs pc st lh
  | .return_ => sI_vret rt cs pc st lh
  | _ => none
end SINS
def s_sl (vs : List sV) : Nat := (vs.map sCat).sum
def s_args : Nat → List sV → sL
  | _, [] => []
  | i, v :: vs => (i, v) :: s_args (bif Nat.beq (sCat v) 2 then i + 2 else i + 1) vs
def sCall (ih : sI → Nat → Nat → Nat → sL → List sV → sH → Option (List sLf)) (d : Nat) (cs : sI) (j : Nat) (as : List sV) (lh : sH) : Option (List sLf) := match d with
  | 0 => none
  | d + 1 => bif Nat.ble (s_sl as) (gMax j) then ih cs j d 0 (s_args 0 as) [] lh else none
def sStep (ih : sI → Nat → Nat → Nat → sL → List sV → sH → Option (List sLf)) (cs : sI) (j d pc : Nat) (lv : sL) (st : List sV) (lh : sH) : Option (List sLf) := match gAtt j pc with
  | none => none
  | some e => sIns (fun cs => ih cs j d) (sCall ih d) (gRt j) (Nat.ble 1 d) cs pc e.2.2.1 e.2.2.2.1 e.2.2.2.2.1 lv st lh e.2.1
noncomputable def sRun (n : Nat) : sI → Nat → Nat → Nat → sL → List sV → sH → Option (List sLf) := Nat.rec (motive := fun _ => sI → Nat → Nat → Nat → sL → List sV → sH → Option (List sLf)) (fun _ _ _ _ _ _ _ => none) (fun _ ih => sStep ih) n
theorem sRun_zero : sRun 0 = fun _ _ _ _ _ _ _ => none := rfl
theorem sRun_succ (n : Nat) : sRun (n + 1) = sStep (sRun n) := rfl
