/-! THE RUN: a pure run of the methods over the pure picture; a run stops ahead of the return. -/
abbrev gO : Type := gH × Nat × List Value
def gup (f : Nat → Value) (k : Nat) (v : Value) : Nat → Value := fun j => bif Nat.beq j k then v else f j
def gLk (k : Nat) : gL → Option Value
  | [] => none
  | q :: l => bif Nat.beq q.1 k then some q.2 else gLk k l
def gSt1 (lv : gL) (i : Nat) (v : Value) : gL := (i, v) :: lv.filter (fun q => !(q.1 == i) && !(q.1 + 1 == i && q.2.category == 2))
def gSt2 (lv : gL) (i : Nat) (v : Value) : gL := (i, v) :: lv.filter (fun q => !(q.1 == i) && (!(q.1 == i + 1) && !(q.1 + 1 == i && q.2.category == 2)))
def gCmp (c : Jvm.ClassFile.Cond) (x y : Int32) : Bool := match c with
  | .eq => decide (x = y)
  | .ne => decide (¬ x = y)
  | .lt => decide (x < y)
  | .ge => decide (y ≤ x)
  | .gt => decide (y < x)
  | .le => decide (x ≤ y)
def gFit (ty : FieldType) (w : Value) : Bool := decide (narrow ty w = w) && fits ty w
def gIn (x : Int32) (n : Nat) : Bool := !decide (x < 0) && Nat.blt x.toNatClampNeg n
def gCat (st : List Value) : Bool := Nat.ble (st.map fun v => v.category).sum 8
def gMax (j : Nat) : Nat := (gM j).2.1
def gRt (j : Nat) : Option FieldType := (gM j).2.2.1
def gEl : Nat → Nat
  | 4 => 6
  | 5 => 7
  | 6 => 1
  | _ => 99
section GINS
variable (K : Nat → gL → List Value → gH → Option gO) (C : Nat → List Value → gH → Option gO) (rt : Option FieldType) (dp : Bool) (pc a b : Nat) (v : Int) (lv : gL) (st : List Value) (lh : gH)
def gI_iload (i n : Nat) : Option gO := match gLk i lv with
  | some (.int x) => K (pc + n) lv (.int x :: st) lh
  | _ => none
def gI_lload (i n : Nat) : Option gO := match gLk i lv with
  | some (.long x) => K (pc + n) lv (.long x :: st) lh
  | _ => none
def gI_aload (i n : Nat) : Option gO := match gLk i lv with
  | some (.ref x) => K (pc + n) lv (.ref x :: st) lh
  | some .null => K (pc + n) lv (.null :: st) lh
  | _ => none
def gI_istore (i n : Nat) : Option gO := match st with
  | .int x :: r => K (pc + n) (gSt1 lv i (.int x)) r lh
  | _ => none
def gI_astore (i n : Nat) : Option gO := match st with
  | .ref x :: r => K (pc + n) (gSt1 lv i (.ref x)) r lh
  | .null :: r => K (pc + n) (gSt1 lv i .null) r lh
  | _ => none
def gI_lstore (i n : Nat) : Option gO := match st with
  | .long x :: r => K (pc + n) (gSt2 lv i (.long x)) r lh
  | _ => none
def gI_iinc (i : Nat) (n : Int) : Option gO := match gLk i lv with
  | some (.int x) => K (pc + 3) (gSt1 lv i (.int (x + Int32.ofInt n))) st lh
  | _ => none
def gI_int (x : Int32) (n : Nat) : Option gO := K (pc + n) lv (.int x :: st) lh
def gI_long (x : Int64) (n : Nat) : Option gO := K (pc + n) lv (.long x :: st) lh
def gI_bin (f : Int32 → Int32 → Int32) : Option gO := match st with
  | .int y :: .int x :: r => K (pc + 1) lv (.int (f x y) :: r) lh
  | _ => none
def gI_div (f : Int32 → Int32 → Int32) : Option gO := match st with
  | .int y :: .int x :: r => bif decide (y = 0) then none else K (pc + 1) lv (.int (f x y) :: r) lh
  | _ => none
def gI_un (f : Int32 → Int32) : Option gO := match st with
  | .int x :: r => K (pc + 1) lv (.int (f x) :: r) lh
  | _ => none
def gI_lbin (f : Int64 → Int64 → Int64) : Option gO := match st with
  | .long y :: .long x :: r => K (pc + 1) lv (.long (f x y) :: r) lh
  | _ => none
def gI_ldiv : Option gO := match st with
  | .long y :: .long x :: r => bif decide (y = 0) then none else K (pc + 1) lv (.long (x / y) :: r) lh
  | _ => none
def gI_lcmp : Option gO := match st with
  | .long y :: .long x :: r => K (pc + 1) lv (.int (lg_cmp x y) :: r) lh
  | _ => none
def gI_i2l : Option gO := match st with
  | .int x :: r => K (pc + 1) lv (.long x.toInt64 :: r) lh
  | _ => none
def gI_l2i : Option gO := match st with
  | .long x :: r => K (pc + 1) lv (.int x.toInt32 :: r) lh
  | _ => none
def gI_dup : Option gO := match st with
  | w :: r => bif Nat.beq w.category 1 then K (pc + 1) lv (w :: w :: r) lh else none
  | _ => none
def gI_dup2 : Option gO := match st with
  | w :: r => bif Nat.beq w.category 2 then K (pc + 1) lv (w :: w :: r) lh else (match r with
    | w2 :: r2 => bif Nat.beq w.category 1 && Nat.beq w2.category 1 then K (pc + 1) lv (w :: w2 :: w :: w2 :: r2) lh else none
    | _ => none)
  | _ => none
def gI_pop : Option gO := match st with
  | w :: r => bif Nat.beq w.category 1 then K (pc + 1) lv r lh else none
  | _ => none
def gI_if (c : Jvm.ClassFile.Cond) : Option gO := match st with
  | .int x :: r => bif gCmp c x 0 then K a lv r lh else K (pc + 3) lv r lh
  | _ => none
def gI_icmp (c : Jvm.ClassFile.Cond) : Option gO := match st with
  | .int y :: .int x :: r => bif gCmp c x y then K a lv r lh else K (pc + 3) lv r lh
  | _ => none
def gI_ifnull : Option gO := match st with
  | .ref _ :: r => K (pc + 3) lv r lh
  | .null :: r => K a lv r lh
  | _ => none
def gI_ifnonnull : Option gO := match st with
  | .ref _ :: r => K a lv r lh
  | .null :: r => K (pc + 3) lv r lh
  | _ => none
def gI_table (dflt lo hi : Int) (offs : Array Int) : Option gO := match st with
  | .int x :: r => bif decide (x.toInt < lo) || decide (hi < x.toInt) then (bif decide (0 ≤ (pc : Int) + dflt) then K ((pc : Int) + dflt).toNat lv r lh else none) else (match offs[(x.toInt - lo).toNat]? with
    | some off => bif decide (0 ≤ (pc : Int) + off) then K ((pc : Int) + off).toNat lv r lh else none
    | none => none)
  | _ => none
def gI_lookup (dflt : Int) (ps : Array (Int × Int)) : Option gO := match st with
  | .int x :: r => bif decide (0 ≤ (pc : Int) + Op.lookupswitch.offset ps.toList dflt x.toInt) then K ((pc : Int) + Op.lookupswitch.offset ps.toList dflt x.toInt).toNat lv r lh else none
  | _ => none
def gI_get : Option gO := match st with
  | .ref i :: r => (match lh[i]? with
    | some (.inl o) => bif Nat.beq o.1 a then K (pc + 3) lv (o.2 b :: r) lh else none
    | _ => none)
  | _ => none
def gI_put : Option gO := match st with
  | w :: .ref i :: r => (match lh[i]? with
    | some (.inl o) => bif Nat.beq o.1 a && (gFit (gYt a b) w && Nat.ble 7 i) then K (pc + 3) lv r (lh.set i (.inl (o.1, gup o.2 b w))) else none
    | _ => none)
  | _ => none
def gI_gets : Option gO := bif Nat.beq a 0 then K (pc + 3) lv (.int 1 :: st) lh else K (pc + 3) lv (.retAddr 0 :: st) lh
def gI_new : Option gO := K (pc + 3) lv (.ref lh.length :: st) (lh ++ [.inl (a, fun j => defaultValue (gYt a j))])
def gI_newa (n : Nat) : Option gO := match st with
  | .int x :: r => bif !decide (x < 0) && Nat.ble x.toNatClampNeg 65536 then K (pc + n) lv (.ref lh.length :: r) (lh ++ [.inr (a, x.toNatClampNeg, fun _ => defaultValue (gTy a))]) else none
  | _ => none
def gI_len : Option gO := match st with
  | .ref i :: r => (match lh[i]? with
    | some (.inr y) => K (pc + 1) lv (.int (Int32.ofNat y.2.1) :: r) lh
    | _ => none)
  | _ => none
def gI_ald (t : Nat → Bool) : Option gO := match st with
  | .int x :: .ref i :: r => (match lh[i]? with
    | some (.inr y) => bif t y.1 && gIn x y.2.1 then K (pc + 1) lv (y.2.2 x.toNatClampNeg :: r) lh else none
    | _ => none)
  | _ => none
def gI_ist (t : Nat → Bool) (g : Nat → Int32 → Value) : Option gO := match st with
  | .int w :: .int x :: .ref i :: r => (match lh[i]? with
    | some (.inr y) => bif t y.1 && (gIn x y.2.1 && Nat.ble 7 i) then K (pc + 1) lv r (lh.set i (.inr (y.1, y.2.1, gup y.2.2 x.toNatClampNeg (g y.1 w)))) else none
    | _ => none)
  | _ => none
def gI_last : Option gO := match st with
  | .long w :: .int x :: .ref i :: r => (match lh[i]? with
    | some (.inr y) => bif Nat.beq y.1 1 && (gIn x y.2.1 && Nat.ble 7 i) then K (pc + 1) lv r (lh.set i (.inr (y.1, y.2.1, gup y.2.2 x.toNatClampNeg (.long w)))) else none
    | _ => none)
  | _ => none
def gI_aast : Option gO := match st with
  | .ref w :: .int x :: .ref i :: r => (match lh[i]? with
    | some (.inr y) => (match lh[w]? with
      | some (.inl o) => bif Nat.beq (gEl y.1) o.1 && (gIn x y.2.1 && Nat.ble 7 i) then K (pc + 1) lv r (lh.set i (.inr (y.1, y.2.1, gup y.2.2 x.toNatClampNeg (.ref w)))) else none
      | _ => none)
    | _ => none)
  | _ => none
def gBack (lv : gL) (n : Nat) (r : List Value) : Option gO → Option gO
  | some o => K (pc + n) lv (o.2.2 ++ r) o.1
  | none => none
def gI_virt : Option gO := match st.drop b with
  | .ref i :: r => (match lh[i]? with
    | some (.inl o) => bif Int.toNat v == o.1 && gCat r then gBack K pc lv 3 r (C a (.ref i :: (st.take b).reverse) lh) else none
    | _ => none)
  | _ => none
def gI_stat : Option gO := bif Nat.ble b st.length && gCat (st.drop b) then gBack K pc lv 3 (st.drop b) (C a (st.take b).reverse lh) else none
def gI_spec : Option gO := bif Nat.beq a 9999 then (match st with
  | .ref _ :: r => bif dp && gCat r then K (pc + 3) lv r lh else none
  | _ => none) else (match st.drop b with
  | .ref i :: r => bif gCat r then gBack K pc lv 3 r (C a (.ref i :: (st.take b).reverse) lh) else none
  | _ => none)
def gI_iret : Option gO := match st with
  | [.int x] => (match rt with
    | some ty => bif decide (narrow ty (.int x) = .int x) then some (lh, pc, st) else none
    | none => none)
  | _ => none
def gI_lret : Option gO := match st with
  | [.long _] => (match rt with
    | some .long => some (lh, pc, st)
    | _ => none)
  | _ => none
def gI_aret : Option gO := match rt with
  | some (.object _) => (match st with
    | [.ref _] => some (lh, pc, st)
    | [.null] => some (lh, pc, st)
    | _ => none)
  | some (.array _) => (match st with
    | [.ref _] => some (lh, pc, st)
    | [.null] => some (lh, pc, st)
    | _ => none)
  | _ => none
def gI_vret : Option gO := match st with
  | [] => (match rt with
    | none => some (lh, pc, st)
    | _ => none)
  | _ => none
def gIns : Instr → Option gO
  | .iload_n i => gI_iload K pc lv st lh i 1
  | .iload i => gI_iload K pc lv st lh i 2
  | .lload_n i => gI_lload K pc lv st lh i 1
  | .lload i => gI_lload K pc lv st lh i 2
  | .aload_n i => gI_aload K pc lv st lh i 1
  | .aload i => gI_aload K pc lv st lh i 2
  | .istore_n i => gI_istore K pc lv st lh i 1
  | .istore i => gI_istore K pc lv st lh i 2
  | .lstore_n i => gI_lstore K pc lv st lh i 1
  | .lstore i => gI_lstore K pc lv st lh i 2
  | .astore_n i => gI_astore K pc lv st lh i 1
  | .astore i => gI_astore K pc lv st lh i 2
  | .iinc i n => gI_iinc K pc lv st lh i n
  | .iconst n => gI_int K pc lv st lh (Int32.ofInt n) 1
  | .bipush n => gI_int K pc lv st lh (Int8.ofInt n).toInt32 2
  | .sipush n => gI_int K pc lv st lh (Int16.ofInt n).toInt32 3
  | .lconst n => gI_long K pc lv st lh (Int64.ofNat (n : Nat)) 1
  | .aconst_null => K (pc + 1) lv (.null :: st) lh
  | .ldc _ => bif Nat.beq b 1 then K (pc + 2) lv (.ref (2 * a + 1) :: st) lh else gI_int K pc lv st lh (Int32.ofInt v) 2
  | .ldc_w _ => gI_int K pc lv st lh (Int32.ofInt v) 3
  | .ldc2_w _ => gI_long K pc lv st lh (Int64.ofInt v) 3
  | .iadd => gI_bin K pc lv st lh (fun x y => x + y)
  | .isub => gI_bin K pc lv st lh (fun x y => x - y)
  | .imul => gI_bin K pc lv st lh (fun x y => x * y)
  | .iand => gI_bin K pc lv st lh (fun x y => x &&& y)
  | .ior => gI_bin K pc lv st lh (fun x y => x ||| y)
  | .ixor => gI_bin K pc lv st lh (fun x y => x ^^^ y)
  | .ishl => gI_bin K pc lv st lh (fun x y => x <<< (y &&& 31))
  | .ishr => gI_bin K pc lv st lh (fun x y => x >>> (y &&& 31))
  | .iushr => gI_bin K pc lv st lh (fun x y => (x.toUInt32 >>> (y.toUInt32 &&& Int32.toUInt32 31)).toInt32)
  | .idiv => gI_div K pc lv st lh (fun x y => x / y)
  | .irem => gI_div K pc lv st lh (fun x y => x - x / y * y)
  | .ineg => gI_un K pc lv st lh (fun x => -x)
  | .i2b => gI_un K pc lv st lh (fun x => x.toInt8.toInt32)
  | .i2c => gI_un K pc lv st lh (fun x => (x.toUInt32 % 65536).toInt32)
  | .ladd => gI_lbin K pc lv st lh (fun x y => x + y)
  | .lsub => gI_lbin K pc lv st lh (fun x y => x - y)
  | .lmul => gI_lbin K pc lv st lh (fun x y => x * y)
  | .ldiv => gI_ldiv K pc lv st lh
  | .lcmp => gI_lcmp K pc lv st lh
  | .i2l => gI_i2l K pc lv st lh
  | .l2i => gI_l2i K pc lv st lh
  | .dup => gI_dup K pc lv st lh
  | .dup2 => gI_dup2 K pc lv st lh
  | .pop => gI_pop K pc lv st lh
  | .ifCond c _ => gI_if K pc a lv st lh c
  | .if_icmp c _ => gI_icmp K pc a lv st lh c
  | .ifnull _ => gI_ifnull K pc a lv st lh
  | .ifnonnull _ => gI_ifnonnull K pc a lv st lh
  | .goto _ => K a lv st lh
  | .tableswitch dflt lo hi offs => gI_table K pc lv st lh dflt lo hi offs
  | .lookupswitch dflt ps => gI_lookup K pc lv st lh dflt ps
  | .getfield _ => gI_get K pc a b lv st lh
  | .putfield _ => gI_put K pc a b lv st lh
  | .getstatic _ => gI_gets K pc a lv st lh
  | .new _ => gI_new K pc a lv st lh
  | .newarray _ => gI_newa K pc a lv st lh 2
  | .anewarray _ => gI_newa K pc a lv st lh 3
  | .arraylength => gI_len K pc lv st lh
  | .iaload => gI_ald K pc lv st lh (fun t => Nat.beq t 0)
  | .laload => gI_ald K pc lv st lh (fun t => Nat.beq t 1)
  | .baload => gI_ald K pc lv st lh (fun t => Nat.beq t 2 || Nat.beq t 3)
  | .aaload => gI_ald K pc lv st lh (fun t => Nat.ble 4 t)
  | .iastore => gI_ist K pc lv st lh (fun t => Nat.beq t 0) (fun _ w => .int w)
  | .bastore => gI_ist K pc lv st lh (fun t => Nat.beq t 2 || Nat.beq t 3) (fun t w => narrow (gTy t) (.int w))
  | .lastore => gI_last K pc lv st lh
  | .aastore => gI_aast K pc lv st lh
  | .invokevirtual _ => gI_virt K C pc a b v lv st lh
  | .invokestatic _ => gI_stat K C pc a b lv st lh
  | .invokespecial _ => gI_spec K C dp pc a b lv st lh
  | .ireturn => gI_iret rt pc st lh
  | .lreturn => gI_lret rt pc st lh
  | .areturn => gI_aret rt pc st lh
  | .return_ => gI_vret rt pc st lh
  | _ => none
end GINS
def gCall (ih : Nat → Nat → Nat → gL → List Value → gH → Option gO) (d j : Nat) (as : List Value) (lh : gH) : Option gO := match d with
  | 0 => none
  | d + 1 => bif Nat.ble (lg_sl as).length (gMax j) then ih j d 0 (lv_args 0 as) [] lh else none
def gStep (ih : Nat → Nat → Nat → gL → List Value → gH → Option gO) (j d pc : Nat) (lv : gL) (st : List Value) (lh : gH) : Option gO := match gAtt j pc with
  | none => none
  | some e => gIns (ih j d) (gCall ih d) (gRt j) (Nat.ble 1 d) pc e.2.2.1 e.2.2.2.1 e.2.2.2.2.1 lv st lh e.2.1
/-- n steps at most, calls d deep at most -/
noncomputable def gRun (n : Nat) : Nat → Nat → Nat → gL → List Value → gH → Option gO := Nat.rec (motive := fun _ => Nat → Nat → Nat → gL → List Value → gH → Option gO) (fun _ _ _ _ _ _ => none) (fun _ ih => gStep ih) n
theorem gRun_zero : gRun 0 = fun _ _ _ _ _ _ => none := rfl
theorem gRun_succ (n : Nat) : gRun (n + 1) = gStep (gRun n) := rfl
