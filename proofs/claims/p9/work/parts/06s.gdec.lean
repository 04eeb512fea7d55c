/-! INSTRUCTIONS BY THEIR BYTES (printed by wip/gen/gen07r.py). -/
abbrev gRd (α : Type) : Type := Jvm.ClassFile.Decoder α
abbrev gU (b : ByteArray) (p x : Nat) : Prop := (Jvm.ClassFile.Reader.u1 : gRd Nat) b p = .ok (x, p + 1)
abbrev gU2 (b : ByteArray) (p x : Nat) : Prop := (Jvm.ClassFile.Reader.u2 : gRd Nat) b p = .ok (x, p + 2)
abbrev gS1 (b : ByteArray) (p : Nat) (x : Int) : Prop := (Jvm.ClassFile.Reader.s1 : gRd Int) b p = .ok (x, p + 1)
abbrev gS2 (b : ByteArray) (p : Nat) (x : Int) : Prop := (Jvm.ClassFile.Reader.s2 : gRd Int) b p = .ok (x, p + 2)
theorem gU_of {b : ByteArray} {p : Nat} {y : UInt8} {r : List UInt8} (h : b.data.toList.drop p = y :: r) : gU b p y.toNat := by
  have q : b.data.toList[p]? = some y := by
    have t := List.getElem?_drop (xs := b.data.toList) (i := p) (j := 0)
    rw [h] at t
    exact t.symm
  obtain ⟨hl, hy⟩ := List.getElem?_eq_some_iff.mp q
  have hp : p < b.size := hl
  show (if h : p < b.size then (do set (p + 1); pure (b[p]).toNat : gRd Nat) else throw (Jvm.ClassFile.HasTruncated.truncated p)) b p = _
  rw [dif_pos hp]
  show Except.ok ((b[p]).toNat, p + 1) = _
  have e : b[p] = y := hy
  rw [e]
theorem gU2_of {b : ByteArray} {p x y : Nat} (h1 : gU b p x) (h2 : gU b (p + 1) y) : gU2 b p (x * 256 + y) := by
  show Except.bind (Jvm.ClassFile.Reader.u1 b p) _ = _
  rw [h1]
  show Except.bind (Jvm.ClassFile.Reader.u1 b (p + 1)) _ = _
  rw [h2]
  rfl
theorem gS1_of {b : ByteArray} {p x : Nat} (h : gU b p x) : gS1 b p (Jvm.ClassFile.Reader.signed 8 x) := by
  show Except.bind (Jvm.ClassFile.Reader.u1 b p) _ = _
  rw [h]
  rfl
theorem gS2_of {b : ByteArray} {p x : Nat} (h : gU2 b p x) : gS2 b p (Jvm.ClassFile.Reader.signed 16 x) := by
  show Except.bind (Jvm.ClassFile.Reader.u2 b p) _ = _
  rw [h]
  rfl
noncomputable def gPx (l : List Nat) : List UInt8 → Bool := List.rec (motive := fun _ => List UInt8 → Bool) (fun _ => true) (fun x _ ih => List.rec (motive := fun _ => Bool) false (fun y r _ => Nat.beq x y.toNat && ih r)) l
theorem gPx_st {b : ByteArray} {p x : Nat} {xs : List Nat} {l : List UInt8} (hl : b.data.toList.drop p = l) (h : gPx (x :: xs) l = true) : gU b p x ∧ ∃ r, b.data.toList.drop (p + 1) = r ∧ gPx xs r = true := by
  cases l with
  | nil => exact absurd h (by intro z; cases z)
  | cons y r =>
    have h2 : (Nat.beq x y.toNat && gPx xs r) = true := h
    rw [Bool.and_eq_true] at h2
    have e : x = y.toNat := Nat.eq_of_beq_eq_true h2.1
    refine ⟨by rw [e]; exact gU_of hl, r, ?_, h2.2⟩
    have t := List.drop_drop (l := b.data.toList) (i := 1) (j := p)
    rw [hl] at t
    first
    | exact t.symm
    | (rw [Nat.add_comm] at t; exact t.symm)
theorem gPy1 {b : ByteArray} {p x : Nat} {l : List UInt8} (hl : b.data.toList.drop p = l) (h : gPx [x] l = true) : gU b p x := (gPx_st hl h).1
theorem gPy2 {b : ByteArray} {p x y : Nat} {l : List UInt8} (hl : b.data.toList.drop p = l) (h : gPx [x, y] l = true) : gU b p x ∧ gU b (p + 1) y := by
  obtain ⟨h1, r, hr, h2⟩ := gPx_st hl h
  exact ⟨h1, gPy1 hr h2⟩
theorem gPy3 {b : ByteArray} {p x y z : Nat} {l : List UInt8} (hl : b.data.toList.drop p = l) (h : gPx [x, y, z] l = true) : gU b p x ∧ gU b (p + 1) y ∧ gU b (p + 1 + 1) z := by
  obtain ⟨h1, r, hr, h2⟩ := gPx_st hl h
  exact ⟨h1, gPy2 hr h2⟩
theorem gPy3u {b : ByteArray} {p x i : Nat} {l : List UInt8} (hl : b.data.toList.drop p = l) (h : gPx [x, i / 256, i % 256] l = true) : gU b p x ∧ gU2 b (p + 1) i := by
  obtain ⟨h1, h2, h3⟩ := gPy3 hl h
  have q := gU2_of h2 h3
  rw [show i / 256 * 256 + i % 256 = i by omega] at q
  exact ⟨h1, q⟩
def gE16 (c : Nat) : Int → List Nat
  | .ofNat n => bif Nat.blt n 32768 then [c, n / 256, n % 256] else []
  | .negSucc n => bif Nat.blt n 32768 then [c, (65535 - n) / 256, (65535 - n) % 256] else []
def gE8 (c : Nat) : Int → List Nat
  | .ofNat n => bif Nat.blt n 128 then [c, n] else []
  | .negSucc n => bif Nat.blt n 128 then [c, 255 - n] else []
theorem gE8_ok {b : ByteArray} {p c : Nat} {s : Int} {l : List UInt8} (hn : gE8 c s ≠ []) (hl : b.data.toList.drop p = l) (h : gPx (gE8 c s) l = true) : gU b p c ∧ gS1 b (p + 1) s := by
  cases s with
  | ofNat n =>
    have e : gE8 c (.ofNat n) = bif Nat.blt n 128 then [c, n] else [] := rfl
    rw [e] at hn h
    cases hb : Nat.blt n 128 with
    | false => rw [hb] at hn; exact absurd rfl hn
    | true =>
      rw [hb] at h
      have hb2 : n < 128 := Nat.le_of_ble_eq_true hb
      obtain ⟨h1, h2⟩ := gPy2 hl h
      have q := gS1_of h2
      unfold Jvm.ClassFile.Reader.signed at q
      rw [if_pos (by omega)] at q
      exact ⟨h1, q⟩
  | negSucc n =>
    have e : gE8 c (.negSucc n) = bif Nat.blt n 128 then [c, 255 - n] else [] := rfl
    rw [e] at hn h
    cases hb : Nat.blt n 128 with
    | false => rw [hb] at hn; exact absurd rfl hn
    | true =>
      rw [hb] at h
      have hb2 : n < 128 := Nat.le_of_ble_eq_true hb
      obtain ⟨h1, h2⟩ := gPy2 hl h
      have q := gS1_of h2
      unfold Jvm.ClassFile.Reader.signed at q
      rw [if_neg (by omega), show ((255 - n : Nat) : Int) - ((2 ^ 8 : Nat) : Int) = Int.negSucc n by omega] at q
      exact ⟨h1, q⟩
theorem gE16_ok {b : ByteArray} {p c : Nat} {s : Int} {l : List UInt8} (hn : gE16 c s ≠ []) (hl : b.data.toList.drop p = l) (h : gPx (gE16 c s) l = true) : gU b p c ∧ gS2 b (p + 1) s := by
  cases s with
  | ofNat n =>
    have e : gE16 c (.ofNat n) = bif Nat.blt n 32768 then [c, n / 256, n % 256] else [] := rfl
    rw [e] at hn h
    cases hb : Nat.blt n 32768 with
    | false => rw [hb] at hn; exact absurd rfl hn
    | true =>
      rw [hb] at h
      have hb2 : n < 32768 := Nat.le_of_ble_eq_true hb
      obtain ⟨h1, h2⟩ := gPy3u hl h
      have q := gS2_of h2
      unfold Jvm.ClassFile.Reader.signed at q
      rw [if_pos (by omega)] at q
      exact ⟨h1, q⟩
  | negSucc n =>
    have e : gE16 c (.negSucc n) = bif Nat.blt n 32768 then [c, (65535 - n) / 256, (65535 - n) % 256] else [] := rfl
    rw [e] at hn h
    cases hb : Nat.blt n 32768 with
    | false => rw [hb] at hn; exact absurd rfl hn
    | true =>
      rw [hb] at h
      have hb2 : n < 32768 := Nat.le_of_ble_eq_true hb
      obtain ⟨h1, h2⟩ := gPy3u hl h
      have q := gS2_of h2
      unfold Jvm.ClassFile.Reader.signed at q
      rw [if_neg (by omega), show ((65535 - n : Nat) : Int) - ((2 ^ 16 : Nat) : Int) = Int.negSucc n by omega] at q
      exact ⟨h1, q⟩
theorem dk_aconst_null {b : ByteArray} {pc : Nat} (h : gU b pc 1) : decode b pc = .ok (.aconst_null, 1) := by
  show Except.bind (Except.bind (Jvm.ClassFile.Reader.u1 b pc) _) _ = _
  rw [h]
  show Except.ok ((.aconst_null : Instr), pc + 1 - pc) = _
  rw [Nat.add_sub_cancel_left]
theorem dk_iaload {b : ByteArray} {pc : Nat} (h : gU b pc 46) : decode b pc = .ok (.iaload, 1) := by
  show Except.bind (Except.bind (Jvm.ClassFile.Reader.u1 b pc) _) _ = _
  rw [h]
  show Except.ok ((.iaload : Instr), pc + 1 - pc) = _
  rw [Nat.add_sub_cancel_left]
theorem dk_laload {b : ByteArray} {pc : Nat} (h : gU b pc 47) : decode b pc = .ok (.laload, 1) := by
  show Except.bind (Except.bind (Jvm.ClassFile.Reader.u1 b pc) _) _ = _
  rw [h]
  show Except.ok ((.laload : Instr), pc + 1 - pc) = _
  rw [Nat.add_sub_cancel_left]
theorem dk_aaload {b : ByteArray} {pc : Nat} (h : gU b pc 50) : decode b pc = .ok (.aaload, 1) := by
  show Except.bind (Except.bind (Jvm.ClassFile.Reader.u1 b pc) _) _ = _
  rw [h]
  show Except.ok ((.aaload : Instr), pc + 1 - pc) = _
  rw [Nat.add_sub_cancel_left]
theorem dk_baload {b : ByteArray} {pc : Nat} (h : gU b pc 51) : decode b pc = .ok (.baload, 1) := by
  show Except.bind (Except.bind (Jvm.ClassFile.Reader.u1 b pc) _) _ = _
  rw [h]
  show Except.ok ((.baload : Instr), pc + 1 - pc) = _
  rw [Nat.add_sub_cancel_left]
theorem dk_caload {b : ByteArray} {pc : Nat} (h : gU b pc 52) : decode b pc = .ok (.caload, 1) := by
  show Except.bind (Except.bind (Jvm.ClassFile.Reader.u1 b pc) _) _ = _
  rw [h]
  show Except.ok ((.caload : Instr), pc + 1 - pc) = _
  rw [Nat.add_sub_cancel_left]
theorem dk_iastore {b : ByteArray} {pc : Nat} (h : gU b pc 79) : decode b pc = .ok (.iastore, 1) := by
  show Except.bind (Except.bind (Jvm.ClassFile.Reader.u1 b pc) _) _ = _
  rw [h]
  show Except.ok ((.iastore : Instr), pc + 1 - pc) = _
  rw [Nat.add_sub_cancel_left]
theorem dk_lastore {b : ByteArray} {pc : Nat} (h : gU b pc 80) : decode b pc = .ok (.lastore, 1) := by
  show Except.bind (Except.bind (Jvm.ClassFile.Reader.u1 b pc) _) _ = _
  rw [h]
  show Except.ok ((.lastore : Instr), pc + 1 - pc) = _
  rw [Nat.add_sub_cancel_left]
theorem dk_aastore {b : ByteArray} {pc : Nat} (h : gU b pc 83) : decode b pc = .ok (.aastore, 1) := by
  show Except.bind (Except.bind (Jvm.ClassFile.Reader.u1 b pc) _) _ = _
  rw [h]
  show Except.ok ((.aastore : Instr), pc + 1 - pc) = _
  rw [Nat.add_sub_cancel_left]
theorem dk_bastore {b : ByteArray} {pc : Nat} (h : gU b pc 84) : decode b pc = .ok (.bastore, 1) := by
  show Except.bind (Except.bind (Jvm.ClassFile.Reader.u1 b pc) _) _ = _
  rw [h]
  show Except.ok ((.bastore : Instr), pc + 1 - pc) = _
  rw [Nat.add_sub_cancel_left]
theorem dk_castore {b : ByteArray} {pc : Nat} (h : gU b pc 85) : decode b pc = .ok (.castore, 1) := by
  show Except.bind (Except.bind (Jvm.ClassFile.Reader.u1 b pc) _) _ = _
  rw [h]
  show Except.ok ((.castore : Instr), pc + 1 - pc) = _
  rw [Nat.add_sub_cancel_left]
theorem dk_pop {b : ByteArray} {pc : Nat} (h : gU b pc 87) : decode b pc = .ok (.pop, 1) := by
  show Except.bind (Except.bind (Jvm.ClassFile.Reader.u1 b pc) _) _ = _
  rw [h]
  show Except.ok ((.pop : Instr), pc + 1 - pc) = _
  rw [Nat.add_sub_cancel_left]
theorem dk_dup {b : ByteArray} {pc : Nat} (h : gU b pc 89) : decode b pc = .ok (.dup, 1) := by
  show Except.bind (Except.bind (Jvm.ClassFile.Reader.u1 b pc) _) _ = _
  rw [h]
  show Except.ok ((.dup : Instr), pc + 1 - pc) = _
  rw [Nat.add_sub_cancel_left]
theorem dk_dup2 {b : ByteArray} {pc : Nat} (h : gU b pc 92) : decode b pc = .ok (.dup2, 1) := by
  show Except.bind (Except.bind (Jvm.ClassFile.Reader.u1 b pc) _) _ = _
  rw [h]
  show Except.ok ((.dup2 : Instr), pc + 1 - pc) = _
  rw [Nat.add_sub_cancel_left]
theorem dk_iadd {b : ByteArray} {pc : Nat} (h : gU b pc 96) : decode b pc = .ok (.iadd, 1) := by
  show Except.bind (Except.bind (Jvm.ClassFile.Reader.u1 b pc) _) _ = _
  rw [h]
  show Except.ok ((.iadd : Instr), pc + 1 - pc) = _
  rw [Nat.add_sub_cancel_left]
theorem dk_ladd {b : ByteArray} {pc : Nat} (h : gU b pc 97) : decode b pc = .ok (.ladd, 1) := by
  show Except.bind (Except.bind (Jvm.ClassFile.Reader.u1 b pc) _) _ = _
  rw [h]
  show Except.ok ((.ladd : Instr), pc + 1 - pc) = _
  rw [Nat.add_sub_cancel_left]
theorem dk_isub {b : ByteArray} {pc : Nat} (h : gU b pc 100) : decode b pc = .ok (.isub, 1) := by
  show Except.bind (Except.bind (Jvm.ClassFile.Reader.u1 b pc) _) _ = _
  rw [h]
  show Except.ok ((.isub : Instr), pc + 1 - pc) = _
  rw [Nat.add_sub_cancel_left]
theorem dk_lsub {b : ByteArray} {pc : Nat} (h : gU b pc 101) : decode b pc = .ok (.lsub, 1) := by
  show Except.bind (Except.bind (Jvm.ClassFile.Reader.u1 b pc) _) _ = _
  rw [h]
  show Except.ok ((.lsub : Instr), pc + 1 - pc) = _
  rw [Nat.add_sub_cancel_left]
theorem dk_imul {b : ByteArray} {pc : Nat} (h : gU b pc 104) : decode b pc = .ok (.imul, 1) := by
  show Except.bind (Except.bind (Jvm.ClassFile.Reader.u1 b pc) _) _ = _
  rw [h]
  show Except.ok ((.imul : Instr), pc + 1 - pc) = _
  rw [Nat.add_sub_cancel_left]
theorem dk_lmul {b : ByteArray} {pc : Nat} (h : gU b pc 105) : decode b pc = .ok (.lmul, 1) := by
  show Except.bind (Except.bind (Jvm.ClassFile.Reader.u1 b pc) _) _ = _
  rw [h]
  show Except.ok ((.lmul : Instr), pc + 1 - pc) = _
  rw [Nat.add_sub_cancel_left]
theorem dk_idiv {b : ByteArray} {pc : Nat} (h : gU b pc 108) : decode b pc = .ok (.idiv, 1) := by
  show Except.bind (Except.bind (Jvm.ClassFile.Reader.u1 b pc) _) _ = _
  rw [h]
  show Except.ok ((.idiv : Instr), pc + 1 - pc) = _
  rw [Nat.add_sub_cancel_left]
theorem dk_ldiv {b : ByteArray} {pc : Nat} (h : gU b pc 109) : decode b pc = .ok (.ldiv, 1) := by
  show Except.bind (Except.bind (Jvm.ClassFile.Reader.u1 b pc) _) _ = _
  rw [h]
  show Except.ok ((.ldiv : Instr), pc + 1 - pc) = _
  rw [Nat.add_sub_cancel_left]
theorem dk_irem {b : ByteArray} {pc : Nat} (h : gU b pc 112) : decode b pc = .ok (.irem, 1) := by
  show Except.bind (Except.bind (Jvm.ClassFile.Reader.u1 b pc) _) _ = _
  rw [h]
  show Except.ok ((.irem : Instr), pc + 1 - pc) = _
  rw [Nat.add_sub_cancel_left]
theorem dk_lrem {b : ByteArray} {pc : Nat} (h : gU b pc 113) : decode b pc = .ok (.lrem, 1) := by
  show Except.bind (Except.bind (Jvm.ClassFile.Reader.u1 b pc) _) _ = _
  rw [h]
  show Except.ok ((.lrem : Instr), pc + 1 - pc) = _
  rw [Nat.add_sub_cancel_left]
theorem dk_ineg {b : ByteArray} {pc : Nat} (h : gU b pc 116) : decode b pc = .ok (.ineg, 1) := by
  show Except.bind (Except.bind (Jvm.ClassFile.Reader.u1 b pc) _) _ = _
  rw [h]
  show Except.ok ((.ineg : Instr), pc + 1 - pc) = _
  rw [Nat.add_sub_cancel_left]
theorem dk_lneg {b : ByteArray} {pc : Nat} (h : gU b pc 117) : decode b pc = .ok (.lneg, 1) := by
  show Except.bind (Except.bind (Jvm.ClassFile.Reader.u1 b pc) _) _ = _
  rw [h]
  show Except.ok ((.lneg : Instr), pc + 1 - pc) = _
  rw [Nat.add_sub_cancel_left]
theorem dk_ishl {b : ByteArray} {pc : Nat} (h : gU b pc 120) : decode b pc = .ok (.ishl, 1) := by
  show Except.bind (Except.bind (Jvm.ClassFile.Reader.u1 b pc) _) _ = _
  rw [h]
  show Except.ok ((.ishl : Instr), pc + 1 - pc) = _
  rw [Nat.add_sub_cancel_left]
theorem dk_lshl {b : ByteArray} {pc : Nat} (h : gU b pc 121) : decode b pc = .ok (.lshl, 1) := by
  show Except.bind (Except.bind (Jvm.ClassFile.Reader.u1 b pc) _) _ = _
  rw [h]
  show Except.ok ((.lshl : Instr), pc + 1 - pc) = _
  rw [Nat.add_sub_cancel_left]
theorem dk_ishr {b : ByteArray} {pc : Nat} (h : gU b pc 122) : decode b pc = .ok (.ishr, 1) := by
  show Except.bind (Except.bind (Jvm.ClassFile.Reader.u1 b pc) _) _ = _
  rw [h]
  show Except.ok ((.ishr : Instr), pc + 1 - pc) = _
  rw [Nat.add_sub_cancel_left]
theorem dk_lshr {b : ByteArray} {pc : Nat} (h : gU b pc 123) : decode b pc = .ok (.lshr, 1) := by
  show Except.bind (Except.bind (Jvm.ClassFile.Reader.u1 b pc) _) _ = _
  rw [h]
  show Except.ok ((.lshr : Instr), pc + 1 - pc) = _
  rw [Nat.add_sub_cancel_left]
theorem dk_iushr {b : ByteArray} {pc : Nat} (h : gU b pc 124) : decode b pc = .ok (.iushr, 1) := by
  show Except.bind (Except.bind (Jvm.ClassFile.Reader.u1 b pc) _) _ = _
  rw [h]
  show Except.ok ((.iushr : Instr), pc + 1 - pc) = _
  rw [Nat.add_sub_cancel_left]
theorem dk_lushr {b : ByteArray} {pc : Nat} (h : gU b pc 125) : decode b pc = .ok (.lushr, 1) := by
  show Except.bind (Except.bind (Jvm.ClassFile.Reader.u1 b pc) _) _ = _
  rw [h]
  show Except.ok ((.lushr : Instr), pc + 1 - pc) = _
  rw [Nat.add_sub_cancel_left]
theorem dk_iand {b : ByteArray} {pc : Nat} (h : gU b pc 126) : decode b pc = .ok (.iand, 1) := by
  show Except.bind (Except.bind (Jvm.ClassFile.Reader.u1 b pc) _) _ = _
  rw [h]
  show Except.ok ((.iand : Instr), pc + 1 - pc) = _
  rw [Nat.add_sub_cancel_left]
theorem dk_land {b : ByteArray} {pc : Nat} (h : gU b pc 127) : decode b pc = .ok (.land, 1) := by
  show Except.bind (Except.bind (Jvm.ClassFile.Reader.u1 b pc) _) _ = _
  rw [h]
  show Except.ok ((.land : Instr), pc + 1 - pc) = _
  rw [Nat.add_sub_cancel_left]
theorem dk_ior {b : ByteArray} {pc : Nat} (h : gU b pc 128) : decode b pc = .ok (.ior, 1) := by
  show Except.bind (Except.bind (Jvm.ClassFile.Reader.u1 b pc) _) _ = _
  rw [h]
  show Except.ok ((.ior : Instr), pc + 1 - pc) = _
  rw [Nat.add_sub_cancel_left]
theorem dk_lor {b : ByteArray} {pc : Nat} (h : gU b pc 129) : decode b pc = .ok (.lor, 1) := by
  show Except.bind (Except.bind (Jvm.ClassFile.Reader.u1 b pc) _) _ = _
  rw [h]
  show Except.ok ((.lor : Instr), pc + 1 - pc) = _
  rw [Nat.add_sub_cancel_left]
theorem dk_ixor {b : ByteArray} {pc : Nat} (h : gU b pc 130) : decode b pc = .ok (.ixor, 1) := by
  show Except.bind (Except.bind (Jvm.ClassFile.Reader.u1 b pc) _) _ = _
  rw [h]
  show Except.ok ((.ixor : Instr), pc + 1 - pc) = _
  rw [Nat.add_sub_cancel_left]
theorem dk_lxor {b : ByteArray} {pc : Nat} (h : gU b pc 131) : decode b pc = .ok (.lxor, 1) := by
  show Except.bind (Except.bind (Jvm.ClassFile.Reader.u1 b pc) _) _ = _
  rw [h]
  show Except.ok ((.lxor : Instr), pc + 1 - pc) = _
  rw [Nat.add_sub_cancel_left]
theorem dk_i2l {b : ByteArray} {pc : Nat} (h : gU b pc 133) : decode b pc = .ok (.i2l, 1) := by
  show Except.bind (Except.bind (Jvm.ClassFile.Reader.u1 b pc) _) _ = _
  rw [h]
  show Except.ok ((.i2l : Instr), pc + 1 - pc) = _
  rw [Nat.add_sub_cancel_left]
theorem dk_l2i {b : ByteArray} {pc : Nat} (h : gU b pc 136) : decode b pc = .ok (.l2i, 1) := by
  show Except.bind (Except.bind (Jvm.ClassFile.Reader.u1 b pc) _) _ = _
  rw [h]
  show Except.ok ((.l2i : Instr), pc + 1 - pc) = _
  rw [Nat.add_sub_cancel_left]
theorem dk_i2b {b : ByteArray} {pc : Nat} (h : gU b pc 145) : decode b pc = .ok (.i2b, 1) := by
  show Except.bind (Except.bind (Jvm.ClassFile.Reader.u1 b pc) _) _ = _
  rw [h]
  show Except.ok ((.i2b : Instr), pc + 1 - pc) = _
  rw [Nat.add_sub_cancel_left]
theorem dk_i2c {b : ByteArray} {pc : Nat} (h : gU b pc 146) : decode b pc = .ok (.i2c, 1) := by
  show Except.bind (Except.bind (Jvm.ClassFile.Reader.u1 b pc) _) _ = _
  rw [h]
  show Except.ok ((.i2c : Instr), pc + 1 - pc) = _
  rw [Nat.add_sub_cancel_left]
theorem dk_i2s {b : ByteArray} {pc : Nat} (h : gU b pc 147) : decode b pc = .ok (.i2s, 1) := by
  show Except.bind (Except.bind (Jvm.ClassFile.Reader.u1 b pc) _) _ = _
  rw [h]
  show Except.ok ((.i2s : Instr), pc + 1 - pc) = _
  rw [Nat.add_sub_cancel_left]
theorem dk_lcmp {b : ByteArray} {pc : Nat} (h : gU b pc 148) : decode b pc = .ok (.lcmp, 1) := by
  show Except.bind (Except.bind (Jvm.ClassFile.Reader.u1 b pc) _) _ = _
  rw [h]
  show Except.ok ((.lcmp : Instr), pc + 1 - pc) = _
  rw [Nat.add_sub_cancel_left]
theorem dk_ireturn {b : ByteArray} {pc : Nat} (h : gU b pc 172) : decode b pc = .ok (.ireturn, 1) := by
  show Except.bind (Except.bind (Jvm.ClassFile.Reader.u1 b pc) _) _ = _
  rw [h]
  show Except.ok ((.ireturn : Instr), pc + 1 - pc) = _
  rw [Nat.add_sub_cancel_left]
theorem dk_lreturn {b : ByteArray} {pc : Nat} (h : gU b pc 173) : decode b pc = .ok (.lreturn, 1) := by
  show Except.bind (Except.bind (Jvm.ClassFile.Reader.u1 b pc) _) _ = _
  rw [h]
  show Except.ok ((.lreturn : Instr), pc + 1 - pc) = _
  rw [Nat.add_sub_cancel_left]
theorem dk_areturn {b : ByteArray} {pc : Nat} (h : gU b pc 176) : decode b pc = .ok (.areturn, 1) := by
  show Except.bind (Except.bind (Jvm.ClassFile.Reader.u1 b pc) _) _ = _
  rw [h]
  show Except.ok ((.areturn : Instr), pc + 1 - pc) = _
  rw [Nat.add_sub_cancel_left]
theorem dk_return_ {b : ByteArray} {pc : Nat} (h : gU b pc 177) : decode b pc = .ok (.return_, 1) := by
  show Except.bind (Except.bind (Jvm.ClassFile.Reader.u1 b pc) _) _ = _
  rw [h]
  show Except.ok ((.return_ : Instr), pc + 1 - pc) = _
  rw [Nat.add_sub_cancel_left]
theorem dk_arraylength {b : ByteArray} {pc : Nat} (h : gU b pc 190) : decode b pc = .ok (.arraylength, 1) := by
  show Except.bind (Except.bind (Jvm.ClassFile.Reader.u1 b pc) _) _ = _
  rw [h]
  show Except.ok ((.arraylength : Instr), pc + 1 - pc) = _
  rw [Nat.add_sub_cancel_left]
theorem dk_athrow {b : ByteArray} {pc : Nat} (h : gU b pc 191) : decode b pc = .ok (.athrow, 1) := by
  show Except.bind (Except.bind (Jvm.ClassFile.Reader.u1 b pc) _) _ = _
  rw [h]
  show Except.ok ((.athrow : Instr), pc + 1 - pc) = _
  rw [Nat.add_sub_cancel_left]
theorem dk_iconst_m1 {b : ByteArray} {pc : Nat} (h : gU b pc 2) : decode b pc = .ok (.iconst (-1), 1) := by
  show Except.bind (Except.bind (Jvm.ClassFile.Reader.u1 b pc) _) _ = _
  rw [h]
  show Except.ok ((.iconst (-1) : Instr), pc + 1 - pc) = _
  rw [Nat.add_sub_cancel_left]
theorem dk_iconst_0 {b : ByteArray} {pc : Nat} (h : gU b pc 3) : decode b pc = .ok (.iconst (0), 1) := by
  show Except.bind (Except.bind (Jvm.ClassFile.Reader.u1 b pc) _) _ = _
  rw [h]
  show Except.ok ((.iconst (0) : Instr), pc + 1 - pc) = _
  rw [Nat.add_sub_cancel_left]
theorem dk_iconst_1 {b : ByteArray} {pc : Nat} (h : gU b pc 4) : decode b pc = .ok (.iconst (1), 1) := by
  show Except.bind (Except.bind (Jvm.ClassFile.Reader.u1 b pc) _) _ = _
  rw [h]
  show Except.ok ((.iconst (1) : Instr), pc + 1 - pc) = _
  rw [Nat.add_sub_cancel_left]
theorem dk_iconst_2 {b : ByteArray} {pc : Nat} (h : gU b pc 5) : decode b pc = .ok (.iconst (2), 1) := by
  show Except.bind (Except.bind (Jvm.ClassFile.Reader.u1 b pc) _) _ = _
  rw [h]
  show Except.ok ((.iconst (2) : Instr), pc + 1 - pc) = _
  rw [Nat.add_sub_cancel_left]
theorem dk_iconst_3 {b : ByteArray} {pc : Nat} (h : gU b pc 6) : decode b pc = .ok (.iconst (3), 1) := by
  show Except.bind (Except.bind (Jvm.ClassFile.Reader.u1 b pc) _) _ = _
  rw [h]
  show Except.ok ((.iconst (3) : Instr), pc + 1 - pc) = _
  rw [Nat.add_sub_cancel_left]
theorem dk_iconst_4 {b : ByteArray} {pc : Nat} (h : gU b pc 7) : decode b pc = .ok (.iconst (4), 1) := by
  show Except.bind (Except.bind (Jvm.ClassFile.Reader.u1 b pc) _) _ = _
  rw [h]
  show Except.ok ((.iconst (4) : Instr), pc + 1 - pc) = _
  rw [Nat.add_sub_cancel_left]
theorem dk_iconst_5 {b : ByteArray} {pc : Nat} (h : gU b pc 8) : decode b pc = .ok (.iconst (5), 1) := by
  show Except.bind (Except.bind (Jvm.ClassFile.Reader.u1 b pc) _) _ = _
  rw [h]
  show Except.ok ((.iconst (5) : Instr), pc + 1 - pc) = _
  rw [Nat.add_sub_cancel_left]
theorem dk_lconst_0 {b : ByteArray} {pc : Nat} (h : gU b pc 9) : decode b pc = .ok (.lconst 0, 1) := by
  show Except.bind (Except.bind (Jvm.ClassFile.Reader.u1 b pc) _) _ = _
  rw [h]
  show Except.ok ((.lconst 0 : Instr), pc + 1 - pc) = _
  rw [Nat.add_sub_cancel_left]
theorem dk_lconst_1 {b : ByteArray} {pc : Nat} (h : gU b pc 10) : decode b pc = .ok (.lconst 1, 1) := by
  show Except.bind (Except.bind (Jvm.ClassFile.Reader.u1 b pc) _) _ = _
  rw [h]
  show Except.ok ((.lconst 1 : Instr), pc + 1 - pc) = _
  rw [Nat.add_sub_cancel_left]
theorem dk_iload_n_0 {b : ByteArray} {pc : Nat} (h : gU b pc 26) : decode b pc = .ok (.iload_n 0, 1) := by
  show Except.bind (Except.bind (Jvm.ClassFile.Reader.u1 b pc) _) _ = _
  rw [h]
  show Except.ok ((.iload_n 0 : Instr), pc + 1 - pc) = _
  rw [Nat.add_sub_cancel_left]
theorem dk_iload_n_1 {b : ByteArray} {pc : Nat} (h : gU b pc 27) : decode b pc = .ok (.iload_n 1, 1) := by
  show Except.bind (Except.bind (Jvm.ClassFile.Reader.u1 b pc) _) _ = _
  rw [h]
  show Except.ok ((.iload_n 1 : Instr), pc + 1 - pc) = _
  rw [Nat.add_sub_cancel_left]
theorem dk_iload_n_2 {b : ByteArray} {pc : Nat} (h : gU b pc 28) : decode b pc = .ok (.iload_n 2, 1) := by
  show Except.bind (Except.bind (Jvm.ClassFile.Reader.u1 b pc) _) _ = _
  rw [h]
  show Except.ok ((.iload_n 2 : Instr), pc + 1 - pc) = _
  rw [Nat.add_sub_cancel_left]
theorem dk_iload_n_3 {b : ByteArray} {pc : Nat} (h : gU b pc 29) : decode b pc = .ok (.iload_n 3, 1) := by
  show Except.bind (Except.bind (Jvm.ClassFile.Reader.u1 b pc) _) _ = _
  rw [h]
  show Except.ok ((.iload_n 3 : Instr), pc + 1 - pc) = _
  rw [Nat.add_sub_cancel_left]
theorem dk_lload_n_0 {b : ByteArray} {pc : Nat} (h : gU b pc 30) : decode b pc = .ok (.lload_n 0, 1) := by
  show Except.bind (Except.bind (Jvm.ClassFile.Reader.u1 b pc) _) _ = _
  rw [h]
  show Except.ok ((.lload_n 0 : Instr), pc + 1 - pc) = _
  rw [Nat.add_sub_cancel_left]
theorem dk_lload_n_1 {b : ByteArray} {pc : Nat} (h : gU b pc 31) : decode b pc = .ok (.lload_n 1, 1) := by
  show Except.bind (Except.bind (Jvm.ClassFile.Reader.u1 b pc) _) _ = _
  rw [h]
  show Except.ok ((.lload_n 1 : Instr), pc + 1 - pc) = _
  rw [Nat.add_sub_cancel_left]
theorem dk_lload_n_2 {b : ByteArray} {pc : Nat} (h : gU b pc 32) : decode b pc = .ok (.lload_n 2, 1) := by
  show Except.bind (Except.bind (Jvm.ClassFile.Reader.u1 b pc) _) _ = _
  rw [h]
  show Except.ok ((.lload_n 2 : Instr), pc + 1 - pc) = _
  rw [Nat.add_sub_cancel_left]
theorem dk_lload_n_3 {b : ByteArray} {pc : Nat} (h : gU b pc 33) : decode b pc = .ok (.lload_n 3, 1) := by
  show Except.bind (Except.bind (Jvm.ClassFile.Reader.u1 b pc) _) _ = _
  rw [h]
  show Except.ok ((.lload_n 3 : Instr), pc + 1 - pc) = _
  rw [Nat.add_sub_cancel_left]
theorem dk_aload_n_0 {b : ByteArray} {pc : Nat} (h : gU b pc 42) : decode b pc = .ok (.aload_n 0, 1) := by
  show Except.bind (Except.bind (Jvm.ClassFile.Reader.u1 b pc) _) _ = _
  rw [h]
  show Except.ok ((.aload_n 0 : Instr), pc + 1 - pc) = _
  rw [Nat.add_sub_cancel_left]
theorem dk_aload_n_1 {b : ByteArray} {pc : Nat} (h : gU b pc 43) : decode b pc = .ok (.aload_n 1, 1) := by
  show Except.bind (Except.bind (Jvm.ClassFile.Reader.u1 b pc) _) _ = _
  rw [h]
  show Except.ok ((.aload_n 1 : Instr), pc + 1 - pc) = _
  rw [Nat.add_sub_cancel_left]
theorem dk_aload_n_2 {b : ByteArray} {pc : Nat} (h : gU b pc 44) : decode b pc = .ok (.aload_n 2, 1) := by
  show Except.bind (Except.bind (Jvm.ClassFile.Reader.u1 b pc) _) _ = _
  rw [h]
  show Except.ok ((.aload_n 2 : Instr), pc + 1 - pc) = _
  rw [Nat.add_sub_cancel_left]
theorem dk_aload_n_3 {b : ByteArray} {pc : Nat} (h : gU b pc 45) : decode b pc = .ok (.aload_n 3, 1) := by
  show Except.bind (Except.bind (Jvm.ClassFile.Reader.u1 b pc) _) _ = _
  rw [h]
  show Except.ok ((.aload_n 3 : Instr), pc + 1 - pc) = _
  rw [Nat.add_sub_cancel_left]
theorem dk_istore_n_0 {b : ByteArray} {pc : Nat} (h : gU b pc 59) : decode b pc = .ok (.istore_n 0, 1) := by
  show Except.bind (Except.bind (Jvm.ClassFile.Reader.u1 b pc) _) _ = _
  rw [h]
  show Except.ok ((.istore_n 0 : Instr), pc + 1 - pc) = _
  rw [Nat.add_sub_cancel_left]
theorem dk_istore_n_1 {b : ByteArray} {pc : Nat} (h : gU b pc 60) : decode b pc = .ok (.istore_n 1, 1) := by
  show Except.bind (Except.bind (Jvm.ClassFile.Reader.u1 b pc) _) _ = _
  rw [h]
  show Except.ok ((.istore_n 1 : Instr), pc + 1 - pc) = _
  rw [Nat.add_sub_cancel_left]
theorem dk_istore_n_2 {b : ByteArray} {pc : Nat} (h : gU b pc 61) : decode b pc = .ok (.istore_n 2, 1) := by
  show Except.bind (Except.bind (Jvm.ClassFile.Reader.u1 b pc) _) _ = _
  rw [h]
  show Except.ok ((.istore_n 2 : Instr), pc + 1 - pc) = _
  rw [Nat.add_sub_cancel_left]
theorem dk_istore_n_3 {b : ByteArray} {pc : Nat} (h : gU b pc 62) : decode b pc = .ok (.istore_n 3, 1) := by
  show Except.bind (Except.bind (Jvm.ClassFile.Reader.u1 b pc) _) _ = _
  rw [h]
  show Except.ok ((.istore_n 3 : Instr), pc + 1 - pc) = _
  rw [Nat.add_sub_cancel_left]
theorem dk_lstore_n_0 {b : ByteArray} {pc : Nat} (h : gU b pc 63) : decode b pc = .ok (.lstore_n 0, 1) := by
  show Except.bind (Except.bind (Jvm.ClassFile.Reader.u1 b pc) _) _ = _
  rw [h]
  show Except.ok ((.lstore_n 0 : Instr), pc + 1 - pc) = _
  rw [Nat.add_sub_cancel_left]
theorem dk_lstore_n_1 {b : ByteArray} {pc : Nat} (h : gU b pc 64) : decode b pc = .ok (.lstore_n 1, 1) := by
  show Except.bind (Except.bind (Jvm.ClassFile.Reader.u1 b pc) _) _ = _
  rw [h]
  show Except.ok ((.lstore_n 1 : Instr), pc + 1 - pc) = _
  rw [Nat.add_sub_cancel_left]
theorem dk_lstore_n_2 {b : ByteArray} {pc : Nat} (h : gU b pc 65) : decode b pc = .ok (.lstore_n 2, 1) := by
  show Except.bind (Except.bind (Jvm.ClassFile.Reader.u1 b pc) _) _ = _
  rw [h]
  show Except.ok ((.lstore_n 2 : Instr), pc + 1 - pc) = _
  rw [Nat.add_sub_cancel_left]
theorem dk_lstore_n_3 {b : ByteArray} {pc : Nat} (h : gU b pc 66) : decode b pc = .ok (.lstore_n 3, 1) := by
  show Except.bind (Except.bind (Jvm.ClassFile.Reader.u1 b pc) _) _ = _
  rw [h]
  show Except.ok ((.lstore_n 3 : Instr), pc + 1 - pc) = _
  rw [Nat.add_sub_cancel_left]
theorem dk_astore_n_0 {b : ByteArray} {pc : Nat} (h : gU b pc 75) : decode b pc = .ok (.astore_n 0, 1) := by
  show Except.bind (Except.bind (Jvm.ClassFile.Reader.u1 b pc) _) _ = _
  rw [h]
  show Except.ok ((.astore_n 0 : Instr), pc + 1 - pc) = _
  rw [Nat.add_sub_cancel_left]
theorem dk_astore_n_1 {b : ByteArray} {pc : Nat} (h : gU b pc 76) : decode b pc = .ok (.astore_n 1, 1) := by
  show Except.bind (Except.bind (Jvm.ClassFile.Reader.u1 b pc) _) _ = _
  rw [h]
  show Except.ok ((.astore_n 1 : Instr), pc + 1 - pc) = _
  rw [Nat.add_sub_cancel_left]
theorem dk_astore_n_2 {b : ByteArray} {pc : Nat} (h : gU b pc 77) : decode b pc = .ok (.astore_n 2, 1) := by
  show Except.bind (Except.bind (Jvm.ClassFile.Reader.u1 b pc) _) _ = _
  rw [h]
  show Except.ok ((.astore_n 2 : Instr), pc + 1 - pc) = _
  rw [Nat.add_sub_cancel_left]
theorem dk_astore_n_3 {b : ByteArray} {pc : Nat} (h : gU b pc 78) : decode b pc = .ok (.astore_n 3, 1) := by
  show Except.bind (Except.bind (Jvm.ClassFile.Reader.u1 b pc) _) _ = _
  rw [h]
  show Except.ok ((.astore_n 3 : Instr), pc + 1 - pc) = _
  rw [Nat.add_sub_cancel_left]
theorem dk_ldc {b : ByteArray} {pc : Nat} {x : Nat} (h : gU b pc 18) (h2 : gU b (pc + 1) x) : decode b pc = .ok (.ldc x, 2) := by
  show Except.bind (Except.bind (Jvm.ClassFile.Reader.u1 b pc) _) _ = _
  rw [h]
  show Except.bind (Except.bind (Jvm.ClassFile.Reader.u1 b (pc + 1)) _) _ = _
  rw [h2]
  show Except.ok ((.ldc x : Instr), pc + 2 - pc) = _
  rw [Nat.add_sub_cancel_left]
theorem dk_iload {b : ByteArray} {pc : Nat} {x : Nat} (h : gU b pc 21) (h2 : gU b (pc + 1) x) : decode b pc = .ok (.iload x, 2) := by
  show Except.bind (Except.bind (Jvm.ClassFile.Reader.u1 b pc) _) _ = _
  rw [h]
  show Except.bind (Except.bind (Jvm.ClassFile.Reader.u1 b (pc + 1)) _) _ = _
  rw [h2]
  show Except.ok ((.iload x : Instr), pc + 2 - pc) = _
  rw [Nat.add_sub_cancel_left]
theorem dk_lload {b : ByteArray} {pc : Nat} {x : Nat} (h : gU b pc 22) (h2 : gU b (pc + 1) x) : decode b pc = .ok (.lload x, 2) := by
  show Except.bind (Except.bind (Jvm.ClassFile.Reader.u1 b pc) _) _ = _
  rw [h]
  show Except.bind (Except.bind (Jvm.ClassFile.Reader.u1 b (pc + 1)) _) _ = _
  rw [h2]
  show Except.ok ((.lload x : Instr), pc + 2 - pc) = _
  rw [Nat.add_sub_cancel_left]
theorem dk_aload {b : ByteArray} {pc : Nat} {x : Nat} (h : gU b pc 25) (h2 : gU b (pc + 1) x) : decode b pc = .ok (.aload x, 2) := by
  show Except.bind (Except.bind (Jvm.ClassFile.Reader.u1 b pc) _) _ = _
  rw [h]
  show Except.bind (Except.bind (Jvm.ClassFile.Reader.u1 b (pc + 1)) _) _ = _
  rw [h2]
  show Except.ok ((.aload x : Instr), pc + 2 - pc) = _
  rw [Nat.add_sub_cancel_left]
theorem dk_istore {b : ByteArray} {pc : Nat} {x : Nat} (h : gU b pc 54) (h2 : gU b (pc + 1) x) : decode b pc = .ok (.istore x, 2) := by
  show Except.bind (Except.bind (Jvm.ClassFile.Reader.u1 b pc) _) _ = _
  rw [h]
  show Except.bind (Except.bind (Jvm.ClassFile.Reader.u1 b (pc + 1)) _) _ = _
  rw [h2]
  show Except.ok ((.istore x : Instr), pc + 2 - pc) = _
  rw [Nat.add_sub_cancel_left]
theorem dk_lstore {b : ByteArray} {pc : Nat} {x : Nat} (h : gU b pc 55) (h2 : gU b (pc + 1) x) : decode b pc = .ok (.lstore x, 2) := by
  show Except.bind (Except.bind (Jvm.ClassFile.Reader.u1 b pc) _) _ = _
  rw [h]
  show Except.bind (Except.bind (Jvm.ClassFile.Reader.u1 b (pc + 1)) _) _ = _
  rw [h2]
  show Except.ok ((.lstore x : Instr), pc + 2 - pc) = _
  rw [Nat.add_sub_cancel_left]
theorem dk_astore {b : ByteArray} {pc : Nat} {x : Nat} (h : gU b pc 58) (h2 : gU b (pc + 1) x) : decode b pc = .ok (.astore x, 2) := by
  show Except.bind (Except.bind (Jvm.ClassFile.Reader.u1 b pc) _) _ = _
  rw [h]
  show Except.bind (Except.bind (Jvm.ClassFile.Reader.u1 b (pc + 1)) _) _ = _
  rw [h2]
  show Except.ok ((.astore x : Instr), pc + 2 - pc) = _
  rw [Nat.add_sub_cancel_left]
theorem dk_ldc_w {b : ByteArray} {pc : Nat} {x : Nat} (h : gU b pc 19) (h2 : gU2 b (pc + 1) x) : decode b pc = .ok (.ldc_w x, 3) := by
  show Except.bind (Except.bind (Jvm.ClassFile.Reader.u1 b pc) _) _ = _
  rw [h]
  show Except.bind (Except.bind (Jvm.ClassFile.Reader.u2 b (pc + 1)) _) _ = _
  rw [h2]
  show Except.ok ((.ldc_w x : Instr), pc + 3 - pc) = _
  rw [Nat.add_sub_cancel_left]
theorem dk_ldc2_w {b : ByteArray} {pc : Nat} {x : Nat} (h : gU b pc 20) (h2 : gU2 b (pc + 1) x) : decode b pc = .ok (.ldc2_w x, 3) := by
  show Except.bind (Except.bind (Jvm.ClassFile.Reader.u1 b pc) _) _ = _
  rw [h]
  show Except.bind (Except.bind (Jvm.ClassFile.Reader.u2 b (pc + 1)) _) _ = _
  rw [h2]
  show Except.ok ((.ldc2_w x : Instr), pc + 3 - pc) = _
  rw [Nat.add_sub_cancel_left]
theorem dk_getstatic {b : ByteArray} {pc : Nat} {x : Nat} (h : gU b pc 178) (h2 : gU2 b (pc + 1) x) : decode b pc = .ok (.getstatic x, 3) := by
  show Except.bind (Except.bind (Jvm.ClassFile.Reader.u1 b pc) _) _ = _
  rw [h]
  show Except.bind (Except.bind (Jvm.ClassFile.Reader.u2 b (pc + 1)) _) _ = _
  rw [h2]
  show Except.ok ((.getstatic x : Instr), pc + 3 - pc) = _
  rw [Nat.add_sub_cancel_left]
theorem dk_getfield {b : ByteArray} {pc : Nat} {x : Nat} (h : gU b pc 180) (h2 : gU2 b (pc + 1) x) : decode b pc = .ok (.getfield x, 3) := by
  show Except.bind (Except.bind (Jvm.ClassFile.Reader.u1 b pc) _) _ = _
  rw [h]
  show Except.bind (Except.bind (Jvm.ClassFile.Reader.u2 b (pc + 1)) _) _ = _
  rw [h2]
  show Except.ok ((.getfield x : Instr), pc + 3 - pc) = _
  rw [Nat.add_sub_cancel_left]
theorem dk_putfield {b : ByteArray} {pc : Nat} {x : Nat} (h : gU b pc 181) (h2 : gU2 b (pc + 1) x) : decode b pc = .ok (.putfield x, 3) := by
  show Except.bind (Except.bind (Jvm.ClassFile.Reader.u1 b pc) _) _ = _
  rw [h]
  show Except.bind (Except.bind (Jvm.ClassFile.Reader.u2 b (pc + 1)) _) _ = _
  rw [h2]
  show Except.ok ((.putfield x : Instr), pc + 3 - pc) = _
  rw [Nat.add_sub_cancel_left]
theorem dk_invokevirtual {b : ByteArray} {pc : Nat} {x : Nat} (h : gU b pc 182) (h2 : gU2 b (pc + 1) x) : decode b pc = .ok (.invokevirtual x, 3) := by
  show Except.bind (Except.bind (Jvm.ClassFile.Reader.u1 b pc) _) _ = _
  rw [h]
  show Except.bind (Except.bind (Jvm.ClassFile.Reader.u2 b (pc + 1)) _) _ = _
  rw [h2]
  show Except.ok ((.invokevirtual x : Instr), pc + 3 - pc) = _
  rw [Nat.add_sub_cancel_left]
theorem dk_invokespecial {b : ByteArray} {pc : Nat} {x : Nat} (h : gU b pc 183) (h2 : gU2 b (pc + 1) x) : decode b pc = .ok (.invokespecial x, 3) := by
  show Except.bind (Except.bind (Jvm.ClassFile.Reader.u1 b pc) _) _ = _
  rw [h]
  show Except.bind (Except.bind (Jvm.ClassFile.Reader.u2 b (pc + 1)) _) _ = _
  rw [h2]
  show Except.ok ((.invokespecial x : Instr), pc + 3 - pc) = _
  rw [Nat.add_sub_cancel_left]
theorem dk_invokestatic {b : ByteArray} {pc : Nat} {x : Nat} (h : gU b pc 184) (h2 : gU2 b (pc + 1) x) : decode b pc = .ok (.invokestatic x, 3) := by
  show Except.bind (Except.bind (Jvm.ClassFile.Reader.u1 b pc) _) _ = _
  rw [h]
  show Except.bind (Except.bind (Jvm.ClassFile.Reader.u2 b (pc + 1)) _) _ = _
  rw [h2]
  show Except.ok ((.invokestatic x : Instr), pc + 3 - pc) = _
  rw [Nat.add_sub_cancel_left]
theorem dk_new {b : ByteArray} {pc : Nat} {x : Nat} (h : gU b pc 187) (h2 : gU2 b (pc + 1) x) : decode b pc = .ok (.new x, 3) := by
  show Except.bind (Except.bind (Jvm.ClassFile.Reader.u1 b pc) _) _ = _
  rw [h]
  show Except.bind (Except.bind (Jvm.ClassFile.Reader.u2 b (pc + 1)) _) _ = _
  rw [h2]
  show Except.ok ((.new x : Instr), pc + 3 - pc) = _
  rw [Nat.add_sub_cancel_left]
theorem dk_anewarray {b : ByteArray} {pc : Nat} {x : Nat} (h : gU b pc 189) (h2 : gU2 b (pc + 1) x) : decode b pc = .ok (.anewarray x, 3) := by
  show Except.bind (Except.bind (Jvm.ClassFile.Reader.u1 b pc) _) _ = _
  rw [h]
  show Except.bind (Except.bind (Jvm.ClassFile.Reader.u2 b (pc + 1)) _) _ = _
  rw [h2]
  show Except.ok ((.anewarray x : Instr), pc + 3 - pc) = _
  rw [Nat.add_sub_cancel_left]
theorem dk_goto {b : ByteArray} {pc : Nat} {x : Int} (h : gU b pc 167) (h2 : gS2 b (pc + 1) x) : decode b pc = .ok (.goto x, 3) := by
  show Except.bind (Except.bind (Jvm.ClassFile.Reader.u1 b pc) _) _ = _
  rw [h]
  show Except.bind (Except.bind (Jvm.ClassFile.Reader.s2 b (pc + 1)) _) _ = _
  rw [h2]
  show Except.ok ((.goto x : Instr), pc + 3 - pc) = _
  rw [Nat.add_sub_cancel_left]
theorem dk_ifnull {b : ByteArray} {pc : Nat} {x : Int} (h : gU b pc 198) (h2 : gS2 b (pc + 1) x) : decode b pc = .ok (.ifnull x, 3) := by
  show Except.bind (Except.bind (Jvm.ClassFile.Reader.u1 b pc) _) _ = _
  rw [h]
  show Except.bind (Except.bind (Jvm.ClassFile.Reader.s2 b (pc + 1)) _) _ = _
  rw [h2]
  show Except.ok ((.ifnull x : Instr), pc + 3 - pc) = _
  rw [Nat.add_sub_cancel_left]
theorem dk_ifnonnull {b : ByteArray} {pc : Nat} {x : Int} (h : gU b pc 199) (h2 : gS2 b (pc + 1) x) : decode b pc = .ok (.ifnonnull x, 3) := by
  show Except.bind (Except.bind (Jvm.ClassFile.Reader.u1 b pc) _) _ = _
  rw [h]
  show Except.bind (Except.bind (Jvm.ClassFile.Reader.s2 b (pc + 1)) _) _ = _
  rw [h2]
  show Except.ok ((.ifnonnull x : Instr), pc + 3 - pc) = _
  rw [Nat.add_sub_cancel_left]
theorem dk_ifCond_eq {b : ByteArray} {pc : Nat} {x : Int} (h : gU b pc 153) (h2 : gS2 b (pc + 1) x) : decode b pc = .ok (.ifCond .eq x, 3) := by
  show Except.bind (Except.bind (Jvm.ClassFile.Reader.u1 b pc) _) _ = _
  rw [h]
  show Except.bind (Except.bind (Jvm.ClassFile.Reader.s2 b (pc + 1)) _) _ = _
  rw [h2]
  show Except.ok ((.ifCond .eq x : Instr), pc + 3 - pc) = _
  rw [Nat.add_sub_cancel_left]
theorem dk_if_icmp_eq {b : ByteArray} {pc : Nat} {x : Int} (h : gU b pc 159) (h2 : gS2 b (pc + 1) x) : decode b pc = .ok (.if_icmp .eq x, 3) := by
  show Except.bind (Except.bind (Jvm.ClassFile.Reader.u1 b pc) _) _ = _
  rw [h]
  show Except.bind (Except.bind (Jvm.ClassFile.Reader.s2 b (pc + 1)) _) _ = _
  rw [h2]
  show Except.ok ((.if_icmp .eq x : Instr), pc + 3 - pc) = _
  rw [Nat.add_sub_cancel_left]
theorem dk_ifCond_ne {b : ByteArray} {pc : Nat} {x : Int} (h : gU b pc 154) (h2 : gS2 b (pc + 1) x) : decode b pc = .ok (.ifCond .ne x, 3) := by
  show Except.bind (Except.bind (Jvm.ClassFile.Reader.u1 b pc) _) _ = _
  rw [h]
  show Except.bind (Except.bind (Jvm.ClassFile.Reader.s2 b (pc + 1)) _) _ = _
  rw [h2]
  show Except.ok ((.ifCond .ne x : Instr), pc + 3 - pc) = _
  rw [Nat.add_sub_cancel_left]
theorem dk_if_icmp_ne {b : ByteArray} {pc : Nat} {x : Int} (h : gU b pc 160) (h2 : gS2 b (pc + 1) x) : decode b pc = .ok (.if_icmp .ne x, 3) := by
  show Except.bind (Except.bind (Jvm.ClassFile.Reader.u1 b pc) _) _ = _
  rw [h]
  show Except.bind (Except.bind (Jvm.ClassFile.Reader.s2 b (pc + 1)) _) _ = _
  rw [h2]
  show Except.ok ((.if_icmp .ne x : Instr), pc + 3 - pc) = _
  rw [Nat.add_sub_cancel_left]
theorem dk_ifCond_lt {b : ByteArray} {pc : Nat} {x : Int} (h : gU b pc 155) (h2 : gS2 b (pc + 1) x) : decode b pc = .ok (.ifCond .lt x, 3) := by
  show Except.bind (Except.bind (Jvm.ClassFile.Reader.u1 b pc) _) _ = _
  rw [h]
  show Except.bind (Except.bind (Jvm.ClassFile.Reader.s2 b (pc + 1)) _) _ = _
  rw [h2]
  show Except.ok ((.ifCond .lt x : Instr), pc + 3 - pc) = _
  rw [Nat.add_sub_cancel_left]
theorem dk_if_icmp_lt {b : ByteArray} {pc : Nat} {x : Int} (h : gU b pc 161) (h2 : gS2 b (pc + 1) x) : decode b pc = .ok (.if_icmp .lt x, 3) := by
  show Except.bind (Except.bind (Jvm.ClassFile.Reader.u1 b pc) _) _ = _
  rw [h]
  show Except.bind (Except.bind (Jvm.ClassFile.Reader.s2 b (pc + 1)) _) _ = _
  rw [h2]
  show Except.ok ((.if_icmp .lt x : Instr), pc + 3 - pc) = _
  rw [Nat.add_sub_cancel_left]
theorem dk_ifCond_ge {b : ByteArray} {pc : Nat} {x : Int} (h : gU b pc 156) (h2 : gS2 b (pc + 1) x) : decode b pc = .ok (.ifCond .ge x, 3) := by
  show Except.bind (Except.bind (Jvm.ClassFile.Reader.u1 b pc) _) _ = _
  rw [h]
  show Except.bind (Except.bind (Jvm.ClassFile.Reader.s2 b (pc + 1)) _) _ = _
  rw [h2]
  show Except.ok ((.ifCond .ge x : Instr), pc + 3 - pc) = _
  rw [Nat.add_sub_cancel_left]
theorem dk_if_icmp_ge {b : ByteArray} {pc : Nat} {x : Int} (h : gU b pc 162) (h2 : gS2 b (pc + 1) x) : decode b pc = .ok (.if_icmp .ge x, 3) := by
  show Except.bind (Except.bind (Jvm.ClassFile.Reader.u1 b pc) _) _ = _
  rw [h]
  show Except.bind (Except.bind (Jvm.ClassFile.Reader.s2 b (pc + 1)) _) _ = _
  rw [h2]
  show Except.ok ((.if_icmp .ge x : Instr), pc + 3 - pc) = _
  rw [Nat.add_sub_cancel_left]
theorem dk_ifCond_gt {b : ByteArray} {pc : Nat} {x : Int} (h : gU b pc 157) (h2 : gS2 b (pc + 1) x) : decode b pc = .ok (.ifCond .gt x, 3) := by
  show Except.bind (Except.bind (Jvm.ClassFile.Reader.u1 b pc) _) _ = _
  rw [h]
  show Except.bind (Except.bind (Jvm.ClassFile.Reader.s2 b (pc + 1)) _) _ = _
  rw [h2]
  show Except.ok ((.ifCond .gt x : Instr), pc + 3 - pc) = _
  rw [Nat.add_sub_cancel_left]
theorem dk_if_icmp_gt {b : ByteArray} {pc : Nat} {x : Int} (h : gU b pc 163) (h2 : gS2 b (pc + 1) x) : decode b pc = .ok (.if_icmp .gt x, 3) := by
  show Except.bind (Except.bind (Jvm.ClassFile.Reader.u1 b pc) _) _ = _
  rw [h]
  show Except.bind (Except.bind (Jvm.ClassFile.Reader.s2 b (pc + 1)) _) _ = _
  rw [h2]
  show Except.ok ((.if_icmp .gt x : Instr), pc + 3 - pc) = _
  rw [Nat.add_sub_cancel_left]
theorem dk_ifCond_le {b : ByteArray} {pc : Nat} {x : Int} (h : gU b pc 158) (h2 : gS2 b (pc + 1) x) : decode b pc = .ok (.ifCond .le x, 3) := by
  show Except.bind (Except.bind (Jvm.ClassFile.Reader.u1 b pc) _) _ = _
  rw [h]
  show Except.bind (Except.bind (Jvm.ClassFile.Reader.s2 b (pc + 1)) _) _ = _
  rw [h2]
  show Except.ok ((.ifCond .le x : Instr), pc + 3 - pc) = _
  rw [Nat.add_sub_cancel_left]
theorem dk_if_icmp_le {b : ByteArray} {pc : Nat} {x : Int} (h : gU b pc 164) (h2 : gS2 b (pc + 1) x) : decode b pc = .ok (.if_icmp .le x, 3) := by
  show Except.bind (Except.bind (Jvm.ClassFile.Reader.u1 b pc) _) _ = _
  rw [h]
  show Except.bind (Except.bind (Jvm.ClassFile.Reader.s2 b (pc + 1)) _) _ = _
  rw [h2]
  show Except.ok ((.if_icmp .le x : Instr), pc + 3 - pc) = _
  rw [Nat.add_sub_cancel_left]
theorem dk_bipush {b : ByteArray} {pc : Nat} {x : Int} (h : gU b pc 16) (h2 : gS1 b (pc + 1) x) : decode b pc = .ok (.bipush x, 2) := by
  show Except.bind (Except.bind (Jvm.ClassFile.Reader.u1 b pc) _) _ = _
  rw [h]
  show Except.bind (Except.bind (Jvm.ClassFile.Reader.s1 b (pc + 1)) _) _ = _
  rw [h2]
  show Except.ok ((.bipush x : Instr), pc + 2 - pc) = _
  rw [Nat.add_sub_cancel_left]
theorem dk_sipush {b : ByteArray} {pc : Nat} {x : Int} (h : gU b pc 17) (h2 : gS2 b (pc + 1) x) : decode b pc = .ok (.sipush x, 3) := by
  show Except.bind (Except.bind (Jvm.ClassFile.Reader.u1 b pc) _) _ = _
  rw [h]
  show Except.bind (Except.bind (Jvm.ClassFile.Reader.s2 b (pc + 1)) _) _ = _
  rw [h2]
  show Except.ok ((.sipush x : Instr), pc + 3 - pc) = _
  rw [Nat.add_sub_cancel_left]
theorem dk_newarray_boolean {b : ByteArray} {pc : Nat} (h : gU b pc 188) (h2 : gU b (pc + 1) 4) : decode b pc = .ok (.newarray .boolean, 2) := by
  show Except.bind (Except.bind (Jvm.ClassFile.Reader.u1 b pc) _) _ = _
  rw [h]
  show Except.bind (Except.bind (Jvm.ClassFile.Reader.u1 b (pc + 1)) _) _ = _
  rw [h2]
  show Except.ok ((Instr.newarray .boolean), pc + 2 - pc) = _
  rw [Nat.add_sub_cancel_left]
theorem dk_newarray_char {b : ByteArray} {pc : Nat} (h : gU b pc 188) (h2 : gU b (pc + 1) 5) : decode b pc = .ok (.newarray .char, 2) := by
  show Except.bind (Except.bind (Jvm.ClassFile.Reader.u1 b pc) _) _ = _
  rw [h]
  show Except.bind (Except.bind (Jvm.ClassFile.Reader.u1 b (pc + 1)) _) _ = _
  rw [h2]
  show Except.ok ((Instr.newarray .char), pc + 2 - pc) = _
  rw [Nat.add_sub_cancel_left]
theorem dk_newarray_float {b : ByteArray} {pc : Nat} (h : gU b pc 188) (h2 : gU b (pc + 1) 6) : decode b pc = .ok (.newarray .float, 2) := by
  show Except.bind (Except.bind (Jvm.ClassFile.Reader.u1 b pc) _) _ = _
  rw [h]
  show Except.bind (Except.bind (Jvm.ClassFile.Reader.u1 b (pc + 1)) _) _ = _
  rw [h2]
  show Except.ok ((Instr.newarray .float), pc + 2 - pc) = _
  rw [Nat.add_sub_cancel_left]
theorem dk_newarray_double {b : ByteArray} {pc : Nat} (h : gU b pc 188) (h2 : gU b (pc + 1) 7) : decode b pc = .ok (.newarray .double, 2) := by
  show Except.bind (Except.bind (Jvm.ClassFile.Reader.u1 b pc) _) _ = _
  rw [h]
  show Except.bind (Except.bind (Jvm.ClassFile.Reader.u1 b (pc + 1)) _) _ = _
  rw [h2]
  show Except.ok ((Instr.newarray .double), pc + 2 - pc) = _
  rw [Nat.add_sub_cancel_left]
theorem dk_newarray_byte {b : ByteArray} {pc : Nat} (h : gU b pc 188) (h2 : gU b (pc + 1) 8) : decode b pc = .ok (.newarray .byte, 2) := by
  show Except.bind (Except.bind (Jvm.ClassFile.Reader.u1 b pc) _) _ = _
  rw [h]
  show Except.bind (Except.bind (Jvm.ClassFile.Reader.u1 b (pc + 1)) _) _ = _
  rw [h2]
  show Except.ok ((Instr.newarray .byte), pc + 2 - pc) = _
  rw [Nat.add_sub_cancel_left]
theorem dk_newarray_short {b : ByteArray} {pc : Nat} (h : gU b pc 188) (h2 : gU b (pc + 1) 9) : decode b pc = .ok (.newarray .short, 2) := by
  show Except.bind (Except.bind (Jvm.ClassFile.Reader.u1 b pc) _) _ = _
  rw [h]
  show Except.bind (Except.bind (Jvm.ClassFile.Reader.u1 b (pc + 1)) _) _ = _
  rw [h2]
  show Except.ok ((Instr.newarray .short), pc + 2 - pc) = _
  rw [Nat.add_sub_cancel_left]
theorem dk_newarray_int {b : ByteArray} {pc : Nat} (h : gU b pc 188) (h2 : gU b (pc + 1) 10) : decode b pc = .ok (.newarray .int, 2) := by
  show Except.bind (Except.bind (Jvm.ClassFile.Reader.u1 b pc) _) _ = _
  rw [h]
  show Except.bind (Except.bind (Jvm.ClassFile.Reader.u1 b (pc + 1)) _) _ = _
  rw [h2]
  show Except.ok ((Instr.newarray .int), pc + 2 - pc) = _
  rw [Nat.add_sub_cancel_left]
theorem dk_newarray_long {b : ByteArray} {pc : Nat} (h : gU b pc 188) (h2 : gU b (pc + 1) 11) : decode b pc = .ok (.newarray .long, 2) := by
  show Except.bind (Except.bind (Jvm.ClassFile.Reader.u1 b pc) _) _ = _
  rw [h]
  show Except.bind (Except.bind (Jvm.ClassFile.Reader.u1 b (pc + 1)) _) _ = _
  rw [h2]
  show Except.ok ((Instr.newarray .long), pc + 2 - pc) = _
  rw [Nat.add_sub_cancel_left]
theorem dk_iinc {b : ByteArray} {pc x : Nat} {y : Int} (h : gU b pc 132) (h2 : gU b (pc + 1) x) (h3 : gS1 b (pc + 1 + 1) y) : decode b pc = .ok (.iinc x y, 3) := by
  show Except.bind (Except.bind (Jvm.ClassFile.Reader.u1 b pc) _) _ = _
  rw [h]
  show Except.bind (Except.bind (Jvm.ClassFile.Reader.u1 b (pc + 1)) _) _ = _
  rw [h2]
  show Except.bind (Except.bind (Jvm.ClassFile.Reader.s1 b (pc + 1 + 1)) _) _ = _
  rw [h3]
  show Except.ok ((Instr.iinc x y), pc + 3 - pc) = _
  rw [Nat.add_sub_cancel_left]
def gCc : Jvm.ClassFile.Cond → Nat
  | .eq => 0
  | .ne => 1
  | .lt => 2
  | .ge => 3
  | .gt => 4
  | .le => 5
def gAc : Jvm.ClassFile.ArrayType → Nat
  | .boolean => 4
  | .char => 5
  | .float => 6
  | .double => 7
  | .byte => 8
  | .short => 9
  | .int => 10
  | .long => 11
def gEc : Instr → List Nat
  | .aconst_null => [1]
  | .iaload => [46]
  | .laload => [47]
  | .aaload => [50]
  | .baload => [51]
  | .caload => [52]
  | .iastore => [79]
  | .lastore => [80]
  | .aastore => [83]
  | .bastore => [84]
  | .castore => [85]
  | .pop => [87]
  | .dup => [89]
  | .dup2 => [92]
  | .iadd => [96]
  | .ladd => [97]
  | .isub => [100]
  | .lsub => [101]
  | .imul => [104]
  | .lmul => [105]
  | .idiv => [108]
  | .ldiv => [109]
  | .irem => [112]
  | .lrem => [113]
  | .ineg => [116]
  | .lneg => [117]
  | .ishl => [120]
  | .lshl => [121]
  | .ishr => [122]
  | .lshr => [123]
  | .iushr => [124]
  | .lushr => [125]
  | .iand => [126]
  | .land => [127]
  | .ior => [128]
  | .lor => [129]
  | .ixor => [130]
  | .lxor => [131]
  | .i2l => [133]
  | .l2i => [136]
  | .i2b => [145]
  | .i2c => [146]
  | .i2s => [147]
  | .lcmp => [148]
  | .ireturn => [172]
  | .lreturn => [173]
  | .areturn => [176]
  | .return_ => [177]
  | .arraylength => [190]
  | .athrow => [191]
  | .iconst k => bif decide (-1 ≤ k) && decide (k ≤ 5) then [(k + 3).toNat] else []
  | .lconst k => [9 + k.val]
  | .iload_n k => [26 + k.val]
  | .lload_n k => [30 + k.val]
  | .aload_n k => [42 + k.val]
  | .istore_n k => [59 + k.val]
  | .lstore_n k => [63 + k.val]
  | .astore_n k => [75 + k.val]
  | .ldc x => [18, x]
  | .iload x => [21, x]
  | .lload x => [22, x]
  | .aload x => [25, x]
  | .istore x => [54, x]
  | .lstore x => [55, x]
  | .astore x => [58, x]
  | .ldc_w x => [19, x / 256, x % 256]
  | .ldc2_w x => [20, x / 256, x % 256]
  | .getstatic x => [178, x / 256, x % 256]
  | .getfield x => [180, x / 256, x % 256]
  | .putfield x => [181, x / 256, x % 256]
  | .invokevirtual x => [182, x / 256, x % 256]
  | .invokespecial x => [183, x / 256, x % 256]
  | .invokestatic x => [184, x / 256, x % 256]
  | .new x => [187, x / 256, x % 256]
  | .anewarray x => [189, x / 256, x % 256]
  | .goto x => gE16 167 x
  | .ifnull x => gE16 198 x
  | .ifnonnull x => gE16 199 x
  | .ifCond c x => gE16 (153 + gCc c) x
  | .if_icmp c x => gE16 (159 + gCc c) x
  | .bipush x => gE8 16 x
  | .sipush x => gE16 17 x
  | .newarray a => [188, gAc a]
  | .iinc x y => (match gE8 0 y with
    | [_, z] => [132, x, z]
    | _ => [])
  | _ => []
theorem gEc_ok {b : ByteArray} {pc : Nat} {i : Instr} {l : List UInt8} (hn : gEc i ≠ []) (hl : b.data.toList.drop pc = l) (h : gPx (gEc i) l = true) : decode b pc = .ok (i, gLen i) := by
  cases i
  case aconst_null => exact dk_aconst_null (gPy1 hl h)
  case iaload => exact dk_iaload (gPy1 hl h)
  case laload => exact dk_laload (gPy1 hl h)
  case aaload => exact dk_aaload (gPy1 hl h)
  case baload => exact dk_baload (gPy1 hl h)
  case caload => exact dk_caload (gPy1 hl h)
  case iastore => exact dk_iastore (gPy1 hl h)
  case lastore => exact dk_lastore (gPy1 hl h)
  case aastore => exact dk_aastore (gPy1 hl h)
  case bastore => exact dk_bastore (gPy1 hl h)
  case castore => exact dk_castore (gPy1 hl h)
  case pop => exact dk_pop (gPy1 hl h)
  case dup => exact dk_dup (gPy1 hl h)
  case dup2 => exact dk_dup2 (gPy1 hl h)
  case iadd => exact dk_iadd (gPy1 hl h)
  case ladd => exact dk_ladd (gPy1 hl h)
  case isub => exact dk_isub (gPy1 hl h)
  case lsub => exact dk_lsub (gPy1 hl h)
  case imul => exact dk_imul (gPy1 hl h)
  case lmul => exact dk_lmul (gPy1 hl h)
  case idiv => exact dk_idiv (gPy1 hl h)
  case ldiv => exact dk_ldiv (gPy1 hl h)
  case irem => exact dk_irem (gPy1 hl h)
  case lrem => exact dk_lrem (gPy1 hl h)
  case ineg => exact dk_ineg (gPy1 hl h)
  case lneg => exact dk_lneg (gPy1 hl h)
  case ishl => exact dk_ishl (gPy1 hl h)
  case lshl => exact dk_lshl (gPy1 hl h)
  case ishr => exact dk_ishr (gPy1 hl h)
  case lshr => exact dk_lshr (gPy1 hl h)
  case iushr => exact dk_iushr (gPy1 hl h)
  case lushr => exact dk_lushr (gPy1 hl h)
  case iand => exact dk_iand (gPy1 hl h)
  case land => exact dk_land (gPy1 hl h)
  case ior => exact dk_ior (gPy1 hl h)
  case lor => exact dk_lor (gPy1 hl h)
  case ixor => exact dk_ixor (gPy1 hl h)
  case lxor => exact dk_lxor (gPy1 hl h)
  case i2l => exact dk_i2l (gPy1 hl h)
  case l2i => exact dk_l2i (gPy1 hl h)
  case i2b => exact dk_i2b (gPy1 hl h)
  case i2c => exact dk_i2c (gPy1 hl h)
  case i2s => exact dk_i2s (gPy1 hl h)
  case lcmp => exact dk_lcmp (gPy1 hl h)
  case ireturn => exact dk_ireturn (gPy1 hl h)
  case lreturn => exact dk_lreturn (gPy1 hl h)
  case areturn => exact dk_areturn (gPy1 hl h)
  case return_ => exact dk_return_ (gPy1 hl h)
  case arraylength => exact dk_arraylength (gPy1 hl h)
  case athrow => exact dk_athrow (gPy1 hl h)
  case iconst k =>
    have e : gEc (.iconst k) = bif decide (-1 ≤ k) && decide (k ≤ 5) then [(k + 3).toNat] else [] := rfl
    rw [e] at hn h
    cases hb : (decide (-1 ≤ k) && decide (k ≤ 5)) with
    | false => rw [hb] at hn; exact absurd rfl hn
    | true =>
      rw [hb] at h
      rw [Bool.and_eq_true, decide_eq_true_eq, decide_eq_true_eq] at hb
      have q : k = -1 ∨ k = 0 ∨ k = 1 ∨ k = 2 ∨ k = 3 ∨ k = 4 ∨ k = 5 := by omega
      rcases q with rfl | rfl | rfl | rfl | rfl | rfl | rfl
      · exact dk_iconst_m1 (gPy1 hl h)
      · exact dk_iconst_0 (gPy1 hl h)
      · exact dk_iconst_1 (gPy1 hl h)
      · exact dk_iconst_2 (gPy1 hl h)
      · exact dk_iconst_3 (gPy1 hl h)
      · exact dk_iconst_4 (gPy1 hl h)
      · exact dk_iconst_5 (gPy1 hl h)
  case lconst k =>
    match k, h with
    | 0, h => exact dk_lconst_0 (gPy1 hl h)
    | 1, h => exact dk_lconst_1 (gPy1 hl h)
  case iload_n k =>
    match k, h with
    | 0, h => exact dk_iload_n_0 (gPy1 hl h)
    | 1, h => exact dk_iload_n_1 (gPy1 hl h)
    | 2, h => exact dk_iload_n_2 (gPy1 hl h)
    | 3, h => exact dk_iload_n_3 (gPy1 hl h)
  case lload_n k =>
    match k, h with
    | 0, h => exact dk_lload_n_0 (gPy1 hl h)
    | 1, h => exact dk_lload_n_1 (gPy1 hl h)
    | 2, h => exact dk_lload_n_2 (gPy1 hl h)
    | 3, h => exact dk_lload_n_3 (gPy1 hl h)
  case aload_n k =>
    match k, h with
    | 0, h => exact dk_aload_n_0 (gPy1 hl h)
    | 1, h => exact dk_aload_n_1 (gPy1 hl h)
    | 2, h => exact dk_aload_n_2 (gPy1 hl h)
    | 3, h => exact dk_aload_n_3 (gPy1 hl h)
  case istore_n k =>
    match k, h with
    | 0, h => exact dk_istore_n_0 (gPy1 hl h)
    | 1, h => exact dk_istore_n_1 (gPy1 hl h)
    | 2, h => exact dk_istore_n_2 (gPy1 hl h)
    | 3, h => exact dk_istore_n_3 (gPy1 hl h)
  case lstore_n k =>
    match k, h with
    | 0, h => exact dk_lstore_n_0 (gPy1 hl h)
    | 1, h => exact dk_lstore_n_1 (gPy1 hl h)
    | 2, h => exact dk_lstore_n_2 (gPy1 hl h)
    | 3, h => exact dk_lstore_n_3 (gPy1 hl h)
  case astore_n k =>
    match k, h with
    | 0, h => exact dk_astore_n_0 (gPy1 hl h)
    | 1, h => exact dk_astore_n_1 (gPy1 hl h)
    | 2, h => exact dk_astore_n_2 (gPy1 hl h)
    | 3, h => exact dk_astore_n_3 (gPy1 hl h)
  case ldc x => exact dk_ldc (gPy2 hl h).1 (gPy2 hl h).2
  case iload x => exact dk_iload (gPy2 hl h).1 (gPy2 hl h).2
  case lload x => exact dk_lload (gPy2 hl h).1 (gPy2 hl h).2
  case aload x => exact dk_aload (gPy2 hl h).1 (gPy2 hl h).2
  case istore x => exact dk_istore (gPy2 hl h).1 (gPy2 hl h).2
  case lstore x => exact dk_lstore (gPy2 hl h).1 (gPy2 hl h).2
  case astore x => exact dk_astore (gPy2 hl h).1 (gPy2 hl h).2
  case ldc_w x => exact dk_ldc_w (gPy3u hl h).1 (gPy3u hl h).2
  case ldc2_w x => exact dk_ldc2_w (gPy3u hl h).1 (gPy3u hl h).2
  case getstatic x => exact dk_getstatic (gPy3u hl h).1 (gPy3u hl h).2
  case getfield x => exact dk_getfield (gPy3u hl h).1 (gPy3u hl h).2
  case putfield x => exact dk_putfield (gPy3u hl h).1 (gPy3u hl h).2
  case invokevirtual x => exact dk_invokevirtual (gPy3u hl h).1 (gPy3u hl h).2
  case invokespecial x => exact dk_invokespecial (gPy3u hl h).1 (gPy3u hl h).2
  case invokestatic x => exact dk_invokestatic (gPy3u hl h).1 (gPy3u hl h).2
  case new x => exact dk_new (gPy3u hl h).1 (gPy3u hl h).2
  case anewarray x => exact dk_anewarray (gPy3u hl h).1 (gPy3u hl h).2
  case goto x => exact dk_goto (gE16_ok hn hl h).1 (gE16_ok hn hl h).2
  case ifnull x => exact dk_ifnull (gE16_ok hn hl h).1 (gE16_ok hn hl h).2
  case ifnonnull x => exact dk_ifnonnull (gE16_ok hn hl h).1 (gE16_ok hn hl h).2
  case ifCond c x =>
    cases c
    case eq => exact dk_ifCond_eq (gE16_ok hn hl h).1 (gE16_ok hn hl h).2
    case ne => exact dk_ifCond_ne (gE16_ok hn hl h).1 (gE16_ok hn hl h).2
    case lt => exact dk_ifCond_lt (gE16_ok hn hl h).1 (gE16_ok hn hl h).2
    case ge => exact dk_ifCond_ge (gE16_ok hn hl h).1 (gE16_ok hn hl h).2
    case gt => exact dk_ifCond_gt (gE16_ok hn hl h).1 (gE16_ok hn hl h).2
    case le => exact dk_ifCond_le (gE16_ok hn hl h).1 (gE16_ok hn hl h).2
  case if_icmp c x =>
    cases c
    case eq => exact dk_if_icmp_eq (gE16_ok hn hl h).1 (gE16_ok hn hl h).2
    case ne => exact dk_if_icmp_ne (gE16_ok hn hl h).1 (gE16_ok hn hl h).2
    case lt => exact dk_if_icmp_lt (gE16_ok hn hl h).1 (gE16_ok hn hl h).2
    case ge => exact dk_if_icmp_ge (gE16_ok hn hl h).1 (gE16_ok hn hl h).2
    case gt => exact dk_if_icmp_gt (gE16_ok hn hl h).1 (gE16_ok hn hl h).2
    case le => exact dk_if_icmp_le (gE16_ok hn hl h).1 (gE16_ok hn hl h).2
  case bipush x => exact dk_bipush (gE8_ok hn hl h).1 (gE8_ok hn hl h).2
  case sipush x => exact dk_sipush (gE16_ok hn hl h).1 (gE16_ok hn hl h).2
  case newarray a =>
    cases a
    case boolean => exact dk_newarray_boolean (gPy2 hl h).1 (gPy2 hl h).2
    case char => exact dk_newarray_char (gPy2 hl h).1 (gPy2 hl h).2
    case float => exact dk_newarray_float (gPy2 hl h).1 (gPy2 hl h).2
    case double => exact dk_newarray_double (gPy2 hl h).1 (gPy2 hl h).2
    case byte => exact dk_newarray_byte (gPy2 hl h).1 (gPy2 hl h).2
    case short => exact dk_newarray_short (gPy2 hl h).1 (gPy2 hl h).2
    case int => exact dk_newarray_int (gPy2 hl h).1 (gPy2 hl h).2
    case long => exact dk_newarray_long (gPy2 hl h).1 (gPy2 hl h).2
  case iinc x y =>
    have e : gEc (.iinc x y) = (match gE8 0 y with
      | [_, z] => [132, x, z]
      | _ => []) := rfl
    have q : ∀ c : Nat, gE8 c y = [] ∨ ∃ z, gE8 c y = [c, z] ∧ gE8 0 y = [0, z] := by
      intro c
      cases y with
      | ofNat m =>
        show (bif Nat.blt m 128 then [c, m] else []) = [] ∨ ∃ z, (bif Nat.blt m 128 then [c, m] else []) = [c, z] ∧ (bif Nat.blt m 128 then [0, m] else []) = [0, z]
        cases Nat.blt m 128 with
        | true => exact .inr ⟨m, rfl, rfl⟩
        | false => exact .inl rfl
      | negSucc m =>
        show (bif Nat.blt m 128 then [c, 255 - m] else []) = [] ∨ ∃ z, (bif Nat.blt m 128 then [c, 255 - m] else []) = [c, z] ∧ (bif Nat.blt m 128 then [0, 255 - m] else []) = [0, z]
        cases Nat.blt m 128 with
        | true => exact .inr ⟨255 - m, rfl, rfl⟩
        | false => exact .inl rfl
    rw [e] at hn h
    rcases q 0 with q0 | ⟨z, q1, _⟩
    · rw [q0] at hn
      exact absurd rfl hn
    · rw [q1] at h
      obtain ⟨h1, h2, h3⟩ := gPy3 hl h
      rcases q x with q0 | ⟨z', q2, q3⟩
      · have q4 := q0
        cases y with
        | ofNat m =>
          have a1 : (bif Nat.blt m 128 then [x, m] else []) = [] := q0
          have a2 : (bif Nat.blt m 128 then [0, m] else []) = [0, z] := q1
          cases hb : Nat.blt m 128 with
          | true => rw [hb] at a1; cases a1
          | false => rw [hb] at a2; cases a2
        | negSucc m =>
          have a1 : (bif Nat.blt m 128 then [x, 255 - m] else []) = [] := q0
          have a2 : (bif Nat.blt m 128 then [0, 255 - m] else []) = [0, z] := q1
          cases hb : Nat.blt m 128 with
          | true => rw [hb] at a1; cases a1
          | false => rw [hb] at a2; cases a2
      · have zz : z' = z := by
          rw [q1] at q3
          injection q3 with _ q5
          injection q5 with q6
          exact q6.symm
        subst zz
        have hd : b.data.toList.drop (pc + 1) = b.data.toList.drop (pc + 1) := rfl
        obtain ⟨_, r, hr, h4⟩ := gPx_st hl h
        have s := gE8_ok (c := x) (s := y) (by rw [q2]; intro w; cases w) hr (by rw [q2]; exact h4)
        exact dk_iinc h1 h2 s.2
  all_goals exact absurd rfl hn
def gOld (b : ByteArray) (pc : Nat) (i : Instr) : Bool := (match decode b pc with
  | .ok r => decide (r.1 = i) && (Nat.beq r.2 (gLen i) || gAny i)
  | .error _ => false)
noncomputable def gDq (b : ByteArray) (pc : Nat) (i : Instr) (l : List UInt8) : Bool := match gEc i with
  | [] => gOld b pc i
  | x :: xs => gPx (x :: xs) l
theorem gDq_ok {b : ByteArray} {pc : Nat} {i : Instr} {l : List UInt8} (hl : b.data.toList.drop pc = l) (h : gDq b pc i l = true) : gOld b pc i = true := by
  unfold gDq at h
  cases he : gEc i with
  | nil => rw [he] at h; exact h
  | cons x xs =>
    rw [he] at h
    have q := gEc_ok (by rw [he]; exact List.cons_ne_nil _ _) hl (by rw [he]; exact h)
    unfold gOld
    rw [q]
    show (decide (i = i) && (Nat.beq (gLen i) (gLen i) || gAny i)) = true
    rw [decide_eq_true rfl, Nat.beq_refl]
    rfl
noncomputable def gOne (j : Nat) (l : List UInt8) (e : gE) : Bool := gDq (gBy j) e.1 e.2.1 l && (bif Nat.beq (gOwT.getD j 99) 99 then gck (gM j).1.cls (gM j).1.name (gMax j) e.1 e.2.2.1 e.2.2.2.1 e.2.2.2.2.1 e.2.2.2.2.2 e.2.1 else gckq (gOwT.getD j 99) (gM j).1.cls (gM j).1.name (gMax j) e.1 e.2.2.1 e.2.2.2.1 e.2.2.2.2.1 e.2.2.2.2.2 e.2.1)
theorem gOne_ok {j : Nat} {l : List UInt8} {e : gE} (hl : (gBy j).data.toList.drop e.1 = l) (h : gOne j l e = true) : gchkq j e = true := by
  unfold gOne at h
  rw [Bool.and_eq_true] at h
  have q := gDq_ok hl h.1
  unfold gOld at q
  unfold gchkq
  rw [Bool.and_eq_true]
  exact ⟨q, h.2⟩
noncomputable def gDr (k : List UInt8 → Bool) (l : List UInt8) : Nat → Bool := List.rec (motive := fun _ => Nat → Bool) (fun _ => k []) (fun y r ih n => bif Nat.beq n 0 then k (y :: r) else ih (n - 1)) l
theorem gDr_eq {k : List UInt8 → Bool} : ∀ {l : List UInt8} {n : Nat}, gDr k l n = k (l.drop n) := by
  intro l
  induction l with
  | nil => intro n; rw [List.drop_nil]; rfl
  | cons y r ih =>
    intro n
    have e : gDr k (y :: r) n = bif Nat.beq n 0 then k (y :: r) else gDr k r (n - 1) := rfl
    rw [e]
    cases n with
    | zero => rfl
    | succ n => exact ih
noncomputable def gWalk (j : Nat) (es : List gE) : List UInt8 → Nat → Bool := List.rec (motive := fun _ => List UInt8 → Nat → Bool) (fun _ _ => true) (fun e _ ih l p => Nat.ble p e.1 && gDr (fun m => gOne j m e && ih m e.1) l (e.1 - p)) es
theorem gWalk_ok {j : Nat} : ∀ {es : List gE} {l : List UInt8} {p : Nat}, (gBy j).data.toList.drop p = l → gWalk j es l p = true → ∀ e ∈ es, gchkq j e = true := by
  intro es
  induction es with
  | nil => intro l p _ _ e he; exact absurd he List.not_mem_nil
  | cons e0 es ih =>
    intro l p hl h e he
    have h2 : (Nat.ble p e0.1 && gDr (fun m => gOne j m e0 && gWalk j es m e0.1) l (e0.1 - p)) = true := h
    rw [Bool.and_eq_true, gDr_eq, Bool.and_eq_true] at h2
    have hp : p ≤ e0.1 := Nat.le_of_ble_eq_true h2.1
    have hd : (gBy j).data.toList.drop e0.1 = l.drop (e0.1 - p) := by
      rw [← hl, List.drop_drop]
      congr 1
      omega
    rcases List.mem_cons.mp he with rfl | he
    · exact gOne_ok hd h2.2.1
    · exact ih hd h2.2.2 e he
noncomputable def gPchkS (j : Nat) : Bool := gWalk j (gProg j).flatten (gBy j).data.toList 0
