/-! WHAT BOTH PROGRAMS KEEP of the tape, the SHEETS' number and the EDITIONS (hand; behind tokens.lean.txt): a state told once, its changes told once. -/
-- (taped, bytes, place, SHEETS, EDITIONS, sizes, parts, origins, 1 if a SHEET was told for the last EDITION)
abbrev MXS := Int × (Nat → Int) × Int × Int × Int × (Nat → Int) × (Nat → Int) × (Nat → Int) × Int
/-- a byte of a word, shifted by s -/
def byteF (w s : Int) : Int := o32 (fun x y => x &&& y) (o32 (fun x y => x >>> (y &&& 31)) w s) 255
/-- the first k bytes of word w put from place f on -/
def pW (w : Int) (b : Nat → Int) (f : Int) : Nat → (Nat → Int)
  | 0 => b
  | k + 1 => uF (pW w b f k) (f + (k : Int)) (byteF w (24 - 8 * (k : Int)))
def mPut (w : Int) (m : MXS) : MXS := (m.1 + 4, pW w m.2.1 m.1 4, m.2.2)
def mFeed (a b c d e : Int) (m : MXS) : MXS × Int := if 2000 < m.1 + 20 then (m, -1) else (mPut e (mPut d (mPut c (mPut b (mPut a m)))), m.1 + 20)
def mBack (n : Int) (m : MXS) : MXS × Int := if n < 0 ∨ m.1 < n then (m, -1) else ((m.1 - n, m.2), m.1 - n)
noncomputable def mRead (m : MXS) : MXS × Int := if 8 ≤ m.2.2.2.1 then (m, -2)
  else if pRes (pRead (pTx m.2.1 m.1)) = 0 ∧ ¬ (pTx m.2.1 m.1).1 0 = 19 then ((0, m.2.1, pPlc (pRead (pTx m.2.1 m.1)), m.2.2.2.1 + 1, m.2.2.2.2.1, m.2.2.2.2.2.1, m.2.2.2.2.2.2.1, m.2.2.2.2.2.2.2.1, 1), pRes (pRead (pTx m.2.1 m.1)))
  else ((0, m.2.1, pPlc (pRead (pTx m.2.1 m.1)), m.2.2.2), pRes (pRead (pTx m.2.1 m.1)))
def mReel (n : Int) (m : MXS) : MXS × Int := if m.2.2.2.1 = 0 ∧ m.2.2.2.2.1 ≤ 1 ∧ 1 ≤ n ∧ n ≤ 60 then ((m.1, m.2.1, m.2.2.1, m.2.2.2.1, m.2.2.2.2.1, uF m.2.2.2.2.2.1 0 n, m.2.2.2.2.2.2), 1) else (m, 0)
def mBegin (m : MXS) : MXS × Int := if 6 ≤ m.2.2.2.2.1 ∨ m.2.2.2.2.2.1 (m.2.2.2.2.1 - 1).toNat = 0 then (m, -1) else ((m.1, m.2.1, m.2.2.1, m.2.2.2.1, m.2.2.2.2.1 + 1, m.2.2.2.2.2.1, m.2.2.2.2.2.2.1, m.2.2.2.2.2.2.2.1, 0), m.2.2.2.2.1)
/-- k FRAMES of first on (none: BLANK), put from place p on -/
def pO (first p : Int) (o : Nat → Int) : Nat → (Nat → Int)
  | 0 => o
  | k + 1 => uF (pO first p o k) (p + (k : Int)) (if first = -1 then -1 else first + (k : Int))
def mExt (first n : Int) (m : MXS) : MXS × Int :=
  if m.2.2.2.2.1 - 1 = 0 ∨ m.2.2.2.2.2.2.2.2 = 1 ∨ 10 ≤ m.2.2.2.2.2.2.1 (m.2.2.2.2.1 - 1).toNat ∨ n < 1 ∨ 60 - m.2.2.2.2.2.1 (m.2.2.2.2.1 - 1).toNat < n then (m, -1)
  else ((m.1, m.2.1, m.2.2.1, m.2.2.2.1, m.2.2.2.2.1, uF m.2.2.2.2.2.1 (m.2.2.2.2.1 - 1) (m.2.2.2.2.2.1 (m.2.2.2.2.1 - 1).toNat + n), uF m.2.2.2.2.2.2.1 (m.2.2.2.2.1 - 1) (m.2.2.2.2.2.2.1 (m.2.2.2.2.1 - 1).toNat + 1), pO first (60 * (m.2.2.2.2.1 - 1) + m.2.2.2.2.2.1 (m.2.2.2.2.1 - 1).toNat) m.2.2.2.2.2.2.2.1 n.toNat, m.2.2.2.2.2.2.2.2), m.2.2.2.2.2.1 (m.2.2.2.2.1 - 1).toNat + n)
def mKeep (a b : Int) (m : MXS) : MXS × Int := if m.2.2.2.2.1 - 1 = 0 ∨ a < 0 ∨ b ≤ a ∨ m.2.2.2.2.2.1 (m.2.2.2.2.1 - 1 - 1).toNat < b then (m, -1) else mExt a (b - a) m
def mFrames (e : Int) (m : MXS) : Int := if 0 ≤ e ∧ e < m.2.2.2.2.1 then m.2.2.2.2.2.1 e.toNat else -1
/-- where FRAME f of EDITION d + k came from in EDITION d -/
def pFrom (o : Nat → Int) (d : Int) : Nat → Int → Int
  | 0, f => f
  | k + 1, f => if f = -1 then -1 else pFrom o d k (o (60 * (d + (k : Int) + 1) + f).toNat)
def mOld (e f d : Int) (m : MXS) : Int := if (0 ≤ e ∧ e < m.2.2.2.2.1) ∧ 0 ≤ d ∧ d ≤ e ∧ 0 ≤ f ∧ f < m.2.2.2.2.2.1 e.toNat then pFrom m.2.2.2.2.2.2.2.1 d (e - d).toNat f else -2
/-- between which bounds it stays -/
def MT (m : MXS) : Prop := (0 ≤ m.1 ∧ m.1 ≤ 2000) ∧ (0 ≤ m.2.2.2.1 ∧ m.2.2.2.1 ≤ 8) ∧ (1 ≤ m.2.2.2.2.1 ∧ m.2.2.2.2.1 ≤ 6) ∧ (∀ j : Nat, 0 ≤ m.2.2.2.2.2.1 j ∧ m.2.2.2.2.2.1 j ≤ 60) ∧ (∀ j : Nat, 0 ≤ m.2.2.2.2.2.2.1 j ∧ m.2.2.2.2.2.2.1 j ≤ 10) ∧ (∀ j : Nat, -1 ≤ m.2.2.2.2.2.2.2.1 j ∧ m.2.2.2.2.2.2.2.1 j ≤ 59) ∧ ∀ j : Nat, m.2.2.2.2.1 ≤ (j : Int) → m.2.2.2.2.2.1 j = 0 ∧ m.2.2.2.2.2.2.1 j = 0
theorem pW_4 {w f : Int} {b : Nat → Int} : pW w b f 4 = uF (uF (uF (uF b f (byteF w 24)) (f + 1) (byteF w 16)) (f + 2) (byteF w 8)) (f + 3) (byteF w 0) := by
  have e0 : f + ((0 : Nat) : Int) = f := by omega
  show uF (uF (uF (uF b (f + ((0 : Nat) : Int)) _) _ _) _ _) _ _ = _
  rw [e0]
  rfl
theorem pFrom_neg {o : Nat → Int} {d : Int} : ∀ {k : Nat}, pFrom o d k (-1) = -1
  | 0 => rfl
  | _ + 1 => if_pos rfl
theorem sh_ok (s : Int) (h : s = 24 ∨ s = 16 ∨ s = 8 ∨ s = 0) : ∃ k : Nat, k ≤ 24 ∧ ((Int32.ofInt s &&& 31).toBitVec.smod 32).toNat = k ∧ (((Int32.ofInt s).toUInt32 &&& Int32.toUInt32 31).toBitVec % 32).toNat = k := by
  rcases h with rfl | rfl | rfl | rfl
  · exact ⟨24, by decide, by decide, by decide⟩
  · exact ⟨16, by decide, by decide, by decide⟩
  · exact ⟨8, by decide, by decide, by decide⟩
  · exact ⟨0, by decide, by decide, by decide⟩
theorem o32_ofInt (x : Int32) : Int32.ofInt x.toInt = x := Int32.ofInt_toInt x
/-- the class's way to a byte -/
theorem byteU {w s : Int} (h : s = 24 ∨ s = 16 ∨ s = 8 ∨ s = 0) : o32 (fun x y => x &&& y) (o32 (fun x y => (x.toUInt32 >>> (y.toUInt32 &&& Int32.toUInt32 31)).toInt32) w s) 255 = byteF w s := by
  obtain ⟨k, hk, e1, e2⟩ := sh_ok s h
  unfold byteF o32
  rw [o32_ofInt, o32_ofInt]
  refine congrArg Int32.toInt ?_
  apply Int32.toBitVec_inj.mp
  apply BitVec.eq_of_getLsbD_eq
  intro i hi
  rw [Int32.toBitVec_and, Int32.toBitVec_and, BitVec.getLsbD_and, BitVec.getLsbD_and]
  by_cases c : i < 8
  · refine congrArg (· && _) ?_
    show (((Int32.ofInt w).toUInt32 >>> ((Int32.ofInt s).toUInt32 &&& Int32.toUInt32 31)).toBitVec).getLsbD i = ((Int32.ofInt w >>> (Int32.ofInt s &&& 31)).toBitVec).getLsbD i
    rw [UInt32.toBitVec_shiftRight, Int32.toBitVec_shiftRight, BitVec.ushiftRight_eq', BitVec.sshiftRight_eq', e1, e2, BitVec.getLsbD_ushiftRight, BitVec.getLsbD_sshiftRight, if_pos (by omega), decide_eq_false (by omega), Bool.not_false, Bool.true_and]
    rfl
  · have e : (Int32.ofInt 255).toBitVec.getLsbD i = false := by
      have : ∀ i : Fin 32, 8 ≤ i.val → (Int32.ofInt 255).toBitVec.getLsbD i.val = false := by decide
      exact this ⟨i, hi⟩ (by show 8 ≤ i; omega)
    rw [e, Bool.and_false, Bool.and_false]
/-- the reference's way -/
theorem byteR {w s : Int} : o32 (fun x y => x &&& y) (o32 (fun x _ => x.toInt8.toInt32) (o32 (fun x _ => x.toInt8.toInt32) (o32 (fun x y => x >>> (y &&& 31)) w s) 0) 0) 255 = byteF w s := by
  unfold byteF o32
  rw [o32_ofInt, o32_ofInt, o32_ofInt]
  refine congrArg Int32.toInt ?_
  generalize (Int32.ofInt w >>> (Int32.ofInt s &&& 31)) = x
  apply Int32.toBitVec_inj.mp
  apply BitVec.eq_of_getLsbD_eq
  intro i hi
  rw [Int32.toBitVec_and, Int32.toBitVec_and, BitVec.getLsbD_and, BitVec.getLsbD_and]
  by_cases c : i < 8
  · refine congrArg (· && _) ?_
    rw [Int8.toBitVec_toInt32, BitVec.getLsbD_signExtend, if_pos c, decide_eq_true hi, Bool.true_and, Int32.toBitVec_toInt8, BitVec.getLsbD_signExtend, if_pos (by omega), decide_eq_true c, Bool.true_and, Int8.toBitVec_toInt32, BitVec.getLsbD_signExtend, if_pos c, decide_eq_true hi, Bool.true_and, Int32.toBitVec_toInt8, BitVec.getLsbD_signExtend, if_pos (by omega), decide_eq_true c, Bool.true_and]
  · have e : (Int32.ofInt 255).toBitVec.getLsbD i = false := by
      have : ∀ i : Fin 32, 8 ≤ i.val → (Int32.ofInt 255).toBitVec.getLsbD i.val = false := by decide
      exact this ⟨i, hi⟩ (by show 8 ≤ i; omega)
    rw [e, Bool.and_false, Bool.and_false]
