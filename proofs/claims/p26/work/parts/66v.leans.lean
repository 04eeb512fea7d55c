/-! WHAT LEANS ON WHAT IN THE CLASS (hand; behind quar). -/
theorem ushr_amt : ∀ k : Fin 32, (((Int32.ofInt (k.val : Int)).toUInt32 &&& Int32.toUInt32 31).toBitVec % 32).toNat = k.val := by decide +kernel
theorem bt_ushr {n x k : Int} (h : n = o32 (fun x y => (x.toUInt32 >>> (y.toUInt32 &&& Int32.toUInt32 31)).toInt32) x k) (h0 : 0 ≤ k) (hk : k < 32) (j : Nat) : bt n j = bt x (k.toNat + j) := by
  have a := ushr_amt ⟨k.toNat, by omega⟩
  dsimp only at a
  rw [show ((k.toNat : Nat) : Int) = k by omega] at a
  rw [h]
  unfold bt o32
  rw [of32]
  show ((Int32.ofInt x).toUInt32 >>> ((Int32.ofInt k).toUInt32 &&& Int32.toUInt32 31)).toBitVec.getLsbD j = _
  rw [UInt32.toBitVec_shiftRight, BitVec.ushiftRight_eq', a, BitVec.getLsbD_ushiftRight]
  rfl
theorem bv_one (x : BitVec 32) : (x &&& 1#32) = (if x.getLsbD 0 = true then 1#32 else 0#32) := by
  apply BitVec.eq_of_getLsbD_eq
  intro i hi
  rw [BitVec.getLsbD_and]
  by_cases h0 : i = 0
  · subst h0
    cases hx : x.getLsbD 0 with
    | true => rw [if_pos rfl]; decide
    | false => rw [if_neg (by decide)]; decide
  · have e : (1#32).getLsbD i = false := by
      rw [BitVec.getLsbD_one]
      simp [h0]
    rw [e, Bool.and_false]
    split
    · exact e.symm
    · exact BitVec.getLsbD_zero.symm
theorem and1_val {m n c : Int} (h : m = o32 (fun x y => x &&& y) n c) (hc : c = 1) : m = (if bt n 0 = true then 1 else 0) := by
  have e := bv_one (Int32.ofInt n).toBitVec
  rw [h, hc]
  unfold o32
  rw [← Int32.toInt_toBitVec, Int32.toBitVec_and]
  show ((Int32.ofInt n).toBitVec &&& 1#32).toInt = _
  rw [e]
  unfold bt
  split <;> rfl
theorem bt_utest {n m x k c : Int} (h1 : n = o32 (fun x y => (x.toUInt32 >>> (y.toUInt32 &&& Int32.toUInt32 31)).toInt32) x k) (h2 : m = o32 (fun x y => x &&& y) n c) (hc : c = 1) (h0 : 0 ≤ k) (hk : k < 32) : ¬ m = 0 ↔ bt x k.toNat = true := by
  have e := bt_ushr h1 h0 hk 0
  rw [Nat.add_zero] at e
  have f := and1_val h2 hc
  rw [e] at f
  rw [f]
  cases bt x k.toNat with
  | true => simp
  | false => simp
theorem bt_lt {x : Int} {k : Nat} (h : bt x k = true) : k < 32 := BitVec.lt_of_getLsbD h
/-- nothing left behind a shift: all bits are below -/
theorem ushr_z {n x k : Int} (h : n = o32 (fun x y => (x.toUInt32 >>> (y.toUInt32 &&& Int32.toUInt32 31)).toInt32) x k) (h0 : 0 ≤ k) (hk : k < 32) (hn : n = 0) (j : Nat) (hj : bt x j = true) : (j : Int) < k := by
  refine Classical.byContradiction fun q => ?_
  have e := bt_ushr h h0 hk (j - k.toNat)
  rw [show k.toNat + (j - k.toNat) = j by omega, hj, hn, bt_zero] at e
  cases e
theorem ushr_nz {n x k : Int} (h : n = o32 (fun x y => (x.toUInt32 >>> (y.toUInt32 &&& Int32.toUInt32 31)).toInt32) x k) (h0 : 0 ≤ k) (hk : k < 32) (hn : ¬ n = 0) : ∃ j : Nat, j < 32 ∧ bt x j = true ∧ k ≤ (j : Int) := by
  obtain ⟨i, _, e⟩ := bt_any (o32_lo h) (o32_hi h) hn
  rw [bt_ushr h h0 hk i] at e
  exact ⟨k.toNat + i, bt_lt e, e, by omega⟩
theorem bts_ext {r q : Int} {p : Nat → Prop} (r1 : -2147483648 ≤ r) (r2 : r ≤ 2147483647) (q1 : -2147483648 ≤ q) (q2 : q ≤ 2147483647) (a : BTS r p) (b : BTS q p) : r = q := by
  have e : (Int32.ofInt r).toBitVec = (Int32.ofInt q).toBitVec := by
    apply BitVec.eq_of_getLsbD_eq
    intro i hi
    have x := a i hi
    have y := b i hi
    show bt r i = bt q i
    cases hx : bt r i with
    | true => exact (y.mpr (x.mp hx)).symm
    | false =>
      cases hy : bt q i with
      | true => exact absurd (x.mpr (y.mp hy)) (by rw [hx]; decide)
      | false => rfl
  have f : (Int32.ofInt r).toInt = r := i32_id r1 r2
  have g : (Int32.ofInt q).toInt = q := i32_id q1 q2
  rw [← f, ← g, ← Int32.toInt_toBitVec, ← Int32.toInt_toBitVec, e]
theorem or_0 {m n x y : Int} (h : m = o32 (fun x y => x ||| y) n x) (n0 : 0 ≤ n) (n1 : n ≤ 1) (hx : x = y) (hy : 0 ≤ y) (hy1 : y ≤ 1) (hm : m = 0) : n = 0 ∧ y = 0 := by
  have t : ∀ a b : Fin 2, o32 (fun x y => x ||| y) (a.val : Int) (b.val : Int) = 0 → a.val = 0 ∧ b.val = 0 := by decide +kernel
  have z := t ⟨n.toNat, by omega⟩ ⟨y.toNat, by omega⟩
  dsimp only at z
  rw [show ((n.toNat : Nat) : Int) = n by omega, show ((y.toNat : Nat) : Int) = y by omega, ← hx, ← h] at z
  have z := z hm
  omega
/-- the rows of those whose bits are set, joined: those below n -/
def JNp (f : Nat → Int) (b n : Int) (j : Nat) : Prop := ∃ i : Nat, (i : Int) < n ∧ bt b i = true ∧ bt (f i) j = true
theorem JN_0 {f : Nat → Int} {b n r : Int} (hr : r = 0) (hn : n = 0) : BTS r (JNp f b n) := fun j _ => by
  rw [hr, bt_zero]
  refine ⟨fun z => (nomatch z), fun z => ?_⟩
  obtain ⟨i, hi, _⟩ := z
  omega
theorem JN_skip {f : Nat → Int} {b n n' r : Int} (h : BTS r (JNp f b n)) (h0 : 0 ≤ n) (hb : ¬ bt b n.toNat = true) (hn : n' = n + 1) : BTS r (JNp f b n') := BTS_congr h fun j _ => by
  refine ⟨fun z => ?_, fun z => ?_⟩
  · obtain ⟨i, a, c⟩ := z
    exact ⟨i, by omega, c⟩
  · obtain ⟨i, a, c⟩ := z
    by_cases e : (i : Int) = n
    · rw [show i = n.toNat by omega] at c
      exact absurd c.1 hb
    · exact ⟨i, by omega, c⟩
theorem JN_add {f : Nat → Int} {b n n' r r1 m : Int} (h : BTS r (JNp f b n)) (h0 : 0 ≤ n) (hb : bt b n.toNat = true) (ho : r1 = o32 (fun x y => x ||| y) r m) (hm : m = f n.toNat) (hn : n' = n + 1) : BTS r1 (JNp f b n') := fun j hj => by
  rw [ho, bt_or, Bool.or_eq_true, h j hj, hm]
  refine ⟨fun z => ?_, fun z => ?_⟩
  · rcases z with ⟨i, a, c⟩ | z
    · exact ⟨i, by omega, c⟩
    · exact ⟨n.toNat, by omega, hb, z⟩
  · obtain ⟨i, a, c, d⟩ := z
    by_cases e : (i : Int) = n
    · rw [show i = n.toNat by omega] at d
      exact .inr d
    · exact .inl ⟨i, by omega, c, d⟩
theorem LS_cases {S : Int} {nx : Nat → Nat → Prop} {k j : Nat} (h : LSp S nx k j) : nx k j ∨ ∃ t : Nat, (t : Int) < S ∧ nx k t ∧ LSp S nx t j := by
  refine h (fun j => nx k j ∨ ∃ t : Nat, (t : Int) < S ∧ nx k t ∧ LSp S nx t j) (fun i hi => .inl hi) (fun a b ha hS hn => ?_)
  rcases ha with ha | ⟨t, t1, t2, t3⟩
  · exact .inr ⟨a, hS, ha, LS_one hn⟩
  · exact .inr ⟨t, t1, t2, LS_next t3 hS hn⟩
/-- a rank below 20 -/
def RKp (S : Int) (nx : Nat → Nat → Prop) (rk : Nat → Nat) : Prop := ∀ k : Nat, (k : Int) < S → rk k < 20 ∧ ∀ j, nx k j → (j : Int) < S ∧ rk j < rk k
theorem RK_of {S : Int} {nx : Nat → Nat → Prop} (h : ∃ r : Nat → Nat, ∀ k : Nat, (k : Int) < S → ∀ j, nx k j → (j : Int) < S ∧ r j < r k) (hS : S ≤ 20) : ∃ rk, RKp S nx rk := by
  obtain ⟨r, hr⟩ := h
  have ir : ∀ k : Nat, (!(decide (r k < r k))) = true := fun k => by
    rw [decide_eq_false (Nat.lt_irrefl _)]
    rfl
  refine ⟨fun k => nz (fun i => !(decide (r i < r k))) 20, fun k hk => ⟨?_, fun j hj => ⟨(hr k hk j hj).1, ?_⟩⟩⟩
  · have z := nz_lt (p := fun _ => false) (q := fun i => !(decide (r i < r k))) (n := 20) (fun _ _ z => (nomatch z)) ⟨k, by omega, rfl, ir k⟩
    have e : nz (fun _ => false) 20 = 20 := by decide +kernel
    rw [e] at z
    exact z
  · have q := hr k hk j hj
    refine nz_lt (p := fun i => !(decide (r i < r k))) (q := fun i => !(decide (r i < r j))) (n := 20) (fun i _ z => ?_) ⟨j, by omega, ?_, ir j⟩
    · have z1 : (!(decide (r i < r k))) = true := z
      show (!(decide (r i < r j))) = true
      rw [Bool.not_eq_true', decide_eq_false_iff_not] at z1 ⊢
      omega
    · show (!(decide (r j < r k))) = false
      rw [decide_eq_true q.2]
      rfl
/-- the rows while they are found: no bit too many; all there -/
def LNs (S : Int) (nx : Nat → Nat → Prop) (f : Nat → Int) : Prop := ∀ i : Nat, (i : Int) < S → ∀ j, j < 32 → bt (f i) j = true → LSp S nx i j
def LNd (S : Int) (nx : Nat → Nat → Prop) (f : Nat → Int) (i : Nat) : Prop := ∀ j, j < 32 → LSp S nx i j → bt (f i) j = true
def FXp (S : Int) (nx : Nat → Nat → Prop) (f : Nat → Int) (n : Int) : Prop := ∀ k : Nat, (k : Int) < n → (k : Int) < S → ∀ j, j < 32 → (nx k j ∨ ∃ t : Nat, (t : Int) < S ∧ nx k t ∧ bt (f t) j = true) → bt (f k) j = true
/-- between two passes -/
def LNO (S : Int) (nx : Nat → Nat → Prop) (rk : Nat → Nat) (f : Nat → Int) (p more : Int) : Prop := 0 ≤ p ∧ LNs S nx f ∧ (∀ i : Nat, (i : Int) < S → (rk i : Int) < p → LNd S nx f i) ∧ (more = 0 → FXp S nx f S)
/-- within a pass: those below n are done -/
def LNI (S : Int) (nx : Nat → Nat → Prop) (rk : Nat → Nat) (f : Nat → Int) (p n more : Int) : Prop := 0 ≤ p ∧ 0 ≤ n ∧ LNs S nx f ∧ (∀ i : Nat, (i : Int) < S → (rk i : Int) < p → LNd S nx f i) ∧ (∀ i : Nat, (i : Int) < n → (i : Int) < S → (rk i : Int) ≤ p → LNd S nx f i) ∧ (more = 0 → FXp S nx f n)
theorem LNO_0 {S : Int} {nx : Nat → Nat → Prop} {rk : Nat → Nat} {f : Nat → Int} {p more : Int} (hf : ∀ i : Nat, (i : Int) < S → f i = 0) (hp : p = 0) (hm : ¬ more = 0) : LNO S nx rk f p more := by
  refine ⟨by omega, fun i hi j _ z => ?_, fun i _ z => ?_, fun z => absurd z hm⟩
  · rw [hf i hi, bt_zero] at z
    cases z
  · exfalso
    omega
theorem LNO_in {S : Int} {nx : Nat → Nat → Prop} {rk : Nat → Nat} {f : Nat → Int} {p more n m : Int} (h : LNO S nx rk f p more) (hn : n = 0) : LNI S nx rk f p n m := by
  obtain ⟨h1, h2, h3, _⟩ := h
  refine ⟨h1, by omega, h2, h3, fun i hi => ?_, fun _ k hk => ?_⟩
  · exfalso
    omega
  · exfalso
    omega
theorem LNI_end {S : Int} {nx : Nat → Nat → Prop} {rk : Nat → Nat} {f : Nat → Int} {p p' n more : Int} (h : LNI S nx rk f p n more) (hn : S ≤ n) (hp : p' = p + 1) : LNO S nx rk f p' more := by
  obtain ⟨h1, h2, h3, h4, h5, h6⟩ := h
  exact ⟨by omega, h3, fun i hi z => h5 i (by omega) hi (by omega), fun z k hk => h6 z k (by omega)⟩
theorem LNO_fin {S : Int} {nx : Nat → Nat → Prop} {rk : Nat → Nat} {f : Nat → Int} {p more : Int} (h : LNO S nx rk f p more) (R : RKp S nx rk) (e : 20 < p ∨ more = 0) : ∀ i : Nat, (i : Int) < S → BTS (f i) (LSp S nx i) := by
  obtain ⟨h1, h2, h3, h4⟩ := h
  have d : ∀ i : Nat, (i : Int) < S → LNd S nx f i := by
    rcases e with e | e
    · exact fun i hi => h3 i hi (by have := (R i hi).1; omega)
    · have fx := h4 e
      have g : ∀ m : Nat, ∀ i : Nat, (i : Int) < S → rk i < m → LNd S nx f i := by
        intro m
        induction m with
        | zero => exact fun i _ z => absurd z (Nat.not_lt_zero _)
        | succ m ih =>
          intro i hi hm j hj l
          rcases LS_cases l with l | ⟨t, t1, t2, t3⟩
          · exact fx i hi hi j hj (.inl l)
          · exact fx i hi hi j hj (.inr ⟨t, t1, t2, ih t t1 (by have := ((R i hi).2 t t2).2; omega) j hj t3⟩)
      exact fun i hi => g (rk i + 1) i hi (Nat.lt_succ_self _)
  exact fun i hi j hj => ⟨h2 i hi j hj, d i hi j hj⟩
theorem LNI_step {S : Int} {nx : Nat → Nat → Prop} {rk : Nat → Nat} {f f' : Nat → Int} {p n n' more more' al : Int} (h : LNI S nx rk f p n more) (R : RKp S nx rk) (hn : n < S) (hn' : n' = n + 1) (ha : ∀ j, j < 32 → (bt al j = true ↔ nx n.toNat j ∨ ∃ t : Nat, (t : Int) < S ∧ nx n.toNat t ∧ bt (f t) j = true)) (hf : f' = uF f n al) (hm : more' = 0 → more = 0 ∧ al = f n.toNat) : LNI S nx rk f' p n' more' := by
  obtain ⟨h1, h2, h3, h4, h5, h6⟩ := h
  have e0 : f' n.toNat = al := by
    rw [hf, uF_at, if_pos (by omega)]
  have e1 : ∀ i : Nat, ¬ (i : Int) = n → f' i = f i := fun i hi => by
    rw [hf, uF_at, if_neg hi]
  have E : (rk n.toNat : Int) ≤ p → LNd S nx f' n.toNat := fun hr j hj l => by
    rw [e0]
    rcases LS_cases l with l | ⟨t, t1, t2, t3⟩
    · exact (ha j hj).mpr (.inl l)
    · exact (ha j hj).mpr (.inr ⟨t, t1, t2, h4 t t1 (by have := ((R n.toNat (by omega)).2 t t2).2; omega) j hj t3⟩)
  refine ⟨h1, by omega, fun i hi j hj z => ?_, fun i hi hr => ?_, fun i hi hS hr => ?_, fun z => ?_⟩
  · by_cases c : (i : Int) = n
    · rw [show i = n.toNat by omega] at z ⊢
      rw [e0] at z
      rcases (ha j hj).mp z with z | ⟨t, t1, t2, t3⟩
      · exact LS_one z
      · exact LS_trans (LS_one t2) t1 (h3 t t1 j hj t3)
    · rw [e1 i c] at z
      exact h3 i hi j hj z
  · by_cases c : (i : Int) = n
    · rw [show i = n.toNat by omega] at hr ⊢
      exact E (by omega)
    · intro j hj l
      rw [e1 i c]
      exact h4 i hi hr j hj l
  · by_cases c : (i : Int) = n
    · rw [show i = n.toNat by omega] at hr ⊢
      exact E hr
    · intro j hj l
      rw [e1 i c]
      exact h5 i (by omega) hS hr j hj l
  · obtain ⟨m0, m1⟩ := hm z
    have ef : f' = f := by
      rw [hf]
      refine funext fun j => ?_
      rw [uF_at]
      by_cases c : (j : Int) = n
      · rw [if_pos c, m1]
        congr 1
        omega
      · rw [if_neg c]
    rw [ef]
    intro k hk hS j hj x
    by_cases c : (k : Int) = n
    · rw [show k = n.toNat by omega] at x ⊢
      rw [← m1]
      exact (ha j hj).mpr x
    · exact h6 m0 k (by omega) hS j hj x
theorem ALL_of {S n jn once al : Int} {nx : Nat → Nat → Prop} {f : Nat → Int} (hS : S ≤ 20) (ho : BTS once (nx n.toNat)) (hj : BTS jn (JNp f once 20)) (ha : al = o32 (fun x y => x ||| y) once jn) (hr : ∀ j, nx n.toNat j → (j : Int) < S) : ∀ j, j < 32 → (bt al j = true ↔ nx n.toNat j ∨ ∃ t : Nat, (t : Int) < S ∧ nx n.toNat t ∧ bt (f t) j = true) := fun j h32 => by
  rw [ha, bt_or, Bool.or_eq_true, ho j h32, hj j h32]
  refine ⟨fun z => ?_, fun z => ?_⟩
  · rcases z with z | ⟨t, t1, t2, t3⟩
    · exact .inl z
    · have q := (ho t (by omega)).mp t2
      exact .inr ⟨t, hr t q, q, t3⟩
  · rcases z with z | ⟨t, t1, t2, t3⟩
    · exact .inl z
    · exact .inr ⟨t, by omega, (ho t (by omega)).mpr t2, t3⟩
/-- what a SOUND of the class leans on at once -/
def LAo (h : gH) (o : Int) : Int := if o < 0 then 0 else if 0 ≤ hV h o.toNat 10 then hV h (hV h o.toNat 10).toNat 3 else if hV h o.toNat 3 = -1 then 0 else o32 (fun x y => x <<< (y &&& 31)) 1 (hV h o.toNat 3)
def SKo (h : gH) (o : Int) : Prop := hK h o.toNat = 7 ∧ (0 ≤ hV h o.toNat 10 → hK h (hV h o.toNat 10).toNat = 6)
def SKs (h : gH) : Prop := ∀ s : Nat, (s : Int) < hV h 23 1 → 0 ≤ hV h 24 s ∧ SKo h (hV h 24 s)
def K28 (h : gH) : Prop := hK h 28 = 772 ∧ hN h 28 = 20
theorem K28_le {a b : gH} (le : hLe T0 a b) (z : K28 a) : K28 b := ⟨kLe le z.1 rfl, (le.2 _ (hK_lt z.1 (by decide))).2.1.trans z.2⟩
noncomputable def cLA (W : List (Nat × Nat)) : Bool := !(vLoc W 7 3) && (!(vLoc W 7 10) && !(vLoc W 6 3))
theorem LAo_fr {W : List (Nat × Nat)} {a b : gH} {o : Int} (f : hFr W a b) (c : cLA W = true) (k : SKo a o) : LAo b o = LAo a o := by
  unfold cLA at c
  simp only [Bool.and_eq_true, Bool.not_eq_true'] at c
  obtain ⟨c1, c2, c3⟩ := c
  have e3 := f.2.2 o.toNat 7 k.1 rfl 3 c1
  have e10 := f.2.2 o.toNat 7 k.1 rfl 10 c2
  unfold LAo
  rw [e10, e3]
  by_cases z : 0 ≤ hV a o.toNat 10
  · rw [f.2.2 _ 6 (k.2 z) rfl 3 c3]
  · rw [if_neg z, if_neg z]
theorem SKo_fr {W : List (Nat × Nat)} {a b : gH} {o : Int} (le : hLe T0 a b) (f : hFr W a b) (c : cLA W = true) (k : SKo a o) : SKo b o := by
  unfold cLA at c
  simp only [Bool.and_eq_true, Bool.not_eq_true'] at c
  have e10 := f.2.2 o.toNat 7 k.1 rfl 10 c.2.1
  refine ⟨kLe le k.1 rfl, fun z => ?_⟩
  rw [e10] at z ⊢
  exact kLe le (k.2 z) rfl
theorem SKs_fr {W : List (Nat × Nat)} {a b : gH} (le : hLe T0 a b) (f : hFr W a b) (c : (cLA W && (vFree W 23 1 && vFreeR W 24)) = true) (z : SKs a) : SKs b := by
  simp only [Bool.and_eq_true] at c
  obtain ⟨c1, c2, c3⟩ := c
  intro s hs
  rw [f.1 23 1 c2] at hs
  rw [fRow f 24 c3]
  exact ⟨(z s hs).1, SKo_fr le f c1 (z s hs).2⟩
/-- the edges of the class, as nx tells them; a rank -/
def LNC (h : gH) (nx : Nat → Nat → Prop) (rk : Nat → Nat) : Prop := K28 h ∧ SKs h ∧ hV h 23 1 ≤ 20 ∧ (∀ k : Nat, (k : Int) < hV h 23 1 → BTS (LAo h (hV h 24 k)) (nx k)) ∧ RKp (hV h 23 1) nx rk
theorem LNC_fr {W : List (Nat × Nat)} {a b : gH} {nx : Nat → Nat → Prop} {rk : Nat → Nat} (le : hLe T0 a b) (f : hFr W a b) (c : (cLA W && (vFree W 23 1 && vFreeR W 24)) = true) (z : LNC a nx rk) : LNC b nx rk := by
  obtain ⟨z1, z2, z3, z4, z5⟩ := z
  have sk := SKs_fr le f c z2
  simp only [Bool.and_eq_true] at c
  obtain ⟨c1, c2, c3⟩ := c
  have e1 : hV b 23 1 = hV a 23 1 := f.1 23 1 c2
  refine ⟨K28_le le z1, sk, by rw [e1]; exact z3, fun k hk => ?_, by rw [e1]; exact z5⟩
  rw [e1] at hk
  rw [fRow f 24 c3, LAo_fr f c1 (z2 k hk).2]
  exact z4 k hk
/-- a SHEET that lays ly may be laid in s -/
def MYp (S : Int) (nx : Nat → Nat → Prop) (ly : Nat → Prop) (s : Nat) : Prop := (∀ j, j < 32 → ly j → (j : Int) < S) ∧ ¬ ly s ∧ ∀ t : Nat, (t : Int) < S → ly t → ¬ LSp S nx t s
theorem MY_hi {S laid n : Int} {nx : Nat → Nat → Prop} {ly : Nat → Prop} {s : Nat} (b : BTS laid ly) (h : n = o32 (fun x y => (x.toUInt32 >>> (y.toUInt32 &&& Int32.toUInt32 31)).toInt32) laid S) (h0 : 0 ≤ S) (hS : S ≤ 20) (hn : ¬ n = 0) : ¬ MYp S nx ly s := fun z => by
  obtain ⟨j, j1, j2, j3⟩ := ushr_nz h h0 (by omega) hn
  have := z.1 j j1 ((b j j1).mp j2)
  omega
/-- touched: laid, or behind one that is laid -/
theorem MY_bit {S laid jn al s n m c : Int} {nx : Nat → Nat → Prop} {ly : Nat → Prop} {f : Nat → Int} (b : BTS laid ly) (hj : BTS jn (JNp f laid 20)) (ha : al = o32 (fun x y => x ||| y) laid jn) (hf : ∀ i : Nat, (i : Int) < S → BTS (f i) (LSp S nx i)) (hS : S ≤ 20) (lo : ∀ j, j < 32 → ly j → (j : Int) < S) (s0 : 0 ≤ s) (s1 : s < S) (h1 : n = o32 (fun x y => (x.toUInt32 >>> (y.toUInt32 &&& Int32.toUInt32 31)).toInt32) al s) (h2 : m = o32 (fun x y => x &&& y) n c) (hc : c = 1) : m = 0 ↔ MYp S nx ly s.toNat := by
  have t := bt_utest h1 h2 hc s0 (by omega)
  have u : bt al s.toNat = true ↔ ly s.toNat ∨ ∃ i : Nat, (i : Int) < S ∧ ly i ∧ LSp S nx i s.toNat := by
    rw [ha, bt_or, Bool.or_eq_true, b _ (by omega), hj _ (by omega)]
    refine ⟨fun z => ?_, fun z => ?_⟩
    · rcases z with z | ⟨i, i1, i2, i3⟩
      · exact .inl z
      · have q := (b i (by omega)).mp i2
        have l := lo i (by omega) q
        exact .inr ⟨i, l, q, (hf i l _ (by omega)).mp i3⟩
    · rcases z with z | ⟨i, i1, i2, i3⟩
      · exact .inl z
      · exact .inr ⟨i, by omega, (b i (by omega)).mpr i2, (hf i i1 _ (by omega)).mpr i3⟩
  refine ⟨fun z => ⟨lo, fun q => ?_, fun i i1 i2 i3 => ?_⟩, fun z => ?_⟩
  · exact t.mpr (u.mpr (.inl q)) z
  · exact t.mpr (u.mpr (.inr ⟨i, i1, i2, i3⟩)) z
  · refine Classical.byContradiction fun q => ?_
    rcases u.mp (t.mp q) with w | ⟨i, i1, i2, i3⟩
    · exact z.2.1 w
    · exact z.2.2 i i1 i2 i3
theorem atQ_in {h : gH} {a i r : Int} (e : r = atQ h a i) (h0 : 0 ≤ a) (i0 : 0 ≤ i) (i1 : i < (hN h a.toNat : Int)) : r = hV h a.toNat i.toNat := e.trans (if_pos ⟨h0, i0, i1⟩)
theorem RW772 {W : List (Nat × Nat)} {a b : gH} {o : Nat} (le : hLe T0 a b) (f : hFr W a b) (c : cNoK 772 W = true) (k : hK a o = 772) : hV b o = hV a o ∧ hN b o = hN a o ∧ hK b o = 772 := ⟨funext fun s => f.2.2 o 772 k rfl s (cNoK_ok c s), (le.2 _ (hK_lt k (by decide))).2.1, kLe le k rfl⟩
theorem or_b {m n x : Int} (h : m = o32 (fun x y => x ||| y) n x) (n0 : 0 ≤ n) (n1 : n ≤ 1) (x0 : 0 ≤ x) (x1 : x ≤ 1) : 0 ≤ m ∧ m ≤ 1 := by
  have t : ∀ a b : Fin 2, 0 ≤ o32 (fun x y => x ||| y) (a.val : Int) (b.val : Int) ∧ o32 (fun x y => x ||| y) (a.val : Int) (b.val : Int) ≤ 1 := by decide +kernel
  have z := t ⟨n.toNat, by omega⟩ ⟨x.toNat, by omega⟩
  dsimp only at z
  rw [show ((n.toNat : Nat) : Int) = n by omega, show ((x.toNat : Nat) : Int) = x by omega, ← h] at z
  exact z
/-- what make of the class asks -/
def CMK (h : gH) (s sh e : Int) : Prop := (0 ≤ s ∧ s < hV h 23 1 ∧ hV h (hV h 24 s.toNat).toNat 0 = 6) ∧ (0 ≤ sh ∧ sh < hV h 7 4) ∧ 0 ≤ e ∧ e < hV h 19 3 ∧ hV h (hV h 9 sh.toNat).toNat 0 ≤ e
/-- the SHEETS' objects -/
def SK9 (h : gH) : Prop := ∀ s : Nat, (s : Int) < hV h 7 4 → 0 ≤ hV h 9 s ∧ hK h (hV h 9 s).toNat = 6
/-- slot 10 of one SOUND becomes x; of none other -/
def MK10 (o x : Int) (a b : gH) : Prop := hV b o.toNat 10 = x ∧ ∀ q : Nat, hK a q = 7 → ¬ (q : Int) = o → hV b q 10 = hV a q 10
def KP10 (a b : gH) : Prop := ∀ q : Nat, hK a q = 7 → hV b q 10 = hV a q 10
/-- a mask not below 2 to the S has a bit not below S -/
theorem big_hi {set n one S : Int} {ly : Nat → Prop} (b : BTS set ly) (h : n = o32 (fun x y => x <<< (y &&& 31)) one S) (h1 : one = 1) (h0 : 0 ≤ S) (hS : S ≤ 20) (hl : n ≤ set) (hr : set ≤ 2147483647) : ∃ j : Nat, j < 32 ∧ ly j ∧ S ≤ (j : Int) := by
  refine Classical.byContradiction fun q => ?_
  have e := o32_shl h h1 h0 (by omega)
  have p := Nat.two_pow_pos S.toNat
  have t : (Int32.ofInt set).toBitVec.toInt = set := by
    rw [Int32.toInt_toBitVec]
    exact i32_id (by omega) hr
  have lt : (Int32.ofInt set).toBitVec.toNat < 2 ^ S.toNat := Nat.lt_pow_two_of_testBit _ (fun i hi => by
    rw [BitVec.testBit_toNat]
    cases hb : (Int32.ofInt set).toBitVec.getLsbD i with
    | false => rfl
    | true =>
      have l := bt_lt (x := set) hb
      exact absurd ⟨i, l, (b i l).mp hb, by omega⟩ q)
  have := (Int32.ofInt set).toBitVec.isLt
  rw [BitVec.toInt_eq_toNat_cond] at t
  split at t <;> omega
/-- what make of the reference asks -/
def CMR (h : gH) (s sh e : Int) : Prop := (0 ≤ s ∧ s < hV h 285 64 ∧ hV h 328 s.toNat = 6) ∧ (0 ≤ sh ∧ sh < hV h 285 18) ∧ 0 ≤ e ∧ e < hV h 285 60 ∧ hV h 293 sh.toNat ≤ e
def RNX (h : gH) : Nat → Nat → Prop := NXp (hV h 328) (hV h 332) (hV h 335) (hV h 296) (hV h 298) (hV h 300)
def RLY (h : gH) (s : Nat) : Nat → Prop := LYp (hV h 296) (hV h 298) (hV h 300) s
/-- a new SOUND of the reference: what it is of, no SHEET -/
def RAD (r s : Int) (a b : gH) : Prop := (r = -1 ∧ hV b 332 = hV a 332 ∧ hV b 335 = hV a 335) ∨ (0 ≤ r ∧ r = hV a 285 64 ∧ hV b 332 = uF (hV a 332) r s ∧ hV b 335 = uF (hV a 335) r (-1))
theorem uF_id {f : Nat → Int} {i w : Int} (h0 : 0 ≤ i) (e : w = f i.toNat) : uF f i w = f := by
  refine funext fun j => ?_
  rw [uF_at]
  by_cases c : (j : Int) = i
  · rw [if_pos c, e]
    congr 1
    omega
  · rw [if_neg c]
