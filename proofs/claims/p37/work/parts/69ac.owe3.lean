/-! THE RULES in the class's heap: a Rules object is 10 or 36, its rows stand behind it (hand). -/
theorem frK {k : Nat} {W : List (Nat × Nat)} {a b : gH} {o : Nat} (f : hFr W a b) (w : cNoK k W = true) (k9 : Nat.beq k 999 = false) (hk : hK a o = k) : hV b o = hV a o := funext fun s => f.2.2 o k hk k9 s (cNoK_ok w s)
def RO (h : gH) (o : Int) : Prop := (o = 10 ∨ o = 36) ∧ hK h o.toNat = 5 ∧ (∀ s : Nat, 3 ≤ s → s ≤ 9 → hV h o.toNat s = o + s - 1) ∧ hV h o.toNat 1 = o + 1 ∧ (∀ j : Nat, 1 ≤ j → j ≤ 8 → hK h (o.toNat + j) = 100) ∧ hN h (o.toNat + 1) = 1000 ∧ (∀ j : Nat, 2 ≤ j → j ≤ 6 → hN h (o.toNat + j) = 12) ∧ hN h (o.toNat + 7) = 5 ∧ hN h (o.toNat + 8) = 64
/-- the slots that tell the rows stay -/
def RSt (a b : gH) (o : Int) : Prop := (∀ s : Nat, 3 ≤ s → s ≤ 9 → hV b o.toNat s = hV a o.toNat s) ∧ hV b o.toNat 1 = hV a o.toNat 1
theorem RO_le {a b : gH} {o : Int} (le : hLe T0 a b) (z : RO a o) (s : RSt a b o) : RO b o := by
  obtain ⟨z1, z2, z3, z4, z5, z6, z7, z8, z9⟩ := z
  exact ⟨z1, kLe le z2 rfl, fun k k1 k2 => (s.1 k k1 k2).trans (z3 k k1 k2), s.2.trans z4, fun j j1 j2 => kLe le (z5 j j1 j2) rfl, (le.2 _ (hK_lt (z5 1 (by decide) (by decide)) (by decide))).2.1.trans z6, fun j j1 j2 => (le.2 _ (hK_lt (z5 j (by omega) (by omega)) (by decide))).2.1.trans (z7 j j1 j2), (le.2 _ (hK_lt (z5 7 (by decide) (by decide)) (by decide))).2.1.trans z8, (le.2 _ (hK_lt (z5 8 (by decide) (by decide)) (by decide))).2.1.trans z9⟩
theorem RO_row {h : gH} {o x : Int} {s : Nat} (z : RO h o) (e : x = hV h o.toNat s) (s1 : s = 1 ∨ (3 ≤ s ∧ s ≤ 9)) : x = ((o.toNat + (if s = 1 then 1 else s - 1) : Nat) : Int) := by
  obtain ⟨z1, z2, z3, z4, z5⟩ := z
  rcases s1 with c | c
  · subst c
    rw [e, z4, if_pos rfl]
    omega
  · rw [e, z3 s c.1 c.2, if_neg (by omega)]
    omega
/-- what evaluation leaves as it is -/
def EVs (a b : gH) (o : Int) : Prop := RO b o ∧ (∀ j : Nat, 1 ≤ j → j ≤ 7 → hV b (o.toNat + j) = hV a (o.toNat + j)) ∧ ∀ s : Nat, ¬ s = 10 → ¬ s = 11 → hV b o.toNat s = hV a o.toNat s
theorem EVs_tr {a b c : gH} {o : Int} (x : EVs a b o) (y : EVs b c o) : EVs a c o := ⟨y.1, fun j j1 j2 => (y.2.1 j j1 j2).trans (x.2.1 j j1 j2), fun s s1 s2 => (y.2.2 s s1 s2).trans (x.2.2 s s1 s2)⟩
theorem EVs_rfl {a : gH} {o : Int} (z : RO a o) : EVs a a o := ⟨z, fun _ _ _ => rfl, fun _ _ _ => rfl⟩
/-- a call that writes no Rules, no row of theirs -/
def SMf (a b : gH) : Prop := hLe T0 a b ∧ ∀ o : Nat, hK a o = 5 ∨ hK a o = 100 → hV b o = hV a o
theorem SMf_fr {W : List (Nat × Nat)} {a b : gH} (le : hLe T0 a b) (f : hFr W a b) (w5 : cNoK 5 W = true) (w1 : cNoK 100 W = true) : SMf a b := ⟨le, fun o k => k.elim (fun k => frK f w5 rfl k) (fun k => frK f w1 rfl k)⟩
theorem EVs_sm {a b : gH} {o : Int} (z : RO a o) (s : SMf a b) : EVs a b o := by
  have e := s.2 _ (.inl z.2.1)
  exact ⟨RO_le s.1 z ⟨fun k _ _ => congrFun e k, congrFun e 1⟩, fun j j1 j2 => s.2 _ (.inr (z.2.2.2.2.1 j j1 (by omega))), fun k _ _ => congrFun e k⟩
theorem hLe_up {a b : gH} {o i w : Int} (u : hUpd b a o i w) {q : Nat} : hK b q = hK a q ∧ hN b q = hN a q := u.2.2 q
theorem EVs_up {a b : gH} {o w : Int} {i : Int} (z : RO a o) (u : hUpd b a o i w) (hi : i = 10 ∨ i = 11) : EVs a b o := by
  obtain ⟨z1, z2, z3, z4, z5, z6, z7, z8, z9⟩ := z
  have o0 : ((o.toNat : Nat) : Int) = o := Int.toNat_of_nonneg (by omega)
  have sl : ∀ s : Nat, ¬ s = 10 → ¬ s = 11 → hV b o.toNat s = hV a o.toNat s := fun s s1 s2 => uSlot u _ s (by omega)
  exact ⟨⟨z1, (u.2.2 _).1.trans z2, fun s s1 s2 => (sl s (by omega) (by omega)).trans (z3 s s1 s2), (sl 1 (by decide) (by decide)).trans z4, fun j j1 j2 => (u.2.2 _).1.trans (z5 j j1 j2), (u.2.2 _).2.trans z6, fun j j1 j2 => (u.2.2 _).2.trans (z7 j j1 j2), (u.2.2 _).2.trans z8, (u.2.2 _).2.trans z9⟩, fun j j1 _ => uRowNe u _ (by omega), sl⟩
theorem EVs_put {a b : gH} {o i w r : Int} (z : RO a o) (le : hLe T0 a b) (p : putQ r i w a b) (hr : r = ((o.toNat + 8 : Nat) : Int)) : EVs a b o := by
  have oz := z.1
  have ob : hV b o.toNat = hV a o.toNat := putQ_ne p _ (by omega)
  exact ⟨RO_le le z ⟨fun k _ _ => congrFun ob k, congrFun ob 1⟩, fun j _ j2 => putQ_ne p _ (by omega), fun k _ _ => congrFun ob k⟩
/-- the variables -/
noncomputable def VA (h : gH) (o : Int) : Int → Int := fun i => if 0 ≤ i ∧ i < 5 then hV h (o.toNat + 7) i.toNat else 0
theorem VA_eq {a b : gH} {o : Int} (e : EVs a b o) : VA b o = VA a o := by
  unfold VA
  rw [e.2.1 7 (by decide) (by decide)]
/-- the stack: the last one pushed ahead -/
def stk (f : Nat → Int) : List Int → Prop
  | [] => True
  | x :: r => f r.length = x ∧ stk f r
theorem stk_up {f : Nat → Int} {n w : Int} : ∀ {l : List Int}, stk f l → (l.length : Int) ≤ n → stk (uF f n w) l
  | [], _, _ => trivial
  | x :: r, h, c => by
    rw [List.length_cons] at c
    refine ⟨?_, stk_up h.2 (by omega)⟩
    rw [uF_at, if_neg (by omega)]
    exact h.1
def QS (h : gH) (o : Int) (q : List Int × Bool) : Prop := hV h o.toNat 10 = (q.1.length : Int) ∧ q.1.length ≤ 64 ∧ stk (hV h (o.toNat + 8)) q.1 ∧ hV h o.toNat 11 = b2i q.2
theorem QS_sm {a b : gH} {o : Int} {q : List Int × Bool} (z : RO a o) (s : SMf a b) (e : QS a o q) : QS b o q := by
  unfold QS
  rw [s.2 _ (.inl z.2.1), s.2 _ (.inr (z.2.2.2.2.1 8 (by decide) (by decide)))]
  exact e
theorem push_at {a b c : gH} {o x n2 n3 n4 n6 i : Int} (z : RO a o) (e2 : n2 = hV a o.toNat 9) (e3 : n3 = hV a o.toNat 10) (le : hLe T0 a b) (p : putQ n2 n3 x a b) (e4 : n4 = hV b o.toNat 10) (e6 : n6 = w32 (n4 + 1)) (u : hUpd c b o i n6) (hi : i = 10) : EVs a c o ∧ ∀ q : List Int × Bool, QS a o q → q.1.length < 64 → QS c o (x :: q.1, q.2) := by
  have oz := z.1
  have r2 : n2 = ((o.toNat + 8 : Nat) : Int) := RO_row z e2 (.inr ⟨by decide, by decide⟩)
  have y := EVs_put z le p r2
  have ob : hV b o.toNat = hV a o.toNat := putQ_ne p _ (by omega)
  refine ⟨EVs_tr y (EVs_up y.1 u (.inl hi)), fun q e l => ?_⟩
  obtain ⟨q1, q2, q3, q4⟩ := e
  subst hi
  have o0 : ((o.toNat : Nat) : Int) = o := Int.toNat_of_nonneg (by omega)
  have rw_ : hV b (o.toNat + 8) = uF (hV a (o.toNat + 8)) n3 x := putQ_r (q := o.toNat + 8) (n := 64) p r2 z.2.2.2.2.2.2.2.2 (by omega)
  rw [ob] at e4
  rw [w32_id (by omega) (by omega)] at e6
  refine ⟨?_, ?_, ?_, ?_⟩
  · rw [uSame u o.toNat 10 o0 rfl, List.length_cons]
    omega
  · rw [List.length_cons]
    omega
  · rw [uRowNe u (o.toNat + 8) (by omega), rw_]
    refine ⟨?_, stk_up q3 (by omega)⟩
    rw [uF_at, if_pos (by omega)]
  · rw [uSlot u o.toNat 11 (by decide), ob]
    exact q4
theorem pop_at {a b c d : gH} {o n2 n4 n5 n7 n8 n9 i : Int} (z : RO a o) (e2 : n2 = hV a o.toNat 10) (e4 : n4 = w32 (n2 - 1)) (fb : SMf a b) (e5 : 0 ≤ n5 ∧ n4 ≤ n5 ∧ (n5 = 0 ∨ n5 = n4)) (u : hUpd c b o i n5) (hi : i = 10) (e7 : n7 = hV c o.toNat 9) (e8 : n8 = hV c o.toNat 10) (e9 : n9 = atQ c n7 n8) (fd : SMf c d) : EVs a d o ∧ ∀ q : List Int × Bool, QS a o q → ∀ (x : Int) (st : List Int), q.1 = x :: st → n9 = x ∧ QS d o (st, q.2) := by
  have y1 := EVs_sm z fb
  have y2 := EVs_up y1.1 u (.inl hi)
  refine ⟨EVs_tr y1 (EVs_tr y2 (EVs_sm y2.1 fd)), fun q e x st eq => ?_⟩
  have q0 := QS_sm z fb e
  obtain ⟨q1, q2, q3, q4⟩ := q0
  have qa := e.1
  rw [eq, List.length_cons] at q1 q2 qa
  rw [eq] at q3
  have oz := z.1
  have o0 : ((o.toNat : Nat) : Int) = o := Int.toNat_of_nonneg (by omega)
  subst hi
  rw [w32_id (by omega) (by omega)] at e4
  have r7 : n7 = ((o.toNat + 8 : Nat) : Int) := RO_row y2.1 e7 (.inr ⟨by decide, by decide⟩)
  have s10 : hV c o.toNat 10 = n5 := uSame u o.toNat 10 o0 rfl
  have rs : hV c (o.toNat + 8) = hV b (o.toNat + 8) := uRowNe u _ (by omega)
  have e9 := atQ_r (q := o.toNat + 8) (n := 64) e9 r7 y2.1.2.2.2.2.2.2.2.2
  rw [if_pos (by omega), rs] at e9
  refine ⟨?_, QS_sm y2.1 fd ⟨?_, ?_, ?_, ?_⟩⟩
  · rw [e9, show n8.toNat = st.length by omega]
    exact q3.1
  · show hV c o.toNat 10 = (st.length : Int)
    omega
  · show st.length ≤ 64
    omega
  · show stk (hV c (o.toNat + 8)) st
    rw [rs]
    exact q3.2
  · exact (uSlot u o.toNat 11 (by decide)).trans q4
theorem flag_up {a b : gH} {o w i : Int} {q : List Int × Bool} (z : RO a o) (u : hUpd b a o i w) (hi : i = 11) (e : QS a o q) (f : Bool) (hw : w = b2i f) : QS b o (q.1, f) := by
  have oz := z.1
  subst hi
  obtain ⟨q1, q2, q3, q4⟩ := e
  refine ⟨(uSlot u o.toNat 10 (by decide)).trans q1, q2, ?_, ?_⟩
  · show stk (hV b (o.toNat + 8)) q.1
    rw [uRowNe u (o.toNat + 8) (by omega)]
    exact q3
  · exact (uSame u o.toNat 11 (Int.toNat_of_nonneg (by omega)) rfl).trans hw
theorem cBin_inv {k : Int} {l : List Int} {f : Bool} {q' : List Int × Bool} (e : cBin k l f = some q') : ∃ (b a : Int) (st : List Int), l = b :: a :: st ∧ q' = (cOp k a b :: st, f || (decide (k = 9) && decide (b = 0))) := by
  match l, e with
  | [], e => exact absurd e (by intro w; cases w)
  | [_], e => exact absurd e (by intro w; cases w)
  | b :: a :: st, e => exact ⟨b, a, st, rfl, (Option.some.inj e).symm⟩
theorem cNot_inv {l : List Int} {f : Bool} {q' : List Int × Bool} (e : cNot l f = some q') : ∃ (x : Int) (st : List Int), l = x :: st ∧ q' = (b2i (decide (x = 0)) :: st, f) := by
  match l, e with
  | [], e => exact absurd e (by intro w; cases w)
  | x :: st, e => exact ⟨x, st, rfl, (Option.some.inj e).symm⟩
/-- what a call of each sort says -/
def PUSHp (a b : gH) (o x : Int) : Prop := RO a o → EVs a b o ∧ ∀ q : List Int × Bool, QS a o q → q.1.length < 64 → QS b o (x :: q.1, q.2)
def POPp (a b : gH) (o r : Int) : Prop := RO a o → EVs a b o ∧ ∀ q : List Int × Bool, QS a o q → ∀ (x : Int) (st : List Int), q.1 = x :: st → r = x ∧ QS b o (st, q.2)
def JOINp (a b : gH) (o k x y r : Int) : Prop := RO a o → EVs a b o ∧ ∀ q : List Int × Bool, QS a o q → r = cOp k x y ∧ QS b o (q.1, q.2 || (decide (k = 9) && decide (y = 0)))
def STEPp (a b : gH) (o c : Int) : Prop := RO a o → EVs a b o ∧ ∀ q q' : List Int × Bool, QS a o q → cSt (VA a o) c q = some q' → QS b o q'
theorem STEP_bin {a b c d e : gH} {o n0 n3 x y r : Int} (w3 : n3 = w32 (n0 - 10000)) (h0 : 0 ≤ n3) (h1 : n3 < 45) (h2 : ¬ n3 = 44) (hb : -2147483648 ≤ n0 ∧ n0 ≤ 2147483647) (p1 : POPp a b o x) (p2 : POPp b c o y) (j : JOINp c d o n3 y x r) (p3 : PUSHp d e o r) : STEPp a e o n0 := fun z => by
  obtain ⟨v1, q1⟩ := p1 z
  obtain ⟨v2, q2⟩ := p2 v1.1
  obtain ⟨v3, q3⟩ := j v2.1
  obtain ⟨v4, q4⟩ := p3 v3.1
  refine ⟨EVs_tr v1 (EVs_tr v2 (EVs_tr v3 v4)), fun q q' e es => ?_⟩
  have nn : 0 ≤ n0 := Classical.byContradiction fun w => by
    unfold cSt at es
    rw [if_pos (by omega)] at es
    cases es
  rw [w32_id (by omega) (by omega)] at w3
  unfold cSt at es
  rw [if_neg (by omega), if_neg (by omega), if_neg (by omega), if_neg (by omega)] at es
  obtain ⟨bb, aa, st, el, eq⟩ := cBin_inv es
  have g1 := q1 q e bb (aa :: st) el
  have g2 := q2 _ g1.2 aa st rfl
  have g3 := q3 _ g2.2
  have ll := g1.2.2.1
  have ll : st.length + 1 ≤ 64 := ll
  have g4 := q4 _ g3.2 (by show st.length < 64; omega)
  rw [eq, ← w3, ← g1.1, ← g2.1, ← g3.1]
  exact g4
theorem STEP_not {a b c : gH} {o n0 n3 x y : Int} (w3 : n3 = w32 (n0 - 10000)) (h2 : n3 = 44) (hb : -2147483648 ≤ n0 ∧ n0 ≤ 2147483647) (p1 : POPp a b o x) (hy : y = b2i (decide (x = 0))) (p3 : PUSHp b c o y) : STEPp a c o n0 := fun z => by
  obtain ⟨v1, q1⟩ := p1 z
  obtain ⟨v4, q4⟩ := p3 v1.1
  refine ⟨EVs_tr v1 v4, fun q q' e es => ?_⟩
  have nn : 0 ≤ n0 := Classical.byContradiction fun w => by
    unfold cSt at es
    rw [if_pos (by omega)] at es
    cases es
  rw [w32_id (by omega) (by omega)] at w3
  unfold cSt at es
  rw [if_neg (by omega), if_neg (by omega), if_neg (by omega), if_pos (by omega)] at es
  obtain ⟨xx, st, el, eq⟩ := cNot_inv es
  have g1 := q1 q e xx st el
  have ll := e.2.1
  rw [el, List.length_cons] at ll
  have g4 := q4 _ g1.2 (by show st.length < 64; omega)
  rw [eq, ← g1.1, ← hy]
  exact g4
theorem STEP_int {a b : gH} {o n0 n3 : Int} (w3 : n3 = w32 (n0 - 10000)) (h2 : n3 < 0) (hb : -2147483648 ≤ n0 ∧ n0 ≤ 2147483647) (p3 : PUSHp a b o n0) : STEPp a b o n0 := fun z => by
  obtain ⟨v4, q4⟩ := p3 z
  refine ⟨v4, fun q q' e es => ?_⟩
  have nn : 0 ≤ n0 := Classical.byContradiction fun w => by
    unfold cSt at es
    rw [if_pos (by omega)] at es
    cases es
  rw [w32_id (by omega) (by omega)] at w3
  unfold cSt at es
  rw [if_neg (by omega), if_pos (by omega)] at es
  by_cases l : q.1.length < 64
  · rw [if_pos l] at es
    rw [← Option.some.inj es]
    exact q4 q e l
  · rw [if_neg l] at es
    cases es
theorem STEP_var {a b c : gH} {o n0 n3 n5 n7 r : Int} (w3 : n3 = w32 (n0 - 10000)) (h2 : 45 ≤ n3) (hb : -2147483648 ≤ n0 ∧ n0 ≤ 2147483647) (w7 : n7 = w32 (n3 - 45)) (e5 : n5 = hV a o.toNat 8) (er : r = atQ a n5 n7) (s : SMf a b) (p3 : PUSHp b c o r) : STEPp a c o n0 := fun z => by
  have v1 := EVs_sm z s
  obtain ⟨v4, q4⟩ := p3 v1.1
  refine ⟨EVs_tr v1 v4, fun q q' e es => ?_⟩
  have nn : 0 ≤ n0 := Classical.byContradiction fun w => by
    unfold cSt at es
    rw [if_pos (by omega)] at es
    cases es
  rw [w32_id (by omega) (by omega)] at w3
  rw [w32_id (by omega) (by omega)] at w7
  unfold cSt at es
  rw [if_neg (by omega), if_neg (by omega), if_pos (by omega)] at es
  have r5 : n5 = ((o.toNat + 7 : Nat) : Int) := RO_row z e5 (.inr ⟨by decide, by decide⟩)
  have ea := atQ_r (q := o.toNat + 7) (n := 5) er r5 z.2.2.2.2.2.2.2.1
  have ev : r = VA a o (n0 - 10045) := by
    rw [ea]
    unfold VA
    by_cases c : 0 ≤ n7 ∧ n7 < ((5 : Nat) : Int)
    · rw [if_pos c, if_pos (by omega), show n7 = n0 - 10045 by omega]
    · rw [if_neg c, if_neg (by omega)]
  by_cases l : q.1.length < 64
  · rw [if_pos l, ← ev] at es
    rw [← Option.some.inj es]
    exact q4 q (QS_sm z s e) l
  · rw [if_neg l] at es
    cases es
/-- a piece of code -/
def CDo (h : gH) (o a b : Int) (L : List Int) : Prop := 0 ≤ a ∧ b = a + (L.length : Int) ∧ b ≤ 1000 ∧ ∀ (i : Nat) (x : Int), L[i]? = some x → hV h (o.toNat + 1) (a.toNat + i) = x
def WORKp (a b : gH) (o s e r : Int) : Prop := RO a o → EVs a b o ∧ ∀ (L : List Int) (g f : Bool) (x : Int), CDo a o s e L → hV a o.toNat 11 = b2i g → cF (VA a o) L ([], g) = some ([x], f) → r = x ∧ hV b o.toNat 11 = b2i f
/-- ahead of the op at i -/
def WKi (a b : gH) (o s e i : Int) : Prop := RO a o → EVs a b o ∧ ∀ (L : List Int) (g f : Bool) (x : Int), CDo a o s e L → hV a o.toNat 11 = b2i g → cF (VA a o) L ([], g) = some ([x], f) → s ≤ i ∧ i ≤ e ∧ ∃ q : List Int × Bool, QS b o q ∧ cF (VA a o) (L.drop (i - s).toNat) q = some ([x], f)
theorem WK_0 {a b : gH} {o s e k w : Int} (u : hUpd b a o k w) (hk : k = 10) (hw : w = 0) : WKi a b o s e s := fun z => by
  have v := EVs_up z u (.inl hk)
  have oz := z.1
  refine ⟨v, fun L g f x c hg ec => ⟨Int.le_refl _, by have := c.2.1; omega, ([], g), ⟨?_, Nat.zero_le _, trivial, ?_⟩, ?_⟩⟩
  · subst hk
    exact (uSame u o.toNat 10 (Int.toNat_of_nonneg (by omega)) rfl).trans hw
  · subst hk
    exact (uSlot u o.toNat 11 (by decide)).trans hg
  · rw [show (s - s).toNat = 0 by omega]
    exact ec
theorem WK_step {a b c d : gH} {o s e i i' n7 n8 : Int} (z0 : WKi a b o s e i) (lt : i < e) (e7 : n7 = hV b o.toNat 1) (e8 : n8 = atQ b n7 i) (sm : SMf b c) (st : STEPp c d o n8) (ei : i' = w32 (i + 1)) : WKi a d o s e i' := fun z => by
  obtain ⟨v, k⟩ := z0 z
  have v2 := EVs_sm v.1 sm
  obtain ⟨v3, k3⟩ := st v2.1
  refine ⟨EVs_tr v (EVs_tr v2 v3), fun L g f x cd hg ec => ?_⟩
  obtain ⟨i0, i1, q, qs, eq⟩ := k L g f x cd hg ec
  obtain ⟨c1, c2, c3, c4⟩ := cd
  have ln : (i - s).toNat < L.length := by omega
  obtain ⟨y, hy⟩ : ∃ y, L[(i - s).toNat]? = some y := ⟨_, List.getElem?_eq_getElem ln⟩
  have r7 : n7 = ((o.toNat + 1 : Nat) : Int) := RO_row v.1 e7 (.inl rfl)
  have ea := atQ_r (q := o.toNat + 1) (n := 1000) e8 r7 v.1.2.2.2.2.2.1
  rw [if_pos (by omega), v.2.1 1 (by decide) (by decide), show i.toNat = s.toNat + (i - s).toNat by omega, c4 _ y hy] at ea
  rw [w32_id (by omega) (by omega)] at ei
  have dr : L.drop (i - s).toNat = y :: L.drop (i' - s).toNat := by
    rw [show (i' - s).toNat = (i - s).toNat + 1 by omega, List.drop_eq_getElem_cons ln]
    rw [List.getElem?_eq_getElem ln] at hy
    rw [Option.some.inj hy]
  rw [dr] at eq
  have eq : (cSt (VA a o) y q).bind (cF (VA a o) (L.drop (i' - s).toNat)) = some ([x], f) := eq
  cases es : cSt (VA a o) y q with
  | none =>
    rw [es] at eq
    cases eq
  | some q' =>
    rw [es] at eq
    refine ⟨by omega, by omega, q', k3 q q' (QS_sm v.1 sm qs) ?_, eq⟩
    rw [VA_eq v2, VA_eq v, ea]
    exact es
theorem WK_end {a b c : gH} {o s e i r : Int} (z0 : WKi a b o s e i) (ge : e ≤ i) (p : POPp b c o r) : WORKp a c o s e r := fun z => by
  obtain ⟨v, k⟩ := z0 z
  obtain ⟨v2, k2⟩ := p v.1
  refine ⟨EVs_tr v v2, fun L g f x cd hg ec => ?_⟩
  obtain ⟨i0, i1, q, qs, eq⟩ := k L g f x cd hg ec
  rw [List.drop_eq_nil_of_le (by have := cd.2.1; omega)] at eq
  have eq : some q = some ([x], f) := eq
  have eq := Option.some.inj eq
  have y := k2 q qs x [] (by rw [eq])
  refine ⟨y.1, ?_⟩
  have w := y.2.2.2.2
  rw [eq] at w
  exact w
