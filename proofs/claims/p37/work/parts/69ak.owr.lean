/-! THE RULES in the reference's heap: code (rows 320, 321), signs that wait (row 322) (hand). -/
def CDr (h : gH) (cl ch a b : Int) (L : List Op) : Prop := cl ≤ a ∧ b = a + (L.length : Int) ∧ b ≤ ch ∧ ∀ (i : Nat) (x : Op), L[i]? = some x → hV h 320 (a.toNat + i) = x.1 ∧ hV h 321 (a.toNat + i) = x.2
/-- the code from a on -/
def CODr (h : gH) (a : Int) (L : List Op) : Prop := CDr h a (hV h 285 51) a (hV h 285 51) L
def WTr (h : gH) (ws : List Int) : Prop := hV h 285 55 = (ws.length : Int) ∧ stk (fun i => km (hV h 322 i)) ws
def XSr (h : gH) (a : Int) (q : List Int × List Op) : Prop := CODr h a q.2 ∧ WTr h q.1
/-- code is written between the two ends alone -/
def KPc (a b : gH) : Prop := hV a 285 51 ≤ hV b 285 51 ∧ ∀ i : Nat, ((i : Int) < hV a 285 51 ∨ hV b 285 51 ≤ (i : Int)) → hV b 320 i = hV a 320 i ∧ hV b 321 i = hV a 321 i
theorem KPc_rfl {a : gH} : KPc a a := ⟨Int.le_refl _, fun _ _ => ⟨rfl, rfl⟩⟩
theorem KPc_tr {a b c : gH} (x : KPc a b) (y : KPc b c) : KPc a c := ⟨Int.le_trans x.1 y.1, fun i h => by
  have x0 := x.1
  have y0 := y.1
  have u := y.2 i (by omega)
  have w := x.2 i (by omega)
  exact ⟨u.1.trans w.1, u.2.trans w.2⟩⟩
/-- neither code nor signs change -/
def XRk (a b : gH) : Prop := hV b 285 51 = hV a 285 51 ∧ hV b 320 = hV a 320 ∧ hV b 321 = hV a 321
theorem XRk_rfl {a : gH} : XRk a a := ⟨rfl, rfl, rfl⟩
theorem XRk_tr {a b c : gH} (x : XRk a b) (y : XRk b c) : XRk a c := ⟨y.1.trans x.1, y.2.1.trans x.2.1, y.2.2.trans x.2.2⟩
noncomputable def cXR3 (W : List (Nat × Nat)) : Bool := vFree W 285 51 && (vFreeR W 320 && vFreeR W 321)
theorem XRk_fr {W : List (Nat × Nat)} {a b : gH} (f : hFr W a b) (c : cXR3 W = true) : XRk a b := by
  unfold cXR3 at c
  simp only [Bool.and_eq_true] at c
  exact ⟨f.1 285 51 c.1, fRow f 320 c.2.1, fRow f 321 c.2.2⟩
theorem XRk_up {a b : gH} {o i w : Int} (u : hUpd b a o i w) (h : (o = 285 ∧ ¬ i = 51) ∨ (¬ o = 285 ∧ ¬ o = 320 ∧ ¬ o = 321)) : XRk a b := by
  refine ⟨?_, uRowNe u 320 (by omega), uRowNe u 321 (by omega)⟩
  rcases h with h | h
  · exact uSlot u 285 51 (by omega)
  · exact congrFun (uRowNe u 285 (by omega)) 51
theorem KPc_x {a b : gH} (x : XRk a b) : KPc a b := ⟨by rw [x.1]; exact Int.le_refl _, fun i _ => ⟨by rw [x.2.1], by rw [x.2.2]⟩⟩
theorem CODr_x {a b : gH} {s : Int} {L : List Op} (x : XRk a b) (c : CODr a s L) : CODr b s L := by
  unfold CODr CDr
  rw [x.1, x.2.1, x.2.2]
  exact c
theorem WTr_eq {a b : gH} {ws : List Int} (e1 : hV b 285 55 = hV a 285 55) (e2 : hV b 322 = hV a 322) (w : WTr a ws) : WTr b ws := by
  unfold WTr
  rw [e1, e2]
  exact w
theorem XSr_eq {a b : gH} {s : Int} {q : List Int × List Op} (x : XRk a b) (e1 : hV b 285 55 = hV a 285 55) (e2 : hV b 322 = hV a 322) (z : XSr a s q) : XSr b s q := ⟨CODr_x x z.1, WTr_eq e1 e2 z.2⟩
/-- emit -/
def EMr (a b : gH) (k x : Int) : Prop := hV b 285 51 = hV a 285 51 + 1 ∧ hV b 320 = uF (hV a 320) (hV a 285 51) k ∧ hV b 321 = uF (hV a 321) (hV a 285 51) x
theorem KPc_em {a b : gH} {k x : Int} (e : EMr a b k x) : KPc a b := by
  obtain ⟨e1, e2, e3⟩ := e
  refine ⟨by omega, fun i h => ?_⟩
  rw [e2, e3, uF_at, uF_at, if_neg (by omega), if_neg (by omega)]
  exact ⟨rfl, rfl⟩
theorem CODr_em {a b : gH} {s k x : Int} {L : List Op} (h0 : 0 ≤ s) (e : EMr a b k x) (c : CODr a s L) : CODr b s (L ++ [(k, x)]) := by
  obtain ⟨e1, e2, e3⟩ := e
  obtain ⟨c1, c2, c3, c4⟩ := c
  refine ⟨Int.le_refl _, by rw [e1, c2, List.length_append]; show s + (L.length : Int) + 1 = s + ((L.length + 1 : Nat) : Int); omega, Int.le_refl _, fun i y hy => ?_⟩
  rw [e2, e3, uF_at, uF_at]
  by_cases c : i < L.length
  · rw [List.getElem?_append_left c] at hy
    rw [if_neg (by omega), if_neg (by omega)]
    exact c4 i y hy
  · rw [List.getElem?_append_right (by omega)] at hy
    have hz : i - L.length = 0 := Classical.byContradiction fun n => by
      rw [List.getElem?_eq_none (by show 1 ≤ i - L.length; omega)] at hy
      cases hy
    rw [hz] at hy
    have hy : some (k, x) = some y := hy
    rw [if_pos (by omega), if_pos (by omega), ← Option.some.inj hy]
    exact ⟨rfl, rfl⟩
theorem topW {n w : Int} (e : km n = w) (h0 : 6 ≤ w) (h1 : w ≤ 10) : (w = 6 ∧ n = 8) ∨ (w = 7 ∧ n = 9) ∨ (w = 8 ∧ n = 10) ∨ (w = 9 ∧ n = 15) ∨ (w = 10 ∧ n = 6) := by
  rcases (show w = 6 ∨ w = 7 ∨ w = 8 ∨ w = 9 ∨ w = 10 by omega) with c | c | c | c | c <;> subst c
  · exact .inl ⟨rfl, km_inj (e.trans kmc_8.symm)⟩
  · exact .inr (.inl ⟨rfl, km_inj (e.trans kmc_9.symm)⟩)
  · exact .inr (.inr (.inl ⟨rfl, km_inj (e.trans kmc_10.symm)⟩))
  · exact .inr (.inr (.inr (.inl ⟨rfl, km_inj (e.trans kmc_15.symm)⟩)))
  · exact .inr (.inr (.inr (.inr ⟨rfl, km_inj (e.trans kmc_6.symm)⟩)))
/-! Signs come out. -/
def RLr (a b : gH) (s : Bool) : Prop := KPc a b ∧ ∀ (st : Int) (q : List Int × List Op), 0 ≤ st → XSr a st q → okW q.1 → XSr b st (xRel s q.1 q.2)
def RLi_ (a b : gH) (s : Bool) : Prop := KPc a b ∧ ∀ (st : Int) (q : List Int × List Op), 0 ≤ st → XSr a st q → okW q.1 → ∃ q', XSr b st q' ∧ okW q'.1 ∧ xRel s q.1 q.2 = xRel s q'.1 q'.2
theorem CO_0 {a : gH} {s : Bool} : RLi_ a a s := ⟨KPc_rfl, fun _ q _ x y => ⟨q, x, y, rfl⟩⟩
theorem CO_nil {a b : gH} {s : Bool} {n : Int} (z : RLi_ a b s) (e : n = hV b 285 55) (h : n ≤ 0) : RLr a b s := ⟨z.1, fun st q h0 x y => by
  obtain ⟨q', x', y', e'⟩ := z.2 st q h0 x y
  rw [e']
  obtain ⟨ws, out⟩ := q'
  have l := x'.2.1
  match ws, l, x' with
  | [], _, x' => exact x'
  | t :: r, l, _ =>
    have l : hV b 285 55 = ((r.length + 1 : Nat) : Int) := l
    omega⟩
theorem CO_stop {a b : gH} {s : Bool} {n m i k : Int} (z : RLi_ a b s) (e : n = hV b 285 55) (h : 0 < n) (hb : n ≤ 1000000) (em : m = hV b 285 55) (ei : i = w32 (m - 1)) (ek : k = hV b 322 i.toNat) (c : k = 6 ∨ (s = true ∧ (k = 8 ∨ k = 9))) : RLr a b s := ⟨z.1, fun st q h0 x y => by
  obtain ⟨q', x', y', e'⟩ := z.2 st q h0 x y
  rw [e']
  obtain ⟨ws, out⟩ := q'
  have l := x'.2.1
  have w := x'.2.2
  match ws, l, w, x', y' with
  | [], l, _, _, _ =>
    have l : hV b 285 55 = 0 := l
    omega
  | t :: r, l, w, x', y' =>
    have l : hV b 285 55 = ((r.length + 1 : Nat) : Int) := l
    rw [w32_id (by omega) (by omega)] at ei
    rw [show i.toNat = r.length by omega] at ek
    have et : km k = t := by
      rw [ek]
      exact w.1
    have tw := topW et y'.2.1 y'.2.2.1
    have er : xRel s (t :: r) out = (t :: r, out) := if_pos (by
      rcases c with c | ⟨c1, c2⟩
      · exact .inl (by omega)
      · exact .inr ⟨c1, by omega⟩)
    show XSr b st (xRel s (t :: r) out)
    rw [er]
    exact x'⟩
theorem CO_pop {a b c d : gH} {s : Bool} {n m i k m2 j o o5 x : Int} (z : RLi_ a b s) (e : n = hV b 285 55) (h : 0 < n) (hb : n ≤ 1000000) (em : m = hV b 285 55) (ei : i = w32 (m - 1)) (ek : k = hV b 322 i.toNat) (no : ¬ (k = 6 ∨ (s = true ∧ (k = 8 ∨ k = 9)))) (ed : m2 = hV b 285 55) (en : j = w32 (m2 - 1)) (u : hUpd c b o o5 j) (ho : o = 285) (h5 : o5 = 55) (ee : EMr c d x 0) (kx : (x = 2 ∧ k = 8) ∨ (x = 3 ∧ k = 9) ∨ (x = 4 ∧ k = 10) ∨ (x = 5 ∧ ¬ k = 8 ∧ ¬ k = 9 ∧ ¬ k = 10)) (f55 : hV d 285 55 = hV c 285 55) (f322 : hV d 322 = hV c 322) : RLi_ a d s := by
  subst ho
  subst h5
  have xc : XRk b c := XRk_up u (.inl ⟨rfl, by decide⟩)
  refine ⟨KPc_tr z.1 (KPc_tr (KPc_x xc) (KPc_em ee)), fun st q h0 x_ y => ?_⟩
  obtain ⟨q', x', y', e'⟩ := z.2 st q h0 x_ y
  rw [e']
  obtain ⟨ws, out⟩ := q'
  have l := x'.2.1
  have w := x'.2.2
  match ws, l, w, x', y' with
  | [], l, _, _, _ =>
    have l : hV b 285 55 = 0 := l
    omega
  | t :: r, l, w, x', y' =>
    have l : hV b 285 55 = ((r.length + 1 : Nat) : Int) := l
    rw [w32_id (by omega) (by omega)] at ei en
    rw [show i.toNat = r.length by omega] at ek
    have et : km k = t := by
      rw [ek]
      exact w.1
    have tw := topW et y'.2.1 y'.2.2.1
    have er : xRel s (t :: r) out = xRel s r (out ++ [(t - 4, 0)]) := if_neg (fun c => no (by
      rcases c with c | ⟨c1, c2⟩
      · exact .inl (by omega)
      · exact .inr ⟨c1, by omega⟩))
    have nt : ¬ k = 6 := fun c => no (.inl c)
    have ex : x = t - 4 := by omega
    subst ex
    refine ⟨(r, out ++ [(t - 4, 0)]), ⟨CODr_em h0 ee (CODr_x xc x'.1), ?_, ?_⟩, y'.1, er⟩
    · show hV d 285 55 = (r.length : Int)
      rw [f55, uSame u 285 55 rfl rfl]
      omega
    · show stk (fun i => km (hV d 322 i)) r
      rw [f322, uRowNe u 322 (by decide)]
      exact w.2
theorem stk_eq {f g : Nat → Int} : ∀ {l : List Int}, (∀ i : Nat, i < l.length → g i = f i) → stk f l → stk g l
  | [], _, _ => trivial
  | x :: r, e, h => by
    refine ⟨(e r.length (by rw [List.length_cons]; omega)).trans h.1, stk_eq (fun i hi => e i (by rw [List.length_cons]; omega)) h.2⟩
theorem stk_km_up {f : Nat → Int} {n k w : Int} {l : List Int} (h : stk (fun i => km (f i)) l) (e : (l.length : Int) = n) (e2 : 0 ≤ n) (ek : km k = w) : stk (fun i => km (uF f n k i)) (w :: l) := by
  refine ⟨?_, stk_eq (fun i hi => ?_) h⟩
  · show km (uF f n k l.length) = w
    rw [uF_at, if_pos (by omega)]
    exact ek
  · show km (uF f n k i) = km (f i)
    rw [uF_at, if_neg (by omega)]
/-! An E. -/
/-- between two TOKENS: code from st on, p0 the E's first TOKEN, p the next -/
def RSr (h : gH) (st : Int) (v : Vw) (p0 p b o : Int) : Prop := p0 ≤ p ∧ XSr h st (xs v p0 (p - p0).toNat) ∧ XI b o (xs v p0 (p - p0).toNat)
theorem RSr_0 {h : gH} {st : Int} {v : Vw} {p0 : Int} (e : st = hV h 285 51) (w : hV h 285 55 = 0) : RSr h st v p0 p0 1 0 := by
  unfold RSr
  rw [xs_0]
  exact ⟨Int.le_refl _, ⟨⟨Int.le_refl _, by rw [← e]; show st = st + ((0 : Nat) : Int); omega, Int.le_refl _, fun i x hx => (List.getElem?_eq_some_iff.mp hx).elim fun w _ => absurd w (Nat.not_lt_zero _)⟩, w, trivial⟩, XI_0⟩
theorem RSr_eq {a b : gH} {st : Int} {v : Vw} {p0 p bb o : Int} (x : XRk a b) (e1 : hV b 285 55 = hV a 285 55) (e2 : hV b 322 = hV a 322) (z : RSr a st v p0 p bb o) : RSr b st v p0 p bb o := ⟨z.1, XSr_eq x e1 e2 z.2.1, z.2.2⟩
theorem RSr_b {h : gH} {st : Int} {v : Vw} {p0 p b o : Int} (r : RSr h st v p0 p b o) (ho : o ≤ 7) : (xs v p0 (p - p0).toNat).1.length ≤ 40 := by
  have w := ws_len (xs v p0 (p - p0).toNat).1
  have c := cW_le r.2.2.1
  have o1 := r.2.2.2.1
  omega
theorem RSr_open {a b : gH} {st : Int} {v : Vw} {p0 p p' o o' n : Int} (r : RSr a st v p0 p 1 o) (ho : o ≤ 6) (k : v.1 p = 10) (x : XRk a b) (en : n = hV a 285 55) (e1 : hV b 285 55 = n + 1) (e2 : hV b 322 = uF (hV a 322) n 6) (ep : p' = p + 1) (eo : o' = o + 1) : RSr b st v p0 p' 1 o' := by
  obtain ⟨r1, ⟨r2, r3, r4⟩, r5⟩ := r
  subst eo
  unfold RSr
  rw [xs_next r1 ep, k]
  refine ⟨by omega, ?_, XI_open r5⟩
  unfold xSt
  rw [if_pos rfl]
  refine ⟨CODr_x x r2, ?_, ?_⟩
  · show hV b 285 55 = ((_ :: _ : List Int).length : Int)
    rw [List.length_cons]
    omega
  · show stk (fun i => km (hV b 322 i)) (10 :: (xs v p0 (p - p0).toNat).1)
    rw [e2]
    exact stk_km_up r4 (by omega) (by omega) kmc_6
theorem RSr_unit {a b c : gH} {st : Int} {v : Vw} {p0 p p' o : Int} (r : RSr a st v p0 p 1 o) (ho : o ≤ 6) (kd : (v.1 p = 3 ∧ 0 ≤ v.2.1 p ∧ v.2.1 p ≤ 9999) ∨ (45 ≤ v.1 p ∧ v.1 p ≤ 49)) (hu : ∀ q : List Int × List Op, XSr a st q → XSr b st (xSt (v.1 p) (v.2.1 p) q)) (x : XRk b c) (e1 : hV c 285 55 = hV b 285 55) (e2 : hV c 322 = hV b 322) (ep : p' = p + 1) : RSr c st v p0 p' 0 o := by
  obtain ⟨r1, r2, r5⟩ := r
  unfold RSr
  rw [xs_next r1 ep]
  refine ⟨by omega, XSr_eq x e1 e2 (hu _ r2), ?_⟩
  rcases kd with ⟨k1, k2, k3⟩ | ⟨k1, k2⟩
  · rw [k1]
    exact XI_int r5 ho k2 k3
  · exact XI_var r5 ho k1 k2
theorem RSr_close {a b c d : gH} {st : Int} {v : Vw} {p0 p p' o o' : Int} {n m : Int} (r : RSr a st v p0 p 0 o) (h0 : 0 ≤ st) (ho : o ≤ 7) (o1 : 0 < o) (k : v.1 p = 11) (x0 : XRk a b) (f1 : hV b 285 55 = hV a 285 55) (f2 : hV b 322 = hV a 322) (rl : RLr b c false) (en : n = hV c 285 55) (em : m = w32 (n - 1)) (x : XRk c d) (e1 : hV d 285 55 = m) (e2 : hV d 322 = hV c 322) (ep : p' = p + 1) (eo : o' = o - 1) : RSr d st v p0 p' 0 o' := by
  obtain ⟨r1, r2, r5⟩ := r
  subst eo
  have bb := RSr_b ⟨r1, r2, r5⟩ ho
  have y := rl.2 st _ h0 (XSr_eq x0 f1 f2 r2) r5.1
  obtain ⟨⟨h1, h2, h3, h4⟩, hr⟩ := XI_rel (s := false) (ws := (xs v p0 (p - p0).toNat).1) (out := (xs v p0 (p - p0).toNat).2) r5
  have hr : hR (xRel false (xs v p0 (p - p0).toNat).1 (xs v p0 (p - p0).toNat).2).1 ≤ 0 := hr
  obtain ⟨t, et⟩ := cO_pos h1 hr (by omega)
  unfold RSr
  rw [xs_next r1 ep, k]
  refine ⟨by omega, ?_, XI_close r5 o1⟩
  unfold xSt
  rw [if_neg (by decide), if_pos rfl]
  obtain ⟨y1, y2, y3⟩ := y
  have cw := cW_le h1
  have wl : (((xRel false (xs v p0 (p - p0).toNat).1 (xs v p0 (p - p0).toNat).2).1.length : Nat) : Int) ≤ 40 := by
    have w := ws_len (xRel false (xs v p0 (p - p0).toNat).1 (xs v p0 (p - p0).toNat).2).1
    omega
  rw [et] at y2 y3 wl
  rw [List.length_cons] at y2 wl
  rw [w32_id (by omega) (by omega)] at em
  refine ⟨CODr_x x y1, ?_, ?_⟩
  · show hV d 285 55 = (((xRel false _ _).1.tail.length : Nat) : Int)
    rw [et, e1]
    show m = (t.length : Int)
    omega
  · show stk (fun i => km (hV d 322 i)) (xRel false _ _).1.tail
    rw [et, e2]
    exact y3.2
theorem RSr_sign {a b c d : gH} {st : Int} {v : Vw} {p0 p p' o : Int} {n kk : Int} {s : Bool} (r : RSr a st v p0 p 0 o) (h0 : 0 ≤ st) (ho : o ≤ 7) (k0 : 6 ≤ v.1 p) (k1 : v.1 p ≤ 9) (x0 : XRk a b) (f1 : hV b 285 55 = hV a 285 55) (f2 : hV b 322 = hV a 322) (rl : RLr b c s) (hs : s = decide (8 ≤ v.1 p)) (en : n = hV c 285 55) (ek : km kk = v.1 p) (x : XRk c d) (e1 : hV d 285 55 = n + 1) (e2 : hV d 322 = uF (hV c 322) n kk) (ep : p' = p + 1) : RSr d st v p0 p' 1 o := by
  obtain ⟨r1, r2, r5⟩ := r
  subst hs
  have y := rl.2 st _ h0 (XSr_eq x0 f1 f2 r2) r5.1
  unfold RSr
  rw [xs_next r1 ep]
  refine ⟨by omega, ?_, XI_sign r5 k0 k1⟩
  unfold xSt
  rw [if_neg (by omega), if_neg (by omega), if_neg (by omega), if_neg (by omega)]
  obtain ⟨y1, y2, y3⟩ := y
  refine ⟨CODr_x x y1, ?_, ?_⟩
  · show hV d 285 55 = ((_ :: _ : List Int).length : Int)
    rw [List.length_cons]
    omega
  · show stk (fun i => km (hV d 322 i)) (v.1 p :: (xRel (decide (8 ≤ v.1 p)) _ _).1)
    rw [e2]
    exact stk_km_up y3 (by omega) (by omega) ek
theorem RSr_end {a b c : gH} {st : Int} {v : Vw} {p0 p : Int} (r : RSr a st v p0 p 0 0) (h0 : 0 ≤ st) (x0 : XRk a b) (f1 : hV b 285 55 = hV a 285 55) (f2 : hV b 322 = hV a 322) (rl : RLr b c false) : p0 ≤ p ∧ CODr c st (xE v p0 p) ∧ GE (xE v p0 p) := by
  obtain ⟨r1, r2, r5⟩ := r
  exact ⟨r1, (rl.2 st _ h0 (XSr_eq x0 f1 f2 r2) r5.1).1, (XI_end r5).2⟩
theorem km_v9 {k : Int} (h0 : 49 ≤ k) (h1 : k ≤ 53) : km k = k - 4 := by
  rcases (show k = 49 ∨ k = 50 ∨ k = 51 ∨ k = 52 ∨ k = 53 by omega) with c | c | c | c | c <;> subst c <;> decide
theorem km_r9 {k : Int} (h0 : 11 ≤ k) (h1 : k ≤ 14) : km k = k + 1 := by
  rcases (show k = 11 ∨ k = 12 ∨ k = 13 ∨ k = 14 by omega) with c | c | c | c <;> subst c <;> decide
theorem rW_34 : vRg T0 285 34 0 1 = true := by decide +kernel
theorem rW_35 : vRg T0 285 35 0 1 = true := by decide +kernel
