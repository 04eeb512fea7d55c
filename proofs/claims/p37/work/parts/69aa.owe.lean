/-! THE RULES: what an E leaves (operands first) and what it is worth (hand). An op: (0, an INT), (1, a variable), (2 .. 5, + - * /). -/
abbrev Op := Int × Int
/-- signs that wait come out: * and / alone (s), or all, down to a bracket -/
def xRel (s : Bool) : List Int → List Op → List Int × List Op
  | [], out => ([], out)
  | w :: ws, out => if w = 10 ∨ (s = true ∧ (w = 6 ∨ w = 7)) then (w :: ws, out) else xRel s ws (out ++ [(w - 4, 0)])
def xSt (k x : Int) (q : List Int × List Op) : List Int × List Op :=
  if k = 10 then (10 :: q.1, q.2) else if k = 11 then ((xRel false q.1 q.2).1.tail, (xRel false q.1 q.2).2) else if k = 3 then (q.1, q.2 ++ [(0, x)]) else if 45 ≤ k then (q.1, q.2 ++ [(1, k - 45)]) else (k :: (xRel (decide (8 ≤ k)) q.1 q.2).1, (xRel (decide (8 ≤ k)) q.1 q.2).2)
/-- n TOKENS from a on -/
def xs (v : Vw) (a : Int) : Nat → List Int × List Op
  | 0 => ([], [])
  | n + 1 => xSt (v.1 (a + n)) (v.2.1 (a + n)) (xs v a n)
def xE (v : Vw) (a b : Int) : List Op := (xRel false (xs v a (b - a).toNat).1 (xs v a (b - a).toNat).2).2
theorem xs_next {v : Vw} {a p p' : Int} (h : a ≤ p) (e : p' = p + 1) : xs v a (p' - a).toNat = xSt (v.1 p) (v.2.1 p) (xs v a (p - a).toNat) := by
  rw [show (p' - a).toNat = (p - a).toNat + 1 by omega]
  show xSt (v.1 (a + ((p - a).toNat : Nat))) (v.2.1 (a + ((p - a).toNat : Nat))) _ = _
  rw [show a + (((p - a).toNat : Nat) : Int) = p by omega]
theorem xs_0 {v : Vw} {a : Int} : xs v a (a - a).toNat = ([], []) := by
  rw [show (a - a).toNat = 0 by omega]
  rfl
/-- rank, brackets, signs of what waits -/
def hR : List Int → Int
  | [] => 0
  | w :: _ => if w = 10 then 0 else if w ≤ 7 then 1 else 2
def cO : List Int → Int
  | [] => 0
  | w :: ws => cO ws + if w = 10 then 1 else 0
def cW : List Int → Int
  | [] => 0
  | w :: ws => cW ws + if w = 10 then 0 else 1
def okW : List Int → Prop
  | [] => True
  | w :: ws => okW ws ∧ 6 ≤ w ∧ w ≤ 10 ∧ (w = 10 ∨ hR ws < hR (w :: ws))
theorem hR_c (w : Int) (ws : List Int) : (w = 10 ∧ hR (w :: ws) = 0) ∨ (¬ w = 10 ∧ w ≤ 7 ∧ hR (w :: ws) = 1) ∨ (¬ w = 10 ∧ 8 ≤ w ∧ hR (w :: ws) = 2) := by
  have e : hR (w :: ws) = if w = 10 then 0 else if w ≤ 7 then 1 else 2 := rfl
  rw [e]
  by_cases c : w = 10
  · exact .inl ⟨c, if_pos c⟩
  · rw [if_neg c]
    by_cases d : w ≤ 7
    · exact .inr (.inl ⟨c, d, if_pos d⟩)
    · exact .inr (.inr ⟨c, by omega, if_neg d⟩)
theorem cO_y {w : Int} {ws : List Int} (c : w = 10) : cO (w :: ws) = cO ws + 1 ∧ cW (w :: ws) = cW ws := by
  have e1 : cO (w :: ws) = cO ws + if w = 10 then 1 else 0 := rfl
  have e2 : cW (w :: ws) = cW ws + if w = 10 then 0 else 1 := rfl
  rw [if_pos c] at e1 e2
  exact ⟨e1, by omega⟩
theorem cO_n {w : Int} {ws : List Int} (c : ¬ w = 10) : cO (w :: ws) = cO ws ∧ cW (w :: ws) = cW ws + 1 := by
  have e1 : cO (w :: ws) = cO ws + if w = 10 then 1 else 0 := rfl
  have e2 : cW (w :: ws) = cW ws + if w = 10 then 0 else 1 := rfl
  rw [if_neg c] at e1 e2
  exact ⟨by omega, e2⟩
theorem cW_le : ∀ {ws : List Int}, okW ws → cW ws ≤ 2 * cO ws + hR ws ∧ 0 ≤ cO ws ∧ 0 ≤ cW ws ∧ 0 ≤ hR ws ∧ hR ws ≤ 2
  | [], _ => by
    refine ⟨?_, ?_, ?_, ?_, ?_⟩ <;> decide
  | w :: ws, h => by
    obtain ⟨h1, h2, h3, h4⟩ := h
    have i := cW_le h1
    rcases hR_c w ws with ⟨c, e⟩ | ⟨c, d, e⟩ | ⟨c, d, e⟩
    · have y := cO_y (ws := ws) c
      omega
    · have y := cO_n (ws := ws) c
      omega
    · have y := cO_n (ws := ws) c
      omega
theorem cO_pos : ∀ {ws : List Int}, okW ws → hR ws ≤ 0 → 0 < cO ws → ∃ r, ws = 10 :: r
  | [], _, _, h => absurd h (by decide)
  | w :: r, _, h, _ => by
    rcases hR_c w r with ⟨c, e⟩ | ⟨c, d, e⟩ | ⟨c, d, e⟩
    · exact ⟨r, by rw [c]⟩
    · omega
    · omega
theorem cO_nil : ∀ {ws : List Int}, okW ws → hR ws ≤ 0 → cO ws = 0 → ws = []
  | [], _, _, _ => rfl
  | w :: r, o, h, z => by
    exfalso
    have y1 := (cW_le o.1).2.1
    rcases hR_c w r with ⟨c, e⟩ | ⟨c, d, e⟩ | ⟨c, d, e⟩
    · have y := cO_y (ws := r) c
      omega
    · omega
    · omega
/-! What ops are worth, on a stack; the flag: a division by 0 was met (it leaves a 0). -/
def eOp (k a b : Int) : Int := if k = 2 then w32 (a + b) else if k = 3 then w32 (a - b) else if k = 4 then w32 (a * b) else if b = 0 then 0 else o32 (fun x y => x / y) a b
abbrev EQ := Option (List Int × Bool)
def eBin (k : Int) : List Int → Bool → EQ
  | b :: a :: st, f => some (eOp k a b :: st, f || (decide (k = 5) && decide (b = 0)))
  | _, _ => none
def eSt (va : Int → Int) (o : Op) (q : List Int × Bool) : EQ :=
  if o.1 = 0 then (if q.1.length < 64 then some (o.2 :: q.1, q.2) else none) else if o.1 = 1 then (if q.1.length < 64 then some (va o.2 :: q.1, q.2) else none) else eBin o.1 q.1 q.2
def eF (va : Int → Int) : List Op → List Int × Bool → EQ
  | [], q => some q
  | o :: r, q => (eSt va o q).bind (eF va r)
theorem eF_app {va : Int → Int} : ∀ {l r : List Op} {q : List Int × Bool}, eF va (l ++ r) q = (eF va l q).bind (eF va r)
  | [], _, _ => rfl
  | o :: l, r, q => by
    show (eSt va o q).bind (eF va (l ++ r)) = ((eSt va o q).bind (eF va l)).bind (eF va r)
    cases eSt va o q with
    | none => rfl
    | some q' => exact eF_app
theorem eF_1 {va : Int → Int} {o : Op} {q : List Int × Bool} : eF va [o] q = eSt va o q := by
  show (eSt va o q).bind (eF va []) = _
  cases eSt va o q with
  | none => rfl
  | some q' => rfl
theorem eF_add {va : Int → Int} {l : List Op} {o : Op} {q q' : List Int × Bool} (e : eF va l q = some q') : eF va (l ++ [o]) q = eSt va o q' := by
  rw [eF_app, e]
  exact eF_1
def okO (o : Op) : Prop := (o.1 = 0 ∧ 0 ≤ o.2 ∧ o.2 ≤ 9999) ∨ (o.1 = 1 ∧ 0 ≤ o.2 ∧ o.2 ≤ 4) ∨ (2 ≤ o.1 ∧ o.1 ≤ 5)
/-- what stands between two TOKENS of an E: b = 1: an operand is wanted; o: how many brackets are open -/
def XI (b o : Int) (q : List Int × List Op) : Prop := okW q.1 ∧ cO q.1 = o ∧ (∀ c, c ∈ q.2 → okO c) ∧ ∀ va : Int → Int, ∃ (vs : List Int) (f : Bool), (vs.length : Int) = cW q.1 + 1 - b ∧ ∀ (st : List Int) (g : Bool), st.length ≤ 40 → eF va q.2 (st, g) = some (vs ++ st, g || f)
theorem XI_0 : XI 1 0 ([], []) := ⟨trivial, rfl, fun c h => absurd h (List.not_mem_nil), fun va => ⟨[], false, rfl, fun st g _ => by
  rw [Bool.or_false]
  rfl⟩⟩
theorem okO_add {l : List Op} {o : Op} (h : ∀ c, c ∈ l → okO c) (ho : okO o) : ∀ c, c ∈ l ++ [o] → okO c := fun c m => by
  rcases List.mem_append.mp m with w | w
  · exact h c w
  · rw [List.mem_singleton.mp w]
    exact ho
theorem XI_rel {s : Bool} {o : Int} : ∀ {ws : List Int} {out : List Op}, XI 0 o (ws, out) → XI 0 o (xRel s ws out) ∧ hR (xRel s ws out).1 ≤ (if s = true then 1 else 0)
  | [], out, h => ⟨h, by
    show (0 : Int) ≤ _
    split <;> omega⟩
  | w :: ws, out, h => by
    have hh := h
    obtain ⟨⟨h1, h2, h3, h4⟩, ho, hc, he⟩ := hh
    unfold xRel
    by_cases c : w = 10 ∨ (s = true ∧ (w = 6 ∨ w = 7))
    · rw [if_pos c]
      refine ⟨h, ?_⟩
      show hR (w :: ws) ≤ _
      rcases hR_c w ws with ⟨d, e⟩ | ⟨d, d2, e⟩ | ⟨d, d2, e⟩
      · split <;> omega
      · rw [if_pos (c.resolve_left d).1]
        omega
      · exfalso
        have := (c.resolve_left d).2
        omega
    · rw [if_neg c]
      have n10 : ¬ w = 10 := fun z => c (.inl z)
      have y := cO_n (ws := ws) n10
      refine XI_rel ⟨h1, y.1.symm.trans ho, okO_add hc (.inr (.inr ⟨by show 2 ≤ w - 4; omega, by show w - 4 ≤ 5; omega⟩)), fun va => ?_⟩
      obtain ⟨vs, f, l, e⟩ := he va
      have l' : (vs.length : Int) = cW ws + 2 := by
        have l := l
        rw [show cW (w :: ws, out).1 = cW ws + 1 from y.2] at l
        omega
      have cw := (cW_le h1).2.2.1
      match vs, l', e with
      | [], l', _ => exact absurd l' (by show ¬ ((0 : Nat) : Int) = _; omega)
      | [x], l', _ => exact absurd l' (by show ¬ ((1 : Nat) : Int) = _; omega)
      | b :: a :: r, l', e =>
        refine ⟨eOp (w - 4) a b :: r, f || (decide (w - 4 = 5) && decide (b = 0)), ?_, fun st g hs => ?_⟩
        · show (((eOp (w - 4) a b :: r).length : Nat) : Int) = cW ws + 1 - 0
          rw [List.length_cons] at l' ⊢
          rw [List.length_cons] at l'
          omega
        · show eF va (out ++ [(w - 4, 0)]) (st, g) = _
          rw [eF_add (e st g hs)]
          unfold eSt
          rw [if_neg (show ¬ (w - 4, (0 : Int)).1 = 0 by show ¬ w - 4 = 0; omega), if_neg (show ¬ (w - 4, (0 : Int)).1 = 1 by show ¬ w - 4 = 1; omega)]
          show some (eOp (w - 4) a b :: (r ++ st), (g || f) || _) = some (eOp (w - 4) a b :: r ++ st, g || (f || _))
          rw [Bool.or_assoc]
          rfl
theorem XI_open {o x : Int} {q : List Int × List Op} (h : XI 1 o q) : XI 1 (o + 1) (xSt 10 x q) := by
  obtain ⟨h1, h2, h3, h4⟩ := h
  unfold xSt
  rw [if_pos rfl]
  have y := cO_y (w := 10) (ws := q.1) rfl
  refine ⟨⟨h1, by decide, by decide, .inl rfl⟩, by show cO (10 :: q.1) = _; omega, h3, fun va => ?_⟩
  obtain ⟨vs, f, l, e⟩ := h4 va
  exact ⟨vs, f, by show _ = cW (10 :: q.1) + 1 - 1; omega, e⟩
theorem XI_put {o : Int} {c : Op} {q : List Int × List Op} (h : XI 1 o q) (ho : o ≤ 6) (hc : okO c) (h1 : c.1 ≤ 1) : XI 0 o (q.1, q.2 ++ [c]) := by
  obtain ⟨w1, w2, w3, w4⟩ := h
  refine ⟨w1, w2, okO_add w3 hc, fun va => ?_⟩
  obtain ⟨vs, f, l, e⟩ := w4 va
  have b := cW_le w1
  have c1 : c.1 = 0 ∨ c.1 = 1 := by
    rcases hc with z | z | z <;> omega
  rcases c1 with z | z
  · refine ⟨c.2 :: vs, f, by rw [List.length_cons]; show _ = cW q.1 + 1 - 0; omega, fun st g hs => ?_⟩
    show eF va (q.2 ++ [c]) (st, g) = _
    rw [eF_add (e st g hs)]
    unfold eSt
    rw [if_pos z, if_pos (by show (vs ++ st).length < 64; rw [List.length_append]; omega)]
    rfl
  · refine ⟨va c.2 :: vs, f, by rw [List.length_cons]; show _ = cW q.1 + 1 - 0; omega, fun st g hs => ?_⟩
    show eF va (q.2 ++ [c]) (st, g) = _
    rw [eF_add (e st g hs)]
    unfold eSt
    rw [if_neg (by omega), if_pos z, if_pos (by show (vs ++ st).length < 64; rw [List.length_append]; omega)]
    rfl
theorem XI_int {o x : Int} {q : List Int × List Op} (h : XI 1 o q) (ho : o ≤ 6) (h0 : 0 ≤ x) (h1 : x ≤ 9999) : XI 0 o (xSt 3 x q) := by
  unfold xSt
  rw [if_neg (by decide), if_neg (by decide), if_pos rfl]
  exact XI_put h ho (.inl ⟨rfl, h0, h1⟩) (by show (0 : Int) ≤ 1; decide)
theorem XI_var {o k x : Int} {q : List Int × List Op} (h : XI 1 o q) (ho : o ≤ 6) (h0 : 45 ≤ k) (h1 : k ≤ 49) : XI 0 o (xSt k x q) := by
  unfold xSt
  rw [if_neg (by omega), if_neg (by omega), if_neg (by omega), if_pos h0]
  exact XI_put h ho (.inr (.inl ⟨rfl, by show 0 ≤ k - 45; omega, by show k - 45 ≤ 4; omega⟩)) (by show (1 : Int) ≤ 1; decide)
theorem XI_close {o x : Int} {q : List Int × List Op} (h : XI 0 o q) (ho : 0 < o) : XI 0 (o - 1) (xSt 11 x q) := by
  unfold xSt
  rw [if_neg (by decide), if_pos rfl]
  obtain ⟨⟨h1, h2, h3, h4⟩, hr⟩ := XI_rel (s := false) (ws := q.1) (out := q.2) h
  have hr : hR (xRel false q.1 q.2).1 ≤ 0 := hr
  obtain ⟨r, er⟩ := cO_pos h1 hr (by omega)
  have y := cO_y (w := 10) (ws := r) rfl
  rw [er] at h1 h2 h4
  refine ⟨by show okW (xRel false q.1 q.2).1.tail; rw [er]; exact h1.1, by show cO (xRel false q.1 q.2).1.tail = _; rw [er]; show cO r = _; omega, h3, fun va => ?_⟩
  obtain ⟨vs, f, l, e⟩ := h4 va
  refine ⟨vs, f, ?_, e⟩
  show _ = cW (xRel false q.1 q.2).1.tail + 1 - 0
  rw [er]
  show _ = cW r + 1 - 0
  omega
theorem XI_sign {o k x : Int} {q : List Int × List Op} (h : XI 0 o q) (k0 : 6 ≤ k) (k1 : k ≤ 9) : XI 1 o (xSt k x q) := by
  unfold xSt
  rw [if_neg (by omega), if_neg (by omega), if_neg (by omega), if_neg (by omega)]
  obtain ⟨⟨h1, h2, h3, h4⟩, hr⟩ := XI_rel (s := decide (8 ≤ k)) (ws := q.1) (out := q.2) h
  have y := cO_n (w := k) (ws := (xRel (decide (8 ≤ k)) q.1 q.2).1) (by omega)
  refine ⟨⟨h1, by omega, by omega, .inr ?_⟩, by show cO (k :: _) = _; omega, h3, fun va => ?_⟩
  · rcases hR_c k (xRel (decide (8 ≤ k)) q.1 q.2).1 with ⟨c, e⟩ | ⟨c, d, e⟩ | ⟨c, d, e⟩
    · omega
    · rw [if_neg (by rw [decide_eq_true_eq]; omega)] at hr
      omega
    · rw [if_pos (by rw [decide_eq_true_eq]; omega)] at hr
      omega
  · obtain ⟨vs, f, l, e⟩ := h4 va
    exact ⟨vs, f, by show _ = cW (k :: _) + 1 - 1; omega, e⟩
/-- an E's ops: each is one, and they leave one value -/
def GE (l : List Op) : Prop := (∀ c, c ∈ l → okO c) ∧ ∀ va : Int → Int, ∃ (x : Int) (f : Bool), ∀ (st : List Int) (g : Bool), st.length ≤ 40 → eF va l (st, g) = some (x :: st, g || f)
theorem XI_end {q : List Int × List Op} (h : XI 0 0 q) : (xRel false q.1 q.2).1 = [] ∧ GE (xRel false q.1 q.2).2 := by
  obtain ⟨⟨h1, h2, h3, h4⟩, hr⟩ := XI_rel (s := false) (ws := q.1) (out := q.2) h
  have hr : hR (xRel false q.1 q.2).1 ≤ 0 := hr
  have en := cO_nil h1 hr h2
  refine ⟨en, h3, fun va => ?_⟩
  obtain ⟨vs, f, l, e⟩ := h4 va
  rw [en] at l
  match vs, l, e with
  | [], l, _ => exact absurd l (by decide)
  | [x], _, e => exact ⟨x, f, e⟩
  | a :: b :: r, l, _ =>
    exfalso
    rw [List.length_cons, List.length_cons] at l
    have l2 : (((r.length + 1 + 1 : Nat)) : Int) = 0 + 1 - 0 := l
    omega
/-- its value, and whether a division by 0 is met -/
def tV (va : Int → Int) (l : List Op) : Int × Bool := match eF va l ([], false) with
  | some (x :: _, f) => (x, f)
  | _ => (0, true)
theorem tV_at {va : Int → Int} {l : List Op} (h : GE l) {st : List Int} {g : Bool} (hs : st.length ≤ 40) : eF va l (st, g) = some ((tV va l).1 :: st, g || (tV va l).2) := by
  obtain ⟨x, f, e⟩ := h.2 va
  have e0 := e [] false (by decide)
  have et : tV va l = (x, f) := by
    unfold tV
    rw [e0]
    show (x, false || f) = (x, f)
    rw [Bool.false_or]
  rw [et]
  exact e st g hs
theorem eF_flag {va : Int → Int} : ∀ {l : List Op} {st : List Int} {q : List Int × Bool}, eF va l (st, true) = some q → q.2 = true
  | [], st, q, e => by
    rw [← Option.some.inj e]
  | o :: l, st, q, e => by
    have e' : (eSt va o (st, true)).bind (eF va l) = some q := e
    unfold eSt at e'
    by_cases c : o.1 = 0
    · rw [if_pos c] at e'
      by_cases d : st.length < 64
      · rw [if_pos (show ((st, true) : List Int × Bool).1.length < 64 from d)] at e'
        exact eF_flag (st := o.2 :: st) e'
      · rw [if_neg (show ¬ ((st, true) : List Int × Bool).1.length < 64 from d)] at e'
        exact absurd e' (by intro w; cases w)
    · rw [if_neg c] at e'
      by_cases c1 : o.1 = 1
      · rw [if_pos c1] at e'
        by_cases d : st.length < 64
        · rw [if_pos (show ((st, true) : List Int × Bool).1.length < 64 from d)] at e'
          exact eF_flag (st := va o.2 :: st) e'
        · rw [if_neg (show ¬ ((st, true) : List Int × Bool).1.length < 64 from d)] at e'
          exact absurd e' (by intro w; cases w)
      · rw [if_neg c1] at e'
        match st, e' with
        | [], e' => exact absurd e' (by intro w; cases w)
        | [x], e' => exact absurd e' (by intro w; cases w)
        | b :: a :: r, e' => exact eF_flag (st := eOp o.1 a b :: r) e'
