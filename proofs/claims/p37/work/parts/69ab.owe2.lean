/-! A COND and a RULE: what the TOKENS tell, the class's code of it, what it is worth (hand). A literal: (relation 0 .. 3, not, or), its two Es. -/
abbrev Lit := (Int × Bool × Bool) × List Op × List Op
noncomputable def xLitA (v : Vw) (p : PS) : PS := pNots v (502 - p.1).toNat p
noncomputable def xLitB (v : Vw) (p : PS) : PS := pExp v (xLitA v p)
noncomputable def xLitC (v : Vw) (p : PS) : PS := pRel v (xLitB v p)
noncomputable def xLit (v : Vw) (o : Bool) (p : PS) : Lit := ((v.1 (xLitB v p).1 - 12, decide (((xLitA v p).1 - p.1) % 2 = 1), o), xE v (xLitA v p).1 (xLitB v p).1, xE v (xLitC v p).1 (pLit v p).1)
noncomputable def xCond (v : Vw) : Nat → Bool → PS → List Lit
  | 0, _, _ => []
  | f + 1, o, p => xLit v o p :: (if v.1 (pLit v p).1 = 42 ∨ v.1 (pLit v p).1 = 43 then xCond v f (decide (v.1 (pLit v p).1 = 42)) (ptk v (v.1 (pLit v p).1) (pLit v p)) else [])
/-- a loud RULE is none -/
abbrev Rul := Option (List Op × List Lit)
noncomputable def xRule (v : Vw) (p : PS) : Rul := if v.1 p.1 = 38 then some (xE v (ptk v 38 p).1 (pExp v (ptk v 38 p)).1, if v.1 (pExp v (ptk v 38 p)).1 = 39 then xCond v 502 true (ptk v 39 (pExp v (ptk v 38 p))) else []) else none
noncomputable def xRs (v : Vw) : Nat → PS → List Rul
  | 0, _ => []
  | f + 1, p => if v.1 p.1 = 38 ∨ v.1 p.1 = 40 then xRule v p :: xRs v f (ptk v 4 (if v.1 p.1 = 38 then pRight v p else pLoud v p)) else []
noncomputable def xRules (v : Vw) (p : PS) : List Rul := xRs v 12 (ptk v 19 p)
def GL (l : Lit) : Prop := 0 ≤ l.1.1 ∧ l.1.1 ≤ 3 ∧ GE l.2.1 ∧ GE l.2.2
def GRl (r : Rul) : Prop := ∀ e, r = some e → GE e.1 ∧ (∀ l, l ∈ e.2 → GL l) ∧ (e.2 = [] ∨ ∃ l t, e.2 = l :: t ∧ l.1.2.2 = true)
/-! What it is worth. -/
def lCmp (k a b : Int) : Bool := if k = 0 then decide (a = b) else if k = 1 then decide (¬ a = b) else if k = 2 then decide (a < b) else decide (a ≤ b)
def lV (va : Int → Int) (l : Lit) : Bool := xor (lCmp l.1.1 (tV va l.2.1).1 (tV va l.2.2).1) l.1.2.1
def lB (va : Int → Int) (l : Lit) : Bool := (tV va l.2.1).2 || (tV va l.2.2).2
/-- s: some ALL ahead holds; a: this one does so far -/
def cV (va : Int → Int) : List Lit → Bool → Bool → Bool
  | [], s, a => s || a
  | l :: r, s, a => cV va r (if l.1.2.2 = true then s || a else s) ((if l.1.2.2 = true then true else a) && lV va l)
def cB (va : Int → Int) : List Lit → Bool
  | [] => false
  | l :: r => lB va l || cB va r
/-- a right RULE that holds: its E -/
def rV (va : Int → Int) (e : List Op × List Lit) : Option Int := if (cV va e.2 (e.2.isEmpty) false && !((tV va e.1).2 || cB va e.2)) = true then some (tV va e.1).1 else none
def oV (va : Int → Int) : List Rul → Int
  | [] => 0
  | none :: r => oV va r
  | some e :: r => (rV va e).getD (oV va r)
/-! The class's code: an op is an int; 10000 and more: a sign, a variable. -/
def enc (o : Op) : Int := if o.1 = 0 then o.2 else if o.1 = 1 then 10045 + o.2 else 10004 + o.1
def b2i (b : Bool) : Int := if b = true then 1 else 0
def cOp (k a b : Int) : Int := if k = 6 then w32 (a + b) else if k = 7 then w32 (a - b) else if k = 8 then w32 (a * b) else if k = 9 then (if b = 0 then 0 else o32 (fun x y => x / y) a b) else if k = 12 then b2i (decide (a = b)) else if k = 13 then b2i (decide (¬ a = b)) else if k = 14 then b2i (decide (a < b)) else if k = 15 then b2i (decide (a ≤ b)) else if k = 43 then o32 (fun x y => x &&& y) a b else o32 (fun x y => x ||| y) a b
def cBin (k : Int) : List Int → Bool → EQ
  | b :: a :: st, f => some (cOp k a b :: st, f || (decide (k = 9) && decide (b = 0)))
  | _, _ => none
def cNot : List Int → Bool → EQ
  | x :: st, f => some (b2i (decide (x = 0)) :: st, f)
  | _, _ => none
def cSt (va : Int → Int) (c : Int) (q : List Int × Bool) : EQ :=
  if c < 0 then none else if c < 10000 then (if q.1.length < 64 then some (c :: q.1, q.2) else none) else if 10045 ≤ c then (if q.1.length < 64 then some (va (c - 10045) :: q.1, q.2) else none) else if c = 10044 then cNot q.1 q.2 else cBin (c - 10000) q.1 q.2
def cF (va : Int → Int) : List Int → List Int × Bool → EQ
  | [], q => some q
  | c :: r, q => (cSt va c q).bind (cF va r)
theorem cF_app {va : Int → Int} : ∀ {l r : List Int} {q : List Int × Bool}, cF va (l ++ r) q = (cF va l q).bind (cF va r)
  | [], _, _ => rfl
  | o :: l, r, q => by
    show (cSt va o q).bind (cF va (l ++ r)) = ((cSt va o q).bind (cF va l)).bind (cF va r)
    cases cSt va o q with
    | none => rfl
    | some q' => exact cF_app
theorem cF_1 {va : Int → Int} {o : Int} {q : List Int × Bool} : cF va [o] q = cSt va o q := by
  show (cSt va o q).bind (cF va []) = _
  cases cSt va o q with
  | none => rfl
  | some q' => rfl
theorem cF_go {va : Int → Int} {l r : List Int} {q q' : List Int × Bool} (e : cF va l q = some q') : cF va (l ++ r) q = cF va r q' := by
  rw [cF_app, e]
  rfl
theorem cBin_e {k : Int} (h0 : 2 ≤ k) (h1 : k ≤ 5) : ∀ {st : List Int} {f : Bool}, cBin (k + 4) st f = eBin k st f
  | [], _ => rfl
  | [_], _ => rfl
  | b :: a :: st, f => by
    show some (cOp (k + 4) a b :: st, f || (decide (k + 4 = 9) && _)) = some (eOp k a b :: st, f || (decide (k = 5) && _))
    rcases (show k = 2 ∨ k = 3 ∨ k = 4 ∨ k = 5 by omega) with z | z | z | z <;> subst z <;> rfl
theorem cSt_enc {va : Int → Int} {o : Op} (h : okO o) {q : List Int × Bool} : cSt va (enc o) q = eSt va o q := by
  unfold cSt eSt enc
  rcases h with ⟨c, d, e⟩ | ⟨c, d, e⟩ | ⟨c, d⟩
  · rw [if_pos c, if_pos c, if_neg (by omega), if_pos (by omega)]
  · rw [if_neg (show ¬ o.1 = 0 by omega), if_pos c, if_neg (show ¬ o.1 = 0 by omega), if_pos c, if_neg (by omega), if_neg (by omega), if_pos (by omega), show 10045 + o.2 - 10045 = o.2 by omega]
  · rw [if_neg (show ¬ o.1 = 0 by omega), if_neg (show ¬ o.1 = 1 by omega), if_neg (show ¬ o.1 = 0 by omega), if_neg (show ¬ o.1 = 1 by omega), if_neg (by omega), if_neg (by omega), if_neg (by omega), if_neg (by omega), show 10004 + o.1 - 10000 = o.1 + 4 by omega]
    exact cBin_e c d
theorem cF_enc {va : Int → Int} : ∀ {l : List Op}, (∀ c, c ∈ l → okO c) → ∀ {q : List Int × Bool}, cF va (l.map enc) q = eF va l q
  | [], _, _ => rfl
  | o :: l, h, q => by
    show (cSt va (enc o) q).bind (cF va (l.map enc)) = (eSt va o q).bind (eF va l)
    rw [cSt_enc (h o (List.mem_cons_self))]
    cases eSt va o q with
    | none => rfl
    | some q' => exact cF_enc (fun c m => h c (List.mem_cons_of_mem _ m))
theorem cF_E {va : Int → Int} {l : List Op} (h : GE l) {st : List Int} {g : Bool} (hs : st.length ≤ 40) : cF va (l.map enc) (st, g) = some ((tV va l).1 :: st, g || (tV va l).2) := (cF_enc h.1).trans (tV_at h hs)
def litC (l : Lit) : List Int := l.2.1.map enc ++ (l.2.2.map enc ++ ([10012 + l.1.1] ++ (if l.1.2.1 = true then [10044] else [])))
/-- what is joined once a literal stands: `and` (aA), then `or` (aO) if no `and` follows -/
def cC : Bool → Bool → List Lit → List Int
  | _, _, [] => []
  | aA, aO, l :: [] => litC l ++ ((if aA = true then [10043] else []) ++ (if aO = true then [10042] else []))
  | aA, aO, l :: n :: r => litC l ++ ((if aA = true then [10043] else []) ++ (if n.1.2.2 = true then (if aO = true then [10042] else []) ++ cC false true (n :: r) else cC true aO (n :: r)))
theorem b2i_not (x : Bool) : b2i (decide (b2i x = 0)) = b2i (!x) := by
  cases x <;> rfl
theorem b2i_and (a b : Bool) : o32 (fun x y => x &&& y) (b2i a) (b2i b) = b2i (a && b) := by
  cases a <;> cases b <;> decide +kernel
theorem b2i_or (a b : Bool) : o32 (fun x y => x ||| y) (b2i a) (b2i b) = b2i (a || b) := by
  cases a <;> cases b <;> decide +kernel
theorem cOp_cmp {k a b : Int} (h0 : 0 ≤ k) (h1 : k ≤ 3) : cOp (12 + k) a b = b2i (lCmp k a b) := by
  rcases (show k = 0 ∨ k = 1 ∨ k = 2 ∨ k = 3 by omega) with z | z | z | z <;> subst z <;> rfl
theorem litC_at {va : Int → Int} {l : Lit} (h : GL l) {st : List Int} {g : Bool} (hs : st.length ≤ 39) : cF va (litC l) (st, g) = some (b2i (lV va l) :: st, g || lB va l) := by
  obtain ⟨h0, h1, e1, e2⟩ := h
  unfold litC
  rw [cF_go (cF_E e1 (by omega)), cF_go (cF_E e2 (by rw [List.length_cons]; omega))]
  have s1 : cF va [10012 + l.1.1] ((tV va l.2.2).1 :: (tV va l.2.1).1 :: st, (g || (tV va l.2.1).2) || (tV va l.2.2).2) = some (b2i (lCmp l.1.1 (tV va l.2.1).1 (tV va l.2.2).1) :: st, g || lB va l) := by
    rw [cF_1]
    unfold cSt
    rw [if_neg (by omega), if_neg (by omega), if_neg (by omega), if_neg (by omega), show 10012 + l.1.1 - 10000 = 12 + l.1.1 by omega]
    show some (cOp (12 + l.1.1) _ _ :: st, ((g || _) || _) || (decide (12 + l.1.1 = 9) && _)) = _
    rw [cOp_cmp h0 h1, decide_eq_false (show ¬ 12 + l.1.1 = 9 by omega), Bool.false_and, Bool.or_false, Bool.or_assoc]
    rfl
  rw [cF_go s1]
  unfold lV
  cases hn : l.1.2.1 with
  | false =>
    rw [if_neg (by decide), Bool.xor_false]
    rfl
  | true =>
    rw [if_pos rfl, cF_1, Bool.xor_true]
    unfold cSt
    rw [if_neg (by decide), if_neg (by decide), if_neg (by decide), if_pos rfl]
    show some (b2i (decide (b2i _ = 0)) :: st, _) = _
    rw [b2i_not]
theorem cJ_and {va : Int → Int} {a b g : Bool} {st : List Int} : cF va [10043] (b2i a :: b2i b :: st, g) = some (b2i (b && a) :: st, g) := by
  rw [cF_1]
  show some (o32 (fun x y => x &&& y) (b2i b) (b2i a) :: st, g || false) = _
  rw [b2i_and, Bool.or_false]
theorem cJ_or {va : Int → Int} {a b g : Bool} {st : List Int} : cF va [10042] (b2i a :: b2i b :: st, g) = some (b2i (b || a) :: st, g) := by
  rw [cF_1]
  show some (o32 (fun x y => x ||| y) (b2i b) (b2i a) :: st, g || false) = _
  rw [b2i_or, Bool.or_false]
/-- what the stack holds ahead of a literal -/
def cSk (aA aO s a : Bool) (st : List Int) : List Int := (if aA = true then [b2i a] else []) ++ ((if aO = true then [b2i (if aA = true then s else s || a)] else []) ++ st)
theorem cSk_len {aA aO s a : Bool} {st : List Int} : (cSk aA aO s a st).length ≤ st.length + 2 := by
  unfold cSk
  rw [List.length_append, List.length_append]
  have h1 : (if aA = true then [b2i a] else []).length ≤ 1 := by
    split
    · exact Nat.le_refl 1
    · exact Nat.zero_le 1
  have h2 : (if aO = true then [b2i (if aA = true then s else s || a)] else []).length ≤ 1 := by
    split
    · exact Nat.le_refl 1
    · exact Nat.zero_le 1
  omega
theorem cC_at {va : Int → Int} : ∀ {r : List Lit} {l : Lit} {aA aO s a g : Bool} {st : List Int}, (∀ c, c ∈ l :: r → GL c) → aA = !l.1.2.2 → (aO = false → (if aA = true then s else s || a) = false) → st.length ≤ 30 → cF va (cC aA aO (l :: r)) (cSk aA aO s a st, g) = some (b2i (cV va (l :: r) s a) :: st, g || cB va (l :: r)) := by
  intro r
  induction r with
  | nil =>
    intro l aA aO s a g st hl eA hO hs
    have g1 := hl l List.mem_cons_self
    have w : (cSk aA aO s a st).length ≤ 39 := Nat.le_trans cSk_len (by omega)
    show cF va (litC l ++ _) _ = some (b2i ((if l.1.2.2 = true then s || a else s) || ((if l.1.2.2 = true then true else a) && lV va l)) :: st, g || (lB va l || false))
    rw [cF_go (litC_at g1 w), Bool.or_false]
    cases hx : l.1.2.2 with
    | true =>
      have eA : aA = false := by rw [eA, hx]; rfl
      subst eA
      cases aO with
      | true =>
        show cF va [10042] (b2i (lV va l) :: b2i (s || a) :: st, _) = _
        rw [cJ_or]
        rfl
      | false =>
        have z : (s || a) = false := hO rfl
        show some (b2i (lV va l) :: st, _) = some (b2i ((s || a) || (true && lV va l)) :: st, _)
        rw [z, Bool.true_and, Bool.false_or]
    | false =>
      have eA : aA = true := by rw [eA, hx]; rfl
      subst eA
      cases aO with
      | true =>
        show cF va ([10043] ++ [10042]) (b2i (lV va l) :: b2i a :: b2i s :: st, _) = _
        rw [cF_go cJ_and, cJ_or]
        rfl
      | false =>
        have z : s = false := hO rfl
        show cF va ([10043] ++ []) (b2i (lV va l) :: b2i a :: st, _) = some (b2i (s || (a && lV va l)) :: st, _)
        rw [cF_go cJ_and, z, Bool.false_or]
        rfl
  | cons n r ih =>
    intro l aA aO s a g st hl eA hO hs
    have g1 := hl l List.mem_cons_self
    have gr : ∀ c, c ∈ n :: r → GL c := fun c m => hl c (List.mem_cons_of_mem _ m)
    have w : (cSk aA aO s a st).length ≤ 39 := Nat.le_trans cSk_len (by omega)
    show cF va (litC l ++ _) _ = some (b2i (cV va (n :: r) (if l.1.2.2 = true then s || a else s) ((if l.1.2.2 = true then true else a) && lV va l)) :: st, g || (lB va l || cB va (n :: r)))
    rw [cF_go (litC_at g1 w), ← Bool.or_assoc]
    cases hx : l.1.2.2 with
    | true =>
      have eA : aA = false := by rw [eA, hx]; rfl
      subst eA
      rw [if_neg (by decide), if_pos rfl, if_pos rfl, Bool.true_and]
      cases hn : n.1.2.2 with
      | true =>
        rw [if_pos rfl]
        cases aO with
        | true =>
          show cF va ([10042] ++ cC false true (n :: r)) (b2i (lV va l) :: b2i (s || a) :: st, _) = _
          rw [cF_go cJ_or]
          exact ih (s := s || a) (a := lV va l) gr (by rw [hn]; rfl) (fun z => by cases z) hs
        | false =>
          have z : (s || a) = false := hO rfl
          have i := ih (aA := false) (aO := true) (s := s || a) (a := lV va l) (g := g || lB va l) (st := st) gr (by rw [hn]; rfl) (fun z => by cases z) hs
          show cF va (cC false true (n :: r)) (b2i (lV va l) :: st, _) = _
          rw [← i]
          show _ = cF va _ (b2i ((s || a) || lV va l) :: st, _)
          rw [z, Bool.false_or]
      | false =>
        rw [if_neg (by decide)]
        cases aO with
        | true => exact ih (aA := true) (aO := true) (s := s || a) (a := lV va l) gr (by rw [hn]; rfl) (fun z => by cases z) hs
        | false => exact ih (aA := true) (aO := false) (s := s || a) (a := lV va l) gr (by rw [hn]; rfl) (fun _ => hO rfl) hs
    | false =>
      have eA : aA = true := by rw [eA, hx]; rfl
      subst eA
      rw [if_pos rfl, if_neg (show ¬ false = true by decide), if_neg (show ¬ false = true by decide)]
      cases hn : n.1.2.2 with
      | true =>
        rw [if_pos rfl]
        cases aO with
        | true =>
          show cF va ([10043] ++ ([10042] ++ cC false true (n :: r))) (b2i (lV va l) :: b2i a :: b2i s :: st, _) = _
          rw [cF_go cJ_and, cF_go cJ_or]
          exact ih (s := s) (a := a && lV va l) gr (by rw [hn]; rfl) (fun z => by cases z) hs
        | false =>
          have z : s = false := hO rfl
          show cF va ([10043] ++ cC false true (n :: r)) (b2i (lV va l) :: b2i a :: st, _) = _
          rw [cF_go cJ_and]
          have i := ih (aA := false) (aO := true) (s := s) (a := a && lV va l) (g := g || lB va l) (st := st) gr (by rw [hn]; rfl) (fun z => by cases z) hs
          rw [← i]
          show _ = cF va _ (b2i (s || (a && lV va l)) :: st, _)
          rw [z, Bool.false_or]
      | false =>
        rw [if_neg (by decide)]
        cases aO with
        | true =>
          show cF va ([10043] ++ cC true true (n :: r)) (b2i (lV va l) :: b2i a :: b2i s :: st, _) = _
          rw [cF_go cJ_and]
          exact ih (aA := true) (aO := true) (s := s) (a := a && lV va l) gr (by rw [hn]; rfl) (fun z => by cases z) hs
        | false =>
          show cF va ([10043] ++ cC true false (n :: r)) (b2i (lV va l) :: b2i a :: st, _) = _
          rw [cF_go cJ_and]
          exact ih (aA := true) (aO := false) (s := s) (a := a && lV va l) gr (by rw [hn]; rfl) (fun _ => hO rfl) hs
/-- a COND's code from an empty stack -/
theorem cC_0 {va : Int → Int} {l : Lit} {r : List Lit} (h : ∀ c, c ∈ l :: r → GL c) (ho : l.1.2.2 = true) {g : Bool} : cF va (cC false false (l :: r)) ([], g) = some ([b2i (cV va (l :: r) false false)], g || cB va (l :: r)) :=
  cC_at (aA := false) (aO := false) (s := false) (a := false) (st := []) h (by rw [ho]; rfl) (fun _ => rfl) (by decide)
