/-! A RULE worked out by the reference (hand). -/
theorem VAr_eq {a b : gH} (e : hV b 323 = hV a 323) : VAr b = VAr a := by
  unfold VAr
  rw [e]
theorem CDr_k {a b : gH} {cl ch x y : Int} {L : List Op} (k : XRk a b) (c : CDr a cl ch x y L) : CDr b cl ch x y L := by
  unfold CDr
  rw [k.2.1, k.2.2]
  exact c
theorem LIr_k {a b : gH} {cl ch : Int} {l : Nat} {x : Lit} (k : XRk a b) (y : YRs a b) (c : LIr a cl ch l x) : LIr b cl ch l x := by
  unfold LIr
  rw [y.2 314 (by decide) (by decide), y.2 315 (by decide) (by decide), y.2 316 (by decide) (by decide), y.2 317 (by decide) (by decide), y.2 318 (by decide) (by decide), y.2 319 (by decide) (by decide)]
  exact ⟨c.1, c.2.1, c.2.2.1, CDr_k k c.2.2.2.1, CDr_k k c.2.2.2.2⟩
theorem rgR_k {a b : gH} {cl ch ll lh : Int} {i : Nat} {r : Rul} (k : XRk a b) (y : YRs a b) (z : ZRs a b) (c : rgR a cl ch ll lh i r) : rgR b cl ch ll lh i r := by
  cases r with
  | none =>
    show hV b 307 i = 1
    rw [z 307 (by decide) (by decide)]
    exact c
  | some u =>
    obtain ⟨c1, c2, c3, c4, c5, c6⟩ := c
    show hV b 307 i = 0 ∧ CDr b cl ch (hV b 308 i) (hV b 309 i) u.1 ∧ ll ≤ hV b 310 i ∧ hV b 311 i = hV b 310 i + (u.2.length : Int) ∧ hV b 311 i ≤ lh ∧ ∀ (j : Nat) (x : Lit), u.2[j]? = some x → LIr b cl ch ((hV b 310 i).toNat + j) x
    rw [z 307 (by decide) (by decide), z 308 (by decide) (by decide), z 309 (by decide) (by decide), z 310 (by decide) (by decide), z 311 (by decide) (by decide)]
    exact ⟨c1, CDr_k k c2, c3, c4, c5, fun j x hx => LIr_k k y (c6 j x hx)⟩
theorem rgS_k {a b : gH} {s ch lh : Int} {R : List Rul} (k : XRk a b) (y : YRs a b) (z : ZRs a b) (c : rgS a s ch lh R) : rgS b s ch lh R := ⟨by rw [z 306 (by decide) (by decide)]; exact c.1, c.2.1, fun i r hr => rgR_k k y z (c.2.2 i r hr)⟩
/-- what working an E out leaves -/
def TMp (a b : gH) (va : Int → Int) (l : List Op) (r : Int) : Prop := ((tV va l).2 = false ∧ r = (tV va l).1 ∧ hV b 285 58 = hV a 285 58) ∨ ((tV va l).2 = true ∧ ¬ hV b 285 58 = 0)
theorem cB_no {va : Int → Int} : ∀ {L : List Lit}, (∀ x, x ∈ L → lB va x = false) → cB va L = false
  | [], _ => rfl
  | l :: r, h => by
    show (lB va l || cB va r) = false
    rw [h l List.mem_cons_self, cB_no (fun x m => h x (List.mem_cons_of_mem _ m))]
    rfl
theorem cB_yes {va : Int → Int} {l : Lit} (h : lB va l = true) : ∀ {L : List Lit}, l ∈ L → cB va L = true
  | [], m => absurd m (List.not_mem_nil)
  | x :: r, m => by
    show (lB va x || cB va r) = true
    rcases List.mem_cons.mp m with e | e
    · rw [← e, h]
      rfl
    · rw [cB_yes h e, Bool.or_true]
def HDf (h : gH) (va : Int → Int) (u : List Op × List Lit) : Prop := ¬ hV h 285 58 = 0 ∧ ((tV va u.1).2 || cB va u.2) = true
/-- ahead of literal j: S: some ALL holds, A: this one does so far -/
def HDi (h : gH) (va : Int → Int) (u : List Op × List Lit) (S A : Int) (j : Nat) : Prop := (hV h 285 58 = 0 ∧ (tV va u.1).2 = false ∧ (∀ x, x ∈ u.2.take j → lB va x = false) ∧ hV h 285 59 = (tV va u.1).1 ∧ cV va (u.2.drop j) (decide (S = 1)) (decide (A = 1)) = cV va u.2 u.2.isEmpty false) ∨ HDf h va u
def HDl (h : gH) (va : Int → Int) (u : List Op × List Lit) (S A : Int) (j : Nat) (X : Int) : Prop := ∃ l : Lit, u.2[j]? = some l ∧ ((hV h 285 58 = 0 ∧ (tV va u.1).2 = false ∧ (∀ x, x ∈ u.2.take (j + 1) → lB va x = false) ∧ hV h 285 59 = (tV va u.1).1 ∧ X = b2i (lCmp l.1.1 (tV va l.2.1).1 (tV va l.2.2).1) ∧ cV va (l :: u.2.drop (j + 1)) (decide (S = 1)) (decide (A = 1)) = cV va u.2 u.2.isEmpty false) ∨ HDf h va u)
/-- behind `or` -/
def HDm (h : gH) (va : Int → Int) (u : List Op × List Lit) (S A : Int) (j : Nat) (X : Int) : Prop := ∃ l : Lit, u.2[j]? = some l ∧ ((hV h 285 58 = 0 ∧ (tV va u.1).2 = false ∧ (∀ x, x ∈ u.2.take (j + 1) → lB va x = false) ∧ hV h 285 59 = (tV va u.1).1 ∧ X = b2i (lCmp l.1.1 (tV va l.2.1).1 (tV va l.2.2).1) ∧ cV va (u.2.drop (j + 1)) (decide (S = 1)) (decide (A = 1) && lV va l) = cV va u.2 u.2.isEmpty false) ∨ HDf h va u)
theorem HD_0 {a b c : gH} {va : Int → Int} {u : List Op × List Lit} {S A r : Int} (t : TMp a b va u.1 r) (e0 : hV a 285 58 = 0) (e8 : hV c 285 58 = hV b 285 58) (e9 : hV c 285 59 = r) (hs : (S = 1 ∧ u.2 = []) ∨ (S = 0 ∧ ¬ u.2 = [])) (ha : A = 0) : HDi c va u S A 0 := by
  rcases t with ⟨t1, t2, t3⟩ | ⟨t1, t2⟩
  · refine .inl ⟨by omega, t1, fun x m => absurd m (by show ¬ x ∈ u.2.take 0; rw [List.take_zero]; exact List.not_mem_nil), e9.trans t2, ?_⟩
    show cV va u.2 (decide (S = 1)) (decide (A = 1)) = _
    subst ha
    rcases hs with ⟨h1, h2⟩ | ⟨h1, h2⟩
    · rw [h1, h2]
      rfl
    · rw [h1]
      cases hu : u.2 with
      | nil => exact absurd hu h2
      | cons x y => rfl
  · exact .inr ⟨by omega, by rw [t1]; rfl⟩
theorem HD_lit {a b c : gH} {va : Int → Int} {u : List Op × List Lit} {S A r1 r2 X : Int} {j : Nat} {l : Lit} (z : HDi a va u S A j) (hl : u.2[j]? = some l) (t1 : TMp a b va l.2.1 r1) (t2 : TMp b c va l.2.2 r2) (e9 : hV c 285 59 = hV a 285 59) (x : X = b2i (lCmp l.1.1 r1 r2)) : HDl c va u S A j X := by
  obtain ⟨hj, ej⟩ := List.getElem?_eq_some_iff.mp hl
  have ml : l ∈ u.2 := List.mem_of_getElem? hl
  refine ⟨l, hl, ?_⟩
  rcases z with ⟨z1, z2, z3, z4, z5⟩ | ⟨z1, z2⟩
  · by_cases f : lB va l = true
    · refine .inr ⟨?_, by rw [cB_yes f ml, Bool.or_true]⟩
      unfold lB at f
      rw [Bool.or_eq_true] at f
      rcases t2 with ⟨t2, _, t3⟩ | ⟨_, t3⟩
      · rcases t1 with ⟨t1, _, _⟩ | ⟨_, t4⟩
        · rw [t1, t2] at f
          exact absurd f (by decide)
        · omega
      · exact t3
    · have f := Bool.eq_false_iff.mpr f
      have f2 := f
      unfold lB at f2
      rw [Bool.or_eq_false_iff] at f2
      obtain ⟨g1, g2, g3⟩ := t1.resolve_right (fun w => by rw [f2.1] at w; exact absurd w.1 (by decide))
      obtain ⟨h1, h2, h3⟩ := t2.resolve_right (fun w => by rw [f2.2] at w; exact absurd w.1 (by decide))
      refine .inl ⟨by omega, z2, fun y m => ?_, e9.trans z4, by rw [x, g2, h2], ?_⟩
      · rw [List.take_succ, hl] at m
        rcases List.mem_append.mp m with w | w
        · exact z3 y w
        · rw [List.mem_singleton.mp (show y ∈ [l] from w)]
          exact f
      · rw [← z5, List.drop_eq_getElem_cons hj, ej]
  · refine .inr ⟨?_, z2⟩
    rcases t2 with ⟨_, _, t3⟩ | ⟨_, t3⟩
    · rcases t1 with ⟨_, _, t4⟩ | ⟨_, t4⟩
      · omega
      · omega
    · exact t3
theorem HD_or {h : gH} {va : Int → Int} {u : List Op × List Lit} {S A S' A' X n : Int} {j : Nat} (z : HDl h va u S A j X) (en : ∀ l, u.2[j]? = some l → n = b2i l.1.2.2) (c : (n = 0 ∧ S' = S ∧ A' = A) ∨ (¬ n = 0 ∧ A' = 1 ∧ ((S' = 1 ∧ (¬ S = 0 ∨ ¬ A = 0)) ∨ (S' = 0 ∧ S = 0 ∧ A = 0)))) (s1 : S = 0 ∨ S = 1) (a1 : A = 0 ∨ A = 1) : HDm h va u S' A' j X := by
  obtain ⟨l, hl, z⟩ := z
  refine ⟨l, hl, ?_⟩
  rcases z with ⟨z1, z2, z3, z4, z5, z6⟩ | z
  · refine .inl ⟨z1, z2, z3, z4, z5, ?_⟩
    rw [← z6]
    have e := en l hl
    show _ = cV va (u.2.drop (j + 1)) (if l.1.2.2 = true then decide (S = 1) || decide (A = 1) else decide (S = 1)) ((if l.1.2.2 = true then true else decide (A = 1)) && lV va l)
    cases ho : l.1.2.2 with
    | false =>
      rw [ho] at e
      have e : n = 0 := e
      have c := c.resolve_right (fun w => w.1 e)
      rw [c.2.1, c.2.2]
      rfl
    | true =>
      rw [ho] at e
      have e : n = 1 := e
      obtain ⟨_, c2, c3⟩ := c.resolve_left (fun w => by omega)
      rw [if_pos rfl, if_pos rfl, c2]
      have es : decide (S' = 1) = (decide (S = 1) || decide (A = 1)) := by
        rcases c3 with ⟨d1, d2⟩ | ⟨d1, d2, d3⟩
        · rw [decide_eq_true d1]
          rcases s1 with s1 | s1
          · have a2 : A = 1 := by omega
            rw [decide_eq_true a2, Bool.or_true]
          · rw [decide_eq_true s1, Bool.true_or]
        · rw [d1, d2, d3]
          rfl
      rw [es]
      rfl
  · exact .inr z
theorem HD_and {h : gH} {va : Int → Int} {u : List Op × List Lit} {S A A' X n : Int} {j : Nat} (z : HDm h va u S A j X) (en : ∀ l, u.2[j]? = some l → n = b2i l.1.2.1) (a1 : A = 0 ∨ A = 1) (c : (A = 0 ∧ A' = 0) ∨ (¬ A = 0 ∧ ((X = n ∧ A' = 0) ∨ (¬ X = n ∧ A' = 1)))) : HDi h va u S A' (j + 1) := by
  obtain ⟨l, hl, z⟩ := z
  rcases z with ⟨z1, z2, z3, z4, z5, z6⟩ | z
  · refine .inl ⟨z1, z2, z3, z4, ?_⟩
    rw [← z6]
    have e := en l hl
    have ea : decide (A' = 1) = (decide (A = 1) && lV va l) := by
      unfold lV
      rcases c with ⟨c1, c2⟩ | ⟨c1, c2⟩
      · rw [c1, c2]
        rfl
      · have a2 : A = 1 := by omega
        rw [decide_eq_true a2, Bool.true_and]
        cases hc : lCmp l.1.1 (tV va l.2.1).1 (tV va l.2.2).1 with
        | false =>
          rw [hc] at z5
          have z5 : X = 0 := z5
          cases hn : l.1.2.1 with
          | false =>
            rw [hn] at e
            have e : n = 0 := e
            rw [show A' = 0 by omega]
            rfl
          | true =>
            rw [hn] at e
            have e : n = 1 := e
            rw [show A' = 1 by omega]
            rfl
        | true =>
          rw [hc] at z5
          have z5 : X = 1 := z5
          cases hn : l.1.2.1 with
          | false =>
            rw [hn] at e
            have e : n = 0 := e
            rw [show A' = 1 by omega]
            rfl
          | true =>
            rw [hn] at e
            have e : n = 1 := e
            rw [show A' = 0 by omega]
            rfl
    rw [ea]
  · exact .inr z
theorem HD_end {h : gH} {va : Int → Int} {u : List Op × List Lit} {S A r : Int} {j : Nat} (z : HDi h va u S A j) (ej : j = u.2.length) (s1 : S = 0 ∨ S = 1) (a1 : A = 0 ∨ A = 1) (c : (r = 1 ∧ (¬ S = 0 ∨ ¬ A = 0) ∧ hV h 285 58 = 0) ∨ (r = 0 ∧ ((S = 0 ∧ A = 0) ∨ ¬ hV h 285 58 = 0))) : (r = 1 ∧ rV va u = some (hV h 285 59)) ∨ (r = 0 ∧ rV va u = none) := by
  rcases z with ⟨z1, z2, z3, z4, z5⟩ | ⟨z1, z2⟩
  · have nb : cB va u.2 = false := cB_no (fun x m => z3 x (by rw [ej, List.take_length]; exact m))
    rw [ej, List.drop_length] at z5
    have z5 : (decide (S = 1) || decide (A = 1)) = cV va u.2 u.2.isEmpty false := z5
    rcases c with ⟨c1, c2, _⟩ | ⟨c1, c2⟩
    · refine .inl ⟨c1, ?_⟩
      have t : (decide (S = 1) || decide (A = 1)) = true := by
        rcases c2 with d | d
        · rw [decide_eq_true (show S = 1 by omega), Bool.true_or]
        · rw [decide_eq_true (show A = 1 by omega), Bool.or_true]
      unfold rV
      rw [← z5, t, z2, nb, z4]
      rfl
    · refine .inr ⟨c1, ?_⟩
      obtain ⟨d1, d2⟩ := c2.resolve_right (fun w => w z1)
      unfold rV
      rw [← z5, d1, d2]
      rfl
  · have c := c.resolve_left (fun w => z1 w.2.2)
    refine .inr ⟨c.1, ?_⟩
    unfold rV
    rw [z2]
    exact if_neg (by rw [Bool.not_true, Bool.and_false]; decide)
/-! What is owed: the variables, held to 0 .. 999999. -/
def OVv (fr ow la ly : Int) : Int → Int := fun i => if i = 0 then o32 (fun x y => x / y) (w32 (fr + 23)) 24 else if i = 1 then ow else if i = 2 then la else if i = 3 then fr else ly
def clO (x : Int) : Int := if x < 0 then 0 else if 999999 < x then 999999 else x
theorem eF_va {va vb : Int → Int} (h : ∀ i : Int, 0 ≤ i → i ≤ 4 → va i = vb i) : ∀ {l : List Op}, (∀ c, c ∈ l → okO c) → ∀ q : List Int × Bool, eF va l q = eF vb l q
  | [], _, _ => rfl
  | o :: l, k, q => by
    have es : eSt va o q = eSt vb o q := by
      unfold eSt
      have ko := k o List.mem_cons_self
      by_cases c : o.1 = 0
      · rw [if_pos c, if_pos c]
      · rw [if_neg c, if_neg c]
        by_cases d : o.1 = 1
        · rw [if_pos d, if_pos d, h o.2 (by rcases ko with w | w | w <;> omega) (by rcases ko with w | w | w <;> omega)]
        · rw [if_neg d, if_neg d]
    show (eSt va o q).bind (eF va l) = (eSt vb o q).bind (eF vb l)
    rw [es]
    cases eSt vb o q with
    | none => rfl
    | some q' => exact eF_va h (fun c m => k c (List.mem_cons_of_mem _ m)) q'
theorem tV_va {va vb : Int → Int} (h : ∀ i : Int, 0 ≤ i → i ≤ 4 → va i = vb i) {l : List Op} (g : GE l) : tV va l = tV vb l := by
  unfold tV
  rw [eF_va h g.1]
theorem cV_va {va vb : Int → Int} (h : ∀ i : Int, 0 ≤ i → i ≤ 4 → va i = vb i) : ∀ {L : List Lit}, (∀ l, l ∈ L → GL l) → ∀ s a : Bool, cV va L s a = cV vb L s a ∧ cB va L = cB vb L
  | [], _, _, _ => ⟨rfl, rfl⟩
  | l :: r, g, s, a => by
    have gl := g l List.mem_cons_self
    have t1 := tV_va h gl.2.2.1
    have t2 := tV_va h gl.2.2.2
    have el : lV va l = lV vb l := by
      unfold lV
      rw [t1, t2]
    have eb : lB va l = lB vb l := by
      unfold lB
      rw [t1, t2]
    have ih := cV_va h (L := r) (fun x m => g x (List.mem_cons_of_mem _ m))
    refine ⟨?_, ?_⟩
    · show cV va r _ (_ && lV va l) = cV vb r _ (_ && lV vb l)
      rw [el]
      exact (ih _ _).1
    · show (lB va l || cB va r) = (lB vb l || cB vb r)
      rw [eb, (ih true true).2]
theorem oV_va {va vb : Int → Int} (h : ∀ i : Int, 0 ≤ i → i ≤ 4 → va i = vb i) : ∀ {R : List Rul}, GRs R → oV va R = oV vb R
  | [], _ => rfl
  | none :: r, g => oV_va h (R := r) (fun x m => g x (List.mem_cons_of_mem _ m))
  | some e :: r, g => by
    have ih := oV_va h (R := r) (fun x m => g x (List.mem_cons_of_mem _ m))
    have gl := g (some e) List.mem_cons_self e rfl
    have t := tV_va h gl.1
    have c := cV_va h gl.2.1 e.2.isEmpty false
    show (rV va e).getD (oV va r) = (rV vb e).getD (oV vb r)
    rw [ih]
    unfold rV
    rw [t, c.1, c.2]
