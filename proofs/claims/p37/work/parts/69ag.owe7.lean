/-! A COND read by the class (hand). -/
def SUMp (a b : gH) (d : Int) : Prop := RO a d → W49 a → KO a b d ∧ W49 b ∧ ∀ L : List Int, CODE a d L → (L.length : Int) ≤ (absC a).1 → 0 ≤ (absC b).1 → (absC a).1 ≤ (absC b).1 ∧ CODE b d (L ++ (xE (vwC a) (absC a).1 (absC b).1).map enc) ∧ GE (xE (vwC a) (absC a).1 (absC b).1)
def ELp (a b : gH) (d k n : Int) : Prop := RO a d → KO a b d ∧ ∀ L : List Int, 0 ≤ k → k ≤ 5000 → CODE a d L → L.length + 1 < 1000 → CODE b d (L ++ ([10000 + k] ++ (if n = 0 then [] else [10044])))
theorem EL_0 {a b : gH} {d k n x : Int} (e : EMp a b d x) (w : x = w32 (10000 + k)) (h : n = 0) : ELp a b d k n := fun z => ⟨(e z).1, fun L k0 k1 c l => by
  rw [w32_id (by omega) (by omega)] at w
  subst w
  rw [if_pos h]
  exact (e z).2 L c (by omega)⟩
theorem EL_1 {a b c : gH} {d k n x y : Int} (e : EMp a b d x) (w : x = w32 (10000 + k)) (h : ¬ n = 0) (e2 : EMp b c d y) (hy : y = 10044) : ELp a c d k n := fun z => ⟨KO_tr (e z).1 (e2 (e z).1.1).1, fun L k0 k1 cd l => by
  rw [w32_id (by omega) (by omega)] at w
  subst w
  subst hy
  rw [if_neg h]
  have r := (e2 (e z).1.1).2 _ ((e z).2 L cd (by omega)) (by rw [List.length_append]; show L.length + 1 < 1000; exact l)
  rw [List.append_assoc] at r
  exact r⟩
theorem litC_len {v : Vw} {o : Bool} {p : PS} (h1 : 0 ≤ p.1) (h2 : p.1 ≤ (xLitA v p).1) (h3 : (xLitA v p).1 ≤ (xLitB v p).1) (h4 : (xLitC v p).1 = (xLitB v p).1 + 1) (h5 : (xLitC v p).1 ≤ (pLit v p).1) : ((litC (xLit v o p)).length : Int) ≤ (pLit v p).1 - p.1 := by
  have l1 := xE_len (v := v) (a := (xLitA v p).1) (b := (xLitB v p).1)
  have l2 := xE_len (v := v) (a := (xLitC v p).1) (b := (pLit v p).1)
  unfold litC
  rw [List.length_append, List.length_append, List.length_append, List.length_map, List.length_map]
  have e1 : (xLit v o p).2.1 = xE v (xLitA v p).1 (xLitB v p).1 := rfl
  have e2 : (xLit v o p).2.2 = xE v (xLitC v p).1 (pLit v p).1 := rfl
  have e3 : (xLit v o p).1.2.1 = decide (((xLitA v p).1 - p.1) % 2 = 1) := rfl
  rw [e1, e2, e3]
  have l3 : ([10012 + (xLit v o p).1.1] : List Int).length = 1 := rfl
  rw [l3]
  by_cases c : ((xLitA v p).1 - p.1) % 2 = 1
  · rw [if_pos (decide_eq_true c)]
    show (((xE v _ _).length + ((xE v _ _).length + (1 + 1)) : Nat) : Int) ≤ _
    omega
  · rw [if_neg (fun w => c (of_decide_eq_true w))]
    show (((xE v _ _).length + ((xE v _ _).length + (1 + 0)) : Nat) : Int) ≤ _
    omega
/-- a literal is read -/
theorem LIT_read {b b2 b3 b4 b5 c : gH} {d n8 n9 : Int} {v : Vw} {o : Bool} (hv : wOK v) (zb : RO b d) (wb : W49 b) (s1 : SMf b b2) (e2 : absC b2 = xLitA v (absC b)) (v2 : vwC b2 = v) (k2 : pOK (absC b2)) (nt : 0 ≤ (absC b2).1 → (absC b).1 ≤ (absC b2).1 ∧ n8 = ((absC b2).1 - (absC b).1) % 2) (q1 : SUMp b2 b3 d) (e3 : absC b3 = xLitB v (absC b)) (v3 : vwC b3 = v) (k3 : pOK (absC b3)) (s2 : SMf b3 b4) (e4 : absC b4 = xLitC v (absC b)) (v4 : vwC b4 = v) (k4 : pOK (absC b4)) (rl : 0 ≤ (absC b4).1 → n9 = (vwC b3).1 (absC b3).1 ∧ 12 ≤ n9 ∧ n9 ≤ 15 ∧ (absC b4).1 = (absC b3).1 + 1) (q2 : SUMp b4 b5 d) (e5 : absC b5 = pLit v (absC b)) (p5 : (absC b5).1 ≤ 900) (el : ELp b5 c d n9 n8) (wc : W49 b5 → W49 c) : KO b c d ∧ W49 c ∧ ∀ M : List Int, CODE b d M → (M.length : Int) ≤ (absC b).1 → 0 ≤ (absC b5).1 → CODE c d (M ++ litC (xLit v o (absC b))) ∧ GL (xLit v o (absC b)) ∧ ((litC (xLit v o (absC b))).length : Int) ≤ (absC b5).1 - (absC b).1 := by
  have g2 := KO_sm zb s1
  have w2 := W49_le s1.1 wb
  obtain ⟨g3, w3, r3⟩ := q1 g2.1 w2
  have g4 := KO_sm g3.1 s2
  have w4 := W49_le s2.1 w3
  obtain ⟨g5, w5, r5⟩ := q2 g4.1 w4
  obtain ⟨g6, r6⟩ := el g5.1
  refine ⟨KO_tr g2 (KO_tr g3 (KO_tr g4 (KO_tr g5 g6))), wc w5, fun M cm hl h5 => ?_⟩
  have h4 : 0 ≤ (absC b4).1 := Classical.byContradiction fun n => by
    have e : absC b5 = absC b4 := by
      rw [e5, e4]
      show pExp v (xLitC v (absC b)) = _
      rw [← e4]
      exact pExp_neg hv (by omega) k4
    rw [e] at h5
    omega
  have h3 : 0 ≤ (absC b3).1 := Classical.byContradiction fun n => by
    have e : absC b4 = absC b3 := by
      rw [e4, e3]
      show pRel v (xLitB v (absC b)) = _
      rw [← e3]
      exact pRel_neg hv (by omega) k3
    rw [e] at h4
    omega
  have h2 : 0 ≤ (absC b2).1 := Classical.byContradiction fun n => by
    have e : absC b3 = absC b2 := by
      rw [e3, e2]
      show pExp v (xLitA v (absC b)) = _
      rw [← e2]
      exact pExp_neg hv (by omega) k2
    rw [e] at h3
    omega
  obtain ⟨t1, t2⟩ := nt h2
  obtain ⟨u1, u2, u3, u4⟩ := rl h4
  have c2 := CODE_sm zb s1 cm
  obtain ⟨y1, y2, y3⟩ := r3 M c2 (by omega) h3
  have l1 := xE_len (v := vwC b2) (a := (absC b2).1) (b := (absC b3).1)
  have c4 := CODE_sm g3.1 s2 y2
  obtain ⟨x1, x2, x3⟩ := r5 _ c4 (by rw [List.length_append, List.length_map]; omega) h5
  have l2 := xE_len (v := vwC b4) (a := (absC b4).1) (b := (absC b5).1)
  have c6 := r6 _ (by omega) (by omega) x2 (by rw [List.length_append, List.length_append, List.length_map, List.length_map]; omega)
  rw [v2] at c6 y3
  rw [v4] at c6 x3
  rw [v3] at u1
  have ll := litC_len (v := v) (o := o) (p := absC b) (by omega) (by rw [← e2]; exact t1) (by rw [← e2, ← e3]; exact y1) (by rw [← e3, ← e4]; exact u4) (by rw [← e4, ← e5]; exact x1)
  rw [← e5] at ll
  rw [e2, e3] at c6 y3
  rw [e4, e5] at c6 x3
  rw [e3] at u1
  have lc : litC (xLit v o (absC b)) = (xE v (xLitA v (absC b)).1 (xLitB v (absC b)).1).map enc ++ ((xE v (xLitC v (absC b)).1 (pLit v (absC b)).1).map enc ++ ([10000 + n9] ++ (if n8 = 0 then [] else [10044]))) := by
    have e1 : (xLit v o (absC b)).1.1 = v.1 (xLitB v (absC b)).1 - 12 := rfl
    have e3' : (xLit v o (absC b)).1.2.1 = decide (((xLitA v (absC b)).1 - (absC b).1) % 2 = 1) := rfl
    unfold litC
    rw [e1, e3', ← u1, show 10012 + (n9 - 12) = 10000 + n9 by omega]
    rw [e2] at t2
    by_cases cc : ((xLitA v (absC b)).1 - (absC b).1) % 2 = 1
    · rw [if_pos (decide_eq_true cc), if_neg (by omega)]
      rfl
    · rw [if_neg (fun w => cc (of_decide_eq_true w)), if_pos (by omega)]
      rfl
  refine ⟨?_, ⟨?_, ?_, y3, x3⟩, by omega⟩
  · rw [lc]
    rw [List.append_assoc, List.append_assoc] at c6
    exact c6
  · show 0 ≤ v.1 (xLitB v (absC b)).1 - 12
    omega
  · show v.1 (xLitB v (absC b)).1 - 12 ≤ 3
    omega
/-! `and`, `or` behind it. -/
theorem cC_end {aA aO : Bool} {l : Lit} : cC aA aO [l] = litC l ++ ((if aA = true then [10043] else []) ++ (if aO = true then [10042] else [])) := rfl
theorem cC_43 {v : Vw} {f : Nat} {p : PS} {aA aO : Bool} {l : Lit} : cC aA aO (l :: xCond v (f + 1) false p) = litC l ++ ((if aA = true then [10043] else []) ++ cC true aO (xCond v (f + 1) false p)) := rfl
theorem cC_42 {v : Vw} {f : Nat} {p : PS} {aA aO : Bool} {l : Lit} : cC aA aO (l :: xCond v (f + 1) true p) = litC l ++ ((if aA = true then [10043] else []) ++ ((if aO = true then [10042] else []) ++ cC false true (xCond v (f + 1) true p))) := rfl
theorem or01 {x y n : Int} (hx : x = 0 ∨ x = 1) (hy : y = 0 ∨ y = 1) (h : n = o32 (fun x y => x ||| y) x y) : (n = 0 ∧ x = 0 ∧ y = 0) ∨ (n = 1 ∧ (x = 1 ∨ y = 1)) := by
  rcases hx with hx | hx <;> rcases hy with hy | hy <;> subst hx <;> subst hy
  · exact .inl ⟨h.trans (by decide +kernel), rfl, rfl⟩
  · exact .inr ⟨h.trans (by decide +kernel), .inr rfl⟩
  · exact .inr ⟨h.trans (by decide +kernel), .inl rfl⟩
  · exact .inr ⟨h.trans (by decide +kernel), .inl rfl⟩
def aAnd (x : Int) : List Int := if x = 1 then [10043] else []
def aOr (x : Int) : List Int := if x = 1 then [10042] else []
theorem aAnd_d {x : Int} : (if decide (x = 1) = true then ([10043] : List Int) else []) = aAnd x := by
  unfold aAnd
  by_cases q : x = 1
  · rw [if_pos q, if_pos (decide_eq_true q)]
  · rw [if_neg q, if_neg (fun w => q (of_decide_eq_true w))]
theorem aOr_d {x : Int} : (if decide (x = 1) = true then ([10042] : List Int) else []) = aOr x := by
  unfold aOr
  by_cases q : x = 1
  · rw [if_pos q, if_pos (decide_eq_true q)]
  · rw [if_neg q, if_neg (fun w => q (of_decide_eq_true w))]
theorem aAnd_len {x : Int} (h : x = 0 ∨ x = 1) : ((aAnd x).length : Int) = x := by
  rcases h with h | h <;> subst h <;> rfl
theorem aOr_len {x : Int} (h : x = 0 ∨ x = 1) : ((aOr x).length : Int) = x := by
  rcases h with h | h <;> subst h <;> rfl
/-- ahead of a literal: aO, aA: an `or`, an `and` waits -/
def CNi (h : gH) (d : Int) (L : List Int) (v : Vw) (LC : List Lit) (f : Nat) (aO aA : Int) (p : PS) : Prop := (aO = 0 ∨ aO = 1) ∧ (aA = 0 ∨ aA = 1) ∧ ∃ C : List Int, CODE h d (L ++ C) ∧ ((L ++ C).length : Int) + aO + aA ≤ p.1 ∧ C ++ cC (decide (aA = 1)) (decide (aO = 1)) (xCond v f (decide (aA = 0)) p) = cC false false LC ∧ ((∀ l, l ∈ xCond v f (decide (aA = 0)) p → GL l) → ∀ l, l ∈ LC → GL l)
def CNe (h : gH) (d : Int) (L : List Int) (LC : List Lit) (p : PS) : Prop := CODE h d (L ++ cC false false LC) ∧ ((L ++ cC false false LC).length : Int) ≤ p.1 ∧ ∀ l, l ∈ LC → GL l
/-- behind a literal, ahead of `and`, `or`, if one is there -/
def CNk (h : gH) (d : Int) (L : List Int) (v : Vw) (LC : List Lit) (f : Nat) (aO aA : Int) (p : PS) : Prop := ((v.1 p.1 = 42 ∨ v.1 p.1 = 43) → (aO = 0 ∨ aO = 1) ∧ (aA = 0 ∨ aA = 1) ∧ ∃ C : List Int, CODE h d (L ++ C) ∧ ((L ++ C).length : Int) + aO + aA ≤ p.1 + 1 ∧ C ++ cC (decide (aA = 1)) (decide (aO = 1)) (xCond v f (decide (aA = 0)) (ptk v (v.1 p.1) p)) = cC false false LC ∧ ((∀ l, l ∈ xCond v f (decide (aA = 0)) (ptk v (v.1 p.1) p) → GL l) → ∀ l, l ∈ LC → GL l)) ∧ (¬ (v.1 p.1 = 42 ∨ v.1 p.1 = 43) → CNe h d L LC p)
theorem CNi_0 {h : gH} {d : Int} {L : List Int} {v : Vw} {f : Nat} {p : PS} {aO aA : Int} (c : CODE h d L) (l : (L.length : Int) ≤ p.1) (h1 : aO = 0) (h2 : aA = 0) : CNi h d L v (xCond v f true p) f aO aA p := by
  subst h1
  subst h2
  refine ⟨.inl rfl, .inl rfl, [], ?_, ?_, rfl, fun w => w⟩
  · rw [List.append_nil]
    exact c
  · rw [List.append_nil]
    omega
theorem CNk_take {h g : gH} {d : Int} {L : List Int} {v : Vw} {LC : List Lit} {f : Nat} {aO aA : Int} {p p' : PS} (z : RO h d) (s : SMf h g) (x : CNk h d L v LC f aO aA p) (k : v.1 p.1 = 42 ∨ v.1 p.1 = 43) (e : p' = ptk v (v.1 p.1) p) (n : p'.1 = p.1 + 1) : CNi g d L v LC f aO aA p' := by
  obtain ⟨x1, x2, C, x3, x4, x5, x6⟩ := x.1 k
  rw [← e] at x5 x6
  exact ⟨x1, x2, C, CODE_sm z s x3, by omega, x5, x6⟩
theorem CN_lit {b c g : gH} {d : Int} {L X : List Int} {v : Vw} {LC : List Lit} {f f1 : Nat} {aO aA aO' aA' : Int} {p q : PS} (hf : f1 = f + 1) (f0 : 1 ≤ f) (x : CNi b d L v LC f1 aO aA p) (eq : q = pLit v p) (q9 : q.1 ≤ 900) (rd : ∀ M : List Int, CODE b d M → (M.length : Int) ≤ p.1 → CODE c d (M ++ litC (xLit v (decide (aA = 0)) p)) ∧ GL (xLit v (decide (aA = 0)) p) ∧ ((litC (xLit v (decide (aA = 0)) p)).length : Int) ≤ q.1 - p.1) (cg : ∀ M : List Int, CODE c d M → M.length + 2 < 1000 → CODE g d (M ++ X)) (hX : X = aAnd aA ++ (if v.1 q.1 = 43 then [] else aOr aO)) (hA : aA' = if v.1 q.1 = 43 then 1 else 0) (hO : aO' = if v.1 q.1 = 42 then 1 else if v.1 q.1 = 43 then aO else 0) : CNk g d L v LC f aO' aA' q := by
  obtain ⟨x1, x2, C, x3, x4, x5, x6⟩ := x
  obtain ⟨r1, r2, r3⟩ := rd _ x3 (by omega)
  have lA := aAnd_len x2
  have lO := aOr_len x1
  rw [List.append_assoc] at r1
  have ln : ((L ++ (C ++ litC (xLit v (decide (aA = 0)) p))).length : Int) = ((L ++ C).length : Int) + ((litC (xLit v (decide (aA = 0)) p)).length : Int) := by
    rw [← List.append_assoc, List.length_append]
    omega
  have r4 := cg _ r1 (by omega)
  rw [List.append_assoc] at r4
  subst hf
  have ex : xCond v (f + 1) (decide (aA = 0)) p = xLit v (decide (aA = 0)) p :: (if v.1 q.1 = 42 ∨ v.1 q.1 = 43 then xCond v f (decide (v.1 q.1 = 42)) (ptk v (v.1 q.1) q) else []) := by
    rw [eq]
    rfl
  rw [ex] at x5 x6
  have ll : ((L ++ ((C ++ litC (xLit v (decide (aA = 0)) p)) ++ X)).length : Int) = ((L ++ (C ++ litC (xLit v (decide (aA = 0)) p))).length : Int) + (X.length : Int) := by
    rw [← List.append_assoc, List.length_append]
    omega
  refine ⟨fun k => ?_, fun k => ?_⟩
  · rw [if_pos k] at x5 x6
    obtain ⟨g0, rfl⟩ : ∃ g0, f = g0 + 1 := ⟨f - 1, by omega⟩
    by_cases k2 : v.1 q.1 = 42
    · rw [if_neg (by omega)] at hX hA
      rw [if_pos k2] at hO
      rw [decide_eq_true k2] at x5 x6
      rw [cC_42, aAnd_d, aOr_d] at x5
      subst hA
      subst hO
      refine ⟨.inr rfl, .inl rfl, _, r4, ?_, ?_, fun w => x6 fun l hl => ?_⟩
      · have lX : (X.length : Int) = aA + aO := by
          rw [hX, List.length_append]
          omega
        rw [ll]
        omega
      · rw [hX, List.append_assoc, List.append_assoc, List.append_assoc]
        exact x5
      · rcases List.mem_cons.mp hl with e | e
        · rw [e]
          exact r2
        · exact w l e
    · have k3 : v.1 q.1 = 43 := k.resolve_left k2
      rw [if_pos k3] at hX hA
      rw [if_neg k2, if_pos k3] at hO
      rw [decide_eq_false k2] at x5 x6
      rw [cC_43, aAnd_d] at x5
      subst hA
      subst hO
      refine ⟨x1, .inr rfl, _, r4, ?_, ?_, fun w => x6 fun l hl => ?_⟩
      · have lX : (X.length : Int) = aA := by
          rw [hX, List.append_nil]
          exact lA
        rw [ll]
        omega
      · rw [hX, List.append_nil, List.append_assoc, List.append_assoc]
        exact x5
      · rcases List.mem_cons.mp hl with e | e
        · rw [e]
          exact r2
        · exact w l e
  · rw [if_neg k] at x5 x6
    rw [if_neg (fun w => k (.inr w))] at hX
    rw [cC_end, aAnd_d, aOr_d] at x5
    have e : (C ++ litC (xLit v (decide (aA = 0)) p)) ++ X = cC false false LC := by
      rw [hX, List.append_assoc]
      exact x5
    rw [e] at r4 ll
    refine ⟨r4, ?_, x6 fun l hl => ?_⟩
    · have lX : (X.length : Int) = aA + aO := by
        rw [hX, List.length_append]
        omega
      rw [ll]
      omega
    · rw [List.mem_singleton.mp hl]
      exact r2
