/-! THE GENERATOR IS SOUND, on: goals, the stack, null tests, fields, rows (printed by wip/gen/gen18v.py). -/
/-- a cell's kind, where hK is something else -/
noncomputable abbrev hKof (lh : gH) (o : Nat) : Nat := hK lh o
section VTWO
variable {T : Nat → Nat → vT} {P : vP} {W : List (Nat × Nat)} {Z : Bool} {m : Nat} {X : (Nat → Int) × gH} {K : vS → Nat → vL → List vV → vR} {Q : gO → Prop} {j d : Nat} {ρ : Nat → Int} {η : Nat → gH} {S : vS} {pc : Nat} {lv : vL} {st : List vV} {lv' : gL} {st' : List Value} {lh : gH} {l : List vG}
theorem vGoal_ok {g : vF} {r : vR} (h : vGoal S g r = some l) (hg : Nat.ble 3000 g.1 = false) (hl : ∀ g ∈ l, vOkm T P m g) (R : vRt T P W Z m X ρ η S lh) : ∃ l', r = some l' ∧ (∀ g ∈ l', vOkm T P m g) ∧ fD T P ρ η g := by
  unfold vGoal at h
  match r, h with
  | some l', h =>
    cases h
    refine ⟨l', rfl, fun g hg => hl g (List.mem_cons_of_mem _ hg), ?_⟩
    have h1 := hl _ List.mem_cons_self
    unfold vOkm vFin at h1
    rw [show Nat.ble 3000 ((S.2.2, g) : vG).2.1 = false from hg] at h1
    exact h1 ρ η (fun f hf => (R.1 f hf).2)
theorem vq_div {op : Nat} {f : Int32 → Int32 → Int32} (hop : ∀ k x y : Int, k = o32 f x y → fX T P op [k, x, y] [] 0) (hK : vK T P W Z m X K (gT_ Q j d)) (h : vI_div K S pc lv st op = some l) (hl : ∀ g ∈ l, vOkm T P m g) (R : vRt T P W Z m X ρ η S lh) (hlv : vRL T ρ S.1 lh lv lv') (hst : vRS T ρ S.1 lh st st') : gQ Q j d (fun K => gI_div K pc lv' st' lh f) := by
  unfold vI_div at h
  match st, st', hst, h with
  | y :: x :: r, y' :: x' :: r', hst, h =>
    dsimp only at h
    cases ht : vIsI y && vIsI x with
    | false => rw [ht] at h; cases h
    | true =>
      rw [ht] at h
      dsimp only [cond_true] at h
      rw [Bool.and_eq_true] at ht
      obtain ⟨b, rfl, hb⟩ := hst.1.int ht.1
      obtain ⟨a, rfl, ha⟩ := hst.2.1.int ht.2
      have hsc : ∀ k ∈ [x.2.1, y.2.1], k < S.1 := fun k hk => by
        rcases List.mem_cons.mp hk with rfl | hk
        · exact hst.2.1.1
        · rw [List.mem_singleton.mp hk]
          exact hst.1.1
      obtain ⟨l', h, hl, hg⟩ := vGoal_ok h rfl hl R
      unfold vNew at h
      rw [fNat_eq] at h
      have hb0 : ¬ b = 0 := fun z => by
        have h9 : ρ y.2.1 ≠ 0 := hg
        rw [hb, z] at h9
        exact h9 rfl
      have R2 := R.one (x := (f a b).toInt) (op := op) (ns := [x.2.1, y.2.1]) (c := 0) hsc (hop _ _ _ (by rw [ha, hb, o32_at]))
      obtain ⟨n1, o, e, q⟩ := hK _ _ _ _ _ _ _ _ _ _ h hl R2 hlv.new (show vRS T _ (S.1 + 1) lh ((0, S.1, 0, 0) :: r) (.int (f a b) :: r') from ⟨vRel.ofInt _, hst.2.2.new⟩)
      refine ⟨n1, o, ?_, q⟩
      show (bif decide (b = 0) then none else _) = _
      rw [decide_eq_false hb0]
      exact e
theorem vq_ldiv (hK : vK T P W Z m X K (gT_ Q j d)) (h : vI_ldiv K S pc lv st = some l) (hl : ∀ g ∈ l, vOkm T P m g) (R : vRt T P W Z m X ρ η S lh) (hlv : vRL T ρ S.1 lh lv lv') (hst : vRS T ρ S.1 lh st st') : gQ Q j d (fun K => gI_ldiv K pc lv' st' lh) := by
  unfold vI_ldiv at h
  match st, st', hst, h with
  | y :: x :: r, y' :: x' :: r', hst, h =>
    dsimp only at h
    cases ht : vIsL y && vIsL x with
    | false => rw [ht] at h; cases h
    | true =>
      rw [ht] at h
      dsimp only [cond_true] at h
      rw [Bool.and_eq_true] at ht
      obtain ⟨b, rfl, hb⟩ := hst.1.long ht.1
      obtain ⟨a, rfl, ha⟩ := hst.2.1.long ht.2
      have hsc : ∀ k ∈ [x.2.1, y.2.1], k < S.1 := fun k hk => by
        rcases List.mem_cons.mp hk with rfl | hk
        · exact hst.2.1.1
        · rw [List.mem_singleton.mp hk]
          exact hst.1.1
      obtain ⟨l', h, hl, hg⟩ := vGoal_ok h rfl hl R
      unfold vNew at h
      rw [fNat_eq] at h
      have hb0 : ¬ b = 0 := fun z => by
        have h9 : ρ y.2.1 ≠ 0 := hg
        rw [hb, z] at h9
        exact h9 rfl
      have R2 := R.one (x := (a / b).toInt) (op := 64) (ns := [x.2.1, y.2.1]) (c := 0) hsc (show _ = o64 (fun x y => x / y) (ρ x.2.1) (ρ y.2.1) by rw [ha, hb, o64_at])
      obtain ⟨n1, o, e, q⟩ := hK _ _ _ _ _ _ _ _ _ _ h hl R2 hlv.new (show vRS T _ (S.1 + 1) lh ((1, S.1, 0, 0) :: r) (.long (a / b) :: r') from ⟨vRel.ofLong _, hst.2.2.new⟩)
      refine ⟨n1, o, ?_, q⟩
      show (bif decide (b = 0) then none else _) = _
      rw [decide_eq_false hb0]
      exact e
theorem vq_dup (hK : vK T P W Z m X K (gT_ Q j d)) (h : vI_dup K S pc lv st = some l) (hl : ∀ g ∈ l, vOkm T P m g) (R : vRt T P W Z m X ρ η S lh) (hlv : vRL T ρ S.1 lh lv lv') (hst : vRS T ρ S.1 lh st st') : gQ Q j d (fun K => gI_dup K pc lv' st' lh) := by
  unfold vI_dup at h
  match st, st', hst, h with
  | w :: r, w' :: r', hst, h =>
    dsimp only at h
    cases ht : Nat.beq (vCat w) 1 with
    | false => rw [ht] at h; cases h
    | true =>
      rw [ht] at h
      obtain ⟨n1, o, e, q⟩ := hK _ _ _ _ _ _ _ _ _ _ h hl R hlv (show vRS T ρ S.1 lh (w :: w :: r) (w' :: w' :: r') from ⟨hst.1, hst.1, hst.2⟩)
      refine ⟨n1, o, ?_, q⟩
      show (bif Nat.beq w'.category 1 then _ else _) = _
      rw [← hst.1.cat, ht]
      exact e
theorem vq_pop (hK : vK T P W Z m X K (gT_ Q j d)) (h : vI_pop K S pc lv st = some l) (hl : ∀ g ∈ l, vOkm T P m g) (R : vRt T P W Z m X ρ η S lh) (hlv : vRL T ρ S.1 lh lv lv') (hst : vRS T ρ S.1 lh st st') : gQ Q j d (fun K => gI_pop K pc lv' st' lh) := by
  unfold vI_pop at h
  match st, st', hst, h with
  | w :: r, w' :: r', hst, h =>
    dsimp only at h
    cases ht : Nat.beq (vCat w) 1 with
    | false => rw [ht] at h; cases h
    | true =>
      rw [ht] at h
      obtain ⟨n1, o, e, q⟩ := hK _ _ _ _ _ _ _ _ _ _ h hl R hlv hst.2
      refine ⟨n1, o, ?_, q⟩
      show (bif Nat.beq w'.category 1 then _ else _) = _
      rw [← hst.1.cat, ht]
      exact e
theorem vq_dup2 (hK : vK T P W Z m X K (gT_ Q j d)) (h : vI_dup2 K S pc lv st = some l) (hl : ∀ g ∈ l, vOkm T P m g) (R : vRt T P W Z m X ρ η S lh) (hlv : vRL T ρ S.1 lh lv lv') (hst : vRS T ρ S.1 lh st st') : gQ Q j d (fun K => gI_dup2 K pc lv' st' lh) := by
  unfold vI_dup2 at h
  match st, st', hst, h with
  | w :: r, w' :: r', hst, h =>
    dsimp only at h
    cases ht : Nat.beq (vCat w) 2 with
    | true =>
      rw [ht] at h
      obtain ⟨n1, o, e, q⟩ := hK _ _ _ _ _ _ _ _ _ _ h hl R hlv (show vRS T ρ S.1 lh (w :: w :: r) (w' :: w' :: r') from ⟨hst.1, hst.1, hst.2⟩)
      refine ⟨n1, o, ?_, q⟩
      show (bif Nat.beq w'.category 2 then _ else _) = _
      rw [← hst.1.cat, ht]
      exact e
    | false =>
      rw [ht] at h
      dsimp only [cond_false] at h
      match r, r', hst, h with
      | w2 :: r2, w2' :: r2', hst, h =>
        dsimp only at h
        cases ht2 : Nat.beq (vCat w2) 1 with
        | false => rw [ht2] at h; cases h
        | true =>
          rw [ht2] at h
          obtain ⟨n1, o, e, q⟩ := hK _ _ _ _ _ _ _ _ _ _ h hl R hlv (show vRS T ρ S.1 lh (w :: w2 :: w :: w2 :: r2) (w' :: w2' :: w' :: w2' :: r2') from ⟨hst.1, hst.2.1, hst.1, hst.2.1, hst.2.2⟩)
          refine ⟨n1, o, ?_, q⟩
          have hc1 : Nat.beq w'.category 1 = true := by
            rw [← hst.1.cat]
            unfold vCat at ht ⊢
            cases hb : Nat.beq w.1 1 with
            | true => rw [hb] at ht; cases ht
            | false => rfl
          show (bif Nat.beq w'.category 2 then _ else (bif Nat.beq w'.category 1 && Nat.beq w2'.category 1 then _ else _)) = _
          rw [← hst.1.cat, ht, hst.1.cat, hc1, ← hst.2.1.cat, ht2]
          exact e
theorem vHere_ok {N k : Nat} {w : vV} {v : Value} (h : vRel T ρ N lh w v) (hk : 0 ≤ ρ k) : vRel T ρ N lh (vHere k w) v := by
  unfold vHere
  cases hc : Nat.beq w.1 2 && Nat.beq w.2.1 k with
  | false => exact h
  | true =>
    rw [Bool.and_eq_true] at hc
    have e1 := Nat.eq_of_beq_eq_true hc.1
    have e2 := Nat.eq_of_beq_eq_true hc.2
    obtain ⟨h1, h2⟩ := h
    rw [e1] at h2
    refine ⟨h1, ?_⟩
    rcases h2 with ⟨-, z⟩ | h2
    · rw [e2] at z
      omega
    · exact h2
theorem vHere_L {N k : Nat} (hk : 0 ≤ ρ k) {l : vL} {g : gL} (h : vRL T ρ N lh l g) : vRL T ρ N lh (l.map fun q => (q.1, vHere k q.2)) g := fun q hq => by
  obtain ⟨r, h1, rfl⟩ := List.mem_map.mp hq
  obtain ⟨v, h2, h3⟩ := h r h1
  exact ⟨v, h2, vHere_ok h3 hk⟩
theorem vHere_S {N k : Nat} (hk : 0 ≤ ρ k) : ∀ {l : List vV} {g : List Value}, vRS T ρ N lh l g → vRS T ρ N lh (l.map (vHere k)) g := by
  intro l
  induction l with
  | nil => intro g h; exact h
  | cons a l ih => intro g h; cases g with
    | nil => exact h.elim
    | cons b g => exact ⟨vHere_ok h.1 hk, ih h.2⟩
theorem vq_ifnull {a0 : Nat} (hK : vK T P W Z m X K (gT_ Q j d)) (h : vI_null K S lv st a0 (pc + 3) = some l) (hl : ∀ g ∈ l, vOkm T P m g) (R : vRt T P W Z m X ρ η S lh) (hlv : vRL T ρ S.1 lh lv lv') (hst : vRS T ρ S.1 lh st st') : gQ Q j d (fun K => gI_ifnull K pc a0 lv' st' lh) := by
  unfold vI_null at h
  match st, st', hst, h with
  | (tg, x, kd, ln) :: r, x' :: r', hst, h =>
    dsimp only at h
    have hsc : ∀ k ∈ [x], k < S.1 := fun k hk => by
      rw [List.mem_singleton.mp hk]
      exact hst.1.1
    match tg, hst, h with
    | 2, hst, h =>
      obtain ⟨l1, l2, e1, e2, rfl⟩ := vApp_some h
      rcases hst.1.2 with ⟨z1, z2⟩ | ⟨i, z1, z2, z3⟩
      · rw [z1]
        exact hK _ _ _ _ _ _ _ _ _ _ e1 (fun g hg => hl g (List.mem_append_left _ hg)) (R.add ⟨⟨hsc, fun _ hk => nomatch hk⟩, z2⟩) hlv hst.2
      · rw [z1]
        have z4 : 0 ≤ ρ x := by
          have z5 : ρ x = (i : Int) := z2
          omega
        exact hK _ _ _ _ _ _ _ _ _ _ e2 (fun g hg => hl g (List.mem_append_right _ hg)) (R.add ⟨⟨hsc, fun _ hk => nomatch hk⟩, z4⟩) (vHere_L z4 hlv) (vHere_S z4 hst.2)
    | 3, hst, h =>
      obtain ⟨i, z1, z2, z3⟩ := hst.1.2
      rw [z1]
      exact hK _ _ _ _ _ _ _ _ _ _ h hl R hlv hst.2
    | 4, hst, h =>
      obtain ⟨z1, z2⟩ := hst.1.2
      rw [z1]
      exact hK _ _ _ _ _ _ _ _ _ _ h hl R hlv hst.2
theorem vq_ifnonnull {a0 : Nat} (hK : vK T P W Z m X K (gT_ Q j d)) (h : vI_null K S lv st (pc + 3) a0 = some l) (hl : ∀ g ∈ l, vOkm T P m g) (R : vRt T P W Z m X ρ η S lh) (hlv : vRL T ρ S.1 lh lv lv') (hst : vRS T ρ S.1 lh st st') : gQ Q j d (fun K => gI_ifnonnull K pc a0 lv' st' lh) := by
  unfold vI_null at h
  match st, st', hst, h with
  | (tg, x, kd, ln) :: r, x' :: r', hst, h =>
    dsimp only at h
    have hsc : ∀ k ∈ [x], k < S.1 := fun k hk => by
      rw [List.mem_singleton.mp hk]
      exact hst.1.1
    match tg, hst, h with
    | 2, hst, h =>
      obtain ⟨l1, l2, e1, e2, rfl⟩ := vApp_some h
      rcases hst.1.2 with ⟨z1, z2⟩ | ⟨i, z1, z2, z3⟩
      · rw [z1]
        exact hK _ _ _ _ _ _ _ _ _ _ e1 (fun g hg => hl g (List.mem_append_left _ hg)) (R.add ⟨⟨hsc, fun _ hk => nomatch hk⟩, z2⟩) hlv hst.2
      · rw [z1]
        have z4 : 0 ≤ ρ x := by
          have z5 : ρ x = (i : Int) := z2
          omega
        exact hK _ _ _ _ _ _ _ _ _ _ e2 (fun g hg => hl g (List.mem_append_right _ hg)) (R.add ⟨⟨hsc, fun _ hk => nomatch hk⟩, z4⟩) (vHere_L z4 hlv) (vHere_S z4 hst.2)
    | 3, hst, h =>
      obtain ⟨i, z1, z2, z3⟩ := hst.1.2
      rw [z1]
      exact hK _ _ _ _ _ _ _ _ _ _ h hl R hlv hst.2
    | 4, hst, h =>
      obtain ⟨z1, z2⟩ := hst.1.2
      rw [z1]
      exact hK _ _ _ _ _ _ _ _ _ _ h hl R hlv hst.2
theorem isA.obj {k : Nat} {n : Int} {i : Nat} (h : isA T lh k n i) (hk : k < 100) : ∃ F, lh[i]? = some (.inl (k, F)) ∧ hN lh i = gN k ∧ ∀ f, hVal lh i f = F f := by
  have h1 := h.2.1.1
  unfold hK at h1
  cases hc : lh[i]? with
  | none => rw [hc] at h1; exact absurd h1.symm h.1.1
  | some c =>
    rw [hc] at h1
    cases c with
    | inl x =>
      obtain ⟨c, F⟩ := x
      dsimp only at h1
      split at h1
      · subst h1
        exact ⟨F, rfl, by unfold hN; rw [hc], fun f => by unfold hVal; rw [hc]⟩
      · exact absurd h1.symm h.1.1
    | inr y =>
      dsimp only at h1
      split at h1
      · omega
      · exact absurd h1.symm h.1.1
theorem isA.row {k : Nat} {n : Int} {i : Nat} (h : isA T lh k n i) (hk : 100 ≤ k) : ∃ F, lh[i]? = some (.inr (Nat.mod (k - 100) 8, hN lh i, F)) ∧ ∀ f, hVal lh i f = F f := by
  have h1 := h.2.1.1
  unfold hK at h1
  cases hc : lh[i]? with
  | none => rw [hc] at h1; exact absurd h1.symm h.1.1
  | some c =>
    rw [hc] at h1
    cases c with
    | inl x =>
      dsimp only at h1
      split at h1
      · omega
      · exact absurd h1.symm h.1.1
    | inr y =>
      obtain ⟨q, z, F⟩ := y
      dsimp only at h1
      split at h1
      · refine ⟨F, ?_, fun f => by unfold hVal; rw [hc]⟩
        have e : hN lh i = z := by unfold hN; rw [hc]
        have e2 : Nat.mod (k - 100) 8 = q := by
          show (k - 100) % 8 = q
          omega
        rw [e, e2]
      · exact absurd h1.symm h.1.1
theorem isA.wk {k : Nat} {n : Int} {i : Nat} (h : isA T lh k n i) : isA T lh k (((n + 1).toNat : Int) - 1) i := by
  refine ⟨h.1, h.2.1, ?_, h.2.2.2⟩
  rcases h.2.2.1 with z | z
  · exact .inl (by omega)
  · by_cases hn : n < 0
    · exact .inl (by omega)
    · refine .inr ?_
      rw [show ((n + 1).toNat : Int) - 1 = n by omega]
      exact z
theorem vOut_at {t : vT} {v : Value} {n N : Nat} (h : vOK T lh t v) (hn : t.2.2.2 ≠ 0 → v ≠ .null) (hN : n < N) (hr : ρ n = vI v) : vRel T ρ N lh (vOut t n) v := by
  obtain ⟨t1, a, b, nn⟩ := t
  have gen : (v = .null ∨ ∃ i, v = .ref i ∧ isA T lh a.toNat b i ∧ (2 ≤ nn → i = nn - 2)) → vRel T ρ N lh (bif Nat.beq nn 0 then 2 else 3, n, a.toNat, (b + 1).toNat) v := fun h => by
    rcases h with rfl | ⟨i, rfl, h1, h2⟩
    · cases hq : Nat.beq nn 0 with
      | true => exact ⟨hN, .inl ⟨rfl, hr⟩⟩
      | false => exact absurd rfl (hn (Nat.ne_of_beq_eq_false hq))
    · cases hq : Nat.beq nn 0 with
      | true => exact ⟨hN, .inr ⟨i, rfl, hr, h1.wk⟩⟩
      | false => exact ⟨hN, i, rfl, hr, h1.wk⟩
  unfold vOut
  match t1, h with
  | 0, ⟨x, e, _⟩ => rw [e] at hr ⊢; exact ⟨hN, x, rfl, hr⟩
  | 1, ⟨x, e⟩ => rw [e] at hr ⊢; exact ⟨hN, x, rfl, hr⟩
  | 2, h => exact gen h
  | 3, ⟨i, e, h1⟩ =>
    rw [e] at hr ⊢
    exact ⟨hN, i, rfl, hr, h1.wk⟩
  | t + 4, h => exact gen h
theorem vOut_ok {t : vT} {v : Value} {N : Nat} (h : vOK T lh t v) (hn : t.2.2.2 ≠ 0 → v ≠ .null) : vRel T (vUp ρ N (vI v)) (N + 1) lh (vOut t N) v := vOut_at h hn (Nat.lt_succ_self _) (vUp_at _ _ _)
theorem vRng_at {t : vT} {v : Value} {n N h0 : Nat} (h : vOK T lh t v) (hn : t.2.2.2 ≠ 0 → v ≠ .null) (hN : n < N) (hr : ρ n = vI v) : ∀ f ∈ vRng t n, ((∀ k ∈ f.2.1, k < N) ∧ ∀ h ∈ f.2.2.1, h ≤ h0) ∧ fD T P ρ η f := by
  obtain ⟨t1, a, b, nn⟩ := t
  intro f hf
  have hsc : ∀ k ∈ [n], k < N := fun k hk => by
    rw [List.mem_singleton.mp hk]
    exact hN
  unfold vRng at hf
  cases hc : Nat.beq t1 0 with
  | true =>
    have e := Nat.eq_of_beq_eq_true hc
    subst e
    obtain ⟨x, rfl, q1, q2⟩ := h
    rcases List.mem_cons.mp hf with rfl | hf
    · exact ⟨⟨hsc, fun _ hk => nomatch hk⟩, by show a ≤ ρ n; rw [hr]; exact q1⟩
    · rw [List.mem_singleton.mp hf]
      exact ⟨⟨hsc, fun _ hk => nomatch hk⟩, by show ρ n ≤ b; rw [hr]; exact q2⟩
  | false =>
    dsimp only at hf
    rw [hc] at hf
    cases hd : Nat.beq t1 2 && Nat.ble 2 nn with
    | false =>
      rw [hd] at hf
      cases he : Nat.beq t1 3 && (decide (a < 100) && decide (0 ≤ b)) with
      | false =>
        rw [he] at hf
        cases hg : Nat.beq t1 3 || (Nat.beq t1 2 && Nat.beq nn 1) with
        | false => rw [hg] at hf; cases hf
        | true =>
          rw [hg] at hf
          rw [Bool.or_eq_true, Bool.and_eq_true] at hg
          rw [List.mem_singleton.mp hf]
          refine ⟨⟨hsc, fun _ hk => nomatch hk⟩, ?_⟩
          show 0 ≤ ρ n
          rw [hr]
          rcases hg with hg | hg
          · have e := Nat.eq_of_beq_eq_true hg
            subst e
            obtain ⟨i, rfl, h1⟩ := h
            show 0 ≤ (i : Int)
            omega
          · have e := Nat.eq_of_beq_eq_true hg.1
            have e2 := Nat.eq_of_beq_eq_true hg.2
            subst e
            rcases h with rfl | ⟨i, rfl, h1, h2⟩
            · exact absurd rfl (hn (by show nn ≠ 0; omega))
            · show 0 ≤ (i : Int)
              omega
      | true =>
        rw [he] at hf
        rw [Bool.and_eq_true, Bool.and_eq_true, decide_eq_true_eq, decide_eq_true_eq] at he
        obtain ⟨e1, e2, e3⟩ := he
        have e := Nat.eq_of_beq_eq_true e1
        subst e
        rw [List.mem_singleton.mp hf]
        refine ⟨⟨hsc, fun _ hk => nomatch hk⟩, ?_⟩
        obtain ⟨i, rfl, h1⟩ := h
        show ρ n = b
        rw [hr]
        rcases h1.2.2.1 with z | z
        · have z2 : b < 0 := z
          omega
        · rw [if_pos (by show a.toNat < 100; omega)] at z
          exact z
    | true =>
      rw [hd] at hf
      rw [Bool.and_eq_true] at hd
      have e := Nat.eq_of_beq_eq_true hd.1
      subst e
      have hn2 := Nat.le_of_ble_eq_true hd.2
      rw [List.mem_singleton.mp hf]
      refine ⟨⟨hsc, fun _ hk => nomatch hk⟩, ?_⟩
      show ρ n = ((nn - 2 : Nat) : Int)
      rw [hr]
      rcases h with rfl | ⟨i, rfl, h1, h2⟩
      · exact absurd rfl (hn (by show nn ≠ 0; omega))
      · show (i : Int) = _
        rw [h2 hn2]
theorem vRng_ok {t : vT} {v : Value} {N h0 : Nat} (h : vOK T lh t v) (hn : t.2.2.2 ≠ 0 → v ≠ .null) : ∀ f ∈ vRng t N, ((∀ k ∈ f.2.1, k < N + 1) ∧ ∀ h ∈ f.2.2.1, h ≤ h0) ∧ fD T P (vUp ρ N (vI v)) η f := vRng_at h hn (Nat.lt_succ_self _) (vUp_at _ _ _)
theorem vKind {ρ' : Nat → Int} {x kd i : Nat} {n : Int} (hx : ρ' x = ρ x) (R : vRt T P W Z m X ρ η S lh) (z2 : ρ x = (i : Int)) (z3 : isA T lh kd n i) : fD T P ρ' η (23, [x], [S.2.1], (kd : Int)) := by
  show hKof (η S.2.1) (ρ' x).toNat = (kd : Int).toNat
  rw [hx, R.2.1, z2, Int.toNat_natCast, Int.toNat_natCast]
  exact z3.2.1.1
theorem vq_get {a b : Nat} (hK : vK T P W Z m X K (gT_ Q j d)) (h : vI_get T K S pc a b lv st = some l) (hl : ∀ g ∈ l, vOkm T P m g) (R : vRt T P W Z m X ρ η S lh) (hlv : vRL T ρ S.1 lh lv lv') (hst : vRS T ρ S.1 lh st st') : gQ Q j d (fun K => gI_get K pc a b lv' st' lh) := by
  unfold vI_get at h
  match st, st', hst, h with
  | (tg, x, kd, ln) :: r, x' :: r', hst, h =>
    dsimp only at h
    cases ht : Nat.beq tg 3 && (Nat.beq kd a && (Nat.blt a 100 && Nat.blt b (gN a))) with
    | false => rw [ht] at h; cases h
    | true =>
      rw [ht] at h
      simp only [Bool.and_eq_true] at ht
      obtain ⟨t1, t2, t3, t4⟩ := ht
      have e1 := Nat.eq_of_beq_eq_true t1
      have e2 := Nat.eq_of_beq_eq_true t2
      subst e1 e2
      obtain ⟨hx, i, rfl, z2, z3⟩ := hst.1
      obtain ⟨F, q1, q2, q3⟩ := z3.obj (Nat.blt_eq.mp t3)
      dsimp only [cond_true] at h
      unfold vNew at h
      rw [fNat_eq] at h
      have hb : b < hN lh i := by rw [q2]; exact Nat.blt_eq.mp t4
      have hv := R.2.2.1.2 i b z3.lt hb
      rw [z3.2.1.1, q3] at hv
      have hnn : (T kd b).2.2.2 ≠ 0 → F b ≠ .null := fun z => by
        rw [← q3]
        exact z3.2.2.2 b hb z
      have R2 := R.new (x := vI (F b)) (fs := (20, [S.1, x], [S.2.1], (b : Int)) :: (23, [x], [S.2.1], (kd : Int)) :: vRng (T kd b) S.1) (fun f hf => by
        rcases List.mem_cons.mp hf with rfl | hf
        · refine ⟨⟨fun k hk => ?_, fun k hk => ?_⟩, ?_⟩
          · rcases List.mem_cons.mp hk with rfl | hk
            · exact Nat.lt_succ_self _
            · rw [List.mem_singleton.mp hk]
              exact Nat.lt_succ_of_lt hx
          · rw [List.mem_singleton.mp hk]
            exact Nat.le_refl _
          · show vUp ρ S.1 _ S.1 = hV (η S.2.1) (vUp ρ S.1 _ x).toNat (b : Int).toNat
            rw [vUp_at, vUp_lt hx, R.2.1, show ρ x = (i : Int) from z2, Int.toNat_natCast, Int.toNat_natCast]
            unfold hV
            rw [q3]
        · rcases List.mem_cons.mp hf with rfl | hf
          · refine ⟨⟨fun k hk => ?_, fun k hk => ?_⟩, vKind (vUp_lt hx) R z2 z3⟩
            · rw [List.mem_singleton.mp hk]
              exact Nat.lt_succ_of_lt hx
            · rw [List.mem_singleton.mp hk]
              exact Nat.le_refl _
          · exact vRng_ok hv hnn f hf)
      obtain ⟨n1, o, e, q⟩ := hK _ _ _ _ _ _ _ _ _ _ h hl R2 hlv.new (show vRS T _ (S.1 + 1) lh (vOut (T kd b) S.1 :: r) (F b :: r') from ⟨vOut_ok hv hnn, hst.2.new⟩)
      refine ⟨n1, o, ?_, q⟩
      show gI_get _ _ _ _ _ _ _ = _
      unfold gI_get
      dsimp only
      rw [q1]
      dsimp only
      rw [show Nat.beq kd kd = true from Nat.beq_refl kd]
      exact e
end VTWO
