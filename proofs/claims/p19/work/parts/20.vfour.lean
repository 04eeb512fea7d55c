/-! THE GENERATOR IS SOUND, on: rows (printed by wip/gen/gen20v.py). -/
section VFOUR
variable {T : Nat → Nat → vT} {P : vP} {m : Nat} {K : vS → Nat → vL → List vV → vR} {Q : gO → Prop} {j d : Nat} {ρ : Nat → Int} {η : Nat → gH} {S : vS} {pc : Nat} {lv : vL} {st : List vV} {lv' : gL} {st' : List Value} {lh : gH} {l : List vG}
theorem fAny_ok {α : Type} {f : α → Bool} {l : List α} (h : fAny f l = true) : ∃ a, a ∈ l ∧ f a = true := by
  induction l with
  | nil => cases h
  | cons a l ih =>
    replace h : (bif f a then true else fAny f l) = true := h
    cases hq : f a with
    | true => exact ⟨a, List.mem_cons_self, hq⟩
    | false =>
      rw [hq] at h
      obtain ⟨b, h1, h2⟩ := ih h
      exact ⟨b, List.mem_cons_of_mem _ h1, h2⟩
theorem vEqF_ok {f g : vF} (h : vEqF f g = true) : f = g := by
  obtain ⟨a, b, c, e⟩ := f
  obtain ⟨a', b', c', e'⟩ := g
  unfold vEqF at h
  simp only [Bool.and_eq_true, decide_eq_true_eq] at h
  obtain ⟨h1, h2, h3, h4⟩ := h
  have h5 := Nat.eq_of_beq_eq_true h1
  subst h2 h3 h4 h5
  rfl
theorem hN_ge {lh : gH} {q : Nat} (h : lh.length ≤ q) : hN lh q = 0 := by
  unfold hN
  rw [List.getElem?_eq_none h]
theorem vBnd_ok {i r n q : Nat} (h : vBnd S.2.2 i r n = true) (R : vRt T P ρ η S lh) (hr : ρ r = (q : Int)) (hn : 1 ≤ n → (hN lh q : Int) = n - 1) : 0 ≤ ρ i ∧ ρ i < (hN lh q : Int) := by
  unfold vBnd at h
  rw [Bool.or_eq_true] at h
  rcases h with h | h
  · rw [Bool.and_eq_true] at h
    obtain ⟨f, hf, hf2⟩ := fAny_ok h.1
    rw [vEqF_ok hf2] at hf
    have p0 : 0 ≤ ρ i := (R.1 _ hf).2
    refine ⟨p0, ?_⟩
    obtain ⟨f, hf, hf2⟩ := fAny_ok h.2
    split at hf2
    · rename_i a1 a2 a3
      rw [Bool.and_eq_true] at hf2
      obtain ⟨g, hg, hg2⟩ := fAny_ok hf2.2
      split at hg2
      · rename_i b1 b2 b3 b4
        rw [Bool.and_eq_true] at hg2
        have e1 := Nat.eq_of_beq_eq_true hf2.1
        have e2 := Nat.eq_of_beq_eq_true hg2.1
        have e3 := Nat.eq_of_beq_eq_true hg2.2
        subst e1 e2 e3
        have p1 : ρ _ < ρ _ := (R.1 _ hf).2
        have p2 : ρ _ = (hN (η _) (ρ _).toNat : Int) := (R.1 _ hg).2
        have p3 := (R.1 _ hg).1.2 _ List.mem_cons_self
        rw [hr, Int.toNat_natCast] at p2
        rw [p2] at p1
        rcases Nat.lt_or_ge q (η b3).length with h9 | h9
        · have h8 := ((R.2.2.2 _ p3).2 q h9).2.1
          rw [h8]
          exact p1
        · rw [hN_ge h9] at p1
          omega
      · cases hg2
    · cases hf2
  · rw [Bool.and_eq_true] at h
    obtain ⟨f, hf, hf2⟩ := fAny_ok h.2
    split at hf2
    · simp only [Bool.and_eq_true, decide_eq_true_eq] at hf2
      have e1 := Nat.eq_of_beq_eq_true hf2.1
      subst e1
      rename_i _ _ c0
      have p1 : ρ _ = c0 := (R.1 _ hf).2
      have p2 := hn (Nat.le_of_ble_eq_true h.1)
      rw [p1, p2]
      omega
    · cases hf2
theorem vRow_ok {x i : vV} {r : vR} {q : Nat} (h : vRow S x i r = some l) (hl : ∀ g ∈ l, vOkm T P m g) (R : vRt T P ρ η S lh) (hr : ρ x.2.1 = (q : Int)) (ha : isA T lh x.2.2.1 ((x.2.2.2 : Int) - 1) q) (hk : 100 ≤ x.2.2.1) : ∃ l', r = some l' ∧ (∀ g ∈ l', vOkm T P m g) ∧ 0 ≤ ρ i.2.1 ∧ ρ i.2.1 < (hN lh q : Int) := by
  have hn : 1 ≤ x.2.2.2 → (hN lh q : Int) = x.2.2.2 - 1 := fun z => by
    rcases ha.2.2.1 with y | y
    · omega
    · rw [if_neg (by omega)] at y
      exact y
  unfold vRow at h
  cases hb : vBnd S.2.2 i.2.1 x.2.1 x.2.2.2 with
  | true =>
    rw [hb] at h
    exact ⟨l, h, hl, vBnd_ok hb R hr hn⟩
  | false =>
    rw [hb] at h
    dsimp only [cond_false] at h
    cases hc : Nat.ble 1 x.2.2.2 with
    | true =>
      rw [hc] at h
      obtain ⟨l', h, hl, g⟩ := vGoal_ok h rfl hl R
      have hz := Nat.le_of_ble_eq_true hc
      have g1 : 0 ≤ ρ i.2.1 ∧ ρ i.2.1 < ((x.2.2.2 - 1 : Nat) : Int) := g
      refine ⟨l', h, hl, g1.1, ?_⟩
      rw [hn hz]
      omega
    | false =>
      rw [hc] at h
      obtain ⟨l', h, hl, g⟩ := vGoal_ok h rfl hl R
      have g1 : 0 ≤ ρ i.2.1 ∧ ρ i.2.1 < (hN (η S.2.1) (ρ x.2.1).toNat : Int) := g
      rw [R.2.1, hr, Int.toNat_natCast] at g1
      exact ⟨l', h, hl, g1⟩
theorem hIn_ok {x : Int32} {n : Nat} (h1 : 0 ≤ x.toInt) (h2 : x.toInt < (n : Int)) : gIn x n = true := by
  unfold gIn
  have h3 : ¬ x < 0 := fun z => by
    have h4 := Int32.lt_iff_toInt_lt.mp z
    have h5 : (0 : Int32).toInt = 0 := rfl
    omega
  rw [decide_eq_false h3]
  show Nat.blt x.toInt.toNat n = true
  exact Nat.blt_eq.mpr (by omega)
theorem vRel.row {N : Nat} {w : vV} {v : Value} (h : vRel T ρ N lh w v) (hw : Nat.beq w.1 3 = true) : ∃ i : Nat, v = .ref i ∧ ρ w.2.1 = (i : Int) ∧ isA T lh w.2.2.1 ((w.2.2.2 : Int) - 1) i := by
  have e := Nat.eq_of_beq_eq_true hw
  have h2 := h.2
  rw [e] at h2
  exact h2
theorem vq_iast (hT : T 100 = fun _ => (0, -2147483648, 2147483647, 0)) (hk0 : vK T P m K (gT_ Q j d)) (h : vI_iast K S pc lv st = some l) (hl : ∀ g ∈ l, vOkm T P m g) (R : vRt T P ρ η S lh) (hlv : vRL T ρ S.1 lh lv lv') (hst : vRS T ρ S.1 lh st st') : gQ Q j d (fun K => gI_ist K pc lv' st' lh (fun t => Nat.beq t 0) (fun _ w => .int w)) := by
  unfold vI_iast at h
  match st, st', hst, h with
  | w :: i :: x :: r, w' :: i' :: x' :: r', hst, h =>
    dsimp only at h
    cases ht : Nat.beq x.1 3 && (vIsI i && (vIsI w && Nat.beq x.2.2.1 100)) with
    | false => rw [ht] at h; cases h
    | true =>
      rw [ht] at h
      simp only [Bool.and_eq_true] at ht
      obtain ⟨t1, t2, t3, t4⟩ := ht
      have e4 := Nat.eq_of_beq_eq_true t4
      obtain ⟨y, rfl, hy⟩ := hst.2.1.int t2
      obtain ⟨u, rfl, hu⟩ := hst.1.int t3
      obtain ⟨q, rfl, z2, z3⟩ := hst.2.2.1.row t1
      dsimp only [cond_true] at h
      obtain ⟨l', h, hl, b1, b2⟩ := vRow_ok h hl R z2 z3 (by omega)
      obtain ⟨F, q1, q3⟩ := z3.row (by omega)
      rw [hy] at b1 b2
      unfold vSet at h
      rw [fNat_eq] at h
      have e6 : T (hK lh q) y.toNatClampNeg = (0, -2147483648, 2147483647, 0) := by rw [z3.2.1.1, e4, hT]
      have hok : vOK T lh (T (hK lh q) y.toNatClampNeg) (.int u) := by
        rw [e6]
        have a1 := Int32.le_toInt u
        have a2 := Int32.toInt_lt u
        exact ⟨u, rfl, by show -2147483648 ≤ u.toInt; omega, by show u.toInt ≤ 2147483647; omega⟩
      have R3 := R.set (o := q) (i := y.toNatClampNeg) (on := x.2.1) (inn := i.2.1) (wn := w.2.1) (w := .int u) (tg := 0) z3.lt (by rw [e6]) hok (fun k hk => by
        have h7 := hst.2.2.1.1
        have h8 := hst.2.1.1
        have h9 := hst.1.1
        rcases List.mem_cons.mp hk with rfl | hk
        · exact h7
        · rcases List.mem_cons.mp hk with rfl | hk
          · exact h8
          · rw [List.mem_singleton.mp hk]
            exact h9) (by rw [z2]; exact Int.toNat_natCast q) (by rw [hy]; rfl) (by show Value.int (Int32.ofInt (ρ w.2.1)) = _; rw [hu, of32]) (by decide)
      have hle := hLe.set (T := T) (i := y.toNatClampNeg) (w := .int u) z3.lt (show (T (hK lh q) y.toNatClampNeg).2.2.2 = 0 by rw [e6])
      obtain ⟨n1, o, e, q0⟩ := hk0 _ _ _ _ _ _ _ _ _ _ h hl R3 (hlv.heap hle) (hst.2.2.2.heap hle)
      refine ⟨n1, o, ?_, q0⟩
      have e7 : hSet lh q y.toNatClampNeg (.int u) = lh.set q (.inr (x.2.2.1 - 100, hN lh q, gup F y.toNatClampNeg (.int u))) := by
        unfold hSet
        rw [q1]
      rw [e7] at e
      show gI_ist _ _ _ _ _ _ _ = _
      unfold gI_ist
      dsimp only
      rw [q1]
      dsimp only
      rw [show (Nat.beq (x.2.2.1 - 100) 0 && (gIn y (hN lh q) && Nat.ble 7 q)) = true by
        simp only [Bool.and_eq_true]
        exact ⟨by rw [e4]; rfl, hIn_ok b1 b2, Nat.ble_eq.mpr z3.1.2⟩]
      exact e
end VFOUR
