/-! THE GENERATOR IS SOUND, on: rows (printed by wip/gen/gen20v.py). -/
section VFOUR
variable {T : Nat → Nat → vT} {P : vP} {W : List (Nat × Nat)} {Z : Bool} {m : Nat} {X : (Nat → Int) × gH} {K : vS → Nat → vL → List vV → vR} {Q : gO → Prop} {j d : Nat} {ρ : Nat → Int} {η : Nat → gH} {S : vS} {pc : Nat} {lv : vL} {st : List vV} {lv' : gL} {st' : List Value} {lh : gH} {l : List vG}
theorem vEqF_ok {f g : vF} (h : vEqF f g = true) : f = g := by
  obtain ⟨a, b, c, e⟩ := f
  obtain ⟨a', b', c', e'⟩ := g
  unfold vEqF at h
  simp only [Bool.and_eq_true, decide_eq_true_eq] at h
  obtain ⟨h1, h2, h3, h4⟩ := h
  have h5 := Nat.eq_of_beq_eq_true h1
  subst h2 h3 h4 h5
  rfl
theorem hN_ge {lh : gH} {q : Nat} (h : lh.length ≤ q) : hN lh q = 0 := by
  unfold hN
  rw [List.getElem?_eq_none h]
theorem vBnd_ok {i r n q : Nat} (h : vBnd S.2.2 i r n = true) (R : vRt T P W Z m X ρ η S lh) (hr : ρ r = (q : Int)) (hn : 1 ≤ n → (hN lh q : Int) = n - 1) : 0 ≤ ρ i ∧ ρ i < (hN lh q : Int) := by
  unfold vBnd at h
  rw [Bool.or_eq_true] at h
  rcases h with h | h
  · rw [Bool.and_eq_true] at h
    obtain ⟨f, hf, hf2⟩ := fAny_ok h.1
    rw [vEqF_ok hf2] at hf
    have p0 : 0 ≤ ρ i := (R.1 _ hf).2
    refine ⟨p0, ?_⟩
    obtain ⟨f, hf, hf2⟩ := fAny_ok h.2
    split at hf2
    · rename_i a1 a2 a3
      rw [Bool.and_eq_true] at hf2
      obtain ⟨g, hg, hg2⟩ := fAny_ok hf2.2
      split at hg2
      · rename_i b1 b2 b3 b4
        rw [Bool.and_eq_true] at hg2
        have e1 := Nat.eq_of_beq_eq_true hf2.1
        have e2 := Nat.eq_of_beq_eq_true hg2.1
        have e3 := Nat.eq_of_beq_eq_true hg2.2
        subst e1 e2 e3
        have p1 : ρ _ < ρ _ := (R.1 _ hf).2
        have p2 : ρ _ = (hN (η _) (ρ _).toNat : Int) := (R.1 _ hg).2
        have p3 := (R.1 _ hg).1.2 _ List.mem_cons_self
        rw [hr, Int.toNat_natCast] at p2
        rw [p2] at p1
        rcases Nat.lt_or_ge q (η b3).length with h9 | h9
        · have h8 := ((R.2.2.2.1 _ p3).1.2 q h9).2.1
          rw [h8]
          exact p1
        · rw [hN_ge h9] at p1
          omega
      · cases hg2
    · cases hf2
  · rw [Bool.and_eq_true] at h
    obtain ⟨f, hf, hf2⟩ := fAny_ok h.2
    split at hf2
    · simp only [Bool.and_eq_true, decide_eq_true_eq] at hf2
      have e1 := Nat.eq_of_beq_eq_true hf2.1
      subst e1
      rename_i _ _ c0
      have p1 : ρ _ = c0 := (R.1 _ hf).2
      have p2 := hn (Nat.le_of_ble_eq_true h.1)
      rw [p1, p2]
      omega
    · cases hf2
theorem vRow_ok {x i : vV} {r : vR} {q : Nat} (h : vRow S x i r = some l) (hl : ∀ g ∈ l, vOkm T P m g) (R : vRt T P W Z m X ρ η S lh) (hr : ρ x.2.1 = (q : Int)) (ha : isA T lh x.2.2.1 ((x.2.2.2 : Int) - 1) q) (hk : 100 ≤ x.2.2.1) : ∃ l', r = some l' ∧ (∀ g ∈ l', vOkm T P m g) ∧ 0 ≤ ρ i.2.1 ∧ ρ i.2.1 < (hN lh q : Int) := by
  have hn : 1 ≤ x.2.2.2 → (hN lh q : Int) = x.2.2.2 - 1 := fun z => by
    rcases ha.2.2.1 with y | y
    · omega
    · rw [if_neg (by omega)] at y
      exact y
  unfold vRow at h
  cases hb : vBnd S.2.2 i.2.1 x.2.1 x.2.2.2 with
  | true =>
    rw [hb] at h
    exact ⟨l, h, hl, vBnd_ok hb R hr hn⟩
  | false =>
    rw [hb] at h
    dsimp only [cond_false] at h
    cases hc : Nat.ble 1 x.2.2.2 with
    | true =>
      rw [hc] at h
      obtain ⟨l', h, hl, g⟩ := vGoal_ok h rfl hl R
      have hz := Nat.le_of_ble_eq_true hc
      have g1 : 0 ≤ ρ i.2.1 ∧ ρ i.2.1 < ((x.2.2.2 - 1 : Nat) : Int) := g
      refine ⟨l', h, hl, g1.1, ?_⟩
      rw [hn hz]
      omega
    | false =>
      rw [hc] at h
      obtain ⟨l', h, hl, g⟩ := vGoal_ok h rfl hl R
      have g1 : 0 ≤ ρ i.2.1 ∧ ρ i.2.1 < (hN (η S.2.1) (ρ x.2.1).toNat : Int) := g
      rw [R.2.1, hr, Int.toNat_natCast] at g1
      exact ⟨l', h, hl, g1⟩
theorem hIn_ok {x : Int32} {n : Nat} (h1 : 0 ≤ x.toInt) (h2 : x.toInt < (n : Int)) : gIn x n = true := by
  unfold gIn
  have h3 : ¬ x < 0 := fun z => by
    have h4 := Int32.lt_iff_toInt_lt.mp z
    have h5 : (0 : Int32).toInt = 0 := rfl
    omega
  rw [decide_eq_false h3]
  show Nat.blt x.toInt.toNat n = true
  exact Nat.blt_eq.mpr (by omega)
theorem vRel.row {N : Nat} {w : vV} {v : Value} (h : vRel T ρ N lh w v) (hw : Nat.beq w.1 3 = true) : ∃ i : Nat, v = .ref i ∧ ρ w.2.1 = (i : Int) ∧ isA T lh w.2.2.1 ((w.2.2.2 : Int) - 1) i := by
  have e := Nat.eq_of_beq_eq_true hw
  have h2 := h.2
  rw [e] at h2
  exact h2
theorem vq_iast (hT : ∀ k i, 100 ≤ k → T k i = T k 0) (hk0 : vK T P W Z m X K (gT_ Q j d)) (h : vI_iast T W K S pc lv st = some l) (hl : ∀ g ∈ l, vOkm T P m g) (R : vRt T P W Z m X ρ η S lh) (hlv : vRL T ρ S.1 lh lv lv') (hst : vRS T ρ S.1 lh st st') : gQ Q j d (fun K => gI_ist K pc lv' st' lh (fun t => Nat.beq t 0) (fun _ w => .int w)) := by
  unfold vI_iast at h
  match st, st', hst, h with
  | w :: i :: x :: r, w' :: i' :: x' :: r', hst, h =>
    dsimp only at h
    cases ht : Nat.beq x.1 3 && (vIsI i && (vIsI w && (Nat.ble 100 x.2.2.1 && (Nat.beq (Nat.mod (x.2.2.1 - 100) 8) 0 && (!(Nat.beq x.2.2.1 108) && (vFits (T x.2.2.1 0) w && (Nat.beq (T x.2.2.1 0).2.2.2 0 && vLoc W x.2.2.1 0))))))) with
    | false => rw [ht] at h; cases h
    | true =>
      rw [ht] at h
      simp only [Bool.and_eq_true] at ht
      obtain ⟨t1, t2, t3, t4, t5, t6, t7, t8, t9⟩ := ht
      have e4 := Nat.le_of_ble_eq_true t4
      have e8 := Nat.eq_of_beq_eq_true t8
      have e6n : x.2.2.1 ≠ 108 := fun z => by rw [z] at t6; cases t6
      obtain ⟨y, rfl, hy⟩ := hst.2.1.int t2
      obtain ⟨u, rfl, hu⟩ := hst.1.int t3
      obtain ⟨q, rfl, z2, z3⟩ := hst.2.2.1.row t1
      dsimp only [cond_true] at h
      obtain ⟨l', h, hl, b1, b2⟩ := vRow_ok h hl R z2 z3 e4
      obtain ⟨F, q1, q3⟩ := z3.row e4
      obtain ⟨l2, h, hl, hbd⟩ := vBounds_ok h t7 hst.1 hl R
      rw [hy] at b1 b2
      unfold vSet at h
      rw [fNat_eq] at h
      have e6 : T (hK lh q) y.toNatClampNeg = T x.2.2.1 0 := by rw [z3.2.1.1, hT _ _ e4]
      have hok : vOK T lh (T (hK lh q) y.toNatClampNeg) (.int u) := by
        rw [e6]
        exact vFits_ok t7 hst.1 e8 hbd
      have hW : vLoc W (hK lh q) y.toNatClampNeg = true := by rw [z3.2.1.1, vLoc_row e4 _ 0]; exact t9
      have R9 := R.add (f := (23, [x.2.1], [S.2.1], (x.2.2.1 : Int))) ⟨⟨fun k hk => by rw [List.mem_singleton.mp hk]; exact hst.2.2.1.1, fun k hk => by rw [List.mem_singleton.mp hk]; exact Nat.le_refl _⟩, vKind rfl R z2 z3⟩
      have R3 := R9.set (o := q) (i := y.toNatClampNeg) (on := x.2.1) (inn := i.2.1) (wn := w.2.1) (w := .int u) (tg := 0) z3.lt (by rw [e6]; exact e8) hok hW (fun k hk => by
        have h7 := hst.2.2.1.1
        have h8 := hst.2.1.1
        have h9 := hst.1.1
        rcases List.mem_cons.mp hk with rfl | hk
        · exact h7
        · rcases List.mem_cons.mp hk with rfl | hk
          · exact h8
          · rw [List.mem_singleton.mp hk]
            exact h9) z2 (by rw [hy]; show y.toInt = ((y.toInt.toNat : Nat) : Int); omega) hst.1.val
      have hle := hLe.set (T := T) (i := y.toNatClampNeg) (w := .int u) z3.lt (show (T (hK lh q) y.toNatClampNeg).2.2.2 = 0 by rw [e6]; exact e8)
      obtain ⟨n1, o, e, q0⟩ := hk0 _ _ _ _ _ _ _ _ _ _ h hl R3 (hlv.heap hle) (hst.2.2.2.heap hle)
      refine ⟨n1, o, ?_, q0⟩
      have e7 : hSet lh q y.toNatClampNeg (.int u) = lh.set q (.inr (Nat.mod (x.2.2.1 - 100) 8, hN lh q, gup F y.toNatClampNeg (.int u))) := by
        unfold hSet
        rw [q1]
      rw [e7] at e
      show gI_ist _ _ _ _ _ _ _ = _
      unfold gI_ist
      dsimp only
      rw [q1]
      dsimp only
      rw [show (Nat.beq (Nat.mod (x.2.2.1 - 100) 8) 0 && (gIn y (hN lh q) && Nat.ble 7 q)) = true by
        simp only [Bool.and_eq_true]
        exact ⟨t5, hIn_ok b1 b2, Nat.ble_eq.mpr (z3.1.2 e6n)⟩]
      exact e
theorem and1_ok (u : Int32) : 0 ≤ (u &&& 1).toInt ∧ (u &&& 1).toInt ≤ 1 := by
  have h1 : (u &&& 1).toBitVec.toNat = u.toBitVec.toNat % 2 := by
    rw [Int32.toBitVec_and, BitVec.toNat_and]
    exact Nat.and_one_is_mod _
  have h2 : (u &&& 1).toInt = ((u &&& 1).toBitVec.toNat : Int) := by
    rw [← Int32.toInt_toBitVec]
    exact BitVec.toInt_eq_toNat_of_lt (by rw [h1]; omega)
  rw [h2, h1]
  omega
theorem vq_bast (hT : ∀ k i, 100 ≤ k → T k i = T k 0) (hB : ∀ k, 100 ≤ k → (Nat.mod (k - 100) 8 = 2 → T k 0 = (0, -128, 127, 0)) ∧ (Nat.mod (k - 100) 8 = 3 → T k 0 = (0, 0, 1, 0))) (hk0 : vK T P W Z m X K (gT_ Q j d)) (h : vI_bast W K S pc lv st = some l) (hl : ∀ g ∈ l, vOkm T P m g) (R : vRt T P W Z m X ρ η S lh) (hlv : vRL T ρ S.1 lh lv lv') (hst : vRS T ρ S.1 lh st st') : gQ Q j d (fun K => gI_ist K pc lv' st' lh (fun t => Nat.beq t 2 || Nat.beq t 3) (fun t w => narrow (gTy t) (.int w))) := by
  unfold vI_bast at h
  match st, st', hst, h with
  | w :: i :: x :: r, w' :: i' :: x' :: r', hst, h =>
    dsimp only at h
    cases ht : Nat.beq x.1 3 && (vIsI i && (vIsI w && (Nat.ble 100 x.2.2.1 && ((Nat.beq (Nat.mod (x.2.2.1 - 100) 8) 2 || Nat.beq (Nat.mod (x.2.2.1 - 100) 8) 3) && vLoc W x.2.2.1 0)))) with
    | false => rw [ht] at h; cases h
    | true =>
      rw [ht] at h
      simp only [Bool.and_eq_true] at ht
      obtain ⟨t1, t2, t3, t4, t5, t9⟩ := ht
      have e4 := Nat.le_of_ble_eq_true t4
      have e6n : x.2.2.1 ≠ 108 := fun z => by rw [z] at t5; revert t5; decide
      obtain ⟨y, rfl, hy⟩ := hst.2.1.int t2
      obtain ⟨u, rfl, hu⟩ := hst.1.int t3
      obtain ⟨q, rfl, z2, z3⟩ := hst.2.2.1.row t1
      dsimp only [cond_true] at h
      obtain ⟨l', h, hl, b1, b2⟩ := vRow_ok h hl R z2 z3 e4
      obtain ⟨F, q1, q3⟩ := z3.row e4
      rw [hy] at b1 b2
      unfold vNew at h
      rw [fNat_eq] at h
      obtain ⟨c, hc1, hc2, hc3, hc4⟩ : ∃ c : Int32, narrow (gTy (Nat.mod (x.2.2.1 - 100) 8)) (.int u) = .int c ∧ fX T P (bif Nat.beq (Nat.mod (x.2.2.1 - 100) 8) 2 then 15 else 16) [c.toInt, u.toInt] [] 0 ∧ (T x.2.2.1 0).2.2.2 = 0 ∧ vOK T lh (T x.2.2.1 0) (.int c) := by
        cases hq : Nat.beq (Nat.mod (x.2.2.1 - 100) 8) 2 with
        | true =>
          have e2 := Nat.eq_of_beq_eq_true hq
          rw [e2, (hB _ e4).1 e2]
          refine ⟨u.toInt8.toInt32, rfl, ?_, rfl, u.toInt8.toInt32, rfl, ?_, ?_⟩
          · show _ = o32 (fun x _ => x.toInt8.toInt32) u.toInt 0
            unfold o32
            rw [of32]
          · have := Int8.le_toInt u.toInt8
            rw [Int8.toInt_toInt32]
            show -128 ≤ _
            omega
          · have := Int8.toInt_lt u.toInt8
            rw [Int8.toInt_toInt32]
            show _ ≤ 127
            omega
        | false =>
          rw [hq] at t5
          have e3 := Nat.eq_of_beq_eq_true (show Nat.beq (Nat.mod (x.2.2.1 - 100) 8) 3 = true from t5)
          rw [e3, (hB _ e4).2 e3]
          have hz : 0 ≤ (u &&& 1).toInt ∧ (u &&& 1).toInt ≤ 1 := and1_ok u
          refine ⟨u &&& 1, rfl, ?_, rfl, u &&& 1, rfl, ?_⟩
          · show _ = o32 (fun x _ => x &&& 1) u.toInt 0
            unfold o32
            rw [of32]
          · exact hz
      have hiN := hst.2.1.1
      have hwN := hst.1.1
      have hxN := hst.2.2.1.1
      have R2 := R.one (x := c.toInt) (op := bif Nat.beq (Nat.mod (x.2.2.1 - 100) 8) 2 then 15 else 16) (ns := [w.2.1]) (c := 0) (fun k hk => by rw [List.mem_singleton.mp hk]; exact hwN) (by show fX T P _ [c.toInt, ρ w.2.1] [] 0; rw [hu]; exact hc2)
      unfold vSet at h
      dsimp only at h
      rw [fNat_eq] at h
      have e6 : T (hK lh q) y.toNatClampNeg = T x.2.2.1 0 := by rw [z3.2.1.1, hT _ _ e4]
      have hok : vOK T lh (T (hK lh q) y.toNatClampNeg) (.int c) := by
        rw [e6]
        exact hc4
      have hW : vLoc W (hK lh q) y.toNatClampNeg = true := by rw [z3.2.1.1, vLoc_row e4 _ 0]; exact t9
      have R9 := R2.add (f := (23, [x.2.1], [S.2.1], (x.2.2.1 : Int))) ⟨⟨fun k hk => by rw [List.mem_singleton.mp hk]; exact Nat.lt_succ_of_lt hxN, fun k hk => by rw [List.mem_singleton.mp hk]; exact Nat.le_refl _⟩, vKind (vUp_lt hxN) R z2 z3⟩
      have R3 := R9.set (o := q) (i := y.toNatClampNeg) (on := x.2.1) (inn := i.2.1) (wn := S.1) (w := .int c) (tg := 0) z3.lt (by rw [e6]; exact hc3) hok hW (fun k hk => by
        rcases List.mem_cons.mp hk with rfl | hk
        · exact Nat.lt_succ_of_lt hxN
        · rcases List.mem_cons.mp hk with rfl | hk
          · exact Nat.lt_succ_of_lt hiN
          · rw [List.mem_singleton.mp hk]
            exact Nat.lt_succ_self _) (by rw [vUp_lt hxN]; exact z2) (by rw [vUp_lt hiN, hy]; show y.toInt = ((y.toInt.toNat : Nat) : Int); omega) (by rw [vUp_at]; rfl)
      have hle := hLe.set (T := T) (i := y.toNatClampNeg) (w := .int c) z3.lt (show (T (hK lh q) y.toNatClampNeg).2.2.2 = 0 by rw [e6]; exact hc3)
      obtain ⟨n1, o, e, q0⟩ := hk0 _ _ _ _ _ _ _ _ _ _ h hl R3 (hlv.new.heap hle) (hst.2.2.2.new.heap hle)
      refine ⟨n1, o, ?_, q0⟩
      have e7 : hSet lh q y.toNatClampNeg (.int c) = lh.set q (.inr (Nat.mod (x.2.2.1 - 100) 8, hN lh q, gup F y.toNatClampNeg (.int c))) := by
        unfold hSet
        rw [q1]
      rw [e7] at e
      show gI_ist _ _ _ _ _ _ _ = _
      unfold gI_ist
      dsimp only
      rw [q1]
      dsimp only
      rw [hc1, show ((Nat.beq (Nat.mod (x.2.2.1 - 100) 8) 2 || Nat.beq (Nat.mod (x.2.2.1 - 100) 8) 3) && (gIn y (hN lh q) && Nat.ble 7 q)) = true by
        simp only [Bool.and_eq_true]
        exact ⟨t5, hIn_ok b1 b2, Nat.ble_eq.mpr (z3.1.2 e6n)⟩]
      exact e
end VFOUR
