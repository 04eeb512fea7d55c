/-! THE GENERATOR IS SOUND, on: row loads, lengths, stores of longs and refs (printed by wip/gen/gen21v.py). -/
section VFIVE
variable {T : Nat → Nat → vT} {P : vP} {W : List (Nat × Nat)} {Z : Bool} {m : Nat} {X : (Nat → Int) × gH} {K : vS → Nat → vL → List vV → vR} {Q : gO → Prop} {j d : Nat} {ρ : Nat → Int} {η : Nat → gH} {S : vS} {pc : Nat} {lv : vL} {st : List vV} {lv' : gL} {st' : List Value} {lh : gH} {l : List vG}
theorem vq_ald {t : Nat → Bool} (hT : ∀ k i, 100 ≤ k → T k i = T k 0) (hk0 : vK T P W Z m X K (gT_ Q j d)) (h : vI_ald T K S pc lv st t = some l) (hl : ∀ g ∈ l, vOkm T P m g) (R : vRt T P W Z m X ρ η S lh) (hlv : vRL T ρ S.1 lh lv lv') (hst : vRS T ρ S.1 lh st st') : gQ Q j d (fun K => gI_ald K pc lv' st' lh t) := by
  unfold vI_ald at h
  match st, st', hst, h with
  | i :: x :: r, i' :: x' :: r', hst, h =>
    dsimp only at h
    cases ht : Nat.beq x.1 3 && (vIsI i && (Nat.ble 100 x.2.2.1 && t (Nat.mod (x.2.2.1 - 100) 8))) with
    | false => rw [ht] at h; cases h
    | true =>
      rw [ht] at h
      simp only [Bool.and_eq_true] at ht
      obtain ⟨t1, t2, t3, t4⟩ := ht
      have e4 := Nat.le_of_ble_eq_true t3
      obtain ⟨y, rfl, hy⟩ := hst.1.int t2
      obtain ⟨q, rfl, z2, z3⟩ := hst.2.1.row t1
      dsimp only [cond_true] at h
      obtain ⟨l', h, hl, b1, b2⟩ := vRow_ok h hl R z2 z3 e4
      obtain ⟨F, q1, q3⟩ := z3.row e4
      rw [hy] at b1 b2
      unfold vNew at h
      rw [fNat_eq] at h
      have hi : y.toNatClampNeg < hN lh q := by
        show y.toInt.toNat < _
        omega
      have hv := R.2.2.1.2 q y.toNatClampNeg z3.lt hi
      rw [z3.2.1.1, hT _ _ e4, q3] at hv
      have hnn : (T x.2.2.1 0).2.2.2 ≠ 0 → F y.toNatClampNeg ≠ .null := fun z => by
        rw [← q3]
        exact z3.2.2.2 _ hi (by rw [hT _ _ e4]; exact z)
      have hx := hst.2.1.1
      have hii := hst.1.1
      have R2 := R.new (x := vI (F y.toNatClampNeg)) (fs := (22, [S.1, x.2.1, i.2.1], [S.2.1], 0) :: vRng (T x.2.2.1 0) S.1) (fun f hf => by
        rcases List.mem_cons.mp hf with rfl | hf
        · refine ⟨⟨fun k hk => ?_, fun k hk => ?_⟩, ?_⟩
          · rcases List.mem_cons.mp hk with rfl | hk
            · exact Nat.lt_succ_self _
            · rcases List.mem_cons.mp hk with rfl | hk
              · exact Nat.lt_succ_of_lt hx
              · rw [List.mem_singleton.mp hk]
                exact Nat.lt_succ_of_lt hii
          · rw [List.mem_singleton.mp hk]
            exact Nat.le_refl _
          · show vUp ρ S.1 _ S.1 = hV (η S.2.1) (vUp ρ S.1 _ x.2.1).toNat (vUp ρ S.1 _ i.2.1).toNat
            rw [vUp_at, vUp_lt hx, vUp_lt hii, R.2.1, z2, hy, Int.toNat_natCast]
            unfold hV
            rw [show y.toInt.toNat = y.toNatClampNeg from rfl, q3]
        · exact vRng_ok hv hnn f hf)
      obtain ⟨n1, o, e, q0⟩ := hk0 _ _ _ _ _ _ _ _ _ _ h hl R2 hlv.new (show vRS T _ (S.1 + 1) lh (vOut (T x.2.2.1 0) S.1 :: r) (F y.toNatClampNeg :: r') from ⟨vOut_ok hv hnn, hst.2.2.new⟩)
      refine ⟨n1, o, ?_, q0⟩
      show gI_ald _ _ _ _ _ _ = _
      unfold gI_ald
      dsimp only
      rw [q1]
      dsimp only
      rw [show (t (Nat.mod (x.2.2.1 - 100) 8) && gIn y (hN lh q)) = true by
        rw [Bool.and_eq_true]
        exact ⟨t4, hIn_ok b1 b2⟩]
      exact e
theorem vq_aast (hT : ∀ k i, 100 ≤ k → T k i = T k 0) (hk0 : vK T P W Z m X K (gT_ Q j d)) (h : vI_aast T W K S pc lv st = some l) (hl : ∀ g ∈ l, vOkm T P m g) (R : vRt T P W Z m X ρ η S lh) (hlv : vRL T ρ S.1 lh lv lv') (hst : vRS T ρ S.1 lh st st') : gQ Q j d (fun K => gI_aast K pc lv' st' lh) := by
  unfold vI_aast at h
  match st, st', hst, h with
  | w :: i :: x :: r, w' :: i' :: x' :: r', hst, h =>
    dsimp only at h
    cases ht : Nat.beq x.1 3 && (vIsI i && (Nat.beq w.1 3 && (Nat.ble 100 x.2.2.1 && (Nat.ble 4 (Nat.mod (x.2.2.1 - 100) 8) && (Nat.beq (gEl (Nat.mod (x.2.2.1 - 100) 8)) w.2.2.1 && (Nat.blt w.2.2.1 100 && (vFits (T x.2.2.1 0) w && (Nat.beq (T x.2.2.1 0).2.2.2 0 && vLoc W x.2.2.1 0)))))))) with
    | false => rw [ht] at h; cases h
    | true =>
      rw [ht] at h
      simp only [Bool.and_eq_true] at ht
      obtain ⟨t1, t2, t3, t4, t5, t6, t7, t8, t9, t10⟩ := ht
      have e4 := Nat.le_of_ble_eq_true t4
      have e3 := Nat.eq_of_beq_eq_true t3
      have e9 := Nat.eq_of_beq_eq_true t9
      have e6n : x.2.2.1 ≠ 108 := fun z => by rw [z] at t5; revert t5; decide
      obtain ⟨y, rfl, hy⟩ := hst.2.1.int t2
      obtain ⟨q, rfl, z2, z3⟩ := hst.2.2.1.row t1
      obtain ⟨u, rfl, hu, z4⟩ := hst.1.row t3
      dsimp only [cond_true] at h
      obtain ⟨l', h, hl, b1, b2⟩ := vRow_ok h hl R z2 z3 e4
      obtain ⟨F, q1, q3⟩ := z3.row e4
      obtain ⟨G, p1, p2, p3⟩ := z4.obj (Nat.blt_eq.mp t7)
      rw [hy] at b1 b2
      unfold vSet at h
      rw [fNat_eq] at h
      have e6 : T (hK lh q) y.toNatClampNeg = T x.2.2.1 0 := by rw [z3.2.1.1, hT _ _ e4]
      have hok : vOK T lh (T (hK lh q) y.toNatClampNeg) (.ref u) := by
        rw [e6]
        refine vFits_ok t8 hst.1 e9 (fun z => ?_)
        unfold vFits at t8
        rw [z] at t8
        rw [e3] at t8
        cases t8
      have hW : vLoc W (hK lh q) y.toNatClampNeg = true := by rw [z3.2.1.1, vLoc_row e4 _ 0]; exact t10
      have R9 := R.add (f := (23, [x.2.1], [S.2.1], (x.2.2.1 : Int))) ⟨⟨fun k hk => by rw [List.mem_singleton.mp hk]; exact hst.2.2.1.1, fun k hk => by rw [List.mem_singleton.mp hk]; exact Nat.le_refl _⟩, vKind rfl R z2 z3⟩
      have R3 := R9.set (o := q) (i := y.toNatClampNeg) (on := x.2.1) (inn := i.2.1) (wn := w.2.1) (w := .ref u) (tg := 2) z3.lt (by rw [e6]; exact e9) hok hW (fun k hk => by
        have h7 := hst.2.2.1.1
        have h8 := hst.2.1.1
        have h9 := hst.1.1
        rcases List.mem_cons.mp hk with rfl | hk
        · exact h7
        · rcases List.mem_cons.mp hk with rfl | hk
          · exact h8
          · rw [List.mem_singleton.mp hk]
            exact h9) z2 (by rw [hy]; show y.toInt = ((y.toInt.toNat : Nat) : Int); omega) hst.1.val
      have hle := hLe.set (T := T) (i := y.toNatClampNeg) (w := .ref u) z3.lt (show (T (hK lh q) y.toNatClampNeg).2.2.2 = 0 by rw [e6]; exact e9)
      obtain ⟨n1, o, e, q0⟩ := hk0 _ _ _ _ _ _ _ _ _ _ h hl R3 (hlv.heap hle) (hst.2.2.2.heap hle)
      refine ⟨n1, o, ?_, q0⟩
      have e7 : hSet lh q y.toNatClampNeg (.ref u) = lh.set q (.inr (Nat.mod (x.2.2.1 - 100) 8, hN lh q, gup F y.toNatClampNeg (.ref u))) := by
        unfold hSet
        rw [q1]
      rw [e7] at e
      show gI_aast _ _ _ _ _ = _
      unfold gI_aast
      dsimp only
      rw [q1]
      dsimp only
      rw [p1]
      dsimp only
      rw [show (Nat.beq (gEl (Nat.mod (x.2.2.1 - 100) 8)) w.2.2.1 && (gIn y (hN lh q) && Nat.ble 7 q)) = true by
        simp only [Bool.and_eq_true]
        exact ⟨t6, hIn_ok b1 b2, Nat.ble_eq.mpr (z3.1.2 e6n)⟩]
      exact e
end VFIVE
