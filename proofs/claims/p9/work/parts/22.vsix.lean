/-! THE GENERATOR IS SOUND, on: arraylength, lastore (printed by wip/gen/gen22v.py). -/
section VSIX
variable {T : Nat → Nat → vT} {P : vP} {W : List (Nat × Nat)} {Z : Bool} {m : Nat} {X : (Nat → Int) × gH} {K : vS → Nat → vL → List vV → vR} {Q : gO → Prop} {j d : Nat} {ρ : Nat → Int} {η : Nat → gH} {S : vS} {pc : Nat} {lv : vL} {st : List vV} {lv' : gL} {st' : List Value} {lh : gH} {l : List vG}
theorem vq_len (hk0 : vK T P W Z m X K (gT_ Q j d)) (h : vI_len K S pc lv st = some l) (hl : ∀ g ∈ l, vOkm T P m g) (R : vRt T P W Z m X ρ η S lh) (hlv : vRL T ρ S.1 lh lv lv') (hst : vRS T ρ S.1 lh st st') : gQ Q j d (fun K => gI_len K pc lv' st' lh) := by
  unfold vI_len at h
  match st, st', hst, h with
  | x :: r, x' :: r', hst, h =>
    dsimp only at h
    cases ht : Nat.beq x.1 3 && Nat.ble 100 x.2.2.1 with
    | false => rw [ht] at h; cases h
    | true =>
      rw [ht] at h
      rw [Bool.and_eq_true] at ht
      have e4 := Nat.le_of_ble_eq_true ht.2
      obtain ⟨q, rfl, z2, z3⟩ := hst.1.row ht.1
      obtain ⟨F, q1, q3⟩ := z3.row e4
      dsimp only [cond_true] at h
      have hx := hst.1.1
      have hz : (Int32.ofNat (hN lh q)).toInt = (hN lh q : Int) := by
        have h9 := z3.2.1.2
        exact Int32.toInt_ofNat_of_lt (by omega)
      have hf21 : ((∀ k ∈ [S.1, x.2.1], k < S.1 + 1) ∧ ∀ h ∈ [S.2.1], h ≤ S.2.1) ∧ fD T P (vUp ρ S.1 (Int32.ofNat (hN lh q)).toInt) η (21, [S.1, x.2.1], [S.2.1], 0) := by
        refine ⟨⟨fun k hk => ?_, fun k hk => ?_⟩, ?_⟩
        · rcases List.mem_cons.mp hk with rfl | hk
          · exact Nat.lt_succ_self _
          · rw [List.mem_singleton.mp hk]
            exact Nat.lt_succ_of_lt hx
        · rw [List.mem_singleton.mp hk]
          exact Nat.le_refl _
        · show vUp ρ S.1 _ S.1 = (hN (η S.2.1) (vUp ρ S.1 _ x.2.1).toNat : Int)
          rw [vUp_at, vUp_lt hx, R.2.1, z2, Int.toNat_natCast, hz]
      have fin : ∀ fs, K (S.1 + 1, S.2.1, fs ++ S.2.2) (pc + 1) lv ((0, S.1, 0, 0) :: r) = some l → (∀ f ∈ fs, ((∀ k ∈ f.2.1, k < S.1 + 1) ∧ ∀ h ∈ f.2.2.1, h ≤ S.2.1) ∧ fD T P (vUp ρ S.1 (Int32.ofNat (hN lh q)).toInt) η f) → gQ Q j d (fun K => gI_len K pc lv' (.ref q :: r') lh) := fun fs h hf => by
        obtain ⟨n1, o, e, q0⟩ := hk0 _ _ _ _ _ _ _ _ _ _ h hl (R.new hf) hlv.new (show vRS T _ (S.1 + 1) lh ((0, S.1, 0, 0) :: r) (.int (Int32.ofNat (hN lh q)) :: r') from ⟨vRel.ofInt _, hst.2.new⟩)
        refine ⟨n1, o, ?_, q0⟩
        show gI_len _ _ _ _ _ = _
        unfold gI_len
        dsimp only
        rw [q1]
        exact e
      cases hc : Nat.ble 1 x.2.2.2 with
      | true =>
        rw [hc] at h
        dsimp only [cond_true] at h
        unfold vNew at h
        rw [fNat_eq] at h
        refine fin _ h fun f hf => ?_
        rcases List.mem_cons.mp hf with rfl | hf
        · refine ⟨⟨fun k hk => ?_, fun _ hk => nomatch hk⟩, ?_⟩
          · rw [List.mem_singleton.mp hk]
            exact Nat.lt_succ_self _
          · show vUp ρ S.1 _ S.1 = ((x.2.2.2 - 1 : Nat) : Int)
            rw [vUp_at, hz]
            have hc1 := Nat.le_of_ble_eq_true hc
            rcases z3.2.2.1 with y | y
            · omega
            · rw [if_neg (by omega)] at y
              omega
        · rw [List.mem_singleton.mp hf]
          exact hf21
      | false =>
        rw [hc] at h
        dsimp only [cond_false] at h
        unfold vNew at h
        rw [fNat_eq] at h
        refine fin _ h fun f hf => ?_
        rw [List.mem_singleton.mp hf]
        exact hf21
theorem vq_last (hT : ∀ k i, 100 ≤ k → T k i = T k 0) (hk0 : vK T P W Z m X K (gT_ Q j d)) (h : vI_last T W K S pc lv st = some l) (hl : ∀ g ∈ l, vOkm T P m g) (R : vRt T P W Z m X ρ η S lh) (hlv : vRL T ρ S.1 lh lv lv') (hst : vRS T ρ S.1 lh st st') : gQ Q j d (fun K => gI_last K pc lv' st' lh) := by
  unfold vI_last at h
  match st, st', hst, h with
  | w :: i :: x :: r, w' :: i' :: x' :: r', hst, h =>
    dsimp only at h
    cases ht : Nat.beq x.1 3 && (vIsI i && (vIsL w && (Nat.ble 100 x.2.2.1 && (Nat.beq (Nat.mod (x.2.2.1 - 100) 8) 1 && (vFits (T x.2.2.1 0) w && (Nat.beq (T x.2.2.1 0).2.2.2 0 && vLoc W x.2.2.1 0)))))) with
    | false => rw [ht] at h; cases h
    | true =>
      rw [ht] at h
      simp only [Bool.and_eq_true] at ht
      obtain ⟨t1, t2, t3, t4, t5, t8, t9, t10⟩ := ht
      have e4 := Nat.le_of_ble_eq_true t4
      have e9 := Nat.eq_of_beq_eq_true t9
      have e6n : x.2.2.1 ≠ 108 := fun z => by rw [z] at t5; revert t5; decide
      obtain ⟨y, rfl, hy⟩ := hst.2.1.int t2
      obtain ⟨u, rfl, hu⟩ := hst.1.long t3
      obtain ⟨q, rfl, z2, z3⟩ := hst.2.2.1.row t1
      dsimp only [cond_true] at h
      obtain ⟨l', h, hl, b1, b2⟩ := vRow_ok h hl R z2 z3 e4
      obtain ⟨F, q1, q3⟩ := z3.row e4
      rw [hy] at b1 b2
      unfold vSet at h
      rw [fNat_eq] at h
      have e6 : T (hK lh q) y.toNatClampNeg = T x.2.2.1 0 := by rw [z3.2.1.1, hT _ _ e4]
      have hok : vOK T lh (T (hK lh q) y.toNatClampNeg) (.long u) := by
        rw [e6]
        refine vFits_ok t8 hst.1 e9 (fun z => ?_)
        unfold vFits at t8
        rw [z] at t8
        rw [Nat.eq_of_beq_eq_true t3] at t8
        cases t8
      have hW : vLoc W (hK lh q) y.toNatClampNeg = true := by rw [z3.2.1.1, vLoc_row e4 _ 0]; exact t10
      have R9 := R.add (f := (23, [x.2.1], [S.2.1], (x.2.2.1 : Int))) ⟨⟨fun k hk => by rw [List.mem_singleton.mp hk]; exact hst.2.2.1.1, fun k hk => by rw [List.mem_singleton.mp hk]; exact Nat.le_refl _⟩, vKind rfl R z2 z3⟩
      have R3 := R9.set (o := q) (i := y.toNatClampNeg) (on := x.2.1) (inn := i.2.1) (wn := w.2.1) (w := .long u) (tg := 1) z3.lt (by rw [e6]; exact e9) hok hW (fun k hk => by
        have h7 := hst.2.2.1.1
        have h8 := hst.2.1.1
        have h9 := hst.1.1
        rcases List.mem_cons.mp hk with rfl | hk
        · exact h7
        · rcases List.mem_cons.mp hk with rfl | hk
          · exact h8
          · rw [List.mem_singleton.mp hk]
            exact h9) z2 (by rw [hy]; show y.toInt = ((y.toInt.toNat : Nat) : Int); omega) hst.1.val
      have hle := hLe.set (T := T) (i := y.toNatClampNeg) (w := .long u) z3.lt (show (T (hK lh q) y.toNatClampNeg).2.2.2 = 0 by rw [e6]; exact e9)
      obtain ⟨n1, o, e, q0⟩ := hk0 _ _ _ _ _ _ _ _ _ _ h hl R3 (hlv.heap hle) (hst.2.2.2.heap hle)
      refine ⟨n1, o, ?_, q0⟩
      have e7 : hSet lh q y.toNatClampNeg (.long u) = lh.set q (.inr (Nat.mod (x.2.2.1 - 100) 8, hN lh q, gup F y.toNatClampNeg (.long u))) := by
        unfold hSet
        rw [q1]
      rw [e7] at e
      show gI_last _ _ _ _ _ = _
      unfold gI_last
      dsimp only
      rw [q1]
      dsimp only
      rw [show (Nat.beq (Nat.mod (x.2.2.1 - 100) 8) 1 && (gIn y (hN lh q) && Nat.ble 7 q)) = true by
        simp only [Bool.and_eq_true]
        exact ⟨t5, hIn_ok b1 b2, Nat.ble_eq.mpr (z3.1.2 e6n)⟩]
      exact e
end VSIX
