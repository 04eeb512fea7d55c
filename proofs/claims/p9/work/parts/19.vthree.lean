/-! THE GENERATOR IS SOUND, on: writes, rows (printed by wip/gen/gen19v.py). -/
section VTHREE
variable {T : Nat → Nat → vT} {P : vP} {W : List (Nat × Nat)} {Z : Bool} {m : Nat} {X : (Nat → Int) × gH} {K : vS → Nat → vL → List vV → vR} {Q : gO → Prop} {j d : Nat} {ρ : Nat → Int} {η : Nat → gH} {S : vS} {pc : Nat} {lv : vL} {st : List vV} {lv' : gL} {st' : List Value} {lh : gH} {l : List vG}
theorem vRel.heap {N : Nat} {lh' : gH} {w : vV} {v : Value} (hh : hLe T lh lh') (h : vRel T ρ N lh w v) : vRel T ρ N lh' w v := by
  obtain ⟨w1, w2, w3, w4⟩ := w
  obtain ⟨h1, h2⟩ := h
  refine ⟨h1, ?_⟩
  match w1, h2 with
  | 0, h2 => exact h2
  | 1, h2 => exact h2
  | 2, .inl h2 => exact .inl h2
  | 2, .inr ⟨i, e1, e2, e3⟩ => exact .inr ⟨i, e1, e2, e3.mono hh⟩
  | 3, ⟨i, e1, e2, e3⟩ => exact ⟨i, e1, e2, e3.mono hh⟩
  | 4, h2 => exact h2
theorem vRL.heap {N : Nat} {lh' : gH} (hh : hLe T lh lh') {l : vL} {g : gL} (h : vRL T ρ N lh l g) : vRL T ρ N lh' l g := fun q hq => by
  obtain ⟨v, h1, h2⟩ := h q hq
  exact ⟨v, h1, h2.heap hh⟩
theorem vRS.heap {N : Nat} {lh' : gH} (hh : hLe T lh lh') : ∀ {l : List vV} {g : List Value}, vRS T ρ N lh l g → vRS T ρ N lh' l g := by
  intro l
  induction l with
  | nil => intro g h; cases g with
    | nil => exact trivial
    | cons b g => exact h.elim
  | cons a l ih => intro g h; cases g with
    | nil => exact h.elim
    | cons b g => exact ⟨h.1.heap hh, ih h.2⟩
def vUpH (η : Nat → gH) (n : Nat) (x : gH) : Nat → gH := fun k => if k = n then x else η k
theorem vUpH_at (n : Nat) (x : gH) : vUpH η n x n = x := if_pos rfl
theorem vUpH_lt {n k : Nat} {x : gH} (h : k < n) : vUpH η n x k = η k := if_neg (Nat.ne_of_lt h)
theorem vRt.set {o i on inn wn tg : Nat} {w : Value} (R : vRt T P W Z m X ρ η S lh) (ho : o < lh.length) (hn : (T (hK lh o) i).2.2.2 = 0) (hw : vOK T lh (T (hK lh o) i) w) (hW : vLoc W (hK lh o) i = true) (hs : ∀ k ∈ [on, inn, wn], k < S.1) (e1 : ρ on = (o : Int)) (e2 : ρ inn = (i : Int)) (e3 : vI w = ρ wn) : vRt T P W Z m X ρ (vUpH η (S.2.1 + 1) (hSet lh o i w)) (S.1, S.2.1 + 1, (80, [on, inn, wn], [S.2.1 + 1, S.2.1], (tg : Int)) :: S.2.2) (hSet lh o i w) := by
  have hle := hLw.set (T := T) (W := W) (Z := Z) (i := i) (w := w) ho hn hW
  refine ⟨fun f hf => ?_, vUpH_at _ _, R.2.2.1.set ho hn hw, fun k hk => ?_, R.2.2.2.2.1, R.2.2.2.2.2.1, (vUpH_lt (Nat.succ_pos _)).trans R.2.2.2.2.2.2⟩
  · rcases List.mem_cons.mp hf with rfl | hf
    · refine ⟨⟨hs, fun k hk => ?_⟩, ?_⟩
      · rcases List.mem_cons.mp hk with rfl | hk
        · exact Nat.le_refl _
        · rw [List.mem_singleton.mp hk]
          exact Nat.le_succ _
      · show hUpd (vUpH η (S.2.1 + 1) (hSet lh o i w) (S.2.1 + 1)) (vUpH η (S.2.1 + 1) (hSet lh o i w) S.2.1) (ρ on) (ρ inn) (ρ wn)
        rw [vUpH_at, vUpH_lt (Nat.lt_succ_self _), R.2.1, e1, e2, ← e3]
        refine ⟨fun q j => ?_, hSet_length _ _ _ _, fun q => ⟨hSet_K _ _ _ _ _, hSet_N _ _ _ _ _⟩⟩
        rw [hSet_V ho]
        by_cases hc : q = o ∧ j = i
        · rw [if_pos hc, if_pos ⟨by rw [hc.1], by rw [hc.2]⟩]
        · rw [if_neg hc, if_neg fun z => hc ⟨Int.ofNat.inj z.1, Int.ofNat.inj z.2⟩]
    · obtain ⟨⟨h1, h2⟩, h3⟩ := R.1 f hf
      exact ⟨⟨h1, fun k hk => Nat.le_succ_of_le (h2 k hk)⟩, (fD_congr (fun _ _ => rfl) (fun k hk => (vUpH_lt (Nat.lt_succ_of_le (h2 k hk))).symm)).mp h3⟩
  · rcases Nat.lt_or_ge k (S.2.1 + 1) with h9 | h9
    · rw [vUpH_lt h9]
      exact (R.2.2.2.1 k (Nat.le_of_lt_succ h9)).trans hle
    · rw [Nat.le_antisymm hk h9, vUpH_at]
      exact hLw.refl _ _ _ _
theorem vRel.val {N : Nat} {w : vV} {v : Value} (h : vRel T ρ N lh w v) : vI v = ρ w.2.1 := by
  obtain ⟨w1, w2, w3, w4⟩ := w
  obtain ⟨h1, h2⟩ := h
  match w1, h2 with
  | 0, ⟨x, e, e2⟩ => rw [e]; exact e2.symm
  | 1, ⟨x, e, e2⟩ => rw [e]; exact e2.symm
  | 2, .inl ⟨e, e2⟩ => rw [e]; exact e2.symm
  | 2, .inr ⟨i, e, e2, _⟩ => rw [e]; exact e2.symm
  | 3, ⟨i, e, e2, _⟩ => rw [e]; exact e2.symm
  | 4, ⟨e, e2⟩ => rw [e]; exact e2.symm
theorem vFits_ok {t : vT} {N : Nat} {w : vV} {v : Value} (hf : vFits t w = true) (hr : vRel T ρ N lh w v) (hn : t.2.2.2 = 0) (hb : t.1 = 0 → t.2.1 ≤ ρ w.2.1 ∧ ρ w.2.1 ≤ t.2.2.1) : vOK T lh t v := by
  obtain ⟨t1, a, b, nn⟩ := t
  obtain ⟨w1, w2, w3, w4⟩ := w
  obtain ⟨h1, h2⟩ := hr
  have hn0 : nn = 0 := hn
  subst hn0
  have key : ∀ i, isA T lh w3 ((w4 : Int) - 1) i → (Nat.beq w3 a.toNat && (decide (b < 0) || Nat.beq w4 (b.toNat + 1))) = true → isA T lh a.toNat b i := by
    intro i z hz
    rw [Bool.and_eq_true, Bool.or_eq_true, decide_eq_true_eq] at hz
    have e := Nat.eq_of_beq_eq_true hz.1
    subst e
    refine ⟨z.1, z.2.1, ?_, z.2.2.2⟩
    rcases hz.2 with y | y
    · exact .inl y
    · have e4 := Nat.eq_of_beq_eq_true y
      by_cases hb0 : b < 0
      · exact .inl hb0
      · rcases z.2.2.1 with y2 | y2
        · omega
        · refine .inr ?_
          rw [show (w4 : Int) - 1 = b by omega] at y2
          exact y2
  match t1, hf with
  | 0, hf =>
    have e := Nat.eq_of_beq_eq_true (show Nat.beq w1 0 = true from hf)
    subst e
    obtain ⟨x, e1, e2⟩ := h2
    obtain ⟨b1, b2⟩ := hb rfl
    have e2' : ρ w2 = x.toInt := e2
    have b1' : a ≤ ρ w2 := b1
    have b2' : ρ w2 ≤ b := b2
    exact ⟨x, e1, by show a ≤ _; omega, by show _ ≤ b; omega⟩
  | 1, hf =>
    have e := Nat.eq_of_beq_eq_true (show Nat.beq w1 1 = true from hf)
    subst e
    obtain ⟨x, e1, -⟩ := h2
    exact ⟨x, e1⟩
  | 3, hf =>
    replace hf : (Nat.beq w1 3 && (Nat.beq w3 a.toNat && (decide (b < 0) || Nat.beq w4 (b.toNat + 1)))) = true := hf
    rw [Bool.and_eq_true] at hf
    have e := Nat.eq_of_beq_eq_true hf.1
    subst e
    obtain ⟨i, e1, e2, e3⟩ := h2
    exact ⟨i, e1, key i e3 hf.2⟩
  | 2, hf =>
    replace hf : ((Nat.beq w1 4 && true) || (((Nat.beq w1 2 && true) || Nat.beq w1 3) && (Nat.beq w3 a.toNat && (decide (b < 0) || Nat.beq w4 (b.toNat + 1))))) = true := hf
    rw [Bool.or_eq_true] at hf
    rcases hf with hf | hf
    · rw [Bool.and_eq_true] at hf
      have e := Nat.eq_of_beq_eq_true hf.1
      subst e
      exact .inl h2.1
    · rw [Bool.and_eq_true, Bool.or_eq_true, Bool.and_eq_true] at hf
      rcases hf.1 with y | y
      · have e := Nat.eq_of_beq_eq_true y.1
        subst e
        rcases h2 with h2 | ⟨i, e1, e2, e3⟩
        · exact .inl h2.1
        · exact .inr ⟨i, e1, key i e3 hf.2, fun z => absurd (show 2 ≤ 0 from z) (by decide)⟩
      · have e := Nat.eq_of_beq_eq_true y
        subst e
        obtain ⟨i, e1, e2, e3⟩ := h2
        exact .inr ⟨i, e1, key i e3 hf.2, fun z => absurd (show 2 ≤ 0 from z) (by decide)⟩
theorem vBounds_ok {t : vT} {w : vV} {r : vR} {v : Value} {N : Nat} (h : vBounds S t w.2.1 r = some l) (hf : vFits t w = true) (hr : vRel T ρ N lh w v) (hl : ∀ g ∈ l, vOkm T P m g) (R : vRt T P W Z m X ρ η S lh) : ∃ l', r = some l' ∧ (∀ g ∈ l', vOkm T P m g) ∧ (t.1 = 0 → t.2.1 ≤ ρ w.2.1 ∧ ρ w.2.1 ≤ t.2.2.1) := by
  unfold vBounds at h
  cases hc : Nat.beq t.1 0 && !vFull t with
  | true =>
    rw [hc] at h
    obtain ⟨l1, h, hl, g1⟩ := vGoal_ok h rfl hl R
    obtain ⟨l2, h, hl, g2⟩ := vGoal_ok h rfl hl R
    exact ⟨l2, h, hl, fun _ => ⟨g1, g2⟩⟩
  | false =>
    rw [hc] at h
    refine ⟨l, h, hl, fun z => ?_⟩
    rw [z] at hc
    have hu : vFull t = true := by
      cases hq : vFull t with
      | true => rfl
      | false => rw [hq] at hc; cases hc
    unfold vFull at hu
    rw [Bool.and_eq_true, decide_eq_true_eq, decide_eq_true_eq] at hu
    have hi : vIsI w = true := by
      unfold vFits at hf
      rw [z] at hf
      exact hf
    obtain ⟨x, -, e⟩ := hr.int hi
    have a1 := Int32.le_toInt x
    have a2 := Int32.toInt_lt x
    rw [e]
    omega
theorem vRt.nameless {f : vF} (R : vRt T P W Z m X ρ η S lh) (h : f ∈ S.2.2) : fD T P ρ η f := (R.1 f h).2
theorem vq_put {a b : Nat} (hT : ∀ a b v lh, a < 100 → b < gN a → (T a b).2.2.2 = 0 → vOK T lh (T a b) v → gFit (gYt a b) v = true) (hk0 : vK T P W Z m X K (gT_ Q j d)) (h : vI_put T W K S pc a b lv st = some l) (hl : ∀ g ∈ l, vOkm T P m g) (R : vRt T P W Z m X ρ η S lh) (hlv : vRL T ρ S.1 lh lv lv') (hst : vRS T ρ S.1 lh st st') : gQ Q j d (fun K => gI_put K pc a b lv' st' lh) := by
  unfold vI_put at h
  match st, st', hst, h with
  | w :: (tg, x, kd, ln) :: r, w' :: x' :: r', hst, h =>
    dsimp only at h
    cases ht : Nat.beq tg 3 && (Nat.beq kd a && (Nat.blt a 100 && (Nat.blt b (gN a) && (Nat.beq (T a b).2.2.2 0 && (vFits (T a b) w && vLoc W a b))))) with
    | false => rw [ht] at h; cases h
    | true =>
      rw [ht] at h
      simp only [Bool.and_eq_true] at ht
      obtain ⟨t1, t2, t3, t4, t5, t6, t7⟩ := ht
      have e1 := Nat.eq_of_beq_eq_true t1
      have e2 := Nat.eq_of_beq_eq_true t2
      have e5 := Nat.eq_of_beq_eq_true t5
      subst e1 e2
      obtain ⟨hx, i, rfl, z2, z3⟩ := hst.2.1
      obtain ⟨F, q1, q2, q3⟩ := z3.obj (Nat.blt_eq.mp t3)
      dsimp only [cond_true] at h
      obtain ⟨l', h, hl, hb⟩ := vBounds_ok h t6 hst.1 hl R
      have hok := vFits_ok t6 hst.1 e5 hb
      unfold vNew at h
      rw [fNat_eq] at h
      have R2 := R.new (x := (b : Int)) (fs := [(0, [S.1], [], (b : Int)), (23, [x], [S.2.1], (kd : Int))]) (fun f hf => by
        rcases List.mem_cons.mp hf with rfl | hf
        · refine ⟨⟨fun k hk => ?_, fun _ hk => nomatch hk⟩, ?_⟩
          · rw [List.mem_singleton.mp hk]
            exact Nat.lt_succ_self _
          · show vUp ρ S.1 _ S.1 = (b : Int)
            rw [vUp_at]
        · rw [List.mem_singleton.mp hf]
          refine ⟨⟨fun k hk => ?_, fun k hk => ?_⟩, vKind (vUp_lt hx) R z2 z3⟩
          · rw [List.mem_singleton.mp hk]
            exact Nat.lt_succ_of_lt hx
          · rw [List.mem_singleton.mp hk]
            exact Nat.le_refl _)
      unfold vSet at h
      dsimp only at h
      rw [fNat_eq] at h
      have e6 : T (hK lh i) b = T kd b := by rw [z3.2.1.1]
      have R3 := R2.set (o := i) (i := b) (on := x) (inn := S.1) (wn := w.2.1) (w := w') (tg := bif Nat.beq w.1 0 then 0 else bif Nat.beq w.1 1 then 1 else 2) z3.lt (by rw [e6]; exact e5) (by rw [e6]; exact hok) (by rw [z3.2.1.1]; exact t7) (fun k hk => by
        have hw := hst.1.1
        rcases List.mem_cons.mp hk with rfl | hk
        · exact Nat.lt_succ_of_lt hx
        · rcases List.mem_cons.mp hk with rfl | hk
          · exact Nat.lt_succ_self _
          · rw [List.mem_singleton.mp hk]
            exact Nat.lt_succ_of_lt hw) (by rw [vUp_lt hx]; exact z2) (by rw [vUp_at]) hst.1.new.val
      have hle := hLe.set (T := T) (i := b) (w := w') z3.lt (show (T (hK lh i) b).2.2.2 = 0 by rw [e6]; exact e5)
      obtain ⟨n1, o, e, q⟩ := hk0 _ _ _ _ _ _ _ _ _ _ h hl R3 (hlv.new.heap hle) (hst.2.2.new.heap hle)
      refine ⟨n1, o, ?_, q⟩
      have e7 : hSet lh i b w' = lh.set i (.inl (kd, gup F b w')) := by
        unfold hSet
        rw [q1]
      rw [e7] at e
      show gI_put _ _ _ _ _ _ _ = _
      unfold gI_put
      dsimp only
      rw [q1]
      dsimp only
      rw [show (Nat.beq kd kd && (gFit (gYt kd b) w' && Nat.ble 7 i)) = true by
        simp only [Bool.and_eq_true]
        exact ⟨Nat.beq_refl kd, hT kd b w' lh (Nat.blt_eq.mp t3) (Nat.blt_eq.mp t4) e5 hok, Nat.ble_eq.mpr (z3.1.2 (by have := Nat.blt_eq.mp t3; show kd ≠ 108; omega))⟩]
      exact e
end VTHREE
