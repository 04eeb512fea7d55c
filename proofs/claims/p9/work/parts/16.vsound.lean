/-! THE GENERATOR IS SOUND: the relation, new names, the first instructions. -/
section VSOUND
variable {T : Nat → Nat → vT} {P : vP} {W : List (Nat × Nat)} {Z : Bool} {m : Nat} {X : (Nat → Int) × gH}
def vRel (T : Nat → Nat → vT) (ρ : Nat → Int) (N : Nat) (lh : gH) (w : vV) (v : Value) : Prop := w.2.1 < N ∧ (match w.1 with
  | 0 => ∃ x : Int32, v = .int x ∧ ρ w.2.1 = x.toInt
  | 1 => ∃ x : Int64, v = .long x ∧ ρ w.2.1 = x.toInt
  | 2 => (v = .null ∧ ρ w.2.1 = -1) ∨ ∃ i : Nat, v = .ref i ∧ ρ w.2.1 = (i : Int) ∧ isA T lh w.2.2.1 ((w.2.2.2 : Int) - 1) i
  | 3 => ∃ i : Nat, v = .ref i ∧ ρ w.2.1 = (i : Int) ∧ isA T lh w.2.2.1 ((w.2.2.2 : Int) - 1) i
  | 4 => v = .null ∧ ρ w.2.1 = -1
  | _ => False)
def vRL (T : Nat → Nat → vT) (ρ : Nat → Int) (N : Nat) (lh : gH) (l : vL) (m : gL) : Prop := ∀ q ∈ l, ∃ v, gLk q.1 m = some v ∧ vRel T ρ N lh q.2 v
def vRS (T : Nat → Nat → vT) (ρ : Nat → Int) (N : Nat) (lh : gH) : List vV → List Value → Prop
  | [], [] => True
  | a :: l, b :: m => vRel T ρ N lh a b ∧ vRS T ρ N lh l m
  | _, _ => False
/-- the arguments' names and the first heap are what they are -/
def vPin (m : Nat) (X : (Nat → Int) × gH) (ρ : Nat → Int) (η : Nat → gH) (S : vS) : Prop := m ≤ S.1 ∧ (∀ k, k < m → ρ k = X.1 k) ∧ η 0 = X.2
def vRt (T : Nat → Nat → vT) (P : vP) (W : List (Nat × Nat)) (Z : Bool) (m : Nat) (X : (Nat → Int) × gH) (ρ : Nat → Int) (η : Nat → gH) (S : vS) (lh : gH) : Prop := (∀ f ∈ S.2.2, ((∀ k ∈ f.2.1, k < S.1) ∧ ∀ h ∈ f.2.2.1, h ≤ S.2.1) ∧ fD T P ρ η f) ∧ η S.2.1 = lh ∧ WT T lh ∧ (∀ h, h ≤ S.2.1 → hLw T W Z (η h) lh) ∧ vPin m X ρ η S
def vUp (ρ : Nat → Int) (n : Nat) (x : Int) : Nat → Int := fun k => if k = n then x else ρ k
theorem vUp_at (ρ : Nat → Int) (n : Nat) (x : Int) : vUp ρ n x n = x := if_pos rfl
theorem vUp_lt {ρ : Nat → Int} {n k : Nat} {x : Int} (h : k < n) : vUp ρ n x k = ρ k := if_neg (Nat.ne_of_lt h)
theorem vRel.new {ρ : Nat → Int} {N : Nat} {lh : gH} {w : vV} {v : Value} {x : Int} (h : vRel T ρ N lh w v) : vRel T (vUp ρ N x) (N + 1) lh w v := by
  obtain ⟨h1, h2⟩ := h
  refine ⟨Nat.lt_succ_of_lt h1, ?_⟩
  rw [vUp_lt h1]
  exact h2
theorem vRL.new {ρ : Nat → Int} {N : Nat} {lh : gH} {x : Int} {l : vL} {m : gL} (h : vRL T ρ N lh l m) : vRL T (vUp ρ N x) (N + 1) lh l m := fun q hq => by
  obtain ⟨v, h1, h2⟩ := h q hq
  exact ⟨v, h1, h2.new⟩
theorem vRS.new {ρ : Nat → Int} {N : Nat} {lh : gH} {x : Int} : ∀ {l : List vV} {m : List Value}, vRS T ρ N lh l m → vRS T (vUp ρ N x) (N + 1) lh l m := by
  intro l
  induction l with
  | nil => intro m h; cases m with
    | nil => exact trivial
    | cons b m => exact h.elim
  | cons a l ih => intro m h; cases m with
    | nil => exact h.elim
    | cons b m => exact ⟨h.1.new, ih h.2⟩
theorem vRt.new {ρ : Nat → Int} {η : Nat → gH} {S : vS} {lh : gH} {x : Int} {fs : List vF} (h : vRt T P W Z m X ρ η S lh) (hf : ∀ f ∈ fs, ((∀ k ∈ f.2.1, k < S.1 + 1) ∧ ∀ h ∈ f.2.2.1, h ≤ S.2.1) ∧ fD T P (vUp ρ S.1 x) η f) : vRt T P W Z m X (vUp ρ S.1 x) η (S.1 + 1, S.2.1, fs ++ S.2.2) lh := by
  refine ⟨fun f hm => ?_, h.2.1, h.2.2.1, h.2.2.2.1, Nat.le_succ_of_le h.2.2.2.2.1, fun k hk => (vUp_lt (Nat.lt_of_lt_of_le hk h.2.2.2.2.1)).trans (h.2.2.2.2.2.1 k hk), h.2.2.2.2.2.2⟩
  rcases List.mem_append.mp hm with hm | hm
  · exact hf f hm
  · obtain ⟨⟨h1, h2⟩, h3⟩ := h.1 f hm
    exact ⟨⟨fun k hk => Nat.lt_succ_of_lt (h1 k hk), h2⟩, (fD_congr (fun k hk => (vUp_lt (h1 k hk)).symm) (fun _ _ => rfl)).mp h3⟩
theorem vRt.add {ρ : Nat → Int} {η : Nat → gH} {S : vS} {lh : gH} {f : vF} (h : vRt T P W Z m X ρ η S lh) (hf : ((∀ k ∈ f.2.1, k < S.1) ∧ ∀ h ∈ f.2.2.1, h ≤ S.2.1) ∧ fD T P ρ η f) : vRt T P W Z m X ρ η (vAdd S f) lh := by
  refine ⟨fun g hm => ?_, h.2⟩
  rcases List.mem_cons.mp hm with rfl | hm
  · exact hf
  · exact h.1 g hm
/-- a condition of the method (its m arguments among the goal's names) -/
def vFin (m : Nat) (g : vG) : vG := bif Nat.ble 3000 g.2.1 then (g.1, (g.2.1, bif Nat.ble 4000 g.2.1 then List.range' 0 m ++ g.2.2.1 else g.2.2.1 ++ List.range' 0 m, 0 :: g.2.2.2.1, g.2.2.2.2)) else g
def vOkm (T : Nat → Nat → vT) (P : vP) (m : Nat) (g : vG) : Prop := vOk T P (vFin m g)
def vK (T : Nat → Nat → vT) (P : vP) (W : List (Nat × Nat)) (Z : Bool) (m : Nat) (X : (Nat → Int) × gH) (K : vS → Nat → vL → List vV → vR) (KP : Nat → gL → List Value → gH → Prop) : Prop := ∀ (ρ : Nat → Int) (η : Nat → gH) (S : vS) (pc : Nat) (lv : vL) (st : List vV) (lv' : gL) (st' : List Value) (lh : gH) (l : List vG), K S pc lv st = some l → (∀ g ∈ l, vOkm T P m g) → vRt T P W Z m X ρ η S lh → vRL T ρ S.1 lh lv lv' → vRS T ρ S.1 lh st st' → KP pc lv' st' lh
/-- the run from there, with steps enough, ends well -/
def gT_ (Q : gO → Prop) (j d pc : Nat) (lv : gL) (st : List Value) (lh : gH) : Prop := ∃ n o, gRun n j d pc lv st lh = some o ∧ Q o
def gQ (Q : gO → Prop) (j d : Nat) (F : (Nat → gL → List Value → gH → Option gO) → Option gO) : Prop := ∃ n o, F (gRun n j d) = some o ∧ Q o
theorem sLkV_mem {k : Nat} {l : vL} {w : vV} (h : sLkV k l = some w) : (k, w) ∈ l := by
  induction l with
  | nil => cases h
  | cons a l ih =>
    replace h : (bif Nat.beq a.1 k then some a.2 else sLkV k l) = some w := h
    cases hq : Nat.beq a.1 k with
    | true =>
      rw [hq] at h
      have e := Nat.eq_of_beq_eq_true hq
      cases h
      rw [← e]
      exact List.mem_cons_self
    | false =>
      rw [hq] at h
      exact List.mem_cons_of_mem _ (ih h)
theorem vLk_ok {ρ : Nat → Int} {N : Nat} {lh : gH} {k : Nat} {l : vL} {m : gL} {w : vV} (hr : vRL T ρ N lh l m) (h : sLkV k l = some w) : ∃ v, gLk k m = some v ∧ vRel T ρ N lh w v := hr (k, w) (sLkV_mem h)
theorem vRel.int {ρ : Nat → Int} {N : Nat} {lh : gH} {w : vV} {v : Value} (h : vRel T ρ N lh w v) (hw : vIsI w = true) : ∃ x : Int32, v = .int x ∧ ρ w.2.1 = x.toInt := by
  have e := Nat.eq_of_beq_eq_true hw
  have h2 := h.2
  rw [e] at h2
  exact h2
theorem vRel.long {ρ : Nat → Int} {N : Nat} {lh : gH} {w : vV} {v : Value} (h : vRel T ρ N lh w v) (hw : vIsL w = true) : ∃ x : Int64, v = .long x ∧ ρ w.2.1 = x.toInt := by
  have e := Nat.eq_of_beq_eq_true hw
  have h2 := h.2
  rw [e] at h2
  exact h2
theorem vRel.ofInt {ρ : Nat → Int} {N : Nat} {lh : gH} (x : Int32) : vRel T (vUp ρ N x.toInt) (N + 1) lh (0, N, 0, 0) (.int x) := ⟨Nat.lt_succ_self _, x, rfl, vUp_at _ _ _⟩
theorem vRel.ofLong {ρ : Nat → Int} {N : Nat} {lh : gH} (x : Int64) : vRel T (vUp ρ N x.toInt) (N + 1) lh (1, N, 0, 0) (.long x) := ⟨Nat.lt_succ_self _, x, rfl, vUp_at _ _ _⟩
section ONE
variable {K : vS → Nat → vL → List vV → vR} {Q : gO → Prop} {j d : Nat} {ρ : Nat → Int} {η : Nat → gH} {S : vS} {pc : Nat} {lv : vL} {st : List vV} {lv' : gL} {st' : List Value} {lh : gH} {l : List vG}
theorem vq_iload {i n : Nat} (hK : vK T P W Z m X K (gT_ Q j d)) (h : vI_load K S pc lv st vIsI i n = some l) (hl : ∀ g ∈ l, vOkm T P m g) (R : vRt T P W Z m X ρ η S lh) (hlv : vRL T ρ S.1 lh lv lv') (hst : vRS T ρ S.1 lh st st') : gQ Q j d (fun K => gI_iload K pc lv' st' lh i n) := by
  unfold vI_load at h
  cases hw : sLkV i lv with
  | none => rw [hw] at h; cases h
  | some w =>
    rw [hw] at h
    dsimp only at h
    obtain ⟨v, h1, h2⟩ := vLk_ok hlv hw
    cases ht : vIsI w with
    | false => rw [ht] at h; cases h
    | true =>
      rw [ht] at h
      obtain ⟨x, rfl, -⟩ := h2.int ht
      obtain ⟨n1, o, e, q⟩ := hK _ _ _ _ _ _ _ _ _ _ h hl R hlv (show vRS T ρ S.1 lh (w :: st) (.int x :: st') from ⟨h2, hst⟩)
      refine ⟨n1, o, ?_, q⟩
      show gI_iload _ _ _ _ _ _ _ = _
      unfold gI_iload
      rw [h1]
      exact e
theorem vq_bin {op : Nat} {f : Int32 → Int32 → Int32} (hop : ∀ k x y : Int, k = o32 f x y → fX T P op [k, x, y] [] 0) (hK : vK T P W Z m X K (gT_ Q j d)) (h : vI_bin K S pc lv st op = some l) (hl : ∀ g ∈ l, vOkm T P m g) (R : vRt T P W Z m X ρ η S lh) (hlv : vRL T ρ S.1 lh lv lv') (hst : vRS T ρ S.1 lh st st') : gQ Q j d (fun K => gI_bin K pc lv' st' lh f) := by
  unfold vI_bin at h
  match st, st', hst, h with
  | y :: x :: r, y' :: x' :: r', hst, h =>
    dsimp only at h
    cases ht : vIsI y && vIsI x with
    | false => rw [ht] at h; cases h
    | true =>
      rw [ht] at h
      rw [Bool.and_eq_true] at ht
      obtain ⟨b, rfl, hb⟩ := hst.1.int ht.1
      obtain ⟨a, rfl, ha⟩ := hst.2.1.int ht.2
      unfold vNew at h
      rw [fNat_eq] at h
      have R2 := R.new (x := (f a b).toInt) (fs := [(op, [S.1, x.2.1, y.2.1], [], 0)]) (fun g hg => by
        rcases List.mem_singleton.mp hg with rfl
        refine ⟨⟨fun k hk => ?_, fun _ hk => nomatch hk⟩, ?_⟩
        · have hx := hst.2.1.1
          have hy := hst.1.1
          rcases List.mem_cons.mp hk with rfl | hk
          · omega
          · rcases List.mem_cons.mp hk with rfl | hk
            · omega
            · rcases List.mem_singleton.mp hk with rfl
              omega
        · show fX T P op [vUp ρ S.1 _ S.1, vUp ρ S.1 _ x.2.1, vUp ρ S.1 _ y.2.1] [] 0
          rw [vUp_at, vUp_lt hst.2.1.1, vUp_lt hst.1.1]
          refine hop _ _ _ ?_
          rw [ha, hb, o32_at])
      exact hK _ _ _ _ _ _ _ _ _ _ h hl R2 hlv.new ⟨vRel.ofInt _, hst.2.2.new⟩
end ONE
end VSOUND
