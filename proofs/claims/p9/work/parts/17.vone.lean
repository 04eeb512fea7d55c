/-! THE GENERATOR IS SOUND, on: instruction by instruction (printed by wip/gen/gen17v.py). -/
section VONE
variable {T : Nat → Nat → vT} {P : vP} {W : List (Nat × Nat)} {Z : Bool} {m : Nat} {X : (Nat → Int) × gH} {K : vS → Nat → vL → List vV → vR} {Q : gO → Prop} {j d : Nat} {ρ : Nat → Int} {η : Nat → gH} {S : vS} {pc : Nat} {lv : vL} {st : List vV} {lv' : gL} {st' : List Value} {lh : gH} {l : List vG}
theorem vRel.cat {ρ : Nat → Int} {N : Nat} {lh : gH} {w : vV} {v : Value} (h : vRel T ρ N lh w v) : vCat w = v.category := by
  obtain ⟨w1, w2, w3, w4⟩ := w
  have h2 := h.2
  match w1, h2 with
  | 0, ⟨x, e, _⟩ => rw [show v = .int x from e]; rfl
  | 1, ⟨x, e, _⟩ => rw [show v = .long x from e]; rfl
  | 2, .inl ⟨e, _⟩ => rw [show v = .null from e]; rfl
  | 2, .inr ⟨i, e, _⟩ => rw [show v = .ref i from e]; rfl
  | 3, ⟨i, e, _⟩ => rw [show v = .ref i from e]; rfl
  | 4, ⟨e, _⟩ => rw [show v = .null from e]; rfl
theorem gLk_filter (f : Nat → Nat → Bool) {k : Nat} {v : Value} (hf : f k v.category = true) : ∀ {m : gL}, gLk k m = some v → gLk k (m.filter fun q => f q.1 q.2.category) = some v := by
  intro m
  induction m with
  | nil => intro h; cases h
  | cons a m ih =>
    intro h
    replace h : (bif Nat.beq a.1 k then some a.2 else gLk k m) = some v := h
    rw [List.filter_cons]
    cases hq : Nat.beq a.1 k with
    | true =>
      rw [hq] at h
      have e := Nat.eq_of_beq_eq_true hq
      have e2 : a.2 = v := Option.some.inj h
      rw [e, e2, if_pos hf]
      show (bif Nat.beq a.1 k then some a.2 else _) = _
      rw [hq, e2]
      rfl
    | false =>
      rw [hq] at h
      split
      · show (bif Nat.beq a.1 k then some a.2 else _) = _
        rw [hq]
        exact ih h
      · exact ih h
theorem vFil {ρ : Nat → Int} {N : Nat} {lh : gH} (f : Nat → Nat → Bool) {l : vL} {k : gL} (h : vRL T ρ N lh l k) : vRL T ρ N lh (l.filter fun q => f q.1 (vCat q.2)) (k.filter fun q => f q.1 q.2.category) := fun q hq => by
  obtain ⟨h1, h2⟩ := List.mem_filter.mp hq
  obtain ⟨v, h3, h4⟩ := h q h1
  exact ⟨v, gLk_filter f (by rw [← h4.cat]; exact h2) h3, h4⟩
/-- a store at i: what is there still has another place -/
theorem vSto {ρ : Nat → Int} {N : Nat} {lh : gH} {i : Nat} {w : vV} {v : Value} (f : Nat → Nat → Bool) (hf : ∀ c, f i c = false) {l : vL} {k : gL} (h : vRL T ρ N lh l k) (hw : vRel T ρ N lh w v) : vRL T ρ N lh ((i, w) :: l.filter fun q => f q.1 (vCat q.2)) ((i, v) :: k.filter fun q => f q.1 q.2.category) := fun q hq => by
  rcases List.mem_cons.mp hq with rfl | hq
  · refine ⟨v, ?_, hw⟩
    show (bif Nat.beq i i then some v else _) = _
    rw [Nat.beq_refl]
    rfl
  · obtain ⟨u, h1, h2⟩ := vFil f h q hq
    refine ⟨u, ?_, h2⟩
    show (bif Nat.beq i q.1 then some v else _) = _
    cases hb : Nat.beq i q.1 with
    | false => exact h1
    | true =>
      have e := Nat.eq_of_beq_eq_true hb
      have h3 := (List.mem_filter.mp hq).2
      rw [← e, hf] at h3
      cases h3
theorem fSt1 (i c : Nat) : (fun s c => !(s == i) && !(s + 1 == i && c == 2)) i c = false := by simp
theorem fSt2 (i c : Nat) : (fun s c => !(s == i) && (!(s == i + 1) && !(s + 1 == i && c == 2))) i c = false := by simp
theorem vRel.ref {ρ : Nat → Int} {N : Nat} {lh : gH} {w : vV} {v : Value} (h : vRel T ρ N lh w v) (hw : vIsA w = true) : v = .null ∨ ∃ i, v = .ref i := by
  obtain ⟨w1, w2, w3, w4⟩ := w
  have h2 := h.2
  have h3 : 2 ≤ w1 := Nat.le_of_ble_eq_true hw
  match w1, h2, h3 with
  | 2, .inl ⟨e, _⟩, _ => exact .inl e
  | 2, .inr ⟨i, e, _⟩, _ => exact .inr ⟨i, e⟩
  | 3, ⟨i, e, _⟩, _ => exact .inr ⟨i, e⟩
  | 4, ⟨e, _⟩, _ => exact .inl e
theorem vScope {N h0 : Nat} {ns hs : List Nat} (h1 : ns.all (fun k => Nat.blt k N) = true) (h2 : hs.all (fun h => Nat.ble h h0) = true) : (∀ k ∈ ns, k < N) ∧ ∀ h ∈ hs, h ≤ h0 := ⟨fun k hk => Nat.blt_eq.mp (List.all_eq_true.mp h1 k hk), fun k hk => Nat.le_of_ble_eq_true (List.all_eq_true.mp h2 k hk)⟩
/-- one new name, one new fact -/
theorem vRt.one {ρ : Nat → Int} {η : Nat → gH} {S : vS} {lh : gH} {x : Int} {op : Nat} {ns : List Nat} {c : Int} (h : vRt T P W Z m X ρ η S lh) (hs : ∀ k ∈ ns, k < S.1) (hx : fX T P op (x :: ns.map ρ) [] c) : vRt T P W Z m X (vUp ρ S.1 x) η (S.1 + 1, S.2.1, [(op, S.1 :: ns, [], c)] ++ S.2.2) lh := by
  refine h.new fun f hf => ?_
  rcases List.mem_singleton.mp hf with rfl
  refine ⟨⟨fun k hk => ?_, fun _ hk => nomatch hk⟩, ?_⟩
  · rcases List.mem_cons.mp hk with rfl | hk
    · exact Nat.lt_succ_self _
    · exact Nat.lt_succ_of_lt (hs k hk)
  · show fX T P op (vUp ρ S.1 x S.1 :: ns.map (vUp ρ S.1 x)) [] c
    rw [vUp_at, List.map_congr_left (fun k hk => vUp_lt (hs k hk))]
    exact hx
theorem vq_lload {i n : Nat} (hK : vK T P W Z m X K (gT_ Q j d)) (h : vI_load K S pc lv st vIsL i n = some l) (hl : ∀ g ∈ l, vOkm T P m g) (R : vRt T P W Z m X ρ η S lh) (hlv : vRL T ρ S.1 lh lv lv') (hst : vRS T ρ S.1 lh st st') : gQ Q j d (fun K => gI_lload K pc lv' st' lh i n) := by
  unfold vI_load at h
  cases hw : sLkV i lv with
  | none => rw [hw] at h; cases h
  | some w =>
    rw [hw] at h
    dsimp only at h
    obtain ⟨v, h1, h2⟩ := vLk_ok hlv hw
    cases ht : vIsL w with
    | false => rw [ht] at h; cases h
    | true =>
      rw [ht] at h
      obtain ⟨x, rfl, -⟩ := h2.long ht
      obtain ⟨n1, o, e, q⟩ := hK _ _ _ _ _ _ _ _ _ _ h hl R hlv (show vRS T ρ S.1 lh (w :: st) (.long x :: st') from ⟨h2, hst⟩)
      refine ⟨n1, o, ?_, q⟩
      show gI_lload _ _ _ _ _ _ _ = _
      unfold gI_lload
      rw [h1]
      exact e
theorem vq_aload {i n : Nat} (hK : vK T P W Z m X K (gT_ Q j d)) (h : vI_load K S pc lv st vIsA i n = some l) (hl : ∀ g ∈ l, vOkm T P m g) (R : vRt T P W Z m X ρ η S lh) (hlv : vRL T ρ S.1 lh lv lv') (hst : vRS T ρ S.1 lh st st') : gQ Q j d (fun K => gI_aload K pc lv' st' lh i n) := by
  unfold vI_load at h
  cases hw : sLkV i lv with
  | none => rw [hw] at h; cases h
  | some w =>
    rw [hw] at h
    dsimp only at h
    obtain ⟨v, h1, h2⟩ := vLk_ok hlv hw
    cases ht : vIsA w with
    | false => rw [ht] at h; cases h
    | true =>
      rw [ht] at h
      rcases h2.ref ht with rfl | ⟨x, rfl⟩
      · obtain ⟨n1, o, e, q⟩ := hK _ _ _ _ _ _ _ _ _ _ h hl R hlv (show vRS T ρ S.1 lh (w :: st) (.null :: st') from ⟨h2, hst⟩)
        refine ⟨n1, o, ?_, q⟩
        show gI_aload _ _ _ _ _ _ _ = _
        unfold gI_aload
        rw [h1]
        exact e
      · obtain ⟨n1, o, e, q⟩ := hK _ _ _ _ _ _ _ _ _ _ h hl R hlv (show vRS T ρ S.1 lh (w :: st) (.ref x :: st') from ⟨h2, hst⟩)
        refine ⟨n1, o, ?_, q⟩
        show gI_aload _ _ _ _ _ _ _ = _
        unfold gI_aload
        rw [h1]
        exact e
theorem vq_istore {i n : Nat} (hK : vK T P W Z m X K (gT_ Q j d)) (h : vI_store K S pc lv st vIsI i n = some l) (hl : ∀ g ∈ l, vOkm T P m g) (R : vRt T P W Z m X ρ η S lh) (hlv : vRL T ρ S.1 lh lv lv') (hst : vRS T ρ S.1 lh st st') : gQ Q j d (fun K => gI_istore K pc lv' st' lh i n) := by
  unfold vI_store at h
  match st, st', hst, h with
  | w :: r, w' :: r', hst, h =>
    dsimp only at h
    cases ht : vIsI w with
    | false => rw [ht] at h; cases h
    | true =>
      rw [ht] at h
      dsimp only [cond_true] at h
      rw [fFilt_eq] at h
      obtain ⟨x, rfl, -⟩ := hst.1.int ht
      · exact hK _ _ _ _ _ _ _ _ _ _ h hl R (vSto (fun s c => !(s == i) && !(s + 1 == i && c == 2)) (fSt1 i) hlv hst.1) hst.2
theorem vq_lstore {i n : Nat} (hK : vK T P W Z m X K (gT_ Q j d)) (h : vI_lstore K S pc lv st i n = some l) (hl : ∀ g ∈ l, vOkm T P m g) (R : vRt T P W Z m X ρ η S lh) (hlv : vRL T ρ S.1 lh lv lv') (hst : vRS T ρ S.1 lh st st') : gQ Q j d (fun K => gI_lstore K pc lv' st' lh i n) := by
  unfold vI_lstore at h
  match st, st', hst, h with
  | w :: r, w' :: r', hst, h =>
    dsimp only at h
    cases ht : vIsL w with
    | false => rw [ht] at h; cases h
    | true =>
      rw [ht] at h
      dsimp only [cond_true] at h
      rw [fFilt_eq] at h
      obtain ⟨x, rfl, -⟩ := hst.1.long ht
      · exact hK _ _ _ _ _ _ _ _ _ _ h hl R (vSto (fun s c => !(s == i) && (!(s == i + 1) && !(s + 1 == i && c == 2))) (fSt2 i) hlv hst.1) hst.2
theorem vq_astore {i n : Nat} (hK : vK T P W Z m X K (gT_ Q j d)) (h : vI_store K S pc lv st vIsA i n = some l) (hl : ∀ g ∈ l, vOkm T P m g) (R : vRt T P W Z m X ρ η S lh) (hlv : vRL T ρ S.1 lh lv lv') (hst : vRS T ρ S.1 lh st st') : gQ Q j d (fun K => gI_astore K pc lv' st' lh i n) := by
  unfold vI_store at h
  match st, st', hst, h with
  | w :: r, w' :: r', hst, h =>
    dsimp only at h
    cases ht : vIsA w with
    | false => rw [ht] at h; cases h
    | true =>
      rw [ht] at h
      dsimp only [cond_true] at h
      rw [fFilt_eq] at h
      rcases hst.1.ref ht with rfl | ⟨x, rfl⟩
      · exact hK _ _ _ _ _ _ _ _ _ _ h hl R (vSto (fun s c => !(s == i) && !(s + 1 == i && c == 2)) (fSt1 i) hlv hst.1) hst.2
      · exact hK _ _ _ _ _ _ _ _ _ _ h hl R (vSto (fun s c => !(s == i) && !(s + 1 == i && c == 2)) (fSt1 i) hlv hst.1) hst.2
theorem vq_iinc {i : Nat} {n : Int} (hK : vK T P W Z m X K (gT_ Q j d)) (h : vI_iinc K S pc lv st i n = some l) (hl : ∀ g ∈ l, vOkm T P m g) (R : vRt T P W Z m X ρ η S lh) (hlv : vRL T ρ S.1 lh lv lv') (hst : vRS T ρ S.1 lh st st') : gQ Q j d (fun K => gI_iinc K pc lv' st' lh i n) := by
  unfold vI_iinc at h
  cases hw : sLkV i lv with
  | none => rw [hw] at h; cases h
  | some w =>
    rw [hw] at h
    dsimp only at h
    obtain ⟨v, h1, h2⟩ := vLk_ok hlv hw
    cases ht : vIsI w with
    | false => rw [ht] at h; cases h
    | true =>
      rw [ht] at h
      dsimp only [cond_true] at h
      unfold vNew at h
      rw [fNat_eq] at h
      dsimp only at h
      rw [fFilt_eq] at h
      obtain ⟨x, rfl, hx⟩ := h2.int ht
      have R2 := R.one (x := (x + Int32.ofInt n).toInt) (op := 10) (ns := [w.2.1]) (c := n) (fun k hk => by rw [List.mem_singleton.mp hk]; exact h2.1) (show _ = w32 (ρ w.2.1 + n) from by
        rw [← o32_add]
        rw [hx]
        unfold o32
        rw [of32])
      obtain ⟨n1, o, e, q⟩ := hK _ _ _ _ _ _ _ _ _ _ h hl R2 (vSto (fun s c => !(s == i) && !(s + 1 == i && c == 2)) (fSt1 i) hlv.new (vRel.ofInt _)) hst.new
      refine ⟨n1, o, ?_, q⟩
      show gI_iinc _ _ _ _ _ _ _ = _
      unfold gI_iinc
      rw [h1]
      exact e
theorem vq_int {x : Int32} {n : Nat} (hK : vK T P W Z m X K (gT_ Q j d)) (h : vI_int K S pc lv st x n = some l) (hl : ∀ g ∈ l, vOkm T P m g) (R : vRt T P W Z m X ρ η S lh) (hlv : vRL T ρ S.1 lh lv lv') (hst : vRS T ρ S.1 lh st st') : gQ Q j d (fun K => gI_int K pc lv' st' lh x n) := by
  unfold vI_int vNew at h
  rw [fInt_eq, fNat_eq] at h
  have R2 := R.one (x := x.toInt) (op := 0) (ns := []) (c := x.toInt) (fun k hk => nomatch hk) (show x.toInt = x.toInt from rfl)
  exact hK _ _ _ _ _ _ _ _ _ _ h hl R2 hlv.new (show vRS T _ (S.1 + 1) lh ((0, S.1, 0, 0) :: st) (.int x :: st') from ⟨vRel.ofInt _, hst.new⟩)
theorem vq_long {x : Int64} {n : Nat} (hK : vK T P W Z m X K (gT_ Q j d)) (h : vI_long K S pc lv st x n = some l) (hl : ∀ g ∈ l, vOkm T P m g) (R : vRt T P W Z m X ρ η S lh) (hlv : vRL T ρ S.1 lh lv lv') (hst : vRS T ρ S.1 lh st st') : gQ Q j d (fun K => gI_long K pc lv' st' lh x n) := by
  unfold vI_long vNew at h
  rw [fInt_eq, fNat_eq] at h
  have R2 := R.one (x := x.toInt) (op := 0) (ns := []) (c := x.toInt) (fun k hk => nomatch hk) (show x.toInt = x.toInt from rfl)
  exact hK _ _ _ _ _ _ _ _ _ _ h hl R2 hlv.new (show vRS T _ (S.1 + 1) lh ((1, S.1, 0, 0) :: st) (.long x :: st') from ⟨vRel.ofLong _, hst.new⟩)
theorem vq_lbin {op : Nat} {f : Int64 → Int64 → Int64} (hop : ∀ k x y : Int, k = o64 f x y → fX T P op [k, x, y] [] 0) (hK : vK T P W Z m X K (gT_ Q j d)) (h : vI_lbin K S pc lv st op = some l) (hl : ∀ g ∈ l, vOkm T P m g) (R : vRt T P W Z m X ρ η S lh) (hlv : vRL T ρ S.1 lh lv lv') (hst : vRS T ρ S.1 lh st st') : gQ Q j d (fun K => gI_lbin K pc lv' st' lh f) := by
  unfold vI_lbin at h
  match st, st', hst, h with
  | y :: x :: r, y' :: x' :: r', hst, h =>
    dsimp only at h
    cases ht : vIsL y && vIsL x with
    | false => rw [ht] at h; cases h
    | true =>
      rw [ht] at h
      dsimp only [cond_true] at h
      rw [Bool.and_eq_true] at ht
      obtain ⟨b, rfl, hb⟩ := hst.1.long ht.1
      obtain ⟨a, rfl, ha⟩ := hst.2.1.long ht.2
      have hsc : ∀ k ∈ [x.2.1, y.2.1], k < S.1 := fun k hk => by
        rcases List.mem_cons.mp hk with rfl | hk
        · exact hst.2.1.1
        · rw [List.mem_singleton.mp hk]
          exact hst.1.1
      unfold vNew at h
      rw [fNat_eq] at h
      have R2 := R.one (x := (f a b).toInt) (op := op) (ns := [x.2.1, y.2.1]) (c := 0) hsc (hop _ _ _ (by rw [ha, hb, o64_at]))
      exact hK _ _ _ _ _ _ _ _ _ _ h hl R2 hlv.new (show vRS T _ (S.1 + 1) lh ((1, S.1, 0, 0) :: r) (.long (f a b) :: r') from ⟨vRel.ofLong _, hst.2.2.new⟩)
theorem vq_lcmp (hK : vK T P W Z m X K (gT_ Q j d)) (h : vI_lcmp K S pc lv st = some l) (hl : ∀ g ∈ l, vOkm T P m g) (R : vRt T P W Z m X ρ η S lh) (hlv : vRL T ρ S.1 lh lv lv') (hst : vRS T ρ S.1 lh st st') : gQ Q j d (fun K => gI_lcmp K pc lv' st' lh) := by
  unfold vI_lcmp at h
  match st, st', hst, h with
  | y :: x :: r, y' :: x' :: r', hst, h =>
    dsimp only at h
    cases ht : vIsL y && vIsL x with
    | false => rw [ht] at h; cases h
    | true =>
      rw [ht] at h
      dsimp only [cond_true] at h
      rw [Bool.and_eq_true] at ht
      obtain ⟨b, rfl, hb⟩ := hst.1.long ht.1
      obtain ⟨a, rfl, ha⟩ := hst.2.1.long ht.2
      have hsc : ∀ k ∈ [x.2.1, y.2.1], k < S.1 := fun k hk => by
        rcases List.mem_cons.mp hk with rfl | hk
        · exact hst.2.1.1
        · rw [List.mem_singleton.mp hk]
          exact hst.1.1
      unfold vNew at h
      rw [fNat_eq] at h
      have R2 := R.one (x := (lg_cmp a b).toInt) (op := 65) (ns := [x.2.1, y.2.1]) (c := 0) hsc (show _ = (lg_cmp (Int64.ofInt (ρ x.2.1)) (Int64.ofInt (ρ y.2.1))).toInt by rw [ha, hb, of64, of64])
      exact hK _ _ _ _ _ _ _ _ _ _ h hl R2 hlv.new (show vRS T _ (S.1 + 1) lh ((0, S.1, 0, 0) :: r) (.int (lg_cmp a b) :: r') from ⟨vRel.ofInt _, hst.2.2.new⟩)
theorem vq_un {op : Nat} {f : Int32 → Int32} (hop : ∀ k x : Int, k = o32 (fun x _ => f x) x 0 → fX T P op [k, x] [] 0) (hK : vK T P W Z m X K (gT_ Q j d)) (h : vI_un K S pc lv st op = some l) (hl : ∀ g ∈ l, vOkm T P m g) (R : vRt T P W Z m X ρ η S lh) (hlv : vRL T ρ S.1 lh lv lv') (hst : vRS T ρ S.1 lh st st') : gQ Q j d (fun K => gI_un K pc lv' st' lh f) := by
  unfold vI_un at h
  match st, st', hst, h with
  | x :: r, x' :: r', hst, h =>
    dsimp only at h
    cases ht : vIsI x with
    | false => rw [ht] at h; cases h
    | true =>
      rw [ht] at h
      dsimp only [cond_true] at h
      obtain ⟨a, rfl, ha⟩ := hst.1.int ht
      have hsc : ∀ k ∈ [x.2.1], k < S.1 := fun k hk => by
        rw [List.mem_singleton.mp hk]
        exact hst.1.1
      unfold vNew at h
      rw [fNat_eq] at h
      have R2 := R.one (x := (f a).toInt) (op := op) (ns := [x.2.1]) (c := 0) hsc (hop _ _ (by rw [ha]; unfold o32; rw [of32]))
      exact hK _ _ _ _ _ _ _ _ _ _ h hl R2 hlv.new (show vRS T _ (S.1 + 1) lh ((0, S.1, 0, 0) :: r) (.int (f a) :: r') from ⟨vRel.ofInt _, hst.2.new⟩)
theorem vq_i2l (hK : vK T P W Z m X K (gT_ Q j d)) (h : vI_conv K S pc lv st vIsI 17 1 = some l) (hl : ∀ g ∈ l, vOkm T P m g) (R : vRt T P W Z m X ρ η S lh) (hlv : vRL T ρ S.1 lh lv lv') (hst : vRS T ρ S.1 lh st st') : gQ Q j d (fun K => gI_i2l K pc lv' st' lh) := by
  unfold vI_conv at h
  match st, st', hst, h with
  | x :: r, x' :: r', hst, h =>
    dsimp only at h
    cases ht : vIsI x with
    | false => rw [ht] at h; cases h
    | true =>
      rw [ht] at h
      dsimp only [cond_true] at h
      obtain ⟨a, rfl, ha⟩ := hst.1.int ht
      have hsc : ∀ k ∈ [x.2.1], k < S.1 := fun k hk => by
        rw [List.mem_singleton.mp hk]
        exact hst.1.1
      unfold vNew at h
      rw [fNat_eq] at h
      have R2 := R.one (x := a.toInt64.toInt) (op := 17) (ns := [x.2.1]) (c := 0) hsc (show _ = ρ x.2.1 by rw [ha, Int32.toInt_toInt64])
      exact hK _ _ _ _ _ _ _ _ _ _ h hl R2 hlv.new (show vRS T _ (S.1 + 1) lh ((1, S.1, 0, 0) :: r) (.long a.toInt64 :: r') from ⟨vRel.ofLong _, hst.2.new⟩)
theorem vq_l2i (hK : vK T P W Z m X K (gT_ Q j d)) (h : vI_conv K S pc lv st vIsL 18 0 = some l) (hl : ∀ g ∈ l, vOkm T P m g) (R : vRt T P W Z m X ρ η S lh) (hlv : vRL T ρ S.1 lh lv lv') (hst : vRS T ρ S.1 lh st st') : gQ Q j d (fun K => gI_l2i K pc lv' st' lh) := by
  unfold vI_conv at h
  match st, st', hst, h with
  | x :: r, x' :: r', hst, h =>
    dsimp only at h
    cases ht : vIsL x with
    | false => rw [ht] at h; cases h
    | true =>
      rw [ht] at h
      dsimp only [cond_true] at h
      obtain ⟨a, rfl, ha⟩ := hst.1.long ht
      have hsc : ∀ k ∈ [x.2.1], k < S.1 := fun k hk => by
        rw [List.mem_singleton.mp hk]
        exact hst.1.1
      unfold vNew at h
      rw [fNat_eq] at h
      have R2 := R.one (x := a.toInt32.toInt) (op := 18) (ns := [x.2.1]) (c := 0) hsc (show _ = (Int64.ofInt (ρ x.2.1)).toInt32.toInt by rw [ha, of64])
      exact hK _ _ _ _ _ _ _ _ _ _ h hl R2 hlv.new (show vRS T _ (S.1 + 1) lh ((0, S.1, 0, 0) :: r) (.int a.toInt32 :: r') from ⟨vRel.ofInt _, hst.2.new⟩)
theorem vApp_some {x y : vR} {l : List vG} (h : vApp x y = some l) : ∃ l1 l2, x = some l1 ∧ y = some l2 ∧ l = l1 ++ l2 := by
  unfold vApp at h
  match x, y, h with
  | some a, some b, h => exact ⟨a, b, rfl, rfl, (Option.some.inj h).symm⟩
theorem vCn_ok {c : Jvm.ClassFile.Cond} {x : Int32} (h : gCmp c x 0 = true) : fX T P (vCn c) [x.toInt] [] 0 := by
  cases c <;> simp only [gCmp, decide_eq_true_eq, Int32.lt_iff_toInt_lt, Int32.le_iff_toInt_le, ← Int32.toInt_inj] at h <;> exact h
theorem vNg_ok {c : Jvm.ClassFile.Cond} {x : Int32} (h : gCmp c x 0 = false) : fX T P (vNg c) [x.toInt] [] 0 := by
  cases c <;> simp only [gCmp, decide_eq_false_iff_not, Int32.lt_iff_toInt_lt, Int32.le_iff_toInt_le, ← Int32.toInt_inj] at h <;> (have h9 : (0 : Int32).toInt = 0 := rfl) <;> (rw [h9] at h) <;> first | exact h | exact Classical.not_not.mp h | exact Int.not_lt.mp h | exact Int.not_le.mp h
theorem vCn2_ok {c : Jvm.ClassFile.Cond} {x y : Int32} (h : gCmp c x y = true) : fX T P (vCn c + 10) [x.toInt, y.toInt] [] 0 := by
  cases c <;> simp only [gCmp, decide_eq_true_eq, Int32.lt_iff_toInt_lt, Int32.le_iff_toInt_le, ← Int32.toInt_inj] at h <;> exact h
theorem vNg2_ok {c : Jvm.ClassFile.Cond} {x y : Int32} (h : gCmp c x y = false) : fX T P (vNg c + 10) [x.toInt, y.toInt] [] 0 := by
  cases c <;> simp only [gCmp, decide_eq_false_iff_not, Int32.lt_iff_toInt_lt, Int32.le_iff_toInt_le, ← Int32.toInt_inj] at h <;> first | exact h | exact Classical.not_not.mp h | exact Int.not_lt.mp h | exact Int.not_le.mp h
theorem vq_if {c : Jvm.ClassFile.Cond} {a0 : Nat} (hK : vK T P W Z m X K (gT_ Q j d)) (h : vI_if K S pc a0 lv st c = some l) (hl : ∀ g ∈ l, vOkm T P m g) (R : vRt T P W Z m X ρ η S lh) (hlv : vRL T ρ S.1 lh lv lv') (hst : vRS T ρ S.1 lh st st') : gQ Q j d (fun K => gI_if K pc a0 lv' st' lh c) := by
  unfold vI_if at h
  match st, st', hst, h with
  | x :: r, x' :: r', hst, h =>
    dsimp only at h
    cases ht : vIsI x with
    | false => rw [ht] at h; cases h
    | true =>
      rw [ht] at h
      dsimp only [cond_true] at h
      obtain ⟨a, rfl, ha⟩ := hst.1.int ht
      have hsc : ∀ k ∈ [x.2.1], k < S.1 := fun k hk => by
        rw [List.mem_singleton.mp hk]
        exact hst.1.1
      obtain ⟨l1, l2, e1, e2, rfl⟩ := vApp_some h
      cases hc : gCmp c a 0 with
      | true =>
        obtain ⟨n1, o, e, q⟩ := hK _ _ _ _ _ _ _ _ _ _ e1 (fun g hg => hl g (List.mem_append_left _ hg)) (R.add ⟨⟨hsc, fun _ hk => nomatch hk⟩, by show fX T P _ [ρ x.2.1] [] 0; rw [ha]; exact vCn_ok hc⟩) hlv hst.2
        refine ⟨n1, o, ?_, q⟩
        show (bif gCmp c a 0 then _ else _) = _
        rw [hc]
        exact e
      | false =>
        obtain ⟨n1, o, e, q⟩ := hK _ _ _ _ _ _ _ _ _ _ e2 (fun g hg => hl g (List.mem_append_right _ hg)) (R.add ⟨⟨hsc, fun _ hk => nomatch hk⟩, by show fX T P _ [ρ x.2.1] [] 0; rw [ha]; exact vNg_ok hc⟩) hlv hst.2
        refine ⟨n1, o, ?_, q⟩
        show (bif gCmp c a 0 then _ else _) = _
        rw [hc]
        exact e
theorem vq_icmp {c : Jvm.ClassFile.Cond} {a0 : Nat} (hK : vK T P W Z m X K (gT_ Q j d)) (h : vI_icmp K S pc a0 lv st c = some l) (hl : ∀ g ∈ l, vOkm T P m g) (R : vRt T P W Z m X ρ η S lh) (hlv : vRL T ρ S.1 lh lv lv') (hst : vRS T ρ S.1 lh st st') : gQ Q j d (fun K => gI_icmp K pc a0 lv' st' lh c) := by
  unfold vI_icmp at h
  match st, st', hst, h with
  | y :: x :: r, y' :: x' :: r', hst, h =>
    dsimp only at h
    cases ht : vIsI y && vIsI x with
    | false => rw [ht] at h; cases h
    | true =>
      rw [ht] at h
      dsimp only [cond_true] at h
      rw [Bool.and_eq_true] at ht
      obtain ⟨b, rfl, hb⟩ := hst.1.int ht.1
      obtain ⟨a, rfl, ha⟩ := hst.2.1.int ht.2
      have hsc : ∀ k ∈ [x.2.1, y.2.1], k < S.1 := fun k hk => by
        rcases List.mem_cons.mp hk with rfl | hk
        · exact hst.2.1.1
        · rw [List.mem_singleton.mp hk]
          exact hst.1.1
      obtain ⟨l1, l2, e1, e2, rfl⟩ := vApp_some h
      cases hc : gCmp c a b with
      | true =>
        obtain ⟨n1, o, e, q⟩ := hK _ _ _ _ _ _ _ _ _ _ e1 (fun g hg => hl g (List.mem_append_left _ hg)) (R.add ⟨⟨hsc, fun _ hk => nomatch hk⟩, by show fX T P _ [ρ x.2.1, ρ y.2.1] [] 0; rw [ha, hb]; exact vCn2_ok hc⟩) hlv hst.2.2
        refine ⟨n1, o, ?_, q⟩
        show (bif gCmp c a b then _ else _) = _
        rw [hc]
        exact e
      | false =>
        obtain ⟨n1, o, e, q⟩ := hK _ _ _ _ _ _ _ _ _ _ e2 (fun g hg => hl g (List.mem_append_right _ hg)) (R.add ⟨⟨hsc, fun _ hk => nomatch hk⟩, by show fX T P _ [ρ x.2.1, ρ y.2.1] [] 0; rw [ha, hb]; exact vNg2_ok hc⟩) hlv hst.2.2
        refine ⟨n1, o, ?_, q⟩
        show (bif gCmp c a b then _ else _) = _
        rw [hc]
        exact e
end VONE
