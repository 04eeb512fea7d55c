/-! THE GENERATOR IS SOUND: whole runs, methods. -/
section VNINE
variable {T : Nat → Nat → vT} {P : vP} {W : List (Nat × Nat)} {Z : Bool} {m : Nat} {X : (Nat → Int) × gH} {Q : gO → Prop} {j d : Nat} {ρ : Nat → Int} {η : Nat → gH} {lh : gH} {l : List vG} {lv' : gL}
def vTOK (T : Nat → Nat → vT) : Prop := (∀ a b v lh, a < 100 → b < gN a → (T a b).2.2.2 = 0 → vOK T lh (T a b) v → gFit (gYt a b) v = true) ∧ (∀ k i, 100 ≤ k → T k i = T k 0) ∧ (∀ k, 100 ≤ k → (Nat.mod (k - 100) 8 = 2 → T k 0 = (0, -128, 127, 0)) ∧ (Nat.mod (k - 100) 8 = 3 → T k 0 = (0, 0, 1, 0)))
theorem fFindC_mem {pc : Nat} {cs : List vC} {c : vC} (h : fFindC pc cs = some c) : c ∈ cs ∧ c.1 = pc := by
  induction cs with
  | nil => cases h
  | cons a cs ih =>
    replace h : (bif Nat.beq a.1 pc then some a else fFindC pc cs) = some c := h
    cases hq : Nat.beq a.1 pc with
    | true =>
      rw [hq] at h
      cases h
      exact ⟨List.mem_cons_self, Nat.eq_of_beq_eq_true hq⟩
    | false =>
      rw [hq] at h
      exact ⟨List.mem_cons_of_mem _ (ih h).1, (ih h).2⟩
theorem vRun_ok {Sg : Nat → Option vM} {cs : List vC} {rt : vT} (hT : vTOK T) (hSg : ∀ a m, Sg a = some m → a < 1000 ∧ gMeth T a d m (P.1 a) (P.2.1 a) ∧ P.2.2.2.2.2.2.1 a = m.2.2.2.2) (hrt : rtOk (gRt j) rt = true) (hQ : ∀ (lh : gH) (st' : List Value) (pc : Nat), WT T lh → hLw T W Z X.2 lh → (if rt.1 = 9 then st' = [] else ∃ v, st' = [v] ∧ vOK T lh rt v) → P.2.2.2.2.2.1 (st'.map vI ++ (List.range' 0 m).map X.1) X.2 lh → Q (lh, pc, st')) (hG : ∀ c ∈ cs, ∀ (lv' : gL) (lh : gH) (ys : List Int), WT T lh → hLw T W Z X.2 lh → vAts T lh lv' c.2 ys → P.2.2.2.2.1 (c.1 : Int) ((List.range' 0 m).map X.1 ++ ys) X.2 lh → gT_ Q j (d + 1) c.1 lv' [] lh) : ∀ (n : Nat) (first : Bool) (ρ : Nat → Int) (η : Nat → gH) (S : vS) (pc : Nat) (lv : vL) (st : List vV) (lv' : gL) (st' : List Value) (lh : gH) (l : List vG), vRun T W Z Sg cs rt j n first S pc lv st = some l → (∀ g ∈ l, vOkm T P m g) → vRt T P W Z m X ρ η S lh → vRL T ρ S.1 lh lv lv' → vRS T ρ S.1 lh st st' → gT_ Q j (d + 1) pc lv' st' lh := by
  intro n
  induction n with
  | zero => intro first ρ η S pc lv st lv' st' lh l h; cases h
  | succ n ih =>
    intro first ρ η S pc lv st lv' st' lh l h hl R hlv hst
    replace h : fNat pc (fun pc => match (bif first then none else fFindC pc cs) with
      | some c => vArr S c lv st
      | none => (match sAtt j pc with
        | none => none
        | some e => vIns T W Z Sg e.2.1 (vRun T W Z Sg cs rt j n false) rt S pc e.2.2.1 e.2.2.2.1 e.2.2.2.2.1 lv st)) = some l := h
    rw [fNat_eq] at h
    cases hc : (bif first then none else fFindC pc cs) with
    | some c =>
      rw [hc] at h
      have hc2 : fFindC pc cs = some c := by
        cases first with
        | true => cases hc
        | false => exact hc
      obtain ⟨c1, c2⟩ := fFindC_mem hc2
      match st, st', hst, h with
      | [], [], hst, h =>
        obtain ⟨ys, g1, g2⟩ := vArrL_ok (ls := c.2) (ns := []) h hl R hlv
        have := hG c c1 lv' lh ys R.2.2.1 (by
          have z := R.2.2.2.1 0 (Nat.zero_le _)
          rw [R.2.2.2.2.2.2] at z
          exact z) g1 g2
        rw [← c2]
        exact this
      | [], _ :: _, hst, h => exact hst.elim
      | _ :: _, _, hst, h => cases h
    | none =>
      rw [hc] at h
      dsimp only at h
      cases ha : sAtt j pc with
      | none => rw [ha] at h; cases h
      | some e =>
        rw [ha] at h
        dsimp only at h
        obtain ⟨n1, o, e1, q⟩ := vIns_ok (j := j) (rt0 := gRt j) (dp := Nat.ble 1 (d + 1)) hT.1 hT.2.1 hT.2.2 hSg hrt hQ (fun ρ η S pc lv st lv' st' lh l h hl R a b => ih false ρ η S pc lv st lv' st' lh l h hl R a b) e.2.1 h hl R hlv hst
        refine ⟨n1 + 1, o, ?_, q⟩
        rw [gRun_succ]
        unfold gStep
        rw [← sAtt_eq, ha]
        exact e1
theorem vAts.len {lh : gH} {lv' : gL} : ∀ {ls : List (Nat × vT)} {ys : List Int}, vAts T lh lv' ls ys → ys.length = ls.length := by
  intro ls
  induction ls with
  | nil => intro ys h; cases ys with
    | nil => rfl
    | cons y ys => exact h.elim
  | cons q ls ih => intro ys h; cases ys with
    | nil => exact h.elim
    | cons y ys => rw [List.length_cons, List.length_cons, ih h.2]
theorem vTake_ok {N : Nat} : ∀ {ls : List (Nat × vT)} {n : Nat} {ys : List Int}, vAts T lh lv' ls ys → (∀ i, i < ls.length → ρ (n + i) = ys.getD i 0) → n + ls.length ≤ N → vRL T ρ N lh (vTake ls n) lv' := by
  intro ls
  induction ls with
  | nil => intro n ys _ _ _ q hq; cases hq
  | cons q ls ih =>
    intro n ys h hr hN
    cases ys with
    | nil => exact h.elim
    | cons y ys =>
      obtain ⟨⟨v, h1, h2, h3, h4⟩, h5⟩ := h
      intro r hr2
      rw [List.length_cons] at hN
      replace hr2 : r ∈ (q.1, vOut q.2 n) :: fNat (n + 1) (vTake ls) := hr2
      rw [fNat_eq] at hr2
      rcases List.mem_cons.mp hr2 with rfl | hr2
      · refine ⟨v, h1, vOut_at h3 (fun z => absurd h4 z) (by omega) ?_⟩
        have := hr 0 (Nat.succ_pos _)
        rw [Nat.add_zero] at this
        rw [this, h2]
        rfl
      · refine ih h5 (fun i hi => ?_) (by omega) r hr2
        have := hr (i + 1) (Nat.succ_lt_succ hi)
        rw [show n + 1 + i = n + (i + 1) by omega, this]
        rfl
theorem vRngs_ok {N h0 : Nat} : ∀ {ls : List (Nat × vT)} {n : Nat} {ys : List Int}, vAts T lh lv' ls ys → (∀ i, i < ls.length → ρ (n + i) = ys.getD i 0) → n + ls.length ≤ N → ∀ f ∈ vRngs ls n, ((∀ k ∈ f.2.1, k < N) ∧ ∀ h ∈ f.2.2.1, h ≤ h0) ∧ fD T P ρ η f := by
  intro ls
  induction ls with
  | nil => intro n ys _ _ _ f hf; cases hf
  | cons q ls ih =>
    intro n ys h hr hN
    cases ys with
    | nil => exact h.elim
    | cons y ys =>
      obtain ⟨⟨v, h1, h2, h3, h4⟩, h5⟩ := h
      intro f hf
      rw [List.length_cons] at hN
      replace hf : f ∈ vRng q.2 n ++ fNat (n + 1) (vRngs ls) := hf
      rw [fNat_eq] at hf
      rcases List.mem_append.mp hf with hf | hf
      · refine vRng_at h3 (fun z => absurd h4 z) (by omega) ?_ f hf
        have := hr 0 (Nat.succ_pos _)
        rw [Nat.add_zero] at this
        rw [this, h2]
        rfl
      · refine ih h5 (fun i hi => ?_) (by omega) f hf
        have := hr (i + 1) (Nat.succ_lt_succ hi)
        rw [show n + 1 + i = n + (i + 1) by omega, this]
        rfl
/-- the slots of a method's arguments -/
noncomputable def vSlots (ts : List vT) : Nat → List (Nat × vT) := List.rec (motive := fun _ => Nat → List (Nat × vT)) (fun _ => []) (fun t _ ih k => (k, t) :: fNat (bif Nat.beq t.1 1 then k + 2 else k + 1) ih) ts
theorem vSlots_ge : ∀ {ts : List vT} {k : Nat} {q : Nat × vT}, q ∈ vSlots ts k → k ≤ q.1 := by
  intro ts
  induction ts with
  | nil => intro k q h; cases h
  | cons t ts ih =>
    intro k q h
    replace h : q ∈ (k, t) :: fNat (bif Nat.beq t.1 1 then k + 2 else k + 1) (vSlots ts) := h
    rw [fNat_eq] at h
    rcases List.mem_cons.mp h with rfl | h
    · exact Nat.le_refl _
    · have := ih h
      cases hb : Nat.beq t.1 1 with
      | true => rw [hb] at this; dsimp only [cond_true] at this; omega
      | false => rw [hb] at this; dsimp only [cond_false] at this; omega
theorem vAts.more {lh : gH} {k : Nat} {a : Value} {lv' : gL} : ∀ {ls : List (Nat × vT)} {ys : List Int}, (∀ q ∈ ls, k < q.1) → vAts T lh lv' ls ys → vAts T lh ((k, a) :: lv') ls ys := by
  intro ls
  induction ls with
  | nil => intro ys _ h; cases ys with
    | nil => exact trivial
    | cons y ys => exact h.elim
  | cons q ls ih =>
    intro ys hk h
    cases ys with
    | nil => exact h.elim
    | cons y ys =>
      obtain ⟨⟨v, h1, h2⟩, h5⟩ := h
      refine ⟨⟨v, ?_, h2⟩, ih (fun q hq => hk q (List.mem_cons_of_mem _ hq)) h5⟩
      show (bif Nat.beq k q.1 then some a else gLk q.1 lv') = some v
      cases hb : Nat.beq k q.1 with
      | false => exact h1
      | true =>
        have := Nat.eq_of_beq_eq_true hb
        have := hk q List.mem_cons_self
        omega
theorem vOK.cat {t : vT} {v : Value} (h : vOK T lh t v) : (bif Nat.beq t.1 1 then 2 else 1) = v.category := by
  obtain ⟨t1, a, b, nn⟩ := t
  match t1, h with
  | 0, ⟨x, e, _⟩ => rw [e]; rfl
  | 1, ⟨x, e⟩ => rw [e]; rfl
  | 2, .inl e => rw [e]; rfl
  | 2, .inr ⟨i, e, _⟩ => rw [e]; rfl
  | 3, ⟨i, e, _⟩ => rw [e]; rfl
  | t + 4, .inl e => rw [e]; rfl
  | t + 4, .inr ⟨i, e, _⟩ => rw [e]; rfl
theorem vAts_args : ∀ {ts : List vT} {as : List Value} (k : Nat), vArgs T lh ts as → vAts T lh (lv_args k as) (vSlots ts k) (as.map vI) := by
  intro ts
  induction ts with
  | nil => intro as k h; cases as with
    | nil => exact trivial
    | cons a as => exact h.elim
  | cons t ts ih =>
    intro as k h
    cases as with
    | nil => exact h.elim
    | cons a as =>
      obtain ⟨⟨h1, h2⟩, h3⟩ := h
      have hc := h1.cat
      have e : (bif Nat.beq t.1 1 then k + 2 else k + 1) = (if a.category = 2 then k + 2 else k + 1) := by
        cases hb : Nat.beq t.1 1 with
        | true =>
          rw [hb] at hc
          have hc2 : 2 = a.category := hc
          rw [if_pos hc2.symm]; rfl
        | false =>
          rw [hb] at hc
          have hc2 : 1 = a.category := hc
          rw [if_neg (by omega)]; rfl
      show vAts T lh ((k, a) :: lv_args (if a.category = 2 then k + 2 else k + 1) as) ((k, t) :: fNat (bif Nat.beq t.1 1 then k + 2 else k + 1) (vSlots ts)) (vI a :: as.map vI)
      rw [fNat_eq, ← e]
      refine ⟨⟨a, ?_, rfl, h1, h2⟩, (ih _ h3).more fun q hq => ?_⟩
      · show (bif Nat.beq k k then some a else _) = _
        rw [Nat.beq_refl]
        rfl
      · have := vSlots_ge hq
        cases hb : Nat.beq t.1 1 with
        | true => rw [hb] at this; dsimp only [cond_true] at this; omega
        | false => rw [hb] at this; dsimp only [cond_false] at this; omega
theorem vArgs.len : ∀ {ts : List vT} {as : List Value}, vArgs T lh ts as → as.length = ts.length := by
  intro ts
  induction ts with
  | nil => intro as h; cases as with
    | nil => rfl
    | cons a as => exact h.elim
  | cons t ts ih => intro as h; cases as with
    | nil => exact h.elim
    | cons a as => rw [List.length_cons, List.length_cons, ih h.2]
theorem vSlots_len : ∀ {ts : List vT} (k : Nat), (vSlots ts k).length = ts.length := by
  intro ts
  induction ts with
  | nil => intro k; rfl
  | cons t ts ih =>
    intro k
    show ((k, t) :: fNat (bif Nat.beq t.1 1 then k + 2 else k + 1) (vSlots ts)).length = _
    rw [fNat_eq, List.length_cons, List.length_cons, ih]
theorem range_getD {ys : List Int} {m : Nat} (h : m ≤ ys.length) : (List.range' 0 m).map (fun k => ys.getD k 0) = ys.take m := by
  apply List.ext_getElem
  · rw [List.length_map, List.length_range', List.length_take]
    omega
  · intro i h1 h2
    rw [List.length_map, List.length_range'] at h1
    rw [List.getElem_map, List.getElem_range', List.getElem_take]
    rw [show 0 + 1 * i = i by omega]
    rw [List.getD_eq_getElem?_getD, List.getElem?_eq_getElem (by omega)]
    rfl
/-- what the facts say in the run from a start (k: none) or from a cut whose measure is q (some q) -/
def vPP (cpre : Nat → List Int → gH → Prop) (cpost : Nat → List Int → gH → gH → Prop) (cW : Nat → List (Nat × Nat)) (W : List (Nat × Nat)) (pre : List Int → gH → Prop) (post : List Int → gH → gH → Prop) (A : Int → List Int → gH → gH → Prop) (μ : Int → List Int → gH → gH → Nat) (m : Nat) (k : Option Nat) : vP := (cpre, cpost, pre, fun c xs h0 h => (A c xs h0 h ∧ pre (xs.take m) h0) ∧ k = some (μ c xs h0 h), fun c xs h0 h => A c xs h0 h ∧ ∀ q, k = some q → μ c xs h0 h < q, post, cW, W)
/-- a cut is good where its measure is q -/
def vGood (T : Nat → Nat → vT) (W : List (Nat × Nat)) (Z : Bool) (A : Int → List Int → gH → gH → Prop) (μ : Int → List Int → gH → gH → Nat) (j d : Nat) (Q : gO → Prop) (xs : List Int) (h0 : gH) (q : Nat) (c : vC) : Prop := ∀ (lv' : gL) (lh : gH) (ys : List Int), WT T lh → hLw T W Z h0 lh → vAts T lh lv' c.2 ys → A (c.1 : Int) (xs ++ ys) h0 lh → μ (c.1 : Int) (xs ++ ys) h0 lh = q → gT_ Q j d c.1 lv' [] lh
/-- the first state of a run from a method's start -/
noncomputable def vS0 (ts : List vT) : vS := (ts.length, 0, (6000, List.range' 0 ts.length, [0], 0) :: vRngs (vSlots ts 0) 0)
/-- the first state of a run from a cut -/
noncomputable def vSc (ts : List vT) (c : vC) : vS := (ts.length + c.2.length, 1, (5000, List.range' 0 (ts.length + c.2.length), [0, 1], (c.1 : Int)) :: (vRngs (vSlots ts 0) 0 ++ vRngs c.2 ts.length))
theorem gMeth_ok {M : vM} {Sg : Nat → Option vM} {cs : List vC} {n : Nat} {cpre : Nat → List Int → gH → Prop} {cpost : Nat → List Int → gH → gH → Prop} {cW : Nat → List (Nat × Nat)} {pre : List Int → gH → Prop} {post : List Int → gH → gH → Prop} {A : Int → List Int → gH → gH → Prop} {μ : Int → List Int → gH → gH → Nat} (hT : vTOK T) (hSg : ∀ a m, Sg a = some m → a < 1000 ∧ gMeth T a d m (cpre a) (cpost a) ∧ cW a = m.2.2.2.2) (hM : M.2.1.2.2.2 = 0) (hpre : M.2.2.1 ≠ 1 → ∀ xs h, pre xs h) (hrt : rtOk (gRt j) M.2.1 = true)
    (hs : ∃ l, vRun T M.2.2.2.2 (Nat.beq M.2.2.2.1 0) Sg cs M.2.1 j n true (vS0 M.1) 0 (vTake (vSlots M.1 0) 0) [] = some l ∧ ∀ g ∈ l, vOkm T (vPP cpre cpost cW M.2.2.2.2 pre post A μ M.1.length none) M.1.length g)
    (hc : ∀ c ∈ cs, (∃ l, vRun T M.2.2.2.2 (Nat.beq M.2.2.2.1 0) Sg cs M.2.1 j n true (vSc M.1 c) c.1 (vTake c.2 M.1.length) [] = some l ∧ ∀ q, ∀ g ∈ l, vOkm T (vPP cpre cpost cW M.2.2.2.2 pre post A μ M.1.length (some q)) M.1.length g) ∨ (∀ (Q : gO → Prop) (xs : List Int) (h0 : gH) (q : Nat), pre xs h0 → (∀ q', q' < q → ∀ c ∈ cs, vGood T M.2.2.2.2 (Nat.beq M.2.2.2.1 0) A μ j (d + 1) Q xs h0 q' c) → vGood T M.2.2.2.2 (Nat.beq M.2.2.2.1 0) A μ j (d + 1) Q xs h0 q c)) : gMeth T j (d + 1) M pre post := by
  refine ⟨hM, fun as lh0 hWT hA hp => ?_⟩
  have hp' : pre (as.map vI) lh0 := by
    by_cases h1 : M.2.2.1 = 1
    · exact hp h1
    · exact hpre h1 _ _
  have hlen : (as.map vI).length = M.1.length := by rw [List.length_map]; exact hA.len
  have hpin : (List.range' 0 M.1.length).map (fun k => (as.map vI).getD k 0) = as.map vI := by
    rw [range_getD (by omega), ← hlen, List.take_length]
  have hat := vAts_args 0 hA
  have hQ : ∀ k, ∀ (lh : gH) (st' : List Value) (pc : Nat), WT T lh → hLw T M.2.2.2.2 (Nat.beq M.2.2.2.1 0) lh0 lh → (if M.2.1.1 = 9 then st' = [] else ∃ v, st' = [v] ∧ vOK T lh M.2.1 v) → (vPP cpre cpost cW M.2.2.2.2 pre post A μ M.1.length k).2.2.2.2.2.1 (st'.map vI ++ (List.range' 0 M.1.length).map (fun k => (as.map vI).getD k 0)) lh0 lh → (fun o : gO => WT T o.1 ∧ hLw T M.2.2.2.2 (Nat.beq M.2.2.2.1 0) lh0 o.1 ∧ (if M.2.1.1 = 9 then o.2.2 = [] else ∃ v, o.2.2 = [v] ∧ vOK T o.1 M.2.1 v) ∧ post (o.2.2.map vI ++ as.map vI) lh0 o.1) (lh, pc, st') := fun k lh st' pc a1 a2 a3 a4 => by
    rw [hpin] at a4
    exact ⟨a1, a2, a3, a4⟩
  have good : ∀ q, ∀ c ∈ cs, vGood T M.2.2.2.2 (Nat.beq M.2.2.2.1 0) A μ j (d + 1) (fun o : gO => WT T o.1 ∧ hLw T M.2.2.2.2 (Nat.beq M.2.2.2.1 0) lh0 o.1 ∧ (if M.2.1.1 = 9 then o.2.2 = [] else ∃ v, o.2.2 = [v] ∧ vOK T o.1 M.2.1 v) ∧ post (o.2.2.map vI ++ as.map vI) lh0 o.1) (as.map vI) lh0 q c := by
    intro q
    induction q using Nat.strongRecOn with
    | _ q ih =>
      intro c hcm
      rcases hc c hcm with ⟨l, h1, h2⟩ | hand
      · intro lv' lh ys b1 b2 b3 b4 b5
        have hys := b3.len
        have hrc : ∀ i, i < c.2.length → (as.map vI ++ ys).getD (M.1.length + i) 0 = ys.getD i 0 := fun i hi => by
          rw [List.getD_eq_getElem?_getD, List.getElem?_append_right (by omega), List.getD_eq_getElem?_getD]
          rw [hlen, Nat.add_sub_cancel_left]
        have hra : ∀ i, i < (vSlots M.1 0).length → (as.map vI ++ ys).getD (0 + i) 0 = (as.map vI).getD i 0 := fun i hi => by
          rw [vSlots_len] at hi
          rw [List.getD_eq_getElem?_getD, List.getElem?_append_left (by omega), List.getD_eq_getElem?_getD, Nat.zero_add]
        have hall : (List.range' 0 (M.1.length + c.2.length)).map (fun k => (as.map vI ++ ys).getD k 0) = as.map vI ++ ys := by
          rw [range_getD (by rw [List.length_append]; omega), List.take_of_length_le (by rw [List.length_append]; omega)]
        refine vRun_ok (X := (fun k => (as.map vI).getD k 0, lh0)) hT hSg hrt (hQ (some q)) (fun c' hc' lv2 lh2 ys2 a1 a2 a3 a4 => ?_) n true (fun k => (as.map vI ++ ys).getD k 0) (fun k => if k = 0 then lh0 else lh) _ _ _ _ lv' [] lh l h1 (h2 q) ?_ (vTake_ok b3 hrc (Nat.le_refl _)) trivial
        · rw [hpin] at a4
          exact ih _ (a4.2 q rfl) c' hc' lv2 lh2 ys2 a1 a2 a3 a4.1 rfl
        · refine ⟨fun f hf => ?_, rfl, b1, fun h hh => ?_, Nat.le_add_right _ _, fun k hk => ?_, rfl⟩
          · rcases List.mem_cons.mp hf with rfl | hf
            · refine ⟨⟨fun k hk => ?_, fun k hk => ?_⟩, ?_⟩
              · have := List.mem_range'_1.mp hk
                show k < M.1.length + c.2.length
                omega
              · rcases List.mem_cons.mp hk with rfl | hk
                · exact Nat.zero_le _
                · rw [List.mem_singleton.mp hk]
                  exact Nat.le_refl 1
              · unfold fD
                dsimp only
                rw [hall, fX_call (by decide)]
                refine ⟨⟨b2.1, b2.fr hWT.1, b1.rg⟩, ⟨b4, ?_⟩, ?_⟩
                · rw [List.take_append_of_le_length (by omega), ← hlen, List.take_length]
                  exact hp'
                · show some q = some (μ (c.1 : Int) (as.map vI ++ ys) lh0 lh)
                  rw [b5]
            · rcases List.mem_append.mp hf with hf | hf
              · exact vRngs_ok hat hra (by rw [vSlots_len]; show 0 + M.1.length ≤ M.1.length + c.2.length; omega) f hf
              · exact vRngs_ok b3 hrc (Nat.le_refl _) f hf
          · by_cases h9 : h = 0
            · rw [h9]
              exact b2
            · show hLw T _ _ (if h = 0 then lh0 else lh) lh
              rw [if_neg h9]
              exact hLw.refl _ _ _ _
          · show (as.map vI ++ ys).getD k 0 = (as.map vI).getD k 0
            rw [List.getD_eq_getElem?_getD, List.getElem?_append_left (by omega), List.getD_eq_getElem?_getD]
      · exact hand _ _ _ q hp' ih
  obtain ⟨l, h1, h2⟩ := hs
  obtain ⟨n1, o, e, q⟩ := vRun_ok (X := (fun k => (as.map vI).getD k 0, lh0)) hT hSg hrt (hQ none) (fun c' hc' lv2 lh2 ys2 a1 a2 a3 a4 => by
    rw [hpin] at a4
    exact good _ c' hc' lv2 lh2 ys2 a1 a2 a3 a4.1 rfl) n true (fun k => (as.map vI).getD k 0) (fun _ => lh0) _ _ _ _ (lv_args 0 as) [] lh0 l h1 h2 (by
      refine ⟨fun f hf => ?_, rfl, hWT, fun h _ => hLw.refl _ _ _ _, Nat.le_refl _, fun k _ => rfl, rfl⟩
      rcases List.mem_cons.mp hf with rfl | hf
      · refine ⟨⟨fun k hk => ?_, fun k hk => ?_⟩, ?_⟩
        · have := List.mem_range'_1.mp hk
          show k < M.1.length
          omega
        · rw [List.mem_singleton.mp hk]
          exact Nat.le_refl 0
        · unfold fD
          dsimp only
          rw [fX_call (by decide), hpin]
          exact ⟨hWT.rg, hp'⟩
      · exact vRngs_ok hat (fun i _ => by rw [Nat.zero_add]) (by rw [vSlots_len]; show 0 + M.1.length ≤ M.1.length; omega) f hf) (vTake_ok hat (fun i _ => by rw [Nat.zero_add]) (by rw [vSlots_len]; show 0 + M.1.length ≤ M.1.length; omega)) trivial
  exact ⟨n1, o, e, q⟩
end VNINE
