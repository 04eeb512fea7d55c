/-! CONTRACTS: a method's entry, the lists of those that it calls. -/
def vAllP (T : Nat → Nat → vT) (P : vP) (ρ : Nat → Int) (η : Nat → gH) : List vF → Prop
  | [] => True
  | f :: l => fD T P ρ η f ∧ vAllP T P ρ η l
theorem vAllP_of {T : Nat → Nat → vT} {P : vP} {ρ : Nat → Int} {η : Nat → gH} : ∀ {l : List vF}, (∀ f ∈ l, fD T P ρ η f) → vAllP T P ρ η l := by
  intro l
  induction l with
  | nil => intro _; exact trivial
  | cons a l ih => intro h; exact ⟨h a List.mem_cons_self, ih fun f hf => h f (List.mem_cons_of_mem _ hf)⟩
theorem vFin_fst (m : Nat) (g : vG) : (vFin m g).1 = g.1 := by
  unfold vFin
  cases Nat.ble 3000 g.2.1 <;> rfl
theorem vOk_in {T : Nat → Nat → vT} {P : vP} {m : Nat} {g : vG} (h : ∀ (ρ : Nat → Int) (η : Nat → gH), vAllP T P ρ η g.1 → fD T P ρ η (vFin m g).2) : vOkm T P m g := fun ρ η hf => h ρ η (vAllP_of (by rw [vFin_fst] at hf; exact hf))
abbrev vE : Type := Nat × vM × (List Int → gH → Prop) × (List Int → gH → gH → Prop)
noncomputable def eSg (L : List vE) (a : Nat) : Option vM := List.rec (motive := fun _ => Option vM) none (fun e _ ih => bif Nat.beq e.1 a then some e.2.1 else ih) L
noncomputable def eW (L : List vE) (a : Nat) : List (Nat × Nat) := List.rec (motive := fun _ => List (Nat × Nat)) [] (fun e _ ih => bif Nat.beq e.1 a then e.2.1.2.2.2.2 else ih) L
noncomputable def ePre (L : List vE) (a : Nat) : List Int → gH → Prop := List.rec (motive := fun _ => List Int → gH → Prop) (fun _ _ => True) (fun e _ ih => bif Nat.beq e.1 a then e.2.2.1 else ih) L
noncomputable def ePost (L : List vE) (a : Nat) : List Int → gH → gH → Prop := List.rec (motive := fun _ => List Int → gH → gH → Prop) (fun _ _ _ => True) (fun e _ ih => bif Nat.beq e.1 a then e.2.2.2 else ih) L
/-- the contract holds at depth d -/
def eC (e : vE) (d : Nat) : Prop := e.1 < 1000 ∧ gMeth T0 e.1 d e.2.1 e.2.2.1 e.2.2.2
def eAll : List vE → Nat → Prop
  | [], _ => True
  | e :: L, d => eC e d ∧ eAll L d
theorem eSg_ok {d : Nat} : ∀ {L : List vE}, eAll L d → ∀ a m, eSg L a = some m → a < 1000 ∧ gMeth T0 a d m (ePre L a) (ePost L a) ∧ eW L a = m.2.2.2.2 := by
  intro L
  induction L with
  | nil => intro _ a m h; cases h
  | cons e L ih =>
    intro hL a m h
    replace h : (bif Nat.beq e.1 a then some e.2.1 else eSg L a) = some m := h
    cases hq : Nat.beq e.1 a with
    | true =>
      rw [hq] at h
      have e1 := Nat.eq_of_beq_eq_true hq
      have e2 : e.2.1 = m := Option.some.inj h
      subst e1 e2
      have p1 : ePre (e :: L) e.1 = e.2.2.1 := by
        show (bif Nat.beq e.1 e.1 then e.2.2.1 else ePre L e.1) = _
        rw [hq]; rfl
      have p2 : ePost (e :: L) e.1 = e.2.2.2 := by
        show (bif Nat.beq e.1 e.1 then e.2.2.2 else ePost L e.1) = _
        rw [hq]; rfl
      have p3 : eW (e :: L) e.1 = e.2.1.2.2.2.2 := by
        show (bif Nat.beq e.1 e.1 then e.2.1.2.2.2.2 else eW L e.1) = _
        rw [hq]; rfl
      rw [p1, p2]
      exact ⟨hL.1.1, hL.1.2, p3⟩
    | false =>
      rw [hq] at h
      have p1 : ePre (e :: L) a = ePre L a := by
        show (bif Nat.beq e.1 a then e.2.2.1 else ePre L a) = _
        rw [hq]; rfl
      have p2 : ePost (e :: L) a = ePost L a := by
        show (bif Nat.beq e.1 a then e.2.2.2 else ePost L a) = _
        rw [hq]; rfl
      have p3 : eW (e :: L) a = eW L a := by
        show (bif Nat.beq e.1 a then e.2.1.2.2.2.2 else eW L a) = _
        rw [hq]; rfl
      rw [p1, p2, p3]
      exact ih hL.2 a m h
noncomputable def eR0 (e : vE) (L : List vE) (cs : List vC) (n : Nat) : vR := vRun T0 e.2.1.2.2.2.2 (Nat.beq e.2.1.2.2.2.1 0) (eSg L) cs e.2.1.2.1 e.1 n true (vS0 e.2.1.1) 0 (vTake (vSlots e.2.1.1 0) 0) []
noncomputable def eRc (e : vE) (L : List vE) (cs : List vC) (n : Nat) (c : vC) : vR := vRun T0 e.2.1.2.2.2.2 (Nat.beq e.2.1.2.2.2.1 0) (eSg L) cs e.2.1.2.1 e.1 n true (vSc e.2.1.1 c) c.1 (vTake c.2 e.2.1.1.length) []
noncomputable def eP (e : vE) (L : List vE) (A : Int → List Int → gH → gH → Prop) (μ : Int → List Int → gH → gH → Nat) (k : Option Nat) : vP := vPP (ePre L) (ePost L) (eW L) e.2.1.2.2.2.2 e.2.2.1 e.2.2.2 A μ e.2.1.1.length k
theorem vCovO_some {tp : Bool} {r : vR} {p : List vG} (h : vCovO tp r p = true) : ∃ l, r = some l ∧ vCov tp l p = true := by
  unfold vCovO at h
  cases r with
  | none => cases h
  | some l => exact ⟨l, rfl, h⟩
def eHand (e : vE) (A : Int → List Int → gH → gH → Prop) (μ : Int → List Int → gH → gH → Nat) (cs : List vC) (d : Nat) (c : vC) : Prop := ∀ (Q : gO → Prop) (xs : List Int) (h0 : gH) (q : Nat), e.2.2.1 xs h0 → (∀ q', q' < q → ∀ c ∈ cs, vGood T0 e.2.1.2.2.2.2 (Nat.beq e.2.1.2.2.2.1 0) A μ e.1 (d + 1) Q xs h0 q' c) → vGood T0 e.2.1.2.2.2.2 (Nat.beq e.2.1.2.2.2.1 0) A μ e.1 (d + 1) Q xs h0 q c
theorem eC_ok {e : vE} {L : List vE} {cs : List vC} {n d : Nat} {A : Int → List Int → gH → gH → Prop} {μ : Int → List Int → gH → gH → Nat} {tp : Bool} {p0 : List vG} (h1 : Nat.blt e.1 1000 = true) (hL : eAll L d) (hM : Nat.beq e.2.1.2.1.2.2.2 0 = true) (hpre : Nat.beq e.2.1.2.2.1 1 = true ∨ ∀ xs h, e.2.2.1 xs h) (hrt : rtOk (gRt e.1) e.2.1.2.1 = true) (htp : tp = true → ∀ xs h0 h, e.2.2.2 xs h0 h) (hs : vCovO tp (eR0 e L cs n) p0 = true) (ho : ∀ q ∈ p0, vOkm T0 (eP e L A μ none) e.2.1.1.length q) (hc : ∀ c ∈ cs, (∃ p, vCovO tp (eRc e L cs n c) p = true ∧ ∀ q, ∀ g ∈ p, vOkm T0 (eP e L A μ (some q)) e.2.1.1.length g) ∨ eHand e A μ cs d c) : eC e (d + 1) := by
  refine ⟨Nat.blt_eq.mp h1, gMeth_ok (cpre := ePre L) (cpost := ePost L) (cW := eW L) (Sg := eSg L) (cs := cs) (n := n) (A := A) (μ := μ) T0_ok (eSg_ok hL) (Nat.eq_of_beq_eq_true hM) (fun z => ?_) hrt ?_ ?_⟩
  · rcases hpre with h | h
    · exact absurd (Nat.eq_of_beq_eq_true h) z
    · exact h
  · obtain ⟨l, h2, h3⟩ := vCovO_some hs
    exact ⟨l, h2, vCov_ok htp h3 ho⟩
  · intro c hcm
    rcases hc c hcm with ⟨p, h2, h3⟩ | h2
    · obtain ⟨l, h4, h5⟩ := vCovO_some h2
      exact .inl ⟨l, h4, fun q => vCov_ok htp h5 (h3 q)⟩
    · exact .inr h2
theorem allN {α : Type} {p : α → Prop} : ∀ x ∈ ([] : List α), p x := fun _ h => nomatch h
theorem allC {α : Type} {p : α → Prop} {a : α} {l : List α} (h : p a) (hl : ∀ x ∈ l, p x) : ∀ x ∈ a :: l, p x := fun x hx => by
  rcases List.mem_cons.mp hx with rfl | hx
  · exact h
  · exact hl x hx
def pre0 : List Int → gH → Prop := fun _ _ => True
def post0 : List Int → gH → gH → Prop := fun _ _ _ => True
theorem pre0_ok : ∀ xs h, pre0 xs h := fun _ _ => trivial
theorem post0_ok : ∀ xs h0 h, post0 xs h0 h := fun _ _ _ => trivial
theorem w32_id {x : Int} (h1 : -2147483648 ≤ x) (h2 : x ≤ 2147483647) : w32 x = x := by
  unfold w32
  omega
theorem kLe {T : Nat → Nat → vT} {a b : gH} {o k : Nat} (h : hLe T a b) (hk : hK a o = k) (h9 : Nat.beq k 999 = false) : hK b o = k := by
  rw [(h.2 o (hK_lt hk (Nat.ne_of_beq_eq_false h9))).1]
  exact hk
theorem kUp {a b : gH} {q k : Nat} {o i w : Int} (h : hUpd b a o i w) (hk : hK a q = k) : hK b q = k := (h.2.2 q).1.trans hk
theorem kNe {a : gH} {x y : Int} {k l : Nat} (hx : hK a x.toNat = k) (hy : hK a y.toNat = l) (h : Nat.beq k l = false) (e : (x.toNat : Int) = y) : False := by
  rw [← e, Int.toNat_natCast, hx] at hy
  exact Nat.ne_of_beq_eq_false h hy
/-- rows for scripts: a slot after a write, after a call -/
theorem uSlot {h' h : gH} {o i w : Int} (f : hUpd h' h o i w) (q j : Nat) (n : ¬ (j : Int) = i) : hV h' q j = hV h q j := by
  have z := f.1 q j
  rw [if_neg (fun y => n y.2)] at z
  exact z
theorem uPlace {h' h : gH} {o i w : Int} (f : hUpd h' h o i w) (q j : Nat) (n : ¬ (q : Int) = o) : hV h' q j = hV h q j := by
  have z := f.1 q j
  rw [if_neg (fun y => n y.1)] at z
  exact z
theorem uSame {h' h : gH} {o i w : Int} (f : hUpd h' h o i w) (q j : Nat) (n : (q : Int) = o) (m : (j : Int) = i) : hV h' q j = w := by
  have z := f.1 q j
  rw [if_pos ⟨n, m⟩] at z
  exact z
theorem uOr {h' h : gH} {o i w : Int} (f : hUpd h' h o i w) (q j : Nat) (n : (q : Int) = o) : ((j : Int) = i ∧ hV h' q j = w) ∨ (¬ (j : Int) = i ∧ hV h' q j = hV h q j) := by
  by_cases m : (j : Int) = i
  · exact .inl ⟨m, uSame f q j n m⟩
  · exact .inr ⟨m, uSlot f q j m⟩
theorem iS {x : Int} {n : Nat} (h : x = (n : Int)) {m : Nat} (e : Nat.beq m n = false) : ¬ (m : Int) = x := by
  rw [h]
  intro z
  exact Nat.ne_of_beq_eq_false e (Int.ofNat.inj z)
