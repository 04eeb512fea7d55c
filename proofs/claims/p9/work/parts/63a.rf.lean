/-! A CONTRACT TOLD MORE FULLY: what stands is kept, ends and cuts say more. -/
/-- the run's goals at ends and cuts alone, in their order -/
noncomputable def vCovB (l : List vG) : List vG → Bool := List.rec (motive := fun _ => List vG → Bool) (fun p => match p with
  | [] => true
  | _ :: _ => false) (fun g _ ih p => bif Nat.blt g.2.1 3000 then (bif Nat.ble 1000 g.2.1 && Nat.blt g.2.1 2000 then false else ih p) else (match p with
  | [] => false
  | q :: t => bif fEqF q.2 g.2 then (bif vSubF g.1 q.1 then (bif Nat.blt g.2.1 5000 then (bif fAny (fun f => Nat.ble 3000 f.1 && Nat.blt f.1 5000) q.1 then false else ih t) else false) else false) else false)) l
noncomputable def vCovBO (r : vR) (p : List vG) : Bool := match r with
  | some l => vCovB l p
  | none => false
theorem fAny_no {α : Type} {p : α → Bool} : ∀ {l : List α}, fAny p l = false → ∀ x ∈ l, p x = false := by
  intro l
  induction l with
  | nil => intro _ x hx; cases hx
  | cons a l ih =>
    intro h x hx
    replace h : (bif p a then true else fAny p l) = false := h
    cases hp : p a with
    | true => rw [hp] at h; cases h
    | false =>
      rw [hp] at h
      rcases List.mem_cons.mp hx with rfl | hx
      · exact hp
      · exact ih h x hx
theorem vCovB_ok {T : Nat → Nat → vT} {P P' : vP} {m : Nat} (hB : ∀ g : vG, (1000 ≤ g.2.1 → 2000 ≤ g.2.1) → g.2.1 < 3000 → vOkm T P m g → vOkm T P' m g) {PN : vP} (hN : ∀ g q : vG, 3000 ≤ g.2.1 → g.2.1 < 5000 → q.2 = g.2 → (∀ f ∈ q.1, f ∈ g.1) → (∀ f ∈ q.1, f.1 < 3000 ∨ 5000 ≤ f.1) → vOkm T P m g → vOkm T PN m q → vOkm T P' m g) : ∀ {l p : List vG}, vCovB l p = true → (∀ g ∈ l, vOkm T P m g) → (∀ q ∈ p, vOkm T PN m q) → ∀ g ∈ l, vOkm T P' m g := by
  intro l
  induction l with
  | nil => intro p _ _ _ g hg; cases hg
  | cons a l ih =>
    intro p h ho hq g hg
    replace h : (bif Nat.blt a.2.1 3000 then (bif Nat.ble 1000 a.2.1 && Nat.blt a.2.1 2000 then false else vCovB l p) else (match (generalizing := false) p with
      | [] => false
      | q :: t => bif fEqF q.2 a.2 then (bif vSubF a.1 q.1 then (bif Nat.blt a.2.1 5000 then (bif fAny (fun f => Nat.ble 3000 f.1 && Nat.blt f.1 5000) q.1 then false else vCovB l t) else false) else false) else false)) = true := h
    have ho2 : ∀ g ∈ l, vOkm T P m g := fun g hm => ho g (List.mem_cons_of_mem _ hm)
    cases h1 : Nat.blt a.2.1 3000 with
    | true =>
      rw [h1] at h
      dsimp only [cond_true] at h
      cases h2 : (Nat.ble 1000 a.2.1 && Nat.blt a.2.1 2000) with
      | true => rw [h2] at h; cases h
      | false =>
        rw [h2] at h
        rcases List.mem_cons.mp hg with rfl | hg
        · refine hB _ (fun z => ?_) (Nat.blt_eq.mp h1) (ho _ List.mem_cons_self)
          rw [Nat.ble_eq.mpr z, Bool.true_and] at h2
          rcases Nat.lt_or_ge g.2.1 2000 with y | y
          · rw [Nat.blt_eq.mpr y] at h2
            cases h2
          · exact y
        · exact ih h ho2 hq g hg
    | false =>
      rw [h1] at h
      dsimp only [cond_false] at h
      have h3 : 3000 ≤ a.2.1 := by
        rcases Nat.lt_or_ge a.2.1 3000 with y | y
        · rw [Nat.blt_eq.mpr y] at h1
          cases h1
        · exact y
      cases p with
      | nil => cases h
      | cons q t =>
        dsimp only at h
        cases h4 : fEqF q.2 a.2 with
        | false => rw [h4] at h; cases h
        | true =>
          rw [h4] at h
          dsimp only [cond_true] at h
          cases h5 : vSubF a.1 q.1 with
          | false => rw [h5] at h; cases h
          | true =>
            rw [h5] at h
            dsimp only [cond_true] at h
            cases h6 : Nat.blt a.2.1 5000 with
            | false => rw [h6] at h; cases h
            | true =>
              rw [h6] at h
              dsimp only [cond_true] at h
              cases h7 : fAny (fun f : vF => Nat.ble 3000 f.1 && Nat.blt f.1 5000) q.1 with
              | true => rw [h7] at h; cases h
              | false =>
                rw [h7] at h
                rcases List.mem_cons.mp hg with rfl | hg
                · refine hN _ q h3 (Nat.blt_eq.mp h6) (fEqF_ok h4) (vSubF_ok h5) (fun f hm => ?_) (ho _ List.mem_cons_self) (hq q List.mem_cons_self)
                  have z := fAny_no h7 f hm
                  rcases Nat.lt_or_ge f.1 3000 with y | y
                  · exact .inl y
                  · rcases Nat.lt_or_ge f.1 5000 with x | x
                    · rw [Nat.ble_eq.mpr y, Nat.blt_eq.mpr x] at z
                      cases z
                    · exact .inr x
                · exact ih h ho2 (fun q hm => hq q (List.mem_cons_of_mem _ hm)) g hg
/-- a contract with more at its end -/
def eV (e : vE) (N : List Int → gH → gH → Prop) : vE := (e.1, e.2.1, e.2.2.1, fun xs h0 h => e.2.2.2 xs h0 h ∧ N xs h0 h)
def eAB (A B : Int → List Int → gH → gH → Prop) : Int → List Int → gH → gH → Prop := fun c xs h0 h => A c xs h0 h ∧ B c xs h0 h
/-- facts told fully, goals that are new alone -/
noncomputable def eN (e : vE) (L : List vE) (A : Int → List Int → gH → gH → Prop) (μ : Int → List Int → gH → gH → Nat) (N : List Int → gH → gH → Prop) (B : Int → List Int → gH → gH → Prop) (k : Option Nat) : vP := (ePre L, ePost L, e.2.2.1, fun c xs h0 h => (eAB A B c xs h0 h ∧ e.2.2.1 (xs.take e.2.1.1.length) h0) ∧ k = some (μ c xs h0 h), B, N, eW L, e.2.1.2.2.2.2)
def eSub : List vE → List vE → Prop
  | [], [] => True
  | a :: l, b :: m => (b.1 = a.1 ∧ b.2.1 = a.2.1 ∧ b.2.2.1 = a.2.2.1 ∧ ∀ xs h0 h, b.2.2.2 xs h0 h → a.2.2.2 xs h0 h) ∧ eSub l m
  | _, _ => False
theorem eSub_sg : ∀ {L M : List vE}, eSub L M → eSg M = eSg L ∧ eW M = eW L ∧ ePre M = ePre L ∧ ∀ a xs h0 h, ePost M a xs h0 h → ePost L a xs h0 h := by
  intro L
  induction L with
  | nil => intro M h; cases M with
    | nil => exact ⟨rfl, rfl, rfl, fun _ _ _ _ z => z⟩
    | cons b m => exact h.elim
  | cons a l ih =>
    intro M h
    cases M with
    | nil => exact h.elim
    | cons b m =>
      obtain ⟨⟨h1, h2, h3, h4⟩, h5⟩ := h
      obtain ⟨i1, i2, i3, i4⟩ := ih h5
      refine ⟨funext fun k => ?_, funext fun k => ?_, funext fun k => ?_, fun k xs h0 h => ?_⟩
      · show (bif Nat.beq b.1 k then some b.2.1 else eSg m k) = (bif Nat.beq a.1 k then some a.2.1 else eSg l k)
        rw [h1, h2, i1]
      · show (bif Nat.beq b.1 k then b.2.1.2.2.2.2 else eW m k) = (bif Nat.beq a.1 k then a.2.1.2.2.2.2 else eW l k)
        rw [h1, h2, i2]
      · show (bif Nat.beq b.1 k then b.2.2.1 else ePre m k) = (bif Nat.beq a.1 k then a.2.2.1 else ePre l k)
        rw [h1, h3, i3]
      · show (bif Nat.beq b.1 k then b.2.2.2 else ePost m k) xs h0 h → (bif Nat.beq a.1 k then a.2.2.2 else ePost l k) xs h0 h
        rw [h1]
        cases Nat.beq a.1 k with
        | true => exact h4 xs h0 h
        | false => exact i4 k xs h0 h
theorem eSub_refl : ∀ {L : List vE}, eSub L L := by
  intro L
  induction L with
  | nil => exact trivial
  | cons a l ih => exact ⟨⟨rfl, rfl, rfl, fun _ _ _ z => z⟩, ih⟩
theorem sub1 {e : vE} {N : List Int → gH → gH → Prop} {l m : List vE} (h : eSub l m) : eSub (e :: l) (eV e N :: m) := ⟨⟨rfl, rfl, rfl, fun _ _ _ z => z.1⟩, h⟩
theorem sub0 {e : vE} {l m : List vE} (h : eSub l m) : eSub (e :: l) (e :: m) := ⟨⟨rfl, rfl, rfl, fun _ _ _ z => z⟩, h⟩
theorem fX_ge {T : Nat → Nat → vT} {P : vP} {op : Nat} {xs : List Int} {hs : List gH} {c : Int} (h : 1000 ≤ op) : fX T P op xs hs c = fX2 T P op xs hs c := by
  unfold fX
  rw [Nat.ble_eq.mpr h]
  rfl
theorem fX_lt {T : Nat → Nat → vT} {P P' : vP} {op : Nat} {xs : List Int} {hs : List gH} {c : Int} (h : op < 1000) : fX T P op xs hs c = fX T P' op xs hs c := by
  unfold fX
  cases hb : Nat.ble 1000 op with
  | true => have := Nat.ble_eq.mp hb; omega
  | false => rfl
/-- facts told fully say what facts said -/
theorem fD_weak {T : Nat → Nat → vT} {P P' : vP} (h1 : P'.1 = P.1) (h2 : ∀ a xs h0 h, P'.2.1 a xs h0 h → P.2.1 a xs h0 h) (h3 : P'.2.2.1 = P.2.2.1) (h4 : ∀ c xs h0 h, P'.2.2.2.1 c xs h0 h → P.2.2.2.1 c xs h0 h) (h5 : ∀ c xs h0 h, P'.2.2.2.2.1 c xs h0 h → P.2.2.2.2.1 c xs h0 h) (h6 : ∀ xs h0 h, P'.2.2.2.2.2.1 xs h0 h → P.2.2.2.2.2.1 xs h0 h) (h7 : P'.2.2.2.2.2.2 = P.2.2.2.2.2.2) {ρ : Nat → Int} {η : Nat → gH} {f : vF} (hf : fD T P' ρ η f) : fD T P ρ η f := by
  unfold fD at hf ⊢
  rcases Nat.lt_or_ge f.1 1000 with z | z
  · rw [fX_lt (P' := P') z]
    exact hf
  · rw [fX_ge z] at hf ⊢
    unfold fX2 at hf ⊢
    rw [h1, h3, h7] at hf
    split
    · rename_i c
      rw [if_pos c] at hf
      split
      · rename_i a b e
        rw [e] at hf
        exact ⟨hf.1, h2 _ _ _ _ hf.2⟩
      · trivial
    · rename_i c1
      rw [if_neg c1] at hf
      split
      · rename_i c
        rw [if_pos c] at hf
        exact hf
      · rename_i c2
        rw [if_neg c2] at hf
        split
        · rename_i c
          rw [if_pos c] at hf
          split
          · rename_i a b e
            rw [e] at hf
            exact h6 _ _ _ hf
          · rename_i e
            split at hf
            · rename_i a b e2
              exact absurd e2 (e a b)
            · exact hf
        · rename_i c3
          rw [if_neg c3] at hf
          split
          · rename_i c
            rw [if_pos c] at hf
            split
            · rename_i a b e
              rw [e] at hf
              exact h5 _ _ _ _ hf
            · rename_i e
              split at hf
              · rename_i a b e2
                exact absurd e2 (e a b)
              · exact hf
          · rename_i c4
            rw [if_neg c4] at hf
            split
            · rename_i c
              rw [if_pos c] at hf
              split
              · rename_i a b e
                rw [e] at hf
                exact ⟨hf.1, h4 _ _ _ _ hf.2⟩
              · trivial
            · rename_i c
              rw [if_neg c] at hf
              exact hf
theorem eRef_B {e : vE} {L L' : List vE} {A B : Int → List Int → gH → gH → Prop} {μ : Int → List Int → gH → gH → Nat} {N : List Int → gH → gH → Prop} {k : Option Nat} (hE : eSub L L') {ρ : Nat → Int} {η : Nat → gH} {f : vF} (hf : fD T0 (eP (eV e N) L' (eAB A B) μ k) ρ η f) : fD T0 (eP e L A μ k) ρ η f := by
  obtain ⟨s1, s2, s3, s4⟩ := eSub_sg hE
  refine fD_weak (P := eP e L A μ k) (P' := eP (eV e N) L' (eAB A B) μ k) s3 s4 rfl (fun c xs h0 h z => ?_) (fun c xs h0 h z => ?_) (fun xs h0 h z => z.1) ?_ hf
  · exact ⟨⟨z.1.1.1, z.1.2⟩, z.2⟩
  · exact ⟨z.1.1, z.2⟩
  · show (eW L', _) = (eW L, _)
    rw [s2]
    rfl
theorem eRef_F {e : vE} {L' : List vE} {A B : Int → List Int → gH → gH → Prop} {μ : Int → List Int → gH → gH → Nat} {N : List Int → gH → gH → Prop} {k : Option Nat} {ρ : Nat → Int} {η : Nat → gH} {f : vF} (h : f.1 < 3000 ∨ 5000 ≤ f.1) (hf : fD T0 (eP (eV e N) L' (eAB A B) μ k) ρ η f) : fD T0 (eN e L' A μ N B k) ρ η f := by
  unfold fD at hf ⊢
  rcases Nat.lt_or_ge f.1 1000 with z | z
  · rw [fX_lt (P' := eP (eV e N) L' (eAB A B) μ k) z]
    exact hf
  · rw [fX_ge z] at hf ⊢
    unfold fX2 at hf ⊢
    split
    · rename_i c
      rw [if_pos c] at hf
      exact hf
    · rename_i c1
      rw [if_neg c1] at hf
      split
      · rename_i c
        rw [if_pos c] at hf
        exact hf
      · rename_i c2
        rw [if_neg c2] at hf
        rw [if_neg (by omega), if_neg (by omega)] at hf ⊢
        exact hf
theorem eRef_1 {e : vE} {L L' : List vE} {A B : Int → List Int → gH → gH → Prop} {μ : Int → List Int → gH → gH → Nat} {N : List Int → gH → gH → Prop} {k : Option Nat} {m : Nat} (hE : eSub L L') (g : vG) (h1 : 1000 ≤ g.2.1 → 2000 ≤ g.2.1) (h2 : g.2.1 < 3000) (ho : vOkm T0 (eP e L A μ k) m g) : vOkm T0 (eP (eV e N) L' (eAB A B) μ k) m g := by
  obtain ⟨s1, s2, s3, s4⟩ := eSub_sg hE
  intro ρ η hf
  have z := ho ρ η (fun f hm => eRef_B hE (hf f hm))
  have e1 : (vFin m g).2.1 = g.2.1 := by
    unfold vFin
    cases Nat.ble 3000 g.2.1 <;> rfl
  unfold fD at z ⊢
  rw [e1] at z ⊢
  rcases Nat.lt_or_ge g.2.1 1000 with y | y
  · rw [fX_lt (P' := eP e L A μ k) y]
    exact z
  · rw [fX_ge y] at z ⊢
    unfold fX2 at z ⊢
    have := h1 y
    rw [if_neg (by omega), if_pos h2] at z ⊢
    show (match _ with | [h] => ePre L' _ _ h | _ => False)
    rw [s3]
    exact z
theorem eRef_2 {e : vE} {L L' : List vE} {A B : Int → List Int → gH → gH → Prop} {μ : Int → List Int → gH → gH → Nat} {N : List Int → gH → gH → Prop} {k : Option Nat} {m : Nat} (hE : eSub L L') (g q : vG) (h1 : 3000 ≤ g.2.1) (h2 : g.2.1 < 5000) (h3 : q.2 = g.2) (h4 : ∀ f ∈ q.1, f ∈ g.1) (h5 : ∀ f ∈ q.1, f.1 < 3000 ∨ 5000 ≤ f.1) (ho : vOkm T0 (eP e L A μ k) m g) (hn : vOkm T0 (eN e L' A μ N B k) m q) : vOkm T0 (eP (eV e N) L' (eAB A B) μ k) m g := by
  intro ρ η hf
  have z := ho ρ η (fun f hm => eRef_B hE (hf f hm))
  have y := hn ρ η (fun f hm => by
    rw [vFin_fst] at hm
    exact eRef_F (h5 f hm) (hf f (by rw [vFin_fst]; exact h4 f hm)))
  have e0 : (vFin m q).2 = (vFin m g).2 := by
    unfold vFin
    rw [h3]
    cases Nat.ble 3000 g.2.1 with
    | true => rfl
    | false => exact h3
  rw [e0] at y
  have e1 : (vFin m g).2.1 = g.2.1 := by
    unfold vFin
    cases Nat.ble 3000 g.2.1 <;> rfl
  unfold fD at z y ⊢
  rw [e1] at z y ⊢
  rw [fX_ge (by omega)] at z y ⊢
  unfold fX2 at z y ⊢
  rw [if_neg (by omega), if_neg (by omega)] at z y ⊢
  rcases Nat.lt_or_ge g.2.1 4000 with c | c
  · rw [if_pos c] at z y ⊢
    split at z
    · rename_i a b hs
      rw [hs] at y
      exact ⟨z, y⟩
    · exact z.elim
  · rw [if_neg (by omega), if_pos h2] at z y ⊢
    split at z
    · rename_i a b hs
      rw [hs] at y
      exact ⟨⟨z.1, y⟩, z.2⟩
    · exact z.elim
theorem vCovBO_some {r : vR} {p : List vG} (h : vCovBO r p = true) : ∃ l, r = some l ∧ vCovB l p = true := by
  unfold vCovBO at h
  cases r with
  | none => cases h
  | some l => exact ⟨l, rfl, h⟩
theorem eC_ref {e : vE} {L L' : List vE} {cs : List vC} {n d : Nat} {A : Int → List Int → gH → gH → Prop} {μ : Int → List Int → gH → gH → Nat} {tp : Bool} {p0 p1 : List vG} {N : List Int → gH → gH → Prop} {B : Int → List Int → gH → gH → Prop} (h1 : Nat.blt e.1 1000 = true) (hL : eAll L' d) (hM : Nat.beq e.2.1.2.1.2.2.2 0 = true) (hpre : Nat.beq e.2.1.2.2.1 1 = true ∨ ∀ xs h, e.2.2.1 xs h) (hrt : rtOk (gRt e.1) e.2.1.2.1 = true) (htp : tp = true → ∀ xs h0 h, e.2.2.2 xs h0 h) (hs : vCovO tp (eR0 e L cs n) p0 = true) (ho : ∀ q ∈ p0, vOkm T0 (eP e L A μ none) e.2.1.1.length q) (hc : ∀ c ∈ cs, (∃ p, vCovO tp (eRc e L cs n c) p = true ∧ ∀ q, ∀ g ∈ p, vOkm T0 (eP e L A μ (some q)) e.2.1.1.length g) ∨ False)
    (hE : eSub L L') (hs' : vCovBO (eR0 e L cs n) p1 = true) (ho' : ∀ q ∈ p1, vOkm T0 (eN e L' A μ N B none) e.2.1.1.length q) (hc' : ∀ c ∈ cs, ∃ p, vCovBO (eRc e L cs n c) p = true ∧ ∀ q, ∀ g ∈ p, vOkm T0 (eN e L' A μ N B (some q)) e.2.1.1.length g) : eC (eV e N) (d + 1) := by
  obtain ⟨s1, s2, s3, s4⟩ := eSub_sg hE
  refine ⟨Nat.blt_eq.mp h1, gMeth_ok (cpre := ePre L') (cpost := ePost L') (cW := eW L') (Sg := eSg L') (cs := cs) (n := n) (A := eAB A B) (μ := μ) T0_ok (eSg_ok hL) (Nat.eq_of_beq_eq_true hM) (fun z => ?_) hrt ?_ ?_⟩
  · rcases hpre with h | h
    · exact absurd (Nat.eq_of_beq_eq_true h) z
    · exact h
  · obtain ⟨l, h2, h3⟩ := vCovO_some hs
    obtain ⟨l2, h4, h5⟩ := vCovBO_some hs'
    obtain rfl : l = l2 := Option.some.inj (h2.symm.trans h4)
    rw [s1]
    exact ⟨l, h2, vCovB_ok (eRef_1 hE) (eRef_2 hE) h5 (vCov_ok htp h3 ho) ho'⟩
  · intro c hcm
    rcases hc c hcm with ⟨p, h2, h3⟩ | h2
    · obtain ⟨l, h4, h5⟩ := vCovO_some h2
      obtain ⟨p2, h6, h7⟩ := hc' c hcm
      obtain ⟨l2, h8, h9⟩ := vCovBO_some h6
      obtain rfl : l = l2 := Option.some.inj (h4.symm.trans h8)
      rw [s1]
      exact .inl ⟨l, h4, fun q => vCovB_ok (eRef_1 hE) (eRef_2 hE) h9 (vCov_ok htp h5 (h3 q)) (h7 q)⟩
    · exact h2.elim
