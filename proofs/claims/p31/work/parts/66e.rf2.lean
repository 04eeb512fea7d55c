/-! CONTRACTS TOLD MORE FULLY, one behind another: what holds of a whole run is kept (hand; behind rf). -/
def eOK (e : vE) (L : List vE) (cs : List vC) (n : Nat) (A : Int → List Int → gH → gH → Prop) (μ : Int → List Int → gH → gH → Nat) : Prop := (∃ l, eR0 e L cs n = some l ∧ ∀ g ∈ l, vOkm T0 (eP e L A μ none) e.2.1.1.length g) ∧ ∀ c ∈ cs, ∃ l, eRc e L cs n c = some l ∧ ∀ q, ∀ g ∈ l, vOkm T0 (eP e L A μ (some q)) e.2.1.1.length g
theorem eOK_of {e : vE} {L : List vE} {cs : List vC} {n : Nat} {A : Int → List Int → gH → gH → Prop} {μ : Int → List Int → gH → gH → Nat} {tp : Bool} {p0 : List vG} (htp : tp = true → ∀ xs h0 h, e.2.2.2 xs h0 h) (hs : vCovO tp (eR0 e L cs n) p0 = true) (ho : ∀ q ∈ p0, vOkm T0 (eP e L A μ none) e.2.1.1.length q) (hc : ∀ c ∈ cs, (∃ p, vCovO tp (eRc e L cs n c) p = true ∧ ∀ q, ∀ g ∈ p, vOkm T0 (eP e L A μ (some q)) e.2.1.1.length g) ∨ False) : eOK e L cs n A μ := by
  refine ⟨?_, fun c hcm => ?_⟩
  · obtain ⟨l, h2, h3⟩ := vCovO_some hs
    exact ⟨l, h2, vCov_ok htp h3 ho⟩
  · rcases hc c hcm with ⟨p, h2, h3⟩ | h2
    · obtain ⟨l, h4, h5⟩ := vCovO_some h2
      exact ⟨l, h4, fun q => vCov_ok htp h5 (h3 q)⟩
    · exact h2.elim
theorem eOK_ref {e : vE} {L L' : List vE} {cs : List vC} {n : Nat} {A : Int → List Int → gH → gH → Prop} {μ : Int → List Int → gH → gH → Nat} {p1 : List vG} {N : List Int → gH → gH → Prop} {B : Int → List Int → gH → gH → Prop} (z : eOK e L cs n A μ) (hE : eSub L L') (hs' : vCovBO (eR0 e L cs n) p1 = true) (ho' : ∀ q ∈ p1, vOkm T0 (eN e L' A μ N B none) e.2.1.1.length q) (hc' : ∀ c ∈ cs, ∃ p, vCovBO (eRc e L cs n c) p = true ∧ ∀ q, ∀ g ∈ p, vOkm T0 (eN e L' A μ N B (some q)) e.2.1.1.length g) : eOK (eV e N) L' cs n (eAB A B) μ := by
  obtain ⟨s1, s2, s3, s4⟩ := eSub_sg hE
  have r0 : eR0 (eV e N) L' cs n = eR0 e L cs n := by
    unfold eR0
    rw [s1]
    rfl
  have rc : ∀ c, eRc (eV e N) L' cs n c = eRc e L cs n c := fun c => by
    unfold eRc
    rw [s1]
    rfl
  refine ⟨?_, fun c hcm => ?_⟩
  · obtain ⟨l, h2, h3⟩ := z.1
    obtain ⟨l2, h4, h5⟩ := vCovBO_some hs'
    obtain rfl : l = l2 := Option.some.inj (h2.symm.trans h4)
    rw [r0]
    exact ⟨l, h2, vCovB_ok (eRef_1 hE) (eRef_2 hE) h5 h3 ho'⟩
  · obtain ⟨l, h4, h5⟩ := z.2 c hcm
    obtain ⟨p2, h6, h7⟩ := hc' c hcm
    obtain ⟨l2, h8, h9⟩ := vCovBO_some h6
    obtain rfl : l = l2 := Option.some.inj (h4.symm.trans h8)
    rw [rc]
    exact ⟨l, h4, fun q => vCovB_ok (eRef_1 hE) (eRef_2 hE) h9 (h5 q) (h7 q)⟩
theorem eC_OK {e : vE} {L : List vE} {cs : List vC} {n d : Nat} {A : Int → List Int → gH → gH → Prop} {μ : Int → List Int → gH → gH → Nat} (z : eOK e L cs n A μ) (h1 : Nat.blt e.1 1000 = true) (hL : eAll L d) (hM : Nat.beq e.2.1.2.1.2.2.2 0 = true) (hpre : Nat.beq e.2.1.2.2.1 1 = true ∨ ∀ xs h, e.2.2.1 xs h) (hrt : rtOk (gRt e.1) e.2.1.2.1 = true) : eC e (d + 1) := by
  refine ⟨Nat.blt_eq.mp h1, gMeth_ok (cpre := ePre L) (cpost := ePost L) (cW := eW L) (Sg := eSg L) (cs := cs) (n := n) (A := A) (μ := μ) T0_ok (eSg_ok hL) (Nat.eq_of_beq_eq_true hM) (fun w => ?_) hrt z.1 (fun c hcm => .inl (z.2 c hcm))⟩
  rcases hpre with h | h
  · exact absurd (Nat.eq_of_beq_eq_true h) w
  · exact h
