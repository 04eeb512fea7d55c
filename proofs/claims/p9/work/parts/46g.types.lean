/-! THE HEAP BEHIND THE START HAS ITS TYPES. -/
noncomputable def sKc (o : Nat) (c : sC) : Nat := bif Nat.blt c.1 100 then c.1 else (bif Nat.blt (c.1 - 100) 8 then 100 + (c.1 - 100) + 8 * vPc o else 999)
def sNn (c : sC) : Nat := bif Nat.blt c.1 100 then gN c.1 else c.2.1
noncomputable def sIsR (S : sH) (k : Nat) (n : Int) (i : Nat) : Bool := Nat.ble 7 i && (Nat.blt i 358 && (match fNth S i with
  | some c => !(Nat.beq k 999) && (Nat.beq (sKc i c) k && (Nat.ble (sNn c) 65536 && ((decide (n < 0) || (bif Nat.blt k 100 then decide ((i : Int) = n) else decide ((sNn c : Int) = n))) && (bif Nat.blt k 100 then (List.range (gN k)).all (fun f => Nat.beq (T0 k f).2.2.2 0 || !(Nat.beq (sGet c f).1 2)) else Nat.beq (T0 k 0).2.2.2 0))))
  | none => false))
noncomputable def sVok (S : sH) (t : vT) (v : sV) : Bool := match t.1 with
  | 0 => Nat.beq v.1 0 && (decide (t.2.1 ≤ v.2.1) && decide (v.2.2 ≤ t.2.2.1))
  | 1 => Nat.beq v.1 1
  | 3 => Nat.beq v.1 3 && sIsR S t.2.1.toNat t.2.2.1 v.2.1.toNat
  | _ => Nat.beq v.1 2 || (Nat.beq v.1 3 && (sIsR S t.2.1.toNat t.2.2.1 v.2.1.toNat && (Nat.blt t.2.2.2 2 || Nat.beq v.2.1.toNat (t.2.2.2 - 2))))
noncomputable def sCell (S : sH) (o : Nat) (c : sC) : Bool := bif Nat.blt c.1 100 then (List.range (gN c.1)).all (fun f => sVok S (T0 c.1 f) (sGet c f)) else (bif Nat.ble c.2.1 65536 then sVok S (T0 (sKc o c) 0) (sDf c.1 0) && c.2.2.all (fun q => sVok S (T0 (sKc o c) 0) q.2) else Nat.beq (T0 (sKc o c) 0).1 0 && (decide ((T0 (sKc o c) 0).2.1 ≤ -2147483648) && decide (2147483647 ≤ (T0 (sKc o c) 0).2.2.1)))
def s135 (o : Nat) : Bool := Nat.beq o 1 || (Nat.beq o 3 || Nat.beq o 5)
noncomputable def sAllC (S : sH) (l : sH) : Nat → Bool := List.rec (motive := fun _ => Nat → Bool) (fun _ => true) (fun c _ ih o => (bif s135 o then Nat.beq c.1 13 else sCell S o c) && fNat (o + 1) ih) l
noncomputable def sKs (S : sH) : Bool := (List.range 358).all (fun o => Nat.beq (vKd o) 0 || (match fNth S o with
  | some c => Nat.ble 7 o && Nat.beq (vKd o) (sKc o c + 1)
  | none => false))
/-- the strings' objects, which nobody asks behind the start, are taken away -/
def hDum (lh : gH) : gH := ((lh.set 1 hDm).set 3 hDm).set 5 hDm
theorem s135_iff {o : Nat} : s135 o = true ↔ (o = 1 ∨ o = 3 ∨ o = 5) := by
  unfold s135
  rw [Bool.or_eq_true, Bool.or_eq_true]
  constructor
  · rintro (h | h | h)
    · exact .inl (Nat.eq_of_beq_eq_true h)
    · exact .inr (.inl (Nat.eq_of_beq_eq_true h))
    · exact .inr (.inr (Nat.eq_of_beq_eq_true h))
  · rintro (rfl | rfl | rfl) <;> decide
theorem hDum_len (lh : gH) : (hDum lh).length = lh.length := by
  unfold hDum
  rw [List.length_set, List.length_set, List.length_set]
theorem hDum_ne {lh : gH} {o : Nat} (h : ¬ (o = 1 ∨ o = 3 ∨ o = 5)) : (hDum lh)[o]? = lh[o]? := by
  unfold hDum
  rw [List.getElem?_set_ne (by omega), List.getElem?_set_ne (by omega), List.getElem?_set_ne (by omega)]
theorem hDum_at {lh : gH} {o : Nat} (hl : 6 ≤ lh.length) (h : o = 1 ∨ o = 3 ∨ o = 5) : (hDum lh)[o]? = some hDm := by
  unfold hDum
  rcases h with rfl | rfl | rfl
  · rw [List.getElem?_set_ne (by decide), List.getElem?_set_ne (by decide), List.getElem?_set_self (by omega)]
  · rw [List.getElem?_set_ne (by decide), List.getElem?_set_self (by rw [List.length_set]; omega)]
  · rw [List.getElem?_set_self (by rw [List.length_set, List.length_set]; omega)]
section TYPS
variable {ρ : Nat → Int32} {S : sH} {lh : gH}
theorem sAllC_at {S : sH} : ∀ {l : sH} {o : Nat}, sAllC S l o = true → ∀ {i : Nat} {c : sC}, l[i]? = some c → (bif s135 (o + i) then Nat.beq c.1 13 else sCell S (o + i) c) = true := by
  intro l
  induction l with
  | nil => intro o _ i c h; cases h
  | cons a l ih =>
    intro o h i c hi
    replace h : ((bif s135 o then Nat.beq a.1 13 else sCell S o a) && fNat (o + 1) (sAllC S l)) = true := h
    rw [fNat_eq, Bool.and_eq_true] at h
    cases i with
    | zero =>
      cases hi
      exact h.1
    | succ i =>
      have := ih h.2 (i := i) hi
      rw [show o + (i + 1) = o + 1 + i by omega]
      exact this
/-- what stands in the heap, and what the run by the kernel knows of it -/
theorem sRH_both {o : Nat} {c' : gC} : ∀ {S : sH} {lh : gH} {o : Nat}, sRH ρ S lh → lh[o]? = some c' → ∃ c, S[o]? = some c ∧ sRC ρ c c' := by
  intro S
  induction S with
  | nil => intro lh o h e; cases lh with
    | nil => cases e
    | cons b m => exact h.elim
  | cons a l ih => intro lh o h e; cases lh with
    | nil => exact h.elim
    | cons b m =>
      cases o with
      | zero => cases e; exact ⟨a, rfl, h.1⟩
      | succ o => exact ih h.2 e
theorem sNn_obj {c : sC} {k : Nat} {f : Nat → Value} (h : sRC ρ c (.inl (k, f))) : c.1 < 100 ∧ k = c.1 ∧ ∀ j, sRel ρ (sGet c j) (f j) := h
theorem sRC_row2 {c : sC} {y : Nat × Nat × (Nat → Value)} (h : sRC ρ c (.inr y)) : 100 ≤ c.1 ∧ y.1 = c.1 - 100 ∧ ((c.2.1 ≤ 65536 ∧ y.2.1 = c.2.1 ∧ ∀ j, sRel ρ (sGet c j) (y.2.2 j)) ∨ (65536 < c.2.1 ∧ y.2 = ((ρ 100).toInt.toNat, fun j => .int (ρ (200 + j))))) := by
  refine ⟨h.1, h.2.1, ?_⟩
  have h2 := h.2.2
  by_cases hn : c.2.1 ≤ 65536
  · rw [if_pos hn] at h2
    exact .inl ⟨hn, h2⟩
  · rw [if_neg hn] at h2
    exact .inr ⟨by omega, h2⟩
theorem sKc_obj {o : Nat} {c : sC} (h : c.1 < 100) : sKc o c = c.1 := by
  unfold sKc
  rw [Nat.blt_eq.mpr h]
  rfl
theorem blt_no {a b : Nat} (h : b ≤ a) : Nat.blt a b = false := by
  cases hq : Nat.blt a b with
  | false => rfl
  | true => have := Nat.blt_eq.mp hq; omega
theorem sKc_rowk {o : Nat} {c : sC} (h : 100 ≤ c.1) : sKc o c = if c.1 - 100 < 8 then 100 + (c.1 - 100) + 8 * vPc o else 999 := by
  unfold sKc
  rw [blt_no h]
  by_cases h8 : c.1 - 100 < 8
  · rw [Nat.blt_eq.mpr h8, if_pos h8]
    rfl
  · rw [blt_no (by omega), if_neg h8]
    rfl
theorem hK_sKc {o : Nat} {c : sC} {c' : gC} {x : gH} (hx : x[o]? = some c') (h : sRC ρ c c') (ho : o < 358) : hK x o = sKc o c := by
  unfold hK
  rw [hx]
  cases c' with
  | inl ob =>
    obtain ⟨h1, h2, -⟩ := h
    dsimp only
    rw [if_pos (by omega), sKc_obj h1]
    exact h2
  | inr y =>
    obtain ⟨h1, h2, -⟩ := h
    dsimp only
    rw [vPd_lo ho, sKc_rowk h1, h2]
theorem hN_sNn {o : Nat} {c : sC} {c' : gC} {x : gH} (hx : x[o]? = some c') (h : sRC ρ c c') (hn : c.2.1 ≤ 65536 ∨ c.1 < 100) : hN x o = sNn c := by
  unfold hN sNn
  rw [hx]
  cases c' with
  | inl ob =>
    obtain ⟨h1, h2, -⟩ := h
    rw [Nat.blt_eq.mpr h1]
    show gN ob.1 = gN c.1
    rw [h2]
  | inr y =>
    obtain ⟨h1, h2, h3⟩ := sRC_row2 h
    rw [blt_no h1]
    show y.2.1 = c.2.1
    rcases h3 with h3 | h3
    · exact h3.2.1
    · omega
theorem sRel_nn {v : sV} {w : Value} (h : sRel ρ v w) (hv : ¬ v.1 = 2) : w ≠ .null := by
  obtain ⟨t, a, b⟩ := v
  intro e
  subst e
  unfold sRel at h
  dsimp only at h hv
  split at h
  · obtain ⟨x, e, _⟩ := h; cases e
  · obtain ⟨x, e, _⟩ := h; cases e
  · rename_i e; exact hv rfl
  · cases h
  · cases h
  · cases h.2
theorem sVal_at {o j : Nat} {c : sC} {c' : gC} {x : gH} (hx : x[o]? = some c') (h : sRC ρ c c') (hn : c.2.1 ≤ 65536 ∨ c.1 < 100) : sRel ρ (sGet c j) (hVal x o j) := by
  unfold hVal
  rw [hx]
  cases c' with
  | inl ob => exact h.2.2 j
  | inr y =>
    obtain ⟨h1, h2, h3⟩ := sRC_row2 h
    rcases h3 with h3 | h3
    · exact h3.2.2 j
    · omega
theorem T0_row {k i : Nat} (h : 100 ≤ k) : T0 k i = T0 k 0 := T0_ok.2.1 k i h
theorem sKc_ge {o : Nat} {c : sC} (h : 100 ≤ c.1) : 100 ≤ sKc o c := by
  rw [sKc_rowk h]
  split <;> omega
theorem sIsR_ok (h : sRH ρ S lh) {k : Nat} {n : Int} {i : Nat} (ha : sIsR S k n i = true) : isA T0 (hDum lh) k n i := by
  unfold sIsR at ha
  rw [Bool.and_eq_true] at ha
  have h7 := Nat.le_of_ble_eq_true ha.1
  have ha3 := ha.2
  rw [Bool.and_eq_true] at ha3
  have h358 := Nat.blt_eq.mp ha3.1
  have ha2 := ha3.2
  rw [fNth_eq] at ha2
  cases hc : S[i]? with
  | none => rw [hc] at ha2; cases ha2
  | some c =>
    rw [hc] at ha2
    dsimp only at ha2
    rw [Bool.and_eq_true, Bool.and_eq_true, Bool.and_eq_true, Bool.and_eq_true] at ha2
    obtain ⟨b1, b2, b3, b4, b5⟩ := ha2
    have b2 := Nat.eq_of_beq_eq_true b2
    have b3 := Nat.le_of_ble_eq_true b3
    obtain ⟨c', e1, e2⟩ := sRH_at h hc
    have hx : (hDum lh)[i]? = some c' := by rw [hDum_ne (by omega)]; exact e1
    have k9 : k ≠ 999 := by
      intro e
      subst e
      cases b1
    have hn : c.2.1 ≤ 65536 ∨ c.1 < 100 := by
      unfold sNn at b3
      by_cases h1 : c.1 < 100
      · exact .inr h1
      · rw [blt_no (by omega)] at b3
        exact .inl b3
    have hN' := hN_sNn hx e2 hn
    refine ⟨⟨k9, fun _ => h7⟩, ⟨(hK_sKc hx e2 h358).trans b2, by rw [hN']; exact b3⟩, ?_, fun f hf hz => ?_⟩
    · rw [Bool.or_eq_true, decide_eq_true_eq] at b4
      rcases b4 with b4 | b4
      · exact .inl b4
      · refine .inr ?_
        by_cases h1 : k < 100
        · rw [if_pos h1]
          rw [Nat.blt_eq.mpr h1] at b4
          exact of_decide_eq_true b4
        · rw [if_neg h1, hN']
          rw [blt_no (by omega)] at b4
          exact of_decide_eq_true b4
    · by_cases h1 : k < 100
      · rw [Nat.blt_eq.mpr h1] at b5
        have hk1 : c.1 < 100 := by
          by_cases h2 : c.1 < 100
          · exact h2
          · have := sKc_ge (o := i) (c := c) (by omega)
            omega
        have hf' : f < gN k := by
          rw [hN'] at hf
          unfold sNn at hf
          rw [Nat.blt_eq.mpr hk1] at hf
          rw [sKc_obj hk1] at b2
          rw [← b2]
          exact hf
        have b6 := List.all_eq_true.mp b5 f (List.mem_range.mpr hf')
        rw [Bool.or_eq_true] at b6
        rcases b6 with b6 | b6
        · exact absurd (Nat.eq_of_beq_eq_true b6) hz
        · refine sRel_nn (sVal_at hx e2 hn) ?_
          intro e
          rw [e] at b6
          cases b6
      · rw [blt_no (by omega)] at b5
        rw [T0_row (by omega)] at hz
        exact absurd (Nat.eq_of_beq_eq_true b5) hz
theorem sVok_ok (h : sRH ρ S lh) {t : vT} {v : sV} {w : Value} (hv : sVok S t v = true) (hw : sRel ρ v w) : vOK T0 (hDum lh) t w := by
  unfold sVok at hv
  unfold vOK
  obtain ⟨v1, v2, v3⟩ := v
  split at hv
  · rename_i e
    rw [e]
    rw [Bool.and_eq_true, Bool.and_eq_true, decide_eq_true_eq, decide_eq_true_eq] at hv
    have e0 := Nat.eq_of_beq_eq_true hv.1
    dsimp only at e0 hv
    subst e0
    obtain ⟨x, x1, x2, x3⟩ := hw
    exact ⟨x, x1, Int.le_trans hv.2.1 x2, Int.le_trans x3 hv.2.2⟩
  · rename_i e
    rw [e]
    have e0 := Nat.eq_of_beq_eq_true hv
    dsimp only at e0
    subst e0
    obtain ⟨x, x1, _⟩ := hw
    exact ⟨x, x1⟩
  · rename_i e
    rw [e]
    rw [Bool.and_eq_true] at hv
    have e0 := Nat.eq_of_beq_eq_true hv.1
    dsimp only at e0
    subst e0
    exact ⟨_, hw, sIsR_ok h hv.2⟩
  · rename_i e0 e1 e3
    rw [Bool.or_eq_true] at hv
    split
    · rename_i e; exact absurd e e0
    · rename_i e; exact absurd e e1
    · rename_i e; exact absurd e e3
    · rcases hv with hv | hv
      · have ez := Nat.eq_of_beq_eq_true hv
        dsimp only at ez
        subst ez
        exact .inl hw
      · rw [Bool.and_eq_true, Bool.and_eq_true, Bool.or_eq_true] at hv
        have ez := Nat.eq_of_beq_eq_true hv.1
        dsimp only at ez
        subst ez
        refine .inr ⟨_, hw, sIsR_ok h hv.2.1, fun h2 => ?_⟩
        rcases hv.2.2 with z | z
        · have := Nat.blt_eq.mp z
          omega
        · exact Nat.eq_of_beq_eq_true z
theorem sLk2_all {p : sV → Bool} {j : Nat} {d : sV} : ∀ {l : List (Nat × sV)}, l.all (fun q => p q.2) = true → p d = true → p (sLk2 j l d) = true := by
  intro l
  induction l with
  | nil => intro _ h; exact h
  | cons q l ih =>
    intro h hd
    rw [List.all_cons, Bool.and_eq_true] at h
    show p (bif Nat.beq j q.1 then q.2 else sLk2 j l d) = true
    cases Nat.beq j q.1 with
    | true => exact h.1
    | false => exact ih h.2 hd
theorem vKd_hi {o : Nat} (h : 358 ≤ o) : vKd o = 0 := by
  unfold vKd
  rw [fNth_eq]
  show (match vKds[o / 16]? with
    | some l => _
    | none => 0) = 0
  by_cases h2 : o / 16 < 23
  · have e : o / 16 = 22 := by omega
    rw [e, show vKds[22]? = some [645, 653, 664, 669, 680, 685] from rfl]
    dsimp only
    rw [fNth_eq]
    show (match ([645, 653, 664, 669, 680, 685] : List Nat)[o % 16]? with
      | some k => k
      | none => 0) = 0
    rw [List.getElem?_eq_none (by show 6 ≤ o % 16; omega)]
  · rw [List.getElem?_eq_none (by show 23 ≤ o / 16; omega)]
theorem KS_of (h : sRH ρ S lh) (hk : sKs S = true) : KS (hDum lh) := by
  intro o k ho
  unfold sKs at hk
  by_cases h2 : o < 358
  · have h3 := List.all_eq_true.mp hk o (List.mem_range.mpr h2)
    rw [Bool.or_eq_true] at h3
    rcases h3 with h3 | h3
    · have := Nat.eq_of_beq_eq_true h3
      omega
    · rw [fNth_eq] at h3
      cases hc : S[o]? with
      | none => rw [hc] at h3; cases h3
      | some c =>
        rw [hc] at h3
        dsimp only at h3
        rw [Bool.and_eq_true] at h3
        have h7 := Nat.le_of_ble_eq_true h3.1
        have h8 := Nat.eq_of_beq_eq_true h3.2
        obtain ⟨c', e1, e2⟩ := sRH_at h hc
        have hx : (hDum lh)[o]? = some c' := by rw [hDum_ne (by omega)]; exact e1
        rw [hK_sKc hx e2 h2]
        omega
  · rw [vKd_hi (by omega)] at ho
    cases ho
theorem WT_of (h : sRH ρ S lh) (hl : 6 ≤ lh.length) (hS : S.length ≤ 358) (hk : sKs S = true) (ha : sAllC S S 0 = true) : WT T0 (hDum lh) := by
  refine ⟨KS_of h hk, fun o i ho hi => ?_⟩
  by_cases h5 : o = 1 ∨ o = 3 ∨ o = 5
  · have hd := hDum_at hl h5
    have e1 : hK (hDum lh) o = 98 := by
      unfold hK
      rw [hd]
      rfl
    have e2 : hVal (hDum lh) o i = .int 0 := by
      unfold hVal
      rw [hd]
      rfl
    rw [e1, e2]
    have e3 : T0 98 i = (0, 0, 0, 1) := rfl
    rw [e3]
    exact ⟨0, rfl, by decide, by decide⟩
  · have hlt : o < lh.length := by rw [← hDum_len]; exact ho
    obtain ⟨c', hc'⟩ : ∃ c', lh[o]? = some c' := ⟨_, List.getElem?_eq_getElem hlt⟩
    obtain ⟨c, hc, hr⟩ := sRH_both (o := o) h hc'
    have hx : (hDum lh)[o]? = some c' := by rw [hDum_ne h5]; exact hc'
    have hcell := sAllC_at ha hc
    rw [Nat.zero_add, show s135 o = false from by
      cases hq : s135 o with
      | false => rfl
      | true => exact absurd (s135_iff.mp hq) h5] at hcell
    replace hcell : sCell S o c = true := hcell
    unfold sCell at hcell
    have h358 : o < 358 := Nat.lt_of_lt_of_le (List.getElem?_eq_some_iff.mp hc).1 hS
    have hK' := hK_sKc hx hr h358
    rw [hK']
    by_cases h1 : c.1 < 100
    · rw [Nat.blt_eq.mpr h1] at hcell
      have hN' := hN_sNn hx hr (.inr h1)
      rw [hN'] at hi
      unfold sNn at hi
      rw [Nat.blt_eq.mpr h1] at hi
      have hv := List.all_eq_true.mp hcell i (List.mem_range.mpr hi)
      rw [sKc_obj h1]
      exact sVok_ok h hv (sVal_at hx hr (.inr h1))
    · rw [blt_no (by omega)] at hcell
      rw [T0_row (sKc_ge (by omega))]
      by_cases h2 : c.2.1 ≤ 65536
      · rw [Nat.ble_eq.mpr h2] at hcell
        replace hcell : (sVok S (T0 (sKc o c) 0) (sDf c.1 0) && c.2.2.all (fun q => sVok S (T0 (sKc o c) 0) q.2)) = true := hcell
        rw [Bool.and_eq_true] at hcell
        refine sVok_ok h ?_ (sVal_at hx hr (.inl h2))
        unfold sGet
        refine sLk2_all (p := sVok S (T0 (sKc o c) 0)) hcell.2 ?_
        have e : sDf c.1 i = sDf c.1 0 := by
          unfold sDf
          rw [blt_no (by omega)]
          rfl
        rw [e]
        exact hcell.1
      · rw [show Nat.ble c.2.1 65536 = false from by
          cases hq : Nat.ble c.2.1 65536 with
          | false => rfl
          | true => exact absurd (Nat.le_of_ble_eq_true hq) h2] at hcell
        replace hcell : (Nat.beq (T0 (sKc o c) 0).1 0 && (decide ((T0 (sKc o c) 0).2.1 ≤ -2147483648) && decide (2147483647 ≤ (T0 (sKc o c) 0).2.2.1))) = true := hcell
        rw [Bool.and_eq_true, Bool.and_eq_true, decide_eq_true_eq, decide_eq_true_eq] at hcell
        have e0 := Nat.eq_of_beq_eq_true hcell.1
        unfold vOK
        rw [e0]
        cases c' with
        | inl ob => exact absurd hr.1 h1
        | inr y =>
          obtain ⟨_, _, h3⟩ := sRC_row2 hr
          rcases h3 with h3 | h3
          · omega
          · refine ⟨ρ (200 + i), ?_, ?_, ?_⟩
            · unfold hVal
              rw [hx]
              show y.2.2 i = _
              rw [h3.2]
            · have h9 : (-2147483648 : Int) ≤ (ρ (200 + i)).toInt ∧ (ρ (200 + i)).toInt ≤ 2147483647 := sFull_ok _
              omega
            · have h9 : (-2147483648 : Int) ≤ (ρ (200 + i)).toInt ∧ (ρ (200 + i)).toInt ≤ 2147483647 := sFull_ok _
              omega
/-- a slot of which the run by the kernel knows that it is n -/
theorem sSlot {o j : Nat} {c : sC} {n : Int} (h : sRH ρ S lh) (ho : ¬ (o = 1 ∨ o = 3 ∨ o = 5)) (hc : S[o]? = some c) (hn : c.2.1 ≤ 65536 ∨ c.1 < 100) (hv : sGet c j = (0, n, n)) : hV (hDum lh) o j = n := by
  obtain ⟨c', e1, e2⟩ := sRH_at h hc
  have hx : (hDum lh)[o]? = some c' := by rw [hDum_ne ho]; exact e1
  have hw := sVal_at (j := j) hx e2 hn
  rw [hv] at hw
  obtain ⟨x, x1, x2, x3⟩ := hw
  unfold hV
  rw [x1]
  have x2' : n ≤ x.toInt := x2
  have x3' : x.toInt ≤ n := x3
  show x.toInt = n
  omega
theorem sRow0 {o : Nat} {n : Nat} (h : sRH ρ S lh) (ho : ¬ (o = 1 ∨ o = 3 ∨ o = 5)) (hc : S[o]? = some (100, n, [])) (hn : n ≤ 65536) : ∀ j, hV (hDum lh) o j = 0 := fun j => sSlot h ho hc (.inl hn) rfl
theorem sGsz : ∀ {S : sH} {lh : gH}, sRH ρ S lh → (ρ 100).toInt.toNat ≤ 65536 → gsz lh ≤ (S.map sNn).sum := by
  intro S
  induction S with
  | nil => intro lh h _; cases lh with
    | nil => exact Nat.le_refl _
    | cons b m => exact h.elim
  | cons a l ih => intro lh h hL; cases lh with
    | nil => exact h.elim
    | cons b m =>
      have e := ih h.2 hL
      unfold gsz at e ⊢
      rw [List.map_cons, List.sum_cons, List.map_cons, List.sum_cons]
      have h1 : gsz1 b ≤ sNn a := by
        have hr := h.1
        cases b with
        | inl ob =>
          obtain ⟨q1, q2, -⟩ := hr
          unfold sNn
          rw [Nat.blt_eq.mpr q1]
          show gN ob.1 ≤ gN a.1
          rw [q2]
          exact Nat.le_refl _
        | inr y =>
          obtain ⟨q1, -, q3⟩ := sRC_row2 hr
          unfold sNn
          rw [blt_no q1]
          show y.2.1 ≤ a.2.1
          rcases q3 with q3 | q3
          · rw [q3.2.1]
            exact Nat.le_refl _
          · rw [q3.2]
            show (ρ 100).toInt.toNat ≤ a.2.1
            omega
      omega
end TYPS
