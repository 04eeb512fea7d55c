/-! CELLS THAT ARE NOT ASKED: the run over a heap in which cells of class 98 stand for others (printed by wip/gen/gen71.py). -/
def hDm : gC := .inl (98, fun _ => .int 0)
def hSw (x y : gH) : Prop := x.length = y.length ∧ gsz x = gsz y ∧ ∀ i : Nat, x[i]? = y[i]? ∨ x[i]? = some hDm
def gSw (r s : Option gO) : Prop := ∀ o, r = some o → ∃ h, s = some (h, o.2.1, o.2.2) ∧ hSw o.1 h
theorem gSw.none {s : Option gO} : gSw none s := fun _ h => nomatch h
theorem gSw.bif {c : Bool} {r r' s s' : Option gO} (h1 : gSw r r') (h2 : gSw s s') : gSw (bif c then r else s) (bif c then r' else s') := by
  cases c with
  | true => exact h1
  | false => exact h2
theorem gSw.ret {h h' : gH} {pc : Nat} {st : List Value} (w : hSw h h') : gSw (some (h, pc, st)) (some (h', pc, st)) := fun o e => by
  cases e
  exact ⟨h', rfl, w⟩
theorem hSw.push {x y : gH} (h : hSw x y) (c : gC) : hSw (x ++ [c]) (y ++ [c]) := by
  refine ⟨by rw [List.length_append, List.length_append, h.1], by rw [gsz_push, gsz_push, h.2.1], fun i => ?_⟩
  by_cases hi : i < x.length
  · rw [List.getElem?_append_left hi, List.getElem?_append_left (by rw [← h.1]; exact hi)]
    exact h.2.2 i
  · rw [List.getElem?_append_right (by omega), List.getElem?_append_right (by rw [← h.1]; omega), h.1]
    exact .inl rfl
theorem hSw.set {x y : gH} (h : hSw x y) {i : Nat} {c d : gC} (hx : x[i]? = some c) (hy : y[i]? = some c) (hd : gsz1 d = gsz1 c) : hSw (x.set i d) (y.set i d) := by
  refine ⟨by rw [List.length_set, List.length_set, h.1], by rw [gsz_set hx hd, gsz_set hy hd, h.2.1], fun j => ?_⟩
  by_cases hj : i = j
  · subst hj
    rw [List.getElem?_set_self (List.getElem?_eq_some_iff.mp hx).1, List.getElem?_set_self (List.getElem?_eq_some_iff.mp hy).1]
    exact .inl rfl
  · rw [List.getElem?_set_ne hj, List.getElem?_set_ne hj]
    exact h.2.2 j
/-- what stands at i in x, and isn't of class 98, stands there in y -/
theorem hSw.at {x y : gH} (h : hSw x y) {i : Nat} {c : gC} (hx : x[i]? = some c) (hc : c ≠ hDm) : y[i]? = some c := by
  rcases h.2.2 i with e | e
  · rw [← e]; exact hx
  · rw [hx] at e
    exact absurd (Option.some.inj e) hc
theorem hSw.row {x y : gH} (h : hSw x y) {i : Nat} {c : Nat × Nat × (Nat → Value)} (hx : x[i]? = some (.inr c)) : y[i]? = some (.inr c) := h.at hx (fun e => nomatch e)
theorem hSw.obj {x y : gH} (h : hSw x y) {i : Nat} {c : Nat × (Nat → Value)} (hx : x[i]? = some (.inl c)) (hc : ¬ c.1 = 98) : y[i]? = some (.inl c) := h.at hx (fun e => hc (by have := Sum.inl.inj e; rw [this]))
theorem gEl_98 (k : Nat) : ¬ gEl k = 98 := by
  unfold gEl
  split <;> decide
section GSWAP
variable {K K' : Nat → gL → List Value → gH → Option gO} {C C' : Nat → List Value → gH → Option gO} {rt : Option FieldType} {dp : Bool} {pc a b : Nat} {v : Int} {lv : gL} {st : List Value} {lh mh : gH}
theorem gBack_sw {n : Nat} {r : List Value} {x x' : Option gO} (hK : ∀ pc lv st lh mh, hSw lh mh → gSw (K pc lv st lh) (K' pc lv st mh)) (h : gSw x x') : gSw (gBack K pc lv n r x) (gBack K' pc lv n r x') := by
  cases x with
  | none => exact gSw.none
  | some o =>
    obtain ⟨g, e, w⟩ := h o rfl
    rw [e]
    exact hK _ _ _ _ _ w
theorem gI_iload_sw {i n : Nat} (hK : ∀ pc lv st lh mh, hSw lh mh → gSw (K pc lv st lh) (K' pc lv st mh)) (w : hSw lh mh) : gSw (gI_iload K pc lv st lh i n) (gI_iload K' pc lv st mh i n) := by
  unfold gI_iload
  repeat' (first | exact gSw.none | exact gSw.ret w | exact hK _ _ _ _ _ w | exact gBack_sw hK (hC _ _ _ _ w) | split | (refine gSw.bif ?_ ?_))
theorem gI_lload_sw {i n : Nat} (hK : ∀ pc lv st lh mh, hSw lh mh → gSw (K pc lv st lh) (K' pc lv st mh)) (w : hSw lh mh) : gSw (gI_lload K pc lv st lh i n) (gI_lload K' pc lv st mh i n) := by
  unfold gI_lload
  repeat' (first | exact gSw.none | exact gSw.ret w | exact hK _ _ _ _ _ w | exact gBack_sw hK (hC _ _ _ _ w) | split | (refine gSw.bif ?_ ?_))
theorem gI_aload_sw {i n : Nat} (hK : ∀ pc lv st lh mh, hSw lh mh → gSw (K pc lv st lh) (K' pc lv st mh)) (w : hSw lh mh) : gSw (gI_aload K pc lv st lh i n) (gI_aload K' pc lv st mh i n) := by
  unfold gI_aload
  repeat' (first | exact gSw.none | exact gSw.ret w | exact hK _ _ _ _ _ w | exact gBack_sw hK (hC _ _ _ _ w) | split | (refine gSw.bif ?_ ?_))
theorem gI_istore_sw {i n : Nat} (hK : ∀ pc lv st lh mh, hSw lh mh → gSw (K pc lv st lh) (K' pc lv st mh)) (w : hSw lh mh) : gSw (gI_istore K pc lv st lh i n) (gI_istore K' pc lv st mh i n) := by
  unfold gI_istore
  repeat' (first | exact gSw.none | exact gSw.ret w | exact hK _ _ _ _ _ w | exact gBack_sw hK (hC _ _ _ _ w) | split | (refine gSw.bif ?_ ?_))
theorem gI_astore_sw {i n : Nat} (hK : ∀ pc lv st lh mh, hSw lh mh → gSw (K pc lv st lh) (K' pc lv st mh)) (w : hSw lh mh) : gSw (gI_astore K pc lv st lh i n) (gI_astore K' pc lv st mh i n) := by
  unfold gI_astore
  repeat' (first | exact gSw.none | exact gSw.ret w | exact hK _ _ _ _ _ w | exact gBack_sw hK (hC _ _ _ _ w) | split | (refine gSw.bif ?_ ?_))
theorem gI_lstore_sw {i n : Nat} (hK : ∀ pc lv st lh mh, hSw lh mh → gSw (K pc lv st lh) (K' pc lv st mh)) (w : hSw lh mh) : gSw (gI_lstore K pc lv st lh i n) (gI_lstore K' pc lv st mh i n) := by
  unfold gI_lstore
  repeat' (first | exact gSw.none | exact gSw.ret w | exact hK _ _ _ _ _ w | exact gBack_sw hK (hC _ _ _ _ w) | split | (refine gSw.bif ?_ ?_))
theorem gI_iinc_sw {i : Nat} {n : Int} (hK : ∀ pc lv st lh mh, hSw lh mh → gSw (K pc lv st lh) (K' pc lv st mh)) (w : hSw lh mh) : gSw (gI_iinc K pc lv st lh i n) (gI_iinc K' pc lv st mh i n) := by
  unfold gI_iinc
  repeat' (first | exact gSw.none | exact gSw.ret w | exact hK _ _ _ _ _ w | exact gBack_sw hK (hC _ _ _ _ w) | split | (refine gSw.bif ?_ ?_))
theorem gI_int_sw {x : Int32} {n : Nat} (hK : ∀ pc lv st lh mh, hSw lh mh → gSw (K pc lv st lh) (K' pc lv st mh)) (w : hSw lh mh) : gSw (gI_int K pc lv st lh x n) (gI_int K' pc lv st mh x n) := by
  unfold gI_int
  repeat' (first | exact gSw.none | exact gSw.ret w | exact hK _ _ _ _ _ w | exact gBack_sw hK (hC _ _ _ _ w) | split | (refine gSw.bif ?_ ?_))
theorem gI_long_sw {x : Int64} {n : Nat} (hK : ∀ pc lv st lh mh, hSw lh mh → gSw (K pc lv st lh) (K' pc lv st mh)) (w : hSw lh mh) : gSw (gI_long K pc lv st lh x n) (gI_long K' pc lv st mh x n) := by
  unfold gI_long
  repeat' (first | exact gSw.none | exact gSw.ret w | exact hK _ _ _ _ _ w | exact gBack_sw hK (hC _ _ _ _ w) | split | (refine gSw.bif ?_ ?_))
theorem gI_bin_sw {f : Int32 → Int32 → Int32} (hK : ∀ pc lv st lh mh, hSw lh mh → gSw (K pc lv st lh) (K' pc lv st mh)) (w : hSw lh mh) : gSw (gI_bin K pc lv st lh f) (gI_bin K' pc lv st mh f) := by
  unfold gI_bin
  repeat' (first | exact gSw.none | exact gSw.ret w | exact hK _ _ _ _ _ w | exact gBack_sw hK (hC _ _ _ _ w) | split | (refine gSw.bif ?_ ?_))
theorem gI_div_sw {f : Int32 → Int32 → Int32} (hK : ∀ pc lv st lh mh, hSw lh mh → gSw (K pc lv st lh) (K' pc lv st mh)) (w : hSw lh mh) : gSw (gI_div K pc lv st lh f) (gI_div K' pc lv st mh f) := by
  unfold gI_div
  repeat' (first | exact gSw.none | exact gSw.ret w | exact hK _ _ _ _ _ w | exact gBack_sw hK (hC _ _ _ _ w) | split | (refine gSw.bif ?_ ?_))
theorem gI_un_sw {f : Int32 → Int32} (hK : ∀ pc lv st lh mh, hSw lh mh → gSw (K pc lv st lh) (K' pc lv st mh)) (w : hSw lh mh) : gSw (gI_un K pc lv st lh f) (gI_un K' pc lv st mh f) := by
  unfold gI_un
  repeat' (first | exact gSw.none | exact gSw.ret w | exact hK _ _ _ _ _ w | exact gBack_sw hK (hC _ _ _ _ w) | split | (refine gSw.bif ?_ ?_))
theorem gI_lbin_sw {f : Int64 → Int64 → Int64} (hK : ∀ pc lv st lh mh, hSw lh mh → gSw (K pc lv st lh) (K' pc lv st mh)) (w : hSw lh mh) : gSw (gI_lbin K pc lv st lh f) (gI_lbin K' pc lv st mh f) := by
  unfold gI_lbin
  repeat' (first | exact gSw.none | exact gSw.ret w | exact hK _ _ _ _ _ w | exact gBack_sw hK (hC _ _ _ _ w) | split | (refine gSw.bif ?_ ?_))
theorem gI_ldiv_sw (hK : ∀ pc lv st lh mh, hSw lh mh → gSw (K pc lv st lh) (K' pc lv st mh)) (w : hSw lh mh) : gSw (gI_ldiv K pc lv st lh) (gI_ldiv K' pc lv st mh) := by
  unfold gI_ldiv
  repeat' (first | exact gSw.none | exact gSw.ret w | exact hK _ _ _ _ _ w | exact gBack_sw hK (hC _ _ _ _ w) | split | (refine gSw.bif ?_ ?_))
theorem gI_lcmp_sw (hK : ∀ pc lv st lh mh, hSw lh mh → gSw (K pc lv st lh) (K' pc lv st mh)) (w : hSw lh mh) : gSw (gI_lcmp K pc lv st lh) (gI_lcmp K' pc lv st mh) := by
  unfold gI_lcmp
  repeat' (first | exact gSw.none | exact gSw.ret w | exact hK _ _ _ _ _ w | exact gBack_sw hK (hC _ _ _ _ w) | split | (refine gSw.bif ?_ ?_))
theorem gI_i2l_sw (hK : ∀ pc lv st lh mh, hSw lh mh → gSw (K pc lv st lh) (K' pc lv st mh)) (w : hSw lh mh) : gSw (gI_i2l K pc lv st lh) (gI_i2l K' pc lv st mh) := by
  unfold gI_i2l
  repeat' (first | exact gSw.none | exact gSw.ret w | exact hK _ _ _ _ _ w | exact gBack_sw hK (hC _ _ _ _ w) | split | (refine gSw.bif ?_ ?_))
theorem gI_l2i_sw (hK : ∀ pc lv st lh mh, hSw lh mh → gSw (K pc lv st lh) (K' pc lv st mh)) (w : hSw lh mh) : gSw (gI_l2i K pc lv st lh) (gI_l2i K' pc lv st mh) := by
  unfold gI_l2i
  repeat' (first | exact gSw.none | exact gSw.ret w | exact hK _ _ _ _ _ w | exact gBack_sw hK (hC _ _ _ _ w) | split | (refine gSw.bif ?_ ?_))
theorem gI_dup_sw (hK : ∀ pc lv st lh mh, hSw lh mh → gSw (K pc lv st lh) (K' pc lv st mh)) (w : hSw lh mh) : gSw (gI_dup K pc lv st lh) (gI_dup K' pc lv st mh) := by
  unfold gI_dup
  repeat' (first | exact gSw.none | exact gSw.ret w | exact hK _ _ _ _ _ w | exact gBack_sw hK (hC _ _ _ _ w) | split | (refine gSw.bif ?_ ?_))
theorem gI_dup2_sw (hK : ∀ pc lv st lh mh, hSw lh mh → gSw (K pc lv st lh) (K' pc lv st mh)) (w : hSw lh mh) : gSw (gI_dup2 K pc lv st lh) (gI_dup2 K' pc lv st mh) := by
  unfold gI_dup2
  repeat' (first | exact gSw.none | exact gSw.ret w | exact hK _ _ _ _ _ w | exact gBack_sw hK (hC _ _ _ _ w) | split | (refine gSw.bif ?_ ?_))
theorem gI_pop_sw (hK : ∀ pc lv st lh mh, hSw lh mh → gSw (K pc lv st lh) (K' pc lv st mh)) (w : hSw lh mh) : gSw (gI_pop K pc lv st lh) (gI_pop K' pc lv st mh) := by
  unfold gI_pop
  repeat' (first | exact gSw.none | exact gSw.ret w | exact hK _ _ _ _ _ w | exact gBack_sw hK (hC _ _ _ _ w) | split | (refine gSw.bif ?_ ?_))
theorem gI_if_sw {c : Jvm.ClassFile.Cond} (hK : ∀ pc lv st lh mh, hSw lh mh → gSw (K pc lv st lh) (K' pc lv st mh)) (w : hSw lh mh) : gSw (gI_if K pc a lv st lh c) (gI_if K' pc a lv st mh c) := by
  unfold gI_if
  repeat' (first | exact gSw.none | exact gSw.ret w | exact hK _ _ _ _ _ w | exact gBack_sw hK (hC _ _ _ _ w) | split | (refine gSw.bif ?_ ?_))
theorem gI_icmp_sw {c : Jvm.ClassFile.Cond} (hK : ∀ pc lv st lh mh, hSw lh mh → gSw (K pc lv st lh) (K' pc lv st mh)) (w : hSw lh mh) : gSw (gI_icmp K pc a lv st lh c) (gI_icmp K' pc a lv st mh c) := by
  unfold gI_icmp
  repeat' (first | exact gSw.none | exact gSw.ret w | exact hK _ _ _ _ _ w | exact gBack_sw hK (hC _ _ _ _ w) | split | (refine gSw.bif ?_ ?_))
theorem gI_ifnull_sw (hK : ∀ pc lv st lh mh, hSw lh mh → gSw (K pc lv st lh) (K' pc lv st mh)) (w : hSw lh mh) : gSw (gI_ifnull K pc a lv st lh) (gI_ifnull K' pc a lv st mh) := by
  unfold gI_ifnull
  repeat' (first | exact gSw.none | exact gSw.ret w | exact hK _ _ _ _ _ w | exact gBack_sw hK (hC _ _ _ _ w) | split | (refine gSw.bif ?_ ?_))
theorem gI_ifnonnull_sw (hK : ∀ pc lv st lh mh, hSw lh mh → gSw (K pc lv st lh) (K' pc lv st mh)) (w : hSw lh mh) : gSw (gI_ifnonnull K pc a lv st lh) (gI_ifnonnull K' pc a lv st mh) := by
  unfold gI_ifnonnull
  repeat' (first | exact gSw.none | exact gSw.ret w | exact hK _ _ _ _ _ w | exact gBack_sw hK (hC _ _ _ _ w) | split | (refine gSw.bif ?_ ?_))
theorem gI_table_sw {dflt lo hi : Int} {offs : Array Int} (hK : ∀ pc lv st lh mh, hSw lh mh → gSw (K pc lv st lh) (K' pc lv st mh)) (w : hSw lh mh) : gSw (gI_table K pc lv st lh dflt lo hi offs) (gI_table K' pc lv st mh dflt lo hi offs) := by
  unfold gI_table
  repeat' (first | exact gSw.none | exact gSw.ret w | exact hK _ _ _ _ _ w | exact gBack_sw hK (hC _ _ _ _ w) | split | (refine gSw.bif ?_ ?_))
theorem gI_get_sw (hK : ∀ pc lv st lh mh, hSw lh mh → gSw (K pc lv st lh) (K' pc lv st mh)) (w : hSw lh mh) (n98 : ¬ a = 98) : gSw (gI_get K pc a b lv st lh) (gI_get K' pc a b lv st mh) := by
  unfold gI_get
  split
  · rename_i i r
    try dsimp only
    cases hx : lh[i]? with
    | none => exact gSw.none
    | some c =>
      cases c with
      | inr y => exact gSw.none
      | inl o =>
        try dsimp only
        cases hq : Nat.beq o.1 a with
        | false => exact gSw.none
        | true =>
          rw [w.obj hx (fun e => n98 (by rw [← Nat.eq_of_beq_eq_true hq]; exact e))]
          try dsimp only
          rw [hq]
          exact hK _ _ _ _ _ w
  · exact gSw.none
theorem gI_put_sw (hK : ∀ pc lv st lh mh, hSw lh mh → gSw (K pc lv st lh) (K' pc lv st mh)) (w : hSw lh mh) (n98 : ¬ a = 98) : gSw (gI_put K pc a b lv st lh) (gI_put K' pc a b lv st mh) := by
  unfold gI_put
  split
  · rename_i z i r
    try dsimp only
    cases hx : lh[i]? with
    | none => exact gSw.none
    | some c =>
      cases c with
      | inr y => exact gSw.none
      | inl o =>
        try dsimp only
        cases hq : (Nat.beq o.1 a && (gFit (gYt a b) z && Nat.ble 7 i)) with
        | false => exact gSw.none
        | true =>
          have hq1 := hq
          rw [Bool.and_eq_true] at hq1
          have hy := w.obj hx (fun e => n98 (by rw [← Nat.eq_of_beq_eq_true hq1.1]; exact e))
          rw [hy]
          try dsimp only
          rw [hq]
          exact hK _ _ _ _ _ (w.set hx hy rfl)
  · exact gSw.none
theorem gI_gets_sw (hK : ∀ pc lv st lh mh, hSw lh mh → gSw (K pc lv st lh) (K' pc lv st mh)) (w : hSw lh mh) : gSw (gI_gets K pc a lv st lh) (gI_gets K' pc a lv st mh) := by
  unfold gI_gets
  repeat' (first | exact gSw.none | exact gSw.ret w | exact hK _ _ _ _ _ w | exact gBack_sw hK (hC _ _ _ _ w) | split | (refine gSw.bif ?_ ?_))
theorem gI_new_sw (hK : ∀ pc lv st lh mh, hSw lh mh → gSw (K pc lv st lh) (K' pc lv st mh)) (w : hSw lh mh) : gSw (gI_new K pc a lv st lh) (gI_new K' pc a lv st mh) := by
  unfold gI_new
  rw [w.1]
  exact hK _ _ _ _ _ (w.push _)
theorem gI_newa_sw {n : Nat} (hK : ∀ pc lv st lh mh, hSw lh mh → gSw (K pc lv st lh) (K' pc lv st mh)) (w : hSw lh mh) : gSw (gI_newa K pc a lv st lh n) (gI_newa K' pc a lv st mh n) := by
  unfold gI_newa
  split
  · rw [w.1]
    exact gSw.bif (hK _ _ _ _ _ (w.push _)) gSw.none
  · exact gSw.none
theorem gI_len_sw (hK : ∀ pc lv st lh mh, hSw lh mh → gSw (K pc lv st lh) (K' pc lv st mh)) (w : hSw lh mh) : gSw (gI_len K pc lv st lh) (gI_len K' pc lv st mh) := by
  unfold gI_len
  split
  · rename_i i r
    try dsimp only
    cases hx : lh[i]? with
    | none => exact gSw.none
    | some c =>
      cases c with
      | inl o => exact gSw.none
      | inr y =>
        rw [w.row hx]
        exact hK _ _ _ _ _ w
  · exact gSw.none
theorem gI_ald_sw {t : Nat → Bool} (hK : ∀ pc lv st lh mh, hSw lh mh → gSw (K pc lv st lh) (K' pc lv st mh)) (w : hSw lh mh) : gSw (gI_ald K pc lv st lh t) (gI_ald K' pc lv st mh t) := by
  unfold gI_ald
  split
  · rename_i x i r
    try dsimp only
    cases hx : lh[i]? with
    | none => exact gSw.none
    | some c =>
      cases c with
      | inl o => exact gSw.none
      | inr y =>
        rw [w.row hx]
        exact gSw.bif (hK _ _ _ _ _ w) gSw.none
  · exact gSw.none
theorem gI_ist_sw {t : Nat → Bool} {g : Nat → Int32 → Value} (hK : ∀ pc lv st lh mh, hSw lh mh → gSw (K pc lv st lh) (K' pc lv st mh)) (w : hSw lh mh) : gSw (gI_ist K pc lv st lh t g) (gI_ist K' pc lv st mh t g) := by
  unfold gI_ist
  split
  · rename_i z x i r
    try dsimp only
    cases hx : lh[i]? with
    | none => exact gSw.none
    | some c =>
      cases c with
      | inl o => exact gSw.none
      | inr y =>
        rw [w.row hx]
        exact gSw.bif (hK _ _ _ _ _ (w.set hx (w.row hx) rfl)) gSw.none
  · exact gSw.none
theorem gI_last_sw (hK : ∀ pc lv st lh mh, hSw lh mh → gSw (K pc lv st lh) (K' pc lv st mh)) (w : hSw lh mh) : gSw (gI_last K pc lv st lh) (gI_last K' pc lv st mh) := by
  unfold gI_last
  split
  · rename_i z x i r
    try dsimp only
    cases hx : lh[i]? with
    | none => exact gSw.none
    | some c =>
      cases c with
      | inl o => exact gSw.none
      | inr y =>
        rw [w.row hx]
        exact gSw.bif (hK _ _ _ _ _ (w.set hx (w.row hx) rfl)) gSw.none
  · exact gSw.none
theorem gI_aast_sw (hK : ∀ pc lv st lh mh, hSw lh mh → gSw (K pc lv st lh) (K' pc lv st mh)) (w : hSw lh mh) : gSw (gI_aast K pc lv st lh) (gI_aast K' pc lv st mh) := by
  unfold gI_aast
  split
  · rename_i z x i r
    try dsimp only
    cases hx : lh[i]? with
    | none => exact gSw.none
    | some c =>
      cases c with
      | inl o => exact gSw.none
      | inr y =>
        rw [w.row hx]
        try dsimp only
        cases hz : lh[z]? with
        | none => exact gSw.none
        | some c2 =>
          cases c2 with
          | inr y2 => exact gSw.none
          | inl o =>
            try dsimp only
            cases hq : (Nat.beq (gEl y.1) o.1 && (gIn x y.2.1 && Nat.ble 7 i)) with
            | false => exact gSw.none
            | true =>
              have hq1 := hq
              rw [Bool.and_eq_true] at hq1
              rw [w.obj hz (fun e => gEl_98 y.1 (by rw [Nat.eq_of_beq_eq_true hq1.1]; exact e))]
              try dsimp only
              rw [hq]
              exact hK _ _ _ _ _ (w.set hx (w.row hx) rfl)
  · exact gSw.none
theorem gI_virt_sw (hK : ∀ pc lv st lh mh, hSw lh mh → gSw (K pc lv st lh) (K' pc lv st mh)) (hC : ∀ a as lh mh, hSw lh mh → gSw (C a as lh) (C' a as mh)) (w : hSw lh mh) (n98 : ¬ Int.toNat v = 98) : gSw (gI_virt K C pc a b v lv st lh) (gI_virt K' C' pc a b v lv st mh) := by
  unfold gI_virt
  split
  · rename_i i r e
    try dsimp only
    cases hx : lh[i]? with
    | none => exact gSw.none
    | some c =>
      cases c with
      | inr y => exact gSw.none
      | inl o =>
        try dsimp only
        cases hq : (Int.toNat v == o.1 && gCat r) with
        | false => exact gSw.none
        | true =>
          have hq1 := hq
          rw [Bool.and_eq_true] at hq1
          rw [w.obj hx (fun e => n98 (by rw [eq_of_beq hq1.1]; exact e))]
          try dsimp only
          rw [hq]
          exact gBack_sw hK (hC _ _ _ _ w)
  · exact gSw.none
theorem gI_stat_sw (hK : ∀ pc lv st lh mh, hSw lh mh → gSw (K pc lv st lh) (K' pc lv st mh)) (hC : ∀ a as lh mh, hSw lh mh → gSw (C a as lh) (C' a as mh)) (w : hSw lh mh) : gSw (gI_stat K C pc a b lv st lh) (gI_stat K' C' pc a b lv st mh) := by
  unfold gI_stat
  repeat' (first | exact gSw.none | exact gSw.ret w | exact hK _ _ _ _ _ w | exact gBack_sw hK (hC _ _ _ _ w) | split | (refine gSw.bif ?_ ?_))
theorem gI_spec_sw (hK : ∀ pc lv st lh mh, hSw lh mh → gSw (K pc lv st lh) (K' pc lv st mh)) (hC : ∀ a as lh mh, hSw lh mh → gSw (C a as lh) (C' a as mh)) (w : hSw lh mh) : gSw (gI_spec K C dp pc a b lv st lh) (gI_spec K' C' dp pc a b lv st mh) := by
  unfold gI_spec
  repeat' (first | exact gSw.none | exact gSw.ret w | exact hK _ _ _ _ _ w | exact gBack_sw hK (hC _ _ _ _ w) | split | (refine gSw.bif ?_ ?_))
theorem gI_iret_sw (w : hSw lh mh) : gSw (gI_iret rt pc st lh) (gI_iret rt pc st mh) := by
  unfold gI_iret
  repeat' (first | exact gSw.none | exact gSw.ret w | exact hK _ _ _ _ _ w | exact gBack_sw hK (hC _ _ _ _ w) | split | (refine gSw.bif ?_ ?_))
theorem gI_lret_sw (w : hSw lh mh) : gSw (gI_lret rt pc st lh) (gI_lret rt pc st mh) := by
  unfold gI_lret
  repeat' (first | exact gSw.none | exact gSw.ret w | exact hK _ _ _ _ _ w | exact gBack_sw hK (hC _ _ _ _ w) | split | (refine gSw.bif ?_ ?_))
theorem gI_aret_sw (w : hSw lh mh) : gSw (gI_aret rt pc st lh) (gI_aret rt pc st mh) := by
  unfold gI_aret
  repeat' (first | exact gSw.none | exact gSw.ret w | exact hK _ _ _ _ _ w | exact gBack_sw hK (hC _ _ _ _ w) | split | (refine gSw.bif ?_ ?_))
theorem gI_vret_sw (w : hSw lh mh) : gSw (gI_vret rt pc st lh) (gI_vret rt pc st mh) := by
  unfold gI_vret
  repeat' (first | exact gSw.none | exact gSw.ret w | exact hK _ _ _ _ _ w | exact gBack_sw hK (hC _ _ _ _ w) | split | (refine gSw.bif ?_ ?_))
theorem gI_lookup_sw {dflt : Int} {ps : Array (Int × Int)} (hK : ∀ pc lv st lh mh, hSw lh mh → gSw (K pc lv st lh) (K' pc lv st mh)) (w : hSw lh mh) : gSw (gI_lookup K pc lv st lh dflt ps) (gI_lookup K' pc lv st mh dflt ps) := by
  unfold gI_lookup
  repeat' (first | exact gSw.none | exact gSw.ret w | exact hK _ _ _ _ _ w | exact gBack_sw hK (hC _ _ _ _ w) | split | (refine gSw.bif ?_ ?_))
def gNo98 (a : Nat) (v : Int) (i : Instr) : Bool := match i with
  | .getfield _ => !(Nat.beq a 98)
  | .putfield _ => !(Nat.beq a 98)
  | .invokevirtual _ => !(Nat.beq v.toNat 98)
  | _ => true
theorem not98 {a : Nat} (h : (!(Nat.beq a 98)) = true) : ¬ a = 98 := fun e => by
  subst e
  cases h
theorem gIns_sw {i : Instr} (hK : ∀ pc lv st lh mh, hSw lh mh → gSw (K pc lv st lh) (K' pc lv st mh)) (hC : ∀ a as lh mh, hSw lh mh → gSw (C a as lh) (C' a as mh)) (w : hSw lh mh) (n : gNo98 a v i = true) : gSw (gIns K C rt dp pc a b v lv st lh i) (gIns K' C' rt dp pc a b v lv st mh i) := by
  cases i with
  | getfield k => exact gI_get_sw hK w (not98 n)
  | putfield k => exact gI_put_sw hK w (not98 n)
  | invokevirtual k => exact gI_virt_sw hK hC w (not98 n)
  | iaload => exact gI_ald_sw (t := fun t => Nat.beq t 0) hK w
  | laload => exact gI_ald_sw (t := fun t => Nat.beq t 1) hK w
  | baload => exact gI_ald_sw (t := fun t => Nat.beq t 2 || Nat.beq t 3) hK w
  | aaload => exact gI_ald_sw (t := fun t => Nat.ble 4 t) hK w
  | iastore => exact gI_ist_sw (t := fun t => Nat.beq t 0) (g := fun _ w => .int w) hK w
  | bastore => exact gI_ist_sw (t := fun t => Nat.beq t 2 || Nat.beq t 3) (g := fun t w => narrow (gTy t) (.int w)) hK w
  | _ =>
    first | exact gSw.none | exact hK _ _ _ _ _ w | exact gSw.bif (hK _ _ _ _ _ w) (gI_int_sw hK w) | exact gI_iload_sw hK w | exact gI_lload_sw hK w | exact gI_aload_sw hK w | exact gI_istore_sw hK w | exact gI_astore_sw hK w | exact gI_lstore_sw hK w | exact gI_iinc_sw hK w | exact gI_int_sw hK w | exact gI_long_sw hK w | exact gI_bin_sw hK w | exact gI_div_sw hK w | exact gI_un_sw hK w | exact gI_lbin_sw hK w | exact gI_ldiv_sw hK w | exact gI_lcmp_sw hK w | exact gI_i2l_sw hK w | exact gI_l2i_sw hK w | exact gI_dup_sw hK w | exact gI_dup2_sw hK w | exact gI_pop_sw hK w | exact gI_if_sw hK w | exact gI_icmp_sw hK w | exact gI_ifnull_sw hK w | exact gI_ifnonnull_sw hK w | exact gI_table_sw hK w | exact gI_gets_sw hK w | exact gI_new_sw hK w | exact gI_newa_sw hK w | exact gI_len_sw hK w | exact gI_ald_sw hK w | exact gI_ist_sw hK w | exact gI_last_sw hK w | exact gI_aast_sw hK w | exact gI_stat_sw hK hC w | exact gI_spec_sw hK hC w | exact gI_iret_sw w | exact gI_lret_sw w | exact gI_aret_sw w | exact gI_vret_sw w | exact gI_lookup_sw hK w
end GSWAP
theorem gCall_sw {f g : Nat → Nat → Nat → gL → List Value → gH → Option gO} (h : ∀ j d pc lv st lh mh, hSw lh mh → gSw (f j d pc lv st lh) (g j d pc lv st mh)) (d a : Nat) (as : List Value) (lh mh : gH) (w : hSw lh mh) : gSw (gCall f d a as lh) (gCall g d a as mh) := by
  cases d with
  | zero => exact gSw.none
  | succ d => exact gSw.bif (h _ _ _ _ _ _ _ w) gSw.none
def gAll98 : Bool := gPgs.all fun A => A.all fun B => B.all fun l => l.all fun e => gNo98 e.2.2.1 e.2.2.2.2.1 e.2.1
set_option maxRecDepth 100000 in
theorem gAll98_ok : gAll98 = true := by decide +kernel
theorem gAtt_98 {j pc : Nat} {e : gE} (h : gAtt j pc = some e) : gNo98 e.2.2.1 e.2.2.2.2.1 e.2.1 = true := by
  unfold gAtt gProg at h
  have h1 := List.mem_of_find?_eq_some h
  have h0 := gAll98_ok
  unfold gAll98 at h0
  rw [List.getD_eq_getElem?_getD (l := gPgs)] at h1
  cases hA : gPgs[j / 16]? with
  | none => rw [hA] at h1; simp at h1
  | some A =>
    rw [hA] at h1
    simp only [Option.getD_some] at h1
    rw [List.getD_eq_getElem?_getD (l := A)] at h1
    cases hB : A[j % 16]? with
    | none => rw [hB] at h1; simp at h1
    | some B =>
      rw [hB] at h1
      simp only [Option.getD_some] at h1
      rw [List.getD_eq_getElem?_getD] at h1
      cases hl : B[pc / 32]? with
      | none => rw [hl] at h1; simp at h1
      | some l =>
        rw [hl] at h1
        simp only [Option.getD_some] at h1
        exact List.all_eq_true.mp (List.all_eq_true.mp (List.all_eq_true.mp (List.all_eq_true.mp h0 A (List.mem_of_getElem? hA)) B (List.mem_of_getElem? hB)) l (List.mem_of_getElem? hl)) e h1
theorem gRun_sw : ∀ (n j d pc : Nat) (lv : gL) (st : List Value) (lh mh : gH), hSw lh mh → gSw (gRun n j d pc lv st lh) (gRun n j d pc lv st mh) := by
  intro n
  induction n with
  | zero => intro j d pc lv st lh mh _; exact gSw.none
  | succ n ih =>
    intro j d pc lv st lh mh w
    rw [gRun_succ]
    unfold gStep
    cases ha : gAtt j pc with
    | none => exact gSw.none
    | some e => exact gIns_sw (fun pc lv st lh mh w => ih j d pc lv st lh mh w) (fun a as lh mh w => gCall_sw ih d a as lh mh w) w (gAtt_98 ha)
