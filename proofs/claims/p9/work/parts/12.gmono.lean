/-! MORE STEPS CHANGE NO ANSWER: the run is monotone in its number of steps (printed by wip/gen/gen12m.py). -/
def gLe (r s : Option gO) : Prop := ∀ o, r = some o → s = some o
theorem gLe.none {s : Option gO} : gLe none s := fun _ h => nomatch h
theorem gLe.rfl {s : Option gO} : gLe s s := fun _ h => h
section GMONO
variable {K K' : Nat → gL → List Value → gH → Option gO} {C C' : Nat → List Value → gH → Option gO} {rt : Option FieldType} {dp : Bool} {pc a b : Nat} {v : Int} {lv : gL} {st : List Value} {lh : gH}
theorem gLe_bif {c : Bool} {r r' s s' : Option gO} (h1 : gLe r r') (h2 : gLe s s') : gLe (bif c then r else s) (bif c then r' else s') := by
  cases c with
  | true => exact h1
  | false => exact h2
theorem gBack_le {n : Nat} {r : List Value} {x x' : Option gO} (hK : ∀ pc lv st lh, gLe (K pc lv st lh) (K' pc lv st lh)) (h : gLe x x') : gLe (gBack K pc lv n r x) (gBack K' pc lv n r x') := by
  cases x with
  | none => exact gLe.none
  | some o =>
    rw [h o rfl]
    exact hK _ _ _ _
theorem gI_iload_le {i n : Nat} (hK : ∀ pc lv st lh, gLe (K pc lv st lh) (K' pc lv st lh)) : gLe (gI_iload K pc lv st lh i n) (gI_iload K' pc lv st lh i n) := by
  unfold gI_iload
  repeat' (first | exact gLe.none | exact gLe.rfl | exact hK _ _ _ _ | exact gBack_le hK (hC _ _ _) | split | (refine gLe_bif ?_ ?_))
theorem gI_lload_le {i n : Nat} (hK : ∀ pc lv st lh, gLe (K pc lv st lh) (K' pc lv st lh)) : gLe (gI_lload K pc lv st lh i n) (gI_lload K' pc lv st lh i n) := by
  unfold gI_lload
  repeat' (first | exact gLe.none | exact gLe.rfl | exact hK _ _ _ _ | exact gBack_le hK (hC _ _ _) | split | (refine gLe_bif ?_ ?_))
theorem gI_aload_le {i n : Nat} (hK : ∀ pc lv st lh, gLe (K pc lv st lh) (K' pc lv st lh)) : gLe (gI_aload K pc lv st lh i n) (gI_aload K' pc lv st lh i n) := by
  unfold gI_aload
  repeat' (first | exact gLe.none | exact gLe.rfl | exact hK _ _ _ _ | exact gBack_le hK (hC _ _ _) | split | (refine gLe_bif ?_ ?_))
theorem gI_istore_le {i n : Nat} (hK : ∀ pc lv st lh, gLe (K pc lv st lh) (K' pc lv st lh)) : gLe (gI_istore K pc lv st lh i n) (gI_istore K' pc lv st lh i n) := by
  unfold gI_istore
  repeat' (first | exact gLe.none | exact gLe.rfl | exact hK _ _ _ _ | exact gBack_le hK (hC _ _ _) | split | (refine gLe_bif ?_ ?_))
theorem gI_astore_le {i n : Nat} (hK : ∀ pc lv st lh, gLe (K pc lv st lh) (K' pc lv st lh)) : gLe (gI_astore K pc lv st lh i n) (gI_astore K' pc lv st lh i n) := by
  unfold gI_astore
  repeat' (first | exact gLe.none | exact gLe.rfl | exact hK _ _ _ _ | exact gBack_le hK (hC _ _ _) | split | (refine gLe_bif ?_ ?_))
theorem gI_lstore_le {i n : Nat} (hK : ∀ pc lv st lh, gLe (K pc lv st lh) (K' pc lv st lh)) : gLe (gI_lstore K pc lv st lh i n) (gI_lstore K' pc lv st lh i n) := by
  unfold gI_lstore
  repeat' (first | exact gLe.none | exact gLe.rfl | exact hK _ _ _ _ | exact gBack_le hK (hC _ _ _) | split | (refine gLe_bif ?_ ?_))
theorem gI_iinc_le {i : Nat} {n : Int} (hK : ∀ pc lv st lh, gLe (K pc lv st lh) (K' pc lv st lh)) : gLe (gI_iinc K pc lv st lh i n) (gI_iinc K' pc lv st lh i n) := by
  unfold gI_iinc
  repeat' (first | exact gLe.none | exact gLe.rfl | exact hK _ _ _ _ | exact gBack_le hK (hC _ _ _) | split | (refine gLe_bif ?_ ?_))
theorem gI_int_le {x : Int32} {n : Nat} (hK : ∀ pc lv st lh, gLe (K pc lv st lh) (K' pc lv st lh)) : gLe (gI_int K pc lv st lh x n) (gI_int K' pc lv st lh x n) := by
  unfold gI_int
  repeat' (first | exact gLe.none | exact gLe.rfl | exact hK _ _ _ _ | exact gBack_le hK (hC _ _ _) | split | (refine gLe_bif ?_ ?_))
theorem gI_long_le {x : Int64} {n : Nat} (hK : ∀ pc lv st lh, gLe (K pc lv st lh) (K' pc lv st lh)) : gLe (gI_long K pc lv st lh x n) (gI_long K' pc lv st lh x n) := by
  unfold gI_long
  repeat' (first | exact gLe.none | exact gLe.rfl | exact hK _ _ _ _ | exact gBack_le hK (hC _ _ _) | split | (refine gLe_bif ?_ ?_))
theorem gI_bin_le {f : Int32 → Int32 → Int32} (hK : ∀ pc lv st lh, gLe (K pc lv st lh) (K' pc lv st lh)) : gLe (gI_bin K pc lv st lh f) (gI_bin K' pc lv st lh f) := by
  unfold gI_bin
  repeat' (first | exact gLe.none | exact gLe.rfl | exact hK _ _ _ _ | exact gBack_le hK (hC _ _ _) | split | (refine gLe_bif ?_ ?_))
theorem gI_div_le {f : Int32 → Int32 → Int32} (hK : ∀ pc lv st lh, gLe (K pc lv st lh) (K' pc lv st lh)) : gLe (gI_div K pc lv st lh f) (gI_div K' pc lv st lh f) := by
  unfold gI_div
  repeat' (first | exact gLe.none | exact gLe.rfl | exact hK _ _ _ _ | exact gBack_le hK (hC _ _ _) | split | (refine gLe_bif ?_ ?_))
theorem gI_un_le {f : Int32 → Int32} (hK : ∀ pc lv st lh, gLe (K pc lv st lh) (K' pc lv st lh)) : gLe (gI_un K pc lv st lh f) (gI_un K' pc lv st lh f) := by
  unfold gI_un
  repeat' (first | exact gLe.none | exact gLe.rfl | exact hK _ _ _ _ | exact gBack_le hK (hC _ _ _) | split | (refine gLe_bif ?_ ?_))
theorem gI_lbin_le {f : Int64 → Int64 → Int64} (hK : ∀ pc lv st lh, gLe (K pc lv st lh) (K' pc lv st lh)) : gLe (gI_lbin K pc lv st lh f) (gI_lbin K' pc lv st lh f) := by
  unfold gI_lbin
  repeat' (first | exact gLe.none | exact gLe.rfl | exact hK _ _ _ _ | exact gBack_le hK (hC _ _ _) | split | (refine gLe_bif ?_ ?_))
theorem gI_ldiv_le (hK : ∀ pc lv st lh, gLe (K pc lv st lh) (K' pc lv st lh)) : gLe (gI_ldiv K pc lv st lh) (gI_ldiv K' pc lv st lh) := by
  unfold gI_ldiv
  repeat' (first | exact gLe.none | exact gLe.rfl | exact hK _ _ _ _ | exact gBack_le hK (hC _ _ _) | split | (refine gLe_bif ?_ ?_))
theorem gI_lcmp_le (hK : ∀ pc lv st lh, gLe (K pc lv st lh) (K' pc lv st lh)) : gLe (gI_lcmp K pc lv st lh) (gI_lcmp K' pc lv st lh) := by
  unfold gI_lcmp
  repeat' (first | exact gLe.none | exact gLe.rfl | exact hK _ _ _ _ | exact gBack_le hK (hC _ _ _) | split | (refine gLe_bif ?_ ?_))
theorem gI_i2l_le (hK : ∀ pc lv st lh, gLe (K pc lv st lh) (K' pc lv st lh)) : gLe (gI_i2l K pc lv st lh) (gI_i2l K' pc lv st lh) := by
  unfold gI_i2l
  repeat' (first | exact gLe.none | exact gLe.rfl | exact hK _ _ _ _ | exact gBack_le hK (hC _ _ _) | split | (refine gLe_bif ?_ ?_))
theorem gI_l2i_le (hK : ∀ pc lv st lh, gLe (K pc lv st lh) (K' pc lv st lh)) : gLe (gI_l2i K pc lv st lh) (gI_l2i K' pc lv st lh) := by
  unfold gI_l2i
  repeat' (first | exact gLe.none | exact gLe.rfl | exact hK _ _ _ _ | exact gBack_le hK (hC _ _ _) | split | (refine gLe_bif ?_ ?_))
theorem gI_dup_le (hK : ∀ pc lv st lh, gLe (K pc lv st lh) (K' pc lv st lh)) : gLe (gI_dup K pc lv st lh) (gI_dup K' pc lv st lh) := by
  unfold gI_dup
  repeat' (first | exact gLe.none | exact gLe.rfl | exact hK _ _ _ _ | exact gBack_le hK (hC _ _ _) | split | (refine gLe_bif ?_ ?_))
theorem gI_dup2_le (hK : ∀ pc lv st lh, gLe (K pc lv st lh) (K' pc lv st lh)) : gLe (gI_dup2 K pc lv st lh) (gI_dup2 K' pc lv st lh) := by
  unfold gI_dup2
  repeat' (first | exact gLe.none | exact gLe.rfl | exact hK _ _ _ _ | exact gBack_le hK (hC _ _ _) | split | (refine gLe_bif ?_ ?_))
theorem gI_pop_le (hK : ∀ pc lv st lh, gLe (K pc lv st lh) (K' pc lv st lh)) : gLe (gI_pop K pc lv st lh) (gI_pop K' pc lv st lh) := by
  unfold gI_pop
  repeat' (first | exact gLe.none | exact gLe.rfl | exact hK _ _ _ _ | exact gBack_le hK (hC _ _ _) | split | (refine gLe_bif ?_ ?_))
theorem gI_if_le {c : Jvm.ClassFile.Cond} (hK : ∀ pc lv st lh, gLe (K pc lv st lh) (K' pc lv st lh)) : gLe (gI_if K pc a lv st lh c) (gI_if K' pc a lv st lh c) := by
  unfold gI_if
  repeat' (first | exact gLe.none | exact gLe.rfl | exact hK _ _ _ _ | exact gBack_le hK (hC _ _ _) | split | (refine gLe_bif ?_ ?_))
theorem gI_icmp_le {c : Jvm.ClassFile.Cond} (hK : ∀ pc lv st lh, gLe (K pc lv st lh) (K' pc lv st lh)) : gLe (gI_icmp K pc a lv st lh c) (gI_icmp K' pc a lv st lh c) := by
  unfold gI_icmp
  repeat' (first | exact gLe.none | exact gLe.rfl | exact hK _ _ _ _ | exact gBack_le hK (hC _ _ _) | split | (refine gLe_bif ?_ ?_))
theorem gI_ifnull_le (hK : ∀ pc lv st lh, gLe (K pc lv st lh) (K' pc lv st lh)) : gLe (gI_ifnull K pc a lv st lh) (gI_ifnull K' pc a lv st lh) := by
  unfold gI_ifnull
  repeat' (first | exact gLe.none | exact gLe.rfl | exact hK _ _ _ _ | exact gBack_le hK (hC _ _ _) | split | (refine gLe_bif ?_ ?_))
theorem gI_ifnonnull_le (hK : ∀ pc lv st lh, gLe (K pc lv st lh) (K' pc lv st lh)) : gLe (gI_ifnonnull K pc a lv st lh) (gI_ifnonnull K' pc a lv st lh) := by
  unfold gI_ifnonnull
  repeat' (first | exact gLe.none | exact gLe.rfl | exact hK _ _ _ _ | exact gBack_le hK (hC _ _ _) | split | (refine gLe_bif ?_ ?_))
theorem gI_table_le {dflt lo hi : Int} {offs : Array Int} (hK : ∀ pc lv st lh, gLe (K pc lv st lh) (K' pc lv st lh)) : gLe (gI_table K pc lv st lh dflt lo hi offs) (gI_table K' pc lv st lh dflt lo hi offs) := by
  unfold gI_table
  repeat' (first | exact gLe.none | exact gLe.rfl | exact hK _ _ _ _ | exact gBack_le hK (hC _ _ _) | split | (refine gLe_bif ?_ ?_))
theorem gI_get_le (hK : ∀ pc lv st lh, gLe (K pc lv st lh) (K' pc lv st lh)) : gLe (gI_get K pc a b lv st lh) (gI_get K' pc a b lv st lh) := by
  unfold gI_get
  repeat' (first | exact gLe.none | exact gLe.rfl | exact hK _ _ _ _ | exact gBack_le hK (hC _ _ _) | split | (refine gLe_bif ?_ ?_))
theorem gI_put_le (hK : ∀ pc lv st lh, gLe (K pc lv st lh) (K' pc lv st lh)) : gLe (gI_put K pc a b lv st lh) (gI_put K' pc a b lv st lh) := by
  unfold gI_put
  repeat' (first | exact gLe.none | exact gLe.rfl | exact hK _ _ _ _ | exact gBack_le hK (hC _ _ _) | split | (refine gLe_bif ?_ ?_))
theorem gI_gets_le (hK : ∀ pc lv st lh, gLe (K pc lv st lh) (K' pc lv st lh)) : gLe (gI_gets K pc a lv st lh) (gI_gets K' pc a lv st lh) := by
  unfold gI_gets
  repeat' (first | exact gLe.none | exact gLe.rfl | exact hK _ _ _ _ | exact gBack_le hK (hC _ _ _) | split | (refine gLe_bif ?_ ?_))
theorem gI_new_le (hK : ∀ pc lv st lh, gLe (K pc lv st lh) (K' pc lv st lh)) : gLe (gI_new K pc a lv st lh) (gI_new K' pc a lv st lh) := by
  unfold gI_new
  repeat' (first | exact gLe.none | exact gLe.rfl | exact hK _ _ _ _ | exact gBack_le hK (hC _ _ _) | split | (refine gLe_bif ?_ ?_))
theorem gI_newa_le {n : Nat} (hK : ∀ pc lv st lh, gLe (K pc lv st lh) (K' pc lv st lh)) : gLe (gI_newa K pc a lv st lh n) (gI_newa K' pc a lv st lh n) := by
  unfold gI_newa
  repeat' (first | exact gLe.none | exact gLe.rfl | exact hK _ _ _ _ | exact gBack_le hK (hC _ _ _) | split | (refine gLe_bif ?_ ?_))
theorem gI_len_le (hK : ∀ pc lv st lh, gLe (K pc lv st lh) (K' pc lv st lh)) : gLe (gI_len K pc lv st lh) (gI_len K' pc lv st lh) := by
  unfold gI_len
  repeat' (first | exact gLe.none | exact gLe.rfl | exact hK _ _ _ _ | exact gBack_le hK (hC _ _ _) | split | (refine gLe_bif ?_ ?_))
theorem gI_ald_le {t : Nat → Bool} (hK : ∀ pc lv st lh, gLe (K pc lv st lh) (K' pc lv st lh)) : gLe (gI_ald K pc lv st lh t) (gI_ald K' pc lv st lh t) := by
  unfold gI_ald
  repeat' (first | exact gLe.none | exact gLe.rfl | exact hK _ _ _ _ | exact gBack_le hK (hC _ _ _) | split | (refine gLe_bif ?_ ?_))
theorem gI_ist_le {t : Nat → Bool} {g : Nat → Int32 → Value} (hK : ∀ pc lv st lh, gLe (K pc lv st lh) (K' pc lv st lh)) : gLe (gI_ist K pc lv st lh t g) (gI_ist K' pc lv st lh t g) := by
  unfold gI_ist
  repeat' (first | exact gLe.none | exact gLe.rfl | exact hK _ _ _ _ | exact gBack_le hK (hC _ _ _) | split | (refine gLe_bif ?_ ?_))
theorem gI_last_le (hK : ∀ pc lv st lh, gLe (K pc lv st lh) (K' pc lv st lh)) : gLe (gI_last K pc lv st lh) (gI_last K' pc lv st lh) := by
  unfold gI_last
  repeat' (first | exact gLe.none | exact gLe.rfl | exact hK _ _ _ _ | exact gBack_le hK (hC _ _ _) | split | (refine gLe_bif ?_ ?_))
theorem gI_aast_le (hK : ∀ pc lv st lh, gLe (K pc lv st lh) (K' pc lv st lh)) : gLe (gI_aast K pc lv st lh) (gI_aast K' pc lv st lh) := by
  unfold gI_aast
  repeat' (first | exact gLe.none | exact gLe.rfl | exact hK _ _ _ _ | exact gBack_le hK (hC _ _ _) | split | (refine gLe_bif ?_ ?_))
theorem gI_virt_le (hK : ∀ pc lv st lh, gLe (K pc lv st lh) (K' pc lv st lh)) (hC : ∀ a as lh, gLe (C a as lh) (C' a as lh)) : gLe (gI_virt K C pc a b v lv st lh) (gI_virt K' C' pc a b v lv st lh) := by
  unfold gI_virt
  repeat' (first | exact gLe.none | exact gLe.rfl | exact hK _ _ _ _ | exact gBack_le hK (hC _ _ _) | split | (refine gLe_bif ?_ ?_))
theorem gI_stat_le (hK : ∀ pc lv st lh, gLe (K pc lv st lh) (K' pc lv st lh)) (hC : ∀ a as lh, gLe (C a as lh) (C' a as lh)) : gLe (gI_stat K C pc a b lv st lh) (gI_stat K' C' pc a b lv st lh) := by
  unfold gI_stat
  repeat' (first | exact gLe.none | exact gLe.rfl | exact hK _ _ _ _ | exact gBack_le hK (hC _ _ _) | split | (refine gLe_bif ?_ ?_))
theorem gI_spec_le (hK : ∀ pc lv st lh, gLe (K pc lv st lh) (K' pc lv st lh)) (hC : ∀ a as lh, gLe (C a as lh) (C' a as lh)) : gLe (gI_spec K C dp pc a b lv st lh) (gI_spec K' C' dp pc a b lv st lh) := by
  unfold gI_spec
  repeat' (first | exact gLe.none | exact gLe.rfl | exact hK _ _ _ _ | exact gBack_le hK (hC _ _ _) | split | (refine gLe_bif ?_ ?_))
theorem gI_lookup_le {dflt : Int} {ps : Array (Int × Int)} (hK : ∀ pc lv st lh, gLe (K pc lv st lh) (K' pc lv st lh)) : gLe (gI_lookup K pc lv st lh dflt ps) (gI_lookup K' pc lv st lh dflt ps) := by
  unfold gI_lookup
  repeat' (first | exact gLe.none | exact gLe.rfl | exact hK _ _ _ _ | exact gBack_le hK (hC _ _ _) | split | (refine gLe_bif ?_ ?_))
theorem gIns_le {i : Instr} (hK : ∀ pc lv st lh, gLe (K pc lv st lh) (K' pc lv st lh)) (hC : ∀ a as lh, gLe (C a as lh) (C' a as lh)) : gLe (gIns K C rt dp pc a b v lv st lh i) (gIns K' C' rt dp pc a b v lv st lh i) := by
  unfold gIns
  split <;> first | exact gLe.none | exact gLe.rfl | exact hK _ _ _ _ | exact gLe_bif (hK _ _ _ _) (gI_int_le hK) | exact gI_lookup_le hK | exact gI_iload_le hK | exact gI_lload_le hK | exact gI_aload_le hK | exact gI_istore_le hK | exact gI_astore_le hK | exact gI_lstore_le hK | exact gI_iinc_le hK | exact gI_int_le hK | exact gI_long_le hK | exact gI_bin_le hK | exact gI_div_le hK | exact gI_un_le hK | exact gI_lbin_le hK | exact gI_ldiv_le hK | exact gI_lcmp_le hK | exact gI_i2l_le hK | exact gI_l2i_le hK | exact gI_dup_le hK | exact gI_dup2_le hK | exact gI_pop_le hK | exact gI_if_le hK | exact gI_icmp_le hK | exact gI_ifnull_le hK | exact gI_ifnonnull_le hK | exact gI_table_le hK | exact gI_get_le hK | exact gI_put_le hK | exact gI_gets_le hK | exact gI_new_le hK | exact gI_newa_le hK | exact gI_len_le hK | exact gI_ald_le hK | exact gI_ist_le hK | exact gI_last_le hK | exact gI_aast_le hK | exact gI_virt_le hK hC | exact gI_stat_le hK hC | exact gI_spec_le hK hC
end GMONO
theorem gCall_le {f g : Nat → Nat → Nat → gL → List Value → gH → Option gO} (h : ∀ j d pc lv st lh, gLe (f j d pc lv st lh) (g j d pc lv st lh)) (d a : Nat) (as : List Value) (lh : gH) : gLe (gCall f d a as lh) (gCall g d a as lh) := by
  cases d with
  | zero => exact gLe.none
  | succ d => exact gLe_bif (h _ _ _ _ _ _) gLe.none
theorem gRun_le1 : ∀ (n j d pc : Nat) (lv : gL) (st : List Value) (lh : gH), gLe (gRun n j d pc lv st lh) (gRun (n + 1) j d pc lv st lh) := by
  intro n
  induction n with
  | zero => intro j d pc lv st lh; exact gLe.none
  | succ n ih =>
    intro j d pc lv st lh
    rw [gRun_succ, gRun_succ]
    unfold gStep
    cases gAtt j pc with
    | none => exact gLe.none
    | some e => exact gIns_le (fun pc lv st lh => ih j d pc lv st lh) (fun a as lh => gCall_le ih d a as lh)
theorem gRun_le {n m : Nat} (h : n ≤ m) (j d pc : Nat) (lv : gL) (st : List Value) (lh : gH) : gLe (gRun n j d pc lv st lh) (gRun m j d pc lv st lh) := by
  induction h with
  | refl => exact gLe.rfl
  | step _ ih => exact fun o ho => gRun_le1 _ _ _ _ _ _ _ o (ih o ho)
