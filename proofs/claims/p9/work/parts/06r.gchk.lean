/-! WHAT IS TOLD ONCE of links and callees (printed by wip/gen/gen07q.py). -/
set_option maxRecDepth 1000000 in
theorem gFLa_0 : gFL_0.all (gFLk 0) = true := by decide +kernel
set_option maxRecDepth 1000000 in
theorem gFLa_1 : gFL_1.all (gFLk 1) = true := by decide +kernel
set_option maxRecDepth 1000000 in
theorem gFLa_2 : gFL_2.all (gFLk 2) = true := by decide +kernel
set_option maxRecDepth 1000000 in
theorem gFLa_3 : gFL_3.all (gFLk 3) = true := by decide +kernel
set_option maxRecDepth 1000000 in
theorem gFLa_4 : gFL_4.all (gFLk 4) = true := by decide +kernel
set_option maxRecDepth 1000000 in
theorem gFLa_5 : gFL_5.all (gFLk 5) = true := by decide +kernel
set_option maxRecDepth 1000000 in
theorem gFLa_6 : gFL_6.all (gFLk 6) = true := by decide +kernel
set_option maxRecDepth 1000000 in
theorem gFLa_7 : gFL_7.all (gFLk 7) = true := by decide +kernel
set_option maxRecDepth 1000000 in
theorem gFLa_8 : gFL_8.all (gFLk 8) = true := by decide +kernel
set_option maxRecDepth 1000000 in
theorem gFLa_9 : gFL_9.all (gFLk 9) = true := by decide +kernel
set_option maxRecDepth 1000000 in
theorem gFLa_10 : gFL_10.all (gFLk 10) = true := by decide +kernel
set_option maxRecDepth 1000000 in
theorem gFLa_11 : gFL_11.all (gFLk 11) = true := by decide +kernel
set_option maxRecDepth 1000000 in
theorem gFLa_12 : gFL_12.all (gFLk 12) = true := by decide +kernel
set_option maxRecDepth 1000000 in
theorem gFLa_13 : gFL_13.all (gFLk 13) = true := by decide +kernel
set_option maxRecDepth 1000000 in
theorem gFLa_14 : gFL_14.all (gFLk 14) = true := by decide +kernel
set_option maxRecDepth 1000000 in
theorem gFLa_15 : gFL_15.all (gFLk 15) = true := by decide +kernel
set_option maxRecDepth 1000000 in
theorem gFLa_16 : gFL_16.all (gFLk 16) = true := by decide +kernel
set_option maxRecDepth 1000000 in
theorem gFLa_17 : gFL_17.all (gFLk 17) = true := by decide +kernel
set_option maxRecDepth 1000000 in
theorem gFLa_18 : gFL_18.all (gFLk 18) = true := by decide +kernel
set_option maxRecDepth 1000000 in
theorem gFLa_19 : gFL_19.all (gFLk 19) = true := by decide +kernel
set_option maxRecDepth 1000000 in
theorem gFLa_20 : gFL_20.all (gFLk 20) = true := by decide +kernel
set_option maxRecDepth 1000000 in
theorem gMLa_0 : gML_0.all (gMLk 0) = true := by decide +kernel
set_option maxRecDepth 1000000 in
theorem gMLa_1 : gML_1.all (gMLk 1) = true := by decide +kernel
set_option maxRecDepth 1000000 in
theorem gMLa_2 : gML_2.all (gMLk 2) = true := by decide +kernel
set_option maxRecDepth 1000000 in
theorem gMLa_3 : gML_3.all (gMLk 3) = true := by decide +kernel
set_option maxRecDepth 1000000 in
theorem gMLa_4 : gML_4.all (gMLk 4) = true := by decide +kernel
set_option maxRecDepth 1000000 in
theorem gMLa_5 : gML_5.all (gMLk 5) = true := by decide +kernel
set_option maxRecDepth 1000000 in
theorem gMLa_6 : gML_6.all (gMLk 6) = true := by decide +kernel
set_option maxRecDepth 1000000 in
theorem gMLa_7 : gML_7.all (gMLk 7) = true := by decide +kernel
set_option maxRecDepth 1000000 in
theorem gMLa_8 : gML_8.all (gMLk 8) = true := by decide +kernel
set_option maxRecDepth 1000000 in
theorem gMLa_9 : gML_9.all (gMLk 9) = true := by decide +kernel
set_option maxRecDepth 1000000 in
theorem gMLa_10 : gML_10.all (gMLk 10) = true := by decide +kernel
set_option maxRecDepth 1000000 in
theorem gMLa_11 : gML_11.all (gMLk 11) = true := by decide +kernel
set_option maxRecDepth 1000000 in
theorem gMLa_12 : gML_12.all (gMLk 12) = true := by decide +kernel
set_option maxRecDepth 1000000 in
theorem gMLa_13 : gML_13.all (gMLk 13) = true := by decide +kernel
set_option maxRecDepth 1000000 in
theorem gMLa_14 : gML_14.all (gMLk 14) = true := by decide +kernel
set_option maxRecDepth 1000000 in
theorem gMLa_15 : gML_15.all (gMLk 15) = true := by decide +kernel
set_option maxRecDepth 1000000 in
theorem gMLa_16 : gML_16.all (gMLk 16) = true := by decide +kernel
set_option maxRecDepth 1000000 in
theorem gMLa_17 : gML_17.all (gMLk 17) = true := by decide +kernel
set_option maxRecDepth 1000000 in
theorem gMLa_18 : gML_18.all (gMLk 18) = true := by decide +kernel
set_option maxRecDepth 1000000 in
theorem gMLa_19 : gML_19.all (gMLk 19) = true := by decide +kernel
set_option maxRecDepth 1000000 in
theorem gMLa_20 : gML_20.all (gMLk 20) = true := by decide +kernel
set_option maxRecDepth 1000000 in
theorem gMVa_0 : gMV_0.all gMVk = true := by decide +kernel
set_option maxRecDepth 1000000 in
theorem gMVa_1 : gMV_1.all gMVk = true := by decide +kernel
set_option maxRecDepth 1000000 in
theorem gMVa_2 : gMV_2.all gMVk = true := by decide +kernel
set_option maxRecDepth 1000000 in
theorem gMVa_3 : gMV_3.all gMVk = true := by decide +kernel
set_option maxRecDepth 1000000 in
theorem gMVa_4 : gMV_4.all gMVk = true := by decide +kernel
set_option maxRecDepth 1000000 in
theorem gMVa_5 : gMV_5.all gMVk = true := by decide +kernel
set_option maxRecDepth 1000000 in
theorem gMVa_6 : gMV_6.all gMVk = true := by decide +kernel
set_option maxRecDepth 1000000 in
theorem gMVa_7 : gMV_7.all gMVk = true := by decide +kernel
set_option maxRecDepth 1000000 in
theorem gMVa_8 : gMV_8.all gMVk = true := by decide +kernel
set_option maxRecDepth 1000000 in
theorem gMVa_9 : gMV_9.all gMVk = true := by decide +kernel
set_option maxRecDepth 1000000 in
theorem gMVa_10 : gMV_10.all gMVk = true := by decide +kernel
set_option maxRecDepth 1000000 in
theorem gMVa_11 : gMV_11.all gMVk = true := by decide +kernel
set_option maxRecDepth 1000000 in
theorem gMVa_12 : gMV_12.all gMVk = true := by decide +kernel
set_option maxRecDepth 1000000 in
theorem gMVa_13 : gMV_13.all gMVk = true := by decide +kernel
set_option maxRecDepth 1000000 in
theorem gMVa_14 : gMV_14.all gMVk = true := by decide +kernel
set_option maxRecDepth 1000000 in
theorem gMVa_15 : gMV_15.all gMVk = true := by decide +kernel
set_option maxRecDepth 1000000 in
theorem gMVa_16 : gMV_16.all gMVk = true := by decide +kernel
set_option maxRecDepth 1000000 in
theorem gMVa_17 : gMV_17.all gMVk = true := by decide +kernel
set_option maxRecDepth 1000000 in
theorem gMSa_0 : gMS_0.all gMSk = true := by decide +kernel
set_option maxRecDepth 1000000 in
theorem gMSa_1 : gMS_1.all gMSk = true := by decide +kernel
set_option maxRecDepth 1000000 in
theorem gMSa_2 : gMS_2.all gMSk = true := by decide +kernel
set_option maxRecDepth 1000000 in
theorem gMIa_0 : gMI_0.all gMIk = true := by decide +kernel
set_option maxRecDepth 1000000 in
theorem gOwT_ok : (List.range 333).all (fun j => Nat.beq (gOwT.getD j 99) 99 || decide (gOn (gOwT.getD j 99) = (gM j).1.cls)) = true := by decide +kernel
theorem gFL_all : ∀ (c : Nat) (r : Nat × Nat × Nat × Nat), r ∈ gFL.getD c [] → gFLk c r = true := by
  intro c r h
  match c, h with
  | 0, h => exact List.all_eq_true.mp gFLa_0 r h
  | 1, h => exact List.all_eq_true.mp gFLa_1 r h
  | 2, h => exact List.all_eq_true.mp gFLa_2 r h
  | 3, h => exact List.all_eq_true.mp gFLa_3 r h
  | 4, h => exact List.all_eq_true.mp gFLa_4 r h
  | 5, h => exact List.all_eq_true.mp gFLa_5 r h
  | 6, h => exact List.all_eq_true.mp gFLa_6 r h
  | 7, h => exact List.all_eq_true.mp gFLa_7 r h
  | 8, h => exact List.all_eq_true.mp gFLa_8 r h
  | 9, h => exact List.all_eq_true.mp gFLa_9 r h
  | 10, h => exact List.all_eq_true.mp gFLa_10 r h
  | 11, h => exact List.all_eq_true.mp gFLa_11 r h
  | 12, h => exact List.all_eq_true.mp gFLa_12 r h
  | 13, h => exact List.all_eq_true.mp gFLa_13 r h
  | 14, h => exact List.all_eq_true.mp gFLa_14 r h
  | 15, h => exact List.all_eq_true.mp gFLa_15 r h
  | 16, h => exact List.all_eq_true.mp gFLa_16 r h
  | 17, h => exact List.all_eq_true.mp gFLa_17 r h
  | 18, h => exact List.all_eq_true.mp gFLa_18 r h
  | 19, h => exact List.all_eq_true.mp gFLa_19 r h
  | 20, h => exact List.all_eq_true.mp gFLa_20 r h
  | c + 21, h => exact absurd h List.not_mem_nil
theorem gML_all : ∀ (c : Nat) (r : Nat × Nat × Nat), r ∈ gML.getD c [] → gMLk c r = true := by
  intro c r h
  match c, h with
  | 0, h => exact List.all_eq_true.mp gMLa_0 r h
  | 1, h => exact List.all_eq_true.mp gMLa_1 r h
  | 2, h => exact List.all_eq_true.mp gMLa_2 r h
  | 3, h => exact List.all_eq_true.mp gMLa_3 r h
  | 4, h => exact List.all_eq_true.mp gMLa_4 r h
  | 5, h => exact List.all_eq_true.mp gMLa_5 r h
  | 6, h => exact List.all_eq_true.mp gMLa_6 r h
  | 7, h => exact List.all_eq_true.mp gMLa_7 r h
  | 8, h => exact List.all_eq_true.mp gMLa_8 r h
  | 9, h => exact List.all_eq_true.mp gMLa_9 r h
  | 10, h => exact List.all_eq_true.mp gMLa_10 r h
  | 11, h => exact List.all_eq_true.mp gMLa_11 r h
  | 12, h => exact List.all_eq_true.mp gMLa_12 r h
  | 13, h => exact List.all_eq_true.mp gMLa_13 r h
  | 14, h => exact List.all_eq_true.mp gMLa_14 r h
  | 15, h => exact List.all_eq_true.mp gMLa_15 r h
  | 16, h => exact List.all_eq_true.mp gMLa_16 r h
  | 17, h => exact List.all_eq_true.mp gMLa_17 r h
  | 18, h => exact List.all_eq_true.mp gMLa_18 r h
  | 19, h => exact List.all_eq_true.mp gMLa_19 r h
  | 20, h => exact List.all_eq_true.mp gMLa_20 r h
  | c + 21, h => exact absurd h List.not_mem_nil
theorem gMV_all : ∀ l ∈ gMV, ∀ r : Nat × Nat × Nat × Nat × Nat × Nat × Nat, r ∈ l → gMVk r = true := by
  intro l hl r h
  unfold gMV at hl
  simp only [List.mem_cons, List.not_mem_nil, or_false] at hl
  rcases hl with rfl | rfl | rfl | rfl | rfl | rfl | rfl | rfl | rfl | rfl | rfl | rfl | rfl | rfl | rfl | rfl | rfl | rfl <;> first | exact List.all_eq_true.mp gMVa_0 r h | exact List.all_eq_true.mp gMVa_1 r h | exact List.all_eq_true.mp gMVa_2 r h | exact List.all_eq_true.mp gMVa_3 r h | exact List.all_eq_true.mp gMVa_4 r h | exact List.all_eq_true.mp gMVa_5 r h | exact List.all_eq_true.mp gMVa_6 r h | exact List.all_eq_true.mp gMVa_7 r h | exact List.all_eq_true.mp gMVa_8 r h | exact List.all_eq_true.mp gMVa_9 r h | exact List.all_eq_true.mp gMVa_10 r h | exact List.all_eq_true.mp gMVa_11 r h | exact List.all_eq_true.mp gMVa_12 r h | exact List.all_eq_true.mp gMVa_13 r h | exact List.all_eq_true.mp gMVa_14 r h | exact List.all_eq_true.mp gMVa_15 r h | exact List.all_eq_true.mp gMVa_16 r h | exact List.all_eq_true.mp gMVa_17 r h
theorem gMS_all : ∀ l ∈ gMS, ∀ r : Nat × Nat × Nat × Nat × Nat, r ∈ l → gMSk r = true := by
  intro l hl r h
  unfold gMS at hl
  simp only [List.mem_cons, List.not_mem_nil, or_false] at hl
  rcases hl with rfl | rfl | rfl <;> first | exact List.all_eq_true.mp gMSa_0 r h | exact List.all_eq_true.mp gMSa_1 r h | exact List.all_eq_true.mp gMSa_2 r h
theorem gMI_all : ∀ l ∈ gMI, ∀ r : Nat × Nat × Nat × Nat × Nat, r ∈ l → gMIk r = true := by
  intro l hl r h
  unfold gMI at hl
  simp only [List.mem_cons, List.not_mem_nil, or_false] at hl
  rcases hl with rfl <;> first | exact List.all_eq_true.mp gMIa_0 r h
theorem gFLb_ok {c idx a b t : Nat} {own : String} (ho : gOn c = own) (h : gFLb c idx a b t = true) : (gHas t (.fieldLink own idx (gT a b).1 (gT a b).2.1 (gT a b).2.2.1) || gHas t (.fieldLinkNest own idx (gT a b).1 (gT a b).2.1 (gT a b).2.2.1 "MixStage")) = true := by
  subst ho
  unfold gFLb at h
  obtain ⟨⟨r1, r2, r3, r4⟩, hr, h⟩ := List.any_eq_true.mp h
  simp only [Bool.and_eq_true] at h
  obtain ⟨h1, h2, h3, h4⟩ := h
  have e1 : r1 = t := Nat.eq_of_beq_eq_true h1
  have e2 : r2 = idx := Nat.eq_of_beq_eq_true h2
  have e3 : r3 = a := Nat.eq_of_beq_eq_true h3
  have e4 : r4 = b := Nat.eq_of_beq_eq_true h4
  subst e1 e2 e3 e4
  exact gFL_all c _ hr
theorem gMLb_ok {c idx a t : Nat} {own : String} (ho : gOn c = own) (h : gMLb c idx a t = true) : gckL own idx a t = true := by
  subst ho
  unfold gMLb at h
  obtain ⟨⟨r1, r2, r3⟩, hr, h⟩ := List.any_eq_true.mp h
  simp only [Bool.and_eq_true] at h
  obtain ⟨h1, h2, h3⟩ := h
  have e1 : r1 = t := Nat.eq_of_beq_eq_true h1
  have e2 : r2 = idx := Nat.eq_of_beq_eq_true h2
  have e3 : r3 = a := Nat.eq_of_beq_eq_true h3
  subst e1 e2 e3
  exact gML_all c _ hr
theorem gMVb_ok {a b t1 t2 t3 t4 v : Nat} (h : gMVb a b t1 t2 t3 t4 v = true) : (gHas t1 (.instanceMethod (gM a).1) && (gHas t2 (.selects (gM a).1.cls (gM a).1 (gM a).1) && (gckM a b t3 t4 && (Nat.blt v 14 && decide (gCn v = (gM a).1.cls))))) = true := by
  unfold gMVb at h
  obtain ⟨l, hl, h⟩ := List.any_eq_true.mp h
  obtain ⟨⟨r1, r2, r3, r4, r5, r6, r7⟩, hr, h⟩ := List.any_eq_true.mp h
  simp only [Bool.and_eq_true] at h
  obtain ⟨h1, h2, h3, h4, h5, h6, h7⟩ := h
  have e1 : r1 = a := Nat.eq_of_beq_eq_true h1
  have e2 : r2 = b := Nat.eq_of_beq_eq_true h2
  have e3 : r3 = t1 := Nat.eq_of_beq_eq_true h3
  have e4 : r4 = t2 := Nat.eq_of_beq_eq_true h4
  have e5 : r5 = t3 := Nat.eq_of_beq_eq_true h5
  have e6 : r6 = t4 := Nat.eq_of_beq_eq_true h6
  have e7 : r7 = v := Nat.eq_of_beq_eq_true h7
  subst e1 e2 e3 e4 e5 e6 e7
  exact gMV_all l hl _ hr
theorem gMSb_ok {a b t1 t2 t3 : Nat} (h : gMSb a b t1 t2 t3 = true) : (gHas t1 (.static (gM a).1) && gckM a b t2 t3) = true := by
  unfold gMSb at h
  obtain ⟨l, hl, h⟩ := List.any_eq_true.mp h
  obtain ⟨⟨r1, r2, r3, r4, r5⟩, hr, h⟩ := List.any_eq_true.mp h
  simp only [Bool.and_eq_true] at h
  obtain ⟨h1, h2, h3, h4, h5⟩ := h
  have e1 : r1 = a := Nat.eq_of_beq_eq_true h1
  have e2 : r2 = b := Nat.eq_of_beq_eq_true h2
  have e3 : r3 = t1 := Nat.eq_of_beq_eq_true h3
  have e4 : r4 = t2 := Nat.eq_of_beq_eq_true h4
  have e5 : r5 = t3 := Nat.eq_of_beq_eq_true h5
  subst e1 e2 e3 e4 e5
  exact gMS_all l hl _ hr
theorem gMIb_ok {a b t1 t2 t3 : Nat} (h : gMIb a b t1 t2 t3 = true) : (gHas t1 (.instanceMethod (gM a).1) && (decide ((gM a).1.name = "<init>") && (decide (gRt a = none) && gckM a b t2 t3))) = true := by
  unfold gMIb at h
  obtain ⟨l, hl, h⟩ := List.any_eq_true.mp h
  obtain ⟨⟨r1, r2, r3, r4, r5⟩, hr, h⟩ := List.any_eq_true.mp h
  simp only [Bool.and_eq_true] at h
  obtain ⟨h1, h2, h3, h4, h5⟩ := h
  have e1 : r1 = a := Nat.eq_of_beq_eq_true h1
  have e2 : r2 = b := Nat.eq_of_beq_eq_true h2
  have e3 : r3 = t1 := Nat.eq_of_beq_eq_true h3
  have e4 : r4 = t2 := Nat.eq_of_beq_eq_true h4
  have e5 : r5 = t3 := Nat.eq_of_beq_eq_true h5
  subst e1 e2 e3 e4 e5
  exact gMI_all l hl _ hr
theorem gckq_ok {c : Nat} {own name : String} {mx pc a b : Nat} {v : Int} {ts : List Nat} {i : Instr} (ho : gOn c = own) (h : gckq c own name mx pc a b v ts i = true) : gck own name mx pc a b v ts i = true := by
  unfold gckq at h
  split at h
  · rw [Bool.and_eq_true, Bool.and_eq_true] at h
    show (Nat.blt a 14 && (Nat.blt b (gN a) && _)) = true
    rw [Bool.and_eq_true, Bool.and_eq_true]
    exact ⟨h.1, h.2.1, gFLb_ok ho h.2.2⟩
  · rw [Bool.and_eq_true, Bool.and_eq_true, Bool.and_eq_true] at h
    show (Nat.blt a 13 && ((Nat.blt b (gN a) && _) && _)) = true
    rw [Bool.and_eq_true, Bool.and_eq_true, Bool.and_eq_true]
    exact ⟨h.1, ⟨h.2.1.1, gFLb_ok ho h.2.1.2⟩, h.2.2⟩
  · rw [Bool.and_eq_true] at h
    show (gckL own _ a (gts ts 0) && _) = true
    rw [Bool.and_eq_true]
    exact ⟨gMLb_ok ho h.1, gMVb_ok h.2⟩
  · rw [Bool.and_eq_true] at h
    show (gckL own _ a (gts ts 0) && _) = true
    rw [Bool.and_eq_true]
    exact ⟨gMLb_ok ho h.1, gMSb_ok h.2⟩
  · cases ha : Nat.beq a 9999 with
    | true =>
      rw [ha] at h
      exact h
    | false =>
      rw [ha] at h
      have h2 : (gMLb c _ a (gts ts 0) && gMIb a b (gts ts 1) (gts ts 2) (gts ts 3)) = true := h
      rw [Bool.and_eq_true] at h2
      show (bif Nat.beq a 9999 then _ else (gckL own _ a (gts ts 0) && _)) = true
      rw [ha]
      show (gckL own _ a (gts ts 0) && _) = true
      rw [Bool.and_eq_true]
      exact ⟨gMLb_ok ho h2.1, gMIb_ok h2.2⟩
  · exact h
theorem gchkq_ok {j : Nat} {e : gE} (hj : j < 333) (h : gchkq j e = true) : gchk j e = true := by
  unfold gchkq at h
  unfold gchk
  rw [Bool.and_eq_true] at h ⊢
  refine ⟨h.1, ?_⟩
  have h2 := h.2
  have ho := List.all_eq_true.mp gOwT_ok j (List.mem_range.mpr hj)
  rw [Bool.or_eq_true] at ho
  cases hb : Nat.beq (gOwT.getD j 99) 99 with
  | true =>
    rw [hb] at h2
    exact h2
  | false =>
    rw [hb] at h2 ho
    rcases ho with ho | ho
    · cases ho
    · exact gckq_ok (of_decide_eq_true ho) h2
