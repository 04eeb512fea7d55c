theorem gAtt_chk {j pc : Nat} {e : gE} (h : gAtt j pc = some e) : e.1 = pc ∧ gchk j e = true := by
  unfold gAtt at h
  have h1 : e.1 = pc := Nat.eq_of_beq_eq_true (List.find?_some (p := fun (x : gE) => Nat.beq x.1 pc) h)
  have h2 := List.mem_of_find?_eq_some h
  refine ⟨h1, ?_⟩
  by_cases hj : j < 333
  · have h3 := List.all_eq_true.mp gkr_all j (List.mem_range.mpr hj)
    unfold gPchkS at h3
    refine gchkq_ok hj (gWalk_ok (p := 0) rfl h3 e (List.mem_flatten.mpr ⟨_, ?_, h2⟩))
    by_cases hq : pc / 32 < (gProg j).length
    · rw [List.getD_eq_getElem?_getD, List.getElem?_eq_getElem hq]
      exact List.getElem_mem hq
    · rw [List.getD_eq_getElem?_getD, List.getElem?_eq_none (by omega)] at h2
      exact absurd h2 List.not_mem_nil
  · have h5 : gProg j = [] := by
      unfold gProg
      by_cases hg : j / 16 < gPgs.length
      · have hl : gPgs.length = 21 := by decide +kernel
        have h6 : j / 16 = 20 := by omega
        rw [h6]
        have h7 : (gPgs.getD 20 []).length = 13 := by decide +kernel
        rw [List.getD_eq_getElem?_getD, List.getElem?_eq_none (by omega)]
        rfl
      · rw [List.getD_eq_getElem?_getD (l := gPgs), List.getElem?_eq_none (by omega)]
        rfl
    rw [h5] at h2
    rw [List.getD_eq_getElem?_getD, List.getElem?_eq_none (by simp)] at h2
    exact absurd h2 List.not_mem_nil
