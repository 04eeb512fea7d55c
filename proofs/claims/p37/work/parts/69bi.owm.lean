/-! How many lays of a MUSIC a SHEET has (hand; behind mus). -/
noncomputable def cntL (E : SE) (mu : Int) : List LR → Int
  | [] => 0
  | c :: r => @ite Int (MUp E mu c) (Classical.propDecidable _) 1 0 + cntL E mu r
theorem cntL_app {E : SE} {mu : Int} {c : LR} : ∀ {L : List LR}, cntL E mu (L ++ [c]) = cntL E mu L + @ite Int (MUp E mu c) (Classical.propDecidable _) 1 0
  | [] => by
    show @ite Int (MUp E mu c) (Classical.propDecidable _) 1 0 + 0 = 0 + @ite Int (MUp E mu c) (Classical.propDecidable _) 1 0
    omega
  | x :: r => by
    show @ite Int (MUp E mu x) (Classical.propDecidable _) 1 0 + cntL E mu (r ++ [c]) = @ite Int (MUp E mu x) (Classical.propDecidable _) 1 0 + cntL E mu r + @ite Int (MUp E mu c) (Classical.propDecidable _) 1 0
    rw [cntL_app]
    omega
theorem cntL_take {E : SE} {mu k k' : Int} {c : LR} {L : List LR} (h : L[k.toNat]? = some c) (h0 : 0 ≤ k) (ek : k' = k + 1) : cntL E mu (L.take k'.toNat) = cntL E mu (L.take k.toNat) + @ite Int (MUp E mu c) (Classical.propDecidable _) 1 0 := by
  rw [show k'.toNat = k.toNat + 1 by omega, List.take_succ, h]
  exact cntL_app
theorem cntL_y {E : SE} {mu k k' n n' : Int} {c : LR} {L : List LR} (h : L[k.toNat]? = some c) (y : MUp E mu c) (h0 : 0 ≤ k) (e : n = cntL E mu (L.take k.toNat)) (en : n' = n + 1) (ek : k' = k + 1) : n' = cntL E mu (L.take k'.toNat) := by
  rw [cntL_take h h0 ek, if_pos y, en, e]
theorem cntL_n {E : SE} {mu k k' n n' : Int} {c : LR} {L : List LR} (h : L[k.toNat]? = some c) (y : ¬ MUp E mu c) (h0 : 0 ≤ k) (e : n = cntL E mu (L.take k.toNat)) (en : n' = n) (ek : k' = k + 1) : n' = cntL E mu (L.take k'.toNat) := by
  rw [cntL_take h h0 ek, if_neg y, en, e, Int.add_zero]
theorem cntL_all {E : SE} {mu k n : Int} {L : List LR} (h : (L.length : Int) ≤ k) (e : n = cntL E mu (L.take k.toNat)) : n = cntL E mu L := by
  rw [List.take_of_length_le (by omega)] at e
  exact e
theorem cntL_0 {E : SE} {mu k n : Int} {L : List LR} (h : k = 0) (e : n = 0) : n = cntL E mu (L.take k.toNat) := by
  rw [h, e]
  rfl
theorem cntL_b {E : SE} {mu : Int} : ∀ {L : List LR}, 0 ≤ cntL E mu L ∧ cntL E mu L ≤ (L.length : Int)
  | [] => ⟨Int.le_refl 0, Int.le_refl 0⟩
  | c :: r => by
    have i := cntL_b (E := E) (mu := mu) (L := r)
    rw [List.length_cons]
    show 0 ≤ @ite Int (MUp E mu c) (Classical.propDecidable _) 1 0 + cntL E mu r ∧ @ite Int (MUp E mu c) (Classical.propDecidable _) 1 0 + cntL E mu r ≤ ((r.length + 1 : Nat) : Int)
    by_cases y : MUp E mu c
    · rw [if_pos y]
      omega
    · rw [if_neg y]
      omega
theorem cntL_tb {E : SE} {mu k n : Int} {L : List LR} (h0 : 0 ≤ k) (e : n = cntL E mu (L.take k.toNat)) : 0 ≤ n ∧ n ≤ k := by
  have b := cntL_b (E := E) (mu := mu) (L := L.take k.toNat)
  have l := List.length_take_le k.toNat L
  omega
