/-! THE TEXT'S TOKENS, place by place (behind tokens9.lean.txt). -/
theorem pLe_1 {B : Nat → Int} {n i : Nat} (h : i < n) (h1 : 97 ≤ B i) (h2 : B i ≤ 122) : 1 ≤ pLe B n (n - i) i := by
  rw [pLe_more h h1 h2]
  omega
theorem pDi_1 {B : Nat → Int} {n i : Nat} (h : i < n) (h1 : 48 ≤ B i) (h2 : B i ≤ 57) : 1 ≤ pDi B n (n - i) i := by
  rw [pDi_more h h1 h2]
  omega
theorem pTk_fuel {B : Nat → Int} {n : Nat} : ∀ {f i : Nat}, n - i ≤ f → pTk B n f i = pTk B n (n - i) i := by
  intro f
  induction f using Nat.strongRecOn with
  | _ f ih =>
    intro i h
    rcases Nat.lt_or_ge (n - i) f with c | c
    · cases f with
      | zero => omega
      | succ f =>
        by_cases hi : i < n
        · obtain ⟨g, hg⟩ : ∃ g, n - i = g + 1 := ⟨n - i - 1, by omega⟩
          rw [hg]
          have st : ∀ j, i < j → pTk B n f j = pTk B n g j := fun j hj => by
            rw [ih f (Nat.lt_succ_self _) (show n - j ≤ f by omega), ih g (by omega) (show n - j ≤ g by omega)]
          show (if i < n then _ else _) = (if i < n then _ else _)
          rw [if_pos hi, if_pos hi]
          by_cases c1 : B i = 9 ∨ B i = 10 ∨ B i = 13 ∨ B i = 32
          · rw [if_pos c1, if_pos c1, st _ (by omega)]
          · rw [if_neg c1, if_neg c1]
            by_cases c2 : 97 ≤ B i ∧ B i ≤ 122
            · have := pLe_1 hi c2.1 c2.2
              rw [if_pos c2, if_pos c2, st _ (by omega)]
            · rw [if_neg c2, if_neg c2]
              by_cases c3 : 48 ≤ B i ∧ B i ≤ 57
              · have := pDi_1 hi c3.1 c3.2
                rw [if_pos c3, if_pos c3, st _ (by omega)]
              · rw [if_neg c3, if_neg c3]
                by_cases c4 : i + 1 < n ∧ B (i + 1) = 61 ∧ ¬ sg2 (B i) = 1
                · rw [if_pos c4, if_pos c4, st _ (by omega)]
                · rw [if_neg c4, if_neg c4, st _ (by omega)]
        · rw [show n - i = 0 by omega]
          exact if_neg hi
    · rw [show n - i = f by omega]
theorem pTk_end {B : Nat → Int} {n f i : Nat} (h : n ≤ i) : pTk B n f i = [] := by
  cases f with
  | zero => rfl
  | succ f => exact if_neg (by omega)
theorem pTk_at {B : Nat → Int} {n i : Nat} (h : i < n) : pTk B n (n - i) i = (if B i = 9 ∨ B i = 10 ∨ B i = 13 ∨ B i = 32 then pTk B n (n - (i + 1)) (i + 1)
      else if 97 ≤ B i ∧ B i ≤ 122 then tkL B n i :: pTk B n (n - (i + pLe B n (n - i) i)) (i + pLe B n (n - i) i)
      else if 48 ≤ B i ∧ B i ≤ 57 then tkD B n i :: pTk B n (n - (i + pDi B n (n - i) i)) (i + pDi B n (n - i) i)
      else if i + 1 < n ∧ B (i + 1) = 61 ∧ ¬ sg2 (B i) = 1 then (sg2 (B i), (i : Int), 0, 0) :: pTk B n (n - (i + 2)) (i + 2)
      else (sg1 (B i), (i : Int), 0, 0) :: pTk B n (n - (i + 1)) (i + 1)) := by
  obtain ⟨g, hg⟩ : ∃ g, n - i = g + 1 := ⟨n - i - 1, by omega⟩
  have st : ∀ j, i < j → pTk B n g j = pTk B n (n - j) j := fun j hj => pTk_fuel (by omega)
  have e : pTk B n (n - i) i = (if B i = 9 ∨ B i = 10 ∨ B i = 13 ∨ B i = 32 then pTk B n g (i + 1)
      else if 97 ≤ B i ∧ B i ≤ 122 then tkL B n i :: pTk B n g (i + pLe B n (n - i) i)
      else if 48 ≤ B i ∧ B i ≤ 57 then tkD B n i :: pTk B n g (i + pDi B n (n - i) i)
      else if i + 1 < n ∧ B (i + 1) = 61 ∧ ¬ sg2 (B i) = 1 then (sg2 (B i), (i : Int), 0, 0) :: pTk B n g (i + 2)
      else (sg1 (B i), (i : Int), 0, 0) :: pTk B n g (i + 1)) := by
    conv => lhs; rw [hg]
    exact if_pos h
  rw [e]
  by_cases c1 : B i = 9 ∨ B i = 10 ∨ B i = 13 ∨ B i = 32
  · rw [if_pos c1, if_pos c1, st _ (by omega)]
  · rw [if_neg c1, if_neg c1]
    by_cases c2 : 97 ≤ B i ∧ B i ≤ 122
    · have := pLe_1 h c2.1 c2.2
      rw [if_pos c2, if_pos c2, st _ (by omega)]
    · rw [if_neg c2, if_neg c2]
      by_cases c3 : 48 ≤ B i ∧ B i ≤ 57
      · have := pDi_1 h c3.1 c3.2
        rw [if_pos c3, if_pos c3, st _ (by omega)]
      · rw [if_neg c3, if_neg c3]
        by_cases c4 : i + 1 < n ∧ B (i + 1) = 61 ∧ ¬ sg2 (B i) = 1
        · rw [if_pos c4, if_pos c4, st _ (by omega)]
        · rw [if_neg c4, if_neg c4, st _ (by omega)]
/-- L: the TOKENS told when place i is reached -/
def TKL (B : Nat → Int) (n i : Nat) (L : List Tok) : Prop := pTk B n n 0 = L ++ pTk B n (n - i) i
theorem TKL_0 {B : Nat → Int} {n : Nat} : TKL B n 0 [] := rfl
theorem TKL_add {B : Nat → Int} {n i j : Nat} {L : List Tok} {t : Tok} (z : TKL B n i L) (e : pTk B n (n - i) i = t :: pTk B n (n - j) j) : TKL B n j (L ++ [t]) := by
  unfold TKL
  rw [z, e, List.append_assoc]
  rfl
theorem TKL_skip {B : Nat → Int} {n i j : Nat} {L : List Tok} (z : TKL B n i L) (e : pTk B n (n - i) i = pTk B n (n - j) j) : TKL B n j L := by
  unfold TKL
  rw [z, e]
theorem TKL_end {B : Nat → Int} {n i : Nat} {L : List Tok} (z : TKL B n i L) (h : n ≤ i) : pTk B n n 0 = L := by rw [z, pTk_end h, List.append_nil]
theorem vw_ext {v : Vw} {B : Nat → Int} {n : Int} (h : ∀ s, v.1 s = (tkAt (pTk B n.toNat n.toNat 0) n s).1 ∧ v.2.1 s = (tkAt (pTk B n.toNat n.toNat 0) n s).2.2.1 ∧ v.2.2.1 s = (tkAt (pTk B n.toNat n.toNat 0) n s).2.2.2 ∧ v.2.2.2 s = (tkAt (pTk B n.toNat n.toNat 0) n s).2.1) : v = pTx B n := Prod.ext (funext fun s => (h s).1) (Prod.ext (funext fun s => (h s).2.1) (Prod.ext (funext fun s => (h s).2.2.1) (funext fun s => (h s).2.2.2)))
theorem tkAt_in {L : List Tok} {n s : Int} {t : Tok} (h0 : 0 ≤ s) (h5 : s ≤ 500) (e : L[s.toNat]? = some t) : tkAt L n s = t := by
  unfold tkAt
  rw [if_neg (by omega), if_neg (by omega), e]
theorem tkAt_out {L : List Tok} {n s : Int} (h0 : 0 ≤ s) (h5 : s ≤ 500) (e : (L.length : Int) < s) : tkAt L n s = (0, 0, 0, 0) := by
  unfold tkAt
  rw [if_neg (by omega), if_neg (by omega), List.getElem?_eq_none (by omega)]
  exact if_neg (by omega)
theorem tkAt_end {L : List Tok} {n s : Int} (h5 : s ≤ 500) (e : s = (L.length : Int)) : tkAt L n s = (0, n, 0, 0) := by
  unfold tkAt
  rw [if_neg (by omega), if_neg (by omega), List.getElem?_eq_none (by omega)]
  exact if_pos e
