/-! A NAME'S TOKEN (behind scanInt). -/
def NTL (B : Nat → Int) (n i : Nat) (p : Int) (a b : gH) : Prop := ∃ v, NTp (tkL B n i).1 p v a b ∧ ((tkL B n i).1 = 2 → NV v ∧ c27 9 v = (tkL B n i).2.2.2)
theorem LCd_NV {B : Nat → Int} {n i e : Nat} {v : Int} (z : LEs B n i e) (c : LCd B i e v) (h1 : i < e) (h8 : e - i ≤ 8) : NV v ∧ c27 9 v = pCd 27 B (e - i) i 0 := by
  have k := c (by omega)
  have w : ∀ j, i ≤ j → j < i + (e - i) → 97 ≤ B j ∧ B j ≤ 122 := fun j p q => z.2.2.1 j p (by omega)
  rw [k]
  exact ⟨⟨e - i, h8, by omega, NVn_pCd w⟩, c27_pCd (by omega) w⟩
theorem NTL_mk {B : Nat → Int} {n i e : Nat} {p v k : Int} {a b : gH} (z : LEs B n i e) (c : LCd B i e v) (hb : n ≤ e ∨ B e < 97 ∨ 122 < B e) (h1 : i < e) (t : NTp k p v a b) (hk : (e - i ≤ 8 ∧ k = kwL v 16 kw32) ∨ (8 < e - i ∧ k = 1)) : NTL B n i p a b := by
  have m := LEs_end z hb
  rcases hk with ⟨h, hk⟩ | ⟨h, hk⟩
  · have w := LCd_NV z c h1 h
    rw [kw_both w.1, w.2] at hk
    have e0 : ¬ 8 < pLe B n (n - i) i := by omega
    unfold NTL tkL
    rw [if_neg e0, m]
    by_cases q : kwK (pCd 27 B (e - i) i 0) = 2
    · rw [if_pos q]
      rw [q] at hk
      exact ⟨v, by rw [← hk]; exact t, fun _ => w⟩
    · rw [if_neg q]
      exact ⟨v, by rw [← hk]; exact t, fun x => absurd x q⟩
  · have e0 : 8 < pLe B n (n - i) i := by omega
    unfold NTL tkL
    rw [if_pos e0]
    exact ⟨v, by rw [← hk]; exact t, fun x => absurd (show (1 : Int) = 2 from x) (by decide)⟩
