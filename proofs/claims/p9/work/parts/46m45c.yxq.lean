/-! LEMMAS on cues that stand unfolded, over rows. -/
section XQS
variable {laid : Int} {xc cs cw cm ca cmt cn : Nat → Int}
theorem XQp_0 (z : XQp laid xc cs cw cm ca cmt cn) {s : Nat} (hs : (s : Int) < laid) (h0 : cs (xc s).toNat = 0) : 0 ≤ cw (xc s).toNat ∧ cw (xc s).toNat ≤ 19 := by
  have g : gCp _ _ _ _ _ _ _ := z s hs
  exact ⟨(g.2.1 h0).1, (g.2.1 h0).2.1⟩
theorem XQp_2 (z : XQp laid xc cs cw cm ca cmt cn) {s : Nat} (hs : (s : Int) < laid) (h0 : cs (xc s).toNat = 2) (hx : 0 ≤ xc s) : 0 ≤ cw (xc s).toNat ∧ cw (xc s).toNat ≤ 2 ∧ 0 ≤ cn (6 * xc s).toNat ∧ cn (6 * xc s).toNat ≤ 2 := by
  have g : gCp _ _ _ _ _ _ _ := z s hs
  have q := g.2.2.1 h0
  rw [show (6 * xc s).toNat = 6 * (xc s).toNat by omega]
  exact q
theorem XQp_3 (z : XQp laid xc cs cw cm ca cmt cn) {s : Nat} (hs : (s : Int) < laid) (h0 : cs (xc s).toNat = 3) (hx : 0 ≤ xc s) : 0 ≤ cw (xc s).toNat ∧ cw (xc s).toNat ≤ 2 ∧ cn (6 * xc s).toNat ≤ 4 := by
  have g : gCp _ _ _ _ _ _ _ := z s hs
  have q := g.2.2.2.1 h0
  rw [show (6 * xc s).toNat = 6 * (xc s).toNat by omega]
  exact q
theorem XQp_m (z : XQp laid xc cs cw cm ca cmt cn) {s : Nat} (hs : (s : Int) < laid) (h0 : cs (xc s).toNat < 2) : cm (xc s).toNat ≤ 7 := by
  have g : gCp _ _ _ _ _ _ _ := z s hs
  exact g.2.2.2.2.2.1 (.inl h0)
theorem XQp_s (z : XQp laid xc cs cw cm ca cmt cn) {s : Nat} (hs : (s : Int) < laid) (h0 : cs (xc s).toNat = 0) (hx : 0 ≤ xc s) : 0 ≤ cn (6 * xc s + 5).toNat ∧ cn (6 * xc s + 5).toNat ≤ 2 := by
  have g : gCp _ _ _ _ _ _ _ := z s hs
  have q := (g.2.1 h0).2.2.2
  rw [show (6 * xc s + 5).toNat = 6 * (xc s).toNat + 5 by omega]
  exact q
end XQS
