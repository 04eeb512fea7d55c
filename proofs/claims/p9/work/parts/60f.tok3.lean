/-! WHAT A NOTE DOES to the rows of TOKENS (behind tokens2.lean.txt). -/
theorem putQ_row {a0 a1 a2 : Int} {a b : gH} (h : putQ a0 a1 a2 a b) (h0 : 0 ≤ a0) (h1 : a1 < (hN a a0.toNat : Int)) : hV b a0.toNat = uF (hV a a0.toNat) a1 a2 := funext fun j => by
  rw [h a0.toNat j, uF_at]
  by_cases c : (j : Int) = a1
  · rw [if_pos c, if_pos ⟨Int.toNat_of_nonneg h0, c, by omega⟩]
  · rw [if_neg c, if_neg (fun z => c z.2.1)]
theorem putQ_ne {a0 a1 a2 : Int} {a b : gH} (h : putQ a0 a1 a2 a b) (q : Nat) (n : ¬ (q : Int) = a0) : hV b q = hV a q := funext fun j => by
  rw [h q j, if_neg (fun z => n z.1)]
/-- one TOKEN more -/
def NTp (k p v : Int) (a b : gH) : Prop := hV b 31 4 = hV a 31 4 + 1 ∧ hV b 33 = uF (hV a 33) (hV a 31 4) k ∧ hV b 34 = uF (hV a 34) (hV a 31 4) p ∧ hV b 35 = uF (hV a 35) (hV a 31 4) v ∧ hV b 32 = hV a 32
theorem NTp_mk {k p v c1 c2 c3 c4 : Int} {a b c d e : gH} (ka : KS5 a) (kb : KS5 b) (kc : KS5 c) (h0 : 0 ≤ hV a 31 4) (h1 : hV a 31 4 ≤ 501) (e1 : c1 = hV a 31 4) (p1 : putQ 33 c1 k a b) (e2 : c2 = hV b 31 4) (p2 : putQ 34 c2 p b c) (e3 : c3 = hV c 31 4) (p3 : putQ 35 c3 v c d) (e4 : c4 = hV d 31 4) (u : hUpd e d 31 4 (w32 (c4 + 1))) : NTp k p v a e := by
  obtain ⟨ka1, ka2, ka3, ka4, ka5, n33, n34, n35⟩ := ka
  obtain ⟨kb1, kb2, kb3, kb4, kb5, b33, b34, b35⟩ := kb
  obtain ⟨kc1, kc2, kc3, kc4, kc5, c33, c34, c35⟩ := kc
  have q2 : hV b 31 4 = hV a 31 4 := by rw [putQ_ne p1 31 (by decide)]
  have q3 : hV c 31 4 = hV a 31 4 := by rw [putQ_ne p2 31 (by decide), q2]
  have q4 : hV d 31 4 = hV a 31 4 := by rw [putQ_ne p3 31 (by decide), q3]
  rw [q2] at e2
  rw [q3] at e3
  rw [q4] at e4
  subst e1
  subst e2
  subst e3
  subst e4
  have r1 : hV b 33 = uF (hV a 33) (hV a 31 4) k := putQ_row p1 (by decide) (by show _ < (hN a 33 : Int); omega)
  have r2 : hV c 34 = uF (hV b 34) (hV a 31 4) p := putQ_row p2 (by decide) (by show _ < (hN b 34 : Int); omega)
  have r3 : hV d 35 = uF (hV c 35) (hV a 31 4) v := putQ_row p3 (by decide) (by show _ < (hN c 35 : Int); omega)
  refine ⟨?_, ?_, ?_, ?_, ?_⟩
  · rw [uSame u 31 4 rfl rfl]
    unfold w32
    omega
  · rw [uRowNe u 33 (by decide), putQ_ne p3 33 (by decide), putQ_ne p2 33 (by decide), r1]
  · rw [uRowNe u 34 (by decide), putQ_ne p3 34 (by decide), r2, putQ_ne p1 34 (by decide)]
  · rw [uRowNe u 35 (by decide), r3, putQ_ne p2 35 (by decide), putQ_ne p1 35 (by decide)]
  · rw [uRowNe u 32 (by decide), putQ_ne p3 32 (by decide), putQ_ne p2 32 (by decide), putQ_ne p1 32 (by decide)]
