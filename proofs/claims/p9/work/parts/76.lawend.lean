/-! THE LAW'S RUN, WHOLE: the start, the loop, the end. -/
noncomputable def sZs (S : sH) (o : Nat) (bs : List Nat) : Bool := match fNth S o with
  | some c => Nat.ble c.2.1 65536 && bs.all (fun b => qV (sGet c b) (0, 0, 0))
  | none => false
noncomputable def sZr (S : sH) (o : Nat) : Bool := match fNth S o with
  | some c => Nat.beq c.1 100 && (Nat.ble c.2.1 65536 && (match c.2.2 with
    | [] => true
    | _ :: _ => false))
  | none => false
theorem sZs_ok {ρ : Nat → Int32} {S : sH} {lh : gH} {o : Nat} {bs : List Nat} (h : sRH ρ S lh) (ho : ¬ (o = 1 ∨ o = 3 ∨ o = 5)) (hz : sZs S o bs = true) : ∀ b ∈ bs, hV (hDum lh) o b = 0 := by
  intro b hb
  unfold sZs at hz
  rw [fNth_eq] at hz
  cases hc : S[o]? with
  | none => rw [hc] at hz; cases hz
  | some c =>
    rw [hc] at hz
    dsimp only at hz
    rw [Bool.and_eq_true] at hz
    exact sSlot h ho hc (.inl (Nat.le_of_ble_eq_true hz.1)) (qV_ok (List.all_eq_true.mp hz.2 b hb))
theorem sZr_ok {ρ : Nat → Int32} {S : sH} {lh : gH} {o : Nat} (h : sRH ρ S lh) (ho : ¬ (o = 1 ∨ o = 3 ∨ o = 5)) (hz : sZr S o = true) : ∀ b, hV (hDum lh) o b = 0 := by
  intro b
  unfold sZr at hz
  rw [fNth_eq] at hz
  cases hc : S[o]? with
  | none => rw [hc] at hz; cases hz
  | some c =>
    rw [hc] at hz
    dsimp only at hz
    rw [Bool.and_eq_true, Bool.and_eq_true] at hz
    obtain ⟨c1, c2, c3⟩ := c
    have e1 := Nat.eq_of_beq_eq_true hz.1
    dsimp only at e1 hz
    subst e1
    cases c3 with
    | nil => exact sRow0 h ho hc (Nat.le_of_ble_eq_true hz.2.1) b
    | cons q l => exact absurd (show false = true from hz.2.2) (by decide)
set_option maxRecDepth 100000 in
theorem sS2_zs : sZs sS2 285 [18, 34, 64, 65] = true := by decide +kernel
set_option maxRecDepth 100000 in
theorem sS2_zr : ([297, 306, 333, 334, 341, 294, 296].all fun o => sZr sS2 o) = true := by decide +kernel
set_option maxRecDepth 100000 in
theorem sS2_a7 : sIsR sS2 11 7 7 = true := by decide +kernel
set_option maxRecDepth 100000 in
theorem sS2_a285 : sIsR sS2 12 285 285 = true := by decide +kernel
theorem law_zero {L : Nat} {xs : Nat → Int32} {lh : gH} (h : sRH (lawRho L xs) sS2 lh) : (∀ b, b = 18 ∨ b = 34 ∨ b = 64 ∨ b = 65 → hV (hDum lh) 285 b = 0) ∧ (∀ o, o = 297 ∨ o = 306 ∨ o = 333 ∨ o = 334 ∨ o = 341 ∨ o = 294 ∨ o = 296 → ∀ j, hV (hDum lh) o j = 0) := by
  refine ⟨fun b hb => sZs_ok h (by omega) sS2_zs b ?_, fun o ho => sZr_ok h (by omega) (List.all_eq_true.mp sS2_zr o ?_)⟩
  · rcases hb with rfl | rfl | rfl | rfl <;> decide
  · rcases ho with rfl | rfl | rfl | rfl | rfl | rfl | rfl <;> decide
theorem law_invs {L : Nat} {xs : Nat → Int32} {lh : gH} (h : sRH (lawRho L xs) sS2 lh) : SO (hDum lh) ∧ SS (hDum lh) ∧ PG (hDum lh) ∧ AC (hDum lh) ∧ PQ (hDum lh) ∧ RV (hDum lh) ∧ RN (hDum lh) := by
  obtain ⟨z, r⟩ := law_zero h
  have z18 := z 18 (.inl rfl)
  have z34 := z 34 (.inr (.inl rfl))
  have z64 := z 64 (.inr (.inr (.inl rfl)))
  have z65 := z 65 (.inr (.inr (.inr rfl)))
  have r297 := r 297 (.inl rfl)
  have r306 := r 306 (.inr (.inl rfl))
  have r333 := r 333 (.inr (.inr (.inl rfl)))
  have r334 := r 334 (.inr (.inr (.inr (.inl rfl))))
  have r341 := r 341 (.inr (.inr (.inr (.inr (.inl rfl)))))
  have r294 := r 294 (.inr (.inr (.inr (.inr (.inr (.inl rfl))))))
  have r296 := r 296 (.inr (.inr (.inr (.inr (.inr (.inr rfl))))))
  refine ⟨?_, ?_, ?_, ?_, ?_, ?_, ?_⟩
  · unfold SO
    rw [z64]
    intro s hs
    omega
  · unfold SS
    rw [z65]
    exact ⟨fun s _ => ⟨by rw [r333]; exact Int.le_refl 0, by rw [r334]; exact Int.le_refl 0⟩, fun k _ => by rw [r341]; exact Int.le_refl 0⟩
  · unfold PG
    rw [z18]
    intro s hs
    omega
  · unfold AC
    rw [z64]
    exact ⟨fun k hk => by omega, fun _ => 0, fun k hk => by omega⟩
  · unfold PQ
    intro s
    rw [r297, r294, r296]
    decide
  · unfold RV
    intro q hq
    rw [r306] at hq
    omega
  · unfold RN
    intro s
    rw [r306]
    decide
theorem law_run {L : Nat} (xs : Nat → Int32) (hL : L ≤ 3072) : ∃ (n : Nat) (o : gO), gRun n 0 20 0 [(0, .ref 0)] [] (gH0 L xs) = some o ∧ o.2.2 = [.int 1] ∧ o.1.length ≤ 600007 ∧ gsz o.1 ≤ 7302250 := by
  obtain ⟨lh, hr, hgo⟩ := law_begin xs hL
  obtain ⟨hWT, hsw, hlen, hgs, hk0, hn0⟩ := law_heap hL hr
  obtain ⟨i1, i2, i3, i4, i5, i6, i7⟩ := law_invs hr
  obtain ⟨z, _⟩ := law_zero hr
  have a0 : isA T0 (hDum lh) 108 (-1) 0 := ⟨⟨by decide, fun y => absurd rfl y⟩, ⟨hk0, by rw [hn0]; omega⟩, .inl (by decide), fun f _ hf => absurd (by rw [T0_row (by decide)]; rfl) hf⟩
  have a7 := sIsR_ok hr sS2_a7
  have a285 := sIsR_ok hr sS2_a285
  have hargs : vArgs T0 (hDum lh) e_0.2.1.1 [.ref 0] := ⟨⟨⟨0, rfl, a0⟩, rfl⟩, trivial⟩
  have g := eC_cut (e := e_0) (L := L_0) (cs := cs_0) (d := 19) (A := A_0) (μ := mu_0) (tp := false) 2000 m_0_calls (.inl rfl) (by decide +kernel) (fun y => nomatch y) m_0_cuts [.ref 0] (hDum lh) hWT hargs (fun _ => (rfl : (0 : Int) = 0)) (mu_0 18 ([0] ++ [0, 7, 285, 0]) (hDum lh) (hDum lh)) (18, [(0, (3, 108, -1, 0)), (1, (3, 11, 7, 0)), (2, (3, 12, 285, 0)), (3, (0, -2147483648, 2147483647, 0))]) List.mem_cons_self
  have hb1 : 0 ≤ hV (hDum lh) 23 1 ∧ hV (hDum lh) 23 1 ≤ 20 := hWT.rg 23 1 _ _ (by decide +kernel)
  have hb2 : 0 ≤ hV (hDum lh) 7 4 ∧ hV (hDum lh) 7 4 ≤ 8 := hWT.rg 7 4 _ _ (by decide +kernel)
  have hz65 := z 65 (.inr (.inr (.inr rfl)))
  obtain ⟨n, o, e, q1, q2, q3, q4⟩ := g lawLv (hDum lh) [0, 7, 285, 0] hWT (hLw.refl _ _ _ _) ⟨⟨.ref 0, rfl, rfl, ⟨0, rfl, a0⟩, rfl⟩, ⟨.ref 7, rfl, rfl, ⟨7, rfl, a7⟩, rfl⟩, ⟨.ref 285, rfl, rfl, ⟨285, rfl, a285⟩, rfl⟩, ⟨.int (Int32.ofInt 0), rfl, rfl, ⟨Int32.ofInt 0, rfl, by decide, by decide⟩, rfl⟩, trivial⟩ (by
    show Ab_0_18 0 0 7 285 0 (hDum lh) (hDum lh)
    exact ⟨rfl, ⟨hk0, by rw [hn0]; exact hL⟩, by decide, by decide, by rw [hz65]; decide, by rw [hlen]; omega, i1, i2, i3, i4, i5, i6, i7, law_cpl hWT hr⟩) rfl
  obtain ⟨v, w1, x, w2, w3, w4⟩ : ∃ v, o.2.2 = [v] ∧ ∃ x : Int32, v = .int x ∧ (0 : Int) ≤ x.toInt ∧ x.toInt ≤ 1 := q3
  obtain ⟨h, hs, hw⟩ := gRun_sw n 0 20 18 lawLv [] _ _ hsw o e
  have q5 : x.toInt = 1 ∧ (o.1.length : Int) ≤ 2000 := by
    rw [w1, w2] at q4
    exact q4
  have hx : x = 1 := Int32.toInt_inj.mp q5.1
  have q6 : gsz o.1 + 300 * (hDum lh).length ≤ gsz (hDum lh) + 300 * o.1.length := q2.2.2.2
  refine ⟨n + 60020, (h, o.2.1, o.2.2), hgo n _ hs, by rw [w1, w2, hx], ?_, ?_⟩
  · rw [← hw.1]
    have := q5.2
    omega
  · rw [← hw.2.1]
    have := q5.2
    omega
