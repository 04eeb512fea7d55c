/-! THE START of what is coupled (hand; behind mixl.lean.txt and the law's start). -/
noncomputable def sEqn (v : sV) (n : Int) : Bool := bif Nat.ble v.1 1 then (decide (v.2.1 = n) && decide (v.2.2 = n)) else (Nat.beq v.1 3 && (decide (v.2.1 = n) && decide (0 ≤ n)))
theorem sEqn_ok {ρ : Nat → Int32} {v : sV} {w : Value} {n : Int} (h : sEqn v n = true) (r : sRel ρ v w) : vI w = n := by
  obtain ⟨k, a, b⟩ := v
  unfold sEqn at h
  cases c : Nat.ble k 1 with
  | true =>
    replace h : (bif Nat.ble k 1 then (decide (a = n) && decide (b = n)) else _) = true := h
    rw [c, cond_true, Bool.and_eq_true, decide_eq_true_eq, decide_eq_true_eq] at h
    have k1 : k ≤ 1 := Nat.le_of_ble_eq_true c
    obtain ⟨h1, h2⟩ := h
    have k2 : k = 0 ∨ k = 1 := by omega
    rcases k2 with rfl | rfl
    · obtain ⟨x, rfl, x2, x3⟩ := r
      have y2 : a ≤ x.toInt := x2
      have y3 : x.toInt ≤ b := x3
      show x.toInt = n
      omega
    · obtain ⟨x, rfl, x2, x3⟩ := r
      have y2 : a ≤ x.toInt := x2
      have y3 : x.toInt ≤ b := x3
      show x.toInt = n
      omega
  | false =>
    replace h : (bif Nat.ble k 1 then (decide (a = n) && decide (b = n)) else (Nat.beq k 3 && (decide (a = n) && decide (0 ≤ n)))) = true := h
    rw [c, cond_false, Bool.and_eq_true, Bool.and_eq_true, decide_eq_true_eq, decide_eq_true_eq] at h
    have k3 := Nat.eq_of_beq_eq_true h.1
    subst k3
    have e : w = .ref a.toNat := r
    rw [e]
    show ((a.toNat : Nat) : Int) = n
    omega
noncomputable def sNum (S : sH) (o : Nat) (f : Nat → Int) (n : Nat) (z : Bool) : Bool := match fNth S o with
  | some c => (Nat.ble c.2.1 65536 || Nat.blt c.1 100) && ((List.range n).all (fun j => sEqn (sGet c j) (f j)) && (bif z then (Nat.ble 100 c.1 && (sEqn (sDf c.1 0) 0 && c.2.2.all (fun q => Nat.blt q.1 n))) else true))
  | none => false
theorem sNum_at {ρ : Nat → Int32} {S : sH} {lh : gH} {o n : Nat} {f : Nat → Int} {z : Bool} (h : sRH ρ S lh) (ho : ¬ (o = 1 ∨ o = 3 ∨ o = 5)) (hz : sNum S o f n z = true) : ∀ j, j < n → hV (hDum lh) o j = f j := by
  intro j hj
  unfold sNum at hz
  rw [fNth_eq] at hz
  cases hc : S[o]? with
  | none => rw [hc] at hz; cases hz
  | some c =>
    rw [hc] at hz
    dsimp only at hz
    rw [Bool.and_eq_true, Bool.and_eq_true, Bool.or_eq_true] at hz
    obtain ⟨c', e1, e2⟩ := sRH_at h hc
    have hx : (hDum lh)[o]? = some c' := by rw [hDum_ne ho]; exact e1
    exact sEqn_ok (List.all_eq_true.mp hz.2.1 j (List.mem_range.mpr hj)) (sVal_at hx e2 (hz.1.imp Nat.le_of_ble_eq_true Nat.blt_eq.mp))
theorem sLk2_none {j : Nat} {d : sV} : ∀ {l : List (Nat × sV)}, (∀ q ∈ l, ¬ j = q.1) → sLk2 j l d = d := by
  intro l
  induction l with
  | nil => intro _; rfl
  | cons q l ih =>
    intro h
    show (bif Nat.beq j q.1 then q.2 else sLk2 j l d) = d
    cases c : Nat.beq j q.1 with
    | true => exact absurd (Nat.eq_of_beq_eq_true c) (h q List.mem_cons_self)
    | false => exact ih (fun q hq => h q (List.mem_cons_of_mem _ hq))
theorem sNum_0 {ρ : Nat → Int32} {S : sH} {lh : gH} {o n : Nat} {f : Nat → Int} (h : sRH ρ S lh) (ho : ¬ (o = 1 ∨ o = 3 ∨ o = 5)) (hz : sNum S o f n true = true) : ∀ j, n ≤ j → hV (hDum lh) o j = 0 := by
  intro j hj
  unfold sNum at hz
  rw [fNth_eq] at hz
  cases hc : S[o]? with
  | none => rw [hc] at hz; cases hz
  | some c =>
    rw [hc] at hz
    dsimp only at hz
    rw [cond_true, Bool.and_eq_true, Bool.and_eq_true, Bool.or_eq_true, Bool.and_eq_true, Bool.and_eq_true] at hz
    obtain ⟨z1, z2, z3, z4, z5⟩ := hz
    obtain ⟨c', e1, e2⟩ := sRH_at h hc
    have hx : (hDum lh)[o]? = some c' := by rw [hDum_ne ho]; exact e1
    have hk : 100 ≤ c.1 := Nat.le_of_ble_eq_true z3
    have e : sGet c j = sDf c.1 0 := by
      unfold sGet
      rw [sLk2_none (fun q hq => by have := Nat.blt_eq.mp (List.all_eq_true.mp z5 q hq); omega)]
      unfold sDf
      rw [blt_no (by omega)]
      rfl
    refine sEqn_ok (v := sGet c j) (by rw [e]; exact z4) (sVal_at hx e2 (z1.imp Nat.le_of_ble_eq_true Nat.blt_eq.mp))
noncomputable def sLen (S : sH) (o n : Nat) : Bool := match fNth S o with
  | some c => Nat.ble 100 c.1 && (Nat.ble c.2.1 65536 && Nat.beq c.2.1 n)
  | none => false
theorem sLen_ok {ρ : Nat → Int32} {S : sH} {lh : gH} {o n : Nat} (h : sRH ρ S lh) (ho : ¬ (o = 1 ∨ o = 3 ∨ o = 5)) (hz : sLen S o n = true) : hN (hDum lh) o = n := by
  unfold sLen at hz
  rw [fNth_eq] at hz
  cases hc : S[o]? with
  | none => rw [hc] at hz; cases hz
  | some c =>
    rw [hc] at hz
    dsimp only at hz
    rw [Bool.and_eq_true, Bool.and_eq_true] at hz
    obtain ⟨c', e1, e2⟩ := sRH_at h hc
    have hx : (hDum lh)[o]? = some c' := by rw [hDum_ne ho]; exact e1
    have h1 := Nat.le_of_ble_eq_true hz.1
    have h2 := Nat.le_of_ble_eq_true hz.2.1
    have h3 := Nat.eq_of_beq_eq_true hz.2.2
    unfold hN
    rw [hx]
    cases c' with
    | inl ob => exact absurd e2.1 (by omega)
    | inr y =>
      obtain ⟨_, _, h4⟩ := sRC_row2 e2
      rcases h4 with h4 | h4
      · show y.2.1 = n
        omega
      · omega
def f24 : Nat → Int := fun j => if j = 0 then 24 else 0
set_option maxRecDepth 100000 in
theorem sS2_m7 : sNum sS2 7 (fun j => [8, 0, -1, 9, 0, 10].getD j 0) 6 false = true := by decide +kernel
set_option maxRecDepth 100000 in
theorem sS2_m19 : sNum sS2 19 (fun j => [20, 21, 22, 1, -1].getD j 0) 5 false = true := by decide +kernel
set_option maxRecDepth 100000 in
theorem sS2_m30 : sNum sS2 30 (fun j => [31, 0, 0, 0, 0, 0, 0, 0, 36].getD j 0) 9 false = true := by decide +kernel
noncomputable def sOnB (S : sH) (o b : Nat) (n : Int) : Bool := match fNth S o with
  | some c => Nat.ble c.2.1 65536 && sEqn (sGet c b) n
  | none => false
theorem sOnB_ok {ρ : Nat → Int32} {S : sH} {lh : gH} {o b : Nat} {n : Int} (h : sRH ρ S lh) (ho : ¬ (o = 1 ∨ o = 3 ∨ o = 5)) (hz : sOnB S o b n = true) : hV (hDum lh) o b = n := by
  unfold sOnB at hz
  rw [fNth_eq] at hz
  cases hc : S[o]? with
  | none => rw [hc] at hz; cases hz
  | some c =>
    rw [hc] at hz
    dsimp only at hz
    rw [Bool.and_eq_true] at hz
    obtain ⟨c', e1, e2⟩ := sRH_at h hc
    have hx : (hDum lh)[o]? = some c' := by rw [hDum_ne ho]; exact e1
    exact sEqn_ok hz.2 (sVal_at hx e2 (.inl (Nat.le_of_ble_eq_true hz.1)))
set_option maxRecDepth 100000 in
theorem sS2_m285 : (sOnB sS2 285 2 0 && (sOnB sS2 285 17 (-1) && (sOnB sS2 285 18 0 && sOnB sS2 285 60 1))) = true := by decide +kernel
set_option maxRecDepth 100000 in
theorem sS2_mz : ([8, 21, 22, 34, 286, 326, 327].all fun o => sNum sS2 o (fun _ => 0) 0 true) = true := by decide +kernel
set_option maxRecDepth 100000 in
theorem sS2_m24 : ([20, 325].all fun o => sNum sS2 o f24 1 true) = true := by decide +kernel
set_option maxRecDepth 100000 in
theorem sS2_m32 : sNum sS2 32 (fun j => kw32.getD j 0) 34 false = true := by decide +kernel
set_option maxRecDepth 100000 in
theorem sS2_m292 : sNum sS2 292 (fun j => kwR.getD j 0) 34 false = true := by decide +kernel
set_option maxRecDepth 100000 in
theorem sS2_m45 : sNum sS2 45 (fun j => 50 + 2 * (j : Int)) 112 false = true := by decide +kernel
set_option maxRecDepth 100000 in
theorem sS2_ml : ([(8, 2000), (20, 6), (21, 6), (22, 360), (33, 502), (34, 502), (35, 502), (32, 34), (45, 112), (47, 7), (48, 6)].all fun q => sLen sS2 q.1 q.2) = true := by decide +kernel
theorem vKd_cues : (List.range 112).all (fun i => Nat.beq (vKd (50 + 2 * i)) 2) = true := by decide +kernel
theorem law_cpl {L : Nat} {xs : Nat → Int32} {lh : gH} (hW : WT T0 (hDum lh)) (h : sRH (lawRho L xs) sS2 lh) : CPL (hDum lh) := by
  have ks := hW.1
  have m7 := sNum_at h (o := 7) (by omega) sS2_m7
  have m19 := sNum_at h (o := 19) (by omega) sS2_m19
  have m30 := sNum_at h (o := 30) (by omega) sS2_m30
  have m285 := sS2_m285
  simp only [Bool.and_eq_true] at m285
  have a2 := sOnB_ok h (by omega) m285.1
  have a17 := sOnB_ok h (by omega) m285.2.1
  have a18 := sOnB_ok h (by omega) m285.2.2.1
  have a60 := sOnB_ok h (by omega) m285.2.2.2
  have zr : ∀ o, o = 8 ∨ o = 21 ∨ o = 22 ∨ o = 34 ∨ o = 286 ∨ o = 326 ∨ o = 327 → ∀ j, hV (hDum lh) o j = 0 := fun o ho j => sNum_0 h (by omega) (List.all_eq_true.mp sS2_mz o (by rcases ho with rfl | rfl | rfl | rfl | rfl | rfl | rfl <;> decide)) j (Nat.zero_le _)
  have r24 : ∀ o, o = 20 ∨ o = 325 → hV (hDum lh) o = f24 := fun o ho => funext fun j => by
    have q := List.all_eq_true.mp sS2_m24 o (by rcases ho with rfl | rfl <;> decide)
    rcases Nat.lt_or_ge j 1 with w | w
    · exact sNum_at h (by omega) q j w
    · rw [sNum_0 h (by omega) q j w]
      exact (if_neg (by omega)).symm
  have ln : ∀ o n, (o, n) ∈ [(8, 2000), (20, 6), (21, 6), (22, 360), (33, 502), (34, 502), (35, 502), (32, 34), (45, 112), (47, 7), (48, 6)] → hN (hDum lh) o = n := fun o n hm => sLen_ok h (by
    have : o = 8 ∨ o = 20 ∨ o = 21 ∨ o = 22 ∨ o = 33 ∨ o = 34 ∨ o = 35 ∨ o = 32 ∨ o = 45 ∨ o = 47 ∨ o = 48 := by
      simp only [List.mem_cons, Prod.mk.injEq, List.not_mem_nil, or_false] at hm
      omega
    omega) (List.all_eq_true.mp sS2_ml (o, n) hm)
  have s71 : hV (hDum lh) 7 1 = 0 := m7 1 (by decide)
  have s72 : hV (hDum lh) 7 2 = -1 := m7 2 (by decide)
  have s74 : hV (hDum lh) 7 4 = 0 := m7 4 (by decide)
  have s75 : hV (hDum lh) 7 5 = 10 := m7 5 (by decide)
  have s193 : hV (hDum lh) 19 3 = 1 := m19 3 (by decide)
  have s194 : hV (hDum lh) 19 4 = -1 := m19 4 (by decide)
  have s308 : hV (hDum lh) 30 8 = 36 := m30 8 (by decide)
  have bt : BT (hDum lh) = hV (hDum lh) 8 := funext fun j => by
    show o32 (fun x y => x &&& y) (hV (hDum lh) 286 j) 255 = _
    rw [zr 286 (by omega) j, zr 8 (by omega) j]
    decide
  have td : tdR (hDum lh) = 0 := tdR_0 (fun s hs => by rw [a18] at hs; omega)
  have em : mC (hDum lh) = mR (hDum lh) := by
    unfold mC mR
    rw [s71, s72, s74, s193, s194, a2, a17, a18, a60, bt, td, r24 20 (.inl rfl), r24 325 (.inr rfl), show hV (hDum lh) 21 = hV (hDum lh) 326 from funext fun j => (zr 21 (by omega) j).trans (zr 326 (by omega) j).symm, show hV (hDum lh) 22 = hV (hDum lh) 327 from funext fun j => (zr 22 (by omega) j).trans (zr 327 (by omega) j).symm]
    rfl
  refine ⟨em, ⟨⟨?_, ?_⟩, ⟨?_, ?_⟩, ⟨?_, ?_⟩, fun j => ?_, fun j => ?_, fun j => ?_, fun j hj => ?_⟩, ?_, ?_, ?_, ?_, ?_⟩
  · show 0 ≤ hV (hDum lh) 7 1
    omega
  · show hV (hDum lh) 7 1 ≤ 2000
    omega
  · show 0 ≤ hV (hDum lh) 7 4
    omega
  · show hV (hDum lh) 7 4 ≤ 8
    omega
  · show 1 ≤ hV (hDum lh) 19 3
    omega
  · show hV (hDum lh) 19 3 ≤ 6
    omega
  · show 0 ≤ hV (hDum lh) 20 j ∧ hV (hDum lh) 20 j ≤ 60
    rw [r24 20 (.inl rfl)]
    unfold f24
    split <;> decide
  · show 0 ≤ hV (hDum lh) 21 j ∧ hV (hDum lh) 21 j ≤ 10
    rw [zr 21 (by omega) j]
    decide
  · show -1 ≤ hV (hDum lh) 22 j ∧ hV (hDum lh) 22 j ≤ 59
    rw [zr 22 (by omega) j]
    decide
  · have hj2 : hV (hDum lh) 19 3 ≤ (j : Int) := hj
    show hV (hDum lh) 20 j = 0 ∧ hV (hDum lh) 21 j = 0
    rw [r24 20 (.inl rfl), zr 21 (by omega) j]
    exact ⟨if_neg (by omega), rfl⟩
  · show hV (hDum lh) 19 4 ≤ hV (hDum lh) 19 3 - 1
    omega
  · intro s hs
    rw [a18] at hs
    omega
  · exact ⟨⟨ks 8 692 (by decide +kernel), ln 8 2000 (by decide)⟩, ⟨ks 20 700 (by decide +kernel), ln 20 6 (by decide)⟩, ⟨ks 21 700 (by decide +kernel), ln 21 6 (by decide)⟩, ks 22 700 (by decide +kernel), ln 22 360 (by decide)⟩
  · refine ⟨⟨ks 30 4 (by decide +kernel), ks 31 8 (by decide +kernel), ks 33 716 (by decide +kernel), ks 34 716 (by decide +kernel), ks 35 725 (by decide +kernel), ln 33 502 (by decide), ln 34 502 (by decide), ln 35 502 (by decide)⟩, ⟨ks 48 733 (by decide +kernel), ln 48 6 (by decide), ks 47 740 (by decide +kernel), ln 47 7 (by decide)⟩, ⟨ks 45 810 (by decide +kernel), ln 45 112 (by decide), fun i hi => ?_⟩, ⟨by omega, by rw [s308]; exact ks 36 5 (by decide +kernel)⟩, ⟨by omega, by rw [s75]; exact ks 10 5 (by decide +kernel)⟩, ⟨ks 32 725 (by decide +kernel), ln 32 34 (by decide), sNum_at h (by omega) sS2_m32⟩, fun j => by rw [zr 34 (by omega) j]; decide⟩
    rw [sNum_at h (by omega) sS2_m45 i hi]
    refine ⟨by omega, ?_⟩
    rw [show (50 + 2 * (i : Int)).toNat = 50 + 2 * i by omega]
    exact ks _ 1 (Nat.eq_of_beq_eq_true (List.all_eq_true.mp vKd_cues i (List.mem_range.mpr hi)))
  · exact sNum_at h (by omega) sS2_m292
