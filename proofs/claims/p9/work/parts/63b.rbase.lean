/-! THE STATE OF THE GRAMMAR IN THE REFERENCE'S HEAP (hand; behind base.lean.txt). -/
-- object 285: tokens 10, t 11, fault 13, faultPlace 14, worst 15, worstPlace 16; kinds 288, places 289, values 290, names 291
def kmT : List Int := [0, 2, 3, 1, 4, 5, 10, 11, 6, 7, 8, 12, 13, 14, 15, 9, 50, 51, 52, 53, 16, 17, 18, 19, 20, 26, 27, 28, 29, 30, 31, 21, 32, 22, 33, 34, 35, 23, 36, 24, 25, 37, 38, 39, 40, 41, 42, 43, 44, 45, 46, 47, 48, 49]
def krT : List Int := [0, 3, 1, 2, 4, 5, 8, 9, 10, 15, 6, 7, 11, 12, 13, 14, 20, 21, 22, 23, 24, 31, 33, 37, 39, 40, 25, 26, 27, 28, 29, 30, 32, 34, 35, 36, 38, 41, 42, 43, 44, 45, 46, 47, 48, 49, 50, 51, 52, 53, 16, 17, 18, 19]
def km (x : Int) : Int := if 0 ≤ x ∧ x < 54 then kmT.getD x.toNat 0 else x
def kr (x : Int) : Int := if 0 ≤ x ∧ x < 54 then krT.getD x.toNat 0 else x
theorem km_tab : ∀ i : Fin 54, 0 ≤ kmT.getD i.val 0 ∧ kmT.getD i.val 0 < 54 ∧ krT.getD (kmT.getD i.val 0).toNat 0 = (i.val : Int) := by decide +kernel
theorem kr_km (x : Int) : kr (km x) = x := by
  unfold km
  by_cases h : 0 ≤ x ∧ x < 54
  · rw [if_pos h]
    obtain ⟨a, b, c⟩ := km_tab ⟨x.toNat, by omega⟩
    unfold kr
    rw [if_pos ⟨a, b⟩]
    exact c.trans (by show (x.toNat : Int) = x; omega)
  · rw [if_neg h]
    exact if_neg h
theorem km_inj {x y : Int} (h : km x = km y) : x = y := by rw [← kr_km x, ← kr_km y, h]
theorem km_pos {x : Int} (h : 0 ≤ x) : 0 ≤ km x := by
  unfold km
  by_cases c : 0 ≤ x ∧ x < 54
  · rw [if_pos c]
    exact (km_tab ⟨x.toNat, by omega⟩).1
  · rw [if_neg c]
    exact h
abbrev okR (h : gH) (s : Int) : Prop := 0 ≤ s ∧ s ≤ 500 ∧ s < hV h 285 10
def kR (h : gH) (s : Int) : Int := if okR h s then hV h 288 s.toNat else 0
def lR (h : gH) (s : Int) : Int := if okR h s then hV h 289 s.toNat else 0
def vwR (h : gH) : Vw := (fun s => if s < 0 then -1 else km (kR h s), fun s => if kR h s = 2 then hV h 290 s.toNat else 0, fun s => if kR h s = 1 then hV h 291 s.toNat else 0, fun s => lR h s)
def absR (h : gH) : PS := if hV h 285 13 = 0 then (hV h 285 11, if hV h 285 15 = 0 then 0 else 8 * hV h 285 16 + hV h 285 15) else (-(2 * hV h 285 14 + hV h 285 13), 0)
/-- the TOKENS -/
def TR (h : gH) : Prop := 1 ≤ hV h 285 10 ∧ hV h 285 10 ≤ 501 ∧ (hV h 285 10 ≤ 500 → hV h 288 (hV h 285 10 - 1).toNat = 0) ∧ ∀ i : Nat, (i : Int) < hV h 285 10 → 0 ≤ hV h 289 i ∧ hV h 289 i ≤ 2000 ∧ ((i : Int) + 1 < hV h 285 10 → hV h 289 i < hV h 289 (i + 1)) ∧ (hV h 288 i = 1 → 0 ≤ hV h 291 i ∧ hV h 291 i < 1099511627776)
def RI (h : gH) : Prop := TR h ∧ 0 ≤ hV h 285 11 ∧ hV h 285 11 ≤ 500 ∧ 0 ≤ hV h 285 13 ∧ hV h 285 13 ≤ 2 ∧ 0 ≤ hV h 285 14 ∧ 0 ≤ hV h 285 15 ∧ hV h 285 15 ≤ 6 ∧ 0 ≤ hV h 285 16 ∧ (hV h 285 13 = 0 → hV h 285 11 < hV h 285 10) ∧ (hV h 285 13 = 0 → ¬ hV h 285 15 = 0 → hV h 285 16 < hV h 289 (hV h 285 11).toNat)
theorem vwR_ok (h : gH) : wOK (vwR h) := fun s hs => if_pos hs
theorem absR_at {h : gH} (hf : hV h 285 13 = 0) : absR h = (hV h 285 11, if hV h 285 15 = 0 then 0 else 8 * hV h 285 16 + hV h 285 15) := if_pos hf
theorem absR_off {h : gH} (hf : ¬ hV h 285 13 = 0) : absR h = (-(2 * hV h 285 14 + hV h 285 13), 0) := if_neg hf
theorem absR_neg {h : gH} (z : RI h) (hf : ¬ hV h 285 13 = 0) : (absR h).1 < 0 := by
  rw [absR_off hf]
  obtain ⟨_, _, _, a, b, c, _⟩ := z
  show -(2 * hV h 285 14 + hV h 285 13) < 0
  omega
theorem absR_pos {h : gH} (z : RI h) (hf : hV h 285 13 = 0) : (absR h).1 = hV h 285 11 ∧ 0 ≤ (absR h).1 := by
  rw [absR_at hf]
  exact ⟨rfl, z.2.1⟩
theorem absR_ok {h : gH} (z : RI h) : pOK (absR h) := fun hn => by
  by_cases hf : hV h 285 13 = 0
  · have := absR_pos z hf
    omega
  · rw [absR_off hf]
theorem faultR_of {h : gH} (z : RI h) (hn : (absR h).1 < 0) : ¬ hV h 285 13 = 0 := fun c => by
  have := absR_pos z c
  omega
theorem faultR_no {h : gH} (z : RI h) (hn : 0 ≤ (absR h).1) : hV h 285 13 = 0 := Classical.byContradiction fun c => by
  have := absR_neg z c
  omega
theorem okR_t {h : gH} (z : RI h) (hf : hV h 285 13 = 0) : okR h (hV h 285 11) := ⟨z.2.1, z.2.2.1, z.2.2.2.2.2.2.2.2.2.1 hf⟩
theorem kindR_at {h : gH} (z : RI h) (hf : hV h 285 13 = 0) : (vwR h).1 (absR h).1 = km (hV h 288 (hV h 285 11).toNat) := by
  rw [(absR_pos z hf).1]
  show (if hV h 285 11 < 0 then (-1 : Int) else km (kR h (hV h 285 11))) = _
  rw [if_neg (by have := z.2.1; omega)]
  unfold kR
  rw [if_pos (okR_t z hf)]
theorem placeR_at {h : gH} (z : RI h) (hf : hV h 285 13 = 0) : (vwR h).2.2.2 (absR h).1 = hV h 289 (hV h 285 11).toNat := by
  rw [(absR_pos z hf).1]
  show lR h (hV h 285 11) = _
  unfold lR
  rw [if_pos (okR_t z hf)]
theorem isR_yes {h : gH} {k : Int} (z : RI h) (hf : hV h 285 13 = 0) (hk : hV h 288 (hV h 285 11).toNat = k) : (vwR h).1 (absR h).1 = km k := by
  rw [kindR_at z hf, hk]
theorem isR_no {h : gH} {k : Int} (z : RI h) (h0 : 0 ≤ k) (c : 0 < hV h 285 13 ∨ ¬ hV h 288 (hV h 285 11).toNat = k) : ¬ (vwR h).1 (absR h).1 = km k := by
  by_cases hf : hV h 285 13 = 0
  · rw [kindR_at z hf]
    exact fun e => (c.resolve_left (by omega)) (km_inj e)
  · rw [vwR_ok h _ (absR_neg z hf)]
    have := km_pos h0
    omega
/-- the TOKENS stay -/
def TRs (a b : gH) : Prop := hV b 285 10 = hV a 285 10 ∧ hV b 288 = hV a 288 ∧ hV b 289 = hV a 289 ∧ hV b 290 = hV a 290 ∧ hV b 291 = hV a 291
theorem TRs.refl (a : gH) : TRs a a := ⟨rfl, rfl, rfl, rfl, rfl⟩
theorem TRs.trans {a b c : gH} (x : TRs a b) (y : TRs b c) : TRs a c := ⟨y.1.trans x.1, y.2.1.trans x.2.1, y.2.2.1.trans x.2.2.1, y.2.2.2.1.trans x.2.2.2.1, y.2.2.2.2.trans x.2.2.2.2⟩
theorem TRs_v {a b : gH} (x : TRs a b) : vwR b = vwR a := by
  unfold vwR kR lR
  simp only [okR, x.1, x.2.1, x.2.2.1, x.2.2.2.1, x.2.2.2.2]
theorem TR_of {a b : gH} (x : TRs a b) (z : TR a) : TR b := by
  unfold TR
  rw [x.1, x.2.1, x.2.2.1, x.2.2.2.2]
  exact z
noncomputable def cTR (W : List (Nat × Nat)) : Bool := vFree W 285 10 && (vFreeR W 288 && (vFreeR W 289 && (vFreeR W 290 && vFreeR W 291)))
theorem TRs_fr {W : List (Nat × Nat)} {a b : gH} (f : hFr W a b) (c : cTR W = true) : TRs a b := by
  unfold cTR at c
  simp only [Bool.and_eq_true] at c
  exact ⟨f.1 285 10 c.1, fRow f 288 c.2.1, fRow f 289 c.2.2.1, fRow f 290 c.2.2.2.1, fRow f 291 c.2.2.2.2⟩
/-- a place that holds no TOKENS -/
def noT (q : Nat) : Bool := !(Nat.beq q 288 || (Nat.beq q 289 || (Nat.beq q 290 || Nat.beq q 291)))
theorem TRs_row {a b : gH} {o i w : Int} (f : hUpd b a o i w) {q : Nat} (ho : o = (q : Int)) (hq : (noT q && !(Nat.beq q 285)) = true) : TRs a b := by
  unfold noT at hq
  simp only [Bool.and_eq_true, Bool.not_eq_true', Bool.or_eq_false_iff] at hq
  have ne : ∀ s : Nat, Nat.beq q s = false → ¬ (s : Int) = o := fun s h e => by
    have : q = s := by omega
    subst this
    rw [Nat.beq_refl] at h
    cases h
  exact ⟨uPlace f 285 10 (ne 285 hq.2), uRowNe f 288 (ne 288 hq.1.1), uRowNe f 289 (ne 289 hq.1.2.1), uRowNe f 290 (ne 290 hq.1.2.2.1), uRowNe f 291 (ne 291 hq.1.2.2.2)⟩
theorem TRs_slot {a b : gH} {o i w : Int} (f : hUpd b a o i w) (ho : o = 285) {s : Nat} (hi : i = (s : Int)) (hs : Nat.beq s 10 = false) : TRs a b := by
  have ne : ∀ q : Nat, ¬ q = 285 → ¬ (q : Int) = o := fun q h e => h (by omega)
  exact ⟨uSlot f 285 10 (fun e => Nat.ne_of_beq_eq_false hs (by omega)), uRowNe f 288 (ne _ (by decide)), uRowNe f 289 (ne _ (by decide)), uRowNe f 290 (ne _ (by decide)), uRowNe f 291 (ne _ (by decide))⟩
/-- all of the state stays -/
def PRs (a b : gH) : Prop := absR b = absR a ∧ vwR b = vwR a ∧ RI b ∧ hV b 285 11 = hV a 285 11 ∧ hV b 285 13 = hV a 285 13 ∧ hV b 285 15 = hV a 285 15 ∧ hV b 285 16 = hV a 285 16
theorem PR_of {a b : gH} (z : RI a) (t : hV b 285 11 = hV a 285 11) (f : hV b 285 13 = hV a 285 13) (g : hV b 285 14 = hV a 285 14) (w : hV b 285 15 = hV a 285 15) (x : hV b 285 16 = hV a 285 16) (s : TRs a b) : PRs a b := by
  refine ⟨?_, TRs_v s, ?_, t, f, w, x⟩
  · unfold absR
    rw [t, f, g, w, x]
  · unfold RI
    rw [t, f, g, w, x, s.1, s.2.2.1]
    exact ⟨TR_of s z.1, z.2⟩
noncomputable def cPR (W : List (Nat × Nat)) : Bool := vFree W 285 11 && (vFree W 285 13 && (vFree W 285 14 && (vFree W 285 15 && (vFree W 285 16 && cTR W))))
theorem PR_fr {W : List (Nat × Nat)} {a b : gH} (f : hFr W a b) (c : cPR W = true) (z : RI a) : PRs a b := by
  unfold cPR at c
  simp only [Bool.and_eq_true] at c
  exact PR_of z (f.1 285 11 c.1) (f.1 285 13 c.2.1) (f.1 285 14 c.2.2.1) (f.1 285 15 c.2.2.2.1) (f.1 285 16 c.2.2.2.2.1) (TRs_fr f c.2.2.2.2.2)
theorem PR_row {a b : gH} {o i w : Int} (f : hUpd b a o i w) {q : Nat} (ho : o = (q : Int)) (hq : (noT q && !(Nat.beq q 285)) = true) (z : RI a) : PRs a b := by
  have hq2 := hq
  rw [Bool.and_eq_true, Bool.not_eq_true'] at hq2
  have n : ¬ ((285 : Nat) : Int) = o := fun e => Nat.ne_of_beq_eq_false hq2.2 (by omega)
  exact PR_of z (uPlace f 285 11 n) (uPlace f 285 13 n) (uPlace f 285 14 n) (uPlace f 285 15 n) (uPlace f 285 16 n) (TRs_row f ho hq)
def noS (s : Nat) : Bool := !(Nat.beq s 10 || (Nat.beq s 11 || (Nat.beq s 13 || (Nat.beq s 14 || (Nat.beq s 15 || Nat.beq s 16)))))
theorem PR_slot {a b : gH} {o i w : Int} (f : hUpd b a o i w) (ho : o = 285) {s : Nat} (hi : i = (s : Int)) (hs : noS s = true) (z : RI a) : PRs a b := by
  unfold noS at hs
  simp only [Bool.not_eq_true', Bool.or_eq_false_iff] at hs
  have n : ∀ q : Nat, Nat.beq s q = false → ¬ (q : Int) = i := fun q h e => Nat.ne_of_beq_eq_false h (by omega)
  exact PR_of z (uSlot f 285 11 (n 11 hs.2.1)) (uSlot f 285 13 (n 13 hs.2.2.1)) (uSlot f 285 14 (n 14 hs.2.2.2.1)) (uSlot f 285 15 (n 15 hs.2.2.2.2.1)) (uSlot f 285 16 (n 16 hs.2.2.2.2.2)) (TRs_slot f ho hi hs.1)
theorem PRs.trans {a b c : gH} (x : PRs a b) (y : PRs b c) : PRs a c := ⟨y.1.trans x.1, y.2.1.trans x.2.1, y.2.2.1, y.2.2.2.1.trans x.2.2.2.1, y.2.2.2.2.1.trans x.2.2.2.2.1, y.2.2.2.2.2.1.trans x.2.2.2.2.2.1, y.2.2.2.2.2.2.trans x.2.2.2.2.2.2⟩
/-- fail -/
theorem failR_off {a b : gH} {f : Int} (z : RI a) (hf : ¬ hV a 285 13 = 0) (p : PRs a b) : RI b ∧ absR b = pfail (vwR a) f (absR a) := ⟨p.2.2.1, p.1.trans (pfail_neg (absR_neg z hf) (absR_ok z)).symm⟩
theorem failR_on {a b : gH} {f : Int} (z : RI a) (hf : hV a 285 13 = 0) (h12 : f = 1 ∨ f = 2) (s1 : hV b 285 11 = hV a 285 11) (s3 : hV b 285 13 = f) (s4 : hV b 285 14 = hV a 289 (hV a 285 11).toNat) (s5 : hV b 285 15 = hV a 285 15) (s6 : hV b 285 16 = hV a 285 16) (x : TRs a b) : RI b ∧ absR b = pfail (vwR a) f (absR a) := by
  have ok := okR_t z hf
  have pl := z.1.2.2.2 (hV a 285 11).toNat (by have := ok.1; have := ok.2.2; omega)
  constructor
  · refine ⟨TR_of x z.1, ?_, ?_, ?_, ?_, ?_, ?_, ?_, ?_, ?_, ?_⟩
    · rw [s1]; exact z.2.1
    · rw [s1]; exact z.2.2.1
    · omega
    · omega
    · rw [s4]; exact pl.1
    · rw [s5]; exact z.2.2.2.2.2.2.1
    · rw [s5]; exact z.2.2.2.2.2.2.2.1
    · rw [s6]; exact z.2.2.2.2.2.2.2.2.1
    · intro h; omega
    · intro h; omega
  · rw [absR_off (by omega), s3, s4]
    unfold pfail pgz pfl
    have hp := absR_pos z hf
    rw [if_neg (by omega), placeR_at z hf, if_pos (by omega)]
/-- next -/
theorem nextR_off {a b : gH} {c : Int} (z : RI a) (hf : ¬ hV a 285 13 = 0) (ht : hV b 285 11 = hV a 285 11 ∨ hV b 285 11 = hV a 285 11 + 1 ∧ hV a 285 11 < 500) (s3 : hV b 285 13 = hV a 285 13) (s4 : hV b 285 14 = hV a 285 14) (s5 : hV b 285 15 = hV a 285 15) (s6 : hV b 285 16 = hV a 285 16) (x : TRs a b) : RI b ∧ absR b = ptk (vwR a) c (absR a) := by
  refine ⟨⟨TR_of x z.1, ?_, ?_, ?_, ?_, ?_, ?_, ?_, ?_, ?_, ?_⟩, ?_⟩
  · have := z.2.1; omega
  · have := z.2.2.1; omega
  · rw [s3]; exact z.2.2.2.1
  · rw [s3]; exact z.2.2.2.2.1
  · rw [s4]; exact z.2.2.2.2.2.1
  · rw [s5]; exact z.2.2.2.2.2.2.1
  · rw [s5]; exact z.2.2.2.2.2.2.2.1
  · rw [s6]; exact z.2.2.2.2.2.2.2.2.1
  · intro h; omega
  · intro h; omega
  · rw [ptk_neg (absR_neg z hf) (absR_ok z), absR_off hf, absR_off (by omega), s3, s4]
theorem nextR_on {a b : gH} {c : Int} (z : RI a) (hf : hV a 285 13 = 0) (hk : ¬ hV a 288 (hV a 285 11).toNat = 0) (h5 : hV a 285 11 < 500) (hc : (vwR a).1 (absR a).1 = c) (s1 : hV b 285 11 = hV a 285 11 + 1) (s3 : hV b 285 13 = 0) (s4 : hV b 285 14 = hV a 285 14) (s5 : hV b 285 15 = hV a 285 15) (s6 : hV b 285 16 = hV a 285 16) (x : TRs a b) : RI b ∧ absR b = ptk (vwR a) c (absR a) := by
  have ok := okR_t z hf
  have lt : hV a 285 11 + 1 < hV a 285 10 := by
    have o3 := ok.2.2
    rcases Int.lt_or_le (hV a 285 11 + 1) (hV a 285 10) with q | q
    · exact q
    · exfalso
      have e : hV a 285 10 - 1 = hV a 285 11 := by omega
      have w := z.1.2.2.1 (by omega)
      rw [e] at w
      exact hk w
  have pl := z.1.2.2.2 (hV a 285 11).toNat (by have := ok.1; omega)
  refine ⟨⟨TR_of x z.1, ?_, ?_, ?_, ?_, ?_, ?_, ?_, ?_, ?_, ?_⟩, ?_⟩
  · have := z.2.1; omega
  · omega
  · omega
  · omega
  · rw [s4]; exact z.2.2.2.2.2.1
  · rw [s5]; exact z.2.2.2.2.2.2.1
  · rw [s5]; exact z.2.2.2.2.2.2.2.1
  · rw [s6]; exact z.2.2.2.2.2.2.2.2.1
  · intro _; rw [s1, x.1]; exact lt
  · intro _ h
    rw [s5] at h
    have w := z.2.2.2.2.2.2.2.2.2.2 hf h
    have y := pl.2.2.1 (by have := ok.1; omega)
    rw [s6, s1, x.2.2.1, show (hV a 285 11 + 1).toNat = (hV a 285 11).toNat + 1 by have := ok.1; omega]
    omega
  · rw [absR_at s3, absR_at hf, s1, s5, s6]
    have hp := absR_pos z hf
    unfold ptk pgz pt1
    rw [absR_at hf] at hc
    show _ = ((if _ then _ else _), _)
    have e1 : ¬ hV a 285 11 < 0 := by have := z.2.1; omega
    show (hV a 285 11 + 1, if hV a 285 15 = 0 then (0 : Int) else 8 * hV a 285 16 + hV a 285 15) = ((if hV a 285 11 < 0 then hV a 285 11 else if (vwR a).1 (hV a 285 11) = c then (if hV a 285 11 < 500 then hV a 285 11 + 1 else pfl (vwR a) 2 (hV a 285 11)) else pfl (vwR a) 1 (hV a 285 11)), if (if hV a 285 11 < 0 then hV a 285 11 else if (vwR a).1 (hV a 285 11) = c then (if hV a 285 11 < 500 then hV a 285 11 + 1 else pfl (vwR a) 2 (hV a 285 11)) else pfl (vwR a) 1 (hV a 285 11)) < 0 then 0 else (if hV a 285 15 = 0 then (0 : Int) else 8 * hV a 285 16 + hV a 285 15))
    rw [if_neg e1, if_pos hc, if_pos h5, if_neg (by omega : ¬ hV a 285 11 + 1 < 0)]
theorem nextR_full {a b : gH} {c : Int} (z : RI a) (hf : hV a 285 13 = 0) (h5 : hV a 285 11 = 500) (hc : (vwR a).1 (absR a).1 = c) (h : absR b = pfail (vwR a) 2 (absR a)) : absR b = ptk (vwR a) c (absR a) := by
  rw [h]
  have hp := absR_pos z hf
  unfold pfail ptk
  congr 1
  unfold pt1
  rw [if_neg (by omega), if_pos hc, if_neg (by omega)]
theorem mustR_no {v : Vw} {c : Int} {p : PS} (hv : wOK v) (hp : pOK p) (h : ¬ v.1 p.1 = c) : ptk v c p = pfail v 1 p := by
  by_cases hn : p.1 < 0
  · rw [ptk_neg hn hp, pfail_neg hn hp]
  · unfold pfail ptk
    congr 1
    unfold pt1 pfl
    rw [if_neg hn, if_neg h]
theorem vwR_fr {W : List (Nat × Nat)} {a b : gH} (f : hFr W a b) (c : cTR W = true) : vwR b = vwR a := TRs_v (TRs_fr f c)
theorem valueR_at {h : gH} (z : RI h) (hf : hV h 285 13 = 0) (hk : hV h 288 (hV h 285 11).toNat = 2) : (vwR h).2.1 (absR h).1 = hV h 290 (hV h 285 11).toNat := by
  rw [(absR_pos z hf).1]
  show (if kR h (hV h 285 11) = 2 then hV h 290 (hV h 285 11).toNat else 0) = _
  rw [if_pos]
  unfold kR
  rw [if_pos (okR_t z hf), hk]
theorem nameR_at {h : gH} (z : RI h) (hf : hV h 285 13 = 0) (hk : hV h 288 (hV h 285 11).toNat = 1) : (vwR h).2.2.1 (absR h).1 = hV h 291 (hV h 285 11).toNat := by
  rw [(absR_pos z hf).1]
  show (if kR h (hV h 285 11) = 1 then hV h 291 (hV h 285 11).toNat else 0) = _
  rw [if_pos]
  unfold kR
  rw [if_pos (okR_t z hf), hk]
theorem rdS {n o : Int} {h : gH} {q s : Nat} (f : n = hV h o.toNat s) (e : o = (q : Int)) : n = hV h q s := by
  subst e
  exact f
theorem rdW {n r i : Int} {h : gH} {q : Nat} (f : n = hV h r.toNat i.toNat) (e : r = (q : Int)) : n = hV h q i.toNat := by
  subst e
  exact f
theorem PRs_rfl {a : gH} (z : RI a) : PRs a a := ⟨rfl, rfl, z, rfl, rfl, rfl, rfl⟩
/-- what wrong writes -/
def WRs (k t : Int) (a b : gH) : Prop := hV b 285 11 = hV a 285 11 ∧ hV b 285 13 = hV a 285 13 ∧ hV b 285 14 = hV a 285 14 ∧ TRs a b ∧ ((hV a 285 13 = 0 ∧ (hV a 285 15 = 0 ∨ hV a 289 t.toNat < hV a 285 16 ∨ (hV a 289 t.toNat = hV a 285 16 ∧ k < hV a 285 15)) ∧ hV b 285 15 = k ∧ hV b 285 16 = hV a 289 t.toNat) ∨ (¬ (hV a 285 13 = 0 ∧ (hV a 285 15 = 0 ∨ hV a 289 t.toNat < hV a 285 16 ∨ (hV a 289 t.toNat = hV a 285 16 ∧ k < hV a 285 15))) ∧ hV b 285 15 = hV a 285 15 ∧ hV b 285 16 = hV a 285 16))
theorem TR_mono {h : gH} (z : TR h) : ∀ {n i : Nat}, ((i + n : Nat) : Int) < hV h 285 10 → hV h 289 i ≤ hV h 289 (i + n) ∧ (0 < n → hV h 289 i < hV h 289 (i + n)) := by
  intro n
  induction n with
  | zero => intro i _; exact ⟨Int.le_refl _, fun c => absurd c (by omega)⟩
  | succ n ih =>
    intro i h1
    have y := ih (i := i) (by omega)
    have w := (z.2.2.2 (i + n) (by omega)).2.2.1 (by omega)
    have e : i + n + 1 = i + (n + 1) := by omega
    rw [e] at w
    exact ⟨by omega, fun _ => by omega⟩
theorem TR_lt {h : gH} (z : TR h) {i j : Int} (h0 : 0 ≤ i) (h1 : i < j) (h2 : j < hV h 285 10) : hV h 289 i.toNat < hV h 289 j.toNat := by
  have y := TR_mono z (n := (j - i).toNat) (i := i.toNat) (by omega)
  rw [show i.toNat + (j - i).toNat = j.toNat by omega] at y
  exact y.2 (by omega)
/-- a blame of a TOKEN behind which the reference stands: the grammar's -/
theorem wrong_on {a b : gH} {k t : Int} (z : RI a) (hf : hV a 285 13 = 0) (h0 : 0 ≤ t) (ht : t < hV a 285 11) (hk : 1 ≤ k ∧ k ≤ 6) (hw : ¬ hV a 285 15 = 0 → hV a 285 16 < hV a 289 t.toNat) (w : WRs k t a b) : RI b ∧ absR b = ((absR a).1, if (absR a).2 = 0 then 8 * hV a 289 t.toNat + k else (absR a).2) := by
  obtain ⟨w1, w3, w4, x, w5⟩ := w
  have ok := okR_t z hf
  have pl := z.1.2.2.2 t.toNat (by have := ok.2.2; omega)
  have lt := TR_lt z.1 h0 ht ok.2.2
  have k0 := z.2.2.2.2.2.2.1
  have t0 := z.2.1
  have t5 := z.2.2.1
  have p0 := z.2.2.2.2.2.2.2.2.1
  rcases w5 with ⟨_, c, w5, w6⟩ | ⟨c, w5, w6⟩
  · have c0 : hV a 285 15 = 0 := by
      rcases Int.lt_or_le 0 (hV a 285 15) with q | q
      · exfalso
        have := hw (by omega)
        omega
      · omega
    refine ⟨⟨TR_of x z.1, by omega, by omega, by omega, by omega, by rw [w4]; exact z.2.2.2.2.2.1, by omega, by omega, by omega, fun _ => by rw [w1, x.1]; exact ok.2.2, fun _ _ => by rw [w6, w1, x.2.2.1]; exact lt⟩, ?_⟩
    rw [absR_at (by omega), absR_at hf, if_neg (by omega), w1, w5, w6]
    show _ = (_, if (if hV a 285 15 = 0 then (0 : Int) else _) = 0 then _ else _)
    rw [if_pos c0, if_pos rfl]
  · have c1 : ¬ hV a 285 15 = 0 := fun e => c ⟨hf, .inl e⟩
    refine ⟨⟨TR_of x z.1, by omega, by omega, by omega, by omega, by rw [w4]; exact z.2.2.2.2.2.1, by omega, by rw [w5]; exact z.2.2.2.2.2.2.2.1, by omega, fun _ => by rw [w1, x.1]; exact ok.2.2, fun _ _ => by rw [w6, w1, x.2.2.1]; have := hw c1; omega⟩, ?_⟩
    rw [absR_at (by omega), absR_at hf, w1, w5, w6]
    show _ = (_, if (if hV a 285 15 = 0 then (0 : Int) else _) = 0 then _ else _)
    rw [if_neg c1, if_neg (by omega)]
theorem wrong_off {a b : gH} {k t : Int} (z : RI a) (hf : ¬ hV a 285 13 = 0) (w : WRs k t a b) : RI b ∧ absR b = absR a ∧ PRs a b := by
  obtain ⟨w1, w3, w4, x, w5⟩ := w
  rcases w5 with ⟨c, _, w5, w6⟩ | ⟨c, w5, w6⟩
  · exact absurd c hf
  · have p := PR_of z w1 w3 w4 w5 w6 x
    exact ⟨p.2.2.1, p.1, p⟩
theorem kmc_0 : km 0 = 0 := by decide
theorem kmc_1 : km 1 = 2 := by decide
theorem kmc_2 : km 2 = 3 := by decide
theorem kmc_3 : km 3 = 1 := by decide
theorem kmc_4 : km 4 = 4 := by decide
theorem kmc_5 : km 5 = 5 := by decide
theorem kmc_6 : km 6 = 10 := by decide
theorem kmc_7 : km 7 = 11 := by decide
theorem kmc_8 : km 8 = 6 := by decide
theorem kmc_9 : km 9 = 7 := by decide
theorem kmc_10 : km 10 = 8 := by decide
theorem kmc_11 : km 11 = 12 := by decide
theorem kmc_12 : km 12 = 13 := by decide
theorem kmc_13 : km 13 = 14 := by decide
theorem kmc_14 : km 14 = 15 := by decide
theorem kmc_15 : km 15 = 9 := by decide
theorem kmc_16 : km 16 = 50 := by decide
theorem kmc_17 : km 17 = 51 := by decide
theorem kmc_18 : km 18 = 52 := by decide
theorem kmc_19 : km 19 = 53 := by decide
theorem kmc_20 : km 20 = 16 := by decide
theorem kmc_21 : km 21 = 17 := by decide
theorem kmc_22 : km 22 = 18 := by decide
theorem kmc_23 : km 23 = 19 := by decide
theorem kmc_24 : km 24 = 20 := by decide
theorem kmc_25 : km 25 = 26 := by decide
theorem kmc_26 : km 26 = 27 := by decide
theorem kmc_27 : km 27 = 28 := by decide
theorem kmc_28 : km 28 = 29 := by decide
theorem kmc_29 : km 29 = 30 := by decide
theorem kmc_30 : km 30 = 31 := by decide
theorem kmc_31 : km 31 = 21 := by decide
theorem kmc_32 : km 32 = 32 := by decide
theorem kmc_33 : km 33 = 22 := by decide
theorem kmc_34 : km 34 = 33 := by decide
theorem kmc_35 : km 35 = 34 := by decide
theorem kmc_36 : km 36 = 35 := by decide
theorem kmc_37 : km 37 = 23 := by decide
theorem kmc_38 : km 38 = 36 := by decide
theorem kmc_39 : km 39 = 24 := by decide
theorem kmc_40 : km 40 = 25 := by decide
theorem kmc_41 : km 41 = 37 := by decide
theorem kmc_42 : km 42 = 38 := by decide
theorem kmc_43 : km 43 = 39 := by decide
theorem kmc_44 : km 44 = 40 := by decide
theorem kmc_45 : km 45 = 41 := by decide
theorem kmc_46 : km 46 = 42 := by decide
theorem kmc_47 : km 47 = 43 := by decide
theorem kmc_48 : km 48 = 44 := by decide
theorem kmc_49 : km 49 = 45 := by decide
theorem kmc_50 : km 50 = 46 := by decide
theorem kmc_51 : km 51 = 47 := by decide
theorem kmc_52 : km 52 = 48 := by decide
theorem kmc_53 : km 53 = 49 := by decide
theorem km_big {x : Int} (h : 0 < x) : 0 < km x := by
  unfold km
  by_cases c : 0 ≤ x ∧ x < 54
  · rw [if_pos c]
    have q : ∀ i : Fin 54, 0 < i.val → 0 < kmT.getD i.val 0 := by decide +kernel
    exact q ⟨x.toNat, by omega⟩ (by show 0 < x.toNat; omega)
  · rw [if_neg c]
    exact h
theorem pnm_off {v : Vw} {lo hi : Int} {p : PS} (h : (ptk v 3 p).1 < 0) : pnm v lo hi p = ptk v 3 p := by
  have e : (ptk v 3 p).1 = pt1 v 3 p.1 := rfl
  unfold pnm ptk pgz
  rw [if_pos (by rw [← e]; exact h), if_pos (by rw [← e]; exact h)]
theorem pnm_in {v : Vw} {lo hi : Int} {p : PS} (h1 : lo ≤ v.2.1 p.1) (h2 : v.2.1 p.1 ≤ hi) : pnm v lo hi p = ptk v 3 p := by
  unfold pnm ptk
  rw [if_neg (by omega)]
theorem pnm_out {v : Vw} {lo hi : Int} {p : PS} (hp : 0 ≤ (ptk v 3 p).1) (h : v.2.1 p.1 < lo ∨ hi < v.2.1 p.1) : pnm v lo hi p = ((ptk v 3 p).1, if (ptk v 3 p).2 = 0 then 8 * v.2.2.2 p.1 + 5 else (ptk v 3 p).2) := by
  have e : (ptk v 3 p).1 = pt1 v 3 p.1 := rfl
  rw [e] at hp
  unfold pnm ptk pgz
  have n : ¬ pt1 v 3 p.1 < 0 := by omega
  rw [if_neg n, if_neg n]
  by_cases c : p.2 = 0
  · rw [if_pos ⟨c, h⟩, if_pos c]
  · rw [if_neg (fun z => c z.1), if_neg c]
theorem pt1R_kind {h : gH} (z : RI h) {c s : Int} (hp : 0 ≤ pt1 (vwR h) c s) : 0 ≤ s ∧ (vwR h).1 s = c := by
  have pl : ∀ s, 0 ≤ (vwR h).2.2.2 s := fun s => by
    show 0 ≤ lR h s
    unfold lR
    by_cases k : okR h s
    · rw [if_pos k]
      have := k.1
      have := k.2.2
      exact (z.1.2.2.2 s.toNat (by omega)).1
    · rw [if_neg k]
      exact Int.le_refl _
  have := pl s
  unfold pt1 pfl at hp
  by_cases hs : s < 0
  · rw [if_pos hs] at hp
    omega
  · rw [if_neg hs] at hp
    by_cases hk : (vwR h).1 s = c
    · exact ⟨by omega, hk⟩
    · rw [if_neg hk, if_neg hs] at hp
      omega
theorem rW_11 : vRg T0 285 11 0 500 = true := by decide +kernel
theorem rW_12 : vRg T0 285 12 0 7 = true := by decide +kernel
theorem rW_13 : vRg T0 285 13 0 2 = true := by decide +kernel
theorem rW_15 : vRg T0 285 15 0 6 = true := by decide +kernel
/-- what an is says -/
theorem isR_or {h : gH} {k r : Int} (z : RI h) (h0 : 0 ≤ k) (p : hV h 285 13 + 2 * r ≤ 2 ∧ ((r = 1 ∧ hV h 285 13 = 0 ∧ hV h 288 ((hV h 285 11).toNat) = k) ∨ (r = 0 ∧ (0 < hV h 285 13 ∨ ¬ hV h 288 ((hV h 285 11).toNat) = k)))) : (r = 1 ∧ (vwR h).1 (absR h).1 = km k) ∨ (r = 0 ∧ ¬ (vwR h).1 (absR h).1 = km k) := by
  rcases p.2 with q | q
  · exact .inl ⟨q.1, isR_yes z q.2.1 q.2.2⟩
  · exact .inr ⟨q.1, isR_no z h0 q.2⟩
theorem plR {h : gH} (z : RI h) (s : Int) : 0 ≤ (vwR h).2.2.2 s := by
  show 0 ≤ lR h s
  unfold lR
  by_cases k : okR h s
  · rw [if_pos k]
    have := k.1
    have := k.2.2
    exact (z.1.2.2.2 s.toNat (by omega)).1
  · rw [if_neg k]
    exact Int.le_refl _
theorem pfailR_lt {h : gH} (z : RI h) {f : Int} (h1 : 1 ≤ f) {p : PS} : (pfail (vwR h) f p).1 < 0 := by
  show pfl (vwR h) f p.1 < 0
  unfold pfl
  have := plR z p.1
  split <;> omega
theorem pnmR_lt {h : gH} (z : RI h) {lo hi : Int} {p : PS} (k : ¬ (vwR h).1 p.1 = 3) : (pnm (vwR h) lo hi p).1 < 0 := by
  show pt1 (vwR h) 3 p.1 < 0
  rcases Int.lt_or_le (pt1 (vwR h) 3 p.1) 0 with q | q
  · exact q
  · exact absurd (pt1R_kind z q).2 k
theorem pWtR_full {h : gH} (z : RI h) {k : Int} {p : PS} (h3 : (vwR h).1 p.1 = 3) (h4 : 4 ≤ k) : pnm (vwR h) 0 400 (pfail (vwR h) 2 p) = pWt (vwR h) k p := by
  unfold pWt
  rw [if_pos ⟨h3, h4⟩, pnm_neg (pfailR_lt z (by decide)) pfail_ok]
theorem tapsR_lt {h : gH} (z : RI h) {k : Int} {p : PS} (h4 : k ≤ 4) (h5 : (vwR h).1 (pWt (vwR h) k p).1 = 5) : k < 4 := by
  rcases Int.lt_or_le k 4 with q | q
  · exact q
  · exfalso
    have n : (pWt (vwR h) k p).1 < 0 := by
      unfold pWt
      by_cases c : (vwR h).1 p.1 = 3 ∧ 4 ≤ k
      · rw [if_pos c]
        exact pfailR_lt z (by decide)
      · rw [if_neg c]
        exact pnmR_lt z (fun e => c ⟨e, q⟩)
    rw [vwR_ok h _ n] at h5
    exact absurd h5 (by decide)
theorem pWt_none {v : Vw} {k : Int} {p : PS} (h3 : ¬ v.1 p.1 = 3) : pnm v 0 400 p = pWt v k p := by
  unfold pWt
  rw [if_neg (fun z => h3 z.1)]
