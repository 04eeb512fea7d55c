/-! CUES with the MARKS (hand; behind sheet8). -/
/-- a CUE of a sheet with all blocks put in -/
def EKr (r : CR) : Prop := 0 ≤ r.1 ∧ r.1 ≤ 4 ∧ (r.1 < 2 → -1 ≤ r.2.2.2.1 ∧ r.2.2.2.1 ≤ 7) ∧ (r.1 = 1 → -1 ≤ r.2.2.2.2.2.1 ∧ r.2.2.2.2.2.1 ≤ 7) ∧ (-20000 ≤ r.2.2.2.2.1 ∧ r.2.2.2.2.1 ≤ 20000) ∧ -20000 ≤ r.2.2.2.2.2.2.1 ∧ r.2.2.2.2.2.2.1 ≤ 20000
theorem crS_EK {bm bf : Int} {r : CR} (f : FBr r) (m : MBr r) (n5 : ¬ r.1 = 5) (m1 : -1 ≤ bm) (m7 : bm ≤ 7) (b1 : -400 ≤ bf) (b2 : bf ≤ 400) : EKr (crS bm bf r) := by
  obtain ⟨⟨f1, f2⟩, f3, f4⟩ := f
  obtain ⟨k1, k2, k3, k4, k5⟩ := m
  show 0 ≤ r.1 ∧ r.1 ≤ 4 ∧ (r.1 < 2 → -1 ≤ (if r.2.2.2.1 = -1 then bm else r.2.2.2.1) ∧ (if r.2.2.2.1 = -1 then bm else r.2.2.2.1) ≤ 7) ∧ (r.1 = 1 → -1 ≤ (if r.2.2.2.2.2.1 = -1 then bm else r.2.2.2.2.2.1) ∧ (if r.2.2.2.2.2.1 = -1 then bm else r.2.2.2.2.2.1) ≤ 7) ∧ (-20000 ≤ (if r.2.2.2.1 = -1 then w32 (r.2.2.2.2.1 + bf) else r.2.2.2.2.1) ∧ (if r.2.2.2.1 = -1 then w32 (r.2.2.2.2.1 + bf) else r.2.2.2.2.1) ≤ 20000) ∧ -20000 ≤ (if r.2.2.2.2.2.1 = -1 then w32 (r.2.2.2.2.2.2.1 + bf) else r.2.2.2.2.2.2.1) ∧ (if r.2.2.2.2.2.1 = -1 then w32 (r.2.2.2.2.2.2.1 + bf) else r.2.2.2.2.2.2.1) ≤ 20000
  rw [w32_id (x := r.2.2.2.2.1 + bf) (by omega) (by omega), w32_id (x := r.2.2.2.2.2.2.1 + bf) (by omega) (by omega)]
  refine ⟨k3.1, by omega, fun h => ?_, fun h => ?_, ?_, ?_⟩
  · have k := k4 (.inl h)
    split <;> omega
  · have k := k5 h
    split <;> omega
  · split <;> omega
  · split <;> omega
theorem pU_ok {D : Nat → List CR} {T : Int → Int} {B : Nat} (v : VL D B) {r : CR} : ∀ {n b : Nat} {bm bf : Int}, n ≤ 6 → (b < B ∨ b = 6) → -1 ≤ bm → bm ≤ 7 → -(360 - 60 * (n : Int)) ≤ bf → bf ≤ 360 - 60 * (n : Int) → r ∈ pU D T (n + 1) b bm bf → EKr r := by
  intro n
  induction n with
  | zero =>
    intro b bm bf _ hb m1 m7 b1 b2 h
    rw [pU_succ] at h
    obtain ⟨q, hq, h⟩ := List.mem_flatMap.mp h
    have w := v b hb q hq
    unfold pUf at h
    by_cases c : q.1 = 5
    · rw [if_pos c] at h
      split at h
      · cases (show r ∈ ([] : List CR) from h)
      · cases h
    · rw [if_neg c] at h
      rw [List.mem_singleton.mp h]
      exact crS_EK w.2.1 w.2.2 c m1 m7 (by omega) (by omega)
  | succ n ih =>
    intro b bm bf hn hb m1 m7 b1 b2 h
    rw [pU_succ] at h
    obtain ⟨q, hq, h⟩ := List.mem_flatMap.mp h
    have w := v b hb q hq
    unfold pUf at h
    by_cases c : q.1 = 5
    · have u := w.1 c
      have k := w.2.2
      have uf : usF bf q = if q.2.2.2.1 = -1 then bf + q.2.2.2.2.1 else q.2.2.2.2.1 := by
        unfold usF
        rw [w32_id (by omega) (by omega)]
      have um : usM bm q = if q.2.2.2.1 = -1 then bm else q.2.2.2.1 := rfl
      have k7 := k.2.2.2.1 (.inr c)
      have k1 := k.1
      rw [if_pos c] at h
      split at h
      · refine ih (by omega) (.inl (by omega)) ?_ ?_ ?_ ?_ h
        · rw [um]
          split <;> omega
        · rw [um]
          split <;> omega
        · rw [uf]
          split <;> omega
        · rw [uf]
          split <;> omega
      · cases h
    · rw [if_neg c] at h
      rw [List.mem_singleton.mp h]
      exact crS_EK w.2.1 w.2.2 c m1 m7 (by omega) (by omega)
theorem nwW_nw {mk : Nat → Int} {m f : Int} (m1 : -1 ≤ m) (m7 : m ≤ 7) (f1 : -20000 ≤ f) (f2 : f ≤ 20000) (b : ∀ k : Nat, 0 ≤ mk k ∧ mk k ≤ 60) : nwW mk m f = nw mk m f := by
  unfold nwW nw
  by_cases c : m = -1
  · rw [if_pos c, if_pos c]
  · have k := b m.toNat
    rw [if_neg c, if_neg c, if_pos ⟨by omega, by omega⟩, w32_id (by omega) (by omega)]
/-- the MARKS of both -/
def MKS (h : gH) : Prop := K25 h ∧ hV h 25 = hV h 340 ∧ ∀ k : Nat, 0 ≤ hV h 340 k ∧ hV h 340 k ≤ 60
noncomputable def cMK (W : List (Nat × Nat)) : Bool := vFreeR W 25 && vFreeR W 340
theorem MKS_fr {W : List (Nat × Nat)} {a b : gH} (le : hLe T0 a b) (f : hFr W a b) (c : cMK W = true) (z : MKS a) : MKS b := by
  unfold cMK at c
  simp only [Bool.and_eq_true] at c
  obtain ⟨z1, z2, z3⟩ := z
  refine ⟨K25_le le z1, ?_, ?_⟩
  · rw [fRow f 25 c.1, fRow f 340 c.2]
    exact z2
  · rw [fRow f 340 c.2]
    exact z3
set_option maxRecDepth 100000 in
theorem sS2_mmk : (sNum sS2 25 (fun _ => 0) 0 true && (sNum sS2 340 (fun _ => 0) 0 true && sLen sS2 25 8)) = true := by decide +kernel
theorem law_mks {L : Nat} {xs : Nat → Int32} {lh : gH} (hW : WT T0 (hDum lh)) (h : sRH (lawRho L xs) sS2 lh) : MKS (hDum lh) := by
  have ks := hW.1
  have l := sS2_mmk
  rw [Bool.and_eq_true, Bool.and_eq_true] at l
  have z1 : ∀ j, hV (hDum lh) 25 j = 0 := fun j => sNum_0 h (by omega) l.1 j (Nat.zero_le _)
  have z2 : ∀ j, hV (hDum lh) 340 j = 0 := fun j => sNum_0 h (by omega) l.2.1 j (Nat.zero_le _)
  refine ⟨⟨ks 25 708 (by decide +kernel), sLen_ok h (by omega) l.2.2⟩, funext fun j => (z1 j).trans (z2 j).symm, fun j => ?_⟩
  rw [z2 j]
  decide
/-- a MARK of both is set -/
theorem MKS_mark {Wc Wr : List (Nat × Nat)} {a b c : gH} {r1 r2 m f : Int} (z : MKS a) (l1 : hLe T0 a b) (f1 : hFr Wc a b) (c1 : vFreeR Wc 340 = true) (pa : K25 a → (0 ≤ m ∧ m ≤ 7 ∧ 0 ≤ f ∧ f ≤ 60 → r1 = 1 ∧ hV b 25 = uF (hV a 25) m f) ∧ (¬ (0 ≤ m ∧ m ≤ 7 ∧ 0 ≤ f ∧ f ≤ 60) → r1 = 0 ∧ hV b 25 = hV a 25)) (l2 : hLe T0 b c) (f2 : hFr Wr b c) (c2 : vFreeR Wr 25 = true) (pb : (0 ≤ m ∧ m ≤ 7 ∧ 0 ≤ f ∧ f ≤ 60 → r2 = 1 ∧ hV c 340 = uF (hV b 340) m f) ∧ (¬ (0 ≤ m ∧ m ≤ 7 ∧ 0 ≤ f ∧ f ≤ 60) → r2 = 0 ∧ hV c 340 = hV b 340)) : MKS c := by
  obtain ⟨z1, z2, z3⟩ := z
  obtain ⟨p1, p2⟩ := pa z1
  have e25 : hV c 25 = hV b 25 := fRow f2 25 c2
  have e340 : hV b 340 = hV a 340 := fRow f1 340 c1
  by_cases h : 0 ≤ m ∧ m ≤ 7 ∧ 0 ≤ f ∧ f ≤ 60
  · have q1 := (p1 h).2
    have q2 := (pb.1 h).2
    refine ⟨K25_le l2 (K25_le l1 z1), ?_, fun k => ?_⟩
    · rw [e25, q1, q2, e340, z2]
    · rw [q2, e340, uF_at]
      split
      · omega
      · exact z3 k
  · have q1 := (p2 h).2
    have q2 := (pb.2 h).2
    refine ⟨K25_le l2 (K25_le l1 z1), ?_, fun k => ?_⟩
    · rw [e25, q1, q2, e340, z2]
    · rw [q2, e340]
      exact z3 k
/-- the k-th of both lists -/
theorem SH_at {h : gH} {pg : Nat} {D : List (List CR)} {S : List CR} {T : Int → Int} (z : KPT h pg D S) (v : VL (drf D S) D.length) (t : ZT (drf D S) T D.length) (mk : Nat → Int) {k : Nat} {p : CR} (hk : (pU (drf D S) T 7 6 (-1) 0)[k]? = some p) : EKr p ∧ ∃ q : Nat × Int, (flS (hV h 296) (hV h 298) (hV h 300) (hV h 301) (hV h 302) mk (7 * pg) 7 6 0)[k]? = some q ∧ nowC mk p = nowR mk (recR h q.1, q.2) := by
  refine ⟨pU_ok v (n := 6) (Nat.le_refl _) (.inr rfl) (by decide) (by decide) (by decide) (by decide) (List.mem_of_getElem? hk), ?_⟩
  have e := congrArg (fun l : List CR => l[k]?) (SH_len z v t mk)
  have e2 : ((pU (drf D S) T 7 6 (-1) 0).map (nowC mk))[k]? = ((flS (hV h 296) (hV h 298) (hV h 300) (hV h 301) (hV h 302) mk (7 * pg) 7 6 0).map (fun p => nowR mk (recR h p.1, p.2)))[k]? := e
  rw [List.getElem?_map, List.getElem?_map, hk] at e2
  cases hq : (flS (hV h 296) (hV h 298) (hV h 300) (hV h 301) (hV h 302) mk (7 * pg) 7 6 0)[k]? with
  | none =>
    rw [hq] at e2
    cases e2
  | some q =>
    rw [hq] at e2
    exact ⟨q, rfl, Option.some.inj e2⟩
/-- cue answers alike -/
theorem CUE_eq {W : List (Nat × Nat)} {a b : gH} {r1 r2 s k w : Int} (cp : CPL a) (sc : SHC a) (mk : MKS a) (f : hFr W a b) (c : (cRC W && vFreeR W 340) = true) (pa : K79 a → K25 a → (¬ (0 ≤ s ∧ s < hV a 7 4) → r1 = -1) ∧ (0 ≤ s → s < hV a 7 4 → ∀ E : List CR, 0 ≤ hV a 9 (s).toNat → SHL a (hV a 9 (s).toNat).toNat E → (¬ (0 ≤ k ∧ k < (E.length : Int)) → r1 = -1) ∧ ∀ p : CR, 0 ≤ k → E[(k).toNat]? = some p → 0 ≤ p.1 → p.1 ≤ 4 → r1 = cuC (hV a 25) p w)) (pb : ((0 ≤ s ∧ s < hV b 285 18) ∧ 0 ≤ k ∧ k < ((flS (hV b 296) (hV b 298) (hV b 300) (hV b 301) (hV b 302) (hV b 340) (7 * (s).toNat) 7 6 0).length : Int) → ∀ p, (flS (hV b 296) (hV b 298) (hV b 300) (hV b 301) (hV b 302) (hV b 340) (7 * (s).toNat) 7 6 0)[(k).toNat]? = some p → r2 = cuA (hV b 298) (hV b 299) (hV b 300) (hV b 301) (hV b 302) (hV b 340) p w) ∧ (¬ ((0 ≤ s ∧ s < hV b 285 18) ∧ 0 ≤ k ∧ k < ((flS (hV b 296) (hV b 298) (hV b 300) (hV b 301) (hV b 302) (hV b 340) (7 * (s).toNat) 7 6 0).length : Int)) → r2 = -1)) : r2 = r1 := by
  rw [Bool.and_eq_true] at c
  obtain ⟨c0, c340⟩ := c
  unfold cRC at c0
  simp only [Bool.and_eq_true] at c0
  obtain ⟨c1, c2, c3⟩ := c0
  obtain ⟨e4, e3, m1, m2⟩ := CPL_s cp
  have e18 : hV b 285 18 = hV a 285 18 := f.1 285 18 c1
  obtain ⟨x1, x2, x3, x4, x5, x6, x7, x8⟩ := CR8_fr f c3
  rw [fRow f 296 c2, x1, x2, x3, x4, x5, fRow f 340 c340] at pb
  obtain ⟨k1, k2, k3⟩ := mk
  obtain ⟨p1, p2⟩ := pa sc.2.1 k1
  by_cases hs : 0 ≤ s ∧ s < hV a 7 4
  · obtain ⟨o, o1, o2, D, S, T, kp, vl, zt, sl⟩ := sc.2.2.2 s.toNat (by omega)
    have sl2 : SHL a (hV a 9 s.toNat).toNat (pU (drf D S) T 7 6 (-1) 0) := by
      rw [o1, Int.toNat_natCast]
      exact sl
    obtain ⟨q1, q2⟩ := p2 hs.1 hs.2 _ (by rw [o1]; omega) sl2
    have ln := SH_len2 kp vl zt (hV a 340)
    by_cases hk : 0 ≤ k ∧ k < ((pU (drf D S) T 7 6 (-1) 0).length : Int)
    · obtain ⟨p, hp⟩ : ∃ p, (pU (drf D S) T 7 6 (-1) 0)[k.toNat]? = some p := ⟨_, List.getElem?_eq_getElem (by omega)⟩
      obtain ⟨ek, q, hq, en⟩ := SH_at kp vl zt (hV a 340) hp
      have a1 := q2 _ hk.1 hp ek.1 ek.2.1
      have a2 := pb.1 ⟨⟨hs.1, by omega⟩, hk.1, by rw [← ln]; exact hk.2⟩ q hq
      have n0 : p.1 = hV a 298 q.1 := congrArg (fun r : CR => r.1) en
      have n1 : p.2.1 = hV a 299 q.1 := congrArg (fun r : CR => r.2.1) en
      have n2 : p.2.2.1 = hV a 300 q.1 := congrArg (fun r : CR => r.2.2.1) en
      have n4 : nw (hV a 340) p.2.2.2.1 p.2.2.2.2.1 = frM (hV a 340) (hV a 301 q.1) (recR a q.1).2.2.2.2.1 q.2 := congrArg (fun r : CR => r.2.2.2.2.1) en
      rw [a1, a2, k2]
      unfold cuC cuA
      rw [n0, n1, n2]
      by_cases w0 : w = 0
      · rw [if_pos w0, if_pos w0]
      · rw [if_neg w0, if_neg w0]
        by_cases w1 : w = 1
        · rw [if_pos w1, if_pos w1]
          by_cases k01 : hV a 298 q.1 < 2
          · have lo := ek.1
            have e302 : (recR a q.1).2.2.2.2.1 = hV a 302 q.1 := if_pos (by omega)
            have em := ek.2.2.1 (by omega)
            rw [if_pos k01, if_pos k01, nwW_nw em.1 em.2 ek.2.2.2.2.1.1 ek.2.2.2.2.1.2 k3, n4, e302]
          · rw [if_neg k01, if_neg k01]
        · rw [if_neg w1, if_neg w1]
    · rw [q1 hk, pb.2 (fun z => hk ⟨z.2.1, by rw [ln]; exact z.2.2⟩)]
  · rw [p1 hs, pb.2 (fun z => hs ⟨z.1.1, by omega⟩)]
