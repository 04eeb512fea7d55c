/-! THE INTS of a text: four digits at most. -/
theorem pDi_dig {B : Nat → Int} {n : Nat} : ∀ {f i k : Nat}, k < pDi B n f i → 48 ≤ B (i + k) ∧ B (i + k) ≤ 57 := by
  intro f
  induction f with
  | zero => intro i k w; exact absurd w (Nat.not_lt_zero _)
  | succ f ih =>
    intro i k w
    have e : pDi B n (f + 1) i = if i < n ∧ 48 ≤ B i ∧ B i ≤ 57 then pDi B n f (i + 1) + 1 else 0 := rfl
    rw [e] at w
    by_cases c : i < n ∧ 48 ≤ B i ∧ B i ≤ 57
    · rw [if_pos c] at w
      cases k with
      | zero => exact c.2
      | succ k =>
        have q := ih (i := i + 1) (k := k) (by omega)
        rw [show i + 1 + k = i + (k + 1) by omega] at q
        exact q
    · rw [if_neg c] at w
      exact absurd w (Nat.not_lt_zero _)
theorem pVa_4 {B : Nat → Int} {m i : Nat} (h : m ≤ 4) (d : ∀ k, k < m → 48 ≤ B (i + k) ∧ B (i + k) ≤ 57) : 0 ≤ pVa B m i 0 ∧ pVa B m i 0 ≤ 9999 := by
  have c : m = 0 ∨ m = 1 ∨ m = 2 ∨ m = 3 ∨ m = 4 := by omega
  rcases c with rfl | rfl | rfl | rfl | rfl
  · show (0 : Int) ≤ 0 ∧ (0 : Int) ≤ 9999
    omega
  · have d0 : 48 ≤ B i ∧ B i ≤ 57 := d 0 (by decide)
    show 0 ≤ 0 * 10 + (B i - 48) ∧ 0 * 10 + (B i - 48) ≤ 9999
    omega
  · have d0 : 48 ≤ B i ∧ B i ≤ 57 := d 0 (by decide)
    have d1 : 48 ≤ B (i + 1) ∧ B (i + 1) ≤ 57 := d 1 (by decide)
    show 0 ≤ (0 * 10 + (B i - 48)) * 10 + (B (i + 1) - 48) ∧ (0 * 10 + (B i - 48)) * 10 + (B (i + 1) - 48) ≤ 9999
    omega
  · have d0 : 48 ≤ B i ∧ B i ≤ 57 := d 0 (by decide)
    have d1 : 48 ≤ B (i + 1) ∧ B (i + 1) ≤ 57 := d 1 (by decide)
    have d2 : 48 ≤ B (i + 1 + 1) ∧ B (i + 1 + 1) ≤ 57 := d 2 (by decide)
    show 0 ≤ ((0 * 10 + (B i - 48)) * 10 + (B (i + 1) - 48)) * 10 + (B (i + 1 + 1) - 48) ∧ ((0 * 10 + (B i - 48)) * 10 + (B (i + 1) - 48)) * 10 + (B (i + 1 + 1) - 48) ≤ 9999
    omega
  · have d0 : 48 ≤ B i ∧ B i ≤ 57 := d 0 (by decide)
    have d1 : 48 ≤ B (i + 1) ∧ B (i + 1) ≤ 57 := d 1 (by decide)
    have d2 : 48 ≤ B (i + 1 + 1) ∧ B (i + 1 + 1) ≤ 57 := d 2 (by decide)
    have d3 : 48 ≤ B (i + 1 + 1 + 1) ∧ B (i + 1 + 1 + 1) ≤ 57 := d 3 (by decide)
    show 0 ≤ (((0 * 10 + (B i - 48)) * 10 + (B (i + 1) - 48)) * 10 + (B (i + 1 + 1) - 48)) * 10 + (B (i + 1 + 1 + 1) - 48) ∧ (((0 * 10 + (B i - 48)) * 10 + (B (i + 1) - 48)) * 10 + (B (i + 1 + 1) - 48)) * 10 + (B (i + 1 + 1 + 1) - 48) ≤ 9999
    omega
def TB9 (t : Tok) : Prop := 0 ≤ t.2.2.1 ∧ t.2.2.1 ≤ 9999
theorem TB9_0 {a b d : Int} : TB9 (a, b, 0, d) := by
  show (0 : Int) ≤ 0 ∧ (0 : Int) ≤ 9999
  omega
theorem tkL_bd {B : Nat → Int} {n i : Nat} : TB9 (tkL B n i) := by
  unfold tkL
  split
  · exact TB9_0
  · split
    · exact TB9_0
    · exact TB9_0
theorem tkD_bd {B : Nat → Int} {n i : Nat} : TB9 (tkD B n i) := by
  unfold tkD
  split
  · exact TB9_0
  · exact pVa_4 (by omega) (fun k hk => pDi_dig hk)
theorem pTk_bd {B : Nat → Int} {n : Nat} {t : Tok} : ∀ {f i : Nat}, t ∈ pTk B n f i → TB9 t := by
  intro f
  induction f with
  | zero => intro i w; cases (show t ∈ ([] : List Tok) from w)
  | succ f ih =>
    intro i w
    have two : ∀ {a : Tok} {l : List Tok}, TB9 a → (t ∈ l → TB9 t) → t ∈ a :: l → TB9 t := fun ha hl w => by
      rcases List.mem_cons.mp w with e | w
      · rw [e]
        exact ha
      · exact hl w
    unfold pTk at w
    split at w
    · split at w
      · exact ih w
      · split at w
        · exact two tkL_bd ih w
        · split at w
          · exact two tkD_bd ih w
          · split at w
            · exact two TB9_0 ih w
            · exact two TB9_0 ih w
    · cases w
theorem tkAt_bd {L : List Tok} {n s : Int} (h : ∀ t, t ∈ L → TB9 t) : TB9 (tkAt L n s) := by
  unfold tkAt
  split
  · exact TB9_0
  · split
    · exact TB9_0
    · split
      · rename_i t e
        exact h t (List.mem_of_getElem? e)
      · split
        · exact TB9_0
        · exact TB9_0
theorem pTx_bd {B : Nat → Int} {n : Int} (p : PS) : 0 ≤ tvl (pTx B n) p ∧ tvl (pTx B n) p ≤ 9999 := tkAt_bd (n := n) (s := p.1) (fun _ w => pTk_bd w)
/-! THE SHEETS AT THE START, and in the law's loop (hand; behind sheet7 and mixs). -/
set_option maxRecDepth 100000 in
theorem sS2_m46 : sNum sS2 46 (fun _ => 0) 0 true = true := by decide +kernel
set_option maxRecDepth 100000 in
theorem sS2_m46l : (sLen sS2 46 7 && sLen sS2 9 8) = true := by decide +kernel
theorem law_shc {L : Nat} {xs : Nat → Int32} {lh : gH} (hW : WT T0 (hDum lh)) (h : sRH (lawRho L xs) sS2 lh) : SHC (hDum lh) := by
  have ks := hW.1
  have m7 := sNum_at h (o := 7) (by omega) sS2_m7
  have s74 : hV (hDum lh) 7 4 = 0 := m7 4 (by decide)
  have l := sS2_m46l
  rw [Bool.and_eq_true] at l
  refine ⟨⟨fun i hi => sNum_at h (by omega) sS2_m45 i hi, ks 46 740 (by decide +kernel), sLen_ok h (by omega) l.1⟩, ⟨ks 7 11 (by decide +kernel), ks 9 104 (by decide +kernel), sLen_ok h (by omega) l.2, ks.len⟩, fun b hb => ?_, fun s hs => ?_⟩
  · rw [sNum_0 h (by omega) sS2_m46 b (Nat.zero_le _)]
    decide
  · rw [s74] at hs
    omega
/-- two contracts of one method, both with something wanted -/
theorem eC_and2 {e e' : vE} {d : Nat} (z : eC e d) (z' : eC e' d) (h1 : e'.1 = e.1) (h2 : e'.2.1.1 = e.2.1.1) (h3 : ∀ xs h, e'.2.2.1 xs h → e.2.2.1 xs h) (h4 : e'.2.1.2.2.1 = 1) : eC (eAnd e e') d := by
  obtain ⟨a1, a2, a3⟩ := z
  obtain ⟨b1, b2, b3⟩ := z'
  refine ⟨a1, b2, fun as lh hW hv hp => ?_⟩
  rw [h1] at b3
  obtain ⟨n, o, r, w, l, v, p⟩ := b3 as lh hW hv hp
  obtain ⟨n', o', r', w', l', v', p'⟩ := a3 as lh hW (by rw [← h2]; exact hv) (fun _ => h3 _ _ (hp h4))
  have q := gRun_le (Nat.le_max_left n n') _ _ _ _ _ _ _ r
  have q' := gRun_le (Nat.le_max_right n n') _ _ _ _ _ _ _ r'
  have e : o = o' := Option.some.inj (q.symm.trans q')
  subst e
  exact ⟨n, o, r, w, l, v, p', p⟩
theorem CPL_s {a : gH} (z : CPL a) : hV a 7 4 = hV a 285 18 ∧ hV a 19 3 = hV a 285 60 ∧ 0 ≤ hV a 7 4 ∧ hV a 7 4 ≤ 8 := by
  have e4 : hV a 7 4 = hV a 285 18 := congrArg (fun m : MXS => m.2.2.2.1) z.1
  have e3 : hV a 19 3 = hV a 285 60 := congrArg (fun m : MXS => m.2.2.2.2.1) z.1
  have m := z.2.1.2.1
  exact ⟨e4, e3, m.1, m.2⟩
noncomputable def cRC (W : List (Nat × Nat)) : Bool := vFree W 285 18 && (vFreeR W 296 && cC8 W)
/-- cues answers alike -/
theorem CUES_eq {W : List (Nat × Nat)} {a b : gH} {r1 r2 s : Int} (cp : CPL a) (sc : SHC a) (f : hFr W a b) (c : cRC W = true) (pa : K79 a → (¬ (0 ≤ s ∧ s < hV a 7 4) → r1 = -1) ∧ (0 ≤ s → s < hV a 7 4 → 0 ≤ hV a 9 (s).toNat → r1 = hV a (hV a 9 (s).toNat).toNat 2)) (pb : (0 ≤ s ∧ s < hV b 285 18 → r2 = ((flS (hV b 296) (hV b 298) (hV b 300) (hV b 301) (hV b 302) (hV b 340) (7 * (s).toNat) 7 6 0).length : Int)) ∧ (¬ (0 ≤ s ∧ s < hV b 285 18) → r2 = -1)) : r2 = r1 := by
  unfold cRC at c
  simp only [Bool.and_eq_true] at c
  obtain ⟨c1, c2, c3⟩ := c
  obtain ⟨e4, e3, m1, m2⟩ := CPL_s cp
  have e18 : hV b 285 18 = hV a 285 18 := f.1 285 18 c1
  obtain ⟨p1, p2⟩ := pa sc.2.1
  by_cases hs : 0 ≤ s ∧ s < hV a 7 4
  · obtain ⟨o, o1, o2, D, S, T, kp, vl, zt, sl⟩ := sc.2.2.2 s.toNat (by omega)
    have q1 := p2 hs.1 hs.2 (by rw [o1]; omega)
    have q2 := pb.1 (by omega)
    obtain ⟨x1, x2, x3, x4, x5, x6, x7, x8⟩ := CR8_fr f c3
    rw [fRow f 296 c2, x1, x3, x4, x5] at q2
    rw [q2, q1, o1, Int.toNat_natCast, sl.2.2.2.1, SH_len2 kp vl zt (hV b 340)]
  · rw [p1 hs, pb.2 (by omega)]
theorem p93_of {r x : Int} {b c : gH} (z : nb_221 r x b c) (k : KEYS b) : (r = 0 ∧ ¬ (pTx (BT b) (hV b 285 2)).1 0 = 19 ∧ hV c 285 18 = hV b 285 18 + 1 ∧ hV c 293 = uF (hV b 293) (hV b 285 18) (hV b 285 60 - 1)) ∨ (¬ (r = 0 ∧ ¬ (pTx (BT b) (hV b 285 2)).1 0 = 19) ∧ hV c 293 = hV b 293) := by
  unfold nb_221 at z
  rcases z k with ⟨z1, z2, z3, z4, z5, z6⟩ | ⟨z1, z2, z3, z4, z5⟩
  · exact .inr ⟨fun w => by have := w.1; omega, z6⟩
  · rcases z5 with ⟨w1, w2, w3, w4⟩ | ⟨w1, w2, w3⟩
    · exact .inl ⟨w1, w2, w3, w4⟩
    · exact .inr ⟨w1, w3⟩
/-- a reading of both -/
theorem SHC_rd {Wc Wr : List (Nat × Nat)} {a b c : gH} {r1 r2 x : Int} (cp : CPL a) (sc : SHC a) (f1 : hFr Wc a b) (c1 : cSR Wc = true) (c2 : cRM Wc = true) (c3 : vFreeR Wc 292 = true) (pa : CK a → K79 a → B16 a 7 → RDT (pTx (hV a 8) (hV a 7 1)) r1 a b) (le : hLe T0 b c) (f2 : hFr Wr b c) (c4 : cSC Wr = true) (nb : nb_221 r2 x b c) (yb : yb_221 r2 x b c) (pg : PG c) (e : r2 = r1) : SHC c := by
  subst e
  have cr := CPL_R cp f1 c2
  have ky := KEYS_fr f1 c3 cp.2.2.2.2.2.2
  have eB : BT b = hV a 8 := congrArg (fun m : MXS => m.2.1) cr.1
  have e2 : hV b 285 2 = hV a 7 1 := congrArg (fun m : MXS => m.1) cr.1
  have e18 : hV b 285 18 = hV a 7 4 := congrArg (fun m : MXS => m.2.2.2.1) cr.1
  have e60 : hV b 285 60 = hV a 19 3 := congrArg (fun m : MXS => m.2.2.2.2.1) cr.1
  have s := CPL_s cp
  have p := p93_of nb ky
  unfold yb_221 at yb
  have y := yb ky
  rw [eB, e2] at p y
  exact SHC_read sc (fun q => pTx_bd q) s.2.2.1 e18 e60 f1 c1 (pa sc.1 sc.2.1 sc.2.2.1) le f2 c4 y pg p
