/-! CUES AND SHEETS in the class's heap (hand; behind base.lean.txt). Row 45 has a kind of its own, 810. -/
def CU (h : gH) : Prop := hK h 45 = 810 ∧ hN h 45 = 112 ∧ ∀ i : Nat, i < 112 → 0 ≤ hV h 45 i ∧ hK h (hV h 45 i).toNat = 1
theorem CU_fr {W : List (Nat × Nat)} {a b : gH} (le : hLe T0 a b) (f : hFr W a b) (c : vFreeR W 45 = true) (z : CU a) : CU b := by
  have e := fRow f 45 c
  unfold CU
  rw [e]
  exact ⟨kLe le z.1 rfl, (le.2 _ (hK_lt z.1 (by decide))).2.1.trans z.2.1, fun i hi => ⟨(z.2.2 i hi).1, kLe le (z.2.2 i hi).2 rfl⟩⟩
theorem CU_up {a b : gH} {o i w : Int} (f : hUpd b a o i w) (z : CU a) (k : ¬ hK a o.toNat = 810) : CU b := by
  have ne : ¬ ((45 : Nat) : Int) = o := fun e => k (by rw [← z.1, ← e, Int.toNat_natCast])
  have e := uRowNe f 45 ne
  unfold CU
  rw [e]
  exact ⟨(f.2.2 _).1.trans z.1, (f.2.2 _).2.trans z.2.1, fun i hi => ⟨(z.2.2 i hi).1, (f.2.2 _).1.trans (z.2.2 i hi).2⟩⟩
/-- a write to a cue: the reader's slots and rows stay -/
theorem upCue {a b : gH} {o i w : Int} (f : hUpd b a o i w) (z : KI a) (y : BI a) (k : hK a o.toNat = 1) : (∀ s : Nat, hV b 30 s = hV a 30 s) ∧ hV b 47 = hV a 47 ∧ hV b 48 = hV a 48 := by
  have ne : ∀ q k' : Nat, hK a q = k' → ¬ k' = 1 → ¬ (q : Int) = o := fun q k' h1 h2 e => h2 (by rw [← h1, ← k, ← e, Int.toNat_natCast])
  exact ⟨fun s => uPlace f 30 s (ne 30 4 z.1.1 (by decide)), uRowNe f 47 (ne 47 740 y.1.2.2.1 (by decide)), uRowNe f 48 (ne 48 733 y.1.1 (by decide))⟩
theorem pCue_k {v : Vw} {bl : List (Int × Int)} {p : PS} {k : Int} (h : v.1 p.1 = k) : pCue v bl p = ptk v 4 (pBody v bl k (ptk v k p)) := by
  unfold pCue
  rw [h]
theorem pBody_20 {v : Vw} {bl : List (Int × Int)} {p : PS} : pBody v bl 20 p = pLay v p := rfl
theorem pBody_21 {v : Vw} {bl : List (Int × Int)} {p : PS} : pBody v bl 21 p = pFade v p := rfl
theorem pBody_22 {v : Vw} {bl : List (Int × Int)} {p : PS} : pBody v bl 22 p = pDip v p := rfl
theorem pBody_23 {v : Vw} {bl : List (Int × Int)} {p : PS} : pBody v bl 23 p = pTaps v p := rfl
theorem pBody_24 {v : Vw} {bl : List (Int × Int)} {p : PS} : pBody v bl 24 p = pnm v 0 9999 p := rfl
theorem pBody_25 {v : Vw} {bl : List (Int × Int)} {p : PS} : pBody v bl 25 p = pUse v bl p := rfl
theorem pCues_step {v : Vw} {bl : List (Int × Int)} {f : Nat} {p : PS} (h : 20 ≤ v.1 p.1 ∧ v.1 p.1 ≤ 25) : pCues v bl (f + 1) p = pCues v bl f (pCue v bl p) := if_pos h
theorem pCues_full {v : Vw} {bl : List (Int × Int)} {p : PS} (h : 20 ≤ v.1 p.1 ∧ v.1 p.1 ≤ 25) : pCues v bl 0 p = pfail v 2 p := if_pos h
theorem pTot_step {v : Vw} {bl : List (Int × Int)} {f : Nat} {p : PS} {t : Int} (h : 20 ≤ v.1 p.1 ∧ v.1 p.1 ≤ 25) : pTot v bl (f + 1) p t = pTot v bl f (pCue v bl p) (pcap (t + pcz v bl p)) := if_pos h
theorem pcap_add {a b : Int} (ha : 0 ≤ a) (hb : 0 ≤ b) : pcap (pcap a + pcap b) = pcap (a + b) := by
  unfold pcap
  split <;> split <;> split <;> (try split) <;> omega
theorem pcap_one {a : Int} (ha : 0 ≤ a) : pcap (pcap a + 1) = pcap (a + 1) := by
  unfold pcap
  split <;> split <;> (try split) <;> omega
theorem pcap_zero {a : Int} (ha : 0 ≤ a) : pcap (pcap a + 0) = pcap a := by
  unfold pcap
  split <;> (try split) <;> omega
theorem pcap_big {a : Int} : 40 < pcap a ↔ 40 < a := by
  unfold pcap
  split <;> omega
theorem gB_pos : ∀ n : Nat, 1 ≤ gB n := by
  intro n
  induction n with
  | zero => exact Int.le_refl _
  | succ n ih =>
    show 1 ≤ 16 * gB n
    omega
theorem gB_mono : ∀ {n m : Nat}, n ≤ m → gB n ≤ gB m := by
  intro n m h
  induction h with
  | refl => exact Int.le_refl _
  | step h ih =>
    rename_i k
    have := gB_pos k
    show gB n ≤ 16 * gB k
    omega
theorem gB_7 : gB 7 = 268435456 := by decide
/-- how many CUES a CUE is, no use -/
theorem pcz_1 {v : Vw} {bl : List (Int × Int)} {p : PS} (h : ¬ v.1 p.1 = 25) : pcz v bl p = 1 := if_neg h
theorem pcz_use {h : gH} (z : TKI h) {v : Vw} (hv : v = vwC h) {bl : List (Int × Int)} {p : PS} (hk : v.1 p.1 = 25) (hp : 0 ≤ (ptk v 25 p).1) : pcz v bl p = (if pfd bl (v.2.2.1 (ptk v 25 p).1) = -1 then 0 else pfd bl (v.2.2.1 (ptk v 25 p).1)) := by
  subst hv
  rw [ptk_next z hp]
  exact if_pos hk
/-- a step of the CUES: the state -/
theorem cues_st {h : gH} (z : TKI h) {bl : List (Int × Int)} {p q : PS} {c : Nat} {k : Int} (hk : (vwC h).1 p.1 = k) (h1 : 20 ≤ k) (h2 : k ≤ 25) (hc : c < 16) (hq : q = ptk (vwC h) 4 (pBody (vwC h) bl k (ptk (vwC h) k p))) : pCues (vwC h) bl (16 - c) p = pCues (vwC h) bl (16 - (c + 1)) q := by
  rw [show 16 - c = (16 - (c + 1)) + 1 by omega, pCues_step (by omega), pCue_k hk, hq]
/-- a step of the CUES: how many there are -/
theorem tot_st {h : gH} (z : TKI h) {bl : List (Int × Int)} {p q : PS} {c : Nat} {k t d : Int} (hk : (vwC h).1 p.1 = k) (h1 : 20 ≤ k) (h2 : k ≤ 25) (hc : c < 16) (hq : q = ptk (vwC h) 4 (pBody (vwC h) bl k (ptk (vwC h) k p))) (hd : pcap (pcap t + pcz (vwC h) bl p) = pcap (t + d)) : pTot (vwC h) bl (16 - c) p (pcap t) = pTot (vwC h) bl (16 - (c + 1)) q (pcap (t + d)) := by
  rw [show 16 - c = (16 - (c + 1)) + 1 by omega, pTot_step (by omega), pCue_k hk, hq, hd]
theorem pTime_mono {h : gH} (z : TKI h) {p : PS} (ho : pOK p) (hp : 0 ≤ (pTime (vwC h) p).1) : 0 ≤ p.1 := by
  rcases Int.lt_or_le p.1 0 with q | q
  · rw [pTime_neg (vwC_ok h) q ho] at hp
    exact hp
  · exact q
theorem pUse_tok {h : gH} (z : TKI h) {bl : List (Int × Int)} {p : PS} (hp : 0 ≤ (pUse (vwC h) bl p).1) : 0 ≤ p.1 := by
  unfold pUse at hp
  have q := pTime_mono z ptk_ok hp
  have q2 := (pt1_kind z q).1
  exact (pt1_kind z q2).1
theorem BI_put47 {W : List (Nat × Nat)} {a b : gH} {x : Int} (le : hLe T0 a b) (f : hFr W a b) (c : (vFree W 30 13 && vFreeR W 48) = true) (z : BI a) (p : putQ 47 (hV a 30 13) x a b) : BI b ∧ BLc b = BLc a ∧ hV b 30 13 = hV a 30 13 ∧ hV b 48 = hV a 48 ∧ hV b 47 (hV a 30 13).toNat = x := by
  rw [Bool.and_eq_true] at c
  have e1 := f.1 30 13 c.1
  have e2 := fRow f 48 c.2
  obtain ⟨z1, z2, z3, z4⟩ := z
  have e3 : ∀ i : Nat, (i : Int) < hV a 30 13 → hV b 47 i = hV a 47 i := fun i hi => by
    rw [p 47 i, if_neg (fun q => by omega)]
  refine ⟨⟨KB_le le z1, by rw [e1]; exact z2, by rw [e1]; exact z3, fun i hi => ?_⟩, ?_, e1, e2, ?_⟩
  · rw [e1] at hi
    rw [e3 i hi, e2]
    exact z4 i hi
  · unfold BLc
    rw [e1]
    exact BLf_congr (fun j _ hj => ⟨by rw [e2], e3 j (by omega)⟩)
  · rw [p 47 (hV a 30 13).toNat, if_pos ⟨rfl, by omega, by rw [z1.2.2.2]; omega⟩]
theorem BI_put46 {W : List (Nat × Nat)} {a b : gH} {i x : Int} (le : hLe T0 a b) (f : hFr W a b) (c : (vFree W 30 13 && vFreeR W 48) = true) (z : BI a) (p : putQ 46 i x a b) : BI b ∧ BLc b = BLc a ∧ hV b 30 13 = hV a 30 13 ∧ hV b 48 = hV a 48 ∧ hV b 47 = hV a 47 := by
  rw [Bool.and_eq_true] at c
  have e1 := f.1 30 13 c.1
  have e2 := fRow f 48 c.2
  have e3 : hV b 47 = hV a 47 := funext fun j => by rw [p 47 j, if_neg (fun q => absurd q.1 (by decide))]
  obtain ⟨z1, z2, z3, z4⟩ := z
  refine ⟨⟨KB_le le z1, by rw [e1]; exact z2, by rw [e1]; exact z3, fun j hj => ?_⟩, ?_, e1, e2, e3⟩
  · rw [e1] at hj
    rw [e2, e3]
    exact z4 j hj
  · unfold BLc
    rw [e1, e2, e3]
/-- the end of a sheet -/
theorem pLast_of {h : gH} {bl : List (Int × Int)} {p q r : PS} {t x : Int} (hq : q = ptk (vwC h) 17 (pCues (vwC h) bl 16 (ptk (vwC h) 18 p))) (hp : pOK q) (hx : 0 ≤ q.1 → (40 < x ↔ 40 < pTot (vwC h) bl 16 (ptk (vwC h) 18 p) 0) ∧ t = p.1) (hr : r = if 40 < x then pbl (vwC h) 6 t q else q) : r = pLast (vwC h) bl p := by
  unfold pLast
  rw [← hq, hr]
  by_cases hn : q.1 < 0
  · rw [pgz_neg hn hp, pbl_neg hn]
    split <;> rfl
  · obtain ⟨h1, h2⟩ := hx (by omega)
    unfold pgz pbl
    rw [if_neg hn, if_neg hn, h2]
    by_cases c : 40 < x
    · rw [if_pos c]
      by_cases c2 : q.2 = 0
      · rw [if_pos c2, if_pos ⟨c2, h1.mp c⟩]
      · rw [if_neg c2, if_neg (fun w => c2 w.1)]
    · rw [if_neg c, if_neg (fun w => c (h1.mpr w.2))]
/-- the draft of the rules: the object, how many are told -/
def DR (h : gH) : Prop := 0 ≤ hV h 30 8 ∧ hK h (hV h 30 8).toNat = 5
def RC (h : gH) : Int := hV h (hV h 30 8).toNat 0
theorem DR_fr {W : List (Nat × Nat)} {a b : gH} (le : hLe T0 a b) (f : hFr W a b) (c : vFree W 30 8 = true) (z : DR a) : DR b ∧ hV b 30 8 = hV a 30 8 := by
  have e := f.1 30 8 c
  exact ⟨⟨by rw [e]; exact z.1, by rw [e]; exact kLe le z.2 rfl⟩, e⟩
theorem RC_fr {W : List (Nat × Nat)} {a b : gH} (f : hFr W a b) (c : (vFree W 30 8 && !(vLoc W 5 0)) = true) (z : DR a) : RC b = RC a := by
  rw [Bool.and_eq_true, Bool.not_eq_true'] at c
  unfold RC
  rw [f.1 30 8 c.1]
  exact f.2.2 _ 5 z.2 rfl 0 c.2
theorem pRs_step {v : Vw} {f : Nat} {p : PS} (h : v.1 p.1 = 38 ∨ v.1 p.1 = 40) : pRs v (f + 1) p = pRs v f (ptk v 4 (if v.1 p.1 = 38 then pRight v p else pLoud v p)) := if_pos h
theorem start_st {a b : gH} (ka : TKI a) (s1 : hV b 30 1 = 0) (s2 : hV b 30 2 = kC a 0) (s3 : hV b 30 3 = 0) (s5 : hV b 30 5 = 0) (x : TKs a b) (ks : KS5 b) : KI b ∧ absC b = (0, 0) := by
  obtain ⟨v, k, u, l⟩ := TKs_v x
  refine ⟨⟨ks, TKI_of x ka, by rw [s1, s2, k], by rw [s1]; exact inT_of x ⟨by decide, by decide, by have := ka.1; omega⟩, by omega, by omega, fun _ => by omega, fun w => absurd s3 w, fun _ w => absurd s5 w⟩, ?_⟩
  rw [absC_at s3, s1, s5]
  rfl
theorem BI_zero {b : gH} (k : KB b) (e : hV b 30 13 = 0) : BI b ∧ BLc b = [] := by
  refine ⟨⟨k, by omega, by omega, fun i hi => by omega⟩, ?_⟩
  unfold BLc
  rw [e]
  rfl
theorem pLast_neg {v : Vw} {bl : List (Int × Int)} {p : PS} (hv : wOK v) (hn : p.1 < 0) (ho : pOK p) : pLast v bl p = p := by
  unfold pLast
  rw [ptk_neg (c := 18) hn ho, pCues_neg hv hn, ptk_neg hn ho, pgz_neg hn ho]
theorem pEnd_neg {v : Vw} {p : PS} (hn : p.1 < 0) (ho : pOK p) : pEnd v p = p := by
  unfold pEnd
  split
  · rfl
  · exact pfail_neg hn ho
/-- the answer and the place -/
theorem res_ok {h : gH} (z : KI h) (hf : hV h 30 3 = 0) : pRes (absC h) = hV h 30 5 ∧ (hV h 30 5 = 0 → pPlc (absC h) = -1) ∧ (¬ hV h 30 5 = 0 → pPlc (absC h) = lC h (hV h 30 6)) := by
  have y := z.2.2.2.2.2.2.1 hf
  have l := lC_in z.2.1 (hV h 30 6)
  have p := z.2.2.2.1.1
  rw [absC_at hf]
  unfold pRes pPlc
  have n : ¬ (hV h 30 1, if hV h 30 5 = 0 then (0 : Int) else 8 * lC h (hV h 30 6) + hV h 30 5).1 < 0 := by
    show ¬ hV h 30 1 < 0
    omega
  rw [if_neg n, if_neg n]
  show (if hV h 30 5 = 0 then (0 : Int) else 8 * lC h (hV h 30 6) + hV h 30 5) % 8 = _ ∧ (_ → (if (if hV h 30 5 = 0 then (0 : Int) else 8 * lC h (hV h 30 6) + hV h 30 5) = 0 then (-1 : Int) else (if hV h 30 5 = 0 then (0 : Int) else 8 * lC h (hV h 30 6) + hV h 30 5) / 8) = -1) ∧ (_ → (if (if hV h 30 5 = 0 then (0 : Int) else 8 * lC h (hV h 30 6) + hV h 30 5) = 0 then (-1 : Int) else (if hV h 30 5 = 0 then (0 : Int) else 8 * lC h (hV h 30 6) + hV h 30 5) / 8) = _)
  by_cases c : hV h 30 5 = 0
  · rw [if_pos c, c]
    exact ⟨by decide, fun _ => by decide, fun w => absurd rfl w⟩
  · rw [if_neg c]
    refine ⟨by omega, fun w => absurd w c, fun _ => ?_⟩
    rw [if_neg (by omega)]
    omega
theorem res_off {h : gH} (z : KI h) (hf : ¬ hV h 30 3 = 0) : pRes (absC h) = hV h 30 3 ∧ pPlc (absC h) = lC h (hV h 30 4) := by
  have l := lC_in z.2.1 (hV h 30 4)
  have y1 := z.2.2.2.2.1
  have y2 := z.2.2.2.2.2.1
  have n := absC_neg z hf
  unfold pRes pPlc
  rw [if_pos n, if_pos n, absC_off hf]
  show (if (-(2 * lC h (hV h 30 4) + hV h 30 3)) % 2 = 0 then (2 : Int) else 1) = _ ∧ (- -(2 * lC h (hV h 30 4) + hV h 30 3) - 1) / 2 = _
  constructor
  · split <;> omega
  · omega
theorem lC_at {h : gH} {i : Int} (z : inT h i) (y : TKI h) : lC h i = hV h 34 i.toNat := by
  have := y.2.1
  exact if_pos ⟨z.1, z.2.2, by have := z.2.1; omega⟩
