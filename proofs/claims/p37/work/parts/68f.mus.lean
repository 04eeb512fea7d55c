/-! THE SOUNDS COUPLED in full (for sounding, owed): what each is of, its first and end, SAMPLES in their bounds (hand; behind the coupled sounds, mus3). -/
def CXs (h : gH) (s : Nat) : Prop := hV h (hV h 24 s).toNat 1 = hV h 330 s ∧ hV h (hV h 24 s).toNat 2 = hV h 331 s ∧ hV h (hV h 24 s).toNat 3 = hV h 332 s ∧ (KV h s ≤ 3 → ∀ i : Nat, i < 240 → -9999 ≤ hV h 337 (240 * s + i) ∧ hV h 337 (240 * s + i) ≤ 9999)
def CX (h : gH) : Prop := (hK h 23 = 0 ∧ hK h 24 = 105 ∧ KR h ∧ hV h 23 1 ≤ 20) ∧ ∀ s : Nat, (s : Int) < hV h 23 1 → CXs h s
theorem CX_mk {a c : gH} (pc : CP a) (z : CX a) (le : hLe T0 a c) (e1 : hV c 23 1 = hV a 23 1) (e24 : hV c 24 = hV a 24) (so : ∀ o : Nat, hK a o = 7 → hV c o 0 = hV a o 0 ∧ hV c o 1 = hV a o 1 ∧ hV c o 2 = hV a o 2 ∧ hV c o 3 = hV a o 3) (m0 : hV c 330 = hV a 330) (m1 : hV c 331 = hV a 331) (m2 : hV c 332 = hV a 332) (mm : ∀ s : Nat, (s : Int) < hV a 23 1 → KV a s ≤ 3 → ∀ i : Nat, i < 240 → -9999 ≤ hV c 337 (240 * s + i) ∧ hV c 337 (240 * s + i) ≤ 9999) : CX c := by
  obtain ⟨⟨z1, z2, z3, z4⟩, z5⟩ := z
  refine ⟨⟨kLe le z1 rfl, kLe le z2 rfl, KR_le le z3, by rw [e1]; exact z4⟩, fun s hs => ?_⟩
  rw [e1] at hs
  have k7 := (pc.2.1 s hs).2.1
  obtain ⟨o0, o1, o2, o3⟩ := so _ k7
  obtain ⟨y1, y2, y3, y4⟩ := z5 s hs
  have kv : KV c s = KV a s := by
    unfold KV
    rw [e24, Int.toNat_natCast]
    exact o0
  unfold CXs
  rw [kv, e24, o1, o2, o3, m0, m1, m2]
  exact ⟨y1, y2, y3, mm s hs⟩
noncomputable def cCX (W : List (Nat × Nat)) : Bool := (vFree W 23 1 && vFreeR W 24) && (!(vLoc W 7 0) && (!(vLoc W 7 1) && (!(vLoc W 7 2) && !(vLoc W 7 3))))
noncomputable def cXR (W : List (Nat × Nat)) : Bool := vFreeR W 330 && (vFreeR W 331 && vFreeR W 332)
/-- a call that changes SAMPLES of the reference at most -/
theorem CX_ref {V : List (Nat × Nat)} {b c : gH} (pc : CP b) (z : CX b) (le : hLe T0 b c) (f : hFr V b c) (w : (cCX V && cXR V) = true) (mm : ∀ s : Nat, (s : Int) < hV b 23 1 → KV b s ≤ 3 → ∀ i : Nat, i < 240 → -9999 ≤ hV c 337 (240 * s + i) ∧ hV c 337 (240 * s + i) ≤ 9999) : CX c := by
  unfold cCX cXR at w
  simp only [Bool.and_eq_true, Bool.not_eq_true'] at w
  obtain ⟨⟨⟨c1, c2⟩, d0, d1, d2, d3⟩, r0, r1, r2⟩ := w
  exact CX_mk pc z le (f.1 23 1 c1) (fRow f 24 c2) (fun o k => ⟨f.2.2 o 7 k rfl 0 d0, f.2.2 o 7 k rfl 1 d1, f.2.2 o 7 k rfl 2 d2, f.2.2 o 7 k rfl 3 d3⟩) (fRow f 330 r0) (fRow f 331 r1) (fRow f 332 r2) mm
theorem CX_fr {V : List (Nat × Nat)} {b c : gH} (le : hLe T0 b c) (f : hFr V b c) (w : (cCX V && (cXR V && vFreeR V 337)) = true) (pc : CP b) (z : CX b) : CX c := by
  rw [Bool.and_eq_true, Bool.and_eq_true] at w
  obtain ⟨w1, w2, w3⟩ := w
  refine CX_ref pc z le f (by rw [w1, w2]; rfl) (fun s hs h3 i hi => ?_)
  rw [fRow f 337 w3]
  exact (z.2 s hs).2.2.2 h3 i hi
theorem CX_fr2 {W V : List (Nat × Nat)} {a b c : gH} (le1 : hLe T0 a b) (f1 : hFr W a b) (w1 : (cCX W && (cXR W && vFreeR W 337)) = true) (le2 : hLe T0 b c) (f2 : hFr V b c) (w2 : (cCX V && (cXR V && vFreeR V 337)) = true) (pc : CP a) (z : CX a) : CX c := by
  unfold cCX cXR at w1 w2
  simp only [Bool.and_eq_true, Bool.not_eq_true'] at w1 w2
  obtain ⟨⟨⟨c1, c2⟩, d0, d1, d2, d3⟩, ⟨r0, r1, r2⟩, r3⟩ := w1
  obtain ⟨⟨⟨g1, g2⟩, e0, e1, e2, e3⟩, ⟨s0, s1, s2⟩, s3⟩ := w2
  refine CX_mk pc z (hLe.trans le1 le2) ((f2.1 23 1 g1).trans (f1.1 23 1 c1)) ((fRow f2 24 g2).trans (fRow f1 24 c2)) (fun o k => ?_) ((fRow f2 330 s0).trans (fRow f1 330 r0)) ((fRow f2 331 s1).trans (fRow f1 331 r1)) ((fRow f2 332 s2).trans (fRow f1 332 r2)) (fun s hs h3 i hi => ?_)
  · have kb := kLe le1 k rfl
    exact ⟨(f2.2.2 o 7 kb rfl 0 e0).trans (f1.2.2 o 7 k rfl 0 d0), (f2.2.2 o 7 kb rfl 1 e1).trans (f1.2.2 o 7 k rfl 1 d1), (f2.2.2 o 7 kb rfl 2 e2).trans (f1.2.2 o 7 k rfl 2 d2), (f2.2.2 o 7 kb rfl 3 e3).trans (f1.2.2 o 7 k rfl 3 d3)⟩
  · rw [(fRow f2 337 s3).trans (fRow f1 337 r3)]
    exact (z.2 s hs).2.2.2 h3 i hi
theorem CX_wave {V : List (Nat × Nat)} {b c : gH} {x i j v s : Int} (pc : CP b) (z : CX b) (le : hLe T0 b c) (f : hFr V b c) (w : (cCX V && cXR V) = true) (q : (WVm b x i j v s ∧ hV c 337 = wvF (hV b 337) (240 * x) i j v s) ∨ (¬ WVm b x i j v s ∧ hV c 337 = hV b 337)) : CX c := by
  refine CX_ref pc z le f w (fun t ht h3 k hk => ?_)
  have old := (z.2 t ht).2.2.2 h3 k hk
  rcases q with ⟨q1, q2⟩ | ⟨_, q2⟩
  · obtain ⟨_, _, _, _, g1, g2, _, g4, g5, g6, g7⟩ := q1
    rw [q2]
    unfold wvF
    by_cases cc : 240 * x + i ≤ ((240 * t + k : Nat) : Int) ∧ ((240 * t + k : Nat) : Int) < 240 * x + j
    · rw [if_pos cc]
      have wi := wave_in (k := ((240 * t + k : Nat) : Int) - 240 * x - i) g4 g5 g6 g7 (by omega) (by omega)
      exact wi.2.2
    · rw [if_neg cc]
      exact old
  · rw [q2]
    exact old
theorem CX_sample {V : List (Nat × Nat)} {b c : gH} {r x y v : Int} (pc : CP b) (z : CX b) (le : hLe T0 b c) (f : hFr V b c) (w : (cCX V && cXR V) = true) (p : (SMm b x y v ∧ r = 1) ∨ (¬ SMm b x y v ∧ r = 0)) (q : (r = 1 ∧ hV c 337 = uF (hV b 337) (240 * x + y) v) ∨ (r = 0 ∧ hV c 337 = hV b 337)) : CX c := by
  refine CX_ref pc z le f w (fun t ht h3 k hk => ?_)
  have old := (z.2 t ht).2.2.2 h3 k hk
  rcases q with ⟨q1, q2⟩ | ⟨_, q2⟩
  · have g := (p.resolve_right (fun w => by omega)).1
    rw [q2, uF_at]
    by_cases cc : ((240 * t + k : Nat) : Int) = 240 * x + y
    · rw [if_pos cc]
      exact g.2.2.2.2.2.2
    · rw [if_neg cc]
      exact old
  · rw [q2]
    exact old
theorem CX_make {V : List (Nat × Nat)} {b c : gH} (pc : CP b) (z : CX b) (le : hLe T0 b c) (f : hFr V b c) (w : (cCX V && cXR V) = true) (q : KSm (hV b 285 64) (hV b 328) (hV b 337) (hV c 337)) : CX c := by
  refine CX_ref pc z le f w (fun t ht h3 k hk => ?_)
  have kd := (pc.2.1 t ht).2.2.1
  rw [q (240 * t + k) (fun e => by
    rw [show (240 * t + k) / 240 = t by omega, ← kd] at e
    omega)]
  exact (z.2 t ht).2.2.2 h3 k hk
/-- a SOUND more -/
theorem CX_add {W V : List (Nat × Nat)} {a b c : gH} {r k sz mn r' x y src : Int} {C D : Prop} (pc : CP a) (cq : CQ a) (z : CX a) (le1 : hLe T0 a b) (f1 : hFr W a b) (c1 : (vFree W 285 64 && (cXR W && (vFreeR W 337 && (!(vLoc W 7 0) && (!(vLoc W 7 1) && (!(vLoc W 7 2) && !(vLoc W 7 3))))))) = true) (p : (C ∧ ADDp r k sz a b) ∨ (¬ C ∧ r = -1 ∧ SAMEp a b)) (ad : ADS r x y a b) (ad3 : r = -1 ∨ hV b (hV b 24 r.toNat).toNat 3 = src) (le2 : hLe T0 b c) (f2 : hFr V b c) (c2 : (cCX V && vFreeR V 337) = true) (q : (D ∧ hV b 285 64 ≤ 19 ∧ ADDm r' k mn (hV b 285 64) (hV c 285 64) (hV b 328) (hV b 338) (hV b 329) (hV c 328) (hV c 338) (hV c 329)) ∨ (¬ (D ∧ hV b 285 64 ≤ 19) ∧ r' = -1 ∧ SAMm (hV b 285 64) (hV c 285 64) (hV b 328) (hV b 338) (hV b 329) (hV c 328) (hV c 338) (hV c 329))) (fl : FLm r' x y (hV b 285 64) (hV b 330) (hV b 331) (hV c 330) (hV c 331)) (ra : RAD r' src b c) (h : C ↔ D) : CX c := by
  unfold cXR at c1
  unfold cCX at c2
  simp only [Bool.and_eq_true, Bool.not_eq_true'] at c1 c2
  obtain ⟨c0, ⟨r0, r1, r2⟩, r7, d0, d1, d2, d3⟩ := c1
  obtain ⟨⟨⟨g1, g2⟩, v0, v1, v2, v3⟩, v7⟩ := c2
  have e3 : hV b 285 64 = hV a 285 64 := f1.1 285 64 c0
  have z1 := pc.1
  have b30 : hV b 330 = hV a 330 := fRow f1 330 r0
  have b31 : hV b 331 = hV a 331 := fRow f1 331 r1
  have b32 : hV b 332 = hV a 332 := fRow f1 332 r2
  have m7 : hV c 337 = hV a 337 := (fRow f2 337 v7).trans (fRow f1 337 r7)
  have e1 : hV c 23 1 = hV b 23 1 := f2.1 23 1 g1
  have e2 : hV c 24 = hV b 24 := fRow f2 24 g2
  obtain ⟨⟨y1, y2, y3, y4⟩, y5⟩ := z
  have hd : hK c 23 = 0 ∧ hK c 24 = 105 ∧ KR c := ⟨kLe le2 (kLe le1 y1 rfl) rfl, kLe le2 (kLe le1 y2 rfl) rfl, KR_le le2 (KR_le le1 y3)⟩
  -- an old one
  have old : ∀ s : Nat, (s : Int) < hV a 23 1 → hV b 24 s = hV a 24 s → hV c 330 s = hV a 330 s → hV c 331 s = hV a 331 s → hV c 332 s = hV a 332 s → CXs c s := fun s hs he w0 w1 w2 => by
    have k7 := (pc.2.1 s hs).2.1
    have kb : hK b (hV a 24 s).toNat = 7 := kLe le1 k7 rfl
    obtain ⟨x1, x2, x3, x4⟩ := y5 s hs
    have sl : ∀ j : Nat, vLoc W 7 j = false → vLoc V 7 j = false → hV c (hV a 24 s).toNat j = hV a (hV a 24 s).toNat j := fun j p1 p2 => (f2.2.2 _ 7 kb rfl j p2).trans (f1.2.2 _ 7 k7 rfl j p1)
    have kv : KV c s = KV a s := by
      unfold KV
      rw [e2, Int.toNat_natCast, he]
      exact sl 0 d0 v0
    unfold CXs
    rw [kv, e2, he, sl 1 d1 v1, sl 2 d2 v2, sl 3 d3 v3, w0, w1, w2, m7]
    exact ⟨x1, x2, x3, x4⟩
  have same : hV b 23 1 = hV a 23 1 → hV b 24 = hV a 24 → r' = -1 → CX c := fun p1 p2 hr => by
    have w1 : hV c 330 = hV b 330 ∧ hV c 331 = hV b 331 := by
      rcases fl with ⟨_, f3, f4⟩ | ⟨f3, _⟩
      · exact ⟨f3, f4⟩
      · omega
    have w2 : hV c 332 = hV b 332 := by
      rcases ra with ⟨_, f3, _⟩ | ⟨f3, _⟩
      · exact f3
      · omega
    refine ⟨⟨hd.1, hd.2.1, hd.2.2, by rw [e1, p1]; exact y4⟩, fun s hs => ?_⟩
    rw [e1, p1] at hs
    exact old s hs (by rw [p2]) (by rw [w1.1, b30]) (by rw [w1.2, b31]) (by rw [w2, b32])
  rcases p with ⟨hc, p⟩ | ⟨hc, p1, p2⟩
  · rcases p with ⟨p1, p2, p3, p4⟩ | ⟨p1, p0, p2, p3, p4, p5, p6, p7, p8, p9, p10⟩
    · rcases q with ⟨_, q1, _⟩ | ⟨_, q2, q3⟩
      · omega
      · exact same p3 p4 q2
    · rcases q with ⟨_, q1, q2⟩ | ⟨q1, _⟩
      · have rr : r' = r := by have := q2.1; omega
        have n0 : hV b 285 64 = r := by omega
        have ff : hV c 330 = uF (hV a 330) r x ∧ hV c 331 = uF (hV a 331) r y := by
          rcases fl with ⟨f3, _⟩ | ⟨_, _, f3, f4⟩
          · omega
          · rw [n0, b30] at f3
            rw [n0, b31] at f4
            exact ⟨f3, f4⟩
        have f32 : hV c 332 = uF (hV a 332) r src := by
          rcases ra with ⟨f3, _⟩ | ⟨_, _, f3, _⟩
          · omega
          · rw [rr, b32] at f3
            exact f3
        refine ⟨⟨hd.1, hd.2.1, hd.2.2, by omega⟩, fun s hs => ?_⟩
        rw [e1, p3] at hs
        by_cases hsr : (s : Int) = r
        · have hn : hV b 24 s = hV b 24 r.toNat := by rw [show r.toNat = s by omega]
          obtain ⟨_, _, nx, ny⟩ := ad.resolve_left (by omega)
          have ns := ad3.resolve_left (by omega)
          have sl : ∀ j : Nat, vLoc V 7 j = false → hV c (hV b 24 r.toNat).toNat j = hV b (hV b 24 r.toNat).toNat j := fun j p2 => f2.2.2 _ 7 p6 rfl j p2
          unfold CXs
          rw [e2, hn, sl 1 v1, sl 2 v2, sl 3 v3, nx, ny, ns, ff.1, ff.2, f32, uF_at, uF_at, uF_at, if_pos hsr, if_pos hsr, if_pos hsr, m7]
          refine ⟨rfl, rfl, rfl, fun _ i hi => ?_⟩
          rw [cq.2 (240 * s + i) (by omega)]
          omega
        · have lo : (s : Int) < hV a 23 1 := by omega
          exact old s lo (by rw [p4, uF_at, if_neg hsr]) (by rw [ff.1, uF_at, if_neg hsr]) (by rw [ff.2, uF_at, if_neg hsr]) (by rw [f32, uF_at, if_neg hsr])
      · exact absurd ⟨h.mp hc, by omega⟩ q1
  · rcases q with ⟨hD, _⟩ | ⟨_, q2, q3⟩
    · exact absurd (h.mpr hD) hc
    · exact same p2.1 p2.2 q2
/-- both told alike -/
theorem SNC_of {h : gH} (pc : CP h) (cs : CS h) (cq : CQ h) (cx : CX h) (so : SO h) : SNC h (RE h) := by
  obtain ⟨⟨x1, x2, x3, x4⟩, x5⟩ := cx
  have z1 := pc.1
  have kd : ∀ s : Nat, (s : Int) < hV h 23 1 → hV h (hV h 24 s).toNat 0 = hV h 328 s := fun s hs => by
    have w := (pc.2.1 s hs).2.2.1
    unfold KV at w
    rw [Int.toNat_natCast] at w
    exact w
  have sm : ∀ s : Nat, (s : Int) < hV h 23 1 → hV h 328 s ≤ 3 → hV h 329 s ≤ 240 := fun s hs h3 => by
    have w := (cq.1 s hs).2.2.2.2
    unfold KV at w
    rw [Int.toNat_natCast, kd s hs] at w
    have w1 := (w h3).1
    omega
  have kv : ∀ s : Nat, (s : Int) < hV h 23 1 → KV h s = hV h 328 s := fun s hs => (pc.2.1 s hs).2.2.1
  refine ⟨z1, ⟨by show hV h 285 64 ≤ 20; omega, fun s hs => ?_⟩, fun s hs => ?_, x1, x2⟩
  · have hs' : (s : Int) < hV h 285 64 := hs
    exact ⟨(so s hs').1, fun h3 => ⟨sm s (by omega) h3, (x5 s (by omega)).2.2.2 (by rw [kv s (by omega)]; exact h3)⟩⟩
  · have hs' : (s : Int) < hV h 285 64 := hs
    have ha : (s : Int) < hV h 23 1 := by omega
    obtain ⟨y1, y2, _, _⟩ := pc.2.1 s ha
    obtain ⟨u1, u2, u3, _⟩ := x5 s ha
    refine ⟨y1, y2, kd s ha, u1, u2, u3, fun h3 => ?_⟩
    have h3' : hV h 328 s ≤ 3 := h3
    have k3 : KV h s ≤ 3 := by rw [kv s ha]; exact h3'
    have w := (cs s ha).2
    have w6 := (w.resolve_left (by omega)).2 k3
    unfold SV at w6
    rw [Int.toNat_natCast] at w6
    obtain ⟨q1, q2, q3, _, q5⟩ := cq.1 s ha
    unfold RW at q1 q2 q3 q5
    rw [Int.toNat_natCast] at q1 q2 q3 q5
    exact ⟨w6, by omega, q2, q3, (q5 k3).2⟩
/-- the CUES of both, as they are now -/
theorem LR_same {h : gH} {pg : Nat} {D : List (List CR)} {S : List CR} {T : Int → Int} (z : KPT h pg D S) (v : VL (drf D S) D.length) (t : ZT (drf D S) T D.length) {mk : Nat → Int} (b : ∀ k : Nat, 0 ≤ mk k ∧ mk k ≤ 60) : (pU (drf D S) T 7 6 (-1) 0).map (lrW mk) = lrL h mk (flS (hV h 296) (hV h 298) (hV h 300) (hV h 301) (hV h 302) mk (7 * pg) 7 6 0) := by
  have en := congrArg (List.map lrN) (SH_len z v t mk)
  rw [List.map_map, List.map_map] at en
  have e1 : (pU (drf D S) T 7 6 (-1) 0).map (lrW mk) = (pU (drf D S) T 7 6 (-1) 0).map (lrN ∘ nowC mk) := List.map_congr_left fun p hp => lrW_N (pU_ok v (n := 6) (Nat.le_refl _) (.inr rfl) (by decide) (by decide) (by decide) (by decide) hp) b
  rw [e1, en]
  rfl
theorem LR_bd {h : gH} {pg : Nat} {D : List (List CR)} {S : List CR} {T : Int → Int} (z : KPT h pg D S) (v : VL (drf D S) D.length) (t : ZT (drf D S) T D.length) {mk : Nat → Int} (b : ∀ k : Nat, 0 ≤ mk k ∧ mk k ≤ 60) (g : PGs (hV h 294) (hV h 296) (hV h 298) (hV h 300) (hV h 301) (hV h 302) (hV h 303) (hV h 305) pg) : ∀ c, c ∈ (pU (drf D S) T 7 6 (-1) 0).map (lrW mk) → FBc c := fun c hc k0 => by
  refine ⟨?_, ?_⟩
  · obtain ⟨q, q1, q2⟩ := List.mem_map.mp hc
    have ek := pU_ok v (n := 6) (Nat.le_refl _) (.inr rfl) (by decide) (by decide) (by decide) (by decide) q1
    rw [lrW_N ek b] at q2
    by_cases k : q.1 = 0
    · have e : lrN (nowC mk q) = (0, q.2.2.1, nw mk q.2.2.2.1 q.2.2.2.2.1, q.2.2.2.2.2.2.2.1, q.2.2.2.2.2.2.2.2.1, q.2.2.2.2.2.2.2.2.2.1, q.2.2.2.2.2.2.2.2.2.2.1, q.2.2.2.2.2.2.2.2.2.2.2) := if_pos k
      rw [← q2, e]
      show -30000 ≤ nw mk q.2.2.2.1 q.2.2.2.2.1 ∧ nw mk q.2.2.2.1 q.2.2.2.2.1 ≤ 30000
      have f1 := ek.2.2.2.2.1
      unfold nw
      by_cases m : q.2.2.2.1 = -1
      · rw [if_pos m]
        omega
      · rw [if_neg m]
        have bm := b (q.2.2.2.1).toNat
        omega
    · have e : lrN (nowC mk q) = (1, 0, 0, 0, 0, 0, 0, 0) := if_neg k
      rw [← q2, e] at k0
      exact absurd k0 (by decide)
  · rw [LR_same z v t b] at hc
    obtain ⟨p, p1, p2⟩ := List.mem_map.mp hc
    have m2 := List.mem_map_of_mem (f := Prod.fst) p1
    rw [flS_fst] at m2
    have w := (fl_good g 7 6 (.inr rfl) m2).1
    by_cases k : hV h 298 p.1 = 0
    · rw [lrN_R (mk := mk) (sh := p.2) k] at p2
      rw [← p2]
      exact (w.2.1 k).2.2.1
    · rw [lrN_no (mk := mk) (sh := p.2) k] at p2
      rw [← p2] at k0
      exact absurd k0 (by decide)
noncomputable def cSQ (W : List (Nat × Nat)) : Bool := (cRC W && (vFreeR W 340 && (vFreeR W 293 && vFree W 285 60))) && (cRE W && (cRM W && (vFreeR W 325 && vFreeR W 327)))
/-- sounding answers alike -/
theorem SND_eq {W : List (Nat × Nat)} {a b : gH} {r1 r2 s mu e : Int} (cp : CPL a) (sc : SHC a) (mk : MKS a) (z : SNC a (RE a)) (kr : KR a) (pg : PG a) (f : hFr W a b) (c : cSQ W = true) (pa : ∀ E : SE, SNC a E → K25 a → KR a → KM a → MT (mC a) → K79 a → SK6 a → (¬ ((0 ≤ s ∧ s < hV a 7 4) ∧ (0 ≤ mu ∧ mu < E.1 ∧ E.2.1 (mu).toNat = 3) ∧ 0 ≤ e ∧ e < hV a 19 3 ∧ (hV a (hV a 9 (s).toNat).toNat 0) ≤ e) → r1 = -1) ∧ (((0 ≤ s ∧ s < hV a 7 4) ∧ (0 ≤ mu ∧ mu < E.1 ∧ E.2.1 (mu).toNat = 3) ∧ 0 ≤ e ∧ e < hV a 19 3 ∧ (hV a (hV a 9 (s).toNat).toNat 0) ≤ e) → ∀ D : List CR, SHL a (hV a 9 (s).toNat).toNat D → (∀ c, c ∈ (D.map (lrW (hV a 25))) → FBc c) → 0 ≤ (hV a (hV a 9 (s).toNat).toNat 0) → r1 = SNDf E (D.map (lrW (hV a 25))) mu (hV a 20 (hV a (hV a 9 (s).toNat).toNat 0).toNat) (hV a 22) (hV a (hV a 9 (s).toNat).toNat 0) e (hV a 20 (e).toNat))) (pb : (¬ (((0 ≤ s ∧ s < hV b 285 18) ∧ 0 ≤ e ∧ e < hV b 285 60 ∧ hV b 293 (s).toNat ≤ e) ∧ 0 ≤ mu ∧ mu < hV b 285 64 ∧ hV b 328 (mu).toNat = 3) → r2 = -1) ∧ ((((0 ≤ s ∧ s < hV b 285 18) ∧ 0 ≤ e ∧ e < hV b 285 60 ∧ hV b 293 (s).toNat ≤ e) ∧ 0 ≤ mu ∧ mu < hV b 285 64 ∧ hV b 328 (mu).toNat = 3) → 0 ≤ (hV b 293 (s).toNat) ∧ (SEok (RE b) → MT (mR b) → (∀ c, c ∈ (lrL b (hV b 340) (flS (hV b 296) (hV b 298) (hV b 300) (hV b 301) (hV b 302) (hV b 340) (7 * (s).toNat) 7 6 0)) → FBc c) → r2 = SNDf (RE b) (lrL b (hV b 340) (flS (hV b 296) (hV b 298) (hV b 300) (hV b 301) (hV b 302) (hV b 340) (7 * (s).toNat) 7 6 0)) mu (hV b 325 (hV b 293 (s).toNat).toNat) (hV b 327) (hV b 293 (s).toNat) e (hV b 325 (e).toNat)))) : r2 = r1 := by
  unfold cSQ at c
  rw [Bool.and_eq_true] at c
  obtain ⟨ca, cb⟩ := c
  simp only [Bool.and_eq_true] at ca cb
  obtain ⟨c0, c340, c293, c60⟩ := ca
  obtain ⟨cre, crm, c325, c327⟩ := cb
  unfold cRC at c0
  simp only [Bool.and_eq_true] at c0
  obtain ⟨c1, c2, c3⟩ := c0
  obtain ⟨e4, e3, m1, m2⟩ := CPL_s cp
  have er := RE_fr f cre
  have x64 : hV b 285 64 = hV a 285 64 := congrArg (fun E : SE => E.1) er
  have x328 : hV b 328 = hV a 328 := congrArg (fun E : SE => E.2.1) er
  obtain ⟨y1, y2, y3, y4, y5, y6, y7, y8⟩ := CR8_fr f c3
  have el : ∀ L : List (Nat × Int), lrL b (hV a 340) L = lrL a (hV a 340) L := fun L => List.map_congr_left fun p _ => by rw [recR_fr f c3 p.1]
  rw [er, f.1 285 18 c1, f.1 285 60 c60, x64, x328, fRow f 293 c293, fRow f 296 c2, y1, y3, y4, y5, fRow f 340 c340, fRow f 325 c325, fRow f 327 c327, el, (mR_fr f crm).1] at pb
  obtain ⟨k1, k2, k3⟩ := mk
  have h20 : hV a 20 = hV a 325 := congrArg (fun m : MXS => m.2.2.2.2.2.1) cp.1
  have h22 : hV a 22 = hV a 327 := congrArg (fun m : MXS => m.2.2.2.2.2.2.2.1) cp.1
  have s6 : SK6 a := fun t ht => by
    obtain ⟨o, o1, o2, tt⟩ := sc.2.2.2 t ht
    rw [o1, Int.toNat_natCast]
    exact ⟨Int.natCast_nonneg o, SHT_at tt⟩
  obtain ⟨p1, p2⟩ := pa (RE a) z k1 kr cp.2.2.2.2.1 cp.2.1 sc.2.1 s6
  by_cases hs : 0 ≤ s ∧ s < hV a 7 4
  · obtain ⟨o, o1, o2, D, S, T, kp, vl, zt, sl⟩ := sc.2.2.2 s.toNat (by omega)
    have d0 : hV a (hV a 9 s.toNat).toNat 0 = hV a 293 s.toNat := by
      rw [o1, Int.toNat_natCast]
      exact o2
    rw [d0] at p1 p2
    by_cases hq : (0 ≤ mu ∧ mu < hV a 285 64 ∧ hV a 328 mu.toNat = 3) ∧ 0 ≤ e ∧ e < hV a 19 3 ∧ hV a 293 s.toNat ≤ e
    · have q1 : ((0 ≤ s ∧ s < hV a 7 4) ∧ (0 ≤ mu ∧ mu < (RE a).1 ∧ (RE a).2.1 mu.toNat = 3) ∧ 0 ≤ e ∧ e < hV a 19 3 ∧ hV a 293 s.toNat ≤ e) := ⟨hs, hq.1, hq.2⟩
      have q2 : ((0 ≤ s ∧ s < hV a 285 18) ∧ 0 ≤ e ∧ e < hV a 285 60 ∧ hV a 293 s.toNat ≤ e) ∧ 0 ≤ mu ∧ mu < hV a 285 64 ∧ hV a 328 mu.toNat = 3 := ⟨⟨⟨hs.1, by omega⟩, hq.2.1, by omega, hq.2.2.2⟩, hq.1⟩
      have sl2 : SHL a (hV a 9 s.toNat).toNat (pU (drf D S) T 7 6 (-1) 0) := by
        rw [o1, Int.toNat_natCast]
        exact sl
      have P := pg s.toNat (by omega)
      have fb := LR_bd kp vl zt (mk := hV a 340) k3 P
      have ls := LR_same kp vl zt (mk := hV a 340) k3
      obtain ⟨dd, a2⟩ := pb.2 q2
      have a1 := p2 q1 _ sl2 (by rw [k2]; exact fb) dd
      have a2 := a2 z.2.1 (by rw [← cp.1]; exact cp.2.1) (by rw [← ls]; exact fb)
      rw [a1, a2, k2, ls, h20, h22]
    · rw [p1 (fun w => hq ⟨w.2.1, w.2.2⟩), pb.1 (fun w => hq ⟨w.2, w.1.2.1, by omega, w.1.2.2.2⟩)]
  · rw [p1 (fun w => hs w.1), pb.1 (fun w => hs ⟨w.1.1.1, by omega⟩)]
