/-! WHAT LEANS ON WHAT, COUPLED (hand; behind leans, the coupled sounds' definitions and the sheets). -/
def LYe (E : List CR) (j : Nat) : Prop := ∃ r, r ∈ E ∧ r.1 = 0 ∧ r.2.2.1 = (j : Int)
theorem lyM_bts : ∀ {E : List CR} {L : Int} {p : Nat → Prop}, BTS L p → (∀ r, r ∈ E → r.1 = 0 → 0 ≤ r.2.2.1 ∧ r.2.2.1 ≤ 31) → BTS (E.foldl lyM L) (fun j => p j ∨ LYe E j)
  | [], _, _, h, _ => BTS_congr h fun j _ => by
    refine ⟨fun z => .inl z, fun z => ?_⟩
    rcases z with z | ⟨r, hr, _⟩
    · exact z
    · cases hr
  | r :: l, L, p, h, b => by
    have st : BTS (lyM L r) (fun j => p j ∨ (r.1 = 0 ∧ r.2.2.1 = (j : Int))) := by
      unfold lyM
      by_cases c : r.1 = 0
      · have w := b r (List.mem_cons_self) c
        rw [if_pos c]
        intro j hj
        rw [bt_or, Bool.or_eq_true, h j hj, bt_shl rfl rfl w.1 (by omega) hj]
        refine ⟨fun z => ?_, fun z => ?_⟩
        · rcases z with z | z
          · exact .inl z
          · exact .inr ⟨c, z.symm⟩
        · rcases z with z | z
          · exact .inl z
          · exact .inr z.2.symm
      · rw [if_neg c]
        intro j hj
        rw [h j hj]
        refine ⟨fun z => .inl z, fun z => ?_⟩
        rcases z with z | z
        · exact z
        · exact absurd z.1 c
    have q := lyM_bts st (fun t ht => b t (List.mem_cons_of_mem _ ht))
    rw [List.foldl_cons]
    refine BTS_congr q fun j _ => ?_
    unfold LYe
    refine ⟨fun z => ?_, fun z => ?_⟩
    · rcases z with (z | z) | ⟨t, t1, t2⟩
      · exact .inl z
      · exact .inr ⟨r, List.mem_cons_self, z⟩
      · exact .inr ⟨t, List.mem_cons_of_mem _ t1, t2⟩
    · rcases z with z | ⟨t, t1, t2⟩
      · exact .inl (.inl z)
      · rcases List.mem_cons.mp t1 with e | t1
        · exact .inl (.inr (e ▸ t2))
        · exact .inr ⟨t, t1, t2⟩
/-- what a SHEET lays: the class's list, the reference's -/
theorem LY_same {h : gH} {pg : Nat} {D : List (List CR)} {S : List CR} {T : Int → Int} (z : KPT h pg D S) (v : VL (drf D S) D.length) (t : ZT (drf D S) T D.length) (j : Nat) : LYe (pU (drf D S) T 7 6 (-1) 0) j ↔ RLY h pg j := by
  have e := SH_len z v t (hV h 340)
  have f := flS_fst (pm := hV h 296) (cs := hV h 298) (cw := hV h 300) (cm := hV h 301) (ca := hV h 302) (mk := hV h 340) (base := 7 * pg) (n := 7) (b := 6) (s := 0)
  unfold LYe RLY LYp
  refine ⟨fun w => ?_, fun w => ?_⟩
  · obtain ⟨r, r1, r2, r3⟩ := w
    have m := List.mem_map_of_mem (f := nowC (hV h 340)) r1
    rw [e] at m
    obtain ⟨p, p1, p2⟩ := List.mem_map.mp m
    have k1 : hV h 298 p.1 = r.1 := congrArg (fun y : CR => y.1) p2
    have k2 : hV h 300 p.1 = r.2.2.1 := congrArg (fun y : CR => y.2.2.1) p2
    have m2 := List.mem_map_of_mem (f := Prod.fst) p1
    rw [f] at m2
    exact ⟨p.1, m2, by rw [k1]; exact r2, by rw [k2]; exact r3⟩
  · obtain ⟨c, c1, c2, c3⟩ := w
    rw [← f] at c1
    obtain ⟨p, p1, p2⟩ := List.mem_map.mp c1
    have m := List.mem_map_of_mem (f := fun p : Nat × Int => nowR (hV h 340) (recR h p.1, p.2)) p1
    rw [← e] at m
    obtain ⟨r, r1, r2⟩ := List.mem_map.mp m
    have k1 : r.1 = hV h 298 p.1 := congrArg (fun y : CR => y.1) r2
    have k2 : r.2.2.1 = hV h 300 p.1 := congrArg (fun y : CR => y.2.2.1) r2
    rw [p2] at k1 k2
    exact ⟨r, r1, by rw [k1]; exact c2, by rw [k2]; exact c3⟩
/-- the mask of a SHEET of the class -/
theorem SH_ly {h : gH} {s : Nat} (sc : SHC h) (pg : PG h) (e : hV h 7 4 = hV h 285 18) (hs : (s : Int) < hV h 7 4) : 0 ≤ hV h 9 s ∧ hK h (hV h 9 s).toNat = 6 ∧ hV h (hV h 9 s).toNat 0 = hV h 293 s ∧ BTS (hV h (hV h 9 s).toNat 3) (RLY h s) := by
  obtain ⟨o, o1, o2, D, S, T, kp, vl, zt, sl⟩ := sc.2.2.2 s hs
  rw [o1, Int.toNat_natCast]
  refine ⟨Int.natCast_nonneg o, sl.1, o2, ?_⟩
  rw [sl.2.2.2.2.2.1]
  have P := pg s (by omega)
  have b : ∀ r, r ∈ pU (drf D S) T 7 6 (-1) 0 → r.1 = 0 → 0 ≤ r.2.2.1 ∧ r.2.2.1 ≤ 31 := fun r r1 r2 => by
    have m := List.mem_map_of_mem (f := nowC (hV h 340)) r1
    rw [SH_len kp vl zt (hV h 340)] at m
    obtain ⟨p, p1, p2⟩ := List.mem_map.mp m
    have k1 : hV h 298 p.1 = r.1 := congrArg (fun y : CR => y.1) p2
    have k2 : hV h 300 p.1 = r.2.2.1 := congrArg (fun y : CR => y.2.2.1) p2
    have m2 := List.mem_map_of_mem (f := Prod.fst) p1
    rw [flS_fst] at m2
    have g := ((fl_good P 7 6 (.inr rfl) m2).1).2.1 (by rw [k1]; exact r2)
    omega
  have q := lyM_bts (L := 0) (p := fun _ => False) (fun j _ => by rw [bt_zero]; exact ⟨fun z => (nomatch z), fun z => z.elim⟩) b
  refine BTS_congr q fun j _ => ?_
  rw [LY_same kp vl zt j]
  exact ⟨fun z => z.elim False.elim id, .inr⟩
/-- one SOUND of both -/
def LKp (h : gH) (s : Nat) : Prop := ((hV h 328 s = 4 ∨ hV h 328 s = 5) ∧ hV h (hV h 24 s).toNat 10 = -1 ∧ hV h (hV h 24 s).toNat 3 = hV h 332 s) ∨ (hV h 328 s = 6 ∧ hV h (hV h 24 s).toNat 3 = -1 ∧ ((hV h 335 s = -1 ∧ hV h (hV h 24 s).toNat 10 = -1) ∨ (0 ≤ hV h 335 s ∧ hV h 335 s < hV h 7 4 ∧ hV h (hV h 24 s).toNat 10 = hV h 9 (hV h 335 s).toNat))) ∨ (hV h 328 s < 4 ∧ hV h (hV h 24 s).toNat 3 = -1 ∧ hV h (hV h 24 s).toNat 10 = -1)
def LKo (h : gH) (s : Nat) : Prop := 0 ≤ hV h 24 s ∧ hK h (hV h 24 s).toNat = 7 ∧ hV h (hV h 24 s).toNat 0 = hV h 328 s
/-- all SOUNDS of both -/
def LKC (h : gH) : Prop := hV h 23 1 = hV h 285 64 ∧ hV h 23 1 ≤ 20 ∧ K28 h ∧ (∀ s : Nat, (s : Int) < hV h 23 1 → LKo h s ∧ LKp h s) ∧ ∀ s t : Nat, (s : Int) < hV h 23 1 → (t : Int) < hV h 23 1 → hV h 24 s = hV h 24 t → s = t
noncomputable def cKS (W : List (Nat × Nat)) : Bool := !(vLoc W 7 0) && (!(vLoc W 7 3) && !(vLoc W 7 10))
/-- what a method of the class keeps of the reference and of the SHEETS -/
noncomputable def cKX (W : List (Nat × Nat)) : Bool := vFree W 285 64 && (vFreeR W 328 && (vFreeR W 332 && (vFreeR W 335 && (vFree W 7 4 && vFreeR W 9))))
/-- what a method of the reference keeps of the class -/
noncomputable def cKY (W : List (Nat × Nat)) : Bool := vFree W 23 1 && (vFreeR W 24 && (vFree W 7 4 && vFreeR W 9))
theorem LKo_at {W : List (Nat × Nat)} {a b : gH} {s t : Nat} (le : hLe T0 a b) (f : hFr W a b) (c : cKS W = true) (e : hV b 24 s = hV a 24 t) (k : hK a (hV a 24 t).toNat = 7) : hK b (hV b 24 s).toNat = 7 ∧ hV b (hV b 24 s).toNat 0 = hV a (hV a 24 t).toNat 0 ∧ hV b (hV b 24 s).toNat 3 = hV a (hV a 24 t).toNat 3 ∧ hV b (hV b 24 s).toNat 10 = hV a (hV a 24 t).toNat 10 := by
  unfold cKS at c
  simp only [Bool.and_eq_true, Bool.not_eq_true'] at c
  obtain ⟨c1, c2, c3⟩ := c
  rw [e]
  exact ⟨kLe le k rfl, f.2.2 _ 7 k rfl 0 c1, f.2.2 _ 7 k rfl 3 c2, f.2.2 _ 7 k rfl 10 c3⟩
theorem LKC_fr {W : List (Nat × Nat)} {a b : gH} (le : hLe T0 a b) (f : hFr W a b) (c : (cKS W && (cKX W && cKY W)) = true) (z : LKC a) : LKC b := by
  simp only [Bool.and_eq_true] at c
  obtain ⟨c0, c1, c2⟩ := c
  unfold cKX at c1
  unfold cKY at c2
  simp only [Bool.and_eq_true] at c1 c2
  obtain ⟨x1, x2, x3, x4, x5, x6⟩ := c1
  obtain ⟨y1, y2, _, _⟩ := c2
  have e1 : hV b 23 1 = hV a 23 1 := f.1 23 1 y1
  have e2 : hV b 24 = hV a 24 := fRow f 24 y2
  obtain ⟨z1, z2, z3, z4, z5⟩ := z
  refine ⟨by rw [e1, f.1 285 64 x1]; exact z1, by rw [e1]; exact z2, K28_le le z3, fun s hs => ?_, fun s t hs ht he => ?_⟩
  · rw [e1] at hs
    obtain ⟨⟨k1, k2, k3⟩, k4⟩ := z4 s hs
    obtain ⟨u1, u2, u3, u4⟩ := LKo_at le f c0 (s := s) (t := s) (by rw [e2]) k2
    refine ⟨⟨by rw [e2]; exact k1, u1, by rw [u2, fRow f 328 x2]; exact k3⟩, ?_⟩
    unfold LKp at k4 ⊢
    rw [u3, u4, fRow f 328 x2, fRow f 332 x3, fRow f 335 x4, f.1 7 4 x5, fRow f 9 x6]
    exact k4
  · rw [e1] at hs ht
    rw [e2] at he
    exact z5 s t hs ht he
/-- read of the class: old SHEETS keep their numbers -/
theorem LKC_rd {W : List (Nat × Nat)} {a b : gH} (le : hLe T0 a b) (f : hFr W a b) (c : (cKS W && (vFree W 285 64 && (vFreeR W 328 && (vFreeR W 332 && (vFreeR W 335 && (vFree W 23 1 && vFreeR W 24)))))) = true) (p : (hV b 7 4 = hV a 7 4 ∧ hV b 9 = hV a 9) ∨ (hV b 7 4 = hV a 7 4 + 1 ∧ ∃ w : Int, hV b 9 = uF (hV a 9) (hV a 7 4) w)) (z : LKC a) : LKC b := by
  simp only [Bool.and_eq_true] at c
  obtain ⟨c0, x1, x2, x3, x4, y1, y2⟩ := c
  have e1 : hV b 23 1 = hV a 23 1 := f.1 23 1 y1
  have e2 : hV b 24 = hV a 24 := fRow f 24 y2
  have le4 : hV a 7 4 ≤ hV b 7 4 := by
    rcases p with p | p <;> omega
  have e9 : ∀ i : Nat, (i : Int) < hV a 7 4 → hV b 9 i = hV a 9 i := fun i hi => by
    rcases p with p | ⟨_, w, p⟩
    · rw [p.2]
    · rw [p, uF_at, if_neg (by omega)]
  obtain ⟨z1, z2, z3, z4, z5⟩ := z
  refine ⟨by rw [e1, f.1 285 64 x1]; exact z1, by rw [e1]; exact z2, K28_le le z3, fun s hs => ?_, fun s t hs ht he => ?_⟩
  · rw [e1] at hs
    obtain ⟨⟨k1, k2, k3⟩, k4⟩ := z4 s hs
    obtain ⟨u1, u2, u3, u4⟩ := LKo_at le f c0 (s := s) (t := s) (by rw [e2]) k2
    refine ⟨⟨by rw [e2]; exact k1, u1, by rw [u2, fRow f 328 x2]; exact k3⟩, ?_⟩
    unfold LKp at k4 ⊢
    rw [u3, u4, fRow f 328 x2, fRow f 332 x3, fRow f 335 x4]
    rcases k4 with k4 | ⟨q1, q2, q3⟩ | k4
    · exact .inl k4
    · refine .inr (.inl ⟨q1, q2, ?_⟩)
      rcases q3 with q3 | ⟨q3, q4, q5⟩
      · exact .inl q3
      · exact .inr ⟨q3, by omega, by rw [e9 _ (by omega)]; exact q5⟩
    · exact .inr (.inr k4)
  · rw [e1] at hs ht
    rw [e2] at he
    exact z5 s t hs ht he
/-- a SOUND more in both, or in neither -/
theorem LK_pair {W V : List (Nat × Nat)} {a b c : gH} {r k sz mn r' s : Int} {C D : Prop} (z : LKC a) (le1 : hLe T0 a b) (f1 : hFr W a b) (c1 : (cKS W && cKX W) = true) (p : (C ∧ ADDp r k sz a b) ∨ (¬ C ∧ r = -1 ∧ SAMEp a b)) (ps : r = -1 ∨ hV b (hV b 24 r.toNat).toNat 3 = s) (le2 : hLe T0 b c) (f2 : hFr V b c) (c2 : (cKS V && cKY V) = true) (q : (D ∧ hV b 285 64 ≤ 19 ∧ ADDm r' k mn (hV b 285 64) (hV c 285 64) (hV b 328) (hV b 338) (hV b 329) (hV c 328) (hV c 338) (hV c 329)) ∨ (¬ (D ∧ hV b 285 64 ≤ 19) ∧ r' = -1 ∧ SAMm (hV b 285 64) (hV c 285 64) (hV b 328) (hV b 338) (hV b 329) (hV c 328) (hV c 338) (hV c 329))) (qs : RAD r' s b c) (h : C ↔ D) (hk : C → ((k = 4 ∨ k = 5) ∧ 0 ≤ s) ∨ (k = 6 ∧ s = -1) ∨ (0 ≤ k ∧ k < 4 ∧ s = -1)) : r = r' ∧ LKC c := by
  simp only [Bool.and_eq_true] at c1 c2
  obtain ⟨c10, c11⟩ := c1
  obtain ⟨c20, c21⟩ := c2
  unfold cKX at c11
  unfold cKY at c21
  simp only [Bool.and_eq_true] at c11 c21
  obtain ⟨x1, x2, x3, x4, x5, x6⟩ := c11
  obtain ⟨y1, y2, y3, y4⟩ := c21
  obtain ⟨z1, z2, z3, z4, z5⟩ := z
  have b64 : hV b 285 64 = hV a 285 64 := f1.1 285 64 x1
  have b328 : hV b 328 = hV a 328 := fRow f1 328 x2
  have b332 : hV b 332 = hV a 332 := fRow f1 332 x3
  have b335 : hV b 335 = hV a 335 := fRow f1 335 x4
  have e74 : hV c 7 4 = hV a 7 4 := (f2.1 7 4 y3).trans (f1.1 7 4 x5)
  have e9 : hV c 9 = hV a 9 := (fRow f2 9 y4).trans (fRow f1 9 x6)
  have c23 : hV c 23 1 = hV b 23 1 := f2.1 23 1 y1
  have c24 : hV c 24 = hV b 24 := fRow f2 24 y2
  have k28 := K28_le le2 (K28_le le1 z3)
  -- an old one
  have old : ∀ t : Nat, (t : Int) < hV a 23 1 → hV b 24 t = hV a 24 t → hV c 328 t = hV a 328 t → hV c 332 t = hV a 332 t → hV c 335 t = hV a 335 t → LKo c t ∧ LKp c t := fun t ht w0 w1 w2 w3 => by
    obtain ⟨⟨k1, k2, k3⟩, k4⟩ := z4 t ht
    obtain ⟨u1, u2, u3, u4⟩ := LKo_at le1 f1 c10 (s := t) (t := t) w0 k2
    obtain ⟨v1, v2, v3, v4⟩ := LKo_at le2 f2 c20 (s := t) (t := t) (by rw [c24]) u1
    refine ⟨⟨by rw [c24, w0]; exact k1, v1, by rw [v2, u2, w1]; exact k3⟩, ?_⟩
    unfold LKp at k4 ⊢
    rw [v3, v4, u3, u4, w1, w2, w3, e74, e9]
    exact k4
  have same : hV b 23 1 = hV a 23 1 → hV b 24 = hV a 24 → r' = -1 → SAMm (hV b 285 64) (hV c 285 64) (hV b 328) (hV b 338) (hV b 329) (hV c 328) (hV c 338) (hV c 329) → LKC c := fun p1 p2 hr q => by
    obtain ⟨q1, q2, _, _⟩ := q
    have n0 : hV c 332 = hV b 332 ∧ hV c 335 = hV b 335 := by
      rcases qs with w | w
      · exact w.2
      · omega
    refine ⟨by rw [c23, p1, q1, b64]; exact z1, by rw [c23, p1]; exact z2, k28, fun t ht => ?_, fun t u ht hu he => ?_⟩
    · rw [c23, p1] at ht
      exact old t ht (by rw [p2]) (by rw [q2, b328]) (by rw [n0.1, b332]) (by rw [n0.2, b335])
    · rw [c23, p1] at ht hu
      rw [c24, p2] at he
      exact z5 t u ht hu he
  rcases p with ⟨hC, p⟩ | ⟨hC, p1, p2⟩
  · rcases q with ⟨hD, q19, q⟩ | ⟨hD, q1, q⟩
    · rcases p with ⟨_, p2, _⟩ | ⟨p1, p2, p3, p4, p5, p6, p7, p8, _, _, p10⟩
      · omega
      · obtain ⟨q1, q2, q3, _, _⟩ := q
        have er : r = r' := by omega
        obtain ⟨n1, n2, n3, n4⟩ : 0 ≤ r' ∧ r' = hV b 285 64 ∧ hV c 332 = uF (hV b 332) r' s ∧ hV c 335 = uF (hV b 335) r' (-1) := by
          rcases qs with w | w
          · omega
          · exact w
        have hs : hV b (hV b 24 r.toNat).toNat 3 = s := by
          rcases ps with w | w
          · omega
          · exact w
        have o24 : ∀ t : Nat, (t : Int) < hV a 23 1 → hV b 24 t = hV a 24 t := fun t ht => by
          rw [p5, uF_at, if_neg (by omega)]
        have new : LKo c r.toNat ∧ LKp c r.toNat := by
          obtain ⟨v1, v2, v3, v4⟩ := LKo_at le2 f2 c20 (s := r.toNat) (t := r.toNat) (by rw [c24]) p7
          have w1 : hV c 328 r.toNat = k := by
            rw [q3, uF_at, if_pos (by omega)]
          have w2 : hV c 332 r.toNat = s := by
            rw [n3, uF_at, if_pos (by omega)]
          have w3 : hV c 335 r.toNat = -1 := by
            rw [n4, uF_at, if_pos (by omega)]
          have p8' : hV b (hV b 24 r.toNat).toNat 0 = k := p8
          have p10' : hV b (hV b 24 r.toNat).toNat 10 = -1 := p10
          have pos : 0 ≤ hV b 24 r.toNat := by omega
          refine ⟨⟨by rw [c24]; exact pos, v1, by rw [v2, w1]; exact p8'⟩, ?_⟩
          unfold LKp
          rw [v3, v4, w1, w2, w3, hs, p10']
          rcases hk hC with w | w | w
          · exact .inl ⟨w.1, rfl, rfl⟩
          · exact .inr (.inl ⟨w.1, w.2, .inl ⟨rfl, rfl⟩⟩)
          · exact .inr (.inr ⟨w.2.1, w.2.2, rfl⟩)
        refine ⟨er, by omega, by omega, k28, fun t ht => ?_, fun t u ht hu he => ?_⟩
        · by_cases e : (t : Int) = r
          · rw [show t = r.toNat by omega]
            exact new
          · refine old t (by omega) (o24 t (by omega)) ?_ ?_ ?_
            · rw [q3, uF_at, if_neg (by omega), b328]
            · rw [n3, uF_at, if_neg (by omega), b332]
            · rw [n4, uF_at, if_neg (by omega), b335]
        · rw [c24] at he
          have lt : ∀ x : Nat, (x : Int) < hV a 23 1 → ¬ hV b 24 x = hV b 24 r.toNat := fun x hx w => by
            have k2 := (z4 x hx).1.2.1
            have g := hK_lt k2 (by decide)
            rw [o24 x hx] at w
            have := (z4 x hx).1.1
            omega
          by_cases e : (t : Int) = r
          · by_cases e2 : (u : Int) = r
            · omega
            · exact absurd (by rw [← he, show t = r.toNat by omega]) (lt u (by omega))
          · by_cases e2 : (u : Int) = r
            · exact absurd (by rw [he, show u = r.toNat by omega]) (lt t (by omega))
            · rw [o24 t (by omega), o24 u (by omega)] at he
              exact z5 t u (by omega) (by omega) he
    · rcases p with ⟨p1, p2, p3, p4⟩ | ⟨p1, p2, p3, _⟩
      · exact ⟨by omega, same p3 p4 q1 q⟩
      · exact absurd ⟨h.mp hC, by omega⟩ hD
  · rcases q with ⟨hD, _, _⟩ | ⟨_, q1, q⟩
    · exact absurd (h.mpr hD) hC
    · exact ⟨by omega, same p2.1 p2.2 q1 q⟩
/-- the edges of both are one -/
theorem LNC_of {h : gH} (z : LKC h) (sc : SHC h) (pg : PG h) (so : SO h) (ac : AC h) (e : hV h 7 4 = hV h 285 18) : ∃ rk, LNC h (RNX h) rk := by
  obtain ⟨z1, z2, z3, z4, z5⟩ := z
  have ac2 := ac.2
  rw [← z1] at ac2
  obtain ⟨rk, R⟩ := RK_of ac2 z2
  refine ⟨rk, z3, fun s hs => ⟨(z4 s hs).1.1, (z4 s hs).1.2.1, fun w => ?_⟩, z2, fun k hk => ?_, R⟩
  · rcases (z4 s hs).2 with q | ⟨_, _, q⟩ | q
    · omega
    · rcases q with q | ⟨q1, q2, q3⟩
      · omega
      · rw [q3]
        exact (SH_ly sc pg e (s := (hV h 335 s).toNat) (by omega)).2.1
    · omega
  · obtain ⟨⟨k1, k2, k3⟩, k4⟩ := z4 k hk
    have so_ := so k (by omega)
    unfold LAo
    rw [if_neg (by omega)]
    rcases k4 with ⟨q1, q2, q3⟩ | ⟨q1, q2, q3⟩ | ⟨q1, q2, q3⟩
    · have b : 0 ≤ hV h 332 k ∧ hV h 332 k < k := by
        rcases q1 with q1 | q1
        · exact ⟨(so_.1 q1).1, (so_.1 q1).2.1⟩
        · exact so_.2.1 q1
      rw [if_neg (by omega), if_neg (by omega)]
      exact NX_off q1 rfl rfl q3 (by omega) (by omega)
    · rcases q3 with ⟨q3, q4⟩ | ⟨q3, q4, q5⟩
      · rw [if_neg (by omega), if_pos q2]
        exact NX_none rfl (by omega) (by omega) (.inr q3)
      · have y := SH_ly sc pg e (s := (hV h 335 k).toNat) (by omega)
        rw [if_pos (by rw [q5]; exact y.1), q5]
        exact NX_lays y.2.2.2 q1 q3 rfl
    · rw [if_neg (by omega), if_pos q2]
      exact NX_none rfl (by omega) (by omega) (.inl (by omega))
/-- make in both -/
theorem LK_make {W V : List (Nat × Nat)} {a b c : gH} {s sh e : Int} (z : LKC a) (sc : SHC a) (pg : PG a) (so : SO a) (ac : AC a) (k79 : K79 a) (e4 : hV a 7 4 = hV a 285 18) (e3 : hV a 19 3 = hV a 285 60) (le1 : hLe T0 a b) (f1 : hFr W a b) (c1 : (!(vLoc W 7 0) && (!(vLoc W 7 3) && (cKX W && (vFree W 23 1 && (vFreeR W 24 && (vFree W 285 18 && (vFree W 285 60 && (vFreeR W 293 && (vFreeR W 296 && (vFreeR W 298 && vFreeR W 300)))))))))) = true) (p : ∀ (nx : Nat → Nat → Prop) (rk : Nat → Nat) (ly : Nat → Prop), LNC a nx rk → K79 a → SK9 a → (0 ≤ sh → sh < hV a 7 4 → BTS (hV a (hV a 9 sh.toNat).toNat 3) ly) → ((CMK a s sh e ∧ MYp (hV a 23 1) nx ly s.toNat) ∧ MK10 (hV a 24 s.toNat) (hV a 9 sh.toNat) a b) ∨ (¬ (CMK a s sh e ∧ MYp (hV a 23 1) nx ly s.toNat) ∧ KP10 a b)) (le2 : hLe T0 b c) (f2 : hFr V b c) (c2 : (cKS V && (cKY V && (vFree V 285 64 && (vFreeR V 328 && vFreeR V 332)))) = true) (q : ((CMR b s sh e ∧ MYp (hV b 285 64) (RNX b) (RLY b sh.toNat) s.toNat) ∧ hV c 335 = uF (hV b 335) s sh) ∨ (¬ (CMR b s sh e ∧ MYp (hV b 285 64) (RNX b) (RLY b sh.toNat) s.toNat) ∧ hV c 335 = hV b 335)) : LKC c := by
  obtain ⟨rk, ln⟩ := LNC_of z sc pg so ac e4
  have s9 : SK9 a := fun t ht => ⟨(SH_ly sc pg e4 ht).1, (SH_ly sc pg e4 ht).2.1⟩
  have p := p (RNX a) rk (RLY a sh.toNat) ln k79 s9 (fun h0 h1 => (SH_ly sc pg e4 (s := sh.toNat) (by omega)).2.2.2)
  obtain ⟨z1, z2, z3, z4, z5⟩ := z
  simp only [Bool.and_eq_true] at c1 c2
  obtain ⟨n0, n3, cx, m1, m2, m3, m4, m5, m6, m7, m8⟩ := c1
  obtain ⟨d0, d1, d2, d3, d4⟩ := c2
  unfold cKX at cx
  unfold cKY at d1
  simp only [Bool.and_eq_true] at cx d1
  obtain ⟨x1, x2, x3, x4, x5, x6⟩ := cx
  obtain ⟨y1, y2, y3, y4⟩ := d1
  rw [Bool.not_eq_true'] at n0 n3
  have b328 : hV b 328 = hV a 328 := fRow f1 328 x2
  have b332 : hV b 332 = hV a 332 := fRow f1 332 x3
  have b335 : hV b 335 = hV a 335 := fRow f1 335 x4
  have b64 : hV b 285 64 = hV a 285 64 := f1.1 285 64 x1
  have b18 : hV b 285 18 = hV a 285 18 := f1.1 285 18 m3
  have b60 : hV b 285 60 = hV a 285 60 := f1.1 285 60 m4
  have enx : RNX b = RNX a := by
    unfold RNX
    rw [b328, b332, b335, fRow f1 296 m6, fRow f1 298 m7, fRow f1 300 m8]
  have ely : RLY b sh.toNat = RLY a sh.toNat := by
    unfold RLY
    rw [fRow f1 296 m6, fRow f1 298 m7, fRow f1 300 m8]
  have ecm : CMR b s sh e ↔ CMK a s sh e := by
    unfold CMR CMK
    rw [b64, b328, b18, b60, fRow f1 293 m5, ← z1, ← e4, ← e3]
    refine ⟨fun w => ?_, fun w => ?_⟩
    · obtain ⟨⟨w1, w2, w3⟩, ⟨w4, w5⟩, w6, w7, w8⟩ := w
      refine ⟨⟨w1, w2, ?_⟩, ⟨w4, w5⟩, w6, w7, ?_⟩
      · rw [(z4 s.toNat (by omega)).1.2.2]
        exact w3
      · rw [(SH_ly sc pg e4 (s := sh.toNat) (by omega)).2.2.1]
        exact w8
    · obtain ⟨⟨w1, w2, w3⟩, ⟨w4, w5⟩, w6, w7, w8⟩ := w
      refine ⟨⟨w1, w2, ?_⟩, ⟨w4, w5⟩, w6, w7, ?_⟩
      · rw [← (z4 s.toNat (by omega)).1.2.2]
        exact w3
      · rw [← (SH_ly sc pg e4 (s := sh.toNat) (by omega)).2.2.1]
        exact w8
  rw [enx, ely, b64, ← z1, b335, ecm] at q
  have c23 : hV c 23 1 = hV a 23 1 := (f2.1 23 1 y1).trans (f1.1 23 1 m1)
  have b24 : hV b 24 = hV a 24 := fRow f1 24 m2
  have c24 : hV c 24 = hV b 24 := fRow f2 24 y2
  have e74 : hV c 7 4 = hV a 7 4 := (f2.1 7 4 y3).trans (f1.1 7 4 x5)
  have e9 : hV c 9 = hV a 9 := (fRow f2 9 y4).trans (fRow f1 9 x6)
  have c328 : hV c 328 = hV a 328 := (fRow f2 328 d3).trans b328
  have c332 : hV c 332 = hV a 332 := (fRow f2 332 d4).trans b332
  refine ⟨by rw [c23, f2.1 285 64 d2, b64]; exact z1, by rw [c23]; exact z2, K28_le le2 (K28_le le1 z3), fun t ht => ?_, fun t u ht hu he => ?_⟩
  · rw [c23] at ht
    obtain ⟨⟨k1, k2, k3⟩, k4⟩ := z4 t ht
    have kb : hK b (hV b 24 t).toNat = 7 := by
      rw [b24]
      exact kLe le1 k2 rfl
    obtain ⟨v1, v2, v3, v4⟩ := LKo_at le2 f2 d0 (s := t) (t := t) (by rw [c24]) kb
    rw [b24] at v2 v3 v4
    refine ⟨⟨by rw [c24, b24]; exact k1, v1, by rw [v2, f1.2.2 _ 7 k2 rfl 0 n0, c328]; exact k3⟩, ?_⟩
    unfold LKp at k4 ⊢
    rw [v3, v4, f1.2.2 _ 7 k2 rfl 3 n3, c328, c332, e74, e9]
    rcases p with ⟨pc, p1, p2⟩ | ⟨pc, p1⟩
    · have q1 := (q.resolve_right (fun w => w.1 pc)).2
      obtain ⟨⟨⟨g0, g1, g6⟩, ⟨h0, h1⟩, _⟩, _⟩ := pc
      by_cases c : (t : Int) = s
      · have et : t = s.toNat := by omega
        rw [← et] at p1 g6
        rw [p1, q1, uF_at, if_pos c]
        rw [k3] at g6
        rcases k4 with ⟨w, _⟩ | ⟨w1, w2, _⟩ | ⟨w, _⟩
        · omega
        · exact .inr (.inl ⟨w1, w2, .inr ⟨h0, h1, rfl⟩⟩)
        · omega
      · rw [p2 _ k2 (fun w => c (by
          have e1 : hV a 24 t = hV a 24 s.toNat := by omega
          have := z5 t s.toNat ht (by omega) e1
          omega)), q1, uF_at, if_neg c]
        exact k4
    · have q1 := (q.resolve_left (fun w => pc w.1)).2
      rw [p1 _ k2, q1]
      exact k4
  · rw [c23] at ht hu
    rw [c24, b24] at he
    exact z5 t u ht hu he
/-- leans answers alike -/
theorem LEAN_eq {W : List (Nat × Nat)} {a b : gH} {s r1 r2 : Int} (z : LKC a) (sc : SHC a) (pg : PG a) (so : SO a) (ac : AC a) (e4 : hV a 7 4 = hV a 285 18) (f1 : hFr W a b) (c1 : (vFree W 285 64 && (vFreeR W 328 && (vFreeR W 332 && (vFreeR W 335 && (vFreeR W 296 && (vFreeR W 298 && vFreeR W 300)))))) = true) (a1 : -2147483648 ≤ r1) (a2 : r1 ≤ 2147483647) (b1 : -2147483648 ≤ r2) (b2 : r2 ≤ 2147483647) (p : SKs a → (0 ≤ s → s < hV a 23 1 → ∀ (nx : Nat → Nat → Prop) (rk : Nat → Nat), LNC a nx rk → BTS r1 (LSp (hV a 23 1) nx s.toNat)) ∧ (¬ (0 ≤ s ∧ s < hV a 23 1) → r1 = -1)) (q : (0 ≤ s ∧ s < hV b 285 64 → BTS r2 (LSp (hV b 285 64) (RNX b) s.toNat)) ∧ (¬ (0 ≤ s ∧ s < hV b 285 64) → r2 = -1)) : r2 = r1 := by
  obtain ⟨rk, ln⟩ := LNC_of z sc pg so ac e4
  have p := p ln.2.1
  simp only [Bool.and_eq_true] at c1
  obtain ⟨x1, x2, x3, x4, x5, x6, x7⟩ := c1
  have enx : RNX b = RNX a := by
    unfold RNX
    rw [fRow f1 328 x2, fRow f1 332 x3, fRow f1 335 x4, fRow f1 296 x5, fRow f1 298 x6, fRow f1 300 x7]
  rw [enx, f1.1 285 64 x1, ← z.1] at q
  by_cases c : 0 ≤ s ∧ s < hV a 23 1
  · exact bts_ext b1 b2 a1 a2 (q.1 c) (p.1 c.1 c.2 _ _ ln)
  · rw [q.2 c, p.2 c]
theorem RDT_p {v : Vw} {r : Int} {a b : gH} (z : RDT v r a b) : (hV b 7 4 = hV a 7 4 ∧ hV b 9 = hV a 9) ∨ (hV b 7 4 = hV a 7 4 + 1 ∧ ∃ w : Int, hV b 9 = uF (hV a 9) (hV a 7 4) w) := by
  obtain ⟨_, _, _, _, z⟩ := z
  rcases z with ⟨_, z1, z2⟩ | ⟨_, _, _, z1, o, _, z2, _⟩
  · exact .inl ⟨z1, z2⟩
  · exact .inr ⟨z1, (o : Int), z2⟩
theorem trim_iffL {W : List (Nat × Nat)} {a b : gH} (z : LKC a) (f1 : hFr W a b) (c1 : vFree W 285 64 = true) {x y w : Int} : (0 ≤ x ∧ x < hV a 23 1 ∧ 0 ≤ y ∧ y < w ∧ w ≤ 240 ∧ 0 ≤ hV a 24 (x.toNat)) ↔ (0 ≤ x ∧ x < hV b 285 64 ∧ 0 ≤ y ∧ y < w ∧ w ≤ 240) := by
  rw [f1.1 285 64 c1, ← z.1]
  refine ⟨fun q => ⟨q.1, q.2.1, q.2.2.1, q.2.2.2.1, q.2.2.2.2.1⟩, fun q => ⟨q.1, q.2.1, q.2.2.1, q.2.2.2.1, q.2.2.2.2, ?_⟩⟩
  exact (z.2.2.2.1 x.toNat (by omega)).1.1
theorem mute_iffL {W : List (Nat × Nat)} {a b : gH} (z : LKC a) (f1 : hFr W a b) (c1 : (vFree W 285 64 && vFreeR W 328) = true) {x : Int} : (0 ≤ x ∧ x < hV a 23 1 ∧ 0 ≤ hV a 24 (x.toNat) ∧ KV a x = 2) ↔ (0 ≤ x ∧ x < hV b 285 64 ∧ hV b 328 (x.toNat) = 2) := by
  rw [Bool.and_eq_true] at c1
  rw [f1.1 285 64 c1.1, fRow f1 328 c1.2, ← z.1]
  unfold KV
  refine ⟨fun q => ⟨q.1, q.2.1, ?_⟩, fun q => ⟨q.1, q.2.1, (z.2.2.2.1 x.toNat (by omega)).1.1, ?_⟩⟩
  · rw [← (z.2.2.2.1 x.toNat (by omega)).1.2.2]
    exact q.2.2.2
  · rw [(z.2.2.2.1 x.toNat (by omega)).1.2.2]
    exact q.2.2
/-- again of the reference: row 335 holds what it held -/
theorem LKC_ag {W : List (Nat × Nat)} {a b : gH} (le : hLe T0 a b) (f : hFr W a b) (c : (cKS W && (vFree W 285 64 && (vFreeR W 328 && (vFreeR W 332 && (vFree W 7 4 && (vFreeR W 9 && cKY W)))))) = true) (e : hV b 335 = hV a 335) (z : LKC a) : LKC b := by
  simp only [Bool.and_eq_true] at c
  obtain ⟨c0, x1, x2, x3, x5, x6, c2⟩ := c
  unfold cKY at c2
  simp only [Bool.and_eq_true] at c2
  obtain ⟨y1, y2, _, _⟩ := c2
  have e1 : hV b 23 1 = hV a 23 1 := f.1 23 1 y1
  have e2 : hV b 24 = hV a 24 := fRow f 24 y2
  obtain ⟨z1, z2, z3, z4, z5⟩ := z
  refine ⟨by rw [e1, f.1 285 64 x1]; exact z1, by rw [e1]; exact z2, K28_le le z3, fun s hs => ?_, fun s t hs ht he => ?_⟩
  · rw [e1] at hs
    obtain ⟨⟨k1, k2, k3⟩, k4⟩ := z4 s hs
    obtain ⟨u1, u2, u3, u4⟩ := LKo_at le f c0 (s := s) (t := s) (by rw [e2]) k2
    refine ⟨⟨by rw [e2]; exact k1, u1, by rw [u2, fRow f 328 x2]; exact k3⟩, ?_⟩
    unfold LKp at k4 ⊢
    rw [u3, u4, fRow f 328 x2, fRow f 332 x3, e, f.1 7 4 x5, fRow f 9 x6]
    exact k4
  · rw [e1] at hs ht
    rw [e2] at he
    exact z5 s t hs ht he
