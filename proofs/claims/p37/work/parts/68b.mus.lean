/-! THE SOUNDS' OBJECTS told by what both know of them (hand; behind mus). -/
def SNo (h : gH) (E : SE) (s : Nat) (o : Int) : Prop := 0 ≤ o ∧ hK h o.toNat = 7 ∧ hV h o.toNat 0 = E.2.1 s ∧ hV h o.toNat 1 = E.2.2.2.1 s ∧ hV h o.toNat 2 = E.2.2.2.2.1 s ∧ hV h o.toNat 3 = E.2.2.1 s ∧ (E.2.1 s ≤ 3 → hV h o.toNat 6 = mz (E.2.2.2.2.2.1 s) ∧ 0 ≤ hV h o.toNat 4 ∧ hK h (hV h o.toNat 4).toNat = 780 ∧ hN h (hV h o.toNat 4).toNat = 240 ∧ ∀ i : Nat, i < 240 → hV h (hV h o.toNat 4).toNat i = E.2.2.2.2.2.2 (240 * s + i))
def SNC (h : gH) (E : SE) : Prop := hV h 23 1 = E.1 ∧ SEok E ∧ (∀ s : Nat, (s : Int) < E.1 → SNo h E s (hV h 24 s)) ∧ hK h 23 = 0 ∧ hK h 24 = 105
noncomputable def cSN (W : List (Nat × Nat)) : Bool := (vFree W 23 1 && vFreeR W 24) && ((!(vLoc W 7 0) && (!(vLoc W 7 1) && (!(vLoc W 7 2) && (!(vLoc W 7 3) && (!(vLoc W 7 4) && !(vLoc W 7 6)))))) && !(vLoc W 780 0))
theorem SNC_fr {W : List (Nat × Nat)} {a b : gH} {E : SE} (le : hLe T0 a b) (f : hFr W a b) (c : cSN W = true) (z : SNC a E) : SNC b E := by
  unfold cSN at c
  simp only [Bool.and_eq_true, Bool.not_eq_true'] at c
  obtain ⟨⟨c1, c2⟩, ⟨d0, d1, d2, d3, d4, d6⟩, c3⟩ := c
  obtain ⟨z1, z2, z3, z4, z5⟩ := z
  refine ⟨(f.1 23 1 c1).trans z1, z2, fun s hs => ?_, kLe le z4 rfl, kLe le z5 rfl⟩
  obtain ⟨y0, yk, y1, y2, y3, y4, y5⟩ := z3 s hs
  rw [fRow f 24 c2]
  have g : ∀ j : Nat, vLoc W 7 j = false → hV b (hV a 24 s).toNat j = hV a (hV a 24 s).toNat j := fun j hj => f.2.2 _ 7 yk rfl j hj
  refine ⟨y0, kLe le yk rfl, (g 0 d0).trans y1, (g 1 d1).trans y2, (g 2 d2).trans y3, (g 3 d3).trans y4, fun h3 => ?_⟩
  obtain ⟨x1, x2, x3, x4, x5⟩ := y5 h3
  rw [g 4 d4]
  refine ⟨(g 6 d6).trans x1, x2, kLe le x3 rfl, (le.2 _ (hK_lt x3 (by decide))).2.1.trans x4, fun i hi => ?_⟩
  rw [f.2.2 _ 780 x3 rfl i (by rw [vLoc_row (by decide) i 0]; exact c3)]
  exact x5 i hi
/-- a View is written -/
theorem SNC_v {a b : gH} {E : SE} {o i w : Int} (f : hUpd b a o i w) (k : hK a o.toNat = 10) (z : SNC a E) : SNC b E ∧ hV b 24 = hV a 24 := by
  obtain ⟨z1, z2, z3, z4, z5⟩ := z
  have n : ∀ q k2 : Nat, hK a q = k2 → ¬ k2 = 10 → ¬ (q : Int) = o := fun q k2 e n w => n (by rw [← e, ← k, ← w, Int.toNat_natCast])
  have e24 : hV b 24 = hV a 24 := uRowNe f 24 (n 24 105 z5 (by decide))
  refine ⟨⟨(uPlace f 23 1 (n 23 0 z4 (by decide))).trans z1, z2, fun s hs => ?_, kUp f z4, kUp f z5⟩, e24⟩
  obtain ⟨y0, yk, y1, y2, y3, y4, y5⟩ := z3 s hs
  rw [e24]
  have g : ∀ j : Nat, hV b (hV a 24 s).toNat j = hV a (hV a 24 s).toNat j := fun j => uPlace f _ j (n _ 7 yk (by decide))
  refine ⟨y0, kUp f yk, (g 0).trans y1, (g 1).trans y2, (g 2).trans y3, (g 3).trans y4, fun h3 => ?_⟩
  obtain ⟨x1, x2, x3, x4, x5⟩ := y5 h3
  rw [g 4]
  refine ⟨(g 6).trans x1, x2, kUp f x3, (f.2.2 _).2.trans x4, fun i hi => ?_⟩
  rw [uPlace f _ i (n _ 780 x3 (by decide))]
  exact x5 i hi
theorem SNo_at {h : gH} {E : SE} {s : Nat} {g : Nat → Int} (z : SNC h E) (hs : (s : Int) < E.1) (e : hV h 24 = g) : SNo h E s (g s) := e ▸ z.2.2.1 s hs
theorem get_at {h : gH} {E : SE} {r x : Int} {g : Nat → Int} (z : SNC h E) (e : hV h 24 = g) (q : (0 ≤ x ∧ x < hV h 23 1 ∧ r = hV h 24 x.toNat) ∨ (r = -1 ∧ ¬ (0 ≤ x ∧ x < hV h 23 1))) (h0 : 0 ≤ x) (h1 : x < E.1) : r = g x.toNat := by
  rw [z.1, e] at q
  rcases q with w | w
  · exact w.2.2
  · exact absurd ⟨h0, h1⟩ w.2
/-- the Mixer's rows, the row of FRAMES -/
def KR (h : gH) : Prop := (hK h 276 = 748 ∧ hN h 276 = 9600) ∧ hK h 282 = 764 ∧ hN h 282 = 60
theorem KR_le {a b : gH} (le : hLe T0 a b) (z : KR a) : KR b := ⟨⟨kLe le z.1.1 rfl, (le.2 _ (hK_lt z.1.1 (by decide))).2.1.trans z.1.2⟩, kLe le z.2.1 rfl, (le.2 _ (hK_lt z.2.1 (by decide))).2.1.trans z.2.2⟩
/-- what a lay's row holds at t -/
def RWt (E : SE) (c : LR) (t v : Int) : Prop := (HEp E c t ∧ v = smE E c.2.1 (lyI c t)) ∨ (¬ HEp E c t ∧ v = -1000000)
/-- a lay of a MUSIC, with its numbers -/
def LYm (E : SE) (mu : Int) (c : LR) : Prop := SEok E ∧ MUp E mu c ∧ FBc c ∧ E.2.1 mu.toNat = 3
theorem LYm_k {E : SE} {mu : Int} {c : LR} (z : LYm E mu c) : E.2.1 (RT E c.2.1).toNat ≤ 3 ∧ ¬ E.2.1 c.2.1.toNat = 1 := by
  obtain ⟨z0, ⟨z1, z2, z3, z4⟩, z5, z6⟩ := z
  refine ⟨by rw [z4, z6]; decide, fun w => ?_⟩
  have e := (CH_n (E := E) (s := c.2.1) (by omega)).1
  rw [z4] at e
  rw [e] at z6
  omega
theorem RWt_gv {E : SE} {mu : Int} {c : LR} (z : LYm E mu c) {t v g r : Int} (w : RWt E c t v) (e : g = c.2.2.2.2.2.1) (q : (v = -1000000 ∧ r = 0) ∨ (¬ v = -1000000 ∧ r = gvF v g)) : (r = 0 → ¬ GVp E c t) ∧ (¬ r = 0 → GVp E c t) := by
  subst e
  have k := LYm_k z
  have b := smE_in z.1 z.2.1.2.1 z.2.1.2.2.1 k.1 (lyI c t)
  rcases w with ⟨w1, w2⟩ | ⟨w1, w2⟩
  · rcases q with ⟨q1, _⟩ | ⟨_, q2⟩
    · exfalso
      omega
    · rw [w2] at q2
      exact ⟨fun y n => n.2 (by rw [← q2]; exact y), fun y => ⟨w1, by rw [← q2]; exact y⟩⟩
  · rcases q with ⟨_, q2⟩ | ⟨q1, _⟩
    · exact ⟨fun _ n => w1 n.1, fun y => absurd q2 y⟩
    · exact absurd w2 q1
theorem lrW_0 {mk : Nat → Int} {r : CR} (h : r.1 = 0) : lrW mk r = (0, r.2.2.1, nwW mk r.2.2.2.1 r.2.2.2.2.1, r.2.2.2.2.2.2.2.1, r.2.2.2.2.2.2.2.2.1, r.2.2.2.2.2.2.2.2.2.1, r.2.2.2.2.2.2.2.2.2.2.1, r.2.2.2.2.2.2.2.2.2.2.2) := if_pos h
theorem lrW_n {mk : Nat → Int} {r : CR} (h : ¬ r.1 = 0) : lrW mk r = (1, 0, 0, 0, 0, 0, 0, 0) := if_neg h
/-- a lay's record in its object -/
theorem lrW_at {h : gH} {o : Nat} {mk : Nat → Int} (k : hV h o 0 = 0) : lrW mk (recC h o) = (0, hV h o 2, nwW mk (hV h o 4) (hV h o 5), hV h o 8, hV h o 9, hV h o 10, hV h o 12, hV h o 13) := by
  rw [recC_lay k, lrW_0 rfl]
theorem lrW_not {h : gH} {o : Nat} {mk : Nat → Int} (k : ¬ hV h o 0 = 0) : lrW mk (recC h o) = (1, 0, 0, 0, 0, 0, 0, 0) := lrW_n k
/-- what is asked of a lay's object -/
def LYo (h : gH) (E : SE) (mu : Int) (o : Nat) : Prop := SNC h E ∧ K25 h ∧ KR h ∧ hK h o = 1 ∧ hV h o 0 = 0 ∧ LYm E mu (lrW (hV h 25) (recC h o))
def SK6 (h : gH) : Prop := ∀ s : Nat, (s : Int) < hV h 7 4 → 0 ≤ hV h 9 s ∧ hK h (hV h 9 s).toNat = 6
theorem atR_y {h : gH} {a i r : Int} (e : r = atR h a i) (h0 : 0 ≤ a) (i0 : 0 ≤ i) (i1 : i < (hN h a.toNat : Int)) : r = hV h a.toNat i.toNat := e.trans (if_pos ⟨h0, i0, i1⟩)
