/-! RULES COUPLED: the live ones of both are the same (hand; behind owm2, owr4 and both programs' owed). -/
def RLC (h : gH) : Prop := RX h ∧ (hV h 285 34 = 0 ∨ hV h 285 34 = 1) ∧ ∃ R, RLo h (hV h 7 5) R ∧ rgS h (hV h 285 34) (600 * hV h 285 34 + 600) (200 * hV h 285 34 + 200) R ∧ GRs R
noncomputable def cRLa (W : List (Nat × Nat)) : Bool := cNoK 5 W && (cNoK 100 W && (vFree W 7 5 && vFree W 30 8))
noncomputable def cRLb (W : List (Nat × Nat)) : Bool := cXR3 W && (cYR W && (cZR W && vFree W 285 34))
noncomputable def cRLo (W : List (Nat × Nat)) : Bool := cRO W && (vFree W 7 5 && vFree W 30 8)
theorem rgS_fr {W : List (Nat × Nat)} {a b : gH} (f : hFr W a b) (c : cRLb W = true) : hV b 285 34 = hV a 285 34 ∧ ∀ (s ch lh : Int) (R : List Rul), rgS a s ch lh R → rgS b s ch lh R := by
  unfold cRLb at c
  simp only [Bool.and_eq_true] at c
  obtain ⟨b1, b2, b3, b4⟩ := c
  exact ⟨f.1 285 34 b4, fun s ch lh R r => rgS_k (XRk_fr f b1) (YRs_fr f b2) (ZRs_fr f b3) r⟩
theorem RLC_mk {W : List (Nat × Nat)} {a b : gH} (f : hFr W a b) (c : cRLb W = true) (x : RX b) (k : ∀ R, RLo a (hV a 7 5) R → RLo b (hV b 7 5) R) (z : RLC a) : RLC b := by
  obtain ⟨z1, z2, R, z3, z4, z5⟩ := z
  obtain ⟨e, g⟩ := rgS_fr f c
  refine ⟨x, by rw [e]; exact z2, R, k R z3, ?_, z5⟩
  rw [e]
  exact g _ _ _ R z4
theorem RLC_fr {W : List (Nat × Nat)} {a b : gH} (le : hLe T0 a b) (f : hFr W a b) (c : (cRLa W && cRLb W) = true) (z : RLC a) : RLC b := by
  rw [Bool.and_eq_true] at c
  obtain ⟨ca, cb⟩ := c
  unfold cRLa at ca
  simp only [Bool.and_eq_true] at ca
  obtain ⟨a1, a2, a3, a4⟩ := ca
  have g := RX_go z.1 (RXs_fr z.1 le f a1 a2 a3 a4)
  exact RLC_mk f cb g.1 g.2.1 z
/-- what the class owes leaves them -/
theorem RLC_ow {W : List (Nat × Nat)} {a b : gH} (le : hLe T0 a b) (f : hFr W a b) (c : (cRLo W && cRLb W) = true) (k : LVk a b (hV a 7 5)) (z : RLC a) : RLC b := by
  rw [Bool.and_eq_true] at c
  obtain ⟨ca, cb⟩ := c
  unfold cRLo at ca
  simp only [Bool.and_eq_true] at ca
  obtain ⟨a1, a2, a3⟩ := ca
  refine RLC_mk f cb (RX_f5 z.1 le f a1 a2 a3) (fun R r => ?_) z
  rw [f.1 7 5 a2]
  exact k R r
/-- a reading of both -/
theorem RLC_rd {Wc Wr : List (Nat × Nat)} {a b c : gH} {r1 r2 x : Int} (cp : CPL a) (z : RLC a) (f1 : hFr Wc a b) (c1 : cRLb Wc = true) (c2 : cRM Wc = true) (c3 : vFreeR Wc 292 = true) (pa : RX a → RXr (pTx (hV a 8) (hV a 7 1)) r1 a b) (le : hLe T0 b c) (f2 : hFr Wr b c) (c4 : cRLa Wr = true) (yb : ybo_221 r2 x b c) (e : r2 = r1) : RLC c := by
  subst e
  have cr := CPL_R cp f1 c2
  have ky := KEYS_fr f1 c3 cp.2.2.2.2.2.2
  have eB : BT b = hV a 8 := congrArg (fun m : MXS => m.2.1) cr.1
  have e2 : hV b 285 2 = hV a 7 1 := congrArg (fun m : MXS => m.1) cr.1
  unfold ybo_221 at yb
  have y := yb ky
  rw [eB, e2] at y
  unfold cRLa at c4
  simp only [Bool.and_eq_true] at c4
  obtain ⟨a1, a2, a3, a4⟩ := c4
  obtain ⟨z1, z2, R, z3, z4, z5⟩ := z
  obtain ⟨x1, x2⟩ := pa z1
  have g := RX_go x1 (RXs_fr x1 le f2 a1 a2 a3 a4)
  obtain ⟨e34, gb⟩ := rgS_fr f1 c1
  rcases x2 with ⟨p1, p2, Q, q1, q2, q3⟩ | ⟨p1, p2⟩
  · rcases y with ⟨_, _, y3, S, s1, s2, s3⟩ | ⟨y1, _⟩
    · refine ⟨g.1, y3, Q, g.2.1 Q q1, ?_, q3⟩
      rw [q2, ← s2]
      exact s1
    · exact absurd ⟨p1, p2⟩ y1
  · rcases y with ⟨y1, y2, _⟩ | ⟨_, y2, y3⟩
    · exact absurd ⟨y1, y2⟩ p1
    · refine ⟨g.1, ?_, R, g.2.1 R (p2 R z3), y3 R ?_, z5⟩
      · rw [y2, e34]
        exact z2
      · rw [e34]
        exact gb _ _ _ R z4
set_option maxHeartbeats 400000 in
/-- owed answers alike -/
theorem OWED_eq {W : List (Nat × Nat)} {a b b0 c0 : gH} {r1 r2 s mu e q x y : Int} (cp : CPL a) (sc : SHC a) (mk : MKS a) (z : SNC a (RE a)) (kr : KR a) (pg : PG a) (rl : RLC a) (f : hFr W a b) (c : (cSQ W && cRLb W) = true) (pa : nb_190 r1 x s mu e q a b0) (pb : nb_313 r2 y s mu e q b c0) : r2 = r1 ∧ LVk a b0 (hV a 7 5) := by
  unfold nb_190 at pa
  unfold nb_313 at pb
  rw [Bool.and_eq_true] at c
  obtain ⟨c, cl⟩ := c
  obtain ⟨e34, gb⟩ := rgS_fr f cl
  unfold cSQ at c
  rw [Bool.and_eq_true] at c
  obtain ⟨ca, cb⟩ := c
  simp only [Bool.and_eq_true] at ca cb
  obtain ⟨c0, c340, c293, c60⟩ := ca
  obtain ⟨cre, crm, c325, c327⟩ := cb
  unfold cRC at c0
  simp only [Bool.and_eq_true] at c0
  obtain ⟨c1, c2, c3⟩ := c0
  obtain ⟨e4, e3, m1, m2⟩ := CPL_s cp
  have er := RE_fr f cre
  have x64 : hV b 285 64 = hV a 285 64 := congrArg (fun E : SE => E.1) er
  have x328 : hV b 328 = hV a 328 := congrArg (fun E : SE => E.2.1) er
  have x330 : hV b 330 = hV a 330 := congrArg (fun E : SE => E.2.2.2.1) er
  obtain ⟨y1, y2, y3, y4, y5, y6, y7, y8⟩ := CR8_fr f c3
  have el : ∀ L : List (Nat × Int), lrL b (hV a 340) L = lrL a (hV a 340) L := fun L => List.map_congr_left fun p _ => by rw [recR_fr f c3 p.1]
  rw [er, f.1 285 18 c1, f.1 285 60 c60, x64, x328, x330, fRow f 293 c293, fRow f 296 c2, y1, y3, y4, y5, fRow f 340 c340, fRow f 325 c325, fRow f 327 c327, el, (mR_fr f crm).1, e34] at pb
  obtain ⟨k1, k2, k3⟩ := mk
  have h20 : hV a 20 = hV a 325 := congrArg (fun m : MXS => m.2.2.2.2.2.1) cp.1
  have h22 : hV a 22 = hV a 327 := congrArg (fun m : MXS => m.2.2.2.2.2.2.2.1) cp.1
  have s6 : SK6 a := fun t ht => by
    obtain ⟨o, o1, o2, tt⟩ := sc.2.2.2 t ht
    rw [o1, Int.toNat_natCast]
    exact ⟨Int.natCast_nonneg o, SHT_at tt⟩
  obtain ⟨lv, p1, p2⟩ := pa (RE a) z k1 kr cp.2.2.2.2.1 cp.2.1 sc.2.1 s6 rl.1
  refine ⟨?_, lv⟩
  obtain ⟨_, _, R, R1, R2, R3⟩ := rl
  have rb := gb _ _ _ R R2
  by_cases hs : 0 ≤ s ∧ s < hV a 7 4
  · obtain ⟨o, o1, o2, D, S, T, kp, vl, zt, sl⟩ := sc.2.2.2 s.toNat (by omega)
    have d0 : hV a (hV a 9 s.toNat).toNat 0 = hV a 293 s.toNat := by
      rw [o1, Int.toNat_natCast]
      exact o2
    rw [d0] at p1 p2
    by_cases hq : (0 ≤ mu ∧ mu < hV a 285 64 ∧ hV a 328 mu.toNat = 3) ∧ 0 ≤ e ∧ e < hV a 19 3 ∧ hV a 293 s.toNat ≤ e ∧ 0 ≤ q ∧ q ≤ 9
    · have q1 : ((0 ≤ s ∧ s < hV a 7 4) ∧ (0 ≤ mu ∧ mu < (RE a).1 ∧ (RE a).2.1 mu.toNat = 3) ∧ 0 ≤ e ∧ e < hV a 19 3 ∧ hV a 293 s.toNat ≤ e ∧ 0 ≤ q ∧ q ≤ 9) := ⟨hs, hq.1, hq.2⟩
      have q2 : ((((0 ≤ s ∧ s < hV a 285 18) ∧ 0 ≤ e ∧ e < hV a 285 60 ∧ hV a 293 s.toNat ≤ e) ∧ 0 ≤ mu ∧ mu < hV a 285 64 ∧ hV a 328 mu.toNat = 3) ∧ 0 ≤ q ∧ q ≤ 9) := ⟨⟨⟨⟨hs.1, by omega⟩, hq.2.1, by omega, hq.2.2.2.1⟩, hq.1⟩, hq.2.2.2.2⟩
      have sl2 : SHL a (hV a 9 s.toNat).toNat (pU (drf D S) T 7 6 (-1) 0) := by
        rw [o1, Int.toNat_natCast]
        exact sl
      have P := pg s.toNat (by omega)
      have fb := LR_bd kp vl zt (mk := hV a 340) k3 P
      have ls := LR_same kp vl zt (mk := hV a 340) k3
      obtain ⟨dd, a2⟩ := pb.2 q2
      have a1 := p2 q1 _ sl2 (by rw [k2]; exact fb) dd R R1 R3
      have a2 := a2 z.2.1 (by rw [← cp.1]; exact cp.2.1) (by rw [← ls]; exact fb) R rb R3
      rw [a1, a2, k2, ls, h20, h22] <;> rfl
    · rw [p1 (fun w => hq ⟨w.2.1, w.2.2⟩), pb.1 (fun w => hq ⟨w.1.2, w.1.1.2.1, by omega, w.1.1.2.2.2, w.2⟩)]
  · rw [p1 (fun w => hs w.1), pb.1 (fun w => hs ⟨w.1.1.1.1, by omega⟩)]
/-! At the start: no RULES. -/
theorem RO_st {h : gH} {f : Nat → Int} {o : Int} (n : Nat) (en : o = (n : Int)) (ho : o = 10 ∨ o = 36) (k : hK h n = 5) (m : ∀ j, j < 10 → hV h n j = f j) (f1 : f 1 = o + 1) (f3 : ∀ s : Nat, 3 ≤ s → s ≤ 9 → f s = o + s - 1) (kk : ∀ j : Nat, 1 ≤ j → j ≤ 8 → hK h (n + j) = 100) (l : hN h (n + 1) = 1000 ∧ (∀ j : Nat, 2 ≤ j → j ≤ 6 → hN h (n + j) = 12) ∧ hN h (n + 7) = 5 ∧ hN h (n + 8) = 64) : RO h o := by
  have e : o.toNat = n := by omega
  unfold RO
  rw [e]
  exact ⟨ho, k, fun s s1 s2 => (m s (by omega)).trans (f3 s s1 s2), (m 1 (by decide)).trans f1, kk, l.1, l.2.1, l.2.2.1, l.2.2.2⟩
set_option maxRecDepth 100000 in
theorem sS2_o10 : sNum sS2 10 (fun j => [0, 11, 0, 12, 13, 14, 15, 16, 17, 18].getD j 0) 10 false = true := by decide +kernel
set_option maxRecDepth 100000 in
theorem sS2_o36 : sNum sS2 36 (fun j => [0, 37, 0, 38, 39, 40, 41, 42, 43, 44].getD j 0) 10 false = true := by decide +kernel
def orl : List (Nat × Nat) := [(11, 1000), (12, 12), (13, 12), (14, 12), (15, 12), (16, 12), (17, 5), (18, 64), (37, 1000), (38, 12), (39, 12), (40, 12), (41, 12), (42, 12), (43, 5), (44, 64), (49, 64)]
set_option maxRecDepth 100000 in
theorem sS2_orl : (orl.all fun q => sLen sS2 q.1 q.2) = true := by decide +kernel
theorem s18 {P : Nat → Prop} (a : P 1) (b : P 2) (c : P 3) (d : P 4) (e : P 5) (f : P 6) (g : P 7) (i : P 8) : ∀ j : Nat, 1 ≤ j → j ≤ 8 → P j := fun j j1 j2 => by
  rcases (show j = 1 ∨ j = 2 ∨ j = 3 ∨ j = 4 ∨ j = 5 ∨ j = 6 ∨ j = 7 ∨ j = 8 by omega) with w | w | w | w | w | w | w | w <;> subst w <;> assumption
theorem s26 {P : Nat → Prop} (b : P 2) (c : P 3) (d : P 4) (e : P 5) (f : P 6) : ∀ j : Nat, 2 ≤ j → j ≤ 6 → P j := fun j j1 j2 => by
  rcases (show j = 2 ∨ j = 3 ∨ j = 4 ∨ j = 5 ∨ j = 6 by omega) with w | w | w | w | w <;> subst w <;> assumption
theorem s39 {P : Nat → Prop} (c : P 3) (d : P 4) (e : P 5) (f : P 6) (g : P 7) (i : P 8) (k : P 9) : ∀ j : Nat, 3 ≤ j → j ≤ 9 → P j := fun j j1 j2 => by
  rcases (show j = 3 ∨ j = 4 ∨ j = 5 ∨ j = 6 ∨ j = 7 ∨ j = 8 ∨ j = 9 by omega) with w | w | w | w | w | w | w <;> subst w <;> assumption
