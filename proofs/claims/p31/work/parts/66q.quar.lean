/-! QUARRELS (hand; behind sheet9). -/
/-- two fades of one STEM that quarrel, of CUES as they are now -/
def qrB (p q : CR) : Bool := decide (p.1 = 1) && (decide (q.1 = 1) && (decide (p.2.2.1 = q.2.2.1) && (bif decide (q.2.2.2.2.1 < p.2.2.2.2.1) then decide (p.2.2.2.2.1 < q.2.2.2.2.2.2.1) else decide (q.2.2.2.2.1 < p.2.2.2.2.2.2.1))))
def qg (L : List CR) (k : Nat) : CR := (L[k]?).getD (0, 0, 0, 0, 0, 0, 0, 0, 0, 0, 0, 0)
def qRow (L : List CR) (j : Nat) : Nat → Nat → List Int
  | 0, _ => []
  | f + 1, k => bif qrB (qg L j) (qg L k) then (64 * (j : Int) + (k : Int)) :: qRow L j f (k + 1) else qRow L j f (k + 1)
def qAll (L : List CR) (n : Nat) : Nat → Nat → List Int
  | 0, _ => []
  | f + 1, j => qRow L j (n - (j + 1)) (j + 1) ++ qAll L n f (j + 1)
def qPick (l : List Int) (i : Int) : Int := (l[i.toNat]?).getD (-1)
def qAns (L : List CR) (i : Int) : Int := qPick (qAll L L.length L.length 0) i
def QO (L : List CR) (j left a : Int) : Prop := 0 ≤ left ∧ 0 ≤ j ∧ qPick (qAll L L.length (L.length - j.toNat) j.toNat) left = a
def QI (L : List CR) (j k left a : Int) : Prop := 0 ≤ left ∧ 0 ≤ j ∧ j < k ∧ k ≤ (L.length : Int) ∧ qPick (qRow L j.toNat (L.length - k.toNat) k.toNat ++ qAll L L.length (L.length - (j.toNat + 1)) (j.toNat + 1)) left = a
theorem qPick_0 {x : Int} {l : List Int} {i : Int} (h : i = 0) : qPick (x :: l) i = x := by
  subst h
  rfl
theorem qPick_s {x : Int} {l : List Int} {i j : Int} (h : 0 ≤ i) (n : ¬ i = 0) (e : j = i - 1) : qPick (x :: l) i = qPick l j := by
  unfold qPick
  rw [show i.toNat = j.toNat + 1 by omega]
  rfl
theorem QO_0 {L : List CR} {i j : Int} (h : 0 ≤ i) (hj : j = 0) : QO L j i (qAns L i) := by
  subst hj
  exact ⟨h, Int.le_refl 0, rfl⟩
theorem QO_end {L : List CR} {j left a : Int} (z : QO L j left a) (h : (L.length : Int) ≤ j) : a = -1 := by
  obtain ⟨z1, z2, z3⟩ := z
  rw [show L.length - j.toNat = 0 by omega] at z3
  rw [← z3]
  rfl
theorem QO_in {L : List CR} {j k left a : Int} (z : QO L j left a) (h : j < (L.length : Int)) (e : k = j + 1) : QI L j k left a := by
  obtain ⟨z1, z2, z3⟩ := z
  subst e
  refine ⟨z1, z2, by omega, by omega, ?_⟩
  rw [show L.length - j.toNat = (L.length - (j.toNat + 1)) + 1 by omega] at z3
  rw [show (j + 1).toNat = j.toNat + 1 by omega]
  exact z3
theorem QI_end {L : List CR} {j j' k left a : Int} (z : QI L j k left a) (h : (L.length : Int) ≤ k) (e : j' = j + 1) : QO L j' left a := by
  obtain ⟨z1, z2, z3, z4, z5⟩ := z
  subst e
  rw [show L.length - k.toNat = 0 by omega] at z5
  refine ⟨z1, by omega, ?_⟩
  rw [show (j + 1).toNat = j.toNat + 1 by omega]
  exact z5
theorem QI_row {L : List CR} {j k left a : Int} (z : QI L j k left a) (h : k < (L.length : Int)) : qPick ((bif qrB (qg L j.toNat) (qg L k.toNat) then (64 * (j.toNat : Int) + (k.toNat : Int)) :: qRow L j.toNat (L.length - (k + 1).toNat) (k + 1).toNat else qRow L j.toNat (L.length - (k + 1).toNat) (k + 1).toNat) ++ qAll L L.length (L.length - (j.toNat + 1)) (j.toNat + 1)) left = a := by
  obtain ⟨z1, z2, z3, z4, z5⟩ := z
  rw [show L.length - k.toNat = (L.length - (k + 1).toNat) + 1 by omega] at z5
  rw [show (k + 1).toNat = k.toNat + 1 by omega]
  rw [show (k + 1).toNat = k.toNat + 1 by omega] at z5
  exact z5
theorem QI_no {L : List CR} {j k k' left a : Int} (z : QI L j k left a) (h : k < (L.length : Int)) (n : qrB (qg L j.toNat) (qg L k.toNat) = false) (e : k' = k + 1) : QI L j k' left a := by
  have w := QI_row z h
  rw [n, cond_false] at w
  obtain ⟨z1, z2, z3, z4, z5⟩ := z
  subst e
  exact ⟨z1, z2, by omega, by omega, w⟩
theorem QI_hit {L : List CR} {j k k' left left' a : Int} (z : QI L j k left a) (h : k < (L.length : Int)) (y : qrB (qg L j.toNat) (qg L k.toNat) = true) (l : ¬ left = 0) (e : k' = k + 1) (e2 : left' = left - 1) : QI L j k' left' a := by
  have w := QI_row z h
  rw [y, cond_true, List.cons_append, qPick_s z.1 l e2] at w
  obtain ⟨z1, z2, z3, z4, z5⟩ := z
  subst e
  exact ⟨by omega, z2, by omega, by omega, w⟩
theorem QI_fin {L : List CR} {j k left a : Int} (z : QI L j k left a) (h : k < (L.length : Int)) (y : qrB (qg L j.toNat) (qg L k.toNat) = true) (l : left = 0) : a = 64 * j + k := by
  have w := QI_row z h
  rw [y, cond_true, List.cons_append, qPick_0 l] at w
  obtain ⟨z1, z2, z3, z4, z5⟩ := z
  omega
/-- a fade as it is now, all else -/
def fdN (r : CR) : CR := if r.1 = 1 then (1, 0, r.2.2.1, 0, r.2.2.2.2.1, 0, r.2.2.2.2.2.2.1, 0, 0, 0, 0, 0) else (0, 0, 0, 0, 0, 0, 0, 0, 0, 0, 0, 0)
/-- the class's -/
def fdC (mk : Nat → Int) (r : CR) : CR := if r.1 = 1 then (1, 0, r.2.2.1, 0, nwW mk r.2.2.2.1 r.2.2.2.2.1, 0, nwW mk r.2.2.2.2.2.1 r.2.2.2.2.2.2.1, 0, 0, 0, 0, 0) else (0, 0, 0, 0, 0, 0, 0, 0, 0, 0, 0, 0)
theorem fdC_N {mk : Nat → Int} {r : CR} (e : EKr r) (b : ∀ k : Nat, 0 ≤ mk k ∧ mk k ≤ 60) : fdC mk r = fdN (nowC mk r) := by
  obtain ⟨e1, e2, e3, e4, e5, e6, e7⟩ := e
  show (if r.1 = 1 then _ else _) = (if r.1 = 1 then _ else _)
  by_cases c : r.1 = 1
  · have m := e3 (by omega)
    have n := e4 c
    rw [if_pos c, if_pos c, nwW_nw m.1 m.2 e5.1 e5.2 b, nwW_nw n.1 n.2 e6 e7 b]
    all_goals rfl
  · rw [if_neg c, if_neg c]
theorem qrB_k1 {mk : Nat → Int} {p q : CR} (h : ¬ p.1 = 1) : qrB (fdC mk p) q = false := by
  unfold fdC
  rw [if_neg h]
  rfl
theorem qrB_k2 {mk : Nat → Int} {p q : CR} (h : ¬ q.1 = 1) : qrB p (fdC mk q) = false := by
  unfold fdC
  rw [if_neg h]
  show (decide (p.1 = 1) && (decide ((0 : Int) = 1) && _)) = false
  rw [show decide ((0 : Int) = 1) = false from rfl, Bool.false_and, Bool.and_false]
theorem qrB_m {mk : Nat → Int} {p q : CR} (h : p.1 = 1) (h2 : q.1 = 1) : qrB (fdC mk p) (fdC mk q) = (decide (p.2.2.1 = q.2.2.1) && (bif decide (nwW mk q.2.2.2.1 q.2.2.2.2.1 < nwW mk p.2.2.2.1 p.2.2.2.2.1) then decide (nwW mk p.2.2.2.1 p.2.2.2.2.1 < nwW mk q.2.2.2.2.2.1 q.2.2.2.2.2.2.1) else decide (nwW mk q.2.2.2.1 q.2.2.2.2.1 < nwW mk p.2.2.2.2.2.1 p.2.2.2.2.2.2.1))) := by
  unfold fdC
  rw [if_pos h, if_pos h2]
  show (decide ((1 : Int) = 1) && (decide ((1 : Int) = 1) && _)) = _
  rw [show decide ((1 : Int) = 1) = true from rfl, Bool.true_and, Bool.true_and]
theorem qg_map {E : List CR} {f : CR → CR} {k : Nat} {p : CR} (h : E[k]? = some p) : qg (E.map f) k = f p := by
  unfold qg
  rw [List.getElem?_map, h]
  rfl
theorem qrN_k1 {p q : CR} (h : ¬ p.1 = 1) : qrB (fdN p) q = false := by
  unfold fdN
  rw [if_neg h]
  rfl
theorem qrN_k2 {p q : CR} (h : ¬ q.1 = 1) : qrB p (fdN q) = false := by
  unfold fdN
  rw [if_neg h]
  show (decide (p.1 = 1) && (decide ((0 : Int) = 1) && _)) = false
  rw [show decide ((0 : Int) = 1) = false from rfl, Bool.false_and, Bool.and_false]
theorem qrN_m {p q : CR} (h : p.1 = 1) (h2 : q.1 = 1) : qrB (fdN p) (fdN q) = (decide (p.2.2.1 = q.2.2.1) && (bif decide (q.2.2.2.2.1 < p.2.2.2.2.1) then decide (p.2.2.2.2.1 < q.2.2.2.2.2.2.1) else decide (q.2.2.2.2.1 < p.2.2.2.2.2.2.1))) := by
  unfold fdN
  rw [if_pos h, if_pos h2]
  show (decide ((1 : Int) = 1) && (decide ((1 : Int) = 1) && _)) = _
  rw [show decide ((1 : Int) = 1) = true from rfl, Bool.true_and, Bool.true_and]
/-- the reference's list of CUES as they are now -/
def nwL (h : gH) (mk : Nat → Int) (L : List (Nat × Int)) : List CR := L.map (fun p => fdN (nowR mk (recR h p.1, p.2)))
theorem nwL_len {h : gH} {mk : Nat → Int} {L : List (Nat × Int)} : (nwL h mk L).length = L.length := List.length_map _
theorem nwL_at {h : gH} {mk : Nat → Int} {L : List (Nat × Int)} {k : Nat} {p : Nat × Int} (e : L[k]? = some p) : qg (nwL h mk L) k = fdN (nowR mk (recR h p.1, p.2)) := by
  unfold qg nwL
  rw [List.getElem?_map, e]
  rfl
/-- two CUES of the reference's list: kinds, STEMS, T's as they were read -/
theorem nwR_k {h : gH} {mk : Nat → Int} {p : Nat × Int} : (nowR mk (recR h p.1, p.2)).1 = hV h 298 p.1 := rfl
theorem nwR_s {h : gH} {mk : Nat → Int} {p : Nat × Int} : (nowR mk (recR h p.1, p.2)).2.2.1 = hV h 300 p.1 := rfl
theorem nwR_a {h : gH} {mk : Nat → Int} {p : Nat × Int} (k : hV h 298 p.1 = 1) : (nowR mk (recR h p.1, p.2)).2.2.2.2.1 = frM mk (hV h 301 p.1) (hV h 302 p.1) p.2 := by
  show frM mk (hV h 301 p.1) (recR h p.1).2.2.2.2.1 p.2 = _
  rw [show (recR h p.1).2.2.2.2.1 = hV h 302 p.1 from if_pos (.inr (.inl k))]
theorem nwR_t {h : gH} {mk : Nat → Int} {p : Nat × Int} (k : hV h 298 p.1 = 1) : (nowR mk (recR h p.1, p.2)).2.2.2.2.2.2.1 = frM mk (hV h 303 p.1) (hV h 304 p.1) p.2 := by
  show frM mk (hV h 303 p.1) (recR h p.1).2.2.2.2.2.2.1 p.2 = _
  rw [show (recR h p.1).2.2.2.2.2.2.1 = hV h 304 p.1 from if_pos k]
/-- quarrel answers alike -/
theorem QUAR_eq {W : List (Nat × Nat)} {a b : gH} {r1 r2 s i : Int} (cp : CPL a) (sc : SHC a) (mk : MKS a) (f : hFr W a b) (c : (cRC W && vFreeR W 340) = true) (pa : K79 a → K25 a → (¬ ((0 ≤ s ∧ s < hV a 7 4) ∧ 0 ≤ i) → r1 = -1) ∧ (0 ≤ s → s < hV a 7 4 → 0 ≤ i → ∀ E : List CR, 0 ≤ hV a 9 (s).toNat → SHL a (hV a 9 (s).toNat).toNat E → r1 = qAns (E.map (fdC (hV a 25))) i)) (pb : (¬ ((0 ≤ s ∧ s < hV b 285 18) ∧ 0 ≤ i) → r2 = -1) ∧ ((0 ≤ s ∧ s < hV b 285 18) → 0 ≤ i → r2 = qAns (nwL b (hV b 340) (flS (hV b 296) (hV b 298) (hV b 300) (hV b 301) (hV b 302) (hV b 340) (7 * (s).toNat) 7 6 0)) i)) : r2 = r1 := by
  rw [Bool.and_eq_true] at c
  obtain ⟨c0, c340⟩ := c
  unfold cRC at c0
  simp only [Bool.and_eq_true] at c0
  obtain ⟨c1, c2, c3⟩ := c0
  obtain ⟨e4, e3, m1, m2⟩ := CPL_s cp
  have e18 : hV b 285 18 = hV a 285 18 := f.1 285 18 c1
  have e8 := CR8_fr f c3
  obtain ⟨x1, x2, x3, x4, x5, x6, x7, x8⟩ := e8
  have er : ∀ q : Nat, recR b q = recR a q := fun q => recR_eq (CRo_8 (CR8_fr f c3))
  obtain ⟨k1, k2, k3⟩ := mk
  obtain ⟨p1, p2⟩ := pa sc.2.1 k1
  by_cases hs : (0 ≤ s ∧ s < hV a 7 4) ∧ 0 ≤ i
  · obtain ⟨o, o1, o2, D, S, T, kp, vl, zt, sl⟩ := sc.2.2.2 s.toNat (by omega)
    have sl2 : SHL a (hV a 9 s.toNat).toNat (pU (drf D S) T 7 6 (-1) 0) := by
      rw [o1, Int.toNat_natCast]
      exact sl
    have q1 := p2 hs.1.1 hs.1.2 hs.2 _ (by rw [o1]; omega) sl2
    have q2 := pb.2 ⟨hs.1.1, by omega⟩ hs.2
    rw [fRow f 296 c2, x1, x3, x4, x5, fRow f 340 c340] at q2
    rw [q1, q2, k2]
    refine congrArg (fun l => qAns l i) ?_
    have en := congrArg (List.map fdN) (SH_len kp vl zt (hV a 340))
    rw [List.map_map, List.map_map] at en
    have e1 : (pU (drf D S) T 7 6 (-1) 0).map (fdC (hV a 340)) = (pU (drf D S) T 7 6 (-1) 0).map (fdN ∘ nowC (hV a 340)) := List.map_congr_left fun p hp => fdC_N (pU_ok vl (n := 6) (Nat.le_refl _) (.inr rfl) (by decide) (by decide) (by decide) (by decide) hp) k3
    rw [e1, en]
    unfold nwL
    refine List.map_congr_left fun p _ => ?_
    rw [er]
    rfl
  · rw [p1 hs, pb.1 (fun z => hs ⟨⟨z.1.1, by omega⟩, z.2⟩)]
