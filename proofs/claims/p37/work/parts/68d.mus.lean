/-! THE REFERENCE'S SOUNDS as such a list (hand; behind mus2). -/
def RE (h : gH) : SE := (hV h 285 64, hV h 328, hV h 332, hV h 330, hV h 331, hV h 329, hV h 337)
noncomputable def cRE (W : List (Nat × Nat)) : Bool := vFree W 285 64 && (vFreeR W 328 && (vFreeR W 332 && (vFreeR W 330 && (vFreeR W 331 && (vFreeR W 329 && vFreeR W 337)))))
theorem RE_fr {W : List (Nat × Nat)} {a b : gH} (f : hFr W a b) (c : cRE W = true) : RE b = RE a := by
  unfold cRE at c
  simp only [Bool.and_eq_true] at c
  obtain ⟨c1, c2, c3, c4, c5, c6, c7⟩ := c
  unfold RE
  rw [f.1 285 64 c1, fRow f 328 c2, fRow f 332 c3, fRow f 330 c4, fRow f 331 c5, fRow f 329 c6, fRow f 337 c7]
theorem nxc_end {kind off chain : Nat → Int} {s n k i : Int} (hc : CHp kind off chain s n k) (h0 : 0 ≤ n) (hi : i = -1) : nxc chain n k i = s := by
  subst hi
  unfold nxc
  by_cases c : (-1 : Int) + 1 < n
  · rw [if_pos c]
    exact hc.2.1 (by omega)
  · rw [if_neg c]
    exact hc.1 (by omega)
theorem nxc_top {chain : Nat → Int} {n k i : Int} (hi : i = n - 1) : nxc chain n k i = k := by
  unfold nxc
  rw [if_neg (by omega)]
theorem LN_elem {E : SE} (z : SEok E) {chain : Nat → Int} {s n k i i' : Int} (hc : CHp E.2.1 E.2.2.1 chain s n k) (hs : s < E.1) (h0 : 0 ≤ i) (hi : i < n) (e : i' = i - 1) : LN E (chain i.toNat) = lnT (E.2.2.2.1 (chain i.toNat).toNat) (E.2.2.2.2.1 (chain i.toNat).toNat) (LN E (nxc chain n k i)) ∧ nxc chain n k i' = chain i.toNat := by
  obtain ⟨w1, w2, w3, w4⟩ := hc.2.2 i.toNat (by omega)
  have e1 := (CH_4 z w2 (by omega) w1).2.1
  have e2 : E.2.2.1 (chain i.toNat).toNat = nxc chain n k i := by
    rw [w4]
    unfold nxc
    by_cases c : i + 1 < n
    · rw [if_pos (by omega), if_pos c, show (i + 1).toNat = i.toNat + 1 by omega]
    · rw [if_neg (by omega), if_neg c]
  rw [e2] at e1
  refine ⟨e1, ?_⟩
  unfold nxc
  rw [if_pos (by omega)]
  exact congrArg chain (by omega)
theorem lrN_R {h : gH} {mk : Nat → Int} {q : Nat} {sh : Int} (k : hV h 298 q = 0) : lrN (nowR mk (recR h q, sh)) = (0, hV h 300 q, frM mk (hV h 301 q) (hV h 302 q) sh, hV h 305 (6 * q), hV h 305 (6 * q + 1), hV h 305 (6 * q + 2), hV h 305 (6 * q + 3), hV h 305 (6 * q + 4)) := by
  have e0 : (recR h q).1 = 0 := k
  have e5 : (recR h q).2.2.2.2.1 = hV h 302 q := if_pos (.inl k)
  have e8 : (recR h q).2.2.2.2.2.2.2.1 = hV h 305 (6 * q) := if_pos k
  have e9 : (recR h q).2.2.2.2.2.2.2.2.1 = hV h 305 (6 * q + 1) := if_pos k
  have ea : (recR h q).2.2.2.2.2.2.2.2.2.1 = hV h 305 (6 * q + 2) := if_pos k
  have eb : (recR h q).2.2.2.2.2.2.2.2.2.2.1 = hV h 305 (6 * q + 3) := if_pos k
  have ec : (recR h q).2.2.2.2.2.2.2.2.2.2.2 = hV h 305 (6 * q + 4) := if_pos k
  show (if (recR h q).1 = 0 then ((0 : Int), (recR h q).2.2.1, frM mk (recR h q).2.2.2.1 (recR h q).2.2.2.2.1 sh, (recR h q).2.2.2.2.2.2.2.1, (recR h q).2.2.2.2.2.2.2.2.1, (recR h q).2.2.2.2.2.2.2.2.2.1, (recR h q).2.2.2.2.2.2.2.2.2.2.1, (recR h q).2.2.2.2.2.2.2.2.2.2.2) else _) = _
  rw [if_pos e0, e5, e8, e9, ea, eb, ec]
  all_goals rfl
theorem lrN_no {h : gH} {mk : Nat → Int} {q : Nat} {sh : Int} (k : ¬ hV h 298 q = 0) : lrN (nowR mk (recR h q, sh)) = (1, 0, 0, 0, 0, 0, 0, 0) := if_neg k
theorem HR_end {E : SE} {L : List LR} {mu z k : Int} (h : (L.length : Int) ≤ k) (f : Int) : HRp E L mu z k f ↔ HRp E L mu z (L.length : Int) f := by
  refine ⟨fun ⟨j, d, w1, w2, w3⟩ => ⟨j, d, ?_, w2, w3⟩, fun ⟨j, d, w1, w2⟩ => ⟨j, d, by omega, w2⟩⟩
  have := (List.getElem?_eq_some_iff.mp w2).1
  omega
/-- the reference's list of CUES as they are now -/
def lrL (h : gH) (mk : Nat → Int) (L : List (Nat × Int)) : List LR := L.map (fun p => lrN (nowR mk (recR h p.1, p.2)))
theorem lrL_len {h : gH} {mk : Nat → Int} {L : List (Nat × Int)} : (lrL h mk L).length = L.length := List.length_map _
theorem lrL_at {h : gH} {mk : Nat → Int} {L : List (Nat × Int)} {k : Nat} {p : Nat × Int} (e : L[k]? = some p) : (lrL h mk L)[k]? = some (lrN (nowR mk (recR h p.1, p.2))) := by
  unfold lrL
  rw [List.getElem?_map, e]
  rfl
theorem recR_fr {W : List (Nat × Nat)} {a b : gH} (f : hFr W a b) (c : cC8 W = true) (q : Nat) : recR b q = recR a q := recR_eq (CRo_8 (CR8_fr f c))
