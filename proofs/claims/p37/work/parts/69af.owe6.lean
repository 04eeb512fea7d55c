/-! An E read by the class (hand). -/
theorem ws_len : ∀ ws : List Int, (ws.length : Int) = cW ws + cO ws
  | [] => rfl
  | w :: ws => by
    have i := ws_len ws
    rw [List.length_cons]
    by_cases c : w = 10
    · have y := cO_y (ws := ws) c
      omega
    · have y := cO_n (ws := ws) c
      omega
theorem xRel_len {s : Bool} : ∀ {ws : List Int} {out : List Op}, (xRel s ws out).1.length + (xRel s ws out).2.length = ws.length + out.length
  | [], _ => rfl
  | w :: ws, out => by
    unfold xRel
    by_cases c : w = 10 ∨ (s = true ∧ (w = 6 ∨ w = 7))
    · rw [if_pos c]
    · rw [if_neg c, xRel_len, List.length_append, List.length_cons]
      show ws.length + (out.length + 1) = ws.length + 1 + out.length
      omega
theorem xSt_len {k x : Int} {q : List Int × List Op} : (xSt k x q).1.length + (xSt k x q).2.length ≤ q.1.length + q.2.length + 1 := by
  have r0 := xRel_len (s := false) (ws := q.1) (out := q.2)
  have r1 := xRel_len (s := decide (8 ≤ k)) (ws := q.1) (out := q.2)
  unfold xSt
  by_cases c1 : k = 10
  · rw [if_pos c1]
    show q.1.length + 1 + q.2.length ≤ _
    omega
  rw [if_neg c1]
  by_cases c2 : k = 11
  · rw [if_pos c2]
    show (xRel false q.1 q.2).1.tail.length + (xRel false q.1 q.2).2.length ≤ _
    rw [List.length_tail]
    omega
  rw [if_neg c2]
  by_cases c3 : k = 3
  · rw [if_pos c3]
    show q.1.length + (q.2 ++ [_]).length ≤ _
    rw [List.length_append]
    show q.1.length + (q.2.length + 1) ≤ _
    omega
  rw [if_neg c3]
  by_cases c4 : 45 ≤ k
  · rw [if_pos c4]
    show q.1.length + (q.2 ++ [_]).length ≤ _
    rw [List.length_append]
    show q.1.length + (q.2.length + 1) ≤ _
    omega
  rw [if_neg c4]
  show (xRel (decide (8 ≤ k)) q.1 q.2).1.length + 1 + (xRel (decide (8 ≤ k)) q.1 q.2).2.length ≤ _
  omega
theorem xs_len {v : Vw} {a : Int} : ∀ n : Nat, (xs v a n).1.length + (xs v a n).2.length ≤ n
  | 0 => Nat.le_refl _
  | n + 1 => Nat.le_trans xSt_len (Nat.succ_le_succ (xs_len n))
theorem xE_len {v : Vw} {a b : Int} : (xE v a b).length ≤ (b - a).toNat := by
  have r := xRel_len (s := false) (ws := (xs v a (b - a).toNat).1) (out := (xs v a (b - a).toNat).2)
  have l := xs_len (v := v) (a := a) (b - a).toNat
  unfold xE
  omega
/-- between two TOKENS, p the next -/
def RSs (h : gH) (d : Int) (L : List Int) (v : Vw) (p0 p b o : Int) : Prop := p0 ≤ p ∧ XSh h d L (xs v p0 (p - p0).toNat) ∧ XI b o (xs v p0 (p - p0).toNat)
/-- TOKEN p is seen, not yet taken -/
def RTk (h : gH) (d : Int) (L : List Int) (v : Vw) (p0 p b o : Int) : Prop := p0 ≤ p ∧ XSh h d L (xSt (v.1 p) (v.2.1 p) (xs v p0 (p - p0).toNat)) ∧ XI b o (xSt (v.1 p) (v.2.1 p) (xs v p0 (p - p0).toNat))
theorem RTk_take {h g : gH} {d : Int} {L : List Int} {v : Vw} {p0 p p' b o : Int} (zh : RO h d) (r : RTk h d L v p0 p b o) (sm : SMf h g) (c15 : hV g 30 15 = hV h 30 15) (c49 : hV g 49 = hV h 49) (e : p' = p + 1) : RSs g d L v p0 p' b o := by
  obtain ⟨r1, ⟨r2, r3⟩, r4⟩ := r
  unfold RSs
  rw [xs_next r1 e]
  exact ⟨by omega, ⟨CODE_sm zh sm r2, WTs_eq c15 c49 r3⟩, r4⟩
theorem RSs_sm {h g : gH} {d : Int} {L : List Int} {v : Vw} {p0 p b o : Int} (zh : RO h d) (r : RSs h d L v p0 p b o) (sm : SMf h g) (c15 : hV g 30 15 = hV h 30 15) (c49 : hV g 49 = hV h 49) : RSs g d L v p0 p b o := by
  obtain ⟨r1, ⟨r2, r3⟩, r4⟩ := r
  exact ⟨r1, ⟨CODE_sm zh sm r2, WTs_eq c15 c49 r3⟩, r4⟩
theorem RSs_0 {h : gH} {d : Int} {L : List Int} {v : Vw} {p0 : Int} (c : CODE h d L) (w : hV h 30 15 = 0) : RSs h d L v p0 p0 1 0 := by
  unfold RSs
  rw [xs_0]
  refine ⟨Int.le_refl _, ⟨?_, w, trivial⟩, XI_0⟩
  show CODE h d (L ++ [])
  rw [List.append_nil]
  exact c
theorem RSs_b {h : gH} {d : Int} {L : List Int} {v : Vw} {p0 p b o : Int} (r : RSs h d L v p0 p b o) (hl : (L.length : Int) ≤ p0) (hp : p ≤ 900) (ho : o ≤ 7) : XSb L (xs v p0 (p - p0).toNat) := by
  obtain ⟨r1, _, r4⟩ := r
  have l := xs_len (v := v) (a := p0) (p - p0).toNat
  have w := ws_len (xs v p0 (p - p0).toNat).1
  have c := cW_le r4.1
  have o1 := r4.2.1
  exact ⟨r4.1, by omega, by omega⟩
theorem RTk_open {h g : gH} {d x : Int} {L : List Int} {v : Vw} {p0 p b o o' : Int} (zh : RO h d) (w : W49 h) (r : RSs h d L v p0 p b o) (hb : b = 1) (hl : (L.length : Int) ≤ p0) (hp : p ≤ 900) (ho : o ≤ 6) (k : v.1 p = 10) (sm : SMf h g) (hh : HOp h g x) (hx : x = 10) (eo : o' = o + 1) : RTk g d L v p0 p 1 o' := by
  have bb := RSs_b r hl hp (by omega)
  obtain ⟨r1, ⟨r2, r3⟩, r4⟩ := r
  subst hb
  subst hx
  subst eo
  unfold RTk
  rw [k]
  have ln := ws_len (xs v p0 (p - p0).toNat).1
  have c := cW_le r4.1
  have o1 := r4.2.1
  refine ⟨r1, ?_, XI_open r4⟩
  unfold xSt
  rw [if_pos rfl]
  exact ⟨CODE_sm zh sm r2, hh w _ r3 (by omega)⟩
theorem RTk_unit {h g : gH} {d n : Int} {L : List Int} {v : Vw} {p0 p b o : Int} (zh : RO h d) (r : RSs h d L v p0 p b o) (hb : b = 1) (hl : (L.length : Int) ≤ p0) (hp : p ≤ 900) (ho : o ≤ 6) (k : (v.1 p = 3 ∧ n = v.2.1 p ∧ 0 ≤ v.2.1 p ∧ v.2.1 p ≤ 9999) ∨ (45 ≤ v.1 p ∧ v.1 p ≤ 49 ∧ n = 10000 + v.1 p)) (em : EMp h g d n) (c15 : hV g 30 15 = hV h 30 15) (c49 : hV g 49 = hV h 49) : RTk g d L v p0 p 0 o := by
  have bb := RSs_b r hl hp (by omega)
  obtain ⟨r1, ⟨r2, r3⟩, r4⟩ := r
  subst hb
  have es : ∃ c : Op, xSt (v.1 p) (v.2.1 p) (xs v p0 (p - p0).toNat) = ((xs v p0 (p - p0).toNat).1, (xs v p0 (p - p0).toNat).2 ++ [c]) ∧ n = enc c ∧ XI 0 o (xSt (v.1 p) (v.2.1 p) (xs v p0 (p - p0).toNat)) := by
    rcases k with ⟨k1, k2, k3, k4⟩ | ⟨k1, k2, k3⟩
    · refine ⟨(0, v.2.1 p), ?_, k2, ?_⟩
      · rw [k1]
        rfl
      · rw [k1]
        exact XI_int r4 ho k3 k4
    · refine ⟨(1, v.1 p - 45), ?_, ?_, XI_var r4 ho k1 k2⟩
      · unfold xSt
        rw [if_neg (by omega), if_neg (by omega), if_neg (by omega), if_pos k1]
      · show n = 10045 + (v.1 p - 45)
        omega
  obtain ⟨c, e1, e2, e3⟩ := es
  refine ⟨r1, ?_, e3⟩
  rw [e1]
  have cg := (em zh).2 _ r2 (by have := xs_len (v := v) (a := p0) (p - p0).toNat; rw [List.length_append, List.length_map]; omega)
  refine ⟨?_, WTs_eq c15 c49 r3⟩
  show CODE g d (L ++ (_ ++ [c]).map enc)
  rw [List.map_append, ← List.append_assoc]
  show CODE g d ((L ++ _) ++ [enc c])
  rw [← e2]
  exact cg
theorem RTk_close {h g e : gH} {d n m i ob : Int} {L : List Int} {v : Vw} {p0 p b o o' : Int} (zh : RO h d) (w : W49 h) (r : RSs h d L v p0 p b o) (hb : b = 0) (hl : (L.length : Int) ≤ p0) (hp : p ≤ 900) (ho : o ≤ 7) (o0 : 0 < o) (k : v.1 p = 11) (rl : RELp h g d false) (em : m = hV g 30 15) (en : n = w32 (m - 1)) (u : hUpd e g ob i n) (hob : ob = 30) (hi : i = 15) (eo : o' = o - 1) : RTk e d L v p0 p 0 o' := by
  have bb := RSs_b r hl hp ho
  obtain ⟨r1, r2, r4⟩ := r
  subst hb
  subst hob
  subst hi
  subst eo
  have x := (rl zh w).2 _ _ r2 bb
  have zg := (rl zh w).1.1
  obtain ⟨⟨h1, h2, h3, h4⟩, hr⟩ := XI_rel (s := false) (ws := (xs v p0 (p - p0).toNat).1) (out := (xs v p0 (p - p0).toNat).2) r4
  have hr : hR (xRel false (xs v p0 (p - p0).toNat).1 (xs v p0 (p - p0).toNat).2).1 ≤ 0 := hr
  obtain ⟨t, et⟩ := cO_pos h1 hr (by omega)
  unfold RTk
  rw [k]
  refine ⟨r1, ?_, XI_close r4 o0⟩
  unfold xSt
  rw [if_neg (by decide), if_pos rfl]
  obtain ⟨x1, x2, x3⟩ := x
  have oz := zg.1
  have ln := xRel_len (s := false) (ws := (xs v p0 (p - p0).toNat).1) (out := (xs v p0 (p - p0).toNat).2)
  have b2 := bb.2.1
  rw [et] at x2 x3
  rw [et, List.length_cons] at ln
  rw [List.length_cons] at x2
  rw [w32_id (by omega) (by omega)] at en
  refine ⟨?_, ?_, ?_⟩
  · unfold CODE
    rw [uRowNe u d.toNat (by omega), uRowNe u (d.toNat + 1) (by omega)]
    exact x1
  · show hV e 30 15 = (((xRel false _ _).1.tail.length : Nat) : Int)
    rw [et, uSame u 30 15 rfl rfl]
    show n = (t.length : Int)
    omega
  · show stk (hV e 49) (xRel false _ _).1.tail
    rw [et, uRowNe u 49 (by decide)]
    exact x3.2
theorem RTk_sign {h g e : gH} {d x : Int} {s : Bool} {L : List Int} {v : Vw} {p0 p b o : Int} (zh : RO h d) (w : W49 h) (r : RSs h d L v p0 p b o) (hb : b = 0) (hl : (L.length : Int) ≤ p0) (hp : p ≤ 900) (ho : o ≤ 7) (k0 : 6 ≤ v.1 p) (k1 : v.1 p ≤ 9) (rl : RELp h g d s) (hs : s = decide (8 ≤ v.1 p)) (wg : W49 g) (sm : SMf g e) (hh : HOp g e x) (hx : x = v.1 p) : RTk e d L v p0 p 1 o := by
  have bb := RSs_b r hl hp ho
  obtain ⟨r1, r2, r4⟩ := r
  subst hb
  subst hx
  subst hs
  have y := (rl zh w).2 _ _ r2 bb
  have zg := (rl zh w).1.1
  have ln := xRel_len (s := decide (8 ≤ v.1 p)) (ws := (xs v p0 (p - p0).toNat).1) (out := (xs v p0 (p - p0).toNat).2)
  obtain ⟨⟨h1, h2, h3, h4⟩, hr⟩ := XI_rel (s := decide (8 ≤ v.1 p)) (ws := (xs v p0 (p - p0).toNat).1) (out := (xs v p0 (p - p0).toNat).2) r4
  have wl := ws_len (xRel (decide (8 ≤ v.1 p)) (xs v p0 (p - p0).toNat).1 (xs v p0 (p - p0).toNat).2).1
  have cw := cW_le h1
  refine ⟨r1, ?_, XI_sign r4 k0 k1⟩
  unfold xSt
  rw [if_neg (by omega), if_neg (by omega), if_neg (by omega), if_neg (by omega)]
  exact ⟨CODE_sm zg sm y.1, hh wg _ y.2 (by omega)⟩
/-- an E is read -/
theorem RSs_end {h g : gH} {d : Int} {L : List Int} {v : Vw} {p0 p b o : Int} (zh : RO h d) (w : W49 h) (r : RSs h d L v p0 p b o) (hb : b = 0) (ho : o = 0) (hl : (L.length : Int) ≤ p0) (hp : p ≤ 900) (rl : RELp h g d false) : p0 ≤ p ∧ CODE g d (L ++ (xE v p0 p).map enc) ∧ GE (xE v p0 p) := by
  have bb := RSs_b r hl hp (by omega)
  obtain ⟨r1, r2, r4⟩ := r
  subst hb
  subst ho
  exact ⟨r1, ((rl zh w).2 _ _ r2 bb).1, (XI_end r4).2⟩
theorem KO_rd {a b : gH} {d o i w : Int} (z : RO a d) (k30 : hK a 30 = 4) (u : hUpd b a o i w) (ho : o = 30) : KO a b d := by
  subst ho
  have oz := z.1
  have oe : ∀ q : Nat, ¬ q = 30 → hV b q = hV a q := fun q h => uRowNe u q (by omega)
  have ze : RO b d := by
    obtain ⟨z1, z2, z3, z4, z5, z6, z7, z8, z9⟩ := z
    have od := oe d.toNat (by omega)
    exact ⟨z1, (u.2.2 _).1.trans z2, fun s s1 s2 => (congrFun od s).trans (z3 s s1 s2), (congrFun od 1).trans z4, fun j j1 j2 => (u.2.2 _).1.trans (z5 j j1 j2), (u.2.2 _).2.trans z6, fun j j1 j2 => (u.2.2 _).2.trans (z7 j j1 j2), (u.2.2 _).2.trans z8, (u.2.2 _).2.trans z9⟩
  exact ⟨ze, fun j _ _ => oe _ (by omega), fun s _ => congrFun (oe d.toNat (by omega)) s, fun q k => ⟨(u.2.2 q).1, fun _ => oe q (fun e => by
    rw [e, k30] at k
    omega)⟩⟩
theorem CODE_rd {a b : gH} {d o i w : Int} {L : List Int} (z : RO a d) (u : hUpd b a o i w) (ho : o = 30) (c : CODE a d L) : CODE b d L := by
  subst ho
  have oz := z.1
  unfold CODE
  rw [uRowNe u d.toNat (by omega), uRowNe u (d.toNat + 1) (by omega)]
  exact c
theorem W49_up {a b : gH} {o i w : Int} (u : hUpd b a o i w) (z : W49 a) : W49 b := ⟨(u.2.2 49).1.trans z.1, (u.2.2 49).2.trans z.2⟩
theorem rkF_c {k : Int} (k0 : 6 ≤ k) (k1 : k ≤ 9) : (rkF k = 1 ∨ rkF k = 2) ∧ decide (rkF k = 2) = decide (8 ≤ k) := by
  rcases (show k = 6 ∨ k = 7 ∨ k = 8 ∨ k = 9 by omega) with c | c | c | c <;> subst c <;> decide
theorem TV_of {h : gH} (z : TKI h) (s : Int) : 0 ≤ (vwC h).2.1 s ∧ (vwC h).2.1 s ≤ 9999 := by
  have e : (vwC h).2.1 s = if 500 < s then 0 else if kC h s = 3 then uC h s else 0 := rfl
  rw [e]
  by_cases c : 500 < s
  · rw [if_pos c]
    decide
  · rw [if_neg c]
    by_cases k : kC h s = 3
    · rw [if_pos k]
      exact z.2.2.2.2.1 s k
    · rw [if_neg k]
      decide
