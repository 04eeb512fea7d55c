/-! THE RULES read by the class: code, signs that wait (hand). -/
theorem SMf_tr {a b c : gH} (x : SMf a b) (y : SMf b c) : SMf a c := ⟨x.1.trans y.1, fun o k => (y.2 o (k.elim (fun k => .inl (kLe x.1 k rfl)) (fun k => .inr (kLe x.1 k rfl)))).trans (x.2 o k)⟩
/-- the code so far -/
def CODE (h : gH) (d : Int) (L : List Int) : Prop := hV h d.toNat 2 = (L.length : Int) ∧ ∀ (j : Nat) (x : Int), L[j]? = some x → hV h (d.toNat + 1) j = x
/-- other Rules' cells stay -/
def OT (a b : gH) (d : Int) : Prop := ∀ q : Nat, hK a q = 5 ∨ hK a q = 100 → hK b q = hK a q ∧ (q < d.toNat ∨ d.toNat + 8 < q → hV b q = hV a q)
theorem OT_tr {a b c : gH} {d : Int} (x : OT a b d) (y : OT b c d) : OT a c d := fun q k => by
  have e := (x q k).1
  have k' : hK b q = 5 ∨ hK b q = 100 := by
    rw [e]
    exact k
  exact ⟨(y q k').1.trans e, fun h => ((y q k').2 h).trans ((x q k).2 h)⟩
theorem OT_sm {a b : gH} {d : Int} (s : SMf a b) : OT a b d := fun q k => ⟨k.elim (fun k => (kLe s.1 k rfl).trans k.symm) (fun k => (kLe s.1 k rfl).trans k.symm), fun _ => s.2 q k⟩
/-- what emitting leaves as it is -/
def KO (a b : gH) (d : Int) : Prop := RO b d ∧ (∀ j : Nat, 2 ≤ j → j ≤ 8 → hV b (d.toNat + j) = hV a (d.toNat + j)) ∧ (∀ s : Nat, ¬ s = 2 → hV b d.toNat s = hV a d.toNat s) ∧ OT a b d
theorem KO_tr {a b c : gH} {o : Int} (x : KO a b o) (y : KO b c o) : KO a c o := ⟨y.1, fun j j1 j2 => (y.2.1 j j1 j2).trans (x.2.1 j j1 j2), fun s s1 => (y.2.2.1 s s1).trans (x.2.2.1 s s1), OT_tr x.2.2.2 y.2.2.2⟩
theorem KO_rfl {a : gH} {o : Int} (z : RO a o) : KO a a o := ⟨z, fun _ _ _ => rfl, fun _ _ => rfl, fun _ _ => ⟨rfl, fun _ => rfl⟩⟩
theorem KO_sm {a b : gH} {o : Int} (z : RO a o) (s : SMf a b) : KO a b o := by
  have e := s.2 _ (.inl z.2.1)
  exact ⟨RO_le s.1 z ⟨fun k _ _ => congrFun e k, congrFun e 1⟩, fun j j1 j2 => s.2 _ (.inr (z.2.2.2.2.1 j (by omega) j2)), fun k _ => congrFun e k, OT_sm s⟩
theorem CODE_sm {a b : gH} {o : Int} {L : List Int} (z : RO a o) (s : SMf a b) (e : CODE a o L) : CODE b o L := by
  unfold CODE
  rw [s.2 _ (.inl z.2.1), s.2 _ (.inr (z.2.2.2.2.1 1 (by decide) (by decide)))]
  exact e
def EMp (a b : gH) (d x : Int) : Prop := RO a d → KO a b d ∧ ∀ L : List Int, CODE a d L → L.length < 1000 → CODE b d (L ++ [x])
theorem emit_no {a : gH} {d x n : Int} (e : n = hV a d.toNat 2) (h : n < 0 ∨ 1000 ≤ n) : EMp a a d x := fun z => ⟨KO_rfl z, fun L c l => by
  exfalso
  have := c.1
  omega⟩
theorem emit_at {a b c : gH} {d x n6 n7 n8 n10 i : Int} (e6 : n6 = hV a d.toNat 1) (e7 : n7 = hV a d.toNat 2) (u : hUpd b a n6 n7 x) (e8 : n8 = hV b d.toNat 2) (w : n10 = w32 (n8 + 1)) (u2 : hUpd c b d i n10) (hi : i = 2) : EMp a c d x := fun z => by
  have r6 : n6 = ((d.toNat + 1 : Nat) : Int) := RO_row z e6 (.inl rfl)
  obtain ⟨z1, z2, z3, z4, z5, z6, z7, z8, z9⟩ := z
  have o0 : ((d.toNat : Nat) : Int) = d := Int.toNat_of_nonneg (by omega)
  subst hi
  have ob : hV b d.toNat = hV a d.toNat := uRowNe u _ (by omega)
  have sl : ∀ s : Nat, ¬ s = 2 → hV c d.toNat s = hV a d.toNat s := fun s s1 => (uSlot u2 _ s (by omega)).trans (congrFun ob s)
  have kk : ∀ q : Nat, hK c q = hK a q ∧ hN c q = hN a q := fun q => ⟨(u2.2.2 q).1.trans (u.2.2 q).1, (u2.2.2 q).2.trans (u.2.2 q).2⟩
  refine ⟨⟨⟨z1, (kk _).1.trans z2, fun s s1 s2 => (sl s (by omega)).trans (z3 s s1 s2), (sl 1 (by decide)).trans z4, fun j j1 j2 => (kk _).1.trans (z5 j j1 j2), (kk _).2.trans z6, fun j j1 j2 => (kk _).2.trans (z7 j j1 j2), (kk _).2.trans z8, (kk _).2.trans z9⟩, fun j j1 _ => (uRowNe u2 _ (by omega)).trans (uRowNe u _ (by omega)), sl, fun q _ => ⟨(kk q).1, fun h => (uRowNe u2 q (by omega)).trans (uRowNe u q (by omega))⟩⟩, fun L cd l => ?_⟩
  have c1 := cd.1
  rw [congrFun ob 2] at e8
  rw [w32_id (by omega) (by omega)] at w
  refine ⟨?_, fun j y hj => ?_⟩
  · rw [uSame u2 d.toNat 2 o0 rfl, List.length_append]
    show n10 = ((L.length + 1 : Nat) : Int)
    omega
  · rw [uRowNe u2 (d.toNat + 1) (by omega), uRow u (d.toNat + 1) (by omega), uF_at]
    by_cases q : j < L.length
    · rw [List.getElem?_append_left q] at hj
      rw [if_neg (by omega)]
      exact cd.2 j y hj
    · rw [List.getElem?_append_right (by omega)] at hj
      have hz : j - L.length = 0 := Classical.byContradiction fun n => by
        rw [List.getElem?_eq_none (by show 1 ≤ j - L.length; omega)] at hj
        cases hj
      rw [hz] at hj
      have hj : some x = some y := hj
      rw [if_pos (by omega)]
      exact Option.some.inj hj
/-- the signs that wait: row 49, how many: slot 15 of the reader -/
def WTs (h : gH) (ws : List Int) : Prop := hV h 30 15 = (ws.length : Int) ∧ stk (hV h 49) ws
def W49 (h : gH) : Prop := hK h 49 = 740 ∧ hN h 49 = 64
theorem W49_le {a b : gH} (le : hLe T0 a b) (z : W49 a) : W49 b := ⟨kLe le z.1 rfl, (le.2 _ (hK_lt z.1 (by decide))).2.1.trans z.2⟩
theorem WTs_eq {a b : gH} {ws : List Int} (e1 : hV b 30 15 = hV a 30 15) (e2 : hV b 49 = hV a 49) (z : WTs a ws) : WTs b ws := by
  unfold WTs
  rw [e1, e2]
  exact z
def HOp (a b : gH) (x : Int) : Prop := W49 a → ∀ ws : List Int, WTs a ws → ws.length < 64 → WTs b (x :: ws)
theorem hold_at {a b c : gH} {o x n2 n3 n4 n6 i : Int} (e2 : n2 = 49) (e3 : n3 = hV a 30 15) (p : putQ n2 n3 x a b) (e4 : n4 = hV b 30 15) (e6 : n6 = w32 (n4 + 1)) (u : hUpd c b o i n6) (ho : o = 30) (hi : i = 15) : HOp a c x := fun w ws z l => by
  obtain ⟨z1, z2⟩ := z
  subst ho
  subst hi
  have ob : hV b 30 = hV a 30 := putQ_ne p _ (by omega)
  have rw_ : hV b 49 = uF (hV a 49) n3 x := putQ_r (q := 49) (n := 64) p e2 w.2 (by omega)
  rw [ob] at e4
  rw [w32_id (by omega) (by omega)] at e6
  refine ⟨?_, ?_⟩
  · rw [uSame u 30 15 rfl rfl, List.length_cons]
    omega
  · rw [uRowNe u 49 (by decide), rw_]
    refine ⟨?_, stk_up z2 (by omega)⟩
    rw [uF_at, if_pos (by omega)]
def rkF (w : Int) : Int := if w = 10 then 0 else if w = 8 ∨ w = 9 then 2 else 1
def XSh (h : gH) (d : Int) (L : List Int) (q : List Int × List Op) : Prop := CODE h d (L ++ q.2.map enc) ∧ WTs h q.1
def XSb (L : List Int) (q : List Int × List Op) : Prop := okW q.1 ∧ L.length + (q.1.length + q.2.length) ≤ 1000 ∧ q.1.length ≤ 64
def RELp (a b : gH) (d : Int) (s : Bool) : Prop := RO a d → W49 a → KO a b d ∧ ∀ (L : List Int) (q : List Int × List Op), XSh a d L q → XSb L q → XSh b d L (xRel s q.1 q.2)
def RELi (a b : gH) (d : Int) (s : Bool) : Prop := RO a d → W49 a → KO a b d ∧ W49 b ∧ ∀ (L : List Int) (q : List Int × List Op), XSh a d L q → XSb L q → ∃ q', XSh b d L q' ∧ XSb L q' ∧ xRel s q.1 q.2 = xRel s q'.1 q'.2
theorem REL_0 {a : gH} {d : Int} {s : Bool} : RELi a a d s := fun z w => ⟨KO_rfl z, w, fun _ q x y => ⟨q, x, y, rfl⟩⟩
theorem REL_nil {a b : gH} {d n : Int} {s : Bool} (z0 : RELi a b d s) (e : n = hV b 30 15) (h : n ≤ 0) : RELp a b d s := fun z w => by
  obtain ⟨v, _, k⟩ := z0 z w
  refine ⟨v, fun L q x y => ?_⟩
  obtain ⟨q', x', y', e'⟩ := k L q x y
  rw [e']
  obtain ⟨ws, out⟩ := q'
  have l := x'.2.1
  match ws, l, x' with
  | [], _, x' => exact x'
  | t :: r, l, _ =>
    have l : hV b 30 15 = ((r.length + 1 : Nat) : Int) := l
    omega
theorem REL_end {a b c : gH} {d n4 n8 n9 n10 m : Int} {s : Bool} (z0 : RELi a b d s) (p0 : 0 < n4) (e4 : n4 = hV b 30 15) (e8 : n8 = w32 (n4 - 1)) (e9 : n9 = atQ b 49 n8) (rk : n10 = rkF n9) (lt : n10 < m) (hm : (m = 1 ∧ s = false) ∨ (m = 2 ∧ s = true)) (sm : SMf b c) (c15 : hV c 30 15 = hV b 30 15) (c49 : hV c 49 = hV b 49) : RELp a c d s := fun z w => by
  obtain ⟨v, w', k⟩ := z0 z w
  refine ⟨KO_tr v (KO_sm v.1 sm), fun L q x y => ?_⟩
  obtain ⟨q', x', y', e'⟩ := k L q x y
  rw [e']
  obtain ⟨ws, out⟩ := q'
  have l := x'.2.1
  have l2 := y'.2.2
  have st := x'.2.2
  match ws, l, l2, st, x', y' with
  | [], l, _, _, _, _ =>
    have l : hV b 30 15 = 0 := l
    omega
  | t :: r, l, l2, st, x', y' =>
    have l : hV b 30 15 = ((r.length + 1 : Nat) : Int) := l
    have l2 : r.length + 1 ≤ 64 := l2
    rw [w32_id (by omega) (by omega)] at e8
    have ea := atQ_r (q := 49) (n := 64) e9 rfl w'.2
    rw [if_pos (by omega), show n8.toNat = r.length by omega, show hV b 49 r.length = t from st.1] at ea
    rw [ea] at rk
    have ok := y'.1
    have t0 : 6 ≤ t := ok.2.1
    have t1 : t ≤ 10 := ok.2.2.1
    have cc : t = 10 ∨ (s = true ∧ (t = 6 ∨ t = 7)) := by
      unfold rkF at rk
      by_cases h1 : t = 10
      · exact .inl h1
      · rw [if_neg h1] at rk
        by_cases h2 : t = 8 ∨ t = 9
        · rw [if_pos h2] at rk
          exfalso
          rcases hm with hm | hm <;> omega
        · rw [if_neg h2] at rk
          rcases hm with hm | hm
          · exfalso
            omega
          · exact .inr ⟨hm.2, by omega⟩
    have er : xRel s (t :: r) out = (t :: r, out) := if_pos cc
    show XSh c d L (xRel s (t :: r) out)
    rw [er]
    exact ⟨CODE_sm v.1 sm x'.1, WTs_eq c15 c49 x'.2⟩
theorem REL_step {a b c e f g : gH} {d n4 n8 n9 n10 n11 n13 n18 n19 n20 m o i : Int} {s : Bool} (z0 : RELi a b d s) (p0 : 0 < n4) (e4 : n4 = hV b 30 15) (e8 : n8 = w32 (n4 - 1)) (e9 : n9 = atQ b 49 n8) (rk : n10 = rkF n9) (ge : m ≤ n10) (hm : (m = 1 ∧ s = false) ∨ (m = 2 ∧ s = true)) (sm : SMf b c) (c15 : hV c 30 15 = hV b 30 15) (c49 : hV c 49 = hV b 49) (e11 : n11 = hV c 30 15) (e13 : n13 = w32 (n11 - 1)) (k30 : hK c 30 = 4) (u : hUpd e c o i n13) (ho : o = 30) (hi : i = 15) (e18 : n18 = hV e 30 15) (e19 : n19 = atQ e 49 n18) (sf : SMf e f) (f15 : hV f 30 15 = hV e 30 15) (f49 : hV f 49 = hV e 49) (w20 : n20 = w32 (10000 + n19)) (em : EMp f g d n20) (g15 : hV g 30 15 = hV f 30 15) (g49 : hV g 49 = hV f 49) (gw : W49 f → W49 g) : RELi a g d s := fun z w => by
  obtain ⟨v, w', k⟩ := z0 z w
  subst ho
  subst hi
  have vc := KO_sm v.1 sm
  have zc := vc.1
  have oz := zc.1
  have we : W49 e := ⟨(u.2.2 49).1.trans (W49_le sm.1 w').1, (u.2.2 49).2.trans (W49_le sm.1 w').2⟩
  have oe : ∀ q : Nat, ¬ q = 30 → hV e q = hV c q := fun q h => uRowNe u q (by omega)
  have ze : RO e d := by
    obtain ⟨z1, z2, z3, z4, z5, z6, z7, z8, z9⟩ := zc
    have od := oe d.toNat (by omega)
    exact ⟨z1, (u.2.2 _).1.trans z2, fun s s1 s2 => (congrFun od s).trans (z3 s s1 s2), (congrFun od 1).trans z4, fun j j1 j2 => (u.2.2 _).1.trans (z5 j j1 j2), (u.2.2 _).2.trans z6, fun j j1 j2 => (u.2.2 _).2.trans (z7 j j1 j2), (u.2.2 _).2.trans z8, (u.2.2 _).2.trans z9⟩
  have ve : KO c e d := ⟨ze, fun j _ _ => oe _ (by omega), fun s _ => congrFun (oe d.toNat (by omega)) s, fun q k => ⟨(u.2.2 q).1, fun _ => oe q (fun e => by
    rw [e, k30] at k
    omega)⟩⟩
  have vf := KO_sm ze sf
  obtain ⟨vg, eg⟩ := em vf.1
  refine ⟨KO_tr v (KO_tr vc (KO_tr ve (KO_tr vf vg))), gw (W49_le sf.1 we), fun L q x y => ?_⟩
  obtain ⟨q', x', y', e'⟩ := k L q x y
  rw [e']
  obtain ⟨ws, out⟩ := q'
  have l := x'.2.1
  have l2 := y'.2.2
  have st := x'.2.2
  match ws, l, l2, st, x', y' with
  | [], l, _, _, _, _ =>
    have l : hV b 30 15 = 0 := l
    omega
  | t :: r, l, l2, st, x', y' =>
    have l : hV b 30 15 = ((r.length + 1 : Nat) : Int) := l
    have l2 : r.length + 1 ≤ 64 := l2
    rw [w32_id (by omega) (by omega)] at e8
    have ea := atQ_r (q := 49) (n := 64) e9 rfl w'.2
    rw [if_pos (by omega), show n8.toNat = r.length by omega, show hV b 49 r.length = t from st.1] at ea
    rw [ea] at rk
    have ok := y'.1
    have t0 : 6 ≤ t := ok.2.1
    have t1 : t ≤ 10 := ok.2.2.1
    have cc : ¬ (t = 10 ∨ (s = true ∧ (t = 6 ∨ t = 7))) := fun h => by
      unfold rkF at rk
      by_cases h1 : t = 10
      · rw [if_pos h1] at rk
        omega
      · rw [if_neg h1] at rk
        have h := h.resolve_left h1
        rw [if_neg (by omega)] at rk
        rcases hm with hm | hm
        · rw [hm.2] at h
          exact absurd h.1 (by decide)
        · omega
    have er : xRel s (t :: r) out = xRel s r (out ++ [(t - 4, 0)]) := if_neg cc
    have nt : ¬ t = 10 := fun h => cc (.inl h)
    rw [w32_id (by omega) (by omega)] at e13
    have s15 : hV e 30 15 = n13 := uSame u 30 15 rfl rfl
    have e19 := atQ_r (q := 49) (n := 64) e19 rfl we.2
    rw [if_pos (by omega), oe 49 (by decide), c49, show n18.toNat = r.length by omega, show hV b 49 r.length = t from st.1] at e19
    rw [w32_id (by omega) (by omega)] at w20
    have bb := y'.2.1
    have bb : L.length + (r.length + 1 + out.length) ≤ 1000 := bb
    have cf : CODE f d (L ++ out.map enc) := by
      refine CODE_sm ze sf ?_
      have y := CODE_sm v.1 sm x'.1
      unfold CODE
      rw [oe d.toNat (by omega), oe (d.toNat + 1) (by omega)]
      exact y
    have cg := eg _ cf (by rw [List.length_append, List.length_map]; omega)
    have ee : n20 = enc (t - 4, 0) := by
      unfold enc
      rw [if_neg (show ¬ t - 4 = 0 by omega), if_neg (show ¬ t - 4 = 1 by omega)]
      show n20 = 10004 + (t - 4)
      omega
    refine ⟨(r, out ++ [(t - 4, 0)]), ⟨?_, ?_, ?_⟩, ⟨ok.1, ?_, ?_⟩, er⟩
    · show CODE g d (L ++ (out ++ [(t - 4, 0)]).map enc)
      rw [List.map_append, ← List.append_assoc]
      show CODE g d ((L ++ out.map enc) ++ [enc (t - 4, 0)])
      rw [← ee]
      exact cg
    · show hV g 30 15 = (r.length : Int)
      rw [g15, f15, s15]
      omega
    · show stk (hV g 49) r
      rw [g49, f49, oe 49 (by decide), c49]
      exact st.2
    · show L.length + (r.length + (out ++ [(t - 4, 0)]).length) ≤ 1000
      rw [List.length_append]
      show L.length + (r.length + (out.length + 1)) ≤ 1000
      omega
    · show r.length ≤ 64
      omega
