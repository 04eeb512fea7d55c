/-! A COND and a RULE in the reference's heap (hand): literals in rows 314 .. 319, RULES in 306 .. 311. -/
theorem CDr_in {h : gH} {cl ch cl' ch' a b : Int} {L : List Op} (c : CDr h cl ch a b L) (h1 : cl' ≤ cl) (h2 : ch ≤ ch') : CDr h cl' ch' a b L := ⟨by have := c.1; omega, c.2.1, by have := c.2.2.1; omega, c.2.2.2⟩
theorem CDr_eq {g h : gH} {cl ch a b : Int} {L : List Op} (h0 : 0 ≤ cl) (e : ∀ i : Nat, cl ≤ (i : Int) → (i : Int) < ch → hV g 320 i = hV h 320 i ∧ hV g 321 i = hV h 321 i) (c : CDr h cl ch a b L) : CDr g cl ch a b L := by
  obtain ⟨c1, c2, c3, c4⟩ := c
  refine ⟨c1, c2, c3, fun i x hx => ?_⟩
  obtain ⟨hi, _⟩ := List.getElem?_eq_some_iff.mp hx
  have u := e (a.toNat + i) (by omega) (by omega)
  have w := c4 i x hx
  exact ⟨u.1.trans w.1, u.2.trans w.2⟩
theorem CODr_cd {h : gH} {a b cl : Int} {L : List Op} (c : CODr h a L) (e : b = hV h 285 51) (h1 : cl ≤ a) : CDr h cl b a b L := by
  subst e
  exact CDr_in c h1 (Int.le_refl _)
def LIr (h : gH) (cl ch : Int) (l : Nat) (x : Lit) : Prop := hV h 314 l = x.1.1 ∧ hV h 315 l = b2i x.1.2.1 ∧ hV h 316 l = b2i x.1.2.2 ∧ CDr h cl ch (hV h 317 l) (hV h 318 l) x.2.1 ∧ CDr h cl ch (hV h 318 l) (hV h 319 l) x.2.2
/-- literals are written between the two ends alone -/
def KPl (a b : gH) : Prop := hV a 285 44 ≤ hV b 285 44 ∧ ∀ q : Nat, 314 ≤ q → q ≤ 319 → ∀ i : Nat, ((i : Int) < hV a 285 44 ∨ hV b 285 44 ≤ (i : Int)) → hV b q i = hV a q i
theorem KPl_rfl {a : gH} : KPl a a := ⟨Int.le_refl _, fun _ _ _ _ _ => rfl⟩
theorem KPl_tr {a b c : gH} (x : KPl a b) (y : KPl b c) : KPl a c := ⟨Int.le_trans x.1 y.1, fun q q1 q2 i h => by
  have x0 := x.1
  have y0 := y.1
  exact (y.2 q q1 q2 i (by omega)).trans (x.2 q q1 q2 i (by omega))⟩
def YRs (a b : gH) : Prop := hV b 285 44 = hV a 285 44 ∧ ∀ q : Nat, 314 ≤ q → q ≤ 319 → hV b q = hV a q
theorem YRs_rfl {a : gH} : YRs a a := ⟨rfl, fun _ _ _ => rfl⟩
theorem YRs_tr {a b c : gH} (x : YRs a b) (y : YRs b c) : YRs a c := ⟨y.1.trans x.1, fun q q1 q2 => (y.2 q q1 q2).trans (x.2 q q1 q2)⟩
theorem KPl_y {a b : gH} (y : YRs a b) : KPl a b := ⟨by rw [y.1]; exact Int.le_refl _, fun q q1 q2 i _ => by rw [y.2 q q1 q2]⟩
noncomputable def cYR (W : List (Nat × Nat)) : Bool := vFree W 285 44 && (vFreeR W 314 && (vFreeR W 315 && (vFreeR W 316 && (vFreeR W 317 && (vFreeR W 318 && vFreeR W 319)))))
theorem row6 {P : Nat → Prop} (a : P 314) (b : P 315) (c : P 316) (d : P 317) (e : P 318) (f : P 319) : ∀ q : Nat, 314 ≤ q → q ≤ 319 → P q := fun q q1 q2 => by
  rcases (show q = 314 ∨ q = 315 ∨ q = 316 ∨ q = 317 ∨ q = 318 ∨ q = 319 by omega) with w | w | w | w | w | w <;> subst w <;> assumption
theorem YRs_fr {W : List (Nat × Nat)} {a b : gH} (f : hFr W a b) (c : cYR W = true) : YRs a b := by
  unfold cYR at c
  simp only [Bool.and_eq_true] at c
  exact ⟨f.1 285 44 c.1, row6 (fRow f 314 c.2.1) (fRow f 315 c.2.2.1) (fRow f 316 c.2.2.2.1) (fRow f 317 c.2.2.2.2.1) (fRow f 318 c.2.2.2.2.2.1) (fRow f 319 c.2.2.2.2.2.2)⟩
theorem YRs_up {a b : gH} {o i w : Int} (u : hUpd b a o i w) (h : (o = 285 ∧ ¬ i = 44) ∨ (¬ o = 285 ∧ ¬ (314 ≤ o ∧ o ≤ 319))) : YRs a b := by
  refine ⟨?_, fun q q1 q2 => uRowNe u q (by omega)⟩
  rcases h with h | h
  · exact uSlot u 285 44 (by omega)
  · exact congrFun (uRowNe u 285 (by omega)) 44
theorem LIr_in {h : gH} {cl ch cl' ch' : Int} {l : Nat} {x : Lit} (c : LIr h cl ch l x) (h1 : cl' ≤ cl) (h2 : ch ≤ ch') : LIr h cl' ch' l x := ⟨c.1, c.2.1, c.2.2.1, CDr_in c.2.2.2.1 h1 h2, CDr_in c.2.2.2.2 h1 h2⟩
theorem LIr_eq {g h : gH} {cl ch : Int} {l : Nat} {x : Lit} (h0 : 0 ≤ cl) (e : ∀ i : Nat, cl ≤ (i : Int) → (i : Int) < ch → hV g 320 i = hV h 320 i ∧ hV g 321 i = hV h 321 i) (el : ∀ q : Nat, 314 ≤ q → q ≤ 319 → hV g q l = hV h q l) (c : LIr h cl ch l x) : LIr g cl ch l x := by
  unfold LIr
  rw [el 314 (by decide) (by decide), el 315 (by decide) (by decide), el 316 (by decide) (by decide), el 317 (by decide) (by decide), el 318 (by decide) (by decide), el 319 (by decide) (by decide)]
  exact ⟨c.1, c.2.1, c.2.2.1, CDr_eq h0 e c.2.2.2.1, CDr_eq h0 e c.2.2.2.2⟩
/-- a RULE at place k (12 times the side and its number): code in cl .. ch, literals in ll .. lh -/
def rgR (h : gH) (cl ch ll lh : Int) (k : Nat) : Rul → Prop
  | none => hV h 307 k = 1
  | some e => hV h 307 k = 0 ∧ CDr h cl ch (hV h 308 k) (hV h 309 k) e.1 ∧ ll ≤ hV h 310 k ∧ hV h 311 k = hV h 310 k + (e.2.length : Int) ∧ hV h 311 k ≤ lh ∧ ∀ (j : Nat) (x : Lit), e.2[j]? = some x → LIr h cl ch ((hV h 310 k).toNat + j) x
/-- RULES R of side s -/
def rgS (h : gH) (s ch lh : Int) (R : List Rul) : Prop := hV h 306 s.toNat = (R.length : Int) ∧ R.length ≤ 12 ∧ ∀ (i : Nat) (r : Rul), R[i]? = some r → rgR h (600 * s) ch (200 * s) lh ((12 * s).toNat + i) r
theorem rgR_in {h : gH} {cl ch ch' ll lh lh' : Int} {k : Nat} {r : Rul} (c : rgR h cl ch ll lh k r) (h1 : ch ≤ ch') (h2 : lh ≤ lh') : rgR h cl ch' ll lh' k r := by
  cases r with
  | none => exact c
  | some e =>
    obtain ⟨c1, c2, c3, c4, c5, c6⟩ := c
    exact ⟨c1, CDr_in c2 (Int.le_refl _) h1, c3, c4, by omega, fun j x hx => LIr_in (c6 j x hx) (Int.le_refl _) h1⟩
theorem rgR_eq {g h : gH} {cl ch ll lh : Int} {k : Nat} {r : Rul} (h0 : 0 ≤ cl) (l0 : 0 ≤ ll) (e : ∀ i : Nat, cl ≤ (i : Int) → (i : Int) < ch → hV g 320 i = hV h 320 i ∧ hV g 321 i = hV h 321 i) (el : ∀ q : Nat, 314 ≤ q → q ≤ 319 → ∀ i : Nat, ll ≤ (i : Int) → (i : Int) < lh → hV g q i = hV h q i) (ek : ∀ q : Nat, 307 ≤ q → q ≤ 311 → hV g q k = hV h q k) (c : rgR h cl ch ll lh k r) : rgR g cl ch ll lh k r := by
  cases r with
  | none =>
    show hV g 307 k = 1
    rw [ek 307 (by decide) (by decide)]
    exact c
  | some u =>
    obtain ⟨c1, c2, c3, c4, c5, c6⟩ := c
    show hV g 307 k = 0 ∧ CDr g cl ch (hV g 308 k) (hV g 309 k) u.1 ∧ ll ≤ hV g 310 k ∧ hV g 311 k = hV g 310 k + (u.2.length : Int) ∧ hV g 311 k ≤ lh ∧ ∀ (j : Nat) (x : Lit), u.2[j]? = some x → LIr g cl ch ((hV g 310 k).toNat + j) x
    rw [ek 307 (by decide) (by decide), ek 308 (by decide) (by decide), ek 309 (by decide) (by decide), ek 310 (by decide) (by decide), ek 311 (by decide) (by decide)]
    refine ⟨c1, CDr_eq h0 e c2, c3, c4, c5, fun j x hx => ?_⟩
    obtain ⟨hj, _⟩ := List.getElem?_eq_some_iff.mp hx
    exact LIr_eq h0 e (fun q q1 q2 => el q q1 q2 _ (by omega) (by omega)) (c6 j x hx)
theorem rgS_in {h : gH} {s ch ch' lh lh' : Int} {R : List Rul} (c : rgS h s ch lh R) (h1 : ch ≤ ch') (h2 : lh ≤ lh') : rgS h s ch' lh' R := ⟨c.1, c.2.1, fun i r hr => rgR_in (c.2.2 i r hr) h1 h2⟩
theorem rgS_eq {g h : gH} {s ch lh : Int} {R : List Rul} (s0 : 0 ≤ s) (e : ∀ i : Nat, 600 * s ≤ (i : Int) → (i : Int) < ch → hV g 320 i = hV h 320 i ∧ hV g 321 i = hV h 321 i) (el : ∀ q : Nat, 314 ≤ q → q ≤ 319 → ∀ i : Nat, 200 * s ≤ (i : Int) → (i : Int) < lh → hV g q i = hV h q i) (e6 : hV g 306 s.toNat = hV h 306 s.toNat) (ek : ∀ q : Nat, 307 ≤ q → q ≤ 311 → ∀ i : Nat, i < R.length → hV g q ((12 * s).toNat + i) = hV h q ((12 * s).toNat + i)) (c : rgS h s ch lh R) : rgS g s ch lh R := ⟨e6.trans c.1, c.2.1, fun i r hr => by
  obtain ⟨hi, _⟩ := List.getElem?_eq_some_iff.mp hr
  exact rgR_eq (by omega) (by omega) e el (fun q q1 q2 => ek q q1 q2 i hi) (c.2.2 i r hr)⟩
/-- one more -/
theorem rgS_add {g h : gH} {s ch ch' lh lh' : Int} {R : List Rul} {r : Rul} (s0 : 0 ≤ s) (c : rgS h s ch lh R) (l12 : R.length < 12) (h1 : ch ≤ ch') (h2 : lh ≤ lh') (e : ∀ i : Nat, 600 * s ≤ (i : Int) → (i : Int) < ch → hV g 320 i = hV h 320 i ∧ hV g 321 i = hV h 321 i) (el : ∀ q : Nat, 314 ≤ q → q ≤ 319 → ∀ i : Nat, 200 * s ≤ (i : Int) → (i : Int) < lh → hV g q i = hV h q i) (e6 : hV g 306 s.toNat = hV h 306 s.toNat + 1) (ek : ∀ q : Nat, 307 ≤ q → q ≤ 311 → ∀ i : Nat, i < R.length → hV g q ((12 * s).toNat + i) = hV h q ((12 * s).toNat + i)) (w : rgR g (600 * s) ch' (200 * s) lh' ((12 * s).toNat + R.length) r) : rgS g s ch' lh' (R ++ [r]) := by
  refine ⟨by rw [e6, c.1, List.length_append]; rfl, by rw [List.length_append]; exact l12, fun i q hq => ?_⟩
  by_cases k : i < R.length
  · rw [List.getElem?_append_left k] at hq
    exact rgR_in (rgR_eq (by omega) (by omega) e el (fun q q1 q2 => ek q q1 q2 i k) (c.2.2 i q hq)) h1 h2
  · rw [List.getElem?_append_right (by omega)] at hq
    have hz : i - R.length = 0 := Classical.byContradiction fun n => by
      rw [List.getElem?_eq_none (by show 1 ≤ i - R.length; omega)] at hq
      cases hq
    rw [hz] at hq
    have hq : some r = some q := hq
    rw [← Option.some.inj hq, show i = R.length by omega]
    exact w
/-! Working it out. -/
noncomputable def VAr (h : gH) : Int → Int := fun i => hV h 323 i.toNat
/-- an E from x on, in the middle: q the stack so far -/
def TMi (h : gH) (va : Int → Int) (a i top : Int) (l : List Op) : Prop := ∃ q : List Int, eF va (l.take (i - a).toNat) ([], false) = some (q, false) ∧ (q.length : Int) = top ∧ stk (hV h 324) q
theorem TM_0 {h : gH} {va : Int → Int} {a top : Int} {l : List Op} (e : top = 0) : TMi h va a a top l := by
  refine ⟨[], ?_, by rw [e]; rfl, trivial⟩
  rw [show (a - a).toNat = 0 by omega]
  rfl
theorem take_at {l : List Op} {n : Nat} {x : Op} (h : l[n]? = some x) : l.take (n + 1) = l.take n ++ [x] ∧ l.drop n = x :: l.drop (n + 1) := by
  obtain ⟨hn, e⟩ := List.getElem?_eq_some_iff.mp h
  refine ⟨?_, ?_⟩
  · rw [List.take_succ, h]
    rfl
  · rw [List.drop_eq_getElem_cons hn, e]
theorem eF_stop {va : Int → Int} {l : List Op} {n : Nat} {q : List Int} (ge : GE l) (e : eF va (l.take n) ([], false) = some (q, false)) : eF va (l.drop n) (q, false) = some ([(tV va l).1], (tV va l).2) := by
  have t := tV_at (va := va) ge (st := []) (g := false) (by decide)
  rw [Bool.false_or] at t
  have w := eF_app (va := va) (l := l.take n) (r := l.drop n) (q := ([], false))
  rw [List.take_append_drop, t, e] at w
  exact w.symm
/-- an op that is a number -/
theorem TM_push {g h : gH} {va : Int → Int} {a i i' top top' n : Int} {l : List Op} {o : Op} (z : TMi h va a i top l) (ho : l[(i - a).toNat]? = some o) (ge : GE l) (k : (o.1 = 0 ∧ n = o.2) ∨ (o.1 = 1 ∧ n = va o.2)) (u : hV g 324 = uF (hV h 324) top n) (ei : i' = i + 1) (le : a ≤ i) (et : top' = top + 1) : TMi g va a i' top' l := by
  obtain ⟨q, q1, q2, q3⟩ := z
  have r := eF_stop ge q1
  obtain ⟨t1, t2⟩ := take_at ho
  rw [t2] at r
  have r : (eSt va o (q, false)).bind (eF va (l.drop ((i - a).toNat + 1))) = _ := r
  have es : eSt va o (q, false) = some (n :: q, false) := by
    cases hs : eSt va o (q, false) with
    | none =>
      rw [hs] at r
      cases r
    | some y =>
      unfold eSt at hs
      rcases k with ⟨k1, k2⟩ | ⟨k1, k2⟩
      · rw [if_pos k1] at hs
        by_cases ll : q.length < 64
        · rw [if_pos (show ((q, false) : List Int × Bool).1.length < 64 from ll)] at hs
          exact hs.symm.trans (show some (o.2 :: q, false) = some (n :: q, false) by rw [k2])
        · rw [if_neg (show ¬ ((q, false) : List Int × Bool).1.length < 64 from ll)] at hs
          cases hs
      · rw [if_neg (by omega), if_pos k1] at hs
        by_cases ll : q.length < 64
        · rw [if_pos (show ((q, false) : List Int × Bool).1.length < 64 from ll)] at hs
          exact hs.symm.trans (show some (va o.2 :: q, false) = some (n :: q, false) by rw [k2])
        · rw [if_neg (show ¬ ((q, false) : List Int × Bool).1.length < 64 from ll)] at hs
          cases hs
  refine ⟨n :: q, ?_, by rw [List.length_cons]; omega, ?_, ?_⟩
  · rw [show (i' - a).toNat = (i - a).toNat + 1 by omega, t1, eF_add q1]
    exact es
  · rw [u, uF_at, if_pos (by omega)]
  · rw [u]
    exact stk_up q3 (by omega)
/-- what an op of two numbers finds -/
theorem TM_two {h : gH} {va : Int → Int} {a i top : Int} {l : List Op} {o : Op} (z : TMi h va a i top l) (ho : l[(i - a).toNat]? = some o) (ge : GE l) (k : 2 ≤ o.1) : ∃ (y x : Int) (q : List Int), eF va (l.take (i - a).toNat) ([], false) = some (y :: x :: q, false) ∧ (q.length : Int) + 2 = top ∧ hV h 324 (top - 1).toNat = y ∧ hV h 324 (top - 2).toNat = x ∧ stk (hV h 324) q ∧ eSt va o (y :: x :: q, false) = some (eOp o.1 x y :: q, decide (o.1 = 5) && decide (y = 0)) := by
  obtain ⟨q, q1, q2, q3⟩ := z
  have r := eF_stop ge q1
  obtain ⟨t1, t2⟩ := take_at ho
  rw [t2] at r
  have r : (eSt va o (q, false)).bind (eF va (l.drop ((i - a).toNat + 1))) = _ := r
  have es : eSt va o (q, false) = eBin o.1 q false := by
    unfold eSt
    rw [if_neg (by omega), if_neg (by omega)]
  match q, q1, q2, q3, es, r with
  | [], _, _, _, es, r =>
    rw [es] at r
    cases r
  | [_], _, _, _, es, r =>
    rw [es] at r
    cases r
  | y :: x :: q, q1, q2, q3, es, _ =>
    rw [List.length_cons, List.length_cons] at q2
    refine ⟨y, x, q, q1, by omega, ?_, ?_, q3.2.2, es⟩
    · rw [show (top - 1).toNat = (x :: q).length by rw [List.length_cons]; omega]
      exact q3.1
    · rw [show (top - 2).toNat = q.length by omega]
      exact q3.2.1
theorem TM_bin {g h : gH} {va : Int → Int} {a i i' top t1 j n x y : Int} {l : List Op} {o : Op} (z : TMi h va a i top l) (ho : l[(i - a).toNat]? = some o) (ge : GE l) (k : 2 ≤ o.1) (ey : y = hV h 324 (top - 1).toNat) (ex : x = hV h 324 (top - 2).toNat) (en : n = eOp o.1 x y) (nz : ¬ (o.1 = 5 ∧ y = 0)) (ej : j = top - 2) (u : hV g 324 = uF (hV h 324) j n) (ei : i' = i + 1) (le : a ≤ i) (et : t1 = top - 1) : TMi g va a i' t1 l := by
  obtain ⟨y', x', q, q1, q2, q3, q4, q5, q6⟩ := TM_two z ho ge k
  obtain ⟨e1, _⟩ := take_at ho
  have hy : y' = y := q3.symm.trans ey.symm
  have hx : x' = x := q4.symm.trans ex.symm
  rw [hy, hx] at q1 q6
  have ff : (decide (o.1 = 5) && decide (y = 0)) = false := by
    cases hb : (decide (o.1 = 5) && decide (y = 0)) with
    | false => rfl
    | true =>
      rw [Bool.and_eq_true, decide_eq_true_eq, decide_eq_true_eq] at hb
      exact absurd hb nz
  rw [ff, ← en] at q6
  refine ⟨n :: q, ?_, by rw [List.length_cons]; omega, ?_, ?_⟩
  · rw [show (i' - a).toNat = (i - a).toNat + 1 by omega, e1, eF_add q1]
    exact q6
  · rw [u, uF_at, if_pos (by omega)]
  · rw [u]
    exact stk_up q5 (by omega)
/-- a division by 0 -/
theorem TM_zero {h : gH} {va : Int → Int} {a i top y : Int} {l : List Op} {o : Op} (z : TMi h va a i top l) (ho : l[(i - a).toNat]? = some o) (ge : GE l) (k : o.1 = 5) (ey : y = hV h 324 (top - 1).toNat) (y0 : y = 0) : (tV va l).2 = true := by
  obtain ⟨y', x', q, q1, q2, q3, q4, q5, q6⟩ := TM_two z ho ge (by omega)
  obtain ⟨_, t2⟩ := take_at ho
  have r := eF_stop ge q1
  rw [t2] at r
  have r : (eSt va o (y' :: x' :: q, false)).bind (eF va (l.drop ((i - a).toNat + 1))) = _ := r
  rw [q6, decide_eq_true k, decide_eq_true (show y' = 0 from q3.symm.trans (ey.symm.trans y0))] at r
  exact eF_flag r
theorem TM_end {h : gH} {va : Int → Int} {a i top : Int} {l : List Op} (z : TMi h va a i top l) (ge : GE l) (e : (i - a).toNat = l.length) : (tV va l).2 = false ∧ top = 1 ∧ hV h 324 0 = (tV va l).1 := by
  obtain ⟨q, q1, q2, q3⟩ := z
  have r := eF_stop ge q1
  rw [List.drop_eq_nil_of_le (by omega)] at r
  have r := Option.some.inj (show some (q, false) = some ([(tV va l).1], (tV va l).2) from r)
  have r1 : q = [(tV va l).1] := congrArg Prod.fst r
  have r2 : false = (tV va l).2 := congrArg Prod.snd r
  refine ⟨r2.symm, ?_, ?_⟩
  · rw [r1] at q2
    exact q2.symm
  · rw [r1] at q3
    exact q3.1
