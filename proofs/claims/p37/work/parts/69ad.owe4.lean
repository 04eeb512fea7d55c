/-! THE RULES told by a Rules object; the first right RULE that holds (hand). -/
def RLi (h : gH) (o : Int) (i : Nat) : Rul → Prop
  | none => 0 < hV h (o.toNat + 6) i
  | some e => hV h (o.toNat + 6) i = 0 ∧ CDo h o (hV h (o.toNat + 2) i) (hV h (o.toNat + 3) i) (e.1.map enc) ∧ CDo h o (hV h (o.toNat + 3) i) (hV h (o.toNat + 4) i) (cC false false e.2)
def RLo (h : gH) (o : Int) (R : List Rul) : Prop := hV h o.toNat 0 = (R.length : Int) ∧ R.length ≤ 12 ∧ ∀ (i : Nat) (r : Rul), R[i]? = some r → RLi h o i r
theorem at_ev {a b : gH} {o x r i : Int} {s : Nat} (v : EVs a b o) (s1 : 3 ≤ s) (s2 : s ≤ 7) (e : x = hV b o.toNat s) (ea : r = atQ b x i) (i0 : 0 ≤ i) (i1 : i < 12) : r = hV a (o.toNat + (s - 1)) i.toNat := by
  have rx : x = ((o.toNat + (s - 1) : Nat) : Int) := by
    have w := RO_row v.1 e (.inr ⟨s1, by omega⟩)
    rw [if_neg (by omega)] at w
    exact w
  have w := atQ_r (q := o.toNat + (s - 1)) (n := 12) ea rx (v.1.2.2.2.2.2.2.1 (s - 1) (by omega) (by omega))
  rw [if_pos (by omega), v.2.1 (s - 1) (by omega) (by omega)] at w
  exact w
theorem oV_none {va : Int → Int} {R : List Rul} {i : Nat} (h : R[i]? = some none) : oV va (R.drop i) = oV va (R.drop (i + 1)) := by
  obtain ⟨hi, e⟩ := List.getElem?_eq_some_iff.mp h
  rw [List.drop_eq_getElem_cons hi, e]
  rfl
theorem oV_some {va : Int → Int} {R : List Rul} {i : Nat} {u : List Op × List Lit} (h : R[i]? = some (some u)) : oV va (R.drop i) = (rV va u).getD (oV va (R.drop (i + 1))) := by
  obtain ⟨hi, e⟩ := List.getElem?_eq_some_iff.mp h
  rw [List.drop_eq_getElem_cons hi, e]
  rfl
def GRs (R : List Rul) : Prop := ∀ r, r ∈ R → GRl r
def FRp (a b : gH) (o r : Int) : Prop := RO a o → EVs a b o ∧ ∀ R, RLo a o R → GRs R → r = oV (VA a o) R
/-- ahead of RULE i -/
def FRi (a b : gH) (o i : Int) : Prop := RO a o → EVs a b o ∧ ∀ R, RLo a o R → GRs R → 0 ≤ i ∧ i ≤ (R.length : Int) ∧ oV (VA a o) (R.drop i.toNat) = oV (VA a o) R
/-- at right RULE i -/
def FRm (a b : gH) (o i : Int) (P : List Op × List Lit → Prop) : Prop := RO a o → EVs a b o ∧ ∀ R, RLo a o R → GRs R → 0 ≤ i ∧ i < (R.length : Int) ∧ (R.length : Int) ≤ 12 ∧ oV (VA a o) (R.drop i.toNat) = oV (VA a o) R ∧ ∃ u, R[i.toNat]? = some (some u) ∧ P u
theorem FR_0 {a : gH} {o i : Int} (hi : i = 0) : FRi a a o i := fun z => ⟨EVs_rfl z, fun R _ _ => by
  subst hi
  exact ⟨Int.le_refl _, Int.natCast_nonneg _, rfl⟩⟩
theorem FR_end {a b : gH} {o i n r : Int} (z0 : FRi a b o i) (e : n = hV b o.toNat 0) (ge : n ≤ i) (hr : r = 0) : FRp a b o r := fun z => by
  obtain ⟨v, k⟩ := z0 z
  refine ⟨v, fun R rl gr => ?_⟩
  obtain ⟨i0, i1, e1⟩ := k R rl gr
  have e0 := v.2.2 0 (by decide) (by decide)
  rw [rl.1] at e0
  rw [← e1, List.drop_eq_nil_of_le (by omega)]
  exact hr
theorem FR_loud {a b c : gH} {o i i' n n4 n5 : Int} (z0 : FRi a b o i) (e : n = hV b o.toNat 0) (lt : i < n) (r4 : n4 = hV b o.toNat 7) (a5 : n5 = atQ b n4 i) (s1 : SMf b c) (h5 : ¬ n5 = 0) (ei : i' = w32 (i + 1)) : FRi a c o i' := fun z => by
  obtain ⟨v, k⟩ := z0 z
  refine ⟨EVs_tr v (EVs_sm v.1 s1), fun R rl gr => ?_⟩
  obtain ⟨i0, i1, e1⟩ := k R rl gr
  have e0 := v.2.2 0 (by decide) (by decide)
  have rl0 := rl.1
  have rl1 := rl.2.1
  rw [rl0] at e0
  have w := at_ev v (s := 7) (by decide) (by decide) r4 a5 i0 (by omega)
  have hl : i.toNat < R.length := by omega
  have hr : R[i.toNat]? = some R[i.toNat] := List.getElem?_eq_getElem hl
  have q := rl.2.2 _ _ hr
  rw [w32_id (by omega) (by omega)] at ei
  cases hc : R[i.toNat] with
  | some u =>
    rw [hc] at q
    exact absurd (w.trans q.1) h5
  | none =>
    rw [hc] at hr
    refine ⟨by omega, by omega, ?_⟩
    rw [show i'.toNat = i.toNat + 1 by omega, ← oV_none hr]
    exact e1
theorem FRm_mono {a b : gH} {o i : Int} {P Q : List Op × List Lit → Prop} (h : FRm a b o i P) (w : ∀ u, P u → Q u) : FRm a b o i Q := fun z => ⟨(h z).1, fun R rl gr => by
  obtain ⟨y1, y2, y3, y4, u, y5, y6⟩ := (h z).2 R rl gr
  exact ⟨y1, y2, y3, y4, u, y5, w u y6⟩⟩
/-- its E is worked out -/
def FP1 (a b : gH) (o i x s e : Int) (u : List Op × List Lit) : Prop := GRl (some u) ∧ x = (tV (VA a o) u.1).1 ∧ hV b o.toNat 11 = b2i (tV (VA a o) u.1).2 ∧ (s = e ↔ u.2 = []) ∧ CDo a o s e (cC false false u.2) ∧ s = hV a (o.toNat + 3) i.toNat ∧ e = hV a (o.toNat + 4) i.toNat
/-- its COND is -/
def FP2 (a b : gH) (o x y : Int) (u : List Op × List Lit) : Prop := x = (tV (VA a o) u.1).1 ∧ y = b2i (cV (VA a o) u.2 u.2.isEmpty false) ∧ hV b o.toNat 11 = b2i ((tV (VA a o) u.1).2 || cB (VA a o) u.2)
theorem cC_nil {L : List Lit} (h : cC false false L = []) : L = [] := by
  have ln : ∀ l : Lit, ¬ (litC l).length = 0 := fun l => by
    unfold litC
    rw [List.length_append, List.length_append, List.length_append, List.length_cons]
    omega
  match L, h with
  | [], _ => rfl
  | l :: [], h =>
    have h : litC l ++ _ = [] := h
    exact absurd (by rw [(List.append_eq_nil_iff.mp h).1]; rfl) (ln l)
  | l :: n :: r, h =>
    have h : litC l ++ _ = [] := h
    exact absurd (by rw [(List.append_eq_nil_iff.mp h).1]; rfl) (ln l)
theorem FR_go {a b c d e f g h k : gH} {o i n n4 n5 k11 n6 n8 n9 n10 n11 n12 n13 n14 n15 n16 : Int} (z0 : FRi a b o i) (e3 : n = hV b o.toNat 0) (lt : i < n) (r4 : n4 = hV b o.toNat 7) (a5 : n5 = atQ b n4 i) (s1 : SMf b c) (h5 : n5 = 0) (u : hUpd d c o k11 n6) (hk : k11 = 11) (h6 : n6 = 0) (r8 : n8 = hV d o.toNat 3) (a9 : n9 = atQ d n8 i) (s2 : SMf d e) (r10 : n10 = hV e o.toNat 4) (a11 : n11 = atQ e n10 i) (s3 : SMf e f) (wk : WORKp f g o n9 n11 n12) (r13 : n13 = hV g o.toNat 4) (a14 : n14 = atQ g n13 i) (s4 : SMf g h) (r15 : n15 = hV h o.toNat 5) (a16 : n16 = atQ h n15 i) (s5 : SMf h k) : FRm a k o i (FP1 a k o i n12 n14 n16) := fun z => by
  obtain ⟨v, kk⟩ := z0 z
  have v1 := EVs_tr v (EVs_sm v.1 s1)
  have v2 := EVs_tr v1 (EVs_up v1.1 u (.inr hk))
  have v3 := EVs_tr v2 (EVs_sm v2.1 s2)
  have v4 := EVs_tr v3 (EVs_sm v3.1 s3)
  obtain ⟨v5', wk⟩ := wk v4.1
  have v5 := EVs_tr v4 v5'
  have v6 := EVs_tr v5 (EVs_sm v5.1 s4)
  have v7 := EVs_tr v6 (EVs_sm v6.1 s5)
  refine ⟨v7, fun R rl gr => ?_⟩
  obtain ⟨i0, i1, e1⟩ := kk R rl gr
  have e0 := v.2.2 0 (by decide) (by decide)
  have rl0 := rl.1
  have rl1 := rl.2.1
  rw [rl0] at e0
  have i2 : i < 12 := by omega
  have w5 := at_ev v (s := 7) (by decide) (by decide) r4 a5 i0 i2
  have w9 := at_ev v2 (s := 3) (by decide) (by decide) r8 a9 i0 i2
  have w11 := at_ev v3 (s := 4) (by decide) (by decide) r10 a11 i0 i2
  have w14 := at_ev v5 (s := 4) (by decide) (by decide) r13 a14 i0 i2
  have w16 := at_ev v6 (s := 5) (by decide) (by decide) r15 a16 i0 i2
  have hl : i.toNat < R.length := by omega
  have hr : R[i.toNat]? = some R[i.toNat] := List.getElem?_eq_getElem hl
  have q := rl.2.2 _ _ hr
  refine ⟨i0, by omega, by omega, e1, ?_⟩
  cases hc : R[i.toNat] with
  | none =>
    exfalso
    rw [hc] at q
    have q : 0 < hV a (o.toNat + 6) i.toNat := q
    have w5 : n5 = hV a (o.toNat + 6) i.toNat := w5
    omega
  | some x =>
    rw [hc] at q hr
    have gx : GRl (some x) := gr _ (List.mem_of_getElem? hr)
    have ge := (gx x rfl).1
    obtain ⟨q1, q2, q3⟩ := q
    have cd : CDo f o n9 n11 (x.1.map enc) := by
      rw [w9, w11]
      refine ⟨q2.1, q2.2.1, q2.2.2.1, fun j y hj => ?_⟩
      rw [v4.2.1 1 (by decide) (by decide)]
      exact q2.2.2.2 j y hj
    have oz := z.1
    have fl : hV f o.toNat 11 = b2i false := by
      have y : hV d o.toNat 11 = n6 := by
        subst hk
        exact uSame u o.toNat 11 (Int.toNat_of_nonneg (by omega)) rfl
      rw [s3.2 _ (.inl v3.1.2.1), s2.2 _ (.inl v2.1.2.1), y]
      exact h6
    have ce := cF_E (va := VA f o) ge (st := []) (g := false) (by decide)
    have wr := wk _ _ _ _ cd fl ce
    rw [VA_eq v4, Bool.false_or] at wr
    refine ⟨x, hr, gx, wr.1, ?_, ?_, ?_, w14, w16⟩
    · rw [s5.2 _ (.inl v6.1.2.1), s4.2 _ (.inl v5.1.2.1)]
      exact wr.2
    · rw [w14, w16]
      have ql := q3.2.1
      refine ⟨fun w => cC_nil (List.length_eq_zero_iff.mp ?_), fun w => ?_⟩
      · have w : hV a (o.toNat + 3) i.toNat = hV a (o.toNat + 4) i.toNat := w
        omega
      · rw [w] at ql
        have ql : hV a (o.toNat + 4) i.toNat = hV a (o.toNat + 3) i.toNat + ((0 : Nat) : Int) := ql
        show hV a (o.toNat + 3) i.toNat = hV a (o.toNat + 4) i.toNat
        omega
    · rw [w14, w16]
      exact q3
theorem FR_bare {a k : gH} {o i x s e y : Int} (z0 : FRm a k o i (FP1 a k o i x s e)) (h : s = e) (hy : y = 1) : FRm a k o i (FP2 a k o x y) := FRm_mono z0 fun u p => by
  obtain ⟨_, p1, p2, p3, _, _, _⟩ := p
  have w := p3.mp h
  refine ⟨p1, ?_, ?_⟩
  · rw [w]
    exact hy
  · rw [w]
    show _ = b2i (_ || false)
    rw [Bool.or_false]
    exact p2
theorem FR_cond {a k l m g : gH} {o i x s e n18 n19 n20 n21 n22 : Int} (z0 : FRm a k o i (FP1 a k o i x s e)) (h : ¬ s = e) (r18 : n18 = hV k o.toNat 4) (a19 : n19 = atQ k n18 i) (s1 : SMf k l) (r20 : n20 = hV l o.toNat 5) (a21 : n21 = atQ l n20 i) (s2 : SMf l m) (wk : WORKp m g o n19 n21 n22) : FRm a g o i (FP2 a g o x n22) := fun z => by
  obtain ⟨v, kk⟩ := z0 z
  have v1 := EVs_tr v (EVs_sm v.1 s1)
  have v2 := EVs_tr v1 (EVs_sm v1.1 s2)
  obtain ⟨v3', wk⟩ := wk v2.1
  refine ⟨EVs_tr v2 v3', fun R rl gr => ?_⟩
  obtain ⟨i0, i1, i2, e1, u, hu, gu, p1, p2, p3, p4, es, ee⟩ := kk R rl gr
  have w19 := at_ev v (s := 4) (by decide) (by decide) r18 a19 i0 (by omega)
  have w21 := at_ev v1 (s := 5) (by decide) (by decide) r20 a21 i0 (by omega)
  have w19 : n19 = s := w19.trans es.symm
  have w21 : n21 = e := w21.trans ee.symm
  refine ⟨i0, i1, i2, e1, u, hu, p1, ?_⟩
  have cd : CDo m o n19 n21 (cC false false u.2) := by
    rw [w19, w21]
    refine ⟨p4.1, p4.2.1, p4.2.2.1, fun j y hj => ?_⟩
    rw [v2.2.1 1 (by decide) (by decide)]
    exact p4.2.2.2 j y hj
  have fl : hV m o.toNat 11 = b2i (tV (VA a o) u.1).2 := by
    rw [s2.2 _ (.inl v1.1.2.1), s1.2 _ (.inl v.1.2.1)]
    exact p2
  obtain ⟨g1, g2, g3⟩ := gu u rfl
  rcases g3 with g3 | ⟨l0, t0, g3, g4⟩
  · exact absurd (p3.mpr g3) h
  · rw [g3] at cd g2
    have ce := cC_0 (va := VA m o) (g := (tV (VA a o) u.1).2) g2 g4
    have wr := wk _ _ _ _ cd fl ce
    rw [VA_eq v2] at wr
    rw [g3]
    exact wr
theorem FR_no {a b : gH} {o i i' x y n : Int} (z0 : FRm a b o i (FP2 a b o x y)) (h : y = 0 ∨ (n = hV b o.toNat 11 ∧ ¬ n = 0)) (ei : i' = w32 (i + 1)) : FRi a b o i' := fun z => by
  obtain ⟨v, kk⟩ := z0 z
  refine ⟨v, fun R rl gr => ?_⟩
  obtain ⟨i0, i1, i2, e1, u, hu, p1, p2, p3⟩ := kk R rl gr
  rw [w32_id (by omega) (by omega)] at ei
  refine ⟨by omega, by omega, ?_⟩
  rw [← e1, oV_some hu, show i'.toNat = i.toNat + 1 by omega]
  have rn : rV (VA a o) u = none := by
    unfold rV
    refine if_neg fun w => ?_
    rw [Bool.and_eq_true] at w
    rcases h with h | ⟨h1, h2⟩
    · rw [w.1] at p2
      have p2 : y = 1 := p2
      omega
    · have w2 := w.2
      rw [Bool.not_eq_true'] at w2
      rw [w2] at p3
      have p3 : hV b o.toNat 11 = 0 := p3
      omega
  rw [rn]
  rfl
theorem FR_ret {a b : gH} {o i x y n : Int} (z0 : FRm a b o i (FP2 a b o x y)) (h : ¬ y = 0) (h1 : n = hV b o.toNat 11) (h2 : n = 0) : FRp a b o x := fun z => by
  obtain ⟨v, kk⟩ := z0 z
  refine ⟨v, fun R rl gr => ?_⟩
  obtain ⟨i0, i1, i2, e1, u, hu, p1, p2, p3⟩ := kk R rl gr
  rw [← e1, oV_some hu]
  have rn : rV (VA a o) u = some x := by
    unfold rV
    rw [p1]
    refine if_pos ?_
    rw [Bool.and_eq_true, Bool.not_eq_true']
    refine ⟨?_, ?_⟩
    · cases hc : cV (VA a o) u.2 u.2.isEmpty false with
      | true => rfl
      | false =>
        rw [hc] at p2
        exact absurd p2 h
    · cases hc : ((tV (VA a o) u.1).2 || cB (VA a o) u.2) with
      | false => rfl
      | true =>
        rw [hc] at p3
        have p3 : hV b o.toNat 11 = 1 := p3
        omega
  rw [rn]
  rfl
/-! A variable is set. -/
def SETp (a b : gH) (o k x : Int) : Prop := RO a o → RO b o ∧ (∀ j : Nat, 1 ≤ j → j ≤ 6 → hV b (o.toNat + j) = hV a (o.toNat + j)) ∧ (∀ s : Nat, hV b o.toNat s = hV a o.toNat s) ∧ (45 ≤ k → k ≤ 49 → ∀ i : Int, VA b o i = if i = k - 45 then x else VA a o i)
theorem set_at {a b : gH} {o k x n3 n5 : Int} (e3 : n3 = hV a o.toNat 8) (e5 : n5 = w32 (k - 45)) (le : hLe T0 a b) (p : putQ n3 n5 x a b) : SETp a b o k x := fun z => by
  have oz := z.1
  have r3 : n3 = ((o.toNat + 7 : Nat) : Int) := RO_row z e3 (.inr ⟨by decide, by decide⟩)
  have ob : hV b o.toNat = hV a o.toNat := putQ_ne p _ (by omega)
  refine ⟨RO_le le z ⟨fun k _ _ => congrFun ob k, congrFun ob 1⟩, fun j _ j2 => putQ_ne p _ (by omega), fun s => congrFun ob s, fun k0 k1 i => ?_⟩
  rw [w32_id (by omega) (by omega)] at e5
  have rw_ : hV b (o.toNat + 7) = uF (hV a (o.toNat + 7)) n5 x := putQ_r (q := o.toNat + 7) (n := 5) p r3 z.2.2.2.2.2.2.2.1 (by omega)
  unfold VA
  rw [rw_]
  by_cases c : 0 ≤ i ∧ i < 5
  · rw [if_pos c, if_pos c, uF_at]
    by_cases d : i = k - 45
    · rw [if_pos d, if_pos (by omega)]
    · rw [if_neg d, if_neg (by omega)]
  · rw [if_neg c, if_neg c, if_neg (by omega)]
theorem RLo_eq {a b : gH} {o : Int} {R : List Rul} (rows : ∀ j : Nat, 1 ≤ j → j ≤ 6 → hV b (o.toNat + j) = hV a (o.toNat + j)) (s0 : hV b o.toNat 0 = hV a o.toNat 0) (z : RLo a o R) : RLo b o R := by
  refine ⟨s0.trans z.1, z.2.1, fun i r h => ?_⟩
  have q := z.2.2 i r h
  have cd : ∀ (s e : Int) (L : List Int), CDo a o s e L → CDo b o s e L := fun s e L c => ⟨c.1, c.2.1, c.2.2.1, fun i x hx => by
    rw [rows 1 (by decide) (by decide)]
    exact c.2.2.2 i x hx⟩
  cases r with
  | none =>
    show 0 < hV b (o.toNat + 6) i
    rw [rows 6 (by decide) (by decide)]
    exact q
  | some u =>
    obtain ⟨q1, q2, q3⟩ := q
    show hV b (o.toNat + 6) i = 0 ∧ CDo b o (hV b (o.toNat + 2) i) (hV b (o.toNat + 3) i) _ ∧ CDo b o (hV b (o.toNat + 3) i) (hV b (o.toNat + 4) i) _
    rw [rows 6 (by decide) (by decide), rows 2 (by decide) (by decide), rows 3 (by decide) (by decide), rows 4 (by decide) (by decide)]
    exact ⟨q1, cd _ _ _ q2, cd _ _ _ q3⟩
