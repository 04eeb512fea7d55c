/-! RULES read by the reference (hand). -/
theorem KPc_cd {a b : gH} {cl ch x y : Int} {L : List Op} (k : KPc a b) (h0 : 0 ≤ cl) (h1 : ch ≤ hV a 285 51) (c : CDr a cl ch x y L) : CDr b cl ch x y L := CDr_eq h0 (fun i _ i1 => k.2 i (by omega)) c
theorem KPl_li {a b : gH} {cl ch : Int} {l : Nat} {x : Lit} (k : KPc a b) (y : KPl a b) (h0 : 0 ≤ cl) (h1 : ch ≤ hV a 285 51) (hl : (l : Int) < hV a 285 44) (c : LIr a cl ch l x) : LIr b cl ch l x := LIr_eq h0 (fun i _ i1 => k.2 i (by omega)) (fun q q1 q2 => y.2 q q1 q2 l (by omega)) c
theorem KPl_one {a b : gH} (e44 : hV b 285 44 = hV a 285 44 + 1) (e : ∀ q : Nat, 314 ≤ q → q ≤ 319 → ∃ v : Int, hV b q = uF (hV a q) (hV a 285 44) v) : KPl a b := ⟨by omega, fun q q1 q2 i h => by
  obtain ⟨v, ev⟩ := e q q1 q2
  rw [ev, uF_at, if_neg (by omega)]⟩
theorem LIr_of {h1 hb hx g : gH} {v : Vw} {p : PS} {x2 x3 x4 a1 n7 : Int} {l : Nat} (s0 : 0 ≤ x3) (A : CODr h1 x3 (xE v (xLitA v p).1 (xLitB v p).1)) (x1 : XRk h1 hb) (e7 : n7 = hV hb 285 51) (kx : KPc hb hx) (B : CODr hx n7 (xE v (xLitC v p).1 (pLit v p).1)) (xg : XRk hx g) (r4 : hV g 314 l = x4) (r5 : hV g 315 l = x2) (r6 : hV g 316 l = a1) (r7 : hV g 317 l = x3) (r8 : hV g 318 l = n7) (r9 : hV g 319 l = hV g 285 51) (ex2 : x2 = ((xLitA v p).1 - p.1) % 2) (ex4 : x4 = v.1 (xLitB v p).1 - 12) (ha : a1 = 0 ∨ a1 = 1) : LIr g x3 (hV g 285 51) l (xLit v (decide (a1 = 1)) p) := by
  have Ab := CODr_x x1 A
  have Ac : CDr hb x3 (hV hb 285 51) x3 (hV hb 285 51) _ := Ab
  have Ax := KPc_cd kx s0 (Int.le_refl _) Ac
  have kg := KPc_tr kx (KPc_x xg)
  have Ag := KPc_cd (KPc_x xg) s0 (by have := kx.1; omega) Ax
  have Bg := CODr_x xg B
  have n3 : x3 ≤ n7 := by
    have := Ab.2.1
    omega
  refine ⟨r4.trans ex4, ?_, ?_, ?_, ?_⟩
  · rw [r5]
    show x2 = b2i (decide (((xLitA v p).1 - p.1) % 2 = 1))
    by_cases c : ((xLitA v p).1 - p.1) % 2 = 1
    · rw [decide_eq_true c]
      exact ex2.trans c
    · rw [decide_eq_false c]
      show x2 = 0
      omega
  · rw [r6]
    show a1 = b2i (decide (a1 = 1))
    rcases ha with c | c <;> subst c <;> rfl
  · rw [r7, r8, e7]
    exact CDr_in Ag (Int.le_refl _) kg.1
  · rw [r8, r9]
    exact CDr_in (show CDr g n7 (hV g 285 51) n7 (hV g 285 51) _ from Bg) n3 (Int.le_refl _)
/-! A RULE. -/
def ZRs (a b : gH) : Prop := ∀ q : Nat, 306 ≤ q → q ≤ 311 → hV b q = hV a q
/-- at place k alone, the counts as they were -/
def KRr (a b : gH) (k : Int) : Prop := hV b 306 = hV a 306 ∧ ∀ q : Nat, 307 ≤ q → q ≤ 311 → ∀ i : Nat, ¬ (i : Int) = k → hV b q i = hV a q i
theorem KRr_rfl {a : gH} {k : Int} : KRr a a k := ⟨rfl, fun _ _ _ _ _ => rfl⟩
theorem KRr_tr {a b c : gH} {k : Int} (x : KRr a b k) (y : KRr b c k) : KRr a c k := ⟨y.1.trans x.1, fun q q1 q2 i n => (y.2 q q1 q2 i n).trans (x.2 q q1 q2 i n)⟩
theorem KRr_z {a b : gH} {k : Int} (z : ZRs a b) : KRr a b k := ⟨z 306 (by decide) (by decide), fun q q1 q2 i _ => by rw [z q (by omega) q2]⟩
theorem ZRs_rfl {a : gH} : ZRs a a := fun _ _ _ => rfl
theorem ZRs_tr {a b c : gH} (x : ZRs a b) (y : ZRs b c) : ZRs a c := fun q q1 q2 => (y q q1 q2).trans (x q q1 q2)
noncomputable def cZR (W : List (Nat × Nat)) : Bool := vFreeR W 306 && (vFreeR W 307 && (vFreeR W 308 && (vFreeR W 309 && (vFreeR W 310 && vFreeR W 311))))
theorem row6b {P : Nat → Prop} (a : P 306) (b : P 307) (c : P 308) (d : P 309) (e : P 310) (f : P 311) : ∀ q : Nat, 306 ≤ q → q ≤ 311 → P q := fun q q1 q2 => by
  rcases (show q = 306 ∨ q = 307 ∨ q = 308 ∨ q = 309 ∨ q = 310 ∨ q = 311 by omega) with w | w | w | w | w | w <;> subst w <;> assumption
theorem ZRs_fr {W : List (Nat × Nat)} {a b : gH} (f : hFr W a b) (c : cZR W = true) : ZRs a b := by
  unfold cZR at c
  simp only [Bool.and_eq_true] at c
  exact row6b (fRow f 306 c.1) (fRow f 307 c.2.1) (fRow f 308 c.2.2.1) (fRow f 309 c.2.2.2.1) (fRow f 310 c.2.2.2.2.1) (fRow f 311 c.2.2.2.2.2)
theorem ZRs_up {a b : gH} {o i w : Int} (u : hUpd b a o i w) (h : ¬ (306 ≤ o ∧ o ≤ 311)) : ZRs a b := fun q q1 q2 => uRowNe u q (by omega)
theorem KRr_up {a b : gH} {o i w k : Int} (u : hUpd b a o i w) (h : 307 ≤ o) (e : i = k) (k0 : 0 ≤ k) : KRr a b k := ⟨uRowNe u 306 (by omega), fun q q1 q2 x n => uSlot u q x (by omega)⟩
/-- between a RULE's COND's literals: x2: one more follows, x3: behind `or` (or ahead of all) -/
def RUm (h : gH) (c0 l0 : Int) (v : Vw) (p : PS) (k x2 x3 : Int) : Prop := hV h 307 k.toNat = 0 ∧ c0 ≤ hV h 285 51 ∧ CDr h c0 (hV h 285 51) (hV h 308 k.toNat) (hV h 309 k.toNat) (xE v (ptk v 38 p).1 (pExp v (ptk v 38 p)).1) ∧ GE (xE v (ptk v 38 p).1 (pExp v (ptk v 38 p)).1) ∧ hV h 310 k.toNat = l0 ∧ ∃ Ls : List Lit, hV h 285 44 = l0 + (Ls.length : Int) ∧ (∀ (j : Nat) (x : Lit), Ls[j]? = some x → LIr h c0 (hV h 285 51) (l0.toNat + j) x ∧ GL x) ∧ (x2 = 1 → ∃ f : Nat, 502 ≤ (f : Int) + (absR h).1 ∧ Ls ++ xCond v f (decide (x3 = 1)) (absR h) = (if v.1 (pExp v (ptk v 38 p)).1 = 39 then xCond v 502 true (ptk v 39 (pExp v (ptk v 38 p))) else [])) ∧ (x2 = 0 → Ls = (if v.1 (pExp v (ptk v 38 p)).1 = 39 then xCond v 502 true (ptk v 39 (pExp v (ptk v 38 p))) else []))
/-- a RULE told but for row 311 -/
def rgB (h : gH) (c0 l0 : Int) (k : Nat) : Rul → Prop
  | none => hV h 307 k = 1
  | some e => hV h 307 k = 0 ∧ CDr h c0 (hV h 285 51) (hV h 308 k) (hV h 309 k) e.1 ∧ l0 ≤ hV h 310 k ∧ hV h 285 44 = hV h 310 k + (e.2.length : Int) ∧ ∀ (j : Nat) (x : Lit), e.2[j]? = some x → LIr h c0 (hV h 285 51) ((hV h 310 k).toNat + j) x
theorem RUm_0 {b x g : gH} {c0 l0 : Int} {v : Vw} {p : PS} {k x2 x3 : Int} (r7 : hV g 307 k.toNat = 0) (ec : hV b 285 51 = c0) (kx : KPc b x) (cd : CODr x c0 (xE v (ptk v 38 p).1 (pExp v (ptk v 38 p)).1)) (ge : GE (xE v (ptk v 38 p).1 (pExp v (ptk v 38 p)).1)) (xg : XRk x g) (r8 : hV g 308 k.toNat = c0) (r9 : hV g 309 k.toNat = hV x 285 51) (r10 : hV g 310 k.toNat = l0) (e44 : hV g 285 44 = l0) (y1 : x2 = 1 → v.1 (pExp v (ptk v 38 p)).1 = 39 ∧ x3 = 1 ∧ 0 ≤ (absR g).1 ∧ absR g = ptk v 39 (pExp v (ptk v 38 p))) (y0 : x2 = 0 → ¬ v.1 (pExp v (ptk v 38 p)).1 = 39) : RUm g c0 l0 v p k x2 x3 := by
  have cg := CODr_x xg cd
  refine ⟨r7, by rw [xg.1]; have := kx.1; omega, ?_, ge, r10, [], by rw [e44]; show l0 = l0 + ((0 : Nat) : Int); omega, fun j x hx => (List.getElem?_eq_some_iff.mp hx).elim fun w _ => absurd w (Nat.not_lt_zero _), fun w => ?_, fun w => ?_⟩
  · rw [r8, r9, ← xg.1]
    exact cg
  · obtain ⟨k39, x31, hg, ag⟩ := y1 w
    refine ⟨502, by omega, ?_⟩
    rw [if_pos k39, ag, x31]
    rfl
  · rw [if_neg (y0 w)]
theorem RUm_keep {a b g : gH} {c0 l0 : Int} {v : Vw} {p : PS} {k : Int} {Ls : List Lit} {x : Lit} (c0_ : 0 ≤ c0) (l0_ : 0 ≤ l0) (kc : KPc a b) (kl : KPl a b) (e44 : hV a 285 44 = l0 + (Ls.length : Int)) (al : ∀ (j : Nat) (x : Lit), Ls[j]? = some x → LIr a c0 (hV a 285 51) (l0.toNat + j) x ∧ GL x) (f44 : hV b 285 44 = hV a 285 44 + 1) (lx : LIr b c0 (hV b 285 51) (hV a 285 44).toNat x) (gx : GL x) : hV b 285 44 = l0 + ((Ls ++ [x]).length : Int) ∧ ∀ (j : Nat) (y : Lit), (Ls ++ [x])[j]? = some y → LIr b c0 (hV b 285 51) (l0.toNat + j) y ∧ GL y := by
  refine ⟨by rw [List.length_append]; show hV b 285 44 = l0 + ((Ls.length + 1 : Nat) : Int); omega, fun j y hy => ?_⟩
  by_cases c : j < Ls.length
  · rw [List.getElem?_append_left c] at hy
    have w := al j y hy
    exact ⟨LIr_in (KPl_li kc kl c0_ (Int.le_refl _) (by omega) w.1) (Int.le_refl _) kc.1, w.2⟩
  · rw [List.getElem?_append_right (by omega)] at hy
    have hz : j - Ls.length = 0 := Classical.byContradiction fun n => by
      rw [List.getElem?_eq_none (by show 1 ≤ j - Ls.length; omega)] at hy
      cases hy
    rw [hz] at hy
    have hy : some x = some y := hy
    rw [← Option.some.inj hy, show l0.toNat + j = (hV a 285 44).toNat by omega]
    exact ⟨lx, gx⟩
theorem xCond_step {v : Vw} {f : Nat} {o : Bool} {p : PS} : xCond v (f + 1) o p = xLit v o p :: (if v.1 (pLit v p).1 = 42 ∨ v.1 (pLit v p).1 = 43 then xCond v f (decide (v.1 (pLit v p).1 = 42)) (ptk v (v.1 (pLit v p).1) (pLit v p)) else []) := rfl
/-- one more literal -/
theorem RUm_lit {a b c g : gH} {c0 l0 : Int} {v : Vw} {p : PS} {k x2 x3 x2' x3' : Int} (c0_ : 0 ≤ c0) (l0_ : 0 ≤ l0) (z : RUm a c0 l0 v p k x2 x3) (h2 : x2 = 1) (za : ZRs a b) (xa : XRk a b) (ya : YRs a b) (p5 : (absR a).1 ≤ 500) (kc : KPc b c) (kl : KPl b c) (zc : ZRs b c) (f44 : hV c 285 44 = hV b 285 44 + 1) (lx : LIr c (hV b 285 51) (hV c 285 51) (hV b 285 44).toNat (xLit v (decide (x3 = 1)) (absR a))) (gx : GL (xLit v (decide (x3 = 1)) (absR a))) (le : (absR a).1 ≤ (pLit v (absR a)).1) (xg : XRk c g) (yg : YRs c g) (zg : ZRs c g) (y1 : x2' = 1 → (v.1 (pLit v (absR a)).1 = 42 ∧ x3' = 1 ∨ v.1 (pLit v (absR a)).1 = 43 ∧ x3' = 0) ∧ absR g = ptk v (v.1 (pLit v (absR a)).1) (pLit v (absR a)) ∧ (absR g).1 = (pLit v (absR a)).1 + 1) (y0 : x2' = 0 → ¬ (v.1 (pLit v (absR a)).1 = 42 ∨ v.1 (pLit v (absR a)).1 = 43)) : RUm g c0 l0 v p k x2' x3' := by
  obtain ⟨z1, z2, z3, z4, z5, Ls, z6, z7, z8, _⟩ := z
  obtain ⟨f, f1, f2⟩ := z8 h2
  obtain ⟨f', rfl⟩ : ∃ f', f = f' + 1 := ⟨f - 1, by omega⟩
  rw [xCond_step] at f2
  have zz := ZRs_tr za (ZRs_tr zc zg)
  have kc' := KPc_tr (KPc_x xa) (KPc_tr kc (KPc_x xg))
  have kl' := KPl_tr (KPl_y ya) (KPl_tr kl (KPl_y yg))
  have b51 := xa.1
  have b44 := ya.1
  have g51 := xg.1
  have g44 := yg.1
  have lx' : LIr g c0 (hV g 285 51) (hV a 285 44).toNat (xLit v (decide (x3 = 1)) (absR a)) := by
    rw [g51, ← b44]
    exact LIr_eq c0_ (fun i _ _ => ⟨by rw [xg.2.1], by rw [xg.2.2]⟩) (fun q q1 q2 => by rw [yg.2 q q1 q2]) (LIr_in lx (by omega) (Int.le_refl _))
  obtain ⟨m1, m2⟩ := RUm_keep (p := p) (v := v) (g := g) (k := k) c0_ l0_ kc' kl' z6 z7 (by omega) lx' gx
  refine ⟨by rw [zz 307 (by decide) (by decide)]; exact z1, by have := kc'.1; omega, ?_, z4, by rw [zz 310 (by decide) (by decide)]; exact z5, Ls ++ [xLit v (decide (x3 = 1)) (absR a)], m1, m2, fun w => ?_, fun w => ?_⟩
  · rw [zz 308 (by decide) (by decide), zz 309 (by decide) (by decide)]
    exact CDr_in (KPc_cd kc' c0_ (Int.le_refl _) z3) (Int.le_refl _) kc'.1
  · obtain ⟨w1, w2, w3⟩ := y1 w
    have kk : v.1 (pLit v (absR a)).1 = 42 ∨ v.1 (pLit v (absR a)).1 = 43 := w1.elim (fun q => .inl q.1) (fun q => .inr q.1)
    rw [if_pos kk] at f2
    refine ⟨f', by omega, ?_⟩
    rw [← f2, List.append_assoc, w2]
    show Ls ++ (_ :: xCond v f' (decide (x3' = 1)) _) = _
    have ee : decide (x3' = 1) = decide (v.1 (pLit v (absR a)).1 = 42) := by
      rcases w1 with ⟨q1, q2⟩ | ⟨q1, q2⟩
      · rw [q1, q2]
        rfl
      · rw [q1, q2]
        rfl
    rw [ee]
  · rw [if_neg (y0 w)] at f2
    exact f2
theorem xRule_yes {v : Vw} {p : PS} (k : v.1 p.1 = 38) : xRule v p = some (xE v (ptk v 38 p).1 (pExp v (ptk v 38 p)).1, if v.1 (pExp v (ptk v 38 p)).1 = 39 then xCond v 502 true (ptk v 39 (pExp v (ptk v 38 p))) else []) := if_pos k
theorem RUm_end {h : gH} {c0 l0 : Int} {v : Vw} {p : PS} {k x2 x3 : Int} (z : RUm h c0 l0 v p k x2 x3) (h2 : x2 = 0) (k38 : v.1 p.1 = 38) : rgB h c0 l0 k.toNat (xRule v p) ∧ GRl (xRule v p) := by
  obtain ⟨z1, z2, z3, z4, z5, Ls, z6, z7, _, z9⟩ := z
  have e := z9 h2
  rw [xRule_yes k38, ← e]
  refine ⟨⟨z1, z3, by omega, by rw [z5]; exact z6, fun j x hx => by rw [z5]; exact (z7 j x hx).1⟩, fun w hw => ?_⟩
  rw [← Option.some.inj hw]
  refine ⟨z4, fun l hl => ?_, ?_⟩
  · obtain ⟨j, hj⟩ := List.mem_iff_getElem?.mp hl
    exact (z7 j l hj).2
  · show Ls = [] ∨ _
    rw [e]
    by_cases c : v.1 (pExp v (ptk v 38 p)).1 = 39
    · rw [if_pos c]
      exact .inr ⟨_, _, rfl, rfl⟩
    · rw [if_neg c]
      exact .inl rfl
theorem rgB_end {h g : gH} {c0 l0 : Int} {k : Nat} {r : Rul} (c0_ : 0 ≤ c0) (z : rgB h c0 l0 k r) (x : XRk h g) (y : YRs h g) (e : ∀ q : Nat, 307 ≤ q → q ≤ 310 → hV g q k = hV h q k) (e11 : hV g 311 k = hV h 285 44) : rgR g c0 (hV g 285 51) l0 (hV g 285 44) k r := by
  cases r with
  | none =>
    show hV g 307 k = 1
    rw [e 307 (by decide) (by decide)]
    exact z
  | some u =>
    obtain ⟨z1, z2, z3, z4, z5⟩ := z
    show hV g 307 k = 0 ∧ CDr g c0 (hV g 285 51) (hV g 308 k) (hV g 309 k) u.1 ∧ l0 ≤ hV g 310 k ∧ hV g 311 k = hV g 310 k + (u.2.length : Int) ∧ hV g 311 k ≤ hV g 285 44 ∧ ∀ (j : Nat) (w : Lit), u.2[j]? = some w → LIr g c0 (hV g 285 51) ((hV g 310 k).toNat + j) w
    rw [e 307 (by decide) (by decide), e 308 (by decide) (by decide), e 309 (by decide) (by decide), e 310 (by decide) (by decide), e11, x.1, y.1]
    refine ⟨z1, CDr_eq c0_ (fun i _ _ => ⟨by rw [x.2.1], by rw [x.2.2]⟩) z2, z3, z4, Int.le_refl _, fun j w hw => ?_⟩
    exact LIr_eq c0_ (fun i _ _ => ⟨by rw [x.2.1], by rw [x.2.2]⟩) (fun q q1 q2 => by rw [y.2 q q1 q2]) (z5 j w hw)
/-! All RULES of a side; the other side stays. -/
def OTs (a b : gH) (s : Int) : Prop := (∀ i : Nat, ((i : Int) < 600 * s ∨ 600 * s + 600 ≤ (i : Int)) → hV b 320 i = hV a 320 i ∧ hV b 321 i = hV a 321 i) ∧ (∀ q : Nat, 314 ≤ q → q ≤ 319 → ∀ i : Nat, ((i : Int) < 200 * s ∨ 200 * s + 200 ≤ (i : Int)) → hV b q i = hV a q i) ∧ (∀ q : Nat, 307 ≤ q → q ≤ 311 → ∀ i : Nat, ((i : Int) < 12 * s ∨ 12 * s + 12 ≤ (i : Int)) → hV b q i = hV a q i) ∧ ∀ i : Nat, ¬ (i : Int) = s → hV b 306 i = hV a 306 i
theorem OTs_tr {a b c : gH} {s : Int} (x : OTs a b s) (y : OTs b c s) : OTs a c s := ⟨fun i h => ⟨(y.1 i h).1.trans (x.1 i h).1, (y.1 i h).2.trans (x.1 i h).2⟩, fun q q1 q2 i h => (y.2.1 q q1 q2 i h).trans (x.2.1 q q1 q2 i h), fun q q1 q2 i h => (y.2.2.1 q q1 q2 i h).trans (x.2.2.1 q q1 q2 i h), fun i h => (y.2.2.2 i h).trans (x.2.2.2 i h)⟩
theorem OTs_k {a b : gH} {s : Int} (x : XRk a b) (y : YRs a b) (z : ZRs a b) : OTs a b s := ⟨fun i _ => ⟨by rw [x.2.1], by rw [x.2.2]⟩, fun q q1 q2 i _ => by rw [y.2 q q1 q2], fun q q1 q2 i _ => by rw [z q (by omega) q2], fun i _ => by rw [z 306 (by decide) (by decide)]⟩
/-- the live side stays -/
theorem rgS_ot {a b : gH} {s l : Int} {R : List Rul} (h : (s = 0 ∧ l = 1) ∨ (s = 1 ∧ l = 0)) (o : OTs a b s) (c : rgS a l (600 * l + 600) (200 * l + 200) R) : rgS b l (600 * l + 600) (200 * l + 200) R := by
  have r12 := c.2.1
  refine rgS_eq (by omega) (fun i i1 i2 => o.1 i (by omega)) (fun q q1 q2 i i1 i2 => o.2.1 q q1 q2 i (by omega)) (o.2.2.2 _ (by omega)) (fun q q1 q2 i hi => o.2.2.1 q q1 q2 _ (by omega)) c
/-- between two RULES -/
def RSi (h : gH) (s : Int) (v : Vw) (p0 p : PS) : Prop := ∃ R : List Rul, rgS h s (hV h 285 51) (hV h 285 44) R ∧ GRs R ∧ R ++ xRs v (12 - R.length) p = xRs v 12 p0
theorem RSi_0 {h : gH} {s : Int} {v : Vw} {p : PS} (e : hV h 306 s.toNat = 0) : RSi h s v p p := ⟨[], ⟨e, Nat.zero_le _, fun i r hr => (List.getElem?_eq_some_iff.mp hr).elim fun w _ => absurd w (Nat.not_lt_zero _)⟩, fun r h => absurd h (List.not_mem_nil), rfl⟩
theorem RSi_step {a b : gH} {s : Int} {v : Vw} {p0 p q : PS} (s0 : 0 ≤ s) (z : RSi a s v p0 p) (k : v.1 p.1 = 38 ∨ v.1 p.1 = 40) (n12 : ¬ hV a 306 s.toNat = 12) (c0 : 600 * s ≤ hV a 285 51) (l0 : 200 * s ≤ hV a 285 44) (kc : KPc a b) (kl : KPl a b) (kr : ∀ q : Nat, 307 ≤ q → q ≤ 311 → ∀ i : Nat, ¬ (i : Int) = 12 * s + hV a 306 s.toNat → hV b q i = hV a q i) (e6 : hV b 306 s.toNat = hV a 306 s.toNat + 1) (rg : rgR b (hV a 285 51) (hV b 285 51) (hV a 285 44) (hV b 285 44) (12 * s + hV a 306 s.toNat).toNat (xRule v p)) (gl : GRl (xRule v p)) (eq : q = ptk v 4 (if v.1 p.1 = 38 then pRight v p else pLoud v p)) : RSi b s v p0 q := by
  obtain ⟨R, r1, r2, r3⟩ := z
  have r0 := r1.1
  have rl := r1.2.1
  refine ⟨R ++ [xRule v p], rgS_add s0 r1 (by omega) kc.1 kl.1 (fun i _ i2 => kc.2 i (by omega)) (fun q q1 q2 i _ i2 => kl.2 q q1 q2 i (by omega)) e6 (fun q q1 q2 i hi => kr q q1 q2 _ (by omega)) ?_, GRs_add r2 gl, ?_⟩
  · rw [show (12 * s).toNat + R.length = (12 * s + hV a 306 s.toNat).toNat by omega]
    cases hr : xRule v p with
    | none =>
      rw [hr] at rg
      exact rg
    | some u =>
      rw [hr] at rg
      obtain ⟨g1, g2, g3, g4, g5, g6⟩ := rg
      exact ⟨g1, CDr_in g2 c0 (Int.le_refl _), by omega, g4, g5, fun j x hx => LIr_in (g6 j x hx) c0 (Int.le_refl _)⟩
  · rw [← r3, show 12 - R.length = (12 - (R ++ [xRule v p]).length) + 1 by rw [List.length_append]; show 12 - R.length = (12 - (R.length + 1)) + 1; omega, xRs_step k, ← eq, List.append_assoc]
    rfl
theorem RSi_end {h : gH} {s : Int} {v : Vw} {p0 p : PS} (z : RSi h s v p0 p) (k : ¬ (v.1 p.1 = 38 ∨ v.1 p.1 = 40)) (c1 : hV h 285 51 ≤ 600 * s + 600) (l1 : hV h 285 44 ≤ 200 * s + 200) : ∃ R, rgS h s (600 * s + 600) (200 * s + 200) R ∧ R = xRs v 12 p0 ∧ GRs R := by
  obtain ⟨R, r1, r2, r3⟩ := z
  rw [xRs_stop k, List.append_nil] at r3
  exact ⟨R, rgS_in r1 c1 l1, r3, r2⟩
/-- a side told by a text -/
def SSe (h : gH) (s : Int) (v : Vw) (p : PS) : Prop := ∃ R, rgS h s (600 * s + 600) (200 * s + 200) R ∧ R = xRules v p ∧ GRs R
theorem SSe_k {a b : gH} {s : Int} {v : Vw} {p : PS} (s0 : 0 ≤ s) (x : XRk a b) (y : YRs a b) (z : ZRs a b) (c : SSe a s v p) : SSe b s v p := by
  obtain ⟨R, r1, r2, r3⟩ := c
  exact ⟨R, rgS_eq s0 (fun i _ _ => ⟨by rw [x.2.1], by rw [x.2.2]⟩) (fun q q1 q2 i _ _ => by rw [y.2 q q1 q2]) (by rw [z 306 (by decide) (by decide)]) (fun q q1 q2 i _ => by rw [z q (by omega) q2]) r1, r2, r3⟩
/-- what read says of the live side -/
def RRx (v : Vw) (r : Int) (h0 h : gH) : Prop := (r = 0 ∧ v.1 0 = 19 ∧ (hV h 285 34 = 0 ∨ hV h 285 34 = 1) ∧ SSe h (hV h 285 34) v (0, 0)) ∨ (¬ (r = 0 ∧ v.1 0 = 19) ∧ hV h 285 34 = hV h0 285 34 ∧ ∀ R, rgS h0 (hV h0 285 34) (600 * hV h0 285 34 + 600) (200 * hV h0 285 34 + 200) R → rgS h (hV h 285 34) (600 * hV h 285 34 + 600) (200 * hV h 285 34 + 200) R)
