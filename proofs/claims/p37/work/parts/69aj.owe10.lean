/-! All RULES read by the class (hand). n2: no fault in q: none in p, and nothing told that is told only without one. -/
def n2 (p q : PS) : Prop := pOK q ∧ (0 ≤ q.1 → 0 ≤ p.1 ∧ q.2 = p.2)
theorem n2_rfl {p : PS} (h : pOK p) : n2 p p := ⟨h, fun w => ⟨w, rfl⟩⟩
theorem n2_tr {p q r : PS} (x : n2 p q) (y : n2 q r) : n2 p r := ⟨y.1, fun w => ⟨(x.2 (y.2 w).1).1, (y.2 w).2.trans (x.2 (y.2 w).1).2⟩⟩
theorem pgz_2 {s w : Int} (h : 0 ≤ (pgz s w).1) : (pgz s w).2 = w := if_neg (fun c : s < 0 => by have h : 0 ≤ s := h; omega)
theorem ptk_2 {v : Vw} {c : Int} {p : PS} (h : 0 ≤ (ptk v c p).1) : (ptk v c p).2 = p.2 := pgz_2 (s := pt1 v c p.1) (w := p.2) h
theorem n2_tk {v : Vw} {c : Int} {p : PS} (h : pOK p) : n2 p (ptk v c p) := ⟨ptk_ok, fun w => ⟨by
  rcases Int.lt_or_le p.1 0 with n | n
  · rw [ptk_neg n h] at w
    exact w
  · exact n, ptk_2 w⟩⟩
theorem n2_fail {v : Vw} {f : Int} {p : PS} (h : pOK p) : n2 p (pfail v f p) := ⟨pfail_ok, fun w => ⟨by
  rcases Int.lt_or_le p.1 0 with n | n
  · rw [pfail_neg n h] at w
    exact w
  · exact n, pgz_2 (s := pfl v f p.1) (w := p.2) w⟩⟩
theorem pE_n2 {v : Vw} : ∀ {f : Nat} {b o : Int} {p : PS}, pOK p → n2 p (pE v f b o p)
  | 0, _, _, _, h => n2_rfl h
  | f + 1, b, o, p, h => by
    have g1 : ∀ (c b o : Int), n2 p (pE v f b o (ptk v c p)) := fun c b o => n2_tr (n2_tk h) (pE_n2 ptk_ok)
    unfold pE
    by_cases hb : b = 1
    · rw [if_pos hb]
      by_cases h1 : v.1 p.1 = 10
      · rw [if_pos h1]
        by_cases h2 : o = 6
        · rw [if_pos h2]
          exact n2_fail h
        · rw [if_neg h2]
          exact g1 _ _ _
      · rw [if_neg h1]
        by_cases h3 : v.1 p.1 = 3 ∨ (45 ≤ v.1 p.1 ∧ v.1 p.1 ≤ 49)
        · rw [if_pos h3]
          exact g1 _ _ _
        · rw [if_neg h3]
          exact n2_fail h
    · rw [if_neg hb]
      by_cases h1 : v.1 p.1 = 11 ∧ 0 < o
      · rw [if_pos h1]
        exact g1 _ _ _
      · rw [if_neg h1]
        by_cases h2 : 6 ≤ v.1 p.1 ∧ v.1 p.1 ≤ 9
        · rw [if_pos h2]
          exact g1 _ _ _
        · rw [if_neg h2]
          by_cases h3 : 0 < o
          · rw [if_pos h3]
            exact n2_fail h
          · rw [if_neg h3]
            exact n2_rfl h
theorem pExp_n2 {v : Vw} {p : PS} (h : pOK p) : n2 p (pExp v p) := pE_n2 h
theorem pNots_n2 {v : Vw} : ∀ {f : Nat} {p : PS}, pOK p → n2 p (pNots v f p)
  | 0, _, h => n2_rfl h
  | f + 1, p, h => by
    unfold pNots
    by_cases c : v.1 p.1 = 44
    · rw [if_pos c]
      exact n2_tr (n2_tk h) (pNots_n2 ptk_ok)
    · rw [if_neg c]
      exact n2_rfl h
theorem pRel_n2 {v : Vw} {p : PS} (h : pOK p) : n2 p (pRel v p) := by
  unfold pRel
  by_cases c : 12 ≤ v.1 p.1 ∧ v.1 p.1 ≤ 15
  · rw [if_pos c]
    exact n2_tk h
  · rw [if_neg c]
    exact n2_fail h
theorem pLit_n2 {v : Vw} {p : PS} (h : pOK p) : n2 p (pLit v p) := by
  have a := pNots_n2 (v := v) (f := (502 - p.1).toNat) h
  have b := pExp_n2 (v := v) a.1
  have c := pRel_n2 (v := v) b.1
  exact n2_tr a (n2_tr b (n2_tr c (pExp_n2 c.1)))
theorem pCond_n2 {v : Vw} : ∀ {f : Nat} {p : PS}, pOK p → n2 p (pCond v f p)
  | 0, _, h => n2_rfl h
  | f + 1, p, h => by
    have a := pLit_n2 (v := v) h
    unfold pCond
    by_cases c : v.1 (pLit v p).1 = 42 ∨ v.1 (pLit v p).1 = 43
    · rw [if_pos c]
      exact n2_tr a (n2_tr (n2_tk a.1) (pCond_n2 ptk_ok))
    · rw [if_neg c]
      exact a
theorem pRight_n2 {v : Vw} {p : PS} (h : pOK p) : n2 p (pRight v p) := by
  have a := n2_tk (v := v) (c := 38) h
  have b := n2_tr a (pExp_n2 (v := v) a.1)
  unfold pRight
  by_cases c : v.1 (pExp v (ptk v 38 p)).1 = 39
  · rw [if_pos c]
    exact n2_tr b (n2_tr (n2_tk b.1) (pCond_n2 ptk_ok))
  · rw [if_neg c]
    exact b
theorem pnm_io {v : Vw} {lo hi : Int} {p : PS} (o : pOK p) (h : 0 ≤ (pnm v lo hi p).1) (h2 : (pnm v lo hi p).2 = 0) : 0 ≤ p.1 ∧ p.2 = 0 ∧ lo ≤ v.2.1 p.1 ∧ v.2.1 p.1 ≤ hi := by
  have p0 : 0 ≤ p.1 := by
    rcases Int.lt_or_le p.1 0 with n | n
    · rw [pnm_neg n o] at h
      exact h
    · exact n
  have e : (pnm v lo hi p).2 = if p.2 = 0 ∧ (v.2.1 p.1 < lo ∨ hi < v.2.1 p.1) then 8 * v.2.2.2 p.1 + 5 else p.2 := pgz_2 (s := pt1 v 3 p.1) h
  rw [h2] at e
  by_cases c : p.2 = 0 ∧ (v.2.1 p.1 < lo ∨ hi < v.2.1 p.1)
  · rw [if_pos c] at e
    omega
  · rw [if_neg c] at e
    exact ⟨p0, e.symm, by omega, by omega⟩
theorem pLoud_in {v : Vw} {p : PS} (o : pOK p) (h : 0 ≤ (pLoud v p).1) (h2 : (pLoud v p).2 = 0) : 0 ≤ p.1 ∧ p.2 = 0 ∧ 1 ≤ v.2.1 (ptk v 41 (pnm v 0 9999 (ptk v 40 p))).1 := by
  obtain ⟨a1, a2, a3, _⟩ := pnm_io (p := ptk v 41 (pnm v 0 9999 (ptk v 40 p))) ptk_ok h h2
  have b := (n2_tk (v := v) (c := 41) (p := pnm v 0 9999 (ptk v 40 p)) pnm_ok).2 a1
  have c := pnm_io (p := ptk v 40 p) ptk_ok b.1 (b.2.symm.trans a2)
  have d := (n2_tk (v := v) (c := 40) o).2 c.1
  exact ⟨d.1, d.2.symm.trans c.2.1, a3⟩
theorem pLoud_mv {h : gH} (z : TKI h) {p : PS} (hp : 0 ≤ (pLoud (vwC h) p).1) : p.1 ≤ (pLoud (vwC h) p).1 := by
  have a := ptk_mono z (c := 3) (p := ptk (vwC h) 41 (pnm (vwC h) 0 9999 (ptk (vwC h) 40 p))) hp
  have b := ptk_mono z (c := 41) (p := pnm (vwC h) 0 9999 (ptk (vwC h) 40 p)) a.1
  have c := ptk_mono z (c := 3) (p := ptk (vwC h) 40 p) b.1
  have d := ptk_mono z (c := 40) (p := p) c.1
  have e1 : (pLoud (vwC h) p).1 = (ptk (vwC h) 3 (ptk (vwC h) 41 (pnm (vwC h) 0 9999 (ptk (vwC h) 40 p)))).1 := rfl
  have e2 : (pnm (vwC h) 0 9999 (ptk (vwC h) 40 p)).1 = (ptk (vwC h) 3 (ptk (vwC h) 40 p)).1 := rfl
  omega
/-! The rows of RULES stay. -/
theorem RLl_eq {a b : gH} {d : Int} {L : List Int} {R : List Rul} (s0 : hV b d.toNat 0 = hV a d.toNat 0) (rows : ∀ j : Nat, 2 ≤ j → j ≤ 6 → hV b (d.toNat + j) = hV a (d.toNat + j)) (z : RLl a d L R) : RLl b d L R := ⟨s0.trans z.1, z.2.1, fun i r hr => by
  have q := RLj_eq (b := b) (M := []) (congrFun (rows 2 (by decide) (by decide)) i) (congrFun (rows 3 (by decide) (by decide)) i) (congrFun (rows 4 (by decide) (by decide)) i) (congrFun (rows 6 (by decide) (by decide)) i) (z.2.2 i r hr)
  rw [List.append_nil] at q
  exact q⟩
theorem RLl_sm {a b : gH} {d : Int} {L : List Int} {R : List Rul} (z : RO a d) (s : SMf a b) (r : RLl a d L R) : RLl b d L R := by
  have k := KO_sm z s
  exact RLl_eq (k.2.2.1 0 (by decide)) (fun j j1 j2 => k.2.1 j j1 (by omega)) r
theorem RLo_sm {a b : gH} {d : Int} {R : List Rul} (z : RO a d) (s : SMf a b) (r : RLo a d R) : RLo b d R := RLo_eq (fun j j1 j2 => s.2 _ (.inr (z.2.2.2.2.1 j j1 (by omega)))) (congrFun (s.2 _ (.inl z.2.1)) 0) r
/-- between two RULES: i of them are told, p the next TOKEN -/
def RRi (h : gH) (d : Int) (v : Vw) (p0 : PS) (i : Int) (p : PS) : Prop := ∃ (L : List Int) (R : List Rul), CODE h d L ∧ (L.length : Int) ≤ p.1 ∧ RLl h d L R ∧ GRs R ∧ (R.length : Int) = i ∧ R ++ xRs v (12 - i.toNat) p = xRs v 12 p0
theorem RR_0 {a b : gH} {d : Int} {v : Vw} {p : PS} (z : RO a d) (e0 : hV a d.toNat 0 = 0) (e2 : hV a d.toNat 2 = 0) (s : SMf a b) (hp : 0 ≤ p.1) : RRi b d v p 0 p := by
  refine ⟨[], [], CODE_sm z s ⟨e2, fun j x h => (List.getElem?_eq_some_iff.mp h).elim fun w _ => absurd w (Nat.not_lt_zero _)⟩, hp, RLl_sm z s ⟨e0, Nat.zero_le _, fun i r h => (List.getElem?_eq_some_iff.mp h).elim fun w _ => absurd w (Nat.not_lt_zero _)⟩, fun r h => absurd h (List.not_mem_nil), rfl, ?_⟩
  rw [show (0 : Int).toNat = 0 from rfl]
  rfl
theorem xRs_stop {v : Vw} {f : Nat} {p : PS} (h : ¬ (v.1 p.1 = 38 ∨ v.1 p.1 = 40)) : xRs v f p = [] := by
  cases f with
  | zero => rfl
  | succ f => exact if_neg h
theorem xRs_step {v : Vw} {f : Nat} {p : PS} (h : v.1 p.1 = 38 ∨ v.1 p.1 = 40) : xRs v (f + 1) p = xRule v p :: xRs v f (ptk v 4 (if v.1 p.1 = 38 then pRight v p else pLoud v p)) := if_pos h
theorem RR_end {h : gH} {d i : Int} {v : Vw} {p0 p : PS} (r : RRi h d v p0 i p) (k : ¬ (v.1 p.1 = 38 ∨ v.1 p.1 = 40)) (l : p.1 ≤ 1000) : ∃ R, RLo h d R ∧ R = xRs v 12 p0 ∧ GRs R := by
  obtain ⟨L, R, r1, r2, r3, r4, r5, r6⟩ := r
  rw [xRs_stop k, List.append_nil] at r6
  exact ⟨R, RLo_of r1 (by omega) r3, r6, r4⟩
theorem GRs_add {R : List Rul} {r : Rul} (h : GRs R) (g : GRl r) : GRs (R ++ [r]) := fun x m => by
  rcases List.mem_append.mp m with w | w
  · exact h x w
  · rw [List.mem_singleton.mp w]
    exact g
theorem RR_step {h g : gH} {d i i' : Int} {L M : List Int} {v : Vw} {p0 p q : PS} {R : List Rul} (z : RO h d) (s : SMf h g) (c : CODE h d (L ++ M)) (l : ((L ++ M).length : Int) ≤ q.1) (rl : RLl h d (L ++ M) (R ++ [xRule v p])) (gl : GRl (xRule v p)) (gs : GRs R) (li : (R.length : Int) = i) (lt : R.length < 12) (ei : i' = i + 1) (k : v.1 p.1 = 38 ∨ v.1 p.1 = 40) (eq : q = if v.1 p.1 = 38 then pRight v p else pLoud v p) (le : q.1 ≤ (ptk v 4 q).1) (e : R ++ xRs v (12 - i.toNat) p = xRs v 12 p0) : RRi g d v p0 i' (ptk v 4 q) := by
  refine ⟨L ++ M, R ++ [xRule v p], CODE_sm z s c, by omega, RLl_sm z s rl, GRs_add gs gl, ?_, ?_⟩
  · rw [List.length_append]
    show ((R.length + 1 : Nat) : Int) = i'
    omega
  · rw [← e, show 12 - i.toNat = (12 - i'.toNat) + 1 by omega, xRs_step k, ← eq, List.append_assoc]
    rfl
theorem xRule_loud {v : Vw} {p : PS} (k : v.1 p.1 = 40) : xRule v p = none := if_neg (by omega)
theorem GRl_none : GRl none := fun _ h => by cases h
/-- RULES told by the draft once a text is read -/
def RRe (h : gH) (d : Int) (v : Vw) (p : PS) : Prop := ∃ R, RLo h d R ∧ R = xRules v p ∧ GRs R
theorem RRe_sm {a b : gH} {d : Int} {v : Vw} {p : PS} (z : RO a d) (s : SMf a b) (r : RRe a d v p) : RRe b d v p := by
  obtain ⟨R, r1, r2, r3⟩ := r
  exact ⟨R, RLo_sm z s r1, r2, r3⟩
theorem absC_2 {h : gH} (hf : hV h 30 3 = 0) (l5 : hV h 30 5 = 0) : (absC h).2 = 0 := by
  unfold absC
  rw [if_pos hf]
  exact if_pos l5
/-! The live RULES and the draft (hand): objects 10 and 36, one each. -/
def CSm (a b : gH) (d : Int) : Prop := ∀ q : Nat, d.toNat ≤ q → q ≤ d.toNat + 8 → hK b q = hK a q ∧ hN b q = hN a q ∧ hV b q = hV a q
theorem CSm_tr {a b c : gH} {d : Int} (x : CSm a b d) (y : CSm b c d) : CSm a c d := fun q q1 q2 => ⟨(y q q1 q2).1.trans (x q q1 q2).1, (y q q1 q2).2.1.trans (x q q1 q2).2.1, (y q q1 q2).2.2.trans (x q q1 q2).2.2⟩
theorem RO_cs {a b : gH} {d : Int} (z : RO a d) (s : CSm a b d) : RO b d := by
  obtain ⟨z1, z2, z3, z4, z5, z6, z7, z8, z9⟩ := z
  have e0 := s d.toNat (by omega) (by omega)
  exact ⟨z1, e0.1.trans z2, fun k k1 k2 => (congrFun e0.2.2 k).trans (z3 k k1 k2), (congrFun e0.2.2 1).trans z4, fun j j1 j2 => (s _ (by omega) (by omega)).1.trans (z5 j j1 j2), (s _ (by omega) (by omega)).2.1.trans z6, fun j j1 j2 => (s _ (by omega) (by omega)).2.1.trans (z7 j j1 j2), (s _ (by omega) (by omega)).2.1.trans z8, (s _ (by omega) (by omega)).2.1.trans z9⟩
theorem RLo_cs {a b : gH} {d : Int} {R : List Rul} (s : CSm a b d) (r : RLo a d R) : RLo b d R := RLo_eq (fun j j1 j2 => (s _ (by omega) (by omega)).2.2) (congrFun (s _ (by omega) (by omega)).2.2 0) r
theorem RRe_cs {a b : gH} {d : Int} {v : Vw} {p : PS} (s : CSm a b d) (r : RRe a d v p) : RRe b d v p := by
  obtain ⟨R, r1, r2, r3⟩ := r
  exact ⟨R, RLo_cs s r1, r2, r3⟩
theorem RO_kn {a : gH} {d : Int} (z : RO a d) : ∀ q : Nat, d.toNat ≤ q → q ≤ d.toNat + 8 → hK a q = 5 ∨ hK a q = 100 := fun q q1 q2 => by
  by_cases c : q = d.toNat
  · rw [c]
    exact .inl z.2.1
  · have w := z.2.2.2.2.1 (q - d.toNat) (by omega) (by omega)
    rw [show d.toNat + (q - d.toNat) = q by omega] at w
    exact .inr w
theorem CSm_le {a b : gH} {d : Int} (z : RO a d) (le : hLe T0 a b) (e : ∀ q : Nat, d.toNat ≤ q → q ≤ d.toNat + 8 → hV b q = hV a q) : CSm a b d := fun q q1 q2 => by
  have k := RO_kn z q q1 q2
  exact ⟨k.elim (fun k => (kLe le k rfl).trans k.symm) (fun k => (kLe le k rfl).trans k.symm), (le.2 _ (k.elim (fun k => hK_lt k (by decide)) (fun k => hK_lt k (by decide)))).2.1, e q q1 q2⟩
theorem CSm_sm {a b : gH} {d : Int} (z : RO a d) (s : SMf a b) : CSm a b d := CSm_le z s.1 fun q q1 q2 => s.2 q (RO_kn z q q1 q2)
theorem CSm_ot {a b : gH} {d l : Int} (z : RO a l) (le : hLe T0 a b) (o : OT a b d) (h : (l = 10 ∧ d = 36) ∨ (l = 36 ∧ d = 10)) : CSm a b l := CSm_le z le fun q q1 q2 => (o q (RO_kn z q q1 q2)).2 (by omega)
theorem CSm_up {a b : gH} {d o i w : Int} (u : hUpd b a o i w) (h : o < (d.toNat : Int) ∨ ((d.toNat + 8 : Nat) : Int) < o) : CSm a b d := fun q q1 q2 => ⟨(u.2.2 q).1, (u.2.2 q).2, uRowNe u q (by omega)⟩
def RX (h : gH) : Prop := W49 h ∧ ((hV h 7 5 = 10 ∧ hV h 30 8 = 36) ∨ (hV h 7 5 = 36 ∧ hV h 30 8 = 10)) ∧ RO h 10 ∧ RO h 36
theorem RX_l {h : gH} (z : RX h) : RO h (hV h 7 5) ∧ RO h (hV h 30 8) := by
  obtain ⟨_, c, x, y⟩ := z
  rcases c with ⟨c1, c2⟩ | ⟨c1, c2⟩
  · rw [c1, c2]
    exact ⟨x, y⟩
  · rw [c1, c2]
    exact ⟨y, x⟩
/-- a step that leaves both as they are -/
def RXs (a b : gH) : Prop := W49 b ∧ hV b 7 5 = hV a 7 5 ∧ hV b 30 8 = hV a 30 8 ∧ CSm a b 10 ∧ CSm a b 36
theorem RXs_tr {a b c : gH} (x : RXs a b) (y : RXs b c) : RXs a c := ⟨y.1, y.2.1.trans x.2.1, y.2.2.1.trans x.2.2.1, CSm_tr x.2.2.2.1 y.2.2.2.1, CSm_tr x.2.2.2.2 y.2.2.2.2⟩
theorem RX_go {a b : gH} (z : RX a) (s : RXs a b) : RX b ∧ (∀ R, RLo a (hV a 7 5) R → RLo b (hV b 7 5) R) ∧ ∀ v p, RRe a (hV a 30 8) v p → RRe b (hV b 30 8) v p := by
  obtain ⟨z1, z2, z3, z4⟩ := z
  obtain ⟨s1, s2, s3, s4, s5⟩ := s
  refine ⟨⟨s1, by rw [s2, s3]; exact z2, RO_cs z3 s4, RO_cs z4 s5⟩, fun R r => ?_, fun v p r => ?_⟩
  · rw [s2]
    rcases z2 with ⟨c, _⟩ | ⟨c, _⟩
    · rw [c] at r ⊢
      exact RLo_cs s4 r
    · rw [c] at r ⊢
      exact RLo_cs s5 r
  · rw [s3]
    rcases z2 with ⟨_, c⟩ | ⟨_, c⟩
    · rw [c] at r ⊢
      exact RRe_cs s5 r
    · rw [c] at r ⊢
      exact RRe_cs s4 r
theorem RXs_fr {W : List (Nat × Nat)} {a b : gH} (z : RX a) (le : hLe T0 a b) (f : hFr W a b) (w5 : cNoK 5 W = true) (w1 : cNoK 100 W = true) (c7 : vFree W 7 5 = true) (c8 : vFree W 30 8 = true) : RXs a b := by
  have s := SMf_fr le f w5 w1
  exact ⟨W49_le le z.1, f.1 7 5 c7, f.1 30 8 c8, CSm_sm z.2.2.1 s, CSm_sm z.2.2.2 s⟩
theorem RXs_up {a b : gH} {o i w : Int} (z : RX a) (u : hUpd b a o i w) (ho : o = 7) (hi : ¬ i = 5) : RXs a b := by
  subst ho
  exact ⟨W49_up u z.1, uSlot u 7 5 (by omega), congrFun (uRowNe u 30 (by decide)) 8, CSm_up u (by decide), CSm_up u (by decide)⟩
/-- the draft is read -/
theorem RX_ck {a b : gH} (z : RX a) (le : hLe T0 a b) (e5 : hV b 7 5 = hV a 7 5) (e8 : hV b 30 8 = hV a 30 8) (ck : RO b (hV a 30 8) ∧ OT a b (hV a 30 8) ∧ W49 b) : RX b ∧ ∀ R, RLo a (hV a 7 5) R → RLo b (hV b 7 5) R := by
  have l := RX_l z
  obtain ⟨k1, k2, k3⟩ := ck
  have c := CSm_ot l.1 le k2 z.2.1
  have rl := RO_cs l.1 c
  refine ⟨⟨k3, by rw [e5, e8]; exact z.2.1, ?_, ?_⟩, fun R r => by rw [e5]; exact RLo_cs c r⟩
  · rcases z.2.1 with ⟨c1, c2⟩ | ⟨c1, c2⟩
    · rw [c1] at rl
      exact rl
    · rw [c2] at k1
      exact k1
  · rcases z.2.1 with ⟨c1, c2⟩ | ⟨c1, c2⟩
    · rw [c2] at k1
      exact k1
    · rw [c1] at rl
      exact rl
/-- draft and live ones change places -/
theorem RX_ex {a b c : gH} {o i x r : Int} (z : RX a) (s : SMf a b) (e5 : hV b 30 8 = x) (hx : x = hV a 7 5) (er : r = hV a 30 8) (u : hUpd c b o i r) (ho : o = 7) (hi : i = 5) : RX c ∧ ∀ v p, RRe a (hV a 30 8) v p → RRe c (hV c 7 5) v p := by
  subst ho
  subst hi
  have w := W49_le s.1 z.1
  have e7 : hV c 7 5 = r := uSame u 7 5 rfl rfl
  have e8 : hV c 30 8 = hV a 7 5 := (congrFun (uRowNe u 30 (by decide)) 8).trans (e5.trans hx)
  have c10 := CSm_tr (CSm_sm z.2.2.1 s) (CSm_up u (by decide))
  have c36 := CSm_tr (CSm_sm z.2.2.2 s) (CSm_up u (by decide))
  refine ⟨⟨W49_up u w, ?_, RO_cs z.2.2.1 c10, RO_cs z.2.2.2 c36⟩, fun v p q => ?_⟩
  · rw [e7, e8, er]
    rcases z.2.1 with ⟨c1, c2⟩ | ⟨c1, c2⟩
    · exact .inr ⟨c2, c1⟩
    · exact .inl ⟨c2, c1⟩
  · rw [e7, er]
    rcases z.2.1 with ⟨c1, c2⟩ | ⟨c1, c2⟩
    · rw [c2] at q ⊢
      exact RRe_cs c36 q
    · rw [c2] at q ⊢
      exact RRe_cs c10 q
/-- what read says of RULES -/
def RXr (v : Vw) (r : Int) (h0 h : gH) : Prop := RX h ∧ ((r = 0 ∧ v.1 0 = 19 ∧ RRe h (hV h 7 5) v (0, 0)) ∨ (¬ (r = 0 ∧ v.1 0 = 19) ∧ ∀ R, RLo h0 (hV h0 7 5) R → RLo h (hV h 7 5) R))
