/-! THE REFERENCE'S TOKENS (behind tokens9.lean.txt and rbase2.lean.txt). -/
/-- the reference's TOKEN at place k of its rows -/
def tokR (h : gH) (k : Nat) : Tok := (km (hV h 288 k), hV h 289 k, if hV h 288 k = 2 then hV h 290 k else 0, if hV h 288 k = 1 then hV h 291 k else 0)
def TLR (h : gH) (L : List Tok) : Prop := hV h 285 10 = (L.length : Int) ∧ ∀ k : Nat, k < L.length → L[k]? = some (tokR h k)
/-- one TOKEN more -/
def NTr (k p v nm : Int) (a b : gH) : Prop := hV b 285 10 = hV a 285 10 + 1 ∧ hV b 288 = uF (hV a 288) (hV a 285 10) k ∧ hV b 289 = uF (hV a 289) (hV a 285 10) p ∧ hV b 290 = uF (hV a 290) (hV a 285 10) v ∧ hV b 291 = uF (hV a 291) (hV a 285 10) nm
theorem TLR_0 {h : gH} (e : hV h 285 10 = 0) : TLR h [] := ⟨e, fun k hk => by cases hk⟩
theorem TLR_add {a b : gH} {L : List Tok} {t : Tok} {k p v nm : Int} (z : TLR a L) (x : NTr k p v nm a b) (e : t = (km k, p, if k = 2 then v else 0, if k = 1 then nm else 0)) : TLR b (L ++ [t]) := by
  obtain ⟨x1, x2, x3, x4, x5⟩ := x
  obtain ⟨z1, z2⟩ := z
  refine ⟨by rw [x1, z1, List.length_append]; rfl, fun j hj => ?_⟩
  rw [List.length_append] at hj
  have hj' : j < L.length + 1 := hj
  unfold tokR
  rw [x2, x3, x4, x5, uF_at, uF_at, uF_at, uF_at]
  by_cases c : j = L.length
  · have c' : (j : Int) = hV a 285 10 := by omega
    rw [if_pos c', if_pos c', if_pos c', if_pos c', ← e, c, List.getElem?_append_right (Nat.le_refl _), Nat.sub_self]
    rfl
  · have c' : ¬ (j : Int) = hV a 285 10 := by omega
    rw [if_neg c', if_neg c', if_neg c', if_neg c', List.getElem?_append_left (by omega)]
    exact z2 j (by omega)
theorem TLR_same {a b : gH} {L : List Tok} (x : TRs a b) (z : TLR a L) : TLR b L := by
  unfold TLR tokR
  rw [x.1, x.2.1, x.2.2.1, x.2.2.2.1, x.2.2.2.2]
  exact z
/-- places and NAMES of what is told, all ahead of i -/
def PLI (h : gH) (i : Int) : Prop := 0 ≤ hV h 285 10 ∧ hV h 285 10 ≤ 501 ∧ 0 ≤ i ∧ i ≤ 2000 ∧ ∀ k : Nat, (k : Int) < hV h 285 10 → 0 ≤ hV h 289 k ∧ hV h 289 k < i ∧ ((k : Int) + 1 < hV h 285 10 → hV h 289 k < hV h 289 (k + 1)) ∧ (hV h 288 k = 1 → 0 ≤ hV h 291 k ∧ hV h 291 k < 1099511627776)
theorem PLI_0 {h : gH} (e : hV h 285 10 = 0) : PLI h 0 := ⟨by omega, by omega, by omega, by omega, fun k hk => by omega⟩
theorem PLI_up {h : gH} {i j : Int} (z : PLI h i) (h1 : i ≤ j) (h2 : j ≤ 2000) : PLI h j := ⟨z.1, z.2.1, by have := z.2.2.1; omega, h2, fun k hk => by have y := z.2.2.2.2 k hk; exact ⟨y.1, by omega, y.2.2⟩⟩
theorem PLI_same {a b : gH} {i : Int} (x : TRs a b) (z : PLI a i) : PLI b i := by
  unfold PLI
  rw [x.1, x.2.1, x.2.2.1, x.2.2.2.2]
  exact z
theorem PLI_add {a b : gH} {i j k v nm : Int} (z : PLI a i) (x : NTr k i v nm a b) (h5 : hV a 285 10 ≤ 500) (h1 : i < j) (h2 : j ≤ 2000) (hn : k = 1 → 0 ≤ nm ∧ nm < 1099511627776) : PLI b j := by
  obtain ⟨x1, x2, x3, x4, x5⟩ := x
  obtain ⟨z1, z2, z3, z4, z5⟩ := z
  refine ⟨by omega, by omega, by omega, h2, fun q hq => ?_⟩
  rw [x2, x3, x5, x1, uF_at, uF_at, uF_at, uF_at]
  by_cases c : (q : Int) = hV a 285 10
  · rw [if_pos c, if_pos c, if_pos c, if_neg (by omega)]
    exact ⟨z3, h1, fun w => by omega, hn⟩
  · have y := z5 q (by omega)
    rw [if_neg c, if_neg c, if_neg c]
    refine ⟨y.1, by omega, fun w => ?_, y.2.2.2⟩
    by_cases c2 : ((q + 1 : Nat) : Int) = hV a 285 10
    · rw [if_pos c2]
      exact y.2.1
    · rw [if_neg c2]
      exact y.2.2.1 (by omega)
theorem km_0 : km 0 = 0 := by decide
theorem vwR_tok {h : gH} {s : Int} (k : okR h s) : (vwR h).1 s = (tokR h s.toNat).1 ∧ (vwR h).2.1 s = (tokR h s.toNat).2.2.1 ∧ (vwR h).2.2.1 s = (tokR h s.toNat).2.2.2 ∧ (vwR h).2.2.2 s = (tokR h s.toNat).2.1 := by
  have e : kR h s = hV h 288 s.toNat := if_pos k
  refine ⟨?_, ?_, ?_, if_pos k⟩
  · show (if s < 0 then (-1 : Int) else km (kR h s)) = _
    rw [if_neg (by have := k.1; omega), e]
    rfl
  · show (if kR h s = 2 then hV h 290 s.toNat else 0) = _
    rw [e]
    rfl
  · show (if kR h s = 1 then hV h 291 s.toNat else 0) = _
    rw [e]
    rfl
theorem vwR_out {h : gH} {s : Int} (k : ¬ okR h s) : (vwR h).1 s = (if s < 0 then -1 else 0) ∧ (vwR h).2.1 s = 0 ∧ (vwR h).2.2.1 s = 0 ∧ (vwR h).2.2.2 s = 0 := by
  have e : kR h s = 0 := if_neg k
  refine ⟨?_, ?_, ?_, if_neg k⟩
  · show (if s < 0 then (-1 : Int) else km (kR h s)) = _
    rw [e, km_0]
  · show (if kR h s = 2 then hV h 290 s.toNat else 0) = _
    rw [e]
    exact if_neg (by decide)
  · show (if kR h s = 1 then hV h 291 s.toNat else 0) = _
    rw [e]
    exact if_neg (by decide)
/-- 501 TOKENS were told, more may come -/
theorem cut_many {h : gH} {B : Nat → Int} {n : Int} {i : Nat} {L : List Tok} (z : TLR h L) (y : TKL B n.toNat i L) (e : hV h 285 10 = 501) : vwR h = pTx B n := by
  refine vw_ext fun s => ?_
  rcases Int.lt_or_le s 0 with c | c
  · obtain ⟨a, b, d, f⟩ := vwR_out (h := h) (s := s) (fun k => by have := k.1; omega)
    have t : tkAt (pTk B n.toNat n.toNat 0) n s = (-1, 0, 0, 0) := if_pos c
    rw [a, b, d, f, t, if_pos c]
    exact ⟨rfl, rfl, rfl, rfl⟩
  · rcases Int.lt_or_le 500 s with c5 | c5
    · obtain ⟨a, b, d, f⟩ := vwR_out (h := h) (s := s) (fun k => by have := k.2.1; omega)
      have t : tkAt (pTk B n.toNat n.toNat 0) n s = (0, 0, 0, 0) := by
        unfold tkAt
        rw [if_neg (by omega), if_pos c5]
      rw [a, b, d, f, t, if_neg (by omega)]
      exact ⟨rfl, rfl, rfl, rfl⟩
    · obtain ⟨a, b, d, f⟩ := vwR_tok (h := h) (s := s) ⟨c, c5, by omega⟩
      have l : L.length = 501 := by have := z.1; omega
      have t : tkAt (pTk B n.toNat n.toNat 0) n s = tokR h s.toNat := tkAt_in c c5 (by rw [y, List.getElem?_append_left (by omega)]; exact z.2 _ (by omega))
      rw [a, b, d, f, t]
      exact ⟨rfl, rfl, rfl, rfl⟩
/-- the text's end was reached -/
theorem cut_all {h : gH} {B : Nat → Int} {n : Int} {L : List Tok} (z : TLR h (L ++ [(0, n, 0, 0)])) (y : pTk B n.toNat n.toNat 0 = L) (l : L.length ≤ 500) : vwR h = pTx B n := by
  have zl : hV h 285 10 = (L.length : Int) + 1 := by rw [z.1, List.length_append]; rfl
  refine vw_ext fun s => ?_
  rw [y]
  rcases Int.lt_or_le s 0 with c | c
  · obtain ⟨a, b, d, f⟩ := vwR_out (h := h) (s := s) (fun k => by have := k.1; omega)
    have t : tkAt L n s = (-1, 0, 0, 0) := if_pos c
    rw [a, b, d, f, t, if_pos c]
    exact ⟨rfl, rfl, rfl, rfl⟩
  · rcases Int.lt_or_le 500 s with c5 | c5
    · obtain ⟨a, b, d, f⟩ := vwR_out (h := h) (s := s) (fun k => by have := k.2.1; omega)
      have t : tkAt L n s = (0, 0, 0, 0) := by
        unfold tkAt
        rw [if_neg (by omega), if_pos c5]
      rw [a, b, d, f, t, if_neg (by omega)]
      exact ⟨rfl, rfl, rfl, rfl⟩
    · rcases Int.lt_or_le (L.length : Int) s with c6 | c6
      · obtain ⟨a, b, d, f⟩ := vwR_out (h := h) (s := s) (fun k => by have := k.2.2; omega)
        rw [a, b, d, f, tkAt_out c c5 c6, if_neg (by omega)]
        exact ⟨rfl, rfl, rfl, rfl⟩
      · obtain ⟨a, b, d, f⟩ := vwR_tok (h := h) (s := s) ⟨c, c5, by omega⟩
        have q := z.2 s.toNat (by rw [List.length_append]; show s.toNat < L.length + 1; omega)
        by_cases c7 : s = (L.length : Int)
        · rw [show s.toNat = L.length by omega, List.getElem?_append_right (Nat.le_refl _), Nat.sub_self] at q
          have w : tokR h s.toNat = (0, n, 0, 0) := by
            rw [show s.toNat = L.length by omega]
            exact (Option.some.inj q).symm
          rw [a, b, d, f, tkAt_end c5 c7, w]
          exact ⟨rfl, rfl, rfl, rfl⟩
        · rw [List.getElem?_append_left (by omega)] at q
          rw [a, b, d, f, tkAt_in c c5 q]
          exact ⟨rfl, rfl, rfl, rfl⟩
theorem TR_many {h : gH} {i : Int} (z : PLI h i) (e : hV h 285 10 = 501) : TR h := ⟨by omega, by omega, fun c => by omega, fun k hk => by have y := z.2.2.2.2 k hk; have := z.2.2.2.1; exact ⟨y.1, by omega, y.2.2⟩⟩
theorem TR_all {a b : gH} {n i v nm : Int} (z : PLI a i) (h5 : hV a 285 10 ≤ 500) (x : NTr 0 n v nm a b) (hi : i ≤ n) (hn : n ≤ 2000) : TR b := by
  obtain ⟨x1, x2, x3, x4, x5⟩ := x
  obtain ⟨z1, z2, z3, z4, z5⟩ := z
  refine ⟨by omega, by omega, fun _ => ?_, fun q hq => ?_⟩
  · rw [x2, x1, uF_at, if_pos (by omega)]
  · rw [x2, x3, x5, x1, uF_at, uF_at, uF_at, uF_at]
    by_cases c : (q : Int) = hV a 285 10
    · rw [if_pos c, if_pos c, if_pos c, if_neg (by omega)]
      exact ⟨by omega, hn, fun w => by omega, fun w => absurd w (by decide)⟩
    · have y := z5 q (by omega)
      rw [if_neg c, if_neg c, if_neg c]
      refine ⟨y.1, by omega, fun w => ?_, y.2.2.2⟩
      by_cases c2 : ((q + 1 : Nat) : Int) = hV a 285 10
      · rw [if_pos c2]
        omega
      · rw [if_neg c2]
        exact y.2.2.1 (by omega)
-- the key words, in the reference's order
def kwR : List Int := [1310105, 4027, 10258643, 9988183, 8800, 47, 131638, 4797, 138767, 10416091, 388705, 118940, 555, 3175, 11438892, 79, 168727, 394840, 411, 68056, 15827, 257105, 9748424, 249, 247702, 257, 423, 1111, 10631, 7434633727, 8434683, 237307, 95688694, 4351162]
theorem kwR_k : ∀ j : Fin 34, kwK (kwR.getD j.val 0) = km (20 + (j.val : Int)) := by decide +kernel
theorem kwR_all : ∀ y ∈ kwN, ∃ j, j < 34 ∧ kwR.getD j 0 = y := by
  have z : kwN.all (fun y => (List.range 34).any (fun j => decide (kwR.getD j 0 = y))) = true := by decide +kernel
  intro y hy
  have a := List.all_eq_true.mp z y hy
  obtain ⟨j, hj, b⟩ := List.any_eq_true.mp a
  exact ⟨j, List.mem_range.mp hj, of_decide_eq_true b⟩
theorem kwL_none {x : Int} : ∀ {l : List Int} {k : Int}, (∀ y ∈ l, ¬ y = x) → kwL x k l = 2 := by
  intro l
  induction l with
  | nil => intro k _; rfl
  | cons y l ih =>
    intro k h
    show (if y = x then k else kwL x (k + 1) l) = 2
    rw [if_neg (h y List.mem_cons_self)]
    exact ih (fun z hz => h z (List.mem_cons_of_mem _ hz))
theorem kwR_in : ∀ j : Fin 34, 0 ≤ kwR.getD j.val 0 ∧ kwR.getD j.val 0 < 1099511627776 ∧ kwR.getD j.val 0 < 10460353203 := by decide +kernel
def KEYS (h : gH) : Prop := ∀ j : Nat, j < 34 → hV h 292 j = kwR.getD j 0
/-- the search among the key words -/
def KSr (x kd q : Int) : Prop := (kd = 1 ∧ ∀ j : Nat, (j : Int) < q → ¬ kwR.getD j 0 = x) ∨ (∃ j : Nat, j < 34 ∧ kwR.getD j 0 = x ∧ kd = 20 + (j : Int))
theorem KSr_0 {x : Int} : KSr x 1 0 := .inl ⟨rfl, fun j hj => by omega⟩
theorem KSr_no {x kd q : Int} (z : KSr x kd q) (h0 : 0 ≤ q) (e : ¬ kwR.getD q.toNat 0 = x) : KSr x kd (q + 1) := by
  rcases z with ⟨z1, z2⟩ | z
  · refine .inl ⟨z1, fun j hj => ?_⟩
    rcases Int.lt_or_le (j : Int) q with w | w
    · exact z2 j w
    · rw [show j = q.toNat by omega]
      exact e
  · exact .inr z
theorem KSr_hit {x q : Int} (h0 : 0 ≤ q) (h3 : q < 34) (e : kwR.getD q.toNat 0 = x) {p : Int} : KSr x (20 + q) p := .inr ⟨q.toNat, by omega, e, by omega⟩
theorem KSr_end {x kd : Int} (z : KSr x kd 34) : km kd = kwK x ∧ (kd = 1 → kwK x = 2) ∧ (¬ kd = 1 → ¬ kwK x = 2 ∧ ¬ kd = 2 ∧ 20 ≤ kd) := by
  rcases z with ⟨z1, z2⟩ | ⟨j, hj, z1, z2⟩
  · have e : kwK x = 2 := kwL_none (fun y hy c => by
      obtain ⟨j, a, b⟩ := kwR_all y hy
      exact z2 j (by omega) (b.trans c))
    rw [z1, e]
    exact ⟨by decide, fun _ => rfl, fun c => absurd rfl c⟩
  · have e : kwK x = km kd := by rw [← z1, z2]; exact kwR_k ⟨j, hj⟩
    have q : ∀ j : Fin 34, ¬ km (20 + (j.val : Int)) = 2 := by decide +kernel
    refine ⟨e.symm, fun c => by omega, fun _ => ⟨?_, by omega, by omega⟩⟩
    rw [e, z2]
    exact q ⟨j, hj⟩
/-- eight letters are no key word -/
theorem pCd27_in {B : Nat → Int} {i : Nat} : ∀ {m : Nat}, (∀ j, i ≤ j → j < i + m → 97 ≤ B j ∧ B j ≤ 122) → 0 ≤ pCd 27 B m i 0 ∧ pCd 27 B m i 0 < 27 ^ m ∧ (m = 8 → 10460353203 ≤ pCd 27 B m i 0) := by
  intro m
  have lo : ∀ {m : Nat}, (∀ j, i ≤ j → j < i + m → 97 ≤ B j ∧ B j ≤ 122) → 0 ≤ pCd 27 B m i 0 ∧ pCd 27 B m i 0 < 27 ^ m ∧ (1 ≤ m → 27 ^ (m - 1) ≤ pCd 27 B m i 0) := by
    intro m
    induction m with
    | zero => intro _; exact ⟨Int.le_refl _, by show (0 : Int) < 27 ^ 0; decide, fun c => absurd c (by decide)⟩
    | succ m ih =>
      intro h
      have y := ih (fun j a b => h j a (by omega))
      have w := h (i + m) (by omega) (by omega)
      rw [pCd_add, Int.pow_succ]
      refine ⟨by omega, by omega, fun _ => ?_⟩
      rw [show m + 1 - 1 = m by omega]
      cases m with
      | zero =>
        have e : pCd 27 B 0 i 0 = 0 := rfl
        rw [e, Int.pow_zero]
        omega
      | succ m =>
        have y3 := y.2.2 (by omega)
        rw [show m + 1 - 1 = m by omega] at y3
        rw [Int.pow_succ]
        omega
  intro h
  have y := lo h
  refine ⟨y.1, y.2.1, fun e => ?_⟩
  have y3 := y.2.2 (by omega)
  rw [e] at y3 ⊢
  exact y3
theorem pow27 : ∀ m : Nat, m ≤ 8 → (27 : Int) ^ m ≤ 282429536481
  | 0, _ | 1, _ | 2, _ | 3, _ | 4, _ | 5, _ | 6, _ | 7, _ | 8, _ => by decide
  | n + 9, h => by omega
def BR (h : gH) : Nat → Int := fun j => o32 (fun x y => x &&& y) (hV h 287 j) 255
theorem atv_B {h : gH} {n i r : Int} (e : r = atv (hV h 287) n i) (h0 : 0 ≤ i) (h1 : i < n) : r = BR h i.toNat := by
  rw [e]
  exact if_pos h1
theorem atv_0 {h : gH} {n i r : Int} (e : r = atv (hV h 287) n i) (h1 : n ≤ i) : r = 0 := by
  rw [e]
  exact if_neg (by omega)
/-- what stands when place i is reached -/
def CIr (h0 h : gH) (i : Int) : Prop := PLI h i ∧ ∃ L, TLR h L ∧ TKL (BR h0) (hV h0 285 4).toNat i.toNat L
theorem CIr_same {h0 a b : gH} {i : Int} (x : TRs a b) (z : CIr h0 a i) : CIr h0 b i := ⟨PLI_same x z.1, z.2.elim fun L w => ⟨L, TLR_same x w.1, w.2⟩⟩
theorem CIr_skip {h0 h : gH} {i j : Int} (z : CIr h0 h i) (h1 : i ≤ j) (h2 : j ≤ 2000) (e : pTk (BR h0) (hV h0 285 4).toNat ((hV h0 285 4).toNat - i.toNat) i.toNat = pTk (BR h0) (hV h0 285 4).toNat ((hV h0 285 4).toNat - j.toNat) j.toNat) : CIr h0 h j := ⟨PLI_up z.1 h1 h2, z.2.elim fun L w => ⟨L, w.1, TKL_skip w.2 e⟩⟩
theorem CIr_add {h0 a b : gH} {i j k v nm : Int} {t : Tok} (z : CIr h0 a i) (x : NTr k i v nm a b) (h5 : hV a 285 10 ≤ 500) (h1 : i < j) (h2 : j ≤ 2000) (hn : k = 1 → 0 ≤ nm ∧ nm < 1099511627776) (et : t = (km k, i, if k = 2 then v else 0, if k = 1 then nm else 0)) (e : pTk (BR h0) (hV h0 285 4).toNat ((hV h0 285 4).toNat - i.toNat) i.toNat = t :: pTk (BR h0) (hV h0 285 4).toNat ((hV h0 285 4).toNat - j.toNat) j.toNat) : CIr h0 b j := ⟨PLI_add z.1 x h5 h1 h2 hn, z.2.elim fun L w => ⟨L ++ [t], TLR_add w.1 x et, TKL_add w.2 e⟩⟩
theorem rW_4 : vRg T0 285 4 0 2000 = true := by decide +kernel
theorem rW_10 : vRg T0 285 10 0 501 = true := by decide +kernel
theorem NTr_from {k p v nm : Int} {a b c : gH} (x : TRs a b) (y : NTr k p v nm b c) : NTr k p v nm a c := by
  unfold NTr at y ⊢
  rw [x.1, x.2.1, x.2.2.1, x.2.2.2.1, x.2.2.2.2] at y
  exact y
