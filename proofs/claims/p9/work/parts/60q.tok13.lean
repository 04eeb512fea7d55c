/-! THE CLASS'S ROWS of TOKENS as a list (behind tkg.lean.txt and tokens11.lean.txt). -/
def TB (h : gH) : Prop := TP h ∧ ∀ i : Nat, 0 ≤ hV h 34 i ∧ hV h 34 i ≤ 2000
/-- the class's TOKEN at place k of its rows -/
def tokC (h : gH) (k : Nat) : Tok := (hV h 33 k, hV h 34 k, if hV h 33 k = 3 then hV h 35 k else 0, if hV h 33 k = 2 then c27 9 (hV h 35 k) else 0)
def TLC (h : gH) (L : List Tok) : Prop := hV h 31 4 = (L.length : Int) ∧ ∀ k : Nat, k < L.length → L[k]? = some (tokC h k)
def VBC (h : gH) : Prop := ∀ k : Nat, (k : Int) < hV h 31 4 → (hV h 33 k = 3 → 0 ≤ hV h 35 k ∧ hV h 35 k ≤ 9999) ∧ (hV h 33 k = 2 → NV (hV h 35 k))
theorem TLC_0 {h : gH} (e : hV h 31 4 = 0) : TLC h [] := ⟨e, fun k hk => by cases hk⟩
theorem VBC_0 {h : gH} (e : hV h 31 4 = 0) : VBC h := fun k hk => by omega
theorem TLC_add {a b : gH} {L : List Tok} {t : Tok} {k p v : Int} (z : TLC a L) (x : NTp k p v a b) (e : t = (k, p, if k = 3 then v else 0, if k = 2 then c27 9 v else 0)) : TLC b (L ++ [t]) := by
  obtain ⟨x1, x2, x3, x4, x5⟩ := x
  obtain ⟨z1, z2⟩ := z
  refine ⟨by rw [x1, z1, List.length_append]; rfl, fun j hj => ?_⟩
  rw [List.length_append] at hj
  have hj' : j < L.length + 1 := hj
  unfold tokC
  rw [x2, x3, x4, uF_at, uF_at, uF_at]
  by_cases c : j = L.length
  · have c' : (j : Int) = hV a 31 4 := by omega
    rw [if_pos c', if_pos c', if_pos c', ← e, c, List.getElem?_append_right (Nat.le_refl _), Nat.sub_self]
    rfl
  · have c' : ¬ (j : Int) = hV a 31 4 := by omega
    rw [if_neg c', if_neg c', if_neg c', List.getElem?_append_left (by omega)]
    exact z2 j (by omega)
theorem TLC_same {a b : gH} {L : List Tok} (x : SMT a b) (z : TLC a L) : TLC b L := by
  unfold TLC tokC
  rw [x.1, x.2.1, x.2.2.1, x.2.2.2.1]
  exact z
theorem VBC_same {a b : gH} (x : SMT a b) (z : VBC a) : VBC b := by
  unfold VBC
  rw [x.1, x.2.1, x.2.2.2.1]
  exact z
theorem VBC_add {a b : gH} {k p v : Int} (z : VBC a) (x : NTp k p v a b) (h3 : k = 3 → 0 ≤ v ∧ v ≤ 9999) (h2 : k = 2 → NV v) : VBC b := by
  obtain ⟨x1, x2, x3, x4, x5⟩ := x
  intro j hj
  rw [x2, x4, uF_at, uF_at]
  by_cases c : (j : Int) = hV a 31 4
  · rw [if_pos c, if_pos c]
    exact ⟨h3, h2⟩
  · rw [if_neg c, if_neg c]
    exact z j (by omega)
def PBt (h : gH) : Prop := ∀ i : Nat, 0 ≤ hV h 34 i ∧ hV h 34 i ≤ 2000
theorem PBt_same {a b : gH} (x : SMT a b) (z : PBt a) : PBt b := by
  unfold PBt
  rw [x.2.2.1]
  exact z
theorem PBt_add {a b : gH} {k p v : Int} (z : PBt a) (x : NTp k p v a b) (h0 : 0 ≤ p) (h2 : p ≤ 2000) : PBt b := by
  intro j
  rw [x.2.2.1, uF_at]
  by_cases c : (j : Int) = hV a 31 4
  · rw [if_pos c]
    exact ⟨h0, h2⟩
  · rw [if_neg c]
    exact z j
theorem kwL_ge {x : Int} : ∀ {l : List Int} {k : Int}, kwL x k l = 2 ∨ k ≤ kwL x k l := by
  intro l
  induction l with
  | nil => intro k; exact .inl rfl
  | cons y l ih =>
    intro k
    show (if y = x then k else kwL x (k + 1) l) = 2 ∨ k ≤ (if y = x then k else kwL x (k + 1) l)
    by_cases c : y = x
    · rw [if_pos c]
      exact .inr (Int.le_refl _)
    · rw [if_neg c]
      rcases ih (k := k + 1) with w | w
      · exact .inl w
      · exact .inr (by omega)
theorem tkL_is {B : Nat → Int} {n i : Nat} : (tkL B n i).2.1 = (i : Int) ∧ (tkL B n i).2.2.1 = 0 ∧ ¬ (tkL B n i).1 = 3 ∧ (¬ (tkL B n i).1 = 2 → (tkL B n i).2.2.2 = 0) := by
  unfold tkL
  by_cases c : 8 < pLe B n (n - i) i
  · rw [if_pos c]
    exact ⟨rfl, rfl, by show ¬ (1 : Int) = 3; decide, fun _ => rfl⟩
  · rw [if_neg c]
    by_cases d : kwK (pCd 27 B (pLe B n (n - i) i) i 0) = 2
    · rw [if_pos d]
      exact ⟨rfl, rfl, by show ¬ (2 : Int) = 3; decide, fun w => absurd rfl w⟩
    · rw [if_neg d]
      refine ⟨rfl, rfl, ?_, fun _ => rfl⟩
      show ¬ kwK (pCd 27 B (pLe B n (n - i) i) i 0) = 3
      rcases kwL_ge (x := pCd 27 B (pLe B n (n - i) i) i 0) (l := kwN) (k := 16) with w | w
      · exact absurd w d
      · intro e
        unfold kwK at e
        omega
theorem tkD_is {B : Nat → Int} {n i : Nat} : (tkD B n i).2.1 = (i : Int) ∧ (tkD B n i).2.2.2 = 0 ∧ ((tkD B n i).1 = 1 ∧ (tkD B n i).2.2.1 = 0 ∨ (tkD B n i).1 = 3 ∧ ¬ 4 < pDi B n (n - i) i ∧ (tkD B n i).2.2.1 = pVa B (pDi B n (n - i) i) i 0) := by
  unfold tkD
  by_cases c : 4 < pDi B n (n - i) i
  · rw [if_pos c]
    exact ⟨rfl, rfl, .inl ⟨rfl, rfl⟩⟩
  · rw [if_neg c]
    exact ⟨rfl, rfl, .inr ⟨rfl, c, rfl⟩⟩
theorem pDi_all {B : Nat → Int} {n : Nat} : ∀ {f i : Nat} (j : Nat), i ≤ j → j < i + pDi B n f i → 48 ≤ B j ∧ B j ≤ 57 := by
  intro f
  induction f with
  | zero => intro i j a b; exact absurd b (by show ¬ j < i + 0; omega)
  | succ f ih =>
    intro i j a b
    have e : pDi B n (f + 1) i = if i < n ∧ 48 ≤ B i ∧ B i ≤ 57 then pDi B n f (i + 1) + 1 else 0 := rfl
    rw [e] at b
    by_cases c : i < n ∧ 48 ≤ B i ∧ B i ≤ 57
    · rw [if_pos c] at b
      by_cases d : j = i
      · rw [d]
        exact c.2
      · exact ih (i := i + 1) j (by omega) (by omega)
    · rw [if_neg c] at b
      omega
theorem tkD_val {B : Nat → Int} {n i : Nat} (e : (tkD B n i).1 = 3) : 0 ≤ (tkD B n i).2.2.1 ∧ (tkD B n i).2.2.1 ≤ 9999 := by
  rcases (tkD_is (B := B) (n := n) (i := i)).2.2 with w | w
  · have := w.1
    omega
  · rw [w.2.2]
    have y := pVa_in (B := B) (i := i) (m := pDi B n (n - i) i) (fun j a b => pDi_all j a b)
    have q : pDi B n (n - i) i = 0 ∨ pDi B n (n - i) i = 1 ∨ pDi B n (n - i) i = 2 ∨ pDi B n (n - i) i = 3 ∨ pDi B n (n - i) i = 4 := by have := w.2.1; omega
    have p : (10 : Int) ^ pDi B n (n - i) i ≤ 10000 := by
      rcases q with q | q | q | q | q <;> rw [q] <;> decide
    omega
theorem sg1_k (c : Int) : ¬ sg1 c = 3 ∧ ¬ sg1 c = 2 ∧ ¬ sg1 c = 0 := by
  unfold sg1
  refine ⟨?_, ?_, ?_⟩ <;> (repeat' split) <;> decide
theorem sg2_k (c : Int) : ¬ sg2 c = 3 ∧ ¬ sg2 c = 2 := by
  unfold sg2
  refine ⟨?_, ?_⟩ <;> (repeat' split) <;> decide
/-- what stands when place i is reached -/
def CIc (B : Nat → Int) (n : Nat) (h : gH) (i : Nat) : Prop := VBC h ∧ PBt h ∧ ∃ L, TLC h L ∧ TKL B n i L
theorem CIc_add {B : Nat → Int} {n i j : Nat} {a b : gH} {k v : Int} {t : Tok} (z : CIc B n a i) (x : NTp k i v a b) (hi : (i : Int) ≤ 2000) (h3 : k = 3 → 0 ≤ v ∧ v ≤ 9999) (h2 : k = 2 → NV v) (et : t = (k, (i : Int), if k = 3 then v else 0, if k = 2 then c27 9 v else 0)) (e : pTk B n (n - i) i = t :: pTk B n (n - j) j) : CIc B n b j :=
  ⟨VBC_add z.1 x h3 h2, PBt_add z.2.1 x (by omega) hi, z.2.2.elim fun L w => ⟨L ++ [t], TLC_add w.1 x et, TKL_add w.2 e⟩⟩
theorem CIc_skip {B : Nat → Int} {n i j : Nat} {a b : gH} (z : CIc B n a i) (x : SMT a b) (e : pTk B n (n - i) i = pTk B n (n - j) j) : CIc B n b j :=
  ⟨VBC_same x z.1, PBt_same x z.2.1, z.2.2.elim fun L w => ⟨L, TLC_same x w.1, TKL_skip w.2 e⟩⟩
/-- one step of the scan -/
theorem ONE_step {B : Nat → Int} {n i : Nat} {p r : Int} {a b : gH} (o : ONE B n i p r a b) (hp : p = (i : Int)) (hi : i < n) (hn : n ≤ 2000) (z : CIc B n a i) : p + 1 ≤ r ∧ CIc B n b r.toNat ∧ (hV b 31 4 = hV a 31 4 ∨ hV b 31 4 = hV a 31 4 + 1) ∧ hV b 32 = hV a 32 := by
  have pt := pTk_at (B := B) hi
  have hi2 : (i : Int) ≤ 2000 := by omega
  subst hp
  rcases o with ⟨o1, o2, o3⟩ | ⟨o1, o2, o3, v, o4, o5⟩ | ⟨o1, o2, o3, o4, v, o5, o6⟩ | ⟨o1, o2, o3, o4, o5, o6⟩ | ⟨o1, o2, o3, o4, o5, o6⟩
  · rw [if_pos o1] at pt
    refine ⟨by omega, ?_, .inl o3.1, o3.2.2.2.2.2⟩
    rw [show r.toNat = i + 1 by omega]
    exact CIc_skip z o3 pt
  · rw [if_neg o1, if_pos o2] at pt
    have l1 := pLe_1 hi o2.1 o2.2
    obtain ⟨k1, k2, k3, k4⟩ := tkL_is (B := B) (n := n) (i := i)
    refine ⟨by omega, ?_, .inr o4.1, o4.2.2.2.2⟩
    rw [show r.toNat = i + pLe B n (n - i) i by omega]
    refine CIc_add z o4 hi2 (fun w => absurd w k3) (fun w => (o5 w).1) ?_ pt
    refine Prod.ext rfl (Prod.ext k1 (Prod.ext (k2.trans (if_neg k3).symm) ?_))
    by_cases c : (tkL B n i).1 = 2
    · exact (o5 c).2.symm.trans (if_pos c).symm
    · exact (k4 c).trans (if_neg c).symm
  · rw [if_neg o1, if_neg o2, if_pos o3] at pt
    have l1 := pDi_1 hi o3.1 o3.2
    obtain ⟨k1, k2, k3⟩ := tkD_is (B := B) (n := n) (i := i)
    have n2 : ¬ (tkD B n i).1 = 2 := by
      rcases k3 with w | w <;> have := w.1 <;> omega
    refine ⟨by omega, ?_, .inr o5.1, o5.2.2.2.2⟩
    rw [show r.toNat = i + pDi B n (n - i) i by omega]
    refine CIc_add z o5 hi2 (fun w => by rw [o6 w]; exact tkD_val w) (fun w => absurd w n2) ?_ pt
    refine Prod.ext rfl (Prod.ext k1 (Prod.ext ?_ (k2.trans (if_neg n2).symm)))
    by_cases c : (tkD B n i).1 = 3
    · exact (o6 c).symm.trans (if_pos c).symm
    · rcases k3 with w | w
      · exact w.2.trans (if_neg c).symm
      · exact absurd w.1 c
  · have s := sg2_k (B i)
    rw [if_neg o1, if_neg o2, if_neg o3, if_pos o4] at pt
    refine ⟨by omega, ?_, .inr o6.1, o6.2.2.2.2⟩
    rw [show r.toNat = i + 2 by omega]
    exact CIc_add z o6 hi2 (fun w => absurd w s.1) (fun w => absurd w s.2) (by rw [if_neg s.1, if_neg s.2]) pt
  · have s := sg1_k (B i)
    rw [if_neg o1, if_neg o2, if_neg o3, if_neg o4] at pt
    refine ⟨by omega, ?_, .inr o6.1, o6.2.2.2.2⟩
    rw [show r.toNat = i + 1 by omega]
    exact CIc_add z o6 hi2 (fun w => absurd w s.1) (fun w => absurd w s.2.1) (by rw [if_neg s.1, if_neg s.2.1]) pt
theorem vwC_tok {h : gH} {s : Int} (h0 : 0 ≤ s) (h5 : s ≤ 500) (k : s < hV h 31 4) : (vwC h).1 s = (tokC h s.toNat).1 ∧ (vwC h).2.1 s = (tokC h s.toNat).2.2.1 ∧ (vwC h).2.2.1 s = (tokC h s.toNat).2.2.2 ∧ (vwC h).2.2.2 s = (tokC h s.toNat).2.1 := by
  have c : 0 ≤ s ∧ s < hV h 31 4 ∧ s < 502 := ⟨h0, k, by omega⟩
  have e : kC h s = hV h 33 s.toNat := if_pos c
  have e2 : uC h s = hV h 35 s.toNat := if_pos c
  have e3 : lC h s = hV h 34 s.toNat := if_pos c
  refine ⟨?_, ?_, ?_, ?_⟩
  · show (if s < 0 then (-1 : Int) else if 500 < s then 0 else kC h s) = _
    rw [if_neg (by omega), if_neg (by omega), e]
    rfl
  · show (if 500 < s then 0 else if kC h s = 3 then uC h s else 0) = _
    rw [if_neg (by omega), e, e2]
    rfl
  · show (if 500 < s then 0 else if kC h s = 2 then c27 9 (uC h s) else 0) = _
    rw [if_neg (by omega), e, e2]
    rfl
  · show (if 500 < s then 0 else lC h s) = _
    rw [if_neg (by omega), e3]
    rfl
theorem vwC_out {h : gH} {s : Int} (k : s < 0 ∨ 500 < s ∨ hV h 31 4 ≤ s) : (vwC h).1 s = (if s < 0 then -1 else 0) ∧ (vwC h).2.1 s = 0 ∧ (vwC h).2.2.1 s = 0 ∧ (vwC h).2.2.2 s = 0 := by
  rcases Int.lt_or_le 500 s with c | c
  · refine ⟨?_, if_pos c, if_pos c, if_pos c⟩
    show (if s < 0 then (-1 : Int) else if 500 < s then 0 else kC h s) = _
    rw [if_pos c]
  · have n : ¬ (0 ≤ s ∧ s < hV h 31 4 ∧ s < 502) := by omega
    have e : kC h s = 0 := if_neg n
    have e2 : uC h s = 0 := if_neg n
    have e3 : lC h s = 0 := if_neg n
    refine ⟨?_, ?_, ?_, ?_⟩
    · show (if s < 0 then (-1 : Int) else if 500 < s then 0 else kC h s) = _
      rw [if_neg (c := 500 < s) (by omega), e]
    · show (if 500 < s then 0 else if kC h s = 3 then uC h s else 0) = _
      rw [if_neg (by omega), e]
      exact if_neg (by decide)
    · show (if 500 < s then 0 else if kC h s = 2 then c27 9 (uC h s) else 0) = _
      rw [if_neg (by omega), e]
      exact if_neg (by decide)
    · show (if 500 < s then 0 else lC h s) = _
      rw [if_neg (by omega), e3]
/-- the end is told -/
theorem scan_end {h : gH} {B : Nat → Int} {n : Int} {i : Nat} {L : List Tok} (z : TLC h (L ++ [(0, n, 0, 0)])) (y : TKL B n.toNat i L) (c : L.length = 501 ∨ L.length ≤ 500 ∧ n.toNat ≤ i) : vwC h = pTx B n := by
  have zl : hV h 31 4 = (L.length : Int) + 1 := by rw [z.1, List.length_append]; rfl
  refine vw_ext fun s => ?_
  rcases Int.lt_or_le s 0 with c0 | c0
  · obtain ⟨a, b, d, f⟩ := vwC_out (h := h) (s := s) (.inl c0)
    have t : tkAt (pTk B n.toNat n.toNat 0) n s = (-1, 0, 0, 0) := if_pos c0
    rw [a, b, d, f, t, if_pos c0]
    exact ⟨rfl, rfl, rfl, rfl⟩
  rcases Int.lt_or_le 500 s with c5 | c5
  · obtain ⟨a, b, d, f⟩ := vwC_out (h := h) (s := s) (.inr (.inl c5))
    have t : tkAt (pTk B n.toNat n.toNat 0) n s = (0, 0, 0, 0) := by
      unfold tkAt
      rw [if_neg (by omega), if_pos c5]
    rw [a, b, d, f, t, if_neg (by omega)]
    exact ⟨rfl, rfl, rfl, rfl⟩
  rcases Int.lt_or_le s (L.length : Int) with c6 | c6
  · obtain ⟨a, b, d, f⟩ := vwC_tok (h := h) c0 c5 (by omega)
    have q := z.2 s.toNat (by rw [List.length_append]; show s.toNat < L.length + 1; omega)
    rw [List.getElem?_append_left (by omega)] at q
    rw [a, b, d, f, tkAt_in c0 c5 (t := tokC h s.toNat) (by rw [y, List.getElem?_append_left (by omega)]; exact q)]
    exact ⟨rfl, rfl, rfl, rfl⟩
  rcases c with c | ⟨c, ce⟩
  · omega
  · have ye := TKL_end y ce
    rw [ye]
    by_cases c7 : s = (L.length : Int)
    · obtain ⟨a, b, d, f⟩ := vwC_tok (h := h) c0 c5 (by omega)
      have q := z.2 s.toNat (by rw [List.length_append]; show s.toNat < L.length + 1; omega)
      rw [show s.toNat = L.length by omega, List.getElem?_append_right (Nat.le_refl _), Nat.sub_self] at q
      have w : tokC h s.toNat = (0, n, 0, 0) := by
        rw [show s.toNat = L.length by omega]
        exact (Option.some.inj q).symm
      rw [a, b, d, f, tkAt_end c5 c7, w]
      exact ⟨rfl, rfl, rfl, rfl⟩
    · obtain ⟨a, b, d, f⟩ := vwC_out (h := h) (s := s) (.inr (.inr (by omega)))
      rw [a, b, d, f, tkAt_out c0 c5 (by omega), if_neg (by omega)]
      exact ⟨rfl, rfl, rfl, rfl⟩
/-- what the scan leaves -/
theorem scan_out {a b : gH} {B : Nat → Int} {n x v : Int} (z : CIc B n.toNat a x.toNat) (h5 : hV a 31 4 ≤ 501) (t : NTp 0 n v a b) (n0 : 0 ≤ n) (n2 : n ≤ 2000) (c : hV a 31 4 = 501 ∨ n ≤ x) : TKI b ∧ PBt b ∧ vwC b = pTx B n := by
  obtain ⟨z1, z2, L, z3, z4⟩ := z
  have vb := VBC_add z1 t (fun w => absurd w (by decide)) (fun w => absurd w (by decide))
  have pb := PBt_add z2 t n0 n2
  have tl : TLC b (L ++ [(0, n, 0, 0)]) := TLC_add z3 t rfl
  have ll := z3.1
  have e4 := t.1
  refine ⟨⟨by omega, by omega, ?_, pb, fun i w => ?_, fun i w => ?_⟩, pb, scan_end tl z4 (by omega)⟩
  · have e : kC b (hV b 31 4 - 1) = hV b 33 (hV b 31 4 - 1).toNat := if_pos (by omega)
    rw [e, t.2.1, uF_at, if_pos (by omega)]
  · by_cases q : 0 ≤ i ∧ i < hV b 31 4 ∧ i < 502
    · have e : kC b i = hV b 33 i.toNat := if_pos q
      have e2 : uC b i = hV b 35 i.toNat := if_pos q
      rw [e2]
      exact (vb i.toNat (by omega)).1 (e.symm.trans w)
    · have e : kC b i = 0 := if_neg q
      omega
  · by_cases q : 0 ≤ i ∧ i < hV b 31 4 ∧ i < 502
    · have e : kC b i = hV b 33 i.toNat := if_pos q
      have e2 : uC b i = hV b 35 i.toNat := if_pos q
      rw [e2]
      exact (vb i.toNat (by omega)).2 (e.symm.trans w)
    · have e : kC b i = 0 := if_neg q
      omega
theorem PBt_up {b a : gH} {o i w : Int} (u : hUpd b a o i w) (e : ¬ o = 34) (z : PBt a) : PBt b := by
  unfold PBt
  rw [uRowNe u 34 (by omega)]
  exact z
theorem WDS_up {a b : gH} {o i w : Int} (f : hUpd b a o i w) (n : ¬ o = 32) (z : WDS a) : WDS b := ⟨(f.2.2 _).1.trans z.1, (f.2.2 _).2.trans z.2.1, fun j hj => by rw [uRowNe f 32 (by omega)]; exact z.2.2 j hj⟩
theorem TP_up {a b : gH} {o i w : Int} (f : hUpd b a o i w) (z : TP a) : TP b := ⟨(f.2.2 _).1.trans z.1, (f.2.2 _).2.trans z.2⟩
theorem WDS_row {a b : gH} (le : hLe T0 a b) (e : hV b 32 = hV a 32) (z : WDS a) : WDS b := ⟨kLe le z.1 rfl, (le.2 _ (hK_lt z.1 (by decide))).2.1.trans z.2.1, fun j hj => by rw [e]; exact z.2.2 j hj⟩
theorem CIc_0 {B : Nat → Int} {n : Nat} {h : gH} (e : hV h 31 4 = 0) (p : PBt h) : CIc B n h 0 := ⟨VBC_0 e, p, [], TLC_0 e, TKL_0⟩
