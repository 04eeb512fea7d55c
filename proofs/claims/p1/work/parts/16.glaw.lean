/-! THE LAW'S RUN for scripts of six ints at most: done by the kernel on names. -/
def sTx (l : List Int32) : List (Nat × sV) := (List.range' 0 l.length).map (fun j => (j, sK0 (l.getD j 0).toInt))
def sTx6 : List (Nat × sV) := (List.range' 0 6).map (fun j => (j, (10 + j, 0, 0)))
def sH0 (L : Nat) : sH := [(100, L, sTx6), (13, 0, [(0, (3, 2, 0))]), (102, 72, sTx gTx0), (13, 0, [(0, (3, 4, 0))]), (102, 58, sTx gTx1), (13, 0, [(0, (3, 6, 0))]), (102, 32, sTx gTx2)]
def sCs0 : sI := List.replicate 6 sFull ++ [(-1, 1), (-1, 1)]
def ssz1 (c : sC) : Nat := bif Nat.blt c.1 100 then gN c.1 else c.2.1
def ssz (lh : sH) : Nat := (lh.map ssz1).sum
def sLfOK (f : sLf) : Bool := (match f.2.2.2 with
  | [(0, lo, hi)] => decide (lo = 1) && decide (hi = 1)
  | _ => false) && (Nat.ble f.2.1.length 600007 && Nat.ble (ssz f.2.1) 7302250)
noncomputable def sLaw (n L : Nat) : Bool := match sRun n sCs0 0 20 0 [(0, (3, 0, 0))] [] (sH0 L) with
  | some l => l.all sLfOK
  | none => false
theorem sZero (ρ : Nat → Int32) : sRel ρ (0, 0, 0) (.int 0) := ⟨0, rfl, by decide, by decide⟩
theorem sLk2_map (g : Nat → sV) (d : sV) (j : Nat) : ∀ (n s : Nat), sLk2 j ((List.range' s n).map (fun i => (i, g i))) d = if s ≤ j ∧ j < s + n then g j else d := by
  intro n
  induction n with
  | zero => intro s; rw [if_neg (by omega)]; rfl
  | succ n ih =>
    intro s
    rw [List.range'_succ, List.map_cons]
    show (bif Nat.beq j s then g s else sLk2 j ((List.range' (s + 1) n).map (fun i => (i, g i))) d) = _
    cases hq : Nat.beq j s with
    | true =>
      have e := Nat.eq_of_beq_eq_true hq
      subst e
      rw [if_pos (by omega)]
      rfl
    | false =>
      have e := Nat.ne_of_beq_eq_false hq
      show sLk2 j _ d = _
      rw [ih]
      by_cases h : s + 1 ≤ j ∧ j < s + 1 + n
      · rw [if_pos h, if_pos (by omega)]
      · rw [if_neg h, if_neg (by omega)]
theorem sTx_ok (ρ : Nat → Int32) (l : List Int32) (n : Nat) (j : Nat) : sRel ρ (sGet (102, n, sTx l) j) (gTxV l j) := by
  show sRel ρ (sLk2 j ((List.range' 0 l.length).map (fun j => (j, sK0 (l.getD j 0).toInt))) (sDf 102 j)) _
  rw [sLk2_map]
  by_cases h : 0 ≤ j ∧ j < 0 + l.length
  · rw [if_pos h]
    exact sK0_ok
  · rw [if_neg h]
    unfold gTxV
    rw [List.getD_eq_getElem?_getD, List.getElem?_eq_none (by omega)]
    exact sZero _
theorem sStr_ok (ρ : Nat → Int32) (q : Nat) (j : Nat) : sRel ρ (sGet (13, 0, [(0, (3, (q : Int), 0))]) j) (gStr q j) := by
  cases j with
  | zero => rfl
  | succ j => exact sZero _
def sXs (xs : Nat → Int32) (k : Nat) : Int32 := if k < 6 then gXs xs k else if k = 6 then sSgn (gXs xs 3) (gXs xs 4) else if k = 7 then sSgn (gXs xs 2) (gXs xs 4) else 0
theorem sXs_lt (xs : Nat → Int32) (k : Nat) (h : k < 6) : sXs xs k = gXs xs k := if_pos h
theorem sScr_ok (xs : Nat → Int32) (L : Nat) (j : Nat) : sRel (sXs xs) (sGet (100, L, sTx6) j) (.int (gXs xs j)) := by
  show sRel (sXs xs) (sLk2 j ((List.range' 0 6).map (fun j => (j, (10 + j, 0, 0)))) (sDf 100 j)) _
  rw [sLk2_map]
  by_cases h : 0 ≤ j ∧ j < 0 + 6
  · rw [if_pos h, ← sXs_lt xs j (by omega)]
    rcases (show j = 0 ∨ j = 1 ∨ j = 2 ∨ j = 3 ∨ j = 4 ∨ j = 5 by omega) with rfl | rfl | rfl | rfl | rfl | rfl <;> exact ⟨by decide, rfl⟩
  · rw [if_neg h]
    unfold gXs
    rw [if_neg (by omega)]
    exact sZero _
theorem sH0_ok (xs : Nat → Int32) (L : Nat) : sRH (sXs xs) (sH0 L) (gH0 L (gXs xs)) :=
  ⟨⟨Nat.le_refl 100, rfl, rfl, sScr_ok xs L⟩, ⟨by show 13 < 100; decide, rfl, sStr_ok _ 2⟩, ⟨by show 100 ≤ 102; decide, rfl, rfl, sTx_ok _ _ _⟩, ⟨by show 13 < 100; decide, rfl, sStr_ok _ 4⟩, ⟨by show 100 ≤ 102; decide, rfl, rfl, sTx_ok _ _ _⟩, ⟨by show 13 < 100; decide, rfl, sStr_ok _ 6⟩, ⟨by show 100 ≤ 102; decide, rfl, rfl, sTx_ok _ _ _⟩, trivial⟩
theorem sSgn_in (x y : Int32) : (-1 : Int) ≤ (sSgn x y).toInt ∧ (sSgn x y).toInt ≤ 1 := by
  unfold sSgn
  split
  · decide
  · split <;> decide
theorem sCs0_ok (xs : Nat → Int32) : sOK (sXs xs) sCs0 := by
  refine ⟨⟨rfl, rfl⟩, fun k => ?_⟩
  rcases (show k < 6 ∨ k = 6 ∨ k = 7 ∨ 8 ≤ k by omega) with h | rfl | rfl | h
  · have e : sCs0.getD k sFull = sFull := by
      rcases (show k = 0 ∨ k = 1 ∨ k = 2 ∨ k = 3 ∨ k = 4 ∨ k = 5 by omega) with rfl | rfl | rfl | rfl | rfl | rfl <;> rfl
    rw [e]
    exact sFull_ok _
  · exact sSgn_in _ _
  · exact sSgn_in _ _
  · have e : sCs0.getD k sFull = sFull := by
      rw [List.getD_eq_getElem?_getD, List.getElem?_eq_none h]
      rfl
    rw [e]
    exact sFull_ok _
theorem ssz_ok {ρ : Nat → Int32} : ∀ {lh : sH} {lh' : gH}, sRH ρ lh lh' → gsz lh' = ssz lh := by
  intro lh
  induction lh with
  | nil => intro lh' h; cases lh' with
    | nil => rfl
    | cons b m => exact h.elim
  | cons a l ih => intro lh' h; cases lh' with
    | nil => exact h.elim
    | cons b m =>
      have e := ih h.2
      unfold gsz ssz at e ⊢
      rw [List.map_cons, List.sum_cons, List.map_cons, List.sum_cons, e]
      congr 1
      have h1 := h.1
      cases b with
      | inl ob =>
        obtain ⟨q1, q2, -⟩ := h1
        unfold ssz1
        rw [show Nat.blt a.1 100 = true from Nat.blt_eq.mpr q1]
        show gN ob.1 = gN a.1
        rw [q2]
      | inr y =>
        obtain ⟨q1, -, q3, -⟩ := h1
        unfold ssz1
        rw [show Nat.blt a.1 100 = false from by
          cases hq : Nat.blt a.1 100 with
          | false => rfl
          | true => have := Nat.blt_eq.mp hq; omega]
        exact q3
theorem g_start {n : Nat} {p : Program} {e : Env} {s : State} {m : MethodId} {below : List Frame} {meth : Method} {c : Code} (l : Launch) {b L : Nat} {xs : Nat → Int32} (hL : L ≤ 6) (C0 : lw_At p s m meth c b L xs) (hrun : sLaw n L = true) : W p l e room_1 s m #[Value.ref b] below meth c s.heap [] 0 0 (lw_Z below #[Value.ref b] s) (entryFrame m ([Value.ref b] : List Value).toArray 4) := by
  obtain ⟨G, hG1, hG2, hG0, hR, hK⟩ := gStart hL C0
  obtain ⟨hx, hb, hr, hml, hown, hts, hX, hbl, hlocks, hgv⟩ := C0
  unfold sLaw at hrun
  split at hrun
  rotate_left
  · cases hrun
  rename_i lf hlf
  obtain ⟨f, hf, o, ho, q1, q2, q3, q4⟩ := sMain (ρ := sXs xs) n sCs0 0 20 0 [(0, (3, 0, 0))] [(0, .ref 0)] [] [] (sH0 L) (gH0 L (gXs xs)) (sCs0_ok _) ⟨⟨rfl, rfl⟩, trivial⟩ trivial (sH0_ok xs L) lf hlf
  have hok := List.all_eq_true.mp hrun f hf
  unfold sLfOK at hok
  rw [Bool.and_eq_true, Bool.and_eq_true] at hok
  have hlen : o.1.length ≤ 600007 := by rw [← sRH_len q2]; exact Nat.le_of_ble_eq_true hok.2.1
  have hsz : gsz o.1 ≤ 7302250 := by rw [ssz_ok q2]; exact Nat.le_of_ble_eq_true hok.2.2
  have hst : o.2.2 = [.int 1] := by
    have h1 := hok.1
    split at h1
    · rename_i lo hi hfs
      rw [hfs] at q4
      rw [Bool.and_eq_true, decide_eq_true_eq, decide_eq_true_eq] at h1
      rcases gF2.cases q4 with ⟨z, -⟩ | ⟨a1, l1, b1, m1, z1, z2, z3, z4⟩
      · cases z
      · cases z1
        rcases gF2.cases z4 with ⟨-, z5⟩ | ⟨a2, l2, b2, m2, z5, -⟩
        · obtain ⟨x, y1, y2, y3⟩ := z3
          have e1 : x.toInt = (1 : Int32).toInt := by
            rw [show (1 : Int32).toInt = 1 from rfl]
            have y2' : lo ≤ x.toInt := y2
            have y3' : x.toInt ≤ hi := y3
            omega
          rw [z2, z5, y1, Int32.toInt_inj.mp e1]
        · cases z5
    · cases h1
  have hcx : gCx G p room_1 s m meth c (gM 0).1.cls (gM 0).1.name (gBy 0) (gMax 0) 7 (gsz (gH0 L (gXs xs))) 20 o := ⟨hx, hb, hml, hown, hK, hG1, fun z => absurd z (by decide), by decide, by decide, hlen, Nat.le_trans hsz (Nat.le_add_right _ _)⟩
  have hgo := gMain hG1 l n 0 20 0 [(0, .ref 0)] [] (gH0 L (gXs xs)) o ho p e room_1 s m #[Value.ref b] below meth c (lw_Z below #[Value.ref b] s) 7 (gsz (gH0 L (gXs xs)))
  have hl := lv_entry ([.ref b]) (n := 4) (Nat.le_of_ble_eq_true rfl)
  rw [lg_entry_eq]
  generalize (lg_sl ([.ref b]) ++ List.replicate (4 - (lg_sl ([.ref b])).length) Slot.unset).toArray = ls at hl ⊢
  have hl : lv_has ls 4 (gLv G [(0, .ref 0)]) := by
    have e : gLv G [(0, .ref 0)] = [(0, .ref b)] := by
      show [(0, Value.ref (gad G 0))] = _
      rw [hG0]
    rw [e]
    exact hl
  refine hgo.2 hcx ?_ s.heap [] 0 0 ls hR va_S.rf hl (by rfl) (Nat.zero_add _)
  intro H locs cells slots ls hR' hS' hc hs
  have hS2 : ∀ q ∈ locs, s.heap.size ≤ q.base := fun q hq => by
    have h9 : G.2.1 ≤ q.base := hS'.2.2 q hq
    rw [hG2] at h9
    exact h9
  rw [hst]
  rcases hgo.1.1 with ⟨x, ty, -, -, -, hdg⟩ | ⟨x, -, z, -⟩ | ⟨w, ty, -, z1, z, z2, -⟩ | ⟨-, z, -⟩
  · refine va_forget hS2 ?_
    refine W.widen (k := 600000) (n := 7302250) (by omega) (by omega) ?_
    exact lw_ret hx hb hr hlocks hdg
  · rw [hst] at z
    cases z
  · rw [hst] at z
    rcases z2 with rfl | ⟨i, rfl⟩ <;> cases z
  · rw [hst] at z
    cases z
