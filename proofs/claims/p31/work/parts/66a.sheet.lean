/-! WHAT THE CUES OF A TEXT SAY, and blocks put in (hand; behind grammar and base). -/
-- (kind, place, SOUND, STEM or number, MARK, FRAME, its end's MARK and FRAME, from, for, gain, speed's two)
abbrev CR := Int × Int × Int × Int × Int × Int × Int × Int × Int × Int × Int × Int
def tvl (v : Vw) (p : PS) : Int := v.2.1 p.1
def mkA (v : Vw) (p : PS) : Int := if v.1 p.1 = 37 then tvl v (ptk v 37 p) else -1
def frA (v : Vw) (p : PS) : Int := if v.1 p.1 = 37 then (if v.1 (pnm v 0 7 (ptk v 37 p)).1 = 6 then tvl v (ptk v 6 (pnm v 0 7 (ptk v 37 p))) else if v.1 (pnm v 0 7 (ptk v 37 p)).1 = 7 then -tvl v (ptk v 7 (pnm v 0 7 (ptk v 37 p))) else 0) else tvl v p
def opV (v : Vw) (c d : Int) (p : PS) : Int := if v.1 p.1 = c then tvl v (ptk v c p) else d
def lyQ (v : Vw) (p : PS) : PS := ptk v 26 (pnm v 0 19 p)
def lyF (v : Vw) (p : PS) : PS := pTime v (lyQ v p)
def lyS (v : Vw) (p : PS) : PS := pOpt v 27 0 60 (lyF v p)
def lyG (v : Vw) (p : PS) : PS := pOpt v 28 0 60 (lyS v p)
def lyU (v : Vw) (p : PS) : PS := pOpt v 29 0 400 (lyG v p)
def opL (v : Vw) (d : Int) (p : PS) : Int := if v.1 p.1 = 30 then tvl v (ptk v 9 (pnm v 1 9 (ptk v 30 p))) else d
def fdQ (v : Vw) (p : PS) : PS := ptk v 27 (pnm v 0 2 p)
def fdR (v : Vw) (p : PS) : PS := ptk v 32 (pTime v (fdQ v p))
def usQ (v : Vw) (p : PS) : PS := ptk v 26 (ptk v 2 p)
/-- the first block of a NAME, -1 if there is none -/
def pfi : List (Int × Int) → Int → Int → Int
  | [], _, _ => -1
  | (a, _) :: r, x, i => if a = x then i else pfi r x (i + 1)
/-- a CUE at p, by its kind -/
def cuT (v : Vw) (bl : List (Int × Int)) (p : PS) : CR :=
  if v.1 p.1 = 20 then (0, v.2.2.2 p.1, tvl v (ptk v 20 p), mkA v (lyQ v (ptk v 20 p)), frA v (lyQ v (ptk v 20 p)), -1, 0, opV v 27 0 (lyF v (ptk v 20 p)), opV v 28 (-1) (lyS v (ptk v 20 p)), opV v 29 100 (lyG v (ptk v 20 p)), opV v 30 1 (lyU v (ptk v 20 p)), opL v 1 (lyU v (ptk v 20 p)))
  else if v.1 p.1 = 21 then (1, v.2.2.2 p.1, tvl v (ptk v 21 p), mkA v (fdQ v (ptk v 21 p)), frA v (fdQ v (ptk v 21 p)), mkA v (fdR v (ptk v 21 p)), frA v (fdR v (ptk v 21 p)), 0, 0, 0, 0, 0)
  else if v.1 p.1 = 25 then (5, v.2.2.2 p.1, pfi bl (v.2.2.1 (ptk v 25 p).1) 0, mkA v (usQ v (ptk v 25 p)), frA v (usQ v (ptk v 25 p)), -1, 0, 0, 0, 0, 0, 0)
  else (v.1 p.1 - 20, v.2.2.2 p.1, tvl v (ptk v (v.1 p.1) p), -1, 0, -1, 0, 0, 0, 0, 0, 0)
noncomputable def pDr (v : Vw) (bl : List (Int × Int)) : Nat → PS → List CR
  | 0, _ => []
  | f + 1, p => if 20 ≤ v.1 p.1 ∧ v.1 p.1 ≤ 25 then cuT v bl p :: pDr v bl f (pCue v bl p) else []
noncomputable def pDb (v : Vw) : Nat → PS → List (Int × Int) → List (List CR)
  | 0, _, _ => []
  | f + 1, p, bl => if v.1 p.1 = 16 then pDr v bl 16 (pNm2 v bl (ptk v 16 p)) :: pDb v f (pBlock v bl p) (bl ++ [pBsz v bl p]) else []
noncomputable def pDs (v : Vw) : List CR := pDr v (pTable v 6 (0, 0) []) 16 (ptk v 18 (pBlocks v 6 (0, 0) []))
/-- the parts of a text: its blocks, and 6: its sheet -/
noncomputable def pDft (v : Vw) (b : Nat) : List CR := if b = 6 then pDs v else ((pDb v 6 (0, 0) [])[b]?).getD []
/-- a CUE put in where a block is used -/
def crS (bm bf : Int) (r : CR) : CR := (r.1, r.2.1, r.2.2.1, if r.2.2.2.1 = -1 then bm else r.2.2.2.1, if r.2.2.2.1 = -1 then w32 (r.2.2.2.2.1 + bf) else r.2.2.2.2.1, if r.2.2.2.2.2.1 = -1 then bm else r.2.2.2.2.2.1, if r.2.2.2.2.2.1 = -1 then w32 (r.2.2.2.2.2.2.1 + bf) else r.2.2.2.2.2.2.1, r.2.2.2.2.2.2.2)
def usM (bm : Int) (r : CR) : Int := if r.2.2.2.1 = -1 then bm else r.2.2.2.1
def usF (bf : Int) (r : CR) : Int := if r.2.2.2.1 = -1 then w32 (bf + r.2.2.2.2.1) else r.2.2.2.2.1
/-- blocks put in: D the parts, T their sizes -/
def pU (D : Nat → List CR) (T : Int → Int) : Nat → Nat → Int → Int → List CR
  | 0, _, _, _ => []
  | n + 1, b, bm, bf => (D b).flatMap (fun r => if r.1 = 5 then (if 0 < T r.2.2.1 then pU D T n r.2.2.1.toNat (usM bm r) (usF bf r) else []) else [crS bm bf r])
theorem mkA_1 {v : Vw} {p q : PS} (h : p.1 = q.1) : mkA v p = mkA v q := by
  show (if v.1 p.1 = 37 then v.2.1 (pt1 v 37 p.1) else -1) = (if v.1 q.1 = 37 then v.2.1 (pt1 v 37 q.1) else -1)
  rw [h]
theorem frA_1 {v : Vw} {p q : PS} (h : p.1 = q.1) : frA v p = frA v q := by
  show (if v.1 p.1 = 37 then (if v.1 (pt1 v 3 (pt1 v 37 p.1)) = 6 then v.2.1 (pt1 v 6 (pt1 v 3 (pt1 v 37 p.1))) else if v.1 (pt1 v 3 (pt1 v 37 p.1)) = 7 then -v.2.1 (pt1 v 7 (pt1 v 3 (pt1 v 37 p.1))) else 0) else v.2.1 p.1) = (if v.1 q.1 = 37 then (if v.1 (pt1 v 3 (pt1 v 37 q.1)) = 6 then v.2.1 (pt1 v 6 (pt1 v 3 (pt1 v 37 q.1))) else if v.1 (pt1 v 3 (pt1 v 37 q.1)) = 7 then -v.2.1 (pt1 v 7 (pt1 v 3 (pt1 v 37 q.1))) else 0) else v.2.1 q.1)
  rw [h]
theorem pDr_step {v : Vw} {bl : List (Int × Int)} {f : Nat} {p : PS} (h : 20 ≤ v.1 p.1 ∧ v.1 p.1 ≤ 25) : pDr v bl (f + 1) p = cuT v bl p :: pDr v bl f (pCue v bl p) := if_pos h
theorem pDr_stop {v : Vw} {bl : List (Int × Int)} {f : Nat} {p : PS} (h : ¬ (20 ≤ v.1 p.1 ∧ v.1 p.1 ≤ 25)) : pDr v bl f p = [] := by
  cases f with
  | zero => rfl
  | succ f => exact if_neg h
theorem pDb_step {v : Vw} {f : Nat} {p : PS} {bl : List (Int × Int)} (h : v.1 p.1 = 16) : pDb v (f + 1) p bl = pDr v bl 16 (pNm2 v bl (ptk v 16 p)) :: pDb v f (pBlock v bl p) (bl ++ [pBsz v bl p]) := if_pos h
theorem pDb_stop {v : Vw} {f : Nat} {p : PS} {bl : List (Int × Int)} (h : ¬ v.1 p.1 = 16) : pDb v f p bl = [] := by
  cases f with
  | zero => rfl
  | succ f => exact if_neg h
theorem pfi_bk {f g : Nat → Int} {x : Int} (hx : NV x) : ∀ {n i : Nat}, (∀ j, i ≤ j → j < i + n → NV (f j)) → pfi (BLf f g i n) (c27 9 x) i = bkI f x i n := by
  intro n
  induction n with
  | zero => intro i _; rfl
  | succ n ih =>
    intro i h
    show (if c27 9 (f i) = c27 9 x then (i : Int) else pfi (BLf f g (i + 1) n) (c27 9 x) ((i : Int) + 1)) = (if f i = x then (i : Int) else bkI f x (i + 1) n)
    by_cases e : f i = x
    · rw [if_pos e, if_pos (by rw [e])]
    · rw [if_neg e, if_neg (fun w => e (NV_inj (h i (Nat.le_refl _) (by omega)) hx w))]
      exact ih (i := i + 1) (fun j a b => h j (by omega) (by omega))
/-! THE CLASS'S CUES. -/
noncomputable def cNo1 (W : List (Nat × Nat)) : Bool := W.all (fun q => !(Nat.beq q.1 1))
theorem cNo1_ok : ∀ {W : List (Nat × Nat)}, cNo1 W = true → ∀ s : Nat, vLoc W 1 s = false
  | [], _, _ => rfl
  | a :: l, c, s => by
    have c' := c
    unfold cNo1 at c'
    rw [List.all_cons, Bool.and_eq_true] at c'
    show (bif (Nat.beq a.1 1 && (Nat.ble 100 1 || Nat.beq a.2 s)) then true else vLoc l 1 s) = false
    cases hb : Nat.beq a.1 1 with
    | true => rw [hb] at c'; exact absurd c'.1 (by decide)
    | false => exact cNo1_ok (W := l) c'.2 s
/-- all CUES but one stay -/
def CUo (a b : gH) (c : Int) : Prop := ∀ o : Nat, hK a o = 1 → hK b o = 1 ∧ (¬ (o : Int) = c → ∀ s : Nat, hV b o s = hV a o s)
theorem CUo_rfl {a : gH} {c : Int} : CUo a a c := fun _ h => ⟨h, fun _ _ => rfl⟩
theorem CUo_tr {a b d : gH} {c : Int} (x : CUo a b c) (y : CUo b d c) : CUo a d c := fun o h => ⟨(y o (x o h).1).1, fun n s => ((y o (x o h).1).2 n s).trans ((x o h).2 n s)⟩
theorem CUo_fr {W : List (Nat × Nat)} {a b : gH} {c : Int} (le : hLe T0 a b) (f : hFr W a b) (w : cNo1 W = true) : CUo a b c := fun o h => ⟨kLe le h rfl, fun _ s => f.2.2 o 1 h rfl s (cNo1_ok w s)⟩
theorem CUo_up {a b : gH} {o i w : Int} (f : hUpd b a o i w) : CUo a b o := fun q h => ⟨(f.2.2 q).1.trans h, fun n s => uPlace f q s n⟩
theorem CUo_ne {a b : gH} {o i w c : Int} (f : hUpd b a o i w) (k : ¬ hK a o.toNat = 1) : CUo a b c := fun q h => ⟨(f.2.2 q).1.trans h, fun _ s => uPlace f q s (fun e => k (by rw [← e, Int.toNat_natCast]; exact h))⟩
theorem fr1 {W : List (Nat × Nat)} {a b : gH} {o : Nat} (f : hFr W a b) (w : cNo1 W = true) (k : hK a o = 1) (s : Nat) : hV b o s = hV a o s := f.2.2 o 1 k rfl s (cNo1_ok w s)
/-- what a CUE of the class says -/
def recC (h : gH) (o : Nat) : CR := (hV h o 0, hV h o 1, if hV h o 0 = 0 ∨ hV h o 0 = 4 ∨ hV h o 0 = 5 then hV h o 2 else hV h o 3, hV h o 4, hV h o 5, hV h o 6, hV h o 7, if hV h o 0 = 0 then hV h o 8 else 0, if hV h o 0 = 0 then hV h o 9 else 0, if hV h o 0 = 0 then hV h o 10 else 0, if hV h o 0 = 0 then hV h o 12 else 0, if hV h o 0 = 0 then hV h o 13 else 0)
theorem recC_eq {a b : gH} {o : Nat} (e : ∀ s : Nat, hV b o s = hV a o s) : recC b o = recC a o := by
  unfold recC
  simp only [e]
def C45 (h : gH) : Prop := ∀ i : Nat, i < 112 → hV h 45 i = 50 + 2 * (i : Int)
/-- the place of the reader's CUE k of part b -/
def cuP (b k : Nat) : Nat := 50 + 2 * (16 * b + k)
/-- the CUES of a part, the first n -/
def lsC (h : gH) (b : Nat) : Nat → List CR
  | 0 => []
  | n + 1 => lsC h b n ++ [recC h (cuP b n)]
theorem lsC_len {h : gH} {b : Nat} : ∀ {n : Nat}, (lsC h b n).length = n
  | 0 => rfl
  | n + 1 => by
    show (lsC h b n ++ [recC h (cuP b n)]).length = n + 1
    rw [List.length_append, lsC_len]
    rfl
theorem lsC_eq {a h : gH} {b : Nat} : ∀ {n : Nat}, (∀ k, k < n → ∀ s : Nat, hV h (cuP b k) s = hV a (cuP b k) s) → lsC h b n = lsC a b n
  | 0, _ => rfl
  | n + 1, e => by
    show lsC h b n ++ [recC h (cuP b n)] = lsC a b n ++ [recC a (cuP b n)]
    rw [lsC_eq (fun k hk => e k (by omega)), recC_eq (e n (by omega))]
/-- no fault behind, no fault ahead -/
theorem fzE {a b : gH} {E F : PS} (za : KI a) (zb : KI b) (ea : absC a = E) (eb : absC b = F) (hn : E.1 < 0 → pOK E → F = E) (hf : hV b 30 3 = 0) : hV a 30 3 = 0 ∧ 0 ≤ E.1 := by
  have hp := (absC_pos zb hf).2
  rw [eb] at hp
  have ok := absC_ok za
  rw [ea] at ok
  have e0 : 0 ≤ E.1 := by
    rcases Int.lt_or_le E.1 0 with w | w
    · rw [hn w ok] at hp
      exact hp
    · exact w
  exact ⟨fault_no za (by rw [ea]; exact e0), e0⟩
theorem posE {b : gH} {F : PS} (zb : KI b) (eb : absC b = F) (hf : hV b 30 3 = 0) : 0 ≤ F.1 := by
  have hp := (absC_pos zb hf).2
  rw [eb] at hp
  exact hp
/-- what a branch knows when there is no fault -/
theorem kdE {v : Vw} {E : PS} {c : Int} (h : E.1 < 0 ∨ v.1 E.1 = c) (hp : 0 ≤ E.1) : v.1 E.1 = c := h.resolve_left (by omega)
theorem kdN {v : Vw} {E : PS} {c : Int} (h : E.1 < 0 ∨ ¬ v.1 E.1 = c) (hp : 0 ≤ E.1) : ¬ v.1 E.1 = c := h.resolve_left (by omega)
theorem mkA_int {v : Vw} {p : PS} (h : ¬ v.1 p.1 = 37) : mkA v p = -1 ∧ frA v p = tvl v p := ⟨if_neg h, if_neg h⟩
theorem mkA_mark {v : Vw} {p : PS} (h : v.1 p.1 = 37) : mkA v p = tvl v (ptk v 37 p) := if_pos h
theorem frA_plus {v : Vw} {p : PS} (h : v.1 p.1 = 37) (h6 : v.1 (pnm v 0 7 (ptk v 37 p)).1 = 6) : frA v p = tvl v (ptk v 6 (pnm v 0 7 (ptk v 37 p))) := by
  unfold frA
  rw [if_pos h, if_pos h6]
theorem frA_minus {v : Vw} {p : PS} (h : v.1 p.1 = 37) (h6 : ¬ v.1 (pnm v 0 7 (ptk v 37 p)).1 = 6) (h7 : v.1 (pnm v 0 7 (ptk v 37 p)).1 = 7) : frA v p = -tvl v (ptk v 7 (pnm v 0 7 (ptk v 37 p))) := by
  unfold frA
  rw [if_pos h, if_neg h6, if_pos h7]
theorem frA_zero {v : Vw} {p : PS} (h : v.1 p.1 = 37) (h6 : ¬ v.1 (pnm v 0 7 (ptk v 37 p)).1 = 6) (h7 : ¬ v.1 (pnm v 0 7 (ptk v 37 p)).1 = 7) : frA v p = 0 := by
  unfold frA
  rw [if_pos h, if_neg h6, if_neg h7]
theorem tvl_in {h : gH} (z : TKI h) {p : PS} (i : inT h p.1) : 0 ≤ tvl (vwC h) p ∧ tvl (vwC h) p ≤ 9999 := by
  unfold tvl
  show 0 ≤ (if 500 < p.1 then 0 else if kC h p.1 = 3 then uC h p.1 else 0) ∧ (if 500 < p.1 then 0 else if kC h p.1 = 3 then uC h p.1 else 0) ≤ 9999
  have w := z.2.2.2.2.1 p.1
  rw [if_neg (by have := i.2.1; omega)]
  split
  · rename_i c
    exact w c
  · omega
theorem tvl_bd {h : gH} (z : TKI h) {p : PS} : 0 ≤ tvl (vwC h) p ∧ tvl (vwC h) p ≤ 9999 := by
  unfold tvl
  show 0 ≤ (if 500 < p.1 then 0 else if kC h p.1 = 3 then uC h p.1 else 0) ∧ (if 500 < p.1 then 0 else if kC h p.1 = 3 then uC h p.1 else 0) ≤ 9999
  have w := z.2.2.2.2.1 p.1
  split
  · omega
  · split
    · rename_i c
      exact w c
    · omega
theorem opV_yes {v : Vw} {c d : Int} {p : PS} (h : v.1 p.1 = c) : opV v c d p = tvl v (ptk v c p) := if_pos h
theorem opV_no {v : Vw} {c d : Int} {p : PS} (h : ¬ v.1 p.1 = c) : opV v c d p = d := if_neg h
theorem opL_yes {v : Vw} {d : Int} {p : PS} (h : v.1 p.1 = 30) : opL v d p = tvl v (ptk v 9 (pnm v 1 9 (ptk v 30 p))) := if_pos h
theorem opL_no {v : Vw} {d : Int} {p : PS} (h : ¬ v.1 p.1 = 30) : opL v d p = d := if_neg h
theorem recC_lay {h : gH} {o : Nat} (e : hV h o 0 = 0) : recC h o = (0, hV h o 1, hV h o 2, hV h o 4, hV h o 5, hV h o 6, hV h o 7, hV h o 8, hV h o 9, hV h o 10, hV h o 12, hV h o 13) := by
  unfold recC
  rw [e, if_pos (.inl rfl), if_pos rfl, if_pos rfl, if_pos rfl, if_pos rfl, if_pos rfl]
theorem recC_stem {h : gH} {o : Nat} {k : Int} (e : hV h o 0 = k) (k1 : 1 ≤ k) (k3 : k ≤ 3) : recC h o = (k, hV h o 1, hV h o 3, hV h o 4, hV h o 5, hV h o 6, hV h o 7, 0, 0, 0, 0, 0) := by
  unfold recC
  rw [e, if_neg (by omega), if_neg (by omega), if_neg (by omega), if_neg (by omega), if_neg (by omega), if_neg (by omega)]
theorem recC_num {h : gH} {o : Nat} {k : Int} (e : hV h o 0 = k) (k4 : k = 4 ∨ k = 5) : recC h o = (k, hV h o 1, hV h o 2, hV h o 4, hV h o 5, hV h o 6, hV h o 7, 0, 0, 0, 0, 0) := by
  unfold recC
  rw [e, if_pos (by omega), if_neg (by omega), if_neg (by omega), if_neg (by omega), if_neg (by omega), if_neg (by omega)]
theorem cuT_20 {v : Vw} {bl : List (Int × Int)} {p : PS} (h : v.1 p.1 = 20) : cuT v bl p = (0, v.2.2.2 p.1, tvl v (ptk v 20 p), mkA v (lyQ v (ptk v 20 p)), frA v (lyQ v (ptk v 20 p)), -1, 0, opV v 27 0 (lyF v (ptk v 20 p)), opV v 28 (-1) (lyS v (ptk v 20 p)), opV v 29 100 (lyG v (ptk v 20 p)), opV v 30 1 (lyU v (ptk v 20 p)), opL v 1 (lyU v (ptk v 20 p))) := if_pos h
theorem cuT_21 {v : Vw} {bl : List (Int × Int)} {p : PS} (h : v.1 p.1 = 21) : cuT v bl p = (1, v.2.2.2 p.1, tvl v (ptk v 21 p), mkA v (fdQ v (ptk v 21 p)), frA v (fdQ v (ptk v 21 p)), mkA v (fdR v (ptk v 21 p)), frA v (fdR v (ptk v 21 p)), 0, 0, 0, 0, 0) := by
  unfold cuT
  rw [if_neg (by omega), if_pos h]
theorem cuT_25 {v : Vw} {bl : List (Int × Int)} {p : PS} (h : v.1 p.1 = 25) : cuT v bl p = (5, v.2.2.2 p.1, pfi bl (v.2.2.1 (ptk v 25 p).1) 0, mkA v (usQ v (ptk v 25 p)), frA v (usQ v (ptk v 25 p)), -1, 0, 0, 0, 0, 0, 0) := by
  unfold cuT
  rw [if_neg (by omega), if_neg (by omega), if_pos h]
theorem cuT_x {v : Vw} {bl : List (Int × Int)} {p : PS} {k : Int} (h : v.1 p.1 = k) (k1 : 22 ≤ k) (k2 : k ≤ 24) : cuT v bl p = (k - 20, v.2.2.2 p.1, tvl v (ptk v k p), -1, 0, -1, 0, 0, 0, 0, 0, 0) := by
  unfold cuT
  rw [h, if_neg (by omega), if_neg (by omega), if_neg (by omega)]
/-- all CUES but those of a part stay -/
def CUq (a b : gH) (p : Nat) : Prop := ∀ o : Nat, hK a o = 1 → hK b o = 1 ∧ ((∀ k, k < 16 → ¬ o = cuP p k) → ∀ s : Nat, hV b o s = hV a o s)
theorem CUq_rfl {a : gH} {p : Nat} : CUq a a p := fun _ h => ⟨h, fun _ _ => rfl⟩
theorem CUq_tr {a b c : gH} {p : Nat} (x : CUq a b p) (y : CUq b c p) : CUq a c p := fun o h => ⟨(y o (x o h).1).1, fun n s => ((y o (x o h).1).2 n s).trans ((x o h).2 n s)⟩
theorem CUq_of {a b : gH} {p : Nat} {c : Int} (x : CUo a b c) {k : Nat} (hk : k < 16) (e : c = ((cuP p k : Nat) : Int)) : CUq a b p := fun o h => ⟨(x o h).1, fun n s => (x o h).2 (fun w => n k hk (by omega)) s⟩
theorem CUq_fr {W : List (Nat × Nat)} {a b : gH} {p : Nat} (le : hLe T0 a b) (f : hFr W a b) (w : cNo1 W = true) : CUq a b p := fun o h => ⟨kLe le h rfl, fun _ s => fr1 f w h s⟩
def CK (h : gH) : Prop := C45 h ∧ hK h 46 = 740 ∧ hN h 46 = 7
theorem C45_k {h : gH} (z : C45 h) (y : CU h) {b k : Nat} (hb : b ≤ 6) (hk : k < 16) : hK h (cuP b k) = 1 := by
  have w := (y.2.2 (16 * b + k) (by omega)).2
  rw [z _ (by omega)] at w
  rw [show cuP b k = (50 + 2 * ((16 * b + k : Nat) : Int)).toNat by unfold cuP; omega]
  exact w
theorem CK_fr {W : List (Nat × Nat)} {a b : gH} (le : hLe T0 a b) (f : hFr W a b) (c : vFreeR W 45 = true) (z : CK a) : CK b := by
  refine ⟨fun i hi => ?_, kLe le z.2.1 rfl, (le.2 _ (hK_lt z.2.1 (by decide))).2.1.trans z.2.2⟩
  rw [fRow f 45 c]
  exact z.1 i hi
theorem putQ_rowN {q : Nat} {i w : Int} {a b : gH} (p : putQ (q : Int) i w a b) (h0 : 0 ≤ i) (h1 : i < (hN a q : Int)) : hV b q = uF (hV a q) i w := funext fun j => by
  rw [p q j, uF_at]
  by_cases c : (j : Int) = i
  · rw [if_pos c, if_pos ⟨rfl, c, by omega⟩]
  · rw [if_neg c, if_neg (fun z => c z.2.1)]
theorem putQ_o {q : Nat} {i w : Int} {a b : gH} (p : putQ (q : Int) i w a b) {o : Nat} (n : ¬ o = q) : hV b o = hV a o := funext fun j => by
  rw [p o j, if_neg (fun z => n (by omega))]
theorem lsC_snoc {h : gH} {b n : Nat} {D : List CR} : lsC h b (n + 1) ++ D = lsC h b n ++ (recC h (cuP b n) :: D) := by
  show (lsC h b n ++ [recC h (cuP b n)]) ++ D = _
  rw [List.append_assoc]
  rfl
/-- the blocks told so far -/
noncomputable def lsB (h : gH) : Nat → List (List CR)
  | 0 => []
  | n + 1 => lsB h n ++ [lsC h n (hV h 46 n).toNat]
def B16 (h : gH) (n : Nat) : Prop := ∀ b : Nat, b < n → 0 ≤ hV h 46 b ∧ hV h 46 b ≤ 16
theorem B16_eq {a b : gH} {n : Nat} (e : hV b 46 = hV a 46) (z : B16 a n) : B16 b n := fun i hi => by
  rw [e]
  exact z i hi
theorem lsB_eq {a h : gH} : ∀ {n : Nat}, (∀ b, b < n → hV h 46 b = hV a 46 b ∧ ∀ k, k < 16 → ∀ s : Nat, hV h (cuP b k) s = hV a (cuP b k) s) → B16 h n → lsB h n = lsB a n
  | 0, _, _ => rfl
  | n + 1, e, z => by
    show lsB h n ++ [lsC h n (hV h 46 n).toNat] = lsB a n ++ [lsC a n (hV a 46 n).toNat]
    have w := e n (by omega)
    have y := z n (by omega)
    rw [lsB_eq (n := n) (fun b hb => e b (by omega)) (fun b hb => z b (by omega)), ← w.1, lsC_eq (fun k hk => w.2 k (by omega))]
theorem lsB_snoc {h : gH} {n : Nat} {D : List (List CR)} : lsB h (n + 1) ++ D = lsB h n ++ (lsC h n (hV h 46 n).toNat :: D) := by
  show (lsB h n ++ [lsC h n (hV h 46 n).toNat]) ++ D = _
  rw [List.append_assoc]
  rfl
theorem pDb_step_at {v : Vw} {p : PS} {bl : List (Int × Int)} {n : Nat} (h : v.1 p.1 = 16) (hn : n < 6) : pDb v (6 - n) p bl = pDr v bl 16 (pNm2 v bl (ptk v 16 p)) :: pDb v (6 - (n + 1)) (pBlock v bl p) (bl ++ [pBsz v bl p]) := by
  rw [show 6 - n = (6 - (n + 1)) + 1 by omega]
  exact pDb_step h
def CUz (a b : gH) : Prop := ∀ o : Nat, hK a o = 1 → hK b o = 1 ∧ (358 ≤ o → ∀ s : Nat, hV b o s = hV a o s)
theorem CUz_of {a b : gH} (x : CUo a b (-1)) : CUz a b := fun o h => ⟨(x o h).1, fun _ => (x o h).2 (by omega)⟩
theorem CUz_q {a b : gH} {p : Nat} (hp : p ≤ 6) (x : CUq a b p) : CUz a b := fun o h => ⟨(x o h).1, fun g => (x o h).2 (fun k hk => by unfold cuP; omega)⟩
theorem CUz_tr {a b c : gH} (x : CUz a b) (y : CUz b c) : CUz a c := fun o h => ⟨(y o (x o h).1).1, fun g s => ((y o (x o h).1).2 g s).trans ((x o h).2 g s)⟩
/-- the whole text is in the reader -/
def FIN (v : Vw) (h : gH) : Prop := BLc h = pTable v 6 (0, 0) [] ∧ lsB h (hV h 30 13).toNat = pDb v 6 (0, 0) [] ∧ lsC h (hV h 30 13).toNat (hV h 46 (hV h 30 13).toNat).toNat = pDs v ∧ 0 ≤ hV h 30 13 ∧ hV h 30 13 ≤ 6 ∧ B16 h ((hV h 30 13).toNat + 1)
theorem FIN_same {v : Vw} {a h : gH} (e13 : hV h 30 13 = hV a 30 13) (e46 : hV h 46 = hV a 46) (e47 : hV h 47 = hV a 47) (e48 : hV h 48 = hV a 48) (e : ∀ b k : Nat, b ≤ 6 → k < 16 → ∀ s : Nat, hV h (cuP b k) s = hV a (cuP b k) s) (z : FIN v a) : FIN v h := by
  obtain ⟨z1, z2, z3, z4, z5, z6⟩ := z
  have bl : BLc h = BLc a := by
    unfold BLc
    rw [e13, e47, e48]
  have z6' : B16 h ((hV h 30 13).toNat + 1) := fun b hb => by
    rw [e46]
    rw [e13] at hb
    exact z6 b hb
  have l : lsB h (hV a 30 13).toNat = lsB a (hV a 30 13).toNat := lsB_eq (fun b hb => ⟨by rw [e46], fun k hk s => e b k (by omega) hk s⟩) (fun b hb => z6' b (by omega))
  have c : lsC h (hV a 30 13).toNat (hV a 46 (hV a 30 13).toNat).toNat = lsC a (hV a 30 13).toNat (hV a 46 (hV a 30 13).toNat).toNat := lsC_eq (fun k hk s => e _ k (by omega) (by have := z6 (hV a 30 13).toNat (by omega); omega) s)
  refine ⟨bl.trans z1, ?_, ?_, by omega, by omega, z6'⟩
  · rw [e13, l]
    exact z2
  · rw [e13, e46, c]
    exact z3
