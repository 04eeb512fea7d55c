/-! CUES AND BLOCKS in the reference's heap (behind rbase.lean.txt). -/
def BLg (f g : Nat → Int) : Nat → Nat → List (Int × Int)
  | _, 0 => []
  | i, n + 1 => (f i, g i) :: BLg f g (i + 1) n
def BLr (h : gH) : List (Int × Int) := BLg (fun k => hV h 295 ((6 * hV h 285 32).toNat + k)) (fun k => hV h 297 ((7 * hV h 285 32).toNat + k)) 0 (hV h 294 (hV h 285 32).toNat).toNat
theorem BLg_add {f g : Nat → Int} : ∀ {n i : Nat}, BLg f g i (n + 1) = BLg f g i n ++ [(f (i + n), g (i + n))] := by
  intro n
  induction n with
  | zero => intro i; rfl
  | succ n ih =>
    intro i
    show (f i, g i) :: BLg f g (i + 1) (n + 1) = (f i, g i) :: BLg f g (i + 1) n ++ [(f (i + (n + 1)), g (i + (n + 1)))]
    rw [ih, show i + 1 + n = i + (n + 1) by omega]
    rfl
theorem BLg_congr {f f' g g' : Nat → Int} : ∀ {n i : Nat}, (∀ j, i ≤ j → j < i + n → f j = f' j ∧ g j = g' j) → BLg f g i n = BLg f' g' i n := by
  intro n
  induction n with
  | zero => intro i _; rfl
  | succ n ih =>
    intro i h
    unfold BLg
    rw [(h i (Nat.le_refl _) (by omega)).1, (h i (Nat.le_refl _) (by omega)).2, ih (fun j h1 h2 => h j (by omega) (by omega))]
theorem pfd_hit {f g : Nat → Int} {i n : Nat} {x : Int} (h : f i = x) : pfd (BLg f g i (n + 1)) x = g i := if_pos h
theorem pfd_next {f g : Nat → Int} {i n : Nat} {x : Int} (h : ¬ f i = x) : pfd (BLg f g i (n + 1)) x = pfd (BLg f g (i + 1) n) x := if_neg h
/-- a T: its TOKEN behind it depends on where it begins alone -/
def pt1T (v : Vw) (s : Int) : Int := if v.1 s = 37 then (if v.1 (pt1 v 3 (pt1 v 37 s)) = 6 then pt1 v 3 (pt1 v 6 (pt1 v 3 (pt1 v 37 s))) else if v.1 (pt1 v 3 (pt1 v 37 s)) = 7 then pt1 v 3 (pt1 v 7 (pt1 v 3 (pt1 v 37 s))) else pt1 v 3 (pt1 v 37 s)) else pt1 v 3 s
theorem pTime_1 {v : Vw} {p : PS} : (pTime v p).1 = pt1T v p.1 := by
  unfold pTime pt1T
  have e1 : ∀ lo hi : Int, ∀ q : PS, (pnm v lo hi q).1 = pt1 v 3 q.1 := fun _ _ _ => rfl
  have e2 : ∀ c : Int, ∀ q : PS, (ptk v c q).1 = pt1 v c q.1 := fun _ _ => rfl
  by_cases h : v.1 p.1 = 37
  · rw [if_pos h, if_pos h]
    simp only [e1, e2]
    by_cases h6 : v.1 (pt1 v 3 (pt1 v 37 p.1)) = 6
    · rw [if_pos h6, if_pos h6]
      rfl
    · rw [if_neg h6, if_neg h6]
      by_cases h7 : v.1 (pt1 v 3 (pt1 v 37 p.1)) = 7
      · rw [if_pos h7, if_pos h7]
        rfl
      · rw [if_neg h7, if_neg h7]
        rfl
  · rw [if_neg h, if_neg h]
    rfl
theorem ptkR_next {h : gH} (z : RI h) {c s : Int} (hp : 0 ≤ pt1 (vwR h) c s) : pt1 (vwR h) c s = s + 1 := by
  have q := pt1R_kind z hp
  have pl := plR z s
  unfold pt1 pfl at hp ⊢
  rw [if_neg (by omega), if_pos q.2] at hp ⊢
  by_cases h5 : s < 500
  · rw [if_pos h5]
  · rw [if_neg h5, if_neg (by omega)] at hp
    omega
/-- what is blamed moves on -/
def pbR (v : Vw) (p q : PS) : Prop := 0 ≤ q.1 → 0 ≤ p.1 ∧ p.1 < q.1 ∧ (¬ p.2 = 0 → q.2 = p.2) ∧ (p.2 = 0 → q.2 = 0 ∨ ∃ s, p.1 ≤ s ∧ s < q.1 ∧ q.2 = 8 * v.2.2.2 s + 5)
theorem pb_tk {h : gH} (z : RI h) {c : Int} {p : PS} : pbR (vwR h) p (ptk (vwR h) c p) := fun hq => by
  have e : (ptk (vwR h) c p).1 = pt1 (vwR h) c p.1 := rfl
  rw [e] at hq
  have n := ptkR_next z hq
  have k := pt1R_kind z hq
  have w : (ptk (vwR h) c p).2 = p.2 := if_neg (by omega)
  rw [e, w, n]
  exact ⟨k.1, by omega, fun _ => rfl, fun y => .inl y⟩
theorem pb_nm {h : gH} (z : RI h) {lo hi : Int} {p : PS} : pbR (vwR h) p (pnm (vwR h) lo hi p) := fun hq => by
  have e : (pnm (vwR h) lo hi p).1 = pt1 (vwR h) 3 p.1 := rfl
  rw [e] at hq
  have n := ptkR_next z hq
  have k := pt1R_kind z hq
  have w : (pnm (vwR h) lo hi p).2 = if p.2 = 0 ∧ ((vwR h).2.1 p.1 < lo ∨ hi < (vwR h).2.1 p.1) then 8 * (vwR h).2.2.2 p.1 + 5 else p.2 := if_neg (by omega)
  rw [e, w, n]
  refine ⟨k.1, by omega, fun y => if_neg (fun c => y c.1), fun y => ?_⟩
  by_cases c : (vwR h).2.1 p.1 < lo ∨ hi < (vwR h).2.1 p.1
  · rw [if_pos ⟨y, c⟩]
    exact .inr ⟨p.1, Int.le_refl _, by omega, rfl⟩
  · rw [if_neg (fun u => c u.2)]
    exact .inl y
theorem pb_trans {v : Vw} {p q r : PS} (x : pbR v p q) (y : pbR v q r) : pbR v p r := fun hr => by
  obtain ⟨y1, y2, y3, y4⟩ := y hr
  obtain ⟨x1, x2, x3, x4⟩ := x y1
  refine ⟨x1, by omega, fun w => ?_, fun w => ?_⟩
  · have := x3 w
    rw [y3 (by rw [this]; exact w), this]
  · rcases x4 w with u | ⟨s, s1, s2, s3⟩
    · rcases y4 u with t | ⟨s, s1, s2, s3⟩
      · exact .inl t
      · exact .inr ⟨s, by omega, s2, s3⟩
    · by_cases u : q.2 = 0
      · rcases y4 u with t | ⟨s, s1, s2, s3⟩
        · exact .inl t
        · exact .inr ⟨s, by omega, s2, s3⟩
      · exact .inr ⟨s, s1, by omega, by rw [y3 u]; exact s3⟩
theorem pb_time {h : gH} (z : RI h) {p : PS} : pbR (vwR h) p (pTime (vwR h) p) := by
  unfold pTime
  by_cases h37 : (vwR h).1 p.1 = 37
  · rw [if_pos h37]
    have a := pb_trans (pb_tk z (c := 37) (p := p)) (pb_nm z (lo := 0) (hi := 7))
    split
    · exact pb_trans a (pb_trans (pb_tk z) (pb_nm z))
    · split
      · exact pb_trans a (pb_trans (pb_tk z) (pb_nm z))
      · exact a
  · rw [if_neg h37]
    exact pb_nm z
/-- use's blame of a NAME, whether ahead of its T or behind -/
theorem use_same {v : Vw} {bl : List (Int × Int)} {p : PS} (c : ¬ (p.2 = 0 ∧ pfd bl (v.2.2.1 p.1) = -1)) : pUse v bl p = pTime v (ptk v 26 (ptk v 2 p)) := by
  unfold pUse
  rw [if_neg c]
  rfl
theorem use_blame {h : gH} (z : RI h) {bl : List (Int × Int)} {p u : PS} (c : p.2 = 0 ∧ pfd bl ((vwR h).2.2.1 p.1) = -1) (hu : 0 ≤ (pTime (vwR h) (ptk (vwR h) 26 (ptk (vwR h) 2 p))).1) (h1 : u.1 = (pTime (vwR h) (ptk (vwR h) 26 (ptk (vwR h) 2 p))).1) (h2 : u.2 = 8 * (vwR h).2.2.2 p.1 + 4) : u = pUse (vwR h) bl p := by
  unfold pUse
  rw [if_pos c]
  have pl := plR z p.1
  have e : (pTime (vwR h) (ptk (vwR h) 26 (pgz (pt1 (vwR h) 2 p.1) (8 * (vwR h).2.2.2 p.1 + 4)))).1 = (pTime (vwR h) (ptk (vwR h) 26 (ptk (vwR h) 2 p))).1 := by
    rw [pTime_1, pTime_1]
    rfl
  have b1 := pb_trans (pb_tk z (c := 26) (p := pgz (pt1 (vwR h) 2 p.1) (8 * (vwR h).2.2.2 p.1 + 4))) (pb_time z) (by rw [e]; exact hu)
  have g : (pgz (pt1 (vwR h) 2 p.1) (8 * (vwR h).2.2.2 p.1 + 4)).2 = 8 * (vwR h).2.2.2 p.1 + 4 := if_neg (by have : 0 ≤ pt1 (vwR h) 2 p.1 := b1.1; omega)
  refine Prod.ext (h1.trans e.symm) (h2.trans ?_)
  rw [b1.2.2.1 (by rw [g]; omega), g]
theorem pcz_no {v : Vw} {bl : List (Int × Int)} {p : PS} (h : ¬ v.1 p.1 = 25) : pcz v bl p = 1 := if_neg h
theorem pczR_use {h : gH} (z : RI h) {bl : List (Int × Int)} {p : PS} (hk : (vwR h).1 p.1 = 25) (hp : 0 ≤ (ptk (vwR h) 25 p).1) : pcz (vwR h) bl p = (if pfd bl ((vwR h).2.2.1 (ptk (vwR h) 25 p).1) = -1 then 0 else pfd bl ((vwR h).2.2.1 (ptk (vwR h) 25 p).1)) := by
  have e : (ptk (vwR h) 25 p).1 = p.1 + 1 := ptkR_next z hp
  rw [e]
  exact if_pos hk
/-- the search for a block's NAME from behind: what stands behind i -/
def SRi (h : gH) (nm x w : Int) : Prop := (w = -1 ∧ pfd (BLg (fun k => hV h 295 ((6 * hV h 285 32).toNat + k)) (fun k => hV h 297 ((7 * hV h 285 32).toNat + k)) (x + 1).toNat ((hV h 294 (hV h 285 32).toNat).toNat - (x + 1).toNat)) nm = -1) ∨ (x < w ∧ w < hV h 294 (hV h 285 32).toNat ∧ pfd (BLg (fun k => hV h 295 ((6 * hV h 285 32).toNat + k)) (fun k => hV h 297 ((7 * hV h 285 32).toNat + k)) (x + 1).toNat ((hV h 294 (hV h 285 32).toNat).toNat - (x + 1).toNat)) nm = hV h 297 ((7 * hV h 285 32).toNat + w.toNat))
theorem SRi_0 {h : gH} {nm x : Int} (e : x = hV h 294 (hV h 285 32).toNat - 1) : SRi h nm x (-1) := by
  refine .inl ⟨rfl, ?_⟩
  rw [show (hV h 294 (hV h 285 32).toNat).toNat - (x + 1).toNat = 0 by omega]
  rfl
theorem SRi_hit {h : gH} {nm x x' w : Int} (s : SRi h nm x w) (h0 : 0 ≤ x) (h1 : x < hV h 294 (hV h 285 32).toNat) (e : x' = x - 1) (k : hV h 295 ((6 * hV h 285 32).toNat + x.toNat) = nm) : SRi h nm x' x := by
  subst e
  refine .inr ⟨by omega, h1, ?_⟩
  rw [show (x - 1 + 1).toNat = x.toNat by omega, show (hV h 294 (hV h 285 32).toNat).toNat - x.toNat = ((hV h 294 (hV h 285 32).toNat).toNat - x.toNat - 1) + 1 by omega]
  exact pfd_hit k
theorem SRi_no {h : gH} {nm x x' w : Int} (s : SRi h nm x w) (h0 : 0 ≤ x) (h1 : x < hV h 294 (hV h 285 32).toNat) (e : x' = x - 1) (k : ¬ hV h 295 ((6 * hV h 285 32).toNat + x.toNat) = nm) : SRi h nm x' w := by
  subst e
  have q : pfd (BLg (fun k => hV h 295 ((6 * hV h 285 32).toNat + k)) (fun k => hV h 297 ((7 * hV h 285 32).toNat + k)) (x - 1 + 1).toNat ((hV h 294 (hV h 285 32).toNat).toNat - (x - 1 + 1).toNat)) nm = pfd (BLg (fun k => hV h 295 ((6 * hV h 285 32).toNat + k)) (fun k => hV h 297 ((7 * hV h 285 32).toNat + k)) (x + 1).toNat ((hV h 294 (hV h 285 32).toNat).toNat - (x + 1).toNat)) nm := by
    rw [show (x - 1 + 1).toNat = x.toNat by omega, show (hV h 294 (hV h 285 32).toNat).toNat - x.toNat = ((hV h 294 (hV h 285 32).toNat).toNat - (x + 1).toNat) + 1 by omega, show (x + 1).toNat = x.toNat + 1 by omega]
    exact pfd_next k
  rcases s with ⟨s1, s2⟩ | ⟨s1, s2, s3⟩
  · exact .inl ⟨s1, q.trans s2⟩
  · exact .inr ⟨by omega, s2, q.trans s3⟩
theorem SRi_end {h : gH} {nm x w : Int} (s : SRi h nm x w) (h0 : x = -1) : (w = -1 ∧ pfd (BLr h) nm = -1) ∨ (0 ≤ w ∧ w < hV h 294 (hV h 285 32).toNat ∧ pfd (BLr h) nm = hV h 297 ((7 * hV h 285 32).toNat + w.toNat)) := by
  subst h0
  have e : ((-1 : Int) + 1).toNat = 0 := rfl
  unfold SRi at s
  rw [e, Nat.sub_zero] at s
  rcases s with ⟨s1, s2⟩ | ⟨s1, s2, s3⟩
  · exact .inl ⟨s1, s2⟩
  · exact .inr ⟨by omega, s2, s3⟩
/-- what a use's T leaves of blames: seen from its NAME -/
def UQ (w : Int) (t : Int) (h : gH) : Prop := (¬ w = 0 → ¬ hV h 285 15 = 0 ∧ hV h 285 16 < hV h 289 t.toNat) ∧ (w = 0 → hV h 285 15 = 0 ∨ hV h 289 t.toNat < hV h 285 16)
theorem ptk_w {v : Vw} {c : Int} {p : PS} (h : 0 ≤ (ptk v c p).1) : (ptk v c p).2 = p.2 := if_neg (by have : (ptk v c p).1 = pt1 v c p.1 := rfl; omega)
theorem absR_2 {h : gH} (hf : hV h 285 13 = 0) : (absR h).2 = if hV h 285 15 = 0 then 0 else 8 * hV h 285 16 + hV h 285 15 := by rw [absR_at hf]
theorem UQ_of {a b : gH} (za : RI a) (zb : RI b) (fa : hV a 285 13 = 0) (fb : hV b 285 13 = 0) (x : TRs a b) (e : absR b = pTime (vwR a) (ptk (vwR a) 26 (ptk (vwR a) 2 (absR a)))) : UQ (absR a).2 (absR a).1 b ∧ (absR a).1 < hV b 285 11 ∧ (vwR a).1 (absR a).1 = 2 := by
  have pa := absR_pos za fa
  have pb := absR_pos zb fb
  have hp := pb.2
  rw [e] at hp
  have B2 := pb_time za hp
  have t1 : 0 ≤ (ptk (vwR a) 2 (absR a)).1 := (pb_tk za B2.1).1
  have w1 : (ptk (vwR a) 26 (ptk (vwR a) 2 (absR a))).2 = (absR a).2 := (ptk_w B2.1).trans (ptk_w t1)
  have n2 := ptkR_next za (c := 2) (s := (absR a).1) t1
  have n26 := ptkR_next za (c := 26) (s := (ptk (vwR a) 2 (absR a)).1) B2.1
  have k2 := pt1R_kind za (c := 2) (s := (absR a).1) t1
  have m2 : (ptk (vwR a) 2 (absR a)).1 = (absR a).1 + 1 := n2
  have m26 : (ptk (vwR a) 26 (ptk (vwR a) 2 (absR a))).1 = (ptk (vwR a) 2 (absR a)).1 + 1 := n26
  rw [← e, w1] at B2
  have eb := absR_2 fb
  have ea := absR_2 fa
  have b15 := zb.2.2.2.2.2.2.1
  have b156 := zb.2.2.2.2.2.2.2.1
  have a15 := za.2.2.2.2.2.2.1
  have a156 := za.2.2.2.2.2.2.2.1
  have a16 := za.2.2.2.2.2.2.2.2.1
  have b16 := zb.2.2.2.2.2.2.2.2.1
  refine ⟨⟨fun c => ?_, fun c => ?_⟩, by omega, k2.2⟩
  · have q := B2.2.2.1 c
    rw [eb] at q
    by_cases z0 : hV a 285 15 = 0
    · rw [if_pos z0] at ea
      exact absurd ea c
    · rw [if_neg z0] at ea
      have lt := za.2.2.2.2.2.2.2.2.2.2 fa z0
      by_cases z1 : hV b 285 15 = 0
      · rw [if_pos z1] at q
        omega
      · rw [if_neg z1] at q
        refine ⟨z1, ?_⟩
        rw [pa.1, x.2.2.1]
        omega
  · rcases B2.2.2.2 c with q | ⟨s, s1, s2, s3⟩
    · rw [eb] at q
      by_cases z1 : hV b 285 15 = 0
      · exact .inl z1
      · rw [if_neg z1] at q
        omega
    · refine .inr ?_
      have bt := (okR_t zb fb)
      have l : (vwR a).2.2.2 s = hV b 289 s.toNat := by
        rw [← TRs_v x]
        show lR b s = _
        unfold lR
        rw [if_pos ⟨by omega, by have := bt.2.1; omega, by have := bt.2.2; omega⟩]
      rw [l] at s3
      rw [eb] at s3
      have pl := (zb.1.2.2.2 s.toNat (by have := bt.2.2; omega)).1
      by_cases z1 : hV b 285 15 = 0
      · rw [if_pos z1] at s3
        omega
      · rw [if_neg z1] at s3
        have lt := TR_lt zb.1 (i := (absR a).1) (j := s) (by omega) (by omega) (by have := bt.2.2; omega)
        omega
theorem wr_use {a b : gH} {w t : Int} (z : RI a) (hf : hV a 285 13 = 0) (x : WRs 4 t a b) (uq : UQ w t a) (h0 : 0 ≤ t) (ht : t < hV a 285 11) : RI b ∧ (absR b).1 = (absR a).1 ∧ (¬ w = 0 → absR b = absR a) ∧ (w = 0 → (absR b).2 = 8 * hV a 289 t.toNat + 4) ∧ hV b 285 13 = 0 ∧ TRs a b := by
  obtain ⟨w1, w3, w4, tr, w5⟩ := x
  have ok := okR_t z hf
  have lt := TR_lt z.1 h0 ht ok.2.2
  have pl := (z.1.2.2.2 t.toNat (by have := ok.2.2; omega)).1
  have t0 := z.2.1
  have t5 := z.2.2.1
  have k0 := z.2.2.2.2.2.2.1
  rcases w5 with ⟨_, c, w5, w6⟩ | ⟨c, w5, w6⟩
  · refine ⟨⟨TR_of tr z.1, by omega, by omega, by omega, by omega, by rw [w4]; exact z.2.2.2.2.2.1, by omega, by omega, by omega, fun _ => by rw [w1, tr.1]; exact ok.2.2, fun _ _ => by rw [w6, w1, tr.2.2.1]; exact lt⟩, ?_, fun q => ?_, fun _ => ?_, by omega, tr⟩
    · rw [absR_at (by omega), absR_at hf, w1]
    · have u := uq.1 q
      omega
    · rw [absR_2 (by omega), w5, w6]
      exact if_neg (by decide)
  · have p := PR_of z w1 w3 w4 w5 w6 tr
    refine ⟨p.2.2.1, by rw [p.1], fun _ => p.1, fun q => ?_, by omega, tr⟩
    exact absurd ⟨hf, (uq.2 q).imp id (fun y => .inl y)⟩ c
/-- the blocks' NAMES and sizes -/
def ZR (h : gH) : Prop := ∀ k : Nat, (k : Int) < hV h 294 (hV h 285 32).toNat → (0 ≤ hV h 295 ((6 * hV h 285 32).toNat + k) ∧ hV h 295 ((6 * hV h 285 32).toNat + k) < 1099511627776) ∧ 0 ≤ hV h 297 ((7 * hV h 285 32).toNat + k)
theorem use_off {v : Vw} {bl : List (Int × Int)} {p : PS} (h : (pTime v (ptk v 26 (ptk v 2 p))).1 < 0) : pUse v bl p = pTime v (ptk v 26 (ptk v 2 p)) := by
  have e : (pUse v bl p).1 = (pTime v (ptk v 26 (ptk v 2 p))).1 := by
    unfold pUse
    rw [pTime_1, pTime_1]
    rfl
  have o1 : pOK (pUse v bl p) := pTime_ok
  have o2 : pOK (pTime v (ptk v 26 (ptk v 2 p))) := pTime_ok
  exact Prod.ext e ((o1 (by omega)).trans (o2 h).symm)
theorem lcR {k x y : Int} (e : k = (lg_cmp (Int64.ofInt x) (Int64.ofInt y)).toInt) (h1 : 0 ≤ x ∧ x < 1099511627776) (h2 : 0 ≤ y ∧ y < 1099511627776) : k = 0 ↔ x = y := lcq e h1.1 h1.2 h2.1 h2.2

theorem rW_32 : vRg T0 285 32 0 100 = true := by decide +kernel
theorem rW_33 : vRg T0 285 33 0 100 = true := by decide +kernel
/-- other parts' sizes may change -/
theorem BLr_keep {a b : gH} {q : Int} (e32 : hV b 285 32 = hV a 285 32) (e4 : hV b 294 = hV a 294) (e5 : hV b 295 = hV a 295) (e7 : ∀ k : Nat, ¬ (k : Int) = q → hV b 297 k = hV a 297 k) (h0 : 0 ≤ hV a 285 32) (hq : 7 * hV a 285 32 + hV a 294 (hV a 285 32).toNat ≤ q) : BLr b = BLr a ∧ (ZR a → ZR b) := by
  constructor
  · unfold BLr
    rw [e32, e4, e5]
    refine BLg_congr (fun j _ hj => ⟨rfl, e7 _ ?_⟩)
    omega
  · intro z k hk
    rw [e32, e4] at hk
    rw [e32, e5, e7 _ (by omega)]
    exact z k hk
theorem pCuesR_neg {h : gH} {bl : List (Int × Int)} {f : Nat} {p : PS} (hp : p.1 < 0) : pCues (vwR h) bl f p = p := pCues_neg (vwR_ok h) hp
theorem cues_out {v : Vw} {bl : List (Int × Int)} {f : Nat} {p : PS} (hv : wOK v) (ho : pOK p) (c : ¬ (20 ≤ v.1 p.1 ∧ v.1 p.1 ≤ 25)) (k : ¬ v.1 p.1 = 17) : ptk v 17 (pCues v bl f p) = pfail v 1 p := by rw [pCues_stop c, mustR_no hv ho k]
theorem pOK_cue {v : Vw} {bl : List (Int × Int)} {p : PS} : pOK (pCue v bl p) := ptk_ok
theorem pOK_cues {v : Vw} {bl : List (Int × Int)} : ∀ {f : Nat} {p : PS}, pOK p → pOK (pCues v bl f p) := by
  intro f
  induction f with
  | zero =>
    intro p h
    unfold pCues
    split
    · exact pfail_ok
    · exact h
  | succ f ih =>
    intro p h
    unfold pCues
    split
    · exact ih pOK_cue
    · exact h
/-- sizes are no less than 0 -/
def nnB (bl : List (Int × Int)) : Prop := ∀ e ∈ bl, 0 ≤ e.2
theorem pfd_nn : ∀ {bl : List (Int × Int)} {x : Int}, nnB bl → pfd bl x = -1 ∨ 0 ≤ pfd bl x := by
  intro bl
  induction bl with
  | nil => intro x _; exact .inl rfl
  | cons e bl ih =>
    intro x h
    obtain ⟨a, z⟩ := e
    have i := ih (x := x) (fun e he => h e (List.mem_cons_of_mem _ he))
    have y : 0 ≤ z := h (a, z) List.mem_cons_self
    unfold pfd
    split
    · exact .inr y
    · exact i
theorem pcz_nn {v : Vw} {bl : List (Int × Int)} {p : PS} (h : nnB bl) : 0 ≤ pcz v bl p := by
  unfold pcz
  split
  · split
    · exact Int.le_refl _
    · exact (pfd_nn h).resolve_left ‹_›
  · decide
theorem pTot_nn {v : Vw} {bl : List (Int × Int)} (h : nnB bl) : ∀ {f : Nat} {p : PS} {t : Int}, 0 ≤ t → 0 ≤ pTot v bl f p t := by
  intro f
  induction f with
  | zero => intro p t ht; exact ht
  | succ f ih =>
    intro p t ht
    unfold pTot
    split
    · refine ih ?_
      have := pcz_nn (v := v) (p := p) h
      unfold pcap
      split <;> omega
    · exact ht
theorem BLg_nn {f g : Nat → Int} : ∀ {n i : Nat}, (∀ j, i ≤ j → j < i + n → 0 ≤ g j) → nnB (BLg f g i n) := by
  intro n
  induction n with
  | zero => intro i _ e he; cases he
  | succ n ih =>
    intro i h e he
    rcases List.mem_cons.mp he with rfl | he
    · exact h i (Nat.le_refl _) (by omega)
    · exact ih (fun j a b => h j (by omega) (by omega)) e he
theorem ZR_nn {h : gH} (z : ZR h) : nnB (BLr h) := BLg_nn (fun j _ hj => (z j (by omega)).2)
/-- some NAME is that one -/
theorem pfd_ex {f g : Nat → Int} {x : Int} : ∀ {n i : Nat}, (∀ j, i ≤ j → j < i + n → 0 ≤ g j) → (¬ pfd (BLg f g i n) x = -1 ↔ ∃ j : Nat, i ≤ j ∧ j < i + n ∧ f j = x) := by
  intro n
  induction n with
  | zero =>
    intro i _
    exact ⟨fun c => absurd rfl c, fun ⟨j, a, b, _⟩ => by omega⟩
  | succ n ih =>
    intro i h
    have y := ih (i := i + 1) (fun j a b => h j (by omega) (by omega))
    by_cases c : f i = x
    · rw [pfd_hit c]
      have := h i (Nat.le_refl _) (by omega)
      exact ⟨fun _ => ⟨i, Nat.le_refl _, by omega, c⟩, fun _ => by omega⟩
    · rw [pfd_next c, y]
      constructor
      · rintro ⟨j, a, b, e⟩
        exact ⟨j, by omega, by omega, e⟩
      · rintro ⟨j, a, b, e⟩
        rcases Nat.lt_or_ge i j with w | w
        · exact ⟨j, by omega, by omega, e⟩
        · exact absurd (by rw [show i = j by omega]; exact e) c
def MBk (h : gH) (nm x : Int) : Prop := ∃ j : Nat, (j : Int) < x ∧ hV h 295 ((6 * hV h 285 32).toNat + j) = nm
theorem MBk_all {h : gH} (z : ZR h) {nm : Int} : MBk h nm (hV h 294 (hV h 285 32).toNat) ↔ ¬ pfd (BLr h) nm = -1 := by
  unfold BLr
  rw [pfd_ex (fun j _ hj => (z j (by omega)).2)]
  constructor
  · rintro ⟨j, a, b⟩
    exact ⟨j, Nat.zero_le _, by omega, b⟩
  · rintro ⟨j, _, a, b⟩
    exact ⟨j, by omega, b⟩
theorem MBk_hit {h : gH} {nm x : Int} (h0 : 0 ≤ x) (e : hV h 295 ((6 * hV h 285 32).toNat + x.toNat) = nm) : MBk h nm (x + 1) := ⟨x.toNat, by omega, e⟩
theorem MBk_no {h : gH} {nm x : Int} (h0 : 0 ≤ x) (e : ¬ hV h 295 ((6 * hV h 285 32).toNat + x.toNat) = nm) : MBk h nm (x + 1) ↔ MBk h nm x := by
  constructor
  · rintro ⟨j, a, b⟩
    rcases Int.lt_or_le (j : Int) x with w | w
    · exact ⟨j, w, b⟩
    · exact absurd (by rw [show x.toNat = j by omega]; exact b) e
  · rintro ⟨j, a, b⟩
    exact ⟨j, by omega, b⟩
/-- what is blamed of a block's NAME so far -/
def W3 (w t : Int) (M : Prop) (h : gH) : Prop := (¬ w = 0 → ¬ hV h 285 15 = 0 ∧ hV h 285 16 < hV h 289 t.toNat ∧ (absR h).2 = w) ∧ (w = 0 → (M → hV h 285 15 = 3 ∧ hV h 285 16 = hV h 289 t.toNat) ∧ (¬ M → hV h 285 15 = 0))
theorem W3_wrong {a b : gH} {w t : Int} {M M' : Prop} (z : RI a) (hf : hV a 285 13 = 0) (x : WRs 3 t a b) (q : W3 w t M a) (h0 : 0 ≤ t) (ht : t < hV a 285 11) (hM : M') : RI b ∧ (absR b).1 = (absR a).1 ∧ W3 w t M' b ∧ hV b 285 13 = 0 ∧ TRs a b ∧ hV b 285 11 = hV a 285 11 := by
  obtain ⟨w1, w3, w4, tr, w5⟩ := x
  have ok := okR_t z hf
  have lt := TR_lt z.1 h0 ht ok.2.2
  have pl := (z.1.2.2.2 t.toNat (by have := ok.2.2; omega)).1
  have t0 := z.2.1
  have t5 := z.2.2.1
  have k0 := z.2.2.2.2.2.2.1
  rcases w5 with ⟨_, c, w5, w6⟩ | ⟨c, w5, w6⟩
  · refine ⟨⟨TR_of tr z.1, by omega, by omega, by omega, by omega, by rw [w4]; exact z.2.2.2.2.2.1, by omega, by omega, by omega, fun _ => by rw [w1, tr.1]; exact ok.2.2, fun _ _ => by rw [w6, w1, tr.2.2.1]; exact lt⟩, ?_, ⟨fun y => ?_, fun _ => ⟨fun _ => ⟨w5, by rw [w6, tr.2.2.1]⟩, fun y => absurd hM y⟩⟩, by omega, tr, w1⟩
    · rw [absR_at (by omega), absR_at hf, w1]
    · have u := q.1 y
      omega
  · have p := PR_of z w1 w3 w4 w5 w6 tr
    refine ⟨p.2.2.1, by rw [p.1], ⟨fun y => ?_, fun y => ⟨fun _ => ?_, fun u => absurd hM u⟩⟩, by omega, tr, w1⟩
    · rw [w5, w6, tr.2.2.1, p.1]
      exact q.1 y
    · have u := q.2 y
      by_cases m : M
      · rw [w5, w6, tr.2.2.1]
        exact u.1 m
      · exact absurd ⟨hf, .inl (u.2 m)⟩ c
theorem W3_end {h : gH} {w t : Int} {M : Prop} [Decidable M] (hf : hV h 285 13 = 0) (q : W3 w t M h) : (absR h).2 = if w = 0 ∧ M then 8 * hV h 289 t.toNat + 3 else w := by
  by_cases c : w = 0
  · by_cases m : M
    · rw [if_pos ⟨c, m⟩, absR_2 hf]
      obtain ⟨u1, u2⟩ := (q.2 c).1 m
      rw [u1, u2]
      exact if_neg (by decide)
    · rw [if_neg (fun u => m u.2), absR_2 hf, if_pos ((q.2 c).2 m), c]
  · rw [if_neg (fun u => c u.1)]
    exact (q.1 c).2.2
theorem pBlocks_step {v : Vw} {f : Nat} {p : PS} {bl : List (Int × Int)} (h : v.1 p.1 = 16) : pBlocks v (f + 1) p bl = pBlocks v f (pBlock v bl p) (bl ++ [pBsz v bl p]) := if_pos h
theorem pBlocks_full {v : Vw} {p : PS} {bl : List (Int × Int)} (h : v.1 p.1 = 16) : pBlocks v 0 p bl = pfail v 2 p := if_pos h
theorem pTable_step {v : Vw} {f : Nat} {p : PS} {bl : List (Int × Int)} (h : v.1 p.1 = 16) : pTable v (f + 1) p bl = pTable v f (pBlock v bl p) (bl ++ [pBsz v bl p]) := if_pos h
theorem BLr_same {a b : gH} (e32 : hV b 285 32 = hV a 285 32) (e4 : hV b 294 = hV a 294) (e5 : hV b 295 = hV a 295) (e7 : hV b 297 = hV a 297) : BLr b = BLr a ∧ (ZR a → ZR b) := by
  unfold BLr ZR
  rw [e32, e4, e5, e7]
  exact ⟨rfl, id⟩
theorem pLast_eq {v : Vw} {bl : List (Int × Int)} {p X : PS} (e : X = ptk v 17 (pCues v bl 16 (ptk v 18 p))) : pLast v bl p = pgz X.1 (if X.2 = 0 ∧ 40 < pTot v bl 16 (ptk v 18 p) 0 then 8 * v.2.2.2 p.1 + 6 else X.2) := by
  subst e
  rfl
/-- kinds of variables, of relations, of signs -/
theorem km_var {k : Int} : (45 ≤ km k ∧ km k ≤ 49) ↔ (49 ≤ k ∧ k ≤ 53) := by
  unfold km
  by_cases c : 0 ≤ k ∧ k < 54
  · rw [if_pos c]
    have q : ∀ i : Fin 54, (45 ≤ kmT.getD i.val 0 ∧ kmT.getD i.val 0 ≤ 49) ↔ (49 ≤ i.val ∧ i.val ≤ 53) := by decide +kernel
    have y := q ⟨k.toNat, by omega⟩
    rw [show kmT.getD (⟨k.toNat, by omega⟩ : Fin 54).val 0 = kmT.getD k.toNat 0 from rfl] at y
    constructor
    · intro h
      have := y.mp h
      have : 49 ≤ k.toNat ∧ k.toNat ≤ 53 := this
      omega
    · intro h
      exact y.mpr (show 49 ≤ k.toNat ∧ k.toNat ≤ 53 by omega)
  · rw [if_neg c]
    omega
theorem km_rel {k : Int} : (12 ≤ km k ∧ km k ≤ 15) ↔ (11 ≤ k ∧ k ≤ 14) := by
  unfold km
  by_cases c : 0 ≤ k ∧ k < 54
  · rw [if_pos c]
    have q : ∀ i : Fin 54, (12 ≤ kmT.getD i.val 0 ∧ kmT.getD i.val 0 ≤ 15) ↔ (11 ≤ i.val ∧ i.val ≤ 14) := by decide +kernel
    have y := q ⟨k.toNat, by omega⟩
    rw [show kmT.getD (⟨k.toNat, by omega⟩ : Fin 54).val 0 = kmT.getD k.toNat 0 from rfl] at y
    constructor
    · intro h
      have : 11 ≤ k.toNat ∧ k.toNat ≤ 14 := y.mp h
      omega
    · intro h
      exact y.mpr (show 11 ≤ k.toNat ∧ k.toNat ≤ 14 by omega)
  · rw [if_neg c]
    omega
def pUn (v : Vw) (p : PS) : PS := if v.1 p.1 = 3 ∨ (45 ≤ v.1 p.1 ∧ v.1 p.1 ≤ 49) then ptk v (v.1 p.1) p else pfail v 1 p
/-- a TOKEN of an E: fuel by the place -/
theorem pE_st {h : gH} (z : RI h) {b o c : Int} {p : PS} (ho : pOK p) (h0 : 0 ≤ p.1) : pE (vwR h) (501 - p.1).toNat b o (ptk (vwR h) c p) = pE (vwR h) (502 - (ptk (vwR h) c p).1).toNat b o (ptk (vwR h) c p) := by
  rcases Int.lt_or_le (ptk (vwR h) c p).1 0 with n | n
  · rw [pE_neg (vwR_ok h) n ptk_ok, pE_neg (vwR_ok h) n ptk_ok]
  · have e : (ptk (vwR h) c p).1 = p.1 + 1 := ptkR_next z n
    rw [e, show 502 - (p.1 + 1) = 501 - p.1 by omega]
theorem pE_go1 {v : Vw} {o k : Int} {p : PS} (h0 : 0 ≤ p.1) (h5 : p.1 ≤ 500) (hk : v.1 p.1 = k) : pE v (502 - p.1).toNat 1 o p = if k = 10 then (if o = 6 then pfail v 2 p else pE v (501 - p.1).toNat 1 (o + 1) (ptk v 10 p)) else if k = 3 ∨ (45 ≤ k ∧ k ≤ 49) then pE v (501 - p.1).toNat 0 o (ptk v k p) else pfail v 1 p := by
  rw [show (502 - p.1).toNat = (501 - p.1).toNat + 1 by omega]
  exact pE_1 hk
theorem pE_go0 {v : Vw} {o k : Int} {p : PS} (h0 : 0 ≤ p.1) (h5 : p.1 ≤ 500) (hk : v.1 p.1 = k) : pE v (502 - p.1).toNat 0 o p = if k = 11 ∧ 0 < o then pE v (501 - p.1).toNat 0 (o - 1) (ptk v 11 p) else if 6 ≤ k ∧ k ≤ 9 then pE v (501 - p.1).toNat 1 o (ptk v k p) else if 0 < o then pfail v 1 p else p := by
  rw [show (502 - p.1).toNat = (501 - p.1).toNat + 1 by omega]
  exact pE_0 hk
theorem pE_fail {h : gH} (z : RI h) {f : Nat} {b o k : Int} {p : PS} (hk : 1 ≤ k) : pE (vwR h) f b o (pfail (vwR h) k p) = pfail (vwR h) k p := pE_neg (vwR_ok h) (pfailR_lt z hk) pfail_ok
theorem absR_500 {h : gH} (z : RI h) (hf : hV h 285 13 = 0) : 0 ≤ (absR h).1 ∧ (absR h).1 ≤ 500 := by
  have := absR_pos z hf
  have := z.2.2.1
  omega
theorem kdR_pos {h : gH} {p : PS} {k : Int} (hk : (vwR h).1 p.1 = k) (h0 : 0 ≤ k) : 0 ≤ p.1 := by
  rcases Int.lt_or_le p.1 0 with n | n
  · rw [vwR_ok h _ n] at hk
    omega
  · exact n
/-- an operand -/
theorem pE_unit {h : gH} (z : RI h) {o : Int} {p : PS} (ho : pOK p) (h0 : 0 ≤ p.1) (h5 : p.1 ≤ 500) (hk : ¬ (vwR h).1 p.1 = 10) : pE (vwR h) (502 - p.1).toNat 1 o p = pE (vwR h) (502 - (pUn (vwR h) p).1).toNat 0 o (pUn (vwR h) p) := by
  rw [pE_go1 h0 h5 rfl, if_neg hk]
  unfold pUn
  by_cases c : (vwR h).1 p.1 = 3 ∨ (45 ≤ (vwR h).1 p.1 ∧ (vwR h).1 p.1 ≤ 49)
  · rw [if_pos c, if_pos c, pE_st z ho h0]
  · rw [if_neg c, if_neg c, pE_fail z (by decide)]
theorem pNots_st {h : gH} (z : RI h) {p : PS} (h0 : 0 ≤ p.1) (h5 : p.1 ≤ 500) (hk : (vwR h).1 p.1 = 44) : pNots (vwR h) (502 - p.1).toNat p = pNots (vwR h) (502 - (ptk (vwR h) 44 p).1).toNat (ptk (vwR h) 44 p) := by
  rw [show (502 - p.1).toNat = (501 - p.1).toNat + 1 by omega, pNots_step hk]
  rcases Int.lt_or_le (ptk (vwR h) 44 p).1 0 with n | n
  · rw [pNots_neg (vwR_ok h) n, pNots_neg (vwR_ok h) n]
  · have e : (ptk (vwR h) 44 p).1 = p.1 + 1 := ptkR_next z n
    rw [e, show 502 - (p.1 + 1) = 501 - p.1 by omega]
theorem pfail_id {v : Vw} {f : Int} {p : PS} (hn : p.1 < 0) (ho : pOK p) : p = pfail v f p := (pfail_neg hn ho).symm
theorem pE_mvR {h : gH} (z : RI h) : ∀ {f : Nat} {b o : Int} {p : PS}, 0 ≤ (pE (vwR h) f b o p).1 → p.1 ≤ (pE (vwR h) f b o p).1 := by
  intro f
  induction f with
  | zero => intro b o p _; exact Int.le_refl _
  | succ f ih =>
    intro b o p hp
    have step : ∀ {b' o' c : Int}, 0 ≤ (pE (vwR h) f b' o' (ptk (vwR h) c p)).1 → p.1 ≤ (pE (vwR h) f b' o' (ptk (vwR h) c p)).1 := fun {b' o' c} q => by
      have i := ih q
      rcases Int.lt_or_le (ptk (vwR h) c p).1 0 with n | n
      · rw [pE_neg (vwR_ok h) n ptk_ok] at q
        omega
      · have e : (ptk (vwR h) c p).1 = p.1 + 1 := ptkR_next z n
        omega
    have no : ∀ {k : Int}, 1 ≤ k → ¬ 0 ≤ (pfail (vwR h) k p).1 := fun hk q => by
      have := pfailR_lt z hk (p := p)
      omega
    unfold pE at hp ⊢
    by_cases hb : b = 1
    · rw [if_pos hb] at hp ⊢
      by_cases h10 : (vwR h).1 p.1 = 10
      · rw [if_pos h10] at hp ⊢
        by_cases h6 : o = 6
        · rw [if_pos h6] at hp
          exact absurd hp (no (by decide))
        · rw [if_neg h6] at hp ⊢
          exact step hp
      · rw [if_neg h10] at hp ⊢
        by_cases hu : (vwR h).1 p.1 = 3 ∨ (45 ≤ (vwR h).1 p.1 ∧ (vwR h).1 p.1 ≤ 49)
        · rw [if_pos hu] at hp ⊢
          exact step hp
        · rw [if_neg hu] at hp
          exact absurd hp (no (by decide))
    · rw [if_neg hb] at hp ⊢
      by_cases h11 : (vwR h).1 p.1 = 11 ∧ 0 < o
      · rw [if_pos h11] at hp ⊢
        exact step hp
      · rw [if_neg h11] at hp ⊢
        by_cases h6 : 6 ≤ (vwR h).1 p.1 ∧ (vwR h).1 p.1 ≤ 9
        · rw [if_pos h6] at hp ⊢
          exact step hp
        · rw [if_neg h6] at hp ⊢
          by_cases h0 : 0 < o
          · rw [if_pos h0] at hp
            exact absurd hp (no (by decide))
          · rw [if_neg h0]
            exact Int.le_refl _
theorem pNots_mvR {h : gH} (z : RI h) : ∀ {f : Nat} {p : PS}, 0 ≤ (pNots (vwR h) f p).1 → p.1 ≤ (pNots (vwR h) f p).1 := by
  intro f
  induction f with
  | zero => intro p _; exact Int.le_refl _
  | succ f ih =>
    intro p hp
    unfold pNots at hp ⊢
    by_cases c : (vwR h).1 p.1 = 44
    · rw [if_pos c] at hp ⊢
      have i := ih hp
      rcases Int.lt_or_le (ptk (vwR h) 44 p).1 0 with n | n
      · rw [pNots_neg (vwR_ok h) n] at hp
        omega
      · have e : (ptk (vwR h) 44 p).1 = p.1 + 1 := ptkR_next z n
        omega
    · rw [if_neg c]
      exact Int.le_refl _
theorem pRel_mvR {h : gH} (z : RI h) {p : PS} (hp : 0 ≤ (pRel (vwR h) p).1) : p.1 ≤ (pRel (vwR h) p).1 := by
  unfold pRel at hp ⊢
  split at hp
  · rename_i c
    rw [if_pos c]
    have e : (ptk (vwR h) ((vwR h).1 p.1) p).1 = p.1 + 1 := ptkR_next z hp
    omega
  · have := pfailR_lt z (f := 1) (by decide) (p := p)
    omega
theorem pLit_mvR {h : gH} (z : RI h) {p : PS} (ho : pOK p) (hp : 0 ≤ (pLit (vwR h) p).1) : p.1 ≤ (pLit (vwR h) p).1 := by
  unfold pLit at hp ⊢
  have a1 := pE_mvR z hp
  have n1 : 0 ≤ (pRel (vwR h) (pExp (vwR h) (pNots (vwR h) (502 - p.1).toNat p))).1 := by
    rcases Int.lt_or_le (pRel (vwR h) (pExp (vwR h) (pNots (vwR h) (502 - p.1).toNat p))).1 0 with n | n
    · rw [pExp_neg (vwR_ok h) n pRel_ok] at hp
      exact hp
    · exact n
  have a2 := pRel_mvR z n1
  have o1 : pOK (pExp (vwR h) (pNots (vwR h) (502 - p.1).toNat p)) := pExp_ok (pNots_ok ho)
  have n2 : 0 ≤ (pExp (vwR h) (pNots (vwR h) (502 - p.1).toNat p)).1 := by
    rcases Int.lt_or_le (pExp (vwR h) (pNots (vwR h) (502 - p.1).toNat p)).1 0 with n | n
    · rw [pRel_neg (vwR_ok h) n o1] at n1
      exact n1
    · exact n
  have a3 := pE_mvR z n2
  have n3 : 0 ≤ (pNots (vwR h) (502 - p.1).toNat p).1 := by
    rcases Int.lt_or_le (pNots (vwR h) (502 - p.1).toNat p).1 0 with n | n
    · rw [pExp_neg (vwR_ok h) n (pNots_ok ho)] at n2
      exact n2
    · exact n
  have a4 := pNots_mvR z n3
  have e1 : (pExp (vwR h) (pRel (vwR h) (pExp (vwR h) (pNots (vwR h) (502 - p.1).toNat p)))).1 = (pE (vwR h) (502 - (pRel (vwR h) (pExp (vwR h) (pNots (vwR h) (502 - p.1).toNat p))).1).toNat 1 0 (pRel (vwR h) (pExp (vwR h) (pNots (vwR h) (502 - p.1).toNat p)))).1 := rfl
  have e2 : (pExp (vwR h) (pNots (vwR h) (502 - p.1).toNat p)).1 = (pE (vwR h) (502 - (pNots (vwR h) (502 - p.1).toNat p).1).toNat 1 0 (pNots (vwR h) (502 - p.1).toNat p)).1 := rfl
  omega
theorem pUn_ok {v : Vw} {p : PS} (h : pOK p) : pOK (pUn v p) := by
  unfold pUn
  split
  · exact ptk_ok
  · exact pfail_ok
theorem pRs_full {v : Vw} {p : PS} (h : v.1 p.1 = 38 ∨ v.1 p.1 = 40) : pRs v 0 p = pfail v 2 p := if_pos h
