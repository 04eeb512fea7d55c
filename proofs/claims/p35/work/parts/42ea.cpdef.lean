/-! THE FIT, as pure functions, and what is told of the rows of MOUTHS. -/
def atR (h : gH) (a i : Int) : Int := if 0 ≤ a ∧ 0 ≤ i ∧ i < (hN h a.toNat : Int) then hV h a.toNat i.toNat else 0
def mo (h : gH) (o : Int) (i : Nat) : Int := atR h (hV h o.toNat 5) i
def MBo (h : gH) (o : Int) : Prop := hK h o.toNat = 7 ∧ 0 ≤ hV h o.toNat 5 ∧ hK h (hV h o.toNat 5).toNat = 788 ∧ 0 ≤ hV h o.toNat 7 ∧ hV h o.toNat 7 ≤ 8 ∧ ∀ i : Nat, (i : Int) < hV h o.toNat 7 → 0 ≤ mo h o i ∧ mo h o i ≤ 59
theorem atR_fr {W : List (Nat × Nat)} {a b : gH} (le : hLe T0 a b) (f : hFr W a b) {x : Int} (hk : hK a x.toNat = 788) (c : vLoc W 788 0 = false) (i : Int) : atR b x i = atR a x i := by
  unfold atR
  rw [(le.2 _ (hK_lt hk (by decide))).2.1, f.2.2 _ 788 hk rfl i.toNat (by rw [vLoc_row (by decide) i.toNat 0]; exact c)]
noncomputable def cM (W : List (Nat × Nat)) : Bool := !(vLoc W 7 5) && (!(vLoc W 7 7) && !(vLoc W 788 0))
theorem mo_fr {W : List (Nat × Nat)} {a b : gH} (le : hLe T0 a b) (f : hFr W a b) (c : cM W = true) {o : Int} (z : MBo a o) : mo b o = mo a o := by
  unfold cM at c
  simp only [Bool.and_eq_true, Bool.not_eq_true'] at c
  funext i
  unfold mo
  rw [f.2.2 _ 7 z.1 rfl 5 c.1]
  exact atR_fr le f z.2.2.1 c.2.2 i
theorem MBo_n {W : List (Nat × Nat)} {a b : gH} (f : hFr W a b) (c : cM W = true) {o : Int} (z : MBo a o) : hV b o.toNat 7 = hV a o.toNat 7 := by
  unfold cM at c
  simp only [Bool.and_eq_true, Bool.not_eq_true'] at c
  exact f.2.2 _ 7 z.1 rfl 7 c.2.1
theorem MBo_fr {W : List (Nat × Nat)} {a b : gH} (le : hLe T0 a b) (f : hFr W a b) (c : cM W = true) {o : Int} (z : MBo a o) : MBo b o := by
  have e1 := mo_fr le f c z
  have e2 := MBo_n f c z
  have e3 : hV b o.toNat 5 = hV a o.toNat 5 := by
    unfold cM at c
    simp only [Bool.and_eq_true, Bool.not_eq_true'] at c
    exact f.2.2 _ 7 z.1 rfl 5 c.1
  unfold MBo
  rw [e1, e2, e3]
  exact ⟨kLe le z.1 rfl, z.2.1, kLe le z.2.2.1 rfl, z.2.2.2.1, z.2.2.2.2.1, z.2.2.2.2.2⟩
/-- 1 if one of the first n is near -/
def mtB (g : Nat → Int) (st sl : Int) : Nat → Int
  | 0 => 0
  | n + 1 => if -sl ≤ g n - st ∧ g n - st ≤ sl then 1 else mtB g st sl n
theorem mtB_zero {g : Nat → Int} {st sl : Int} : mtB g st sl 0 = 0 := rfl
theorem mtB_hit {g : Nat → Int} {st sl : Int} {i : Nat} (h : -sl ≤ g i - st ∧ g i - st ≤ sl) : ∀ {n : Nat}, i < n → mtB g st sl n = 1 := by
  intro n
  induction n with
  | zero => intro hi; exact absurd hi (Nat.not_lt_zero _)
  | succ n ih =>
    intro hi
    show (if -sl ≤ g n - st ∧ g n - st ≤ sl then (1 : Int) else mtB g st sl n) = 1
    by_cases e : i = n
    · subst e
      rw [if_pos h]
    · split
      · rfl
      · exact ih (by omega)
theorem mtB_no {g : Nat → Int} {st sl : Int} {n : Nat} (h : ¬ (-sl ≤ g n - st ∧ g n - st ≤ sl)) : mtB g st sl (n + 1) = mtB g st sl n := if_neg h
theorem mtB_yes {g : Nat → Int} {st sl : Int} {n : Nat} (h : -sl ≤ g n - st ∧ g n - st ≤ sl) : mtB g st sl (n + 1) = 1 := if_pos h
theorem mtB_01 {g : Nat → Int} {st sl : Int} (n : Nat) : mtB g st sl n = 0 ∨ mtB g st sl n = 1 := by
  induction n with
  | zero => exact .inl rfl
  | succ n ih =>
    by_cases c : -sl ≤ g n - st ∧ g n - st ≤ sl
    · exact .inr (mtB_yes c)
    · rw [mtB_no c]
      exact ih
theorem mtB_congr {g g' : Nat → Int} {st sl : Int} : ∀ {n : Nat}, (∀ i, i < n → g i = g' i) → mtB g st sl n = mtB g' st sl n := by
  intro n
  induction n with
  | zero => intro _; rfl
  | succ n ih =>
    intro h
    unfold mtB
    rw [h n (by omega), ih (fun i hi => h i (by omega))]
def lkB (f g : Nat → Int) (n2 : Nat) (b t sl : Int) : Nat → Int
  | 0 => 0
  | n + 1 => lkB f g n2 b t sl n + (if mtB g (b + f n * t / 10) sl n2 = 0 then 1 else 0)
theorem lkB_zero {f g : Nat → Int} {n2 : Nat} {b t sl : Int} : lkB f g n2 b t sl 0 = 0 := rfl
theorem lkB_step {f g : Nat → Int} {n2 : Nat} {b t sl : Int} {n : Nat} : lkB f g n2 b t sl (n + 1) = lkB f g n2 b t sl n + (if mtB g (b + f n * t / 10) sl n2 = 0 then 1 else 0) := rfl
theorem lkB_in {f g : Nat → Int} {n2 : Nat} {b t sl : Int} (n : Nat) : 0 ≤ lkB f g n2 b t sl n ∧ lkB f g n2 b t sl n ≤ n := by
  induction n with
  | zero => exact ⟨Int.le_refl _, Int.le_refl _⟩
  | succ n ih =>
    rw [lkB_step]
    split <;> omega
theorem lkB_congr {f f' g g' : Nat → Int} {n2 : Nat} {b t sl : Int} (hg : ∀ i, i < n2 → g i = g' i) : ∀ {n : Nat}, (∀ i, i < n → f i = f' i) → lkB f g n2 b t sl n = lkB f' g' n2 b t sl n := by
  intro n
  induction n with
  | zero => intro _; rfl
  | succ n ih =>
    intro h
    rw [lkB_step, lkB_step, h n (by omega), ih (fun i hi => h i (by omega)), mtB_congr hg]
abbrev FQ := Int × Int × Int
def fs (L : Int → Int → Int) (b t : Int) (q : FQ) : FQ := if L b t < q.1 then (L b t, b, t) else q
def frs (L : Int → Int → Int) (b t : Int) (q : FQ) : FQ := if ¬ q.1 = -1 ∧ q.1 ≤ L b t then q else (L b t, b, t)
def ft (L : Int → Int → Int) (b : Int) (q : FQ) : FQ := fs L b 11 (fs L b 9 (fs L b 10 q))
def gk (L : Int → Int → Int) (b : Int) : Nat → FQ → FQ
  | 0, q => q
  | 1, q => frs L b 10 q
  | 2, q => frs L b 9 (frs L b 10 q)
  | _, q => frs L b 11 (frs L b 9 (frs L b 10 q))
def ftr (L : Int → Int → Int) (b : Int) (q : FQ) : FQ := frs L b 11 (frs L b 9 (frs L b 10 q))
def ff (L : Int → Int → Int) : Nat → FQ → FQ
  | 0, q => q
  | n + 1, q => ft L n (ft L (-n) (ff L n q))
def ffr (L : Int → Int → Int) : Nat → FQ → FQ
  | 0, q => q
  | n + 1, q => ftr L n (ftr L (-n) (ffr L n q))
theorem ff_succ {L : Int → Int → Int} {n : Nat} {q : FQ} : ff L (n + 1) q = ft L n (ft L (-n) (ff L n q)) := rfl
def fat (L : Int → Int → Int) (far : Nat) (sg : Int) (q : FQ) : FQ := if sg = -1 then ffr L far q else if sg = 1 then ftr L (-far) (ffr L far q) else ffr L (far + 1) q
theorem frs_fs {L : Int → Int → Int} {b t : Int} {q : FQ} (h : 0 ≤ q.1) : frs L b t q = fs L b t q := by
  unfold frs fs
  by_cases c : L b t < q.1
  · rw [if_pos c, if_neg (by omega)]
  · rw [if_neg c, if_pos (by omega)]
theorem fs_nn {L : Int → Int → Int} {b t : Int} {q : FQ} (hL : 0 ≤ L b t) (h : 0 ≤ q.1) : 0 ≤ (fs L b t q).1 := by
  unfold fs
  split
  · exact hL
  · exact h
theorem ft_nn {L : Int → Int → Int} (hL : ∀ b t, 0 ≤ L b t ∧ L b t ≤ 8) {b : Int} {q : FQ} (h : 0 ≤ q.1) : 0 ≤ (ft L b q).1 := fs_nn (hL _ _).1 (fs_nn (hL _ _).1 (fs_nn (hL _ _).1 h))
theorem ftr_ft {L : Int → Int → Int} (hL : ∀ b t, 0 ≤ L b t ∧ L b t ≤ 8) {b : Int} {q : FQ} (h : 0 ≤ q.1) : ftr L b q = ft L b q := by
  unfold ftr ft
  rw [frs_fs h, frs_fs (fs_nn (hL _ _).1 h), frs_fs (fs_nn (hL _ _).1 (fs_nn (hL _ _).1 h))]
theorem ff_ffr {L : Int → Int → Int} (hL : ∀ b t, 0 ≤ L b t ∧ L b t ≤ 8) {x y x' y' : Int} : ∀ n : Nat, ffr L (n + 1) (-1, x, y) = ff L (n + 1) (9, x', y') ∧ 0 ≤ (ff L (n + 1) (9, x', y')).1 := by
  intro n
  induction n with
  | zero =>
    have h0 : frs L (-((0 : Nat) : Int)) 10 (-1, x, y) = fs L (-((0 : Nat) : Int)) 10 (9, x', y') := by
      unfold frs fs
      rw [if_neg (fun z => z.1 rfl), if_pos (show L _ 10 < (9 : Int) by have := (hL (-((0 : Nat) : Int)) 10).2; omega)]
    have n0 : 0 ≤ (fs L (-((0 : Nat) : Int)) 10 (9, x', y')).1 := fs_nn (hL _ _).1 (show (0 : Int) ≤ 9 by decide)
    have h1 : ftr L (-((0 : Nat) : Int)) (-1, x, y) = ft L (-((0 : Nat) : Int)) (9, x', y') := by
      unfold ftr ft
      rw [h0, frs_fs n0, frs_fs (fs_nn (hL _ _).1 n0)]
    have n1 : 0 ≤ (ft L (-((0 : Nat) : Int)) (9, x', y')).1 := ft_nn hL (show (0 : Int) ≤ 9 by decide)
    show ftr L ((0 : Nat) : Int) (ftr L (-((0 : Nat) : Int)) (-1, x, y)) = ft L ((0 : Nat) : Int) (ft L (-((0 : Nat) : Int)) (9, x', y')) ∧ 0 ≤ (ft L ((0 : Nat) : Int) (ft L (-((0 : Nat) : Int)) (9, x', y'))).1
    rw [h1, ftr_ft hL n1]
    exact ⟨rfl, ft_nn hL n1⟩
  | succ n ih =>
    show ftr L ((n + 1 : Nat) : Int) (ftr L (-((n + 1 : Nat) : Int)) (ffr L (n + 1) (-1, x, y))) = ft L ((n + 1 : Nat) : Int) (ft L (-((n + 1 : Nat) : Int)) (ff L (n + 1) (9, x', y'))) ∧ 0 ≤ (ft L ((n + 1 : Nat) : Int) (ft L (-((n + 1 : Nat) : Int)) (ff L (n + 1) (9, x', y')))).1
    have n1 := ft_nn hL (b := -((n + 1 : Nat) : Int)) ih.2
    rw [ih.1, ftr_ft hL ih.2, ftr_ft hL n1]
    exact ⟨rfl, ft_nn hL n1⟩
def lkO (h : gH) (o q sl : Int) (b t : Int) : Int := lkB (mo h o) (mo h q) (hV h q.toNat 7).toNat b t sl (hV h o.toNat 7).toNat
theorem lkO_fr {W : List (Nat × Nat)} {a b : gH} (le : hLe T0 a b) (f : hFr W a b) (c : cM W = true) {o q sl : Int} (z : MBo a o) (y : MBo a q) : lkO b o q sl = lkO a o q sl := by
  funext s t
  unfold lkO
  rw [mo_fr le f c z, mo_fr le f c y, MBo_n f c z, MBo_n f c y]
def lkR (h : gH) (x y sl : Int) (b t : Int) : Int := lkB (fun i => hV h 339 (8 * x.toNat + i)) (fun i => hV h 339 (8 * y.toNat + i)) (hV h 338 y.toNat).toNat b t sl (hV h 338 x.toNat).toNat
def fitR (q : FQ) (w : Int) : Int := if w = 0 then q.1 else if w = 1 then q.2.1 else if w = 2 then q.2.2 else -1
def FB (h : gH) : Prop := ∀ s : Nat, (s : Int) < hV h 23 1 → 0 ≤ hV h 24 s → MBo h (hV h 24 s)
def FTc (h : gH) (x y sl : Int) : Prop := (0 ≤ x ∧ x < hV h 23 1 ∧ 0 ≤ hV h 24 x.toNat ∧ KV h x = 2) ∧ (0 ≤ y ∧ y < hV h 23 1 ∧ 0 ≤ hV h 24 y.toNat ∧ KV h y = 2) ∧ ¬ x = y ∧ 0 ≤ sl ∧ sl ≤ 9
def FTm (h : gH) (x y sl w : Int) : Prop := (0 ≤ x ∧ x < hV h 285 64 ∧ hV h 328 x.toNat = 2) ∧ (0 ≤ y ∧ y < hV h 285 64 ∧ hV h 328 y.toNat = 2) ∧ ¬ x = y ∧ 0 ≤ sl ∧ sl ≤ 9 ∧ 0 ≤ w ∧ w ≤ 2
def sgf (s f : Int) : Int := if s = -1 then -f else f
theorem lkR_fr {W : List (Nat × Nat)} {a b : gH} (f : hFr W a b) (c : vFreeR W 338 = true) (d : vFreeR W 339 = true) {x y sl : Int} : lkR b x y sl = lkR a x y sl := by
  funext s t
  unfold lkR
  rw [fRow f 338 c, fRow f 339 d]
theorem gk_step {L : Int → Int → Int} {b t : Int} {n : Nat} {q : FQ} (h : (n = 0 ∧ t = 10) ∨ (n = 1 ∧ t = 9) ∨ (n = 2 ∧ t = 11)) : gk L b (n + 1) q = frs L b t (gk L b n q) := by
  rcases h with ⟨h, k⟩ | ⟨h, k⟩ | ⟨h, k⟩ <;> subst h <;> subst k <;> rfl
/-- a new object with its rows -/
def NEWo (h : gH) (o : Int) : Prop := hV h o.toNat 4 = o + 1 ∧ hV h o.toNat 5 = o + 2 ∧ hK h (o + 1).toNat = 780 ∧ hN h (o + 1).toNat = 240 ∧ hK h (o + 2).toNat = 788 ∧ hN h (o + 2).toNat = 8 ∧ ∀ i : Nat, hV h (o + 1).toNat i = 0
theorem NEWo_up {a b : gH} {o p i w : Int} (f : hUpd b a p i w) (z : NEWo a o) (h0 : 0 ≤ o) (h1 : ¬ p = o ∨ (¬ i = 4 ∧ ¬ i = 5)) (h2 : ¬ p = o + 1) : NEWo b o := by
  obtain ⟨z1, z2, z3, z4, z5, z6, z7⟩ := z
  have s : ∀ j : Nat, j = 4 ∨ j = 5 → hV b o.toNat j = hV a o.toNat j := fun j hj => by
    rcases h1 with h1 | h1
    · exact uPlace f _ _ (by omega)
    · exact uSlot f _ _ (by omega)
  refine ⟨(s 4 (.inl rfl)).trans z1, (s 5 (.inr rfl)).trans z2, (f.2.2 _).1.trans z3, (f.2.2 _).2.trans z4, (f.2.2 _).1.trans z5, (f.2.2 _).2.trans z6, fun j => (uPlace f _ _ (by omega)).trans (z7 j)⟩
noncomputable def cNW (W : List (Nat × Nat)) : Bool := !(vLoc W 7 4) && (!(vLoc W 7 5) && !(vLoc W 780 0))
theorem NEWo_fr {W : List (Nat × Nat)} {a b : gH} (le : hLe T0 a b) (f : hFr W a b) (c : cNW W = true) {o : Int} (k : hK a o.toNat = 7) (z : NEWo a o) : NEWo b o := by
  unfold cNW at c
  simp only [Bool.and_eq_true, Bool.not_eq_true'] at c
  obtain ⟨z1, z2, z3, z4, z5, z6, z7⟩ := z
  refine ⟨(f.2.2 _ 7 k rfl 4 c.1).trans z1, (f.2.2 _ 7 k rfl 5 c.2.1).trans z2, kLe le z3 rfl, (le.2 _ (hK_lt z3 (by decide))).2.1.trans z4, kLe le z5 rfl, (le.2 _ (hK_lt z5 (by decide))).2.1.trans z6, fun j => (f.2.2 _ 780 z3 rfl j (by rw [vLoc_row (by decide) j 0]; exact c.2.2)).trans (z7 j)⟩
def ADQ (r : Int) (a b : gH) : Prop := r = -1 ∨ ((a.length : Int) ≤ hV b 24 r.toNat ∧ NEWo b (hV b 24 r.toNat))
theorem ADQ_from {r : Int} {a a' b : gH} (e3 : a'.length = a.length) (h : ADQ r a' b) : ADQ r a b := by
  unfold ADQ at h ⊢
  rw [e3] at h
  exact h
def putR (a0 a1 a2 : Int) (a b : gH) : Prop := ∀ o i : Nat, hV b o i = if (o : Int) = a0 ∧ (i : Int) = a1 ∧ (i : Int) < (hN a o : Int) then a2 else hV a o i
theorem putR_same {a0 a1 a2 : Int} {a : gH} (h : a0 < 0 ∨ a1 < 0 ∨ (hN a a0.toNat : Int) ≤ a1) : putR a0 a1 a2 a a := fun o i => by
  rw [if_neg]
  intro z
  obtain ⟨z1, z2, z3⟩ := z
  rcases h with h | h | h
  · omega
  · omega
  · rw [show a0.toNat = o by omega] at h
    omega
theorem putR_upd {a0 a1 a2 : Int} {a b : gH} (f : hUpd b a a0 a1 a2) (h : a1 < (hN a a0.toNat : Int)) : putR a0 a1 a2 a b := fun o i => by
  rw [f.1 o i]
  by_cases c : (o : Int) = a0 ∧ (i : Int) = a1
  · rw [if_pos c, if_pos ⟨c.1, c.2, by rw [show a0.toNat = o by omega] at h; omega⟩]
  · rw [if_neg c, if_neg (fun z => c ⟨z.1, z.2.1⟩)]
def RMo (h : gH) (s : Nat) : Int := hV h (hV h 24 s).toNat 5
/-- the rows of MOUTHS of the class's sounds, and what stands there -/
def CMr (h : gH) : Prop := (∀ s : Nat, (s : Int) < hV h 23 1 → 0 ≤ RMo h s ∧ hK h (RMo h s).toNat = 788 ∧ hN h (RMo h s).toNat = 8 ∧ ∀ i : Nat, (i : Int) < MV h s → hV h (RMo h s).toNat i = hV h 339 (8 * s + i)) ∧ ∀ s t : Nat, (s : Int) < hV h 23 1 → (t : Int) < hV h 23 1 → RMo h s = RMo h t → s = t
/-- the counts' bounds, the codes' bounds -/
def CB (h : gH) : Prop := ∀ s : Nat, (s : Int) < hV h 23 1 → 0 ≤ MV h s ∧ MV h s ≤ 8 ∧ ∀ i : Nat, (i : Int) < MV h s → 0 ≤ hV h 339 (8 * s + i) ∧ hV h 339 (8 * s + i) ≤ 59
def FN (h : gH) : Prop := ∀ s : Nat, (s : Int) < hV h 23 1 → 0 ≤ RMo h s ∧ hK h (RMo h s).toNat = 788 ∧ hN h (RMo h s).toNat = 8
theorem CMr_FN {h : gH} (z : CMr h) : FN h := fun s hs => ⟨(z.1 s hs).1, (z.1 s hs).2.1, (z.1 s hs).2.2.1⟩
theorem mo_at {h : gH} (z : CMr h) {s : Nat} (hs : (s : Int) < hV h 23 1) {i : Nat} (h8 : i < 8) (hi : (i : Int) < MV h s) : mo h (hV h 24 s) i = hV h 339 (8 * s + i) := by
  obtain ⟨y1, y2, y3, y4⟩ := z.1 s hs
  unfold mo atR
  have e : (if 0 ≤ RMo h s ∧ 0 ≤ (i : Int) ∧ (i : Int) < (hN h (RMo h s).toNat : Int) then hV h (RMo h s).toNat (i : Int).toNat else 0) = hV h (RMo h s).toNat (i : Int).toNat := if_pos ⟨y1, by omega, by omega⟩
  refine Eq.trans e ?_
  rw [Int.toNat_natCast]
  exact y4 i hi
theorem CMr_FB {h : gH} (w : CB h) (p : CP h) (z : CMr h) : FB h := fun s hs h0 => by
  obtain ⟨y1, y2, y3, y4⟩ := z.1 s hs
  obtain ⟨x1, x2, x3, x4⟩ := p.2.1 s hs
  obtain ⟨w1, w2, w3⟩ := w s hs
  have mv : MV h s = hV h (hV h 24 s).toNat 7 := by
    unfold MV
    rw [Int.toNat_natCast]
  refine ⟨x2, y1, y2, by rw [← mv]; exact w1, by rw [← mv]; exact w2, fun i hi => ?_⟩
  rw [← mv] at hi
  rw [mo_at z hs (by omega) hi]
  exact w3 i hi
noncomputable def cMf (W : List (Nat × Nat)) : Bool := vFree W 23 1 && (vFreeR W 24 && (vFreeR W 339 && (!(vLoc W 7 5) && (!(vLoc W 7 7) && !(vLoc W 788 0)))))
theorem CMr_fr {W : List (Nat × Nat)} {a b : gH} (le : hLe T0 a b) (f : hFr W a b) (c : cMf W = true) (p : CP a) (z : CMr a) : CMr b := by
  unfold cMf at c
  simp only [Bool.and_eq_true, Bool.not_eq_true'] at c
  obtain ⟨c1, c2, c3, c4, c5, c6⟩ := c
  have e1 : hV b 23 1 = hV a 23 1 := f.1 23 1 c1
  have e2 : hV b 24 = hV a 24 := fRow f 24 c2
  have e3 : hV b 339 = hV a 339 := fRow f 339 c3
  have er : ∀ s : Nat, (s : Int) < hV a 23 1 → RMo b s = RMo a s ∧ MV b s = MV a s := fun s hs => by
    have k := (p.2.1 s hs).2.1
    unfold RMo MV
    rw [e2, Int.toNat_natCast]
    exact ⟨f.2.2 _ 7 k rfl 5 c4, f.2.2 _ 7 k rfl 7 c5⟩
  refine ⟨fun s hs => ?_, fun s t hs ht he => ?_⟩
  · rw [e1] at hs
    obtain ⟨y1, y2, y3, y4⟩ := z.1 s hs
    rw [(er s hs).1, (er s hs).2, e3]
    refine ⟨y1, kLe le y2 rfl, (le.2 _ (hK_lt y2 (by decide))).2.1.trans y3, fun i hi => ?_⟩
    exact (f.2.2 _ 788 y2 rfl i (by rw [vLoc_row (by decide) i 0]; exact c6)).trans (y4 i hi)
  · rw [e1] at hs ht
    rw [(er s hs).1, (er t ht).1] at he
    exact z.2 s t hs ht he
noncomputable def cMa (W : List (Nat × Nat)) : Bool := vFreeR W 339 && (!(vLoc W 7 5) && (!(vLoc W 7 7) && !(vLoc W 788 0)))
theorem CMr_add {W V : List (Nat × Nat)} {a b c : gH} {r k sz : Int} {C : Prop} (p : CP a) (z : CMr a) (le1 : hLe T0 a b) (f1 : hFr W a b) (c1 : cMa W = true) (q : (C ∧ ADDp r k sz a b) ∨ (¬ C ∧ r = -1 ∧ SAMEp a b)) (d : ADQ r a b) (le2 : hLe T0 b c) (f2 : hFr V b c) (c2 : cMf V = true) (pc : CP c) : CMr c := by
  have base : CMr b := by
    unfold cMa at c1
    simp only [Bool.and_eq_true, Bool.not_eq_true'] at c1
    obtain ⟨c3, c4, c5, c6⟩ := c1
    have e3 : hV b 339 = hV a 339 := fRow f1 339 c3
    have old : ∀ s : Nat, (s : Int) < hV a 23 1 → hV b 24 s = hV a 24 s → RMo b s = RMo a s ∧ MV b s = MV a s := fun s hs he => by
      have k := (p.2.1 s hs).2.1
      unfold RMo MV
      rw [Int.toNat_natCast, he]
      exact ⟨f1.2.2 _ 7 k rfl 5 c4, f1.2.2 _ 7 k rfl 7 c5⟩
    have keep : ∀ s : Nat, (s : Int) < hV a 23 1 → hV b 24 s = hV a 24 s → 0 ≤ RMo b s ∧ hK b (RMo b s).toNat = 788 ∧ hN b (RMo b s).toNat = 8 ∧ ∀ i : Nat, (i : Int) < MV b s → hV b (RMo b s).toNat i = hV b 339 (8 * s + i) := fun s hs he => by
      obtain ⟨y1, y2, y3, y4⟩ := z.1 s hs
      rw [(old s hs he).1, (old s hs he).2, e3]
      exact ⟨y1, kLe le1 y2 rfl, (le1.2 _ (hK_lt y2 (by decide))).2.1.trans y3, fun i hi => (f1.2.2 _ 788 y2 rfl i (by rw [vLoc_row (by decide) i 0]; exact c6)).trans (y4 i hi)⟩
    have same : hV b 23 1 = hV a 23 1 → hV b 24 = hV a 24 → CMr b := fun w1 w2 => by
      refine ⟨fun s hs => ?_, fun s t hs ht he => ?_⟩
      · rw [w1] at hs
        exact keep s hs (by rw [w2])
      · rw [w1] at hs ht
        rw [(old s hs (by rw [w2])).1, (old t ht (by rw [w2])).1] at he
        exact z.2 s t hs ht he
    rcases q with ⟨_, q⟩ | ⟨_, _, q⟩
    · rcases q with ⟨_, _, q1, q2⟩ | ⟨q1, q0, q2, q3, q4, q5, q6, q7, q8, q9, q10⟩
      · exact same q1 q2
      · rcases d with d | ⟨d1, d2⟩
        · omega
        obtain ⟨n1, n2, n3, n4, n5, n6, n7⟩ := d2
        have hn : ∀ s : Nat, (s : Int) = r → hV b 24 s = hV b 24 r.toNat := fun s hs => by rw [show r.toNat = s by omega]
        have ho : ∀ s : Nat, (s : Int) < r → hV b 24 s = hV a 24 s := fun s hs => by rw [q4, uF_at, if_neg (by omega)]
        have far : ∀ t : Nat, (t : Int) < r → ¬ RMo b t = hV b 24 r.toNat + 2 := fun t ht he => by
          have k := z.1 t (by omega)
          have := hK_lt k.2.1 (by decide)
          rw [(old t (by omega) (ho t ht)).1] at he
          omega
        refine ⟨fun s hs => ?_, fun s t hs ht he => ?_⟩
        · rw [q3] at hs
          by_cases hsr : (s : Int) = r
          · have m0 : MV b s = 0 := by
              have : MV b s = MV b r := by
                unfold MV
                rw [Int.toNat_natCast, hn s hsr]
              rw [this]
              exact q8
            have rm : RMo b s = hV b 24 r.toNat + 2 := by
              unfold RMo
              rw [hn s hsr]
              exact n2
            rw [m0, rm]
            exact ⟨by omega, n5, n6, fun i hi => by omega⟩
          · exact keep s (by omega) (ho s (by omega))
        · rw [q3] at hs ht
          have rmr : ∀ s : Nat, (s : Int) = r → RMo b s = hV b 24 r.toNat + 2 := fun s hsr => by
            unfold RMo
            rw [hn s hsr]
            exact n2
          by_cases hsr : (s : Int) = r
          · by_cases htr : (t : Int) = r
            · omega
            · rw [rmr s hsr] at he
              exact absurd he.symm (far t (by omega))
          · by_cases htr : (t : Int) = r
            · rw [rmr t htr] at he
              exact absurd he (far s (by omega))
            · rw [(old s (by omega) (ho s (by omega))).1, (old t (by omega) (ho t (by omega))).1] at he
              exact z.2 s t (by omega) (by omega) he
    · exact same q.1 q.2
  -- the reference's turn
  unfold cMf at c2
  simp only [Bool.and_eq_true, Bool.not_eq_true'] at c2
  obtain ⟨d1, d2, d3, d4, d5, d6⟩ := c2
  have e1 : hV c 23 1 = hV b 23 1 := f2.1 23 1 d1
  have e2 : hV c 24 = hV b 24 := fRow f2 24 d2
  have e3 : hV c 339 = hV b 339 := fRow f2 339 d3
  have kb : ∀ s : Nat, (s : Int) < hV b 23 1 → hK b (hV b 24 s).toNat = 7 := fun s hs => by
    rcases q with ⟨_, q⟩ | ⟨_, _, q⟩
    · rcases q with ⟨_, _, q1, q2⟩ | ⟨q1, q0, q2, q3, q4, q5, q6, _⟩
      · rw [q2]
        rw [q1] at hs
        exact kLe le1 (p.2.1 s hs).2.1 rfl
      · by_cases hsr : (s : Int) = r
        · rw [show s = r.toNat by omega]
          exact q6
        · rw [q4, uF_at, if_neg hsr]
          exact kLe le1 (p.2.1 s (by omega)).2.1 rfl
    · rw [q.2]
      rw [q.1] at hs
      exact kLe le1 (p.2.1 s hs).2.1 rfl
  have er : ∀ s : Nat, (s : Int) < hV b 23 1 → RMo c s = RMo b s ∧ MV c s = MV b s := fun s hs => by
    have k := kb s hs
    unfold RMo MV
    rw [e2, Int.toNat_natCast]
    exact ⟨f2.2.2 _ 7 k rfl 5 d4, f2.2.2 _ 7 k rfl 7 d5⟩
  refine ⟨fun s hs => ?_, fun s t hs ht he => ?_⟩
  · rw [e1] at hs
    obtain ⟨y1, y2, y3, y4⟩ := base.1 s hs
    rw [(er s hs).1, (er s hs).2, e3]
    exact ⟨y1, kLe le2 y2 rfl, (le2.2 _ (hK_lt y2 (by decide))).2.1.trans y3, fun i hi => (f2.2.2 _ 788 y2 rfl i (by rw [vLoc_row (by decide) i 0]; exact d6)).trans (y4 i hi)⟩
  · rw [e1] at hs ht
    rw [(er s hs).1, (er t ht).1] at he
    exact base.2 s t hs ht he
/-- a mouth more: the class's row, the reference's -/
def MRp (q y : Int) (a b : gH) : Prop := ∀ o : Nat, hK a o = 788 → ∀ i : Nat, hV b o i = if (o : Int) = hV a q.toNat 5 ∧ (i : Int) = hV a q.toNat 7 then y else hV a o i
def MRs (a b : gH) : Prop := ∀ o : Nat, hK a o = 788 → ∀ i : Nat, hV b o i = hV a o i
noncomputable def cMm (W : List (Nat × Nat)) : Bool := vFree W 23 1 && (vFreeR W 24 && (vFreeR W 339 && (vFreeR W 338 && !(vLoc W 7 5))))
noncomputable def cMn (W : List (Nat × Nat)) : Bool := vFree W 23 1 && (vFreeR W 24 && (!(vLoc W 7 5) && (!(vLoc W 7 7) && !(vLoc W 788 0))))
theorem CMr_mouth {W V : List (Nat × Nat)} {a b c : gH} {x y : Int} {C D : Prop} (w : CB a) (p : CP a) (z : CMr a) (le1 : hLe T0 a b) (f1 : hFr W a b) (c1 : cMm W = true) (q1 : (C ∧ MRp (hV a 24 x.toNat) y a b) ∨ (¬ C ∧ MRs a b)) (le2 : hLe T0 b c) (f2 : hFr V b c) (c2 : cMn V = true) (q2 : (D ∧ hV c 339 = uF (hV b 339) (8 * x + hV b 338 x.toNat) y ∧ hV c 338 = uF (hV b 338) x (hV b 338 x.toNat + 1)) ∨ (¬ D ∧ hV c 339 = hV b 339 ∧ hV c 338 = hV b 338)) (iff : C ↔ D) (hx : C → 0 ≤ x ∧ x < hV a 23 1) (hd7 : D → hV b 338 x.toNat ≤ 7) (pc : CP c) : CMr c := by
  unfold cMm at c1
  unfold cMn at c2
  simp only [Bool.and_eq_true, Bool.not_eq_true'] at c1 c2
  obtain ⟨c11, c12, c13, c14, c15⟩ := c1
  obtain ⟨c21, c22, c23, c24, c25⟩ := c2
  have e1 : hV c 23 1 = hV a 23 1 := (f2.1 23 1 c21).trans (f1.1 23 1 c11)
  have g2 : hV b 24 = hV a 24 := fRow f1 24 c12
  have e2 : hV c 24 = hV a 24 := (fRow f2 24 c22).trans g2
  have b3 : hV b 339 = hV a 339 := fRow f1 339 c13
  have b4 : hV b 338 = hV a 338 := fRow f1 338 c14
  rw [b3, b4] at q2
  rw [b4] at hd7
  have er : ∀ s : Nat, (s : Int) < hV a 23 1 → RMo c s = RMo a s := fun s hs => by
    have k := (p.2.1 s hs).2.1
    unfold RMo
    rw [e2]
    exact (f2.2.2 _ 7 (kLe le1 k rfl) rfl 5 c23).trans (f1.2.2 _ 7 k rfl 5 c15)
  have row : ∀ s : Nat, (s : Int) < hV a 23 1 → ∀ i : Nat, hV c (RMo a s).toNat i = hV b (RMo a s).toNat i := fun s hs i => f2.2.2 _ 788 (kLe le1 (z.1 s hs).2.1 rfl) rfl i (by rw [vLoc_row (by decide) i 0]; exact c25)
  refine ⟨fun s hs => ?_, fun s t hs ht he => ?_⟩
  · rw [e1] at hs
    obtain ⟨y1, y2, y3, y4⟩ := z.1 s hs
    have mc : MV c s = hV c 338 s := (pc.2.1 s (by rw [e1]; exact hs)).2.2.2
    have ma : MV a s = hV a 338 s := (p.2.1 s hs).2.2.2
    have w1 : (0 : Int) ≤ hV a 338 s ∧ hV a 338 s ≤ 8 := by
      have := w s hs
      rw [ma] at this
      exact ⟨this.1, this.2.1⟩
    rw [er s hs]
    refine ⟨y1, kLe le2 (kLe le1 y2 rfl) rfl, (le2.2 _ (hK_lt (kLe le1 y2 rfl) (by decide))).2.1.trans ((le1.2 _ (hK_lt y2 (by decide))).2.1.trans y3), fun i hi => ?_⟩
    rw [row s hs i]
    rw [mc] at hi
    rcases q1 with ⟨hc, q1⟩ | ⟨hc, q1⟩
    · rcases q2 with ⟨hd, q2, q3⟩ | ⟨hd, _⟩
      · have hxx := hx hc
        have h7 := hd7 hd
        have w2 : (0 : Int) ≤ hV a 338 x.toNat ∧ hV a 338 x.toNat ≤ 8 := by
          have := w x.toNat (by omega)
          rw [(p.2.1 x.toNat (by omega)).2.2.2] at this
          exact ⟨this.1, this.2.1⟩
        have hmx : hV a (hV a 24 x.toNat).toNat 7 = hV a 338 x.toNat := by
          have k := (p.2.1 x.toNat (by omega)).2.2.2
          unfold MV at k
          rw [Int.toNat_natCast] at k
          exact k
        rw [q3, uF_at] at hi
        rw [q1 _ y2 i, q2, uF_at, hmx]
        by_cases hsx : (s : Int) = x
        · have xs : x.toNat = s := by omega
          have rx : ((RMo a s).toNat : Int) = hV a (hV a 24 x.toNat).toNat 5 := by
            rw [Int.toNat_of_nonneg y1, xs]
            rfl
          rw [if_pos hsx] at hi
          by_cases hi2 : (i : Int) = hV a 338 x.toNat
          · rw [if_pos ⟨rx, hi2⟩, if_pos (by omega)]
          · rw [if_neg (fun v => hi2 v.2), if_neg (by omega)]
            exact y4 i (by rw [ma]; rw [xs] at hi hi2; omega)
        · have rx : ¬ ((RMo a s).toNat : Int) = hV a (hV a 24 x.toNat).toNat 5 := fun v => hsx (by
            rw [Int.toNat_of_nonneg y1] at v
            have := z.2 s x.toNat hs (by omega) v
            omega)
          rw [if_neg hsx] at hi
          rw [if_neg (fun v => rx v.1), if_neg (by omega)]
          exact y4 i (by rw [ma]; exact hi)
      · exact absurd (iff.mp hc) hd
    · rcases q2 with ⟨hd, _⟩ | ⟨_, q2, q3⟩
      · exact absurd (iff.mpr hd) hc
      · rw [q3] at hi
        rw [q1 _ y2 i, q2]
        exact y4 i (by rw [ma]; exact hi)
  · rw [e1] at hs ht
    rw [er s hs, er t ht] at he
    exact z.2 s t hs ht he
theorem CB_fr {W : List (Nat × Nat)} {a b : gH} (f : hFr W a b) (c : cMf W = true) (p : CP a) (z : CB a) : CB b := by
  unfold cMf at c
  simp only [Bool.and_eq_true, Bool.not_eq_true'] at c
  obtain ⟨c1, c2, c3, c4, c5, c6⟩ := c
  have e1 : hV b 23 1 = hV a 23 1 := f.1 23 1 c1
  have e2 : hV b 24 = hV a 24 := fRow f 24 c2
  have e3 : hV b 339 = hV a 339 := fRow f 339 c3
  intro s hs
  rw [e1] at hs
  have k := (p.2.1 s hs).2.1
  have em : MV b s = MV a s := by
    unfold MV
    rw [e2, Int.toNat_natCast]
    exact f.2.2 _ 7 k rfl 7 c5
  rw [em, e3]
  exact z s hs
theorem CB_add {W V : List (Nat × Nat)} {a b c : gH} {r k sz : Int} {C : Prop} (p : CP a) (z : CB a) (le1 : hLe T0 a b) (f1 : hFr W a b) (c1 : cMa W = true) (q : (C ∧ ADDp r k sz a b) ∨ (¬ C ∧ r = -1 ∧ SAMEp a b)) (f2 : hFr V b c) (c2 : cMf V = true) : CB c := by
  unfold cMa at c1
  simp only [Bool.and_eq_true, Bool.not_eq_true'] at c1
  obtain ⟨c3, c4, c5, c6⟩ := c1
  unfold cMf at c2
  simp only [Bool.and_eq_true, Bool.not_eq_true'] at c2
  obtain ⟨d1, d2, d3, d4, d5, d6⟩ := c2
  have e1 : hV c 23 1 = hV b 23 1 := f2.1 23 1 d1
  have e2 : hV c 24 = hV b 24 := fRow f2 24 d2
  have e3 : hV c 339 = hV a 339 := (fRow f2 339 d3).trans (fRow f1 339 c3)
  have old : ∀ s : Nat, (s : Int) < hV a 23 1 → hV b 24 s = hV a 24 s → MV c s = MV a s := fun s hs he => by
    have k := (p.2.1 s hs).2.1
    unfold MV
    rw [Int.toNat_natCast, e2, he]
    exact (f2.2.2 _ 7 (kLe le1 k rfl) rfl 7 d5).trans (f1.2.2 _ 7 k rfl 7 c5)
  have same : hV b 23 1 = hV a 23 1 → hV b 24 = hV a 24 → CB c := fun w1 w2 s hs => by
    rw [e1, w1] at hs
    rw [old s hs (by rw [w2]), e3]
    exact z s hs
  rcases q with ⟨_, q⟩ | ⟨_, _, q⟩
  · rcases q with ⟨_, _, q1, q2⟩ | ⟨q1, q0, q2, q3, q4, q5, q6, q7, q8, q9, q10⟩
    · exact same q1 q2
    · intro s hs
      rw [e1, q3] at hs
      by_cases hsr : (s : Int) = r
      · have hn : hV b 24 s = hV b 24 r.toNat := by rw [show r.toNat = s by omega]
        have m0 : MV c s = 0 := by
          have k8 := q8
          unfold MV at k8 ⊢
          rw [Int.toNat_natCast, e2, hn]
          exact (f2.2.2 _ 7 q6 rfl 7 d5).trans k8
        rw [m0]
        exact ⟨by omega, by omega, fun i hi => by omega⟩
      · rw [old s (by omega) (by rw [q4, uF_at, if_neg hsr]), e3]
        exact z s (by omega)
  · exact same q.1 q.2
theorem CB_mouth {a b c : gH} {x y : Int} {D : Prop} (p : CP a) (z : CB a) (b1 : hV b 23 1 = hV a 23 1) (b3 : hV b 339 = hV a 339) (b4 : hV b 338 = hV a 338) (c1 : hV c 23 1 = hV b 23 1) (q2 : (D ∧ hV c 339 = uF (hV b 339) (8 * x + hV b 338 x.toNat) y ∧ hV c 338 = uF (hV b 338) x (hV b 338 x.toNat + 1)) ∨ (¬ D ∧ hV c 339 = hV b 339 ∧ hV c 338 = hV b 338)) (hx : D → 0 ≤ x ∧ x < hV a 23 1) (hd7 : D → hV b 338 x.toNat ≤ 7) (hy : D → 0 ≤ y ∧ y ≤ 59) (pc : CP c) : CB c := by
  rw [b3, b4] at q2
  rw [b4] at hd7
  intro s hs
  have mc : MV c s = hV c 338 s := (pc.2.1 s hs).2.2.2
  rw [c1, b1] at hs
  have ma : MV a s = hV a 338 s := (p.2.1 s hs).2.2.2
  obtain ⟨z1, z2, z3⟩ := z s hs
  rw [ma] at z1 z2 z3
  rw [mc]
  rcases q2 with ⟨hd, q2, q3⟩ | ⟨hd, q2, q3⟩
  · have hxx := hx hd
    have h7 := hd7 hd
    have hyy := hy hd
    have w2 : (0 : Int) ≤ hV a 338 x.toNat := by
      have := z x.toNat (by omega)
      rw [(p.2.1 x.toNat (by omega)).2.2.2] at this
      exact this.1
    rw [q3, uF_at, q2]
    by_cases hsx : (s : Int) = x
    · have xs : x.toNat = s := by omega
      rw [xs] at h7 w2 ⊢
      rw [if_pos hsx]
      refine ⟨by omega, by omega, fun i hi => ?_⟩
      rw [uF_at]
      by_cases hi2 : (i : Int) = hV a 338 s
      · rw [if_pos (by omega)]
        exact hyy
      · rw [if_neg (by omega)]
        exact z3 i (by omega)
    · rw [if_neg hsx]
      refine ⟨z1, z2, fun i hi => ?_⟩
      rw [uF_at, if_neg (by omega)]
      exact z3 i hi
  · rw [q3, q2]
    exact ⟨z1, z2, z3⟩
def CM (h : gH) : Prop := CMr h ∧ CB h
theorem CM_FN {h : gH} (z : CM h) : FN h := CMr_FN z.1
theorem CM_FB {h : gH} (p : CP h) (z : CM h) : FB h := CMr_FB z.2 p z.1
theorem CM_fr {W : List (Nat × Nat)} {a b : gH} (le : hLe T0 a b) (f : hFr W a b) (c : cMf W = true) (p : CP a) (z : CM a) : CM b := ⟨CMr_fr le f c p z.1, CB_fr f c p z.2⟩
theorem CM_add {W V : List (Nat × Nat)} {a b c : gH} {r k sz : Int} {C : Prop} (p : CP a) (z : CM a) (le1 : hLe T0 a b) (f1 : hFr W a b) (c1 : cMa W = true) (q : (C ∧ ADDp r k sz a b) ∨ (¬ C ∧ r = -1 ∧ SAMEp a b)) (d : ADQ r a b) (le2 : hLe T0 b c) (f2 : hFr V b c) (c2 : cMf V = true) (pc : CP c) : CM c := ⟨CMr_add p z.1 le1 f1 c1 q d le2 f2 c2 pc, CB_add p z.2 le1 f1 c1 q f2 c2⟩
theorem CM_mouth {W V : List (Nat × Nat)} {a b c : gH} {x y : Int} {C D : Prop} (p : CP a) (z : CM a) (le1 : hLe T0 a b) (f1 : hFr W a b) (c1 : cMm W = true) (q1 : (C ∧ MRp (hV a 24 x.toNat) y a b) ∨ (¬ C ∧ MRs a b)) (le2 : hLe T0 b c) (f2 : hFr V b c) (c2 : cMn V = true) (q2 : (D ∧ hV c 339 = uF (hV b 339) (8 * x + hV b 338 x.toNat) y ∧ hV c 338 = uF (hV b 338) x (hV b 338 x.toNat + 1)) ∨ (¬ D ∧ hV c 339 = hV b 339 ∧ hV c 338 = hV b 338)) (iff : C ↔ D) (hx : C → 0 ≤ x ∧ x < hV a 23 1) (hd7 : D → hV b 338 x.toNat ≤ 7) (hy : D → 0 ≤ y ∧ y ≤ 59) (pc : CP c) : CM c := by
  refine ⟨CMr_mouth z.2 p z.1 le1 f1 c1 q1 le2 f2 c2 q2 iff hx hd7 pc, ?_⟩
  unfold cMm at c1
  unfold cMn at c2
  simp only [Bool.and_eq_true, Bool.not_eq_true'] at c1 c2
  obtain ⟨c11, c12, c13, c14, c15⟩ := c1
  obtain ⟨c21, c22, c23, c24, c25⟩ := c2
  exact CB_mouth p z.2 (f1.1 23 1 c11) (fRow f1 339 c13) (fRow f1 338 c14) (f2.1 23 1 c21) q2 (fun d => hx (iff.mpr d)) hd7 hy pc
/-- the fit of both -/
theorem fit_eq {W : List (Nat × Nat)} {a b : gH} {r r' x y sl wh : Int} {u v u' v' : Int} (p : CP a) (zz : CM a) (f1 : hFr W a b) (c1 : (cX W && vFreeR W 339) = true) (q : (FTc a x y sl ∧ r = fitR (ff (lkO a (hV a 24 x.toNat) (hV a 24 y.toNat) sl) 25 (9, u, v)) wh) ∨ (¬ FTc a x y sl ∧ r = (if wh = 1 then -100 else -1))) (q' : (FTm b x y sl wh ∧ r' = fitR (ffr (lkR b x y sl) 25 (-1, u', v')) wh) ∨ (¬ FTm b x y sl wh ∧ r' = (if wh = 1 then -100 else -1))) : r = r' := by
  have w := zz.2
  have z := zz.1
  rw [Bool.and_eq_true] at c1
  obtain ⟨cx, c3⟩ := c1
  unfold cX at cx
  simp only [Bool.and_eq_true, Bool.not_eq_true'] at cx
  have e3 : hV b 285 64 = hV a 285 64 := f1.1 285 64 cx.1
  have e4 : hV b 328 = hV a 328 := fRow f1 328 cx.2.1
  rw [lkR_fr f1 cx.2.2.1 c3] at q'
  unfold FTm at q'
  rw [e3, e4, ← p.1] at q'
  have one : ∀ t : Int, (0 ≤ t ∧ t < hV a 23 1 ∧ 0 ≤ hV a 24 t.toNat ∧ KV a t = 2) ↔ (0 ≤ t ∧ t < hV a 23 1 ∧ hV a 328 t.toNat = 2) := fun t => by
    constructor
    · intro h
      have k := (p.2.1 t.toNat (by omega)).2.2.1
      rw [Int.toNat_of_nonneg h.1] at k
      exact ⟨h.1, h.2.1, by rw [← k]; exact h.2.2.2⟩
    · intro h
      have k := p.2.1 t.toNat (by omega)
      rw [Int.toNat_of_nonneg h.1] at k
      exact ⟨h.1, h.2.1, k.1, by rw [k.2.2.1]; exact h.2.2⟩
  unfold FTc at q
  rw [one x, one y] at q
  by_cases hw : 0 ≤ wh ∧ wh ≤ 2
  · rcases q with ⟨h, q⟩ | ⟨h, q⟩
    · rcases q' with ⟨_, q'⟩ | ⟨h', _⟩
      · have kx := p.2.1 x.toNat (by omega)
        have ky := p.2.1 y.toNat (by omega)
        have wx : (0 : Int) ≤ hV a 338 x.toNat ∧ hV a 338 x.toNat ≤ 8 := by
          have := w x.toNat (by omega)
          rw [kx.2.2.2] at this
          exact ⟨this.1, this.2.1⟩
        have wy : (0 : Int) ≤ hV a 338 y.toNat ∧ hV a 338 y.toNat ≤ 8 := by
          have := w y.toNat (by omega)
          rw [ky.2.2.2] at this
          exact ⟨this.1, this.2.1⟩
        have nx : hV a (hV a 24 x.toNat).toNat 7 = hV a 338 x.toNat := by
          have k := kx.2.2.2
          unfold MV at k
          rw [Int.toNat_natCast] at k
          exact k
        have ny : hV a (hV a 24 y.toNat).toNat 7 = hV a 338 y.toNat := by
          have k := ky.2.2.2
          unfold MV at k
          rw [Int.toNat_natCast] at k
          exact k
        have ee : lkO a (hV a 24 x.toNat) (hV a 24 y.toNat) sl = lkR a x y sl := by
          funext s t
          unfold lkO lkR
          rw [nx, ny]
          refine lkB_congr (fun i hi => ?_) (fun i hi => ?_)
          · exact mo_at z (by omega) (by omega) (by rw [ky.2.2.2]; omega)
          · exact mo_at z (by omega) (by omega) (by rw [kx.2.2.2]; omega)
        have hL : ∀ s t, 0 ≤ lkR a x y sl s t ∧ lkR a x y sl s t ≤ 8 := fun s t => by
          have k := lkB_in (f := fun i => hV a 339 (8 * x.toNat + i)) (g := fun i => hV a 339 (8 * y.toNat + i)) (n2 := (hV a 338 y.toNat).toNat) (b := s) (t := t) (sl := sl) (hV a 338 x.toNat).toNat
          unfold lkR
          omega
        rw [q, q', ee, (ff_ffr (x := u') (y := v') (x' := u) (y' := v) hL 24).1]
      · exact absurd ⟨h.1, h.2.1, h.2.2.1, h.2.2.2.1, h.2.2.2.2, hw.1, hw.2⟩ h'
    · rcases q' with ⟨h', _⟩ | ⟨_, q'⟩
      · exact absurd ⟨h'.1, h'.2.1, h'.2.2.1, h'.2.2.2.1, h'.2.2.2.2.1⟩ h
      · rw [q, q']
  · have r1 : r' = -1 := by
      rcases q' with ⟨h', _⟩ | ⟨_, q'⟩
      · exact absurd ⟨h'.2.2.2.2.2.1, h'.2.2.2.2.2.2⟩ hw
      · rw [q', if_neg (by omega)]
    rcases q with ⟨h, q⟩ | ⟨h, q⟩
    · rw [q, r1]
      unfold fitR
      rw [if_neg (by omega), if_neg (by omega), if_neg (by omega)]
    · rw [q, r1, if_neg (by omega)]
theorem mouth_da {C N A B D E F G : Prop} (h : (C ∧ A ∧ B ∧ D) ∨ (N ∧ E ∧ F ∧ G)) : (C ∧ A ∧ B) ∨ (N ∧ E ∧ F) := h.imp (fun z => ⟨z.1, z.2.1, z.2.2.1⟩) (fun z => ⟨z.1, z.2.1, z.2.2.1⟩)
theorem mouth_db {C N A B D E F G : Prop} (h : (C ∧ A ∧ B ∧ D) ∨ (N ∧ E ∧ F ∧ G)) : (C ∧ A ∧ B) ∨ (N ∧ E ∧ F) := mouth_da h
theorem mouth_ra {C N A B D E F G : Prop} (h : (C ∧ A ∧ B ∧ D) ∨ (N ∧ E ∧ F ∧ G)) : (C ∧ D) ∨ (N ∧ G) := h.imp (fun z => ⟨z.1, z.2.2.2⟩) (fun z => ⟨z.1, z.2.2.2⟩)
theorem mouth_rb {C N G F : Prop} {r m x : Int} {f f' : Nat → Int} (h : (C ∧ r = m + 1 ∧ f' = uF f x r ∧ G) ∨ (N ∧ r = -1 ∧ f' = f ∧ F)) : (C ∧ G ∧ f' = uF f x (m + 1)) ∨ (N ∧ F ∧ f' = f) := h.imp (fun z => ⟨z.1, z.2.2.2, by rw [← z.2.1]; exact z.2.2.1⟩) (fun z => ⟨z.1, z.2.2.2, z.2.2.1⟩)
theorem mouth_iff {W : List (Nat × Nat)} {a b : gH} (z : CP a) (f1 : hFr W a b) (c1 : cXm W = true) {x y : Int} : (0 ≤ x ∧ x < hV a 23 1 ∧ 0 ≤ hV a 24 (x.toNat) ∧ KV a x = 2 ∧ 0 ≤ y ∧ y ≤ 59 ∧ MV a x ≤ 7) ↔ (0 ≤ x ∧ x < hV b 285 64 ∧ hV b 328 (x.toNat) = 2 ∧ 0 ≤ y ∧ y ≤ 59 ∧ hV b 338 (x.toNat) ≤ 7) := by
  unfold cXm at c1
  simp only [Bool.and_eq_true, Bool.not_eq_true'] at c1
  rw [f1.1 285 64 c1.1, fRow f1 328 c1.2.1, fRow f1 338 c1.2.2.1, ← z.1]
  constructor
  · intro h
    have w := z.2.1 x.toNat (by omega)
    rw [Int.toNat_of_nonneg h.1] at w
    exact ⟨h.1, h.2.1, by rw [← w.2.2.1]; exact h.2.2.2.1, h.2.2.2.2.1, h.2.2.2.2.2.1, by rw [← w.2.2.2]; exact h.2.2.2.2.2.2⟩
  · intro h
    have w := z.2.1 x.toNat (by omega)
    rw [Int.toNat_of_nonneg h.1] at w
    exact ⟨h.1, h.2.1, w.1, by rw [w.2.2.1]; exact h.2.2.1, h.2.2.2.1, h.2.2.2.2.1, by rw [w.2.2.2]; exact h.2.2.2.2.2⟩
