/-! MUSIC IN A MIX: what both programs work out (hand; behind the coupled sounds' definitions and sheet9). -/
-- SOUNDS: how many, kinds, of what, first, end, how many SAMPLES, SAMPLES
abbrev SE := Int × (Nat → Int) × (Nat → Int) × (Nat → Int) × (Nat → Int) × (Nat → Int) × (Nat → Int)
-- a CUE as it is now: kind, SOUND, FRAME, from, for, gain, speed's two
abbrev LR := Int × Int × Int × Int × Int × Int × Int × Int
def mnI (a b : Int) : Int := if a < b then a else b
def lnT (f l a : Int) : Int := if f < mnI l a then mnI l a - f else 0
theorem mnI_c (a b : Int) : (a < b ∧ mnI a b = a) ∨ (b ≤ a ∧ mnI a b = b) := by
  unfold mnI
  by_cases c : a < b
  · rw [if_pos c]
    exact .inl ⟨c, rfl⟩
  · rw [if_neg c]
    exact .inr ⟨by omega, rfl⟩
theorem lnT_c (f l a : Int) : (f < mnI l a ∧ lnT f l a = mnI l a - f) ∨ (mnI l a ≤ f ∧ lnT f l a = 0) := by
  unfold lnT
  by_cases c : f < mnI l a
  · rw [if_pos c]
    exact .inl ⟨c, rfl⟩
  · rw [if_neg c]
    exact .inr ⟨by omega, rfl⟩
theorem mz_c (x : Int) : (x < 0 ∧ mz x = 0) ∨ (0 ≤ x ∧ mz x = x) := by
  unfold mz
  by_cases c : x < 0
  · rw [if_pos c]
    exact .inl ⟨c, rfl⟩
  · rw [if_neg c]
    exact .inr ⟨by omega, rfl⟩
/-- root, length, place in the root -/
def chE (E : SE) : Nat → Int → Int × Int × Int
  | 0, s => (s, 0, 0)
  | k + 1, s => if E.2.1 s.toNat = 4 then ((chE E k (E.2.2.1 s.toNat)).1, lnT (E.2.2.2.1 s.toNat) (E.2.2.2.2.1 s.toNat) (chE E k (E.2.2.1 s.toNat)).2.1, E.2.2.2.1 s.toNat + (chE E k (E.2.2.1 s.toNat)).2.2) else (s, mz (E.2.2.2.2.2.1 s.toNat), 0)
def RT (E : SE) (s : Int) : Int := (chE E 20 s).1
def LN (E : SE) (s : Int) : Int := (chE E 20 s).2.1
def OF (E : SE) (s : Int) : Int := (chE E 20 s).2.2
def SEok (E : SE) : Prop := E.1 ≤ 20 ∧ ∀ s : Nat, (s : Int) < E.1 → (E.2.1 s = 4 → 0 ≤ E.2.2.1 s ∧ E.2.2.1 s < s ∧ 0 ≤ E.2.2.2.1 s ∧ E.2.2.2.1 s < E.2.2.2.2.1 s ∧ E.2.2.2.2.1 s ≤ 240) ∧ (E.2.1 s ≤ 3 → E.2.2.2.2.2.1 s ≤ 240 ∧ ∀ i : Nat, i < 240 → -9999 ≤ E.2.2.2.2.2.2 (240 * s + i) ∧ E.2.2.2.2.2.2 (240 * s + i) ≤ 9999)
theorem chE_4 {E : SE} {k : Nat} {s : Int} (c : E.2.1 s.toNat = 4) : chE E (k + 1) s = ((chE E k (E.2.2.1 s.toNat)).1, lnT (E.2.2.2.1 s.toNat) (E.2.2.2.2.1 s.toNat) (chE E k (E.2.2.1 s.toNat)).2.1, E.2.2.2.1 s.toNat + (chE E k (E.2.2.1 s.toNat)).2.2) := if_pos c
theorem chE_n {E : SE} {k : Nat} {s : Int} (c : ¬ E.2.1 s.toNat = 4) : chE E (k + 1) s = (s, mz (E.2.2.2.2.2.1 s.toNat), 0) := if_neg c
theorem chE_fuel {E : SE} (z : SEok E) : ∀ (k : Nat) (s : Int), 0 ≤ s → s < E.1 → s < (k : Int) → chE E (k + 1) s = chE E k s := by
  intro k
  induction k with
  | zero => intro s h0 _ h2; exact absurd h2 (by omega)
  | succ k ih =>
    intro s h0 h1 h2
    by_cases c : E.2.1 s.toNat = 4
    · have w := (z.2 s.toNat (by omega)).1 c
      rw [chE_4 (k := k + 1) c, chE_4 (k := k) c, ih (E.2.2.1 s.toNat) w.1 (by omega) (by omega)]
    · rw [chE_n (k := k + 1) c, chE_n (k := k) c]
theorem CH_4 {E : SE} (z : SEok E) {s : Int} (h0 : 0 ≤ s) (h1 : s < E.1) (c : E.2.1 s.toNat = 4) : RT E s = RT E (E.2.2.1 s.toNat) ∧ LN E s = lnT (E.2.2.2.1 s.toNat) (E.2.2.2.2.1 s.toNat) (LN E (E.2.2.1 s.toNat)) ∧ OF E s = E.2.2.2.1 s.toNat + OF E (E.2.2.1 s.toNat) := by
  have w := (z.2 s.toNat (by omega)).1 c
  have n20 := z.1
  have e := chE_4 (E := E) (k := 19) c
  have f : chE E 20 (E.2.2.1 s.toNat) = chE E 19 (E.2.2.1 s.toNat) := chE_fuel z 19 _ w.1 (by omega) (by omega)
  unfold RT LN OF
  rw [f, show chE E 20 s = _ from e]
  exact ⟨rfl, rfl, rfl⟩
theorem CH_n {E : SE} {s : Int} (c : ¬ E.2.1 s.toNat = 4) : RT E s = s ∧ LN E s = mz (E.2.2.2.2.2.1 s.toNat) ∧ OF E s = 0 := by
  have e := chE_n (E := E) (k := 19) c
  unfold RT LN OF
  rw [show chE E 20 s = _ from e]
  exact ⟨rfl, rfl, rfl⟩
theorem CH_in {E : SE} (z : SEok E) : ∀ (k : Nat) (s : Int), 0 ≤ s → s < E.1 → s < (k : Int) → 0 ≤ RT E s ∧ RT E s ≤ s ∧ ¬ E.2.1 (RT E s).toNat = 4 ∧ 0 ≤ OF E s ∧ 0 ≤ LN E s ∧ (E.2.1 (RT E s).toNat ≤ 3 → LN E s = 0 ∨ OF E s + LN E s ≤ 240) := by
  intro k
  induction k with
  | zero => intro s h0 _ h2; exact absurd h2 (by omega)
  | succ k ih =>
    intro s h0 h1 h2
    by_cases c : E.2.1 s.toNat = 4
    · have w := (z.2 s.toNat (by omega)).1 c
      obtain ⟨e1, e2, e3⟩ := CH_4 z h0 h1 c
      obtain ⟨i1, i2, i3, i4, i5, i6⟩ := ih (E.2.2.1 s.toNat) w.1 (by omega) (by omega)
      rw [e1, e2, e3]
      refine ⟨i1, by omega, i3, by omega, ?_, fun r3 => ?_⟩
      · have l1 := lnT_c (E.2.2.2.1 s.toNat) (E.2.2.2.2.1 s.toNat) (LN E (E.2.2.1 s.toNat))
        omega
      · have q := i6 r3
        have l1 := lnT_c (E.2.2.2.1 s.toNat) (E.2.2.2.2.1 s.toNat) (LN E (E.2.2.1 s.toNat))
        have l2 := mnI_c (E.2.2.2.2.1 s.toNat) (LN E (E.2.2.1 s.toNat))
        omega
    · obtain ⟨e1, e2, e3⟩ := CH_n (E := E) c
      have w := (z.2 s.toNat (by omega)).2
      rw [e1, e2, e3]
      have m1 := mz_c (E.2.2.2.2.2.1 s.toNat)
      refine ⟨h0, Int.le_refl _, c, Int.le_refl _, by omega, fun r3 => ?_⟩
      have w2 := (w r3).1
      omega
theorem CH_rg {E : SE} (z : SEok E) {s : Int} (h0 : 0 ≤ s) (h1 : s < E.1) : 0 ≤ RT E s ∧ RT E s ≤ s ∧ ¬ E.2.1 (RT E s).toNat = 4 ∧ 0 ≤ OF E s ∧ 0 ≤ LN E s ∧ (E.2.1 (RT E s).toNat ≤ 3 → LN E s = 0 ∨ OF E s + LN E s ≤ 240) := CH_in z 20 s h0 h1 (by have := z.1; omega)
/-- the class's way along the chain -/
def AIM (E : SE) (s sh en st ro : Int) (f : Nat → Int) : Prop := ∃ c : Nat, (c : Int) < E.1 ∧ (c : Int) + st ≤ s ∧ 0 ≤ st ∧ ro = f c ∧ RT E c = RT E s ∧ OF E s = sh + OF E c ∧ 0 ≤ sh ∧ sh ≤ 240 * st ∧ 0 ≤ en ∧ en ≤ 1000000 + 240 * st ∧ LN E s = mz (mnI en (LN E c) - sh)
theorem AIM_0 {E : SE} (z : SEok E) {s sh en st ro : Int} {f : Nat → Int} (h0 : 0 ≤ s) (h1 : s < E.1) (r3 : E.2.1 (RT E s).toNat ≤ 3) (e1 : sh = 0) (e2 : en = 1000000) (e3 : st = 0) (e4 : ro = f s.toNat) : AIM E s sh en st ro f := by
  obtain ⟨i1, i2, i3, i4, i5, i6⟩ := CH_rg z h0 h1
  have q := i6 r3
  have es : ((s.toNat : Nat) : Int) = s := Int.toNat_of_nonneg h0
  refine ⟨s.toNat, by omega, by omega, by omega, e4, by rw [es], by rw [es]; omega, by omega, by omega, by omega, by omega, ?_⟩
  rw [es]
  have m1 := mnI_c en (LN E s)
  have m2 := mz_c (mnI en (LN E s) - sh)
  omega
theorem AIM_step {E : SE} (z : SEok E) {s sh en st sh' en' st' ro' : Int} {f : Nat → Int} {c : Nat} (c1 : (c : Int) < E.1) (c2 : (c : Int) + st ≤ s) (c3 : 0 ≤ st) (c5 : RT E c = RT E s) (c6 : OF E s = sh + OF E c) (c7 : 0 ≤ sh) (c8 : sh ≤ 240 * st) (c9 : 0 ≤ en) (c10 : en ≤ 1000000 + 240 * st) (c11 : LN E s = mz (mnI en (LN E c) - sh)) (k : E.2.1 c = 4) (e1 : sh' = sh + E.2.2.2.1 c) (e2 : en' = mnI (en + E.2.2.2.1 c) (E.2.2.2.2.1 c)) (e3 : st' = st + 1) (e4 : ro' = f (E.2.2.1 c).toNat) : AIM E s sh' en' st' ro' f := by
  have w := (z.2 c c1).1 k
  have n20 := z.1
  have k' : E.2.1 ((c : Int)).toNat = 4 := k
  obtain ⟨d1, d2, d3⟩ := CH_4 z (Int.natCast_nonneg c) c1 k'
  rw [Int.toNat_natCast] at d1 d2 d3
  obtain ⟨i1, i2, i3, i4, i5, i6⟩ := CH_rg z w.1 (show E.2.2.1 c < E.1 by omega)
  have es : (((E.2.2.1 c).toNat : Nat) : Int) = E.2.2.1 c := Int.toNat_of_nonneg w.1
  rw [d1] at c5
  rw [d3] at c6
  rw [d2] at c11
  subst e1 e2 e3
  refine ⟨(E.2.2.1 c).toNat, by omega, by omega, by omega, e4, by rw [es]; exact c5, by rw [es]; omega, by omega, by omega, ?_, ?_, ?_⟩
  · have m1 := mnI_c (en + E.2.2.2.1 c) (E.2.2.2.2.1 c)
    omega
  · have m1 := mnI_c (en + E.2.2.2.1 c) (E.2.2.2.2.1 c)
    omega
  · rw [es, c11]
    have m1 := mnI_c (en + E.2.2.2.1 c) (E.2.2.2.2.1 c)
    have m2 := mnI_c (mnI (en + E.2.2.2.1 c) (E.2.2.2.2.1 c)) (LN E (E.2.2.1 c))
    have m3 := mz_c (mnI (mnI (en + E.2.2.2.1 c) (E.2.2.2.2.1 c)) (LN E (E.2.2.1 c)) - (sh + E.2.2.2.1 c))
    have m4 := mnI_c (E.2.2.2.2.1 c) (LN E (E.2.2.1 c))
    have m5 := lnT_c (E.2.2.2.1 c) (E.2.2.2.2.1 c) (LN E (E.2.2.1 c))
    have m6 := mnI_c en (lnT (E.2.2.2.1 c) (E.2.2.2.2.1 c) (LN E (E.2.2.1 c)))
    have m7 := mz_c (mnI en (lnT (E.2.2.2.1 c) (E.2.2.2.2.1 c) (LN E (E.2.2.1 c))) - sh)
    omega
theorem AIM_end {E : SE} {s sh en : Int} {c : Nat} (c5 : RT E c = RT E s) (c6 : OF E s = sh + OF E c) (c11 : LN E s = mz (mnI en (LN E c) - sh)) (k : ¬ E.2.1 c = 4) : RT E s = c ∧ OF E s = sh ∧ LN E s = mz (mnI en (mz (E.2.2.2.2.2.1 c)) - sh) := by
  have k' : ¬ E.2.1 ((c : Int)).toNat = 4 := k
  obtain ⟨d1, d2, d3⟩ := CH_n k'
  rw [Int.toNat_natCast] at d2
  rw [d1] at c5
  rw [d2] at c11
  exact ⟨c5.symm, by omega, c11⟩
/-! A lay. -/
def snF (c : LR) (t : Int) : Int := w32 (t - w32 (4 * c.2.2.1))
def lyI (c : LR) (t : Int) : Int := w32 (w32 (4 * c.2.2.2.1) + o32 (fun x y => x / y) (w32 (snF c t * c.2.2.2.2.2.2.1)) c.2.2.2.2.2.2.2)
/-- it is HEARD -/
def HEp (E : SE) (c : LR) (t : Int) : Prop := 0 ≤ snF c t ∧ (c.2.2.2.2.1 = -1 ∨ snF c t < w32 (4 * c.2.2.2.2.1)) ∧ lyI c t < LN E c.2.1
def smE (E : SE) (s i : Int) : Int := if 0 ≤ i ∧ i < LN E s then E.2.2.2.2.2.2 (240 * RT E s + OF E s + i).toNat else 0
def gvF (v g : Int) : Int := o32 (fun x y => x / y) (w32 (v * g)) 100
def GVp (E : SE) (c : LR) (t : Int) : Prop := HEp E c t ∧ ¬ gvF (smE E c.2.1 (lyI c t)) c.2.2.2.2.2.1 = 0
def MUp (E : SE) (mu : Int) (c : LR) : Prop := c.1 = 0 ∧ 0 ≤ c.2.1 ∧ c.2.1 < E.1 ∧ RT E c.2.1 = mu
/-- the first t SAMPLES: is FRAME f among those given -/
def HTp (E : SE) (c : LR) (t f : Int) : Prop := ∃ u : Int, 0 ≤ u ∧ u < t ∧ u / 4 = f ∧ GVp E c u
/-- the first k CUES -/
def HRp (E : SE) (L : List LR) (mu z k f : Int) : Prop := ∃ (j : Nat) (c : LR), (j : Int) < k ∧ L[j]? = some c ∧ MUp E mu c ∧ HTp E c z f
/-- a row of FRAMES -/
def RB (q : Nat → Int) (P : Int → Prop) : Prop := ∀ f : Nat, f < 60 → (¬ q f = 0 ↔ P (f : Int))
theorem RB_0 {q : Nat → Int} {P : Int → Prop} (h : ∀ f : Nat, f < 60 → q f = 0) (n : ∀ f, ¬ P f) : RB q P := fun f hf => ⟨fun w => absurd (h f hf) w, fun w => absurd w (n _)⟩
theorem RB_iff {q : Nat → Int} {P Q : Int → Prop} (z : RB q P) (h : ∀ f, P f ↔ Q f) : RB q Q := fun f hf => (z f hf).trans (h _)
theorem RB_set {q : Nat → Int} {P : Int → Prop} {i : Int} (z : RB q P) : RB (uF q i 1) (fun f => P f ∨ f = i) := fun f hf => by
  rw [uF_at]
  by_cases c : (f : Int) = i
  · rw [if_pos c]
    exact ⟨fun _ => .inr c, fun _ => by decide⟩
  · rw [if_neg c, z f hf]
    exact ⟨.inl, fun w => w.resolve_right c⟩
theorem RB_at {q : Nat → Int} {P : Int → Prop} (z : RB q P) {f : Int} (h0 : 0 ≤ f) (h1 : f < 60) : ¬ q f.toNat = 0 ↔ P f := by
  have w := z f.toNat (by omega)
  rw [Int.toNat_of_nonneg h0] at w
  exact w
theorem HR_0 {E : SE} {L : List LR} {mu z k : Int} (h : k = 0) (f : Int) : ¬ HRp E L mu z k f := fun ⟨j, c, w, _⟩ => by omega
theorem HR_skip {E : SE} {L : List LR} {mu z k k' : Int} {c : LR} (h : L[k.toNat]? = some c) (n : ¬ MUp E mu c) (h0 : 0 ≤ k) (e : k' = k + 1) (f : Int) : HRp E L mu z k f ↔ HRp E L mu z k' f := by
  subst e
  refine ⟨fun ⟨j, d, w1, w2⟩ => ⟨j, d, by omega, w2⟩, fun ⟨j, d, w1, w2, w3, w4⟩ => ?_⟩
  by_cases q : (j : Int) = k
  · rw [show k.toNat = j by omega, w2] at h
    cases h
    exact absurd w3 n
  · exact ⟨j, d, by omega, w2, w3, w4⟩
theorem HR_take {E : SE} {L : List LR} {mu z k k' : Int} {c : LR} (h : L[k.toNat]? = some c) (y : MUp E mu c) (h0 : 0 ≤ k) (e : k' = k + 1) (f : Int) : (HRp E L mu z k f ∨ HTp E c z f) ↔ HRp E L mu z k' f := by
  subst e
  refine ⟨fun w => ?_, fun ⟨j, d, w1, w2, w3, w4⟩ => ?_⟩
  · rcases w with ⟨j, d, w1, w2⟩ | w
    · exact ⟨j, d, by omega, w2⟩
    · exact ⟨k.toNat, c, by omega, h, y, w⟩
  · by_cases q : (j : Int) = k
    · rw [show k.toNat = j by omega, w2] at h
      cases h
      exact .inr w4
    · exact .inl ⟨j, d, by omega, w2, w3, w4⟩
theorem HT_0 {E : SE} {c : LR} {t : Int} (h : t = 0) (f : Int) : ¬ HTp E c t f := fun ⟨u, w1, w2, _⟩ => by omega
theorem HT_skip {E : SE} {c : LR} {t t' : Int} (n : ¬ GVp E c t) (e : t' = t + 1) (f : Int) : HTp E c t f ↔ HTp E c t' f := by
  subst e
  refine ⟨fun ⟨u, w1, w2, w3⟩ => ⟨u, w1, by omega, w3⟩, fun ⟨u, w1, w2, w3, w4⟩ => ?_⟩
  by_cases q : u = t
  · exact absurd (q ▸ w4) n
  · exact ⟨u, w1, by omega, w3, w4⟩
theorem HT_take {E : SE} {c : LR} {t t' : Int} (y : GVp E c t) (h0 : 0 ≤ t) (e : t' = t + 1) (f : Int) : (HTp E c t f ∨ f = t / 4) ↔ HTp E c t' f := by
  subst e
  refine ⟨fun w => ?_, fun ⟨u, w1, w2, w3, w4⟩ => ?_⟩
  · rcases w with ⟨u, w1, w2, w3⟩ | w
    · exact ⟨u, w1, by omega, w3⟩
    · exact ⟨t, h0, by omega, w.symm, y⟩
  · by_cases q : u = t
    · exact .inr (by rw [← q]; exact w3.symm)
    · exact .inl ⟨u, w1, by omega, w3, w4⟩
/-! How many FRAMES of an EDITION. -/
noncomputable def cntE (P : Int → Prop) (old : Int → Int) : Nat → Int
  | 0 => 0
  | g + 1 => cntE P old g + @ite Int (¬ old (g : Int) = -1 ∧ P (old (g : Int))) (Classical.propDecidable _) 1 0
theorem cnt_y {P : Int → Prop} {old : Int → Int} {g n n' g' : Int} (h0 : 0 ≤ g) (e : n = cntE P old g.toNat) (y : ¬ old g = -1 ∧ P (old g)) (en : n' = n + 1) (eg : g' = g + 1) : n' = cntE P old g'.toNat := by
  subst eg
  rw [show (g + 1).toNat = g.toNat + 1 by omega]
  show n' = cntE P old g.toNat + @ite Int (¬ old ((g.toNat : Nat) : Int) = -1 ∧ P (old ((g.toNat : Nat) : Int))) (Classical.propDecidable _) 1 0
  rw [Int.toNat_of_nonneg h0, if_pos y]
  omega
theorem cnt_n {P : Int → Prop} {old : Int → Int} {g n n' g' : Int} (h0 : 0 ≤ g) (e : n = cntE P old g.toNat) (y : ¬ (¬ old g = -1 ∧ P (old g))) (en : n' = n) (eg : g' = g + 1) : n' = cntE P old g'.toNat := by
  subst eg
  rw [show (g + 1).toNat = g.toNat + 1 by omega]
  show n' = cntE P old g.toNat + @ite Int (¬ old ((g.toNat : Nat) : Int) = -1 ∧ P (old ((g.toNat : Nat) : Int))) (Classical.propDecidable _) 1 0
  rw [Int.toNat_of_nonneg h0, if_neg y]
  omega
theorem cnt_b {P : Int → Prop} {old : Int → Int} : ∀ (g : Nat) {n : Int}, n = cntE P old g → 0 ≤ n ∧ n ≤ (g : Int)
  | 0, n, e => by
    have w : n = 0 := e
    omega
  | g + 1, n, e => by
    have i := cnt_b (P := P) (old := old) g rfl
    have w : n = cntE P old g + @ite Int (¬ old (g : Int) = -1 ∧ P (old (g : Int))) (Classical.propDecidable _) 1 0 := e
    by_cases c : (¬ old (g : Int) = -1 ∧ P (old (g : Int)))
    · rw [if_pos c] at w
      omega
    · rw [if_neg c] at w
      omega
/-- FRAMES of a MUSIC: or the rows of origins, d the SHEET's EDITION, z its FRAMES -/
noncomputable def SNDf (E : SE) (L : List LR) (mu z : Int) (o : Nat → Int) (d e : Int) (n : Int) : Int := cntE (HRp E L mu (4 * z) (L.length : Int)) (fun g => pFrom o d (e - d).toNat g) n.toNat
/-- a CUE's record as it is now; of others than lays nothing -/
def lrW (mk : Nat → Int) (r : CR) : LR := if r.1 = 0 then (0, r.2.2.1, nwW mk r.2.2.2.1 r.2.2.2.2.1, r.2.2.2.2.2.2.2.1, r.2.2.2.2.2.2.2.2.1, r.2.2.2.2.2.2.2.2.2.1, r.2.2.2.2.2.2.2.2.2.2.1, r.2.2.2.2.2.2.2.2.2.2.2) else (1, 0, 0, 0, 0, 0, 0, 0)
def lrN (r : CR) : LR := if r.1 = 0 then (0, r.2.2.1, r.2.2.2.2.1, r.2.2.2.2.2.2.2.1, r.2.2.2.2.2.2.2.2.1, r.2.2.2.2.2.2.2.2.2.1, r.2.2.2.2.2.2.2.2.2.2.1, r.2.2.2.2.2.2.2.2.2.2.2) else (1, 0, 0, 0, 0, 0, 0, 0)
theorem lrW_N {mk : Nat → Int} {r : CR} (e : EKr r) (b : ∀ k : Nat, 0 ≤ mk k ∧ mk k ≤ 60) : lrW mk r = lrN (nowC mk r) := by
  obtain ⟨e1, e2, e3, e4, e5, e6⟩ := e
  show (if r.1 = 0 then _ else _) = (if r.1 = 0 then _ else _)
  by_cases c : r.1 = 0
  · have m := e3 (by omega)
    rw [if_pos c, if_pos c, nwW_nw m.1 m.2 e5.1 e5.2 b]
    all_goals rfl
  · rw [if_neg c, if_neg c]
/-- what a lay's numbers keep to -/
def FBc (c : LR) : Prop := c.1 = 0 → (-30000 ≤ c.2.2.1 ∧ c.2.2.1 ≤ 30000) ∧ 1 ≤ c.2.2.2.2.2.2.2
theorem sn_in {c : LR} (y : FBc c) (k : c.1 = 0) {t : Int} (h0 : 0 ≤ t) (h1 : t ≤ 240) : snF c t = t - 4 * c.2.2.1 := by
  have w := (y k).1
  unfold snF
  rw [w32_id (x := 4 * c.2.2.1) (by omega) (by omega), w32_id (by omega) (by omega)]
theorem smE_in {E : SE} (z : SEok E) {s : Int} (h0 : 0 ≤ s) (h1 : s < E.1) (r3 : E.2.1 (RT E s).toNat ≤ 3) (i : Int) : -9999 ≤ smE E s i ∧ smE E s i ≤ 9999 := by
  obtain ⟨i1, i2, i3, i4, i5, i6⟩ := CH_rg z h0 h1
  have q := i6 r3
  unfold smE
  split
  · rename_i c
    have w := ((z.2 (RT E s).toNat (by omega)).2 r3).2 (OF E s + i).toNat (by omega)
    rw [show 240 * (RT E s).toNat + (OF E s + i).toNat = (240 * RT E s + OF E s + i).toNat by omega] at w
    exact w
  · omega
