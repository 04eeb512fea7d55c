/-! THE STATE OF THE GRAMMAR IN THE CLASS'S HEAP (hand; behind grammar.lean.txt). -/
-- Reader at 30 (next 1, kind 2, fault 3, faultToken 4, laterFault 5, laterToken 6, blocks 13), Tokens at 31 (tokenCount 4), kinds 33, places 34, values 35
def kC (h : gH) (i : Int) : Int := if 0 ≤ i ∧ i < hV h 31 4 ∧ i < 502 then hV h 33 i.toNat else 0
def uC (h : gH) (i : Int) : Int := if 0 ≤ i ∧ i < hV h 31 4 ∧ i < 502 then hV h 35 i.toNat else 0
def lC (h : gH) (i : Int) : Int := if 0 ≤ i ∧ i < hV h 31 4 ∧ i < 502 then hV h 34 i.toNat else 0
/-- digits of base 32 told in base 27 -/
def c27 : Nat → Int → Int
  | 0, _ => 0
  | f + 1, x => if x ≤ 0 then 0 else 27 * c27 f (x / 32) + x % 32
-- names: codes of at most eight letters
def NVn : Nat → Int → Prop
  | 0, x => x = 0
  | n + 1, x => 1 ≤ x % 32 ∧ x % 32 ≤ 26 ∧ NVn n (x / 32)
def NV (x : Int) : Prop := ∃ n, n ≤ 8 ∧ 1 ≤ n ∧ NVn n x
theorem NVn_pos : ∀ {n : Nat} {x : Int}, NVn n x → (n = 0 ∧ x = 0) ∨ (1 ≤ n ∧ 0 < x) := by
  intro n
  induction n with
  | zero => intro x h; exact .inl ⟨rfl, h⟩
  | succ n ih =>
    intro x h
    obtain ⟨h1, h2, h3⟩ := h
    rcases ih h3 with ⟨_, c⟩ | ⟨_, c⟩ <;> exact .inr ⟨by omega, by omega⟩
theorem c27_in : ∀ {n f : Nat} {x : Int}, NVn n x → n ≤ f → 0 ≤ c27 f x ∧ (x = 0 ↔ c27 f x = 0) := by
  intro n
  induction n with
  | zero =>
    intro f x h _
    have h0 : x = 0 := h
    subst h0
    cases f with
    | zero => exact ⟨Int.le_refl _, Iff.intro (fun _ => rfl) (fun _ => rfl)⟩
    | succ f =>
      have e : c27 (f + 1) 0 = 0 := if_pos (by decide)
      rw [e]
      exact ⟨by decide, Iff.intro (fun _ => rfl) (fun _ => rfl)⟩
  | succ n ih =>
    intro f x h hf
    obtain ⟨h1, h2, h3⟩ := h
    cases f with
    | zero => omega
    | succ f =>
      have i := ih h3 (f := f) (by omega)
      have xp : 0 < x := by rcases NVn_pos h3 with ⟨_, c⟩ | ⟨_, c⟩ <;> omega
      have e : c27 (f + 1) x = 27 * c27 f (x / 32) + x % 32 := if_neg (by omega)
      rw [e]
      exact ⟨by omega, ⟨fun c => by omega, fun c => by omega⟩⟩
theorem c27_inj : ∀ {f n m : Nat} {x y : Int}, NVn n x → NVn m y → n ≤ f → m ≤ f → c27 f x = c27 f y → x = y := by
  intro f
  induction f with
  | zero =>
    intro n m x y hx hy hn hm _
    obtain rfl : n = 0 := by omega
    obtain rfl : m = 0 := by omega
    exact (show x = 0 from hx).trans (show y = 0 from hy).symm
  | succ f ih =>
    intro n m x y hx hy hn hm e
    rcases NVn_pos hx with ⟨n0, x0⟩ | ⟨n1, x1⟩
    · rw [x0] at e ⊢
      have := (c27_in hy hm).2
      have e0 : c27 (f + 1) 0 = 0 := if_pos (by decide)
      exact (this.mpr (by rw [← e, e0])).symm
    · rcases NVn_pos hy with ⟨m0, y0⟩ | ⟨m1, y1⟩
      · rw [y0] at e ⊢
        have e0 : c27 (f + 1) 0 = 0 := if_pos (by decide)
        exact (c27_in hx hn).2.mpr (by rw [e, e0])
      · cases n with
        | zero => omega
        | succ n =>
          cases m with
          | zero => omega
          | succ m =>
            obtain ⟨a1, a2, a3⟩ := hx
            obtain ⟨b1, b2, b3⟩ := hy
            have ex : c27 (f + 1) x = 27 * c27 f (x / 32) + x % 32 := if_neg (by omega)
            have ey : c27 (f + 1) y = 27 * c27 f (y / 32) + y % 32 := if_neg (by omega)
            rw [ex, ey] at e
            have q := ih a3 b3 (by omega) (by omega) (by omega)
            omega
theorem NV_inj {x y : Int} (hx : NV x) (hy : NV y) (e : c27 9 x = c27 9 y) : x = y := by
  obtain ⟨n, n1, _, n3⟩ := hx
  obtain ⟨m, m1, _, m3⟩ := hy
  exact c27_inj n3 m3 (by omega) (by omega) e
theorem NVn_lt : ∀ {n : Nat} {x : Int}, NVn n x → 0 ≤ x ∧ x < 32 ^ n := by
  intro n
  induction n with
  | zero =>
    intro x h
    have h0 : x = 0 := h
    subst h0
    exact ⟨by decide, by decide⟩
  | succ n ih =>
    intro x h
    obtain ⟨h1, h2, h3⟩ := h
    have i := ih h3
    have e : (32 : Int) ^ (n + 1) = 32 * 32 ^ n := by rw [Int.pow_succ, Int.mul_comm]
    rw [e]
    exact ⟨by omega, by omega⟩
theorem p32_le {n : Nat} (h : n ≤ 8) : (32 : Int) ^ n ≤ 32 ^ 8 := by
  have q : n = 0 ∨ n = 1 ∨ n = 2 ∨ n = 3 ∨ n = 4 ∨ n = 5 ∨ n = 6 ∨ n = 7 ∨ n = 8 := by omega
  rcases q with rfl | rfl | rfl | rfl | rfl | rfl | rfl | rfl | rfl <;> decide
theorem NV_lt {x : Int} (h : NV x) : 0 < x ∧ x < 1099511627776 := by
  obtain ⟨n, n1, n2, n3⟩ := h
  have a := NVn_lt n3
  have b : (32 : Int) ^ n ≤ 32 ^ 8 := p32_le n1
  have c : (32 : Int) ^ 8 = 1099511627776 := by decide
  rcases NVn_pos n3 with ⟨d, _⟩ | ⟨_, d⟩ <;> omega
def vwC (h : gH) : Vw := (fun s => if s < 0 then -1 else if 500 < s then 0 else kC h s, fun s => if 500 < s then 0 else if kC h s = 3 then uC h s else 0, fun s => if 500 < s then 0 else if kC h s = 2 then c27 9 (uC h s) else 0, fun s => if 500 < s then 0 else lC h s)
def absC (h : gH) : PS := if hV h 30 3 = 0 then (hV h 30 1, if hV h 30 5 = 0 then 0 else 8 * lC h (hV h 30 6) + hV h 30 5) else (-(2 * lC h (hV h 30 4) + hV h 30 3), 0)
/-- the kinds and lengths of the cells that are read -/
def KS5 (h : gH) : Prop := hK h 30 = 4 ∧ hK h 31 = 8 ∧ hK h 33 = 716 ∧ hK h 34 = 716 ∧ hK h 35 = 725 ∧ hN h 33 = 502 ∧ hN h 34 = 502 ∧ hN h 35 = 502
/-- what holds of all tokens told -/
def TKI (h : gH) : Prop := 1 ≤ hV h 31 4 ∧ hV h 31 4 ≤ 502 ∧ kC h (hV h 31 4 - 1) = 0 ∧ (∀ i : Nat, 0 ≤ hV h 34 i ∧ hV h 34 i ≤ 2000) ∧ (∀ i : Int, kC h i = 3 → 0 ≤ uC h i ∧ uC h i ≤ 9999) ∧ ∀ i : Int, kC h i = 2 → NV (uC h i)
def inT (h : gH) (i : Int) : Prop := 0 ≤ i ∧ i ≤ 500 ∧ i < hV h 31 4
def KI (h : gH) : Prop := KS5 h ∧ TKI h ∧ hV h 30 2 = kC h (hV h 30 1) ∧ inT h (hV h 30 1) ∧ 0 ≤ hV h 30 3 ∧ hV h 30 3 ≤ 2 ∧ (hV h 30 3 = 0 → 0 ≤ hV h 30 5 ∧ hV h 30 5 ≤ 6) ∧ (¬ hV h 30 3 = 0 → inT h (hV h 30 4)) ∧ (hV h 30 3 = 0 → ¬ hV h 30 5 = 0 → inT h (hV h 30 6))
theorem vwC_ok (h : gH) : wOK (vwC h) := fun s hs => if_pos hs
theorem vwC_kind {h : gH} {i : Int} (z : inT h i) : (vwC h).1 i = kC h i := by
  show (if i < 0 then -1 else if 500 < i then 0 else kC h i) = _
  rw [if_neg (by have := z.1; omega), if_neg (by have := z.2.1; omega)]
theorem vwC_place {h : gH} {i : Int} (z : inT h i) : (vwC h).2.2.2 i = lC h i := by
  show (if 500 < i then 0 else lC h i) = _
  rw [if_neg (by have := z.2.1; omega)]
theorem lC_in {h : gH} (z : TKI h) (i : Int) : 0 ≤ lC h i ∧ lC h i ≤ 2000 := by
  unfold lC
  split
  · exact z.2.2.2.1 _
  · omega
theorem vwC_pl {h : gH} (z : TKI h) (i : Int) : 0 ≤ (vwC h).2.2.2 i ∧ (vwC h).2.2.2 i ≤ 2000 := by
  show 0 ≤ (if 500 < i then 0 else lC h i) ∧ (if 500 < i then 0 else lC h i) ≤ 2000
  have := lC_in z i
  split <;> omega
theorem absC_at {h : gH} (hf : hV h 30 3 = 0) : absC h = (hV h 30 1, if hV h 30 5 = 0 then 0 else 8 * lC h (hV h 30 6) + hV h 30 5) := if_pos hf
theorem absC_off {h : gH} (hf : ¬ hV h 30 3 = 0) : absC h = (-(2 * lC h (hV h 30 4) + hV h 30 3), 0) := if_neg hf
theorem absC_neg {h : gH} (z : KI h) (hf : ¬ hV h 30 3 = 0) : (absC h).1 < 0 := by
  have l := lC_in z.2.1 (hV h 30 4)
  have := z.2.2.2.2.1
  rw [absC_off hf]
  show -(2 * lC h (hV h 30 4) + hV h 30 3) < 0
  omega
theorem absC_pos {h : gH} (z : KI h) (hf : hV h 30 3 = 0) : (absC h).1 = hV h 30 1 ∧ 0 ≤ (absC h).1 := by
  rw [absC_at hf]
  exact ⟨rfl, z.2.2.2.1.1⟩
theorem absC_ok {h : gH} (z : KI h) : pOK (absC h) := fun hn => by
  by_cases c : hV h 30 3 = 0
  · have := (absC_pos z c).2
    omega
  · rw [absC_off c]
/-- what a branch of the class knows -/
theorem kd_at {h : gH} (z : KI h) : (absC h).1 < 0 ∨ (vwC h).1 (absC h).1 = hV h 30 2 := by
  by_cases c : hV h 30 3 = 0
  · right
    rw [(absC_pos z c).1, vwC_kind z.2.2.2.1, z.2.2.1]
  · exact .inl (absC_neg z c)
theorem fault_of {h : gH} (z : KI h) (hn : (absC h).1 < 0) : ¬ hV h 30 3 = 0 := fun c => by
  have := (absC_pos z c).2
  omega
theorem fault_no {h : gH} (z : KI h) (hn : 0 ≤ (absC h).1) : hV h 30 3 = 0 := Classical.byContradiction fun c => by
  have := absC_neg z c
  omega
theorem pIf_yes {v : Vw} {p X Y : PS} {c : Int} (hv : wOK v) (hc : 0 ≤ c) (h : p.1 < 0 ∨ v.1 p.1 = c) (hn : p.1 < 0 → X = Y) : (if v.1 p.1 = c then X else Y) = X := by
  rcases h with h | h
  · rw [if_neg (vneg hv h hc), hn h]
  · exact if_pos h
theorem pIf_no {v : Vw} {p X Y : PS} {c : Int} (hv : wOK v) (hc : 0 ≤ c) (h : p.1 < 0 ∨ ¬ v.1 p.1 = c) : (if v.1 p.1 = c then X else Y) = Y := by
  rcases h with h | h
  · exact if_neg (vneg hv h hc)
  · exact if_neg h
/-- rows and count of the tokens stay -/
def TKs (a b : gH) : Prop := hV b 31 4 = hV a 31 4 ∧ hV b 33 = hV a 33 ∧ hV b 34 = hV a 34 ∧ hV b 35 = hV a 35
theorem TKs.refl (a : gH) : TKs a a := ⟨rfl, rfl, rfl, rfl⟩
theorem TKs.trans {a b c : gH} (x : TKs a b) (y : TKs b c) : TKs a c := ⟨y.1.trans x.1, y.2.1.trans x.2.1, y.2.2.1.trans x.2.2.1, y.2.2.2.trans x.2.2.2⟩
theorem TKs_up {a b : gH} {o i w : Int} (f : hUpd b a o i w) (h : o = 30) : TKs a b := by
  subst h
  exact ⟨uPlace f 31 4 (by decide), uRowNe f 33 (by decide), uRowNe f 34 (by decide), uRowNe f 35 (by decide)⟩
noncomputable def cVF (W : List (Nat × Nat)) : Bool := vFree W 31 4 && (vFreeR W 33 && (vFreeR W 34 && vFreeR W 35))
theorem TKs_fr {W : List (Nat × Nat)} {a b : gH} (f : hFr W a b) (c : cVF W = true) : TKs a b := by
  unfold cVF at c
  simp only [Bool.and_eq_true] at c
  exact ⟨f.1 31 4 c.1, fRow f 33 c.2.1, fRow f 34 c.2.2.1, fRow f 35 c.2.2.2⟩
theorem TKs_v {a b : gH} (x : TKs a b) : vwC b = vwC a ∧ (∀ i, kC b i = kC a i) ∧ (∀ i, uC b i = uC a i) ∧ ∀ i, lC b i = lC a i := by
  obtain ⟨x1, x2, x3, x4⟩ := x
  have k : ∀ i, kC b i = kC a i := fun i => by unfold kC; rw [x1, x2]
  have u : ∀ i, uC b i = uC a i := fun i => by unfold uC; rw [x1, x4]
  have l : ∀ i, lC b i = lC a i := fun i => by unfold lC; rw [x1, x3]
  refine ⟨?_, k, u, l⟩
  unfold vwC
  simp only [k, u, l]
theorem vwC_fr {W : List (Nat × Nat)} {a b : gH} (f : hFr W a b) (c : cVF W = true) : vwC b = vwC a := (TKs_v (TKs_fr f c)).1
theorem TKI_of {a b : gH} (x : TKs a b) (z : TKI a) : TKI b := by
  obtain ⟨_, k, u, _⟩ := TKs_v x
  obtain ⟨z1, z2, z3, z4, z5, z6⟩ := z
  exact ⟨by rw [x.1]; exact z1, by rw [x.1]; exact z2, by rw [x.1, k]; exact z3, fun i => by rw [x.2.2.1]; exact z4 i, fun i => by rw [k, u]; exact z5 i, fun i => by rw [k, u]; exact z6 i⟩
theorem inT_of {a b : gH} (x : TKs a b) {i : Int} (z : inT a i) : inT b i := ⟨z.1, z.2.1, by rw [x.1]; exact z.2.2⟩
theorem KS5_le {a b : gH} (le : hLe T0 a b) (z : KS5 a) : KS5 b := by
  obtain ⟨z1, z2, z3, z4, z5, z6, z7, z8⟩ := z
  exact ⟨kLe le z1 rfl, kLe le z2 rfl, kLe le z3 rfl, kLe le z4 rfl, kLe le z5 rfl, (le.2 _ (hK_lt z3 (by decide))).2.1.trans z6, (le.2 _ (hK_lt z4 (by decide))).2.1.trans z7, (le.2 _ (hK_lt z5 (by decide))).2.1.trans z8⟩
theorem KS5_up {a b : gH} {o i w : Int} (f : hUpd b a o i w) (z : KS5 a) : KS5 b := by
  obtain ⟨z1, z2, z3, z4, z5, z6, z7, z8⟩ := z
  exact ⟨(f.2.2 _).1.trans z1, (f.2.2 _).1.trans z2, (f.2.2 _).1.trans z3, (f.2.2 _).1.trans z4, (f.2.2 _).1.trans z5, (f.2.2 _).2.trans z6, (f.2.2 _).2.trans z7, (f.2.2 _).2.trans z8⟩
/-- what doesn't touch the state -/
def PFs (a b : gH) : Prop := absC b = absC a ∧ vwC b = vwC a ∧ KI b
theorem PF_of {a b : gH} (z : KI a) (q1 : hV b 30 1 = hV a 30 1) (q2 : hV b 30 2 = hV a 30 2) (q3 : hV b 30 3 = hV a 30 3) (q4 : hV b 30 4 = hV a 30 4) (q5 : hV b 30 5 = hV a 30 5) (q6 : hV b 30 6 = hV a 30 6) (x : TKs a b) (ks : KS5 b) : PFs a b := by
  obtain ⟨v, k, u, l⟩ := TKs_v x
  refine ⟨?_, v, ?_⟩
  · unfold absC
    rw [q1, q3, q4, q5, q6, l, l]
  · obtain ⟨y1, y2, y3, y4, y5, y6, y7, y8, y9⟩ := z
    exact ⟨ks, TKI_of x y2, by rw [q1, q2, k]; exact y3, by rw [q1]; exact inT_of x y4, by rw [q3]; exact y5, by rw [q3]; exact y6, by rw [q3, q5]; exact y7, by rw [q3, q4]; exact fun w => inT_of x (y8 w), by rw [q3, q5, q6]; exact fun w w2 => inT_of x (y9 w w2)⟩
noncomputable def cPF (W : List (Nat × Nat)) : Bool := vFree W 30 1 && (vFree W 30 2 && (vFree W 30 3 && (vFree W 30 4 && (vFree W 30 5 && (vFree W 30 6 && cVF W)))))
theorem PF_fr {W : List (Nat × Nat)} {a b : gH} (le : hLe T0 a b) (f : hFr W a b) (c : cPF W = true) (z : KI a) : PFs a b := by
  unfold cPF at c
  simp only [Bool.and_eq_true] at c
  obtain ⟨c1, c2, c3, c4, c5, c6, c7⟩ := c
  exact PF_of z (f.1 30 1 c1) (f.1 30 2 c2) (f.1 30 3 c3) (f.1 30 4 c4) (f.1 30 5 c5) (f.1 30 6 c6) (TKs_fr f c7) (KS5_le le z.1)
/-- a write to a cue -/
theorem PF_up {a b : gH} {o i w : Int} (f : hUpd b a o i w) (z : KI a) (k : hK a o.toNat = 1) : PFs a b := by
  have ne : ∀ q k' : Nat, hK a q = k' → ¬ k' = 1 → ¬ (q : Int) = o := fun q k' h1 h2 e => h2 (by rw [← h1, ← k, ← e, Int.toNat_natCast])
  have zz := z
  obtain ⟨z1, z2, z3, z4, z5, z6, z7, z8⟩ := z.1
  have n0 := ne 30 4 z1 (by decide)
  exact PF_of zz (uPlace f 30 1 n0) (uPlace f 30 2 n0) (uPlace f 30 3 n0) (uPlace f 30 4 n0) (uPlace f 30 5 n0) (uPlace f 30 6 n0) ⟨uPlace f 31 4 (ne 31 8 z2 (by decide)), uRowNe f 33 (ne 33 716 z3 (by decide)), uRowNe f 34 (ne 34 716 z4 (by decide)), uRowNe f 35 (ne 35 725 z5 (by decide))⟩ (KS5_up f zz.1)
-- the reader's own steps
theorem fail_st {a b : gH} {f : Int} (z : KI a) (hf : hV a 30 3 = 0) (h12 : f = 1 ∨ f = 2) (s1 : hV b 30 1 = hV a 30 1) (s2 : hV b 30 2 = hV a 30 2) (s3 : hV b 30 3 = f) (s4 : hV b 30 4 = hV a 30 1) (t : TKs a b) (ks : KS5 b) : KI b ∧ absC b = pfail (vwC a) f (absC a) := by
  obtain ⟨v1, v2, v3, v4⟩ := TKs_v t
  obtain ⟨y1, y2, y3, y4, y5, y6, y7, y8, y9⟩ := z
  have l := lC_in y2 (hV a 30 1)
  have p := y4.1
  constructor
  · exact ⟨ks, TKI_of t y2, by rw [s1, s2, v2]; exact y3, by rw [s1]; exact inT_of t y4, by rw [s3]; omega, by rw [s3]; omega, fun h0 => by rw [s3] at h0; omega, fun _ => by rw [s4]; exact inT_of t y4, fun h0 => by rw [s3] at h0; omega⟩
  · rw [absC_off (by rw [s3]; omega), absC_at hf, s3, s4, v4]
    unfold pfail pgz pfl
    rw [if_neg (show ¬ (hV a 30 1, _).1 < 0 by show ¬ hV a 30 1 < 0; omega)]
    show _ = (-(2 * (vwC a).2.2.2 (hV a 30 1) + f), if -(2 * (vwC a).2.2.2 (hV a 30 1) + f) < 0 then 0 else _)
    rw [vwC_place y4, if_pos (by omega)]
def pbl (v : Vw) (f t : Int) (p : PS) : PS := if p.1 < 0 then p else (p.1, if p.2 = 0 then 8 * v.2.2.2 t + f else p.2)
theorem pbl_neg {v : Vw} {f t : Int} {p : PS} (h : p.1 < 0) : pbl v f t p = p := if_pos h
theorem pbl_1 {v : Vw} {f t : Int} {p : PS} : (pbl v f t p).1 = p.1 := by
  unfold pbl
  split <;> rfl
theorem pbl_ok {v : Vw} {f t : Int} {p : PS} (h : pOK p) : pOK (pbl v f t p) := fun hn => by
  rw [pbl_1] at hn
  rw [pbl_neg hn]
  exact h hn
theorem blame_st {a b : gH} {f t : Int} (z : KI a) (h1 : 1 ≤ f) (h6 : f ≤ 6) (ht : inT a t) (hl : hV a 30 5 = 0) (s1 : hV b 30 1 = hV a 30 1) (s2 : hV b 30 2 = hV a 30 2) (s3 : hV b 30 3 = hV a 30 3) (s4 : hV b 30 4 = hV a 30 4) (s5 : hV b 30 5 = f) (s6 : hV b 30 6 = t) (x : TKs a b) (ks : KS5 b) : KI b ∧ absC b = pbl (vwC a) f t (absC a) := by
  obtain ⟨v1, v2, v3, v4⟩ := TKs_v x
  have zz := z
  obtain ⟨y1, y2, y3, y4, y5, y6, y7, y8, y9⟩ := z
  have p := y4.1
  constructor
  · exact ⟨ks, TKI_of x y2, by rw [s1, s2, v2]; exact y3, by rw [s1]; exact inT_of x y4, by rw [s3]; exact y5, by rw [s3]; exact y6, fun _ => by rw [s5]; omega, by rw [s3, s4]; exact fun w => inT_of x (y8 w), fun _ _ => by rw [s6]; exact inT_of x ht⟩
  · by_cases hf : hV a 30 3 = 0
    · rw [absC_at (by rw [s3]; exact hf), absC_at hf, s1, s5, s6, v4]
      unfold pbl
      rw [if_neg (show ¬ (hV a 30 1, _).1 < 0 by show ¬ hV a 30 1 < 0; omega), if_neg (show ¬ f = 0 by omega)]
      show _ = (hV a 30 1, if (if hV a 30 5 = 0 then 0 else _) = 0 then 8 * (vwC a).2.2.2 t + f else _)
      rw [if_pos (show (if hV a 30 5 = 0 then (0 : Int) else _) = 0 from if_pos hl), vwC_place ht]
    · rw [pbl_neg (absC_neg zz hf), absC_off (by rw [s3]; exact hf), absC_off hf, s3, s4, v4]
theorem blame_no {a : gH} {f t : Int} (z : KI a) (hl : ¬ hV a 30 5 = 0) : pbl (vwC a) f t (absC a) = absC a := by
  by_cases hf : hV a 30 3 = 0
  · have l := lC_in z.2.1 (hV a 30 6)
    have y := z.2.2.2.2.2.2.1 hf
    have y3 := z.2.2.2.1.1
    unfold pbl
    rw [absC_at hf, if_neg (show ¬ (hV a 30 1, _).1 < 0 by show ¬ hV a 30 1 < 0; omega)]
    show (hV a 30 1, if (if hV a 30 5 = 0 then (0 : Int) else _) = 0 then _ else _) = _
    rw [if_neg hl, if_neg (by omega)]
  · exact pbl_neg (absC_neg z hf)
theorem next_st {a b : gH} {c : Int} (z : KI a) (hf : hV a 30 3 = 0) (hk : hV a 30 2 = c) (hc : ¬ c = 0) (h5 : hV a 30 1 < 500) (s1 : hV b 30 1 = hV a 30 1 + 1) (s2 : hV b 30 2 = kC a (hV a 30 1 + 1)) (s3 : hV b 30 3 = 0) (s5 : hV b 30 5 = hV a 30 5) (s6 : hV b 30 6 = hV a 30 6) (x : TKs a b) (ks : KS5 b) : KI b ∧ absC b = ptk (vwC a) c (absC a) := by
  obtain ⟨v1, v2, v3, v4⟩ := TKs_v x
  obtain ⟨y1, y2, y3, y4, y5, y6, y7, y8, y9⟩ := z
  have p := y4.1
  have nl : ¬ hV a 30 1 = hV a 31 4 - 1 := fun e => hc (by rw [← hk, y3, e]; exact y2.2.2.1)
  have p2 := y4.2.2
  constructor
  · exact ⟨ks, TKI_of x y2, by rw [s1, s2, v2], by rw [s1]; exact inT_of x ⟨by omega, by omega, by omega⟩, by rw [s3]; omega, by rw [s3]; omega, fun _ => by rw [s5]; exact y7 hf, fun w => absurd s3 w, fun _ => by rw [s5, s6]; exact fun w => inT_of x (y9 hf w)⟩
  · have hv : (vwC a).1 (hV a 30 1) = c := by rw [vwC_kind y4, ← y3, hk]
    rw [absC_at s3, absC_at hf, s1, s5, s6, v4]
    unfold ptk pgz pt1
    rw [if_neg (show ¬ (hV a 30 1, _).1 < 0 by show ¬ hV a 30 1 < 0; omega), if_pos (show (vwC a).1 (hV a 30 1, _).1 = c from hv), if_pos (show (hV a 30 1, _).1 < 500 from h5)]
    exact Prod.ext rfl (if_neg (show ¬ hV a 30 1 + 1 < 0 by omega)).symm
theorem take_kind {a : gH} {c : Int} (z : KI a) (hk : ¬ hV a 30 2 = c) : ptk (vwC a) c (absC a) = pfail (vwC a) 1 (absC a) := by
  by_cases hf : hV a 30 3 = 0
  · have p := absC_pos z hf
    have hv : ¬ (vwC a).1 (absC a).1 = c := by
      rw [p.1, vwC_kind z.2.2.2.1, ← z.2.2.1]
      exact hk
    unfold ptk pfail pt1
    rw [if_neg (by omega), if_neg hv]
  · rw [ptk_neg (absC_neg z hf) (absC_ok z), pfail_neg (absC_neg z hf) (absC_ok z)]
theorem take_full {a : gH} {c : Int} (z : KI a) (hk : hV a 30 2 = c) (h5 : 500 ≤ hV a 30 1) : ptk (vwC a) c (absC a) = pfail (vwC a) 2 (absC a) := by
  by_cases hf : hV a 30 3 = 0
  · have p := absC_pos z hf
    have hv : (vwC a).1 (absC a).1 = c := by rw [p.1, vwC_kind z.2.2.2.1, ← z.2.2.1, hk]
    unfold ptk pfail pt1
    rw [if_neg (by omega), if_pos hv, if_neg (by omega)]
  · rw [ptk_neg (absC_neg z hf) (absC_ok z), pfail_neg (absC_neg z hf) (absC_ok z)]
theorem pfl_lt {h : gH} (z : TKI h) {f s : Int} (h1 : 1 ≤ f) : pfl (vwC h) f s < 0 := by
  unfold pfl
  split
  · assumption
  · have := vwC_pl z s
    omega
theorem pfail_lt {h : gH} (z : KI h) {f : Int} (h1 : 1 ≤ f) {p : PS} : (pfail (vwC h) f p).1 < 0 := pfl_lt z.2.1 h1
/-- a number: the blame ahead of the taking -/
theorem num_ok {h : gH} (z : KI h) {p : PS} {lo hi x : Int} (hp : pOK p) (hx : (vwC h).1 p.1 = 3 → x = (vwC h).2.1 p.1) : ptk (vwC h) 3 (if x < lo ∨ hi < x then pbl (vwC h) 5 p.1 p else p) = pnm (vwC h) lo hi p := by
  by_cases hn : p.1 < 0
  · rw [pnm_neg hn hp]
    split
    · rw [pbl_neg hn, ptk_neg hn hp]
    · exact ptk_neg hn hp
  · by_cases hk : (vwC h).1 p.1 = 3
    · rw [hx hk]
      by_cases c : (vwC h).2.1 p.1 < lo ∨ hi < (vwC h).2.1 p.1
      · rw [if_pos c]
        unfold pnm ptk pbl
        rw [if_neg hn]
        by_cases h2 : p.2 = 0
        · rw [if_pos h2, if_pos ⟨h2, c⟩]
        · rw [if_neg h2, if_neg (fun q => h2 q.1)]
      · rw [if_neg c]
        unfold pnm ptk
        rw [if_neg (fun q => c q.2)]
    · have t : pt1 (vwC h) 3 p.1 = pfl (vwC h) 1 p.1 := by
        unfold pt1
        rw [if_neg hn, if_neg hk]
      have tn : pfl (vwC h) 1 p.1 < 0 := pfl_lt z.2.1 (by decide)
      unfold pnm ptk
      have e1 : (if x < lo ∨ hi < x then pbl (vwC h) 5 p.1 p else p).1 = p.1 := by
        split
        · exact pbl_1
        · rfl
      rw [e1, t]
      unfold pgz
      rw [if_pos tn, if_pos tn]
theorem l2i_at {x : Int} (h0 : -2147483648 ≤ x) (h1 : x ≤ 2147483647) : (Int64.ofInt x).toInt32.toInt = x := by
  rw [Int64.toInt_toInt32, Int64.toInt_ofInt_of_le (by omega) (by omega), bmod32]
  unfold w32
  omega
theorem val_at {h : gH} (z : KI h) {x y : Int} (hy : y = uC h (hV h 30 1)) (hx : x = (Int64.ofInt y).toInt32.toInt) : (vwC h).1 (absC h).1 = 3 → x = (vwC h).2.1 (absC h).1 := fun h3 => by
  by_cases hf : hV h 30 3 = 0
  · rw [(absC_pos z hf).1] at h3 ⊢
    rw [vwC_kind z.2.2.2.1] at h3
    have b := z.2.1.2.2.2.2.1 _ h3
    show x = if 500 < hV h 30 1 then 0 else if kC h (hV h 30 1) = 3 then uC h (hV h 30 1) else 0
    rw [if_neg (by have := z.2.2.2.1.2.1; omega), if_pos h3, hx, hy, l2i_at (by omega) (by omega)]
  · have := vwC_ok h _ (absC_neg z hf)
    rw [this] at h3
    exact absurd h3 (by decide)
-- branches
theorem pOpt_ok {v : Vw} {c lo hi : Int} {p : PS} (h : pOK p) : pOK (pOpt v c lo hi p) := by
  unfold pOpt
  split
  · exact pgz_ok _ _
  · exact h
theorem pOpt_yes {v : Vw} {c lo hi : Int} {p : PS} (hv : wOK v) (hc : 0 ≤ c) (hp : pOK p) (h : p.1 < 0 ∨ v.1 p.1 = c) : pOpt v c lo hi p = pnm v lo hi (ptk v c p) := by
  unfold pOpt
  exact pIf_yes hv hc h (fun hn => by rw [ptk_neg hn hp, pnm_neg hn hp])
theorem pOpt_no {v : Vw} {c lo hi : Int} {p : PS} (hv : wOK v) (hc : 0 ≤ c) (h : p.1 < 0 ∨ ¬ v.1 p.1 = c) : pOpt v c lo hi p = p := by
  unfold pOpt
  exact pIf_no hv hc h
theorem pSpd_yes {v : Vw} {p : PS} (hv : wOK v) (hp : pOK p) (h : p.1 < 0 ∨ v.1 p.1 = 30) : pSpd v p = pnm v 1 9 (ptk v 9 (pnm v 1 9 (ptk v 30 p))) := by
  unfold pSpd
  exact pIf_yes hv (by decide) h (fun hn => by rw [ptk_neg hn hp, pnm_neg hn hp, ptk_neg hn hp, pnm_neg hn hp])
theorem pSpd_no {v : Vw} {p : PS} (hv : wOK v) (h : p.1 < 0 ∨ ¬ v.1 p.1 = 30) : pSpd v p = p := by
  unfold pSpd
  exact pIf_no hv (by decide) h
theorem pTime_int {v : Vw} {p : PS} (hv : wOK v) (h : p.1 < 0 ∨ ¬ v.1 p.1 = 37) : pTime v p = pnm v 0 60 p := by
  unfold pTime
  exact pIf_no hv (by decide) h
theorem pTime_mark {v : Vw} {p : PS} (hv : wOK v) (hp : pOK p) (h : p.1 < 0 ∨ v.1 p.1 = 37) (h6 : (pnm v 0 7 (ptk v 37 p)).1 < 0 ∨ ¬ v.1 (pnm v 0 7 (ptk v 37 p)).1 = 6) (h7 : (pnm v 0 7 (ptk v 37 p)).1 < 0 ∨ ¬ v.1 (pnm v 0 7 (ptk v 37 p)).1 = 7) : pTime v p = pnm v 0 7 (ptk v 37 p) := by
  unfold pTime
  rw [pIf_no hv (by decide) h6, pIf_no hv (by decide) h7]
  exact pIf_yes hv (by decide) h (fun hn => by rw [ptk_neg hn hp, pnm_neg hn hp, pnm_neg hn hp])
theorem pTime_plus {v : Vw} {p : PS} (hv : wOK v) (hp : pOK p) (h : p.1 < 0 ∨ v.1 p.1 = 37) (h6 : (pnm v 0 7 (ptk v 37 p)).1 < 0 ∨ v.1 (pnm v 0 7 (ptk v 37 p)).1 = 6) : pTime v p = pnm v 0 60 (ptk v 6 (pnm v 0 7 (ptk v 37 p))) := by
  unfold pTime
  rw [pIf_yes hv (by decide) h6 (fun hn => by rw [ptk_neg hn pnm_ok, pnm_neg hn pnm_ok, ptk_neg hn pnm_ok, pnm_neg hn pnm_ok]; split <;> rfl)]
  exact pIf_yes hv (by decide) h (fun hn => by rw [ptk_neg hn hp, pnm_neg hn hp, ptk_neg hn hp, pnm_neg hn hp])
theorem pTime_minus {v : Vw} {p : PS} (hv : wOK v) (hp : pOK p) (h : p.1 < 0 ∨ v.1 p.1 = 37) (h6 : (pnm v 0 7 (ptk v 37 p)).1 < 0 ∨ ¬ v.1 (pnm v 0 7 (ptk v 37 p)).1 = 6) (h7 : (pnm v 0 7 (ptk v 37 p)).1 < 0 ∨ v.1 (pnm v 0 7 (ptk v 37 p)).1 = 7) : pTime v p = pnm v 0 60 (ptk v 7 (pnm v 0 7 (ptk v 37 p))) := by
  unfold pTime
  rw [pIf_no hv (by decide) h6, pIf_yes hv (by decide) h7 (fun hn => by rw [ptk_neg hn pnm_ok, pnm_neg hn pnm_ok])]
  exact pIf_yes hv (by decide) h (fun hn => by rw [ptk_neg hn hp, pnm_neg hn hp, ptk_neg hn hp, pnm_neg hn hp])
theorem pTime_ok {v : Vw} {p : PS} : pOK (pTime v p) := by
  unfold pTime
  repeat' split
  all_goals exact pgz_ok _ _
theorem pWt_full {h : gH} (z : KI h) {k : Int} {p : PS} (hp : pOK p) (h3 : p.1 < 0 ∨ (vwC h).1 p.1 = 3) (h4 : 4 ≤ k) : pnm (vwC h) 0 400 (pfail (vwC h) 2 p) = pWt (vwC h) k p := by
  have hn := pfail_lt z (f := 2) (by decide) (p := p)
  rw [pnm_neg hn pfail_ok]
  rcases h3 with h3 | h3
  · rw [pfail_neg h3 hp, pWt_neg (vwC_ok h) h3 hp]
  · unfold pWt
    rw [if_pos ⟨h3, h4⟩]
theorem pWt_kind {v : Vw} (hv : wOK v) {k : Int} {p : PS} (hp : pOK p) (h3 : p.1 < 0 ∨ ¬ v.1 p.1 = 3) : pnm v 0 400 p = pWt v k p := by
  rcases h3 with h3 | h3
  · rw [pnm_neg h3 hp, pWt_neg hv h3 hp]
  · unfold pWt
    rw [if_neg (fun q => h3 q.1)]
theorem pWt_few {v : Vw} {k : Int} {p : PS} (h4 : k < 4) : pnm v 0 400 p = pWt v k p := by
  unfold pWt
  rw [if_neg (fun q => by omega)]
theorem pTl_step {v : Vw} {f : Nat} {k : Int} {p : PS} (h : v.1 p.1 = 5) : pTl v (f + 1) k p = pTl v f (k + 1) (pWt v k (ptk v 5 p)) := if_pos h
theorem pTl_stop {v : Vw} {f : Nat} {k : Int} {p : PS} (h : ¬ v.1 p.1 = 5) : pTl v f k p = p := by
  cases f with
  | zero => rfl
  | succ f => exact if_neg h
/-- the first place from i on (n of them) at which f is x -/
def bkI (f : Nat → Int) (x : Int) : Nat → Nat → Int
  | _, 0 => -1
  | i, n + 1 => if f i = x then (i : Int) else bkI f x (i + 1) n
theorem bkI_hit {f : Nat → Int} {x : Int} {i n : Nat} (h : f i = x) : bkI f x i (n + 1) = i := if_pos h
theorem bkI_no {f : Nat → Int} {x : Int} {i n : Nat} (h : ¬ f i = x) : bkI f x i (n + 1) = bkI f x (i + 1) n := if_neg h
def BLf (f g : Nat → Int) : Nat → Nat → List (Int × Int)
  | _, 0 => []
  | i, n + 1 => (c27 9 (f i), pcap (g i)) :: BLf f g (i + 1) n
theorem BLf_add {f g : Nat → Int} : ∀ {n i : Nat}, BLf f g i (n + 1) = BLf f g i n ++ [(c27 9 (f (i + n)), pcap (g (i + n)))] := by
  intro n
  induction n with
  | zero => intro i; rfl
  | succ n ih =>
    intro i
    show _ :: BLf f g (i + 1) (n + 1) = _ :: (BLf f g (i + 1) n ++ _)
    rw [ih, show i + 1 + n = i + (n + 1) by omega]
theorem pfd_bk {f g : Nat → Int} {x : Int} (hx : NV x) : ∀ {n i : Nat}, (∀ j, i ≤ j → j < i + n → NV (f j)) → (bkI f x i n = -1 ∧ pfd (BLf f g i n) (c27 9 x) = -1) ∨ ((i : Int) ≤ bkI f x i n ∧ bkI f x i n < ((i + n : Nat) : Int) ∧ pfd (BLf f g i n) (c27 9 x) = pcap (g (bkI f x i n).toNat)) := by
  intro n
  induction n with
  | zero => intro i _; exact .inl ⟨rfl, rfl⟩
  | succ n ih =>
    intro i hn
    by_cases h : f i = x
    · right
      rw [bkI_hit h]
      refine ⟨Int.le_refl _, by omega, ?_⟩
      show (if c27 9 (f i) = c27 9 x then pcap (g i) else _) = _
      rw [if_pos (by rw [h]), Int.toNat_natCast]
    · have hc : ¬ c27 9 (f i) = c27 9 x := fun e => h (NV_inj (hn i (Nat.le_refl _) (by omega)) hx e)
      have e : pfd (BLf f g i (n + 1)) (c27 9 x) = pfd (BLf f g (i + 1) n) (c27 9 x) := if_neg hc
      rw [bkI_no h, e]
      rcases ih (i := i + 1) (fun j h1 h2 => hn j (by omega) (by omega)) with c | ⟨c1, c2, c3⟩
      · exact .inl c
      · exact .inr ⟨by omega, by omega, c3⟩
theorem lcq {k x y : Int} (e : k = (lg_cmp (Int64.ofInt x) (Int64.ofInt y)).toInt) (h1 : 0 ≤ x) (h2 : x < 1099511627776) (h3 : 0 ≤ y) (h4 : y < 1099511627776) : k = 0 ↔ x = y := by
  have ex : (Int64.ofInt x).toInt = x := Int64.toInt_ofInt_of_le (by omega) (by omega)
  have ey : (Int64.ofInt y).toInt = y := Int64.toInt_ofInt_of_le (by omega) (by omega)
  have a1 := lg_cmp_ge (Int64.ofInt x) (Int64.ofInt y)
  have a2 := lg_cmp_le (Int64.ofInt x) (Int64.ofInt y)
  rw [Int32.le_iff_toInt_le, Int64.le_iff_toInt_le, ex, ey, ← e] at a1 a2
  have b1 : (0 ≤ k ↔ y ≤ x) := a1
  have b2 : (k ≤ 0 ↔ x ≤ y) := a2
  omega
def atQ (h : gH) (a i : Int) : Int := if 0 ≤ a ∧ 0 ≤ i ∧ i < (hN h a.toNat : Int) then hV h a.toNat i.toNat else 0
/-- the blocks told so far: names 48, totals 47, how many: slot 13 of 30 -/
def gB : Nat → Int
  | 0 => 1
  | n + 1 => 16 * gB n
def KB (h : gH) : Prop := hK h 48 = 733 ∧ hN h 48 = 6 ∧ hK h 47 = 740 ∧ hN h 47 = 7
def BI (h : gH) : Prop := KB h ∧ 0 ≤ hV h 30 13 ∧ hV h 30 13 ≤ 6 ∧ ∀ i : Nat, (i : Int) < hV h 30 13 → NV (hV h 48 i) ∧ 0 ≤ hV h 47 i ∧ hV h 47 i ≤ gB (i + 1)
def BLc (h : gH) : List (Int × Int) := BLf (hV h 48) (hV h 47) 0 (hV h 30 13).toNat
noncomputable def cBI (W : List (Nat × Nat)) : Bool := vFree W 30 13 && (vFreeR W 47 && vFreeR W 48)
theorem KB_le {a b : gH} (le : hLe T0 a b) (z : KB a) : KB b := ⟨kLe le z.1 rfl, (le.2 _ (hK_lt z.1 (by decide))).2.1.trans z.2.1, kLe le z.2.2.1 rfl, (le.2 _ (hK_lt z.2.2.1 (by decide))).2.1.trans z.2.2.2⟩
theorem BI_fr {W : List (Nat × Nat)} {a b : gH} (le : hLe T0 a b) (f : hFr W a b) (c : cBI W = true) (z : BI a) : BI b ∧ BLc b = BLc a := by
  unfold cBI at c
  simp only [Bool.and_eq_true] at c
  have e1 := f.1 30 13 c.1
  have e2 := fRow f 47 c.2.1
  have e3 := fRow f 48 c.2.2
  unfold BI BLc
  rw [e1, e2, e3]
  exact ⟨⟨KB_le le z.1, z.2⟩, rfl⟩
theorem BI_up {a b : gH} {o i w : Int} (f : hUpd b a o i w) (z : KI a) (y : BI a) (k : hK a o.toNat = 1) : BI b ∧ BLc b = BLc a := by
  have ne : ∀ q k' : Nat, hK a q = k' → ¬ k' = 1 → ¬ (q : Int) = o := fun q k' h1 h2 e => h2 (by rw [← h1, ← k, ← e, Int.toNat_natCast])
  have e1 : hV b 30 13 = hV a 30 13 := uPlace f 30 13 (ne 30 4 z.1.1 (by decide))
  have e2 := uRowNe f 47 (ne 47 740 y.1.2.2.1 (by decide))
  have e3 := uRowNe f 48 (ne 48 733 y.1.1 (by decide))
  unfold BI BLc
  rw [e1, e2, e3]
  exact ⟨⟨⟨(f.2.2 _).1.trans y.1.1, (f.2.2 _).2.trans y.1.2.1, (f.2.2 _).1.trans y.1.2.2.1, (f.2.2 _).2.trans y.1.2.2.2⟩, y.2⟩, rfl⟩
theorem pt1_kind {h : gH} (z : TKI h) {c s : Int} (hp : 0 ≤ pt1 (vwC h) c s) : 0 ≤ s ∧ (vwC h).1 s = c := by
  unfold pt1 at hp
  by_cases hs : s < 0
  · rw [if_pos hs] at hp
    omega
  · rw [if_neg hs] at hp
    by_cases hk : (vwC h).1 s = c
    · exact ⟨by omega, hk⟩
    · rw [if_neg hk] at hp
      have := pfl_lt z (f := 1) (s := s) (by decide)
      omega
/-- a name: the blame ahead of the taking -/
theorem name_ok {h : gH} (z : KI h) {p : PS} {b n : Int} {c d : Prop} [Decidable c] [Decidable d] (hp : pOK p) (hx : (vwC h).1 p.1 = 2 → (c ↔ d)) (hn1 : n = 8 * (vwC h).2.2.2 p.1 + b) : ptk (vwC h) 2 (if c then pbl (vwC h) b p.1 p else p) = pgz (pt1 (vwC h) 2 p.1) (if p.2 = 0 ∧ d then n else p.2) := by
  subst hn1
  by_cases hn : p.1 < 0
  · rw [pt1_neg hn, pgz_neg hn hp]
    split
    · rw [pbl_neg hn, ptk_neg hn hp]
    · exact ptk_neg hn hp
  · have e1 : (if c then pbl (vwC h) b p.1 p else p).1 = p.1 := by
      split
      · exact pbl_1
      · rfl
    unfold ptk
    rw [e1]
    by_cases hk : (vwC h).1 p.1 = 2
    · congr 1
      by_cases hc : c
      · rw [if_pos hc]
        unfold pbl
        rw [if_neg hn]
        by_cases h2 : p.2 = 0
        · rw [if_pos h2, if_pos ⟨h2, (hx hk).mp hc⟩]
        · rw [if_neg h2, if_neg (fun q => h2 q.1)]
      · rw [if_neg hc, if_neg (fun q => hc ((hx hk).mpr q.2))]
    · have tn : pt1 (vwC h) 2 p.1 < 0 := by
        have := pt1_kind z.2.1 (c := 2) (s := p.1)
        rcases Int.lt_or_le (pt1 (vwC h) 2 p.1) 0 with q | q
        · exact q
        · exact absurd (this q).2 hk
      unfold pgz
      rw [if_pos tn, if_pos tn]
theorem nm_at {h : gH} (z : KI h) {x : Int} (hx : x = uC h (hV h 30 1)) : (vwC h).1 (absC h).1 = 2 → NV x ∧ (vwC h).2.2.1 (absC h).1 = c27 9 x := fun h3 => by
  by_cases hf : hV h 30 3 = 0
  · rw [(absC_pos z hf).1] at h3 ⊢
    rw [vwC_kind z.2.2.2.1] at h3
    have b := z.2.1.2.2.2.2.2 _ h3
    refine ⟨by rw [hx]; exact b, ?_⟩
    show (if 500 < hV h 30 1 then 0 else if kC h (hV h 30 1) = 2 then c27 9 (uC h (hV h 30 1)) else 0) = _
    rw [if_neg (by have := z.2.2.2.1.2.1; omega), if_pos h3, hx]
  · have := vwC_ok h _ (absC_neg z hf)
    rw [this] at h3
    exact absurd h3 (by decide)
/-- what is found of a name among the blocks -/
def UNb (h : gH) (nm x : Int) : Prop := (x = -1 ∧ pfd (BLc h) nm = -1) ∨ (0 ≤ x ∧ x < hV h 30 13 ∧ x ≤ 5 ∧ pfd (BLc h) nm = pcap (hV h 47 x.toNat) ∧ ¬ pfd (BLc h) nm = -1)
theorem UNb_of {h : gH} (y : BI h) {x r : Int} (hx : NV x) (hr : r = bkI (hV h 48) x 0 (hV h 30 13).toNat) : UNb h (c27 9 x) r := by
  have q := pfd_bk (f := hV h 48) (g := hV h 47) hx (n := (hV h 30 13).toNat) (i := 0) (fun j _ hj => (y.2.2.2 j (by omega)).1)
  unfold UNb BLc
  rw [hr]
  rcases q with q | ⟨q1, q2, q3⟩
  · exact .inl q
  · refine .inr ⟨by omega, by omega, by have := y.2.2.1; omega, q3, ?_⟩
    rw [q3]
    have t := (y.2.2.2 (bkI (hV h 48) x 0 (hV h 30 13).toNat).toNat (by omega)).2.1
    unfold pcap
    split <;> omega
theorem BLf_congr {f f' g g' : Nat → Int} : ∀ {n i : Nat}, (∀ j, i ≤ j → j < i + n → f j = f' j ∧ g j = g' j) → BLf f g i n = BLf f' g' i n := by
  intro n
  induction n with
  | zero => intro i _; rfl
  | succ n ih =>
    intro i h
    unfold BLf
    rw [(h i (Nat.le_refl _) (by omega)).1, (h i (Nat.le_refl _) (by omega)).2, ih (fun j h1 h2 => h j (by omega) (by omega))]
def putQ (a0 a1 a2 : Int) (a b : gH) : Prop := ∀ o i : Nat, hV b o i = if (o : Int) = a0 ∧ (i : Int) = a1 ∧ (i : Int) < (hN a o : Int) then a2 else hV a o i
theorem putQ_same {a0 a1 a2 : Int} {a : gH} (h : a0 < 0 ∨ a1 < 0 ∨ (hN a a0.toNat : Int) ≤ a1) : putQ a0 a1 a2 a a := fun o i => by
  rw [if_neg]
  intro z
  obtain ⟨z1, z2, z3⟩ := z
  rcases h with h | h | h
  · omega
  · omega
  · rw [show a0.toNat = o by omega] at h
    omega
theorem putQ_upd {a0 a1 a2 : Int} {a b : gH} (f : hUpd b a a0 a1 a2) (h : a1 < (hN a a0.toNat : Int)) : putQ a0 a1 a2 a b := fun o i => by
  rw [f.1 o i]
  by_cases c : (o : Int) = a0 ∧ (i : Int) = a1
  · rw [if_pos c, if_pos ⟨c.1, c.2, by rw [show a0.toNat = o by omega] at h; omega⟩]
  · rw [if_neg c, if_neg (fun z => c ⟨z.1, z.2.1⟩)]
/-- a name put behind those of the blocks -/
theorem BI_name {W : List (Nat × Nat)} {a b : gH} {x : Int} (le : hLe T0 a b) (f : hFr W a b) (c : (vFree W 30 13 && vFreeR W 47) = true) (z : BI a) (p : putQ 48 (hV a 30 13) x a b) : BI b ∧ BLc b = BLc a ∧ hV b 30 13 = hV a 30 13 ∧ hV b 47 = hV a 47 ∧ (hV a 30 13 < 6 → hV b 48 (hV a 30 13).toNat = x) := by
  rw [Bool.and_eq_true] at c
  have e1 := f.1 30 13 c.1
  have e2 := fRow f 47 c.2
  obtain ⟨z1, z2, z3, z4⟩ := z
  have e3 : ∀ i : Nat, (i : Int) < hV a 30 13 → hV b 48 i = hV a 48 i := fun i hi => by
    rw [p 48 i, if_neg (fun q => by omega)]
  refine ⟨⟨KB_le le z1, by rw [e1]; exact z2, by rw [e1]; exact z3, fun i hi => ?_⟩, ?_, e1, e2, fun h6 => ?_⟩
  · rw [e1] at hi
    rw [e3 i hi, e2]
    exact z4 i hi
  · unfold BLc
    rw [e1]
    exact BLf_congr (fun j _ hj => ⟨e3 j (by omega), by rw [e2]⟩)
  · rw [p 48 (hV a 30 13).toNat, if_pos ⟨rfl, by omega, by rw [z1.2.1]; omega⟩]
/-- the blocks are one more -/
theorem BI_more {a b : gH} (z : BI a) (h6 : hV a 30 13 < 6) (nv : NV (hV a 48 (hV a 30 13).toNat)) (t0 : 0 ≤ hV a 47 (hV a 30 13).toNat) (t1 : hV a 47 (hV a 30 13).toNat ≤ gB ((hV a 30 13).toNat + 1)) (e : hV b 30 13 = hV a 30 13 + 1) (r1 : hV b 47 = hV a 47) (r2 : hV b 48 = hV a 48) (k : KB b) : BI b ∧ BLc b = BLc a ++ [(c27 9 (hV a 48 (hV a 30 13).toNat), pcap (hV a 47 (hV a 30 13).toNat))] := by
  obtain ⟨z1, z2, z3, z4⟩ := z
  refine ⟨⟨k, by omega, by omega, fun i hi => ?_⟩, ?_⟩
  · rw [r1, r2]
    by_cases hb : (i : Int) = hV a 30 13
    · rw [show i = (hV a 30 13).toNat by omega]
      exact ⟨nv, t0, t1⟩
    · exact z4 i (by omega)
  · unfold BLc
    rw [e, r1, r2, show (hV a 30 13 + 1).toNat = (hV a 30 13).toNat + 1 by omega, BLf_add, Nat.zero_add]
theorem KB_up {a b : gH} {o i w : Int} (f : hUpd b a o i w) (z : KB a) : KB b := ⟨(f.2.2 _).1.trans z.1, (f.2.2 _).2.trans z.2.1, (f.2.2 _).1.trans z.2.2.1, (f.2.2 _).2.trans z.2.2.2⟩
theorem PF_13 {a b : gH} {w : Int} (f : hUpd b a 30 13 w) (z : KI a) : PFs a b := PF_of z (uSlot f 30 1 (by decide)) (uSlot f 30 2 (by decide)) (uSlot f 30 3 (by decide)) (uSlot f 30 4 (by decide)) (uSlot f 30 5 (by decide)) (uSlot f 30 6 (by decide)) (TKs_up f rfl) (KS5_up f z.1)
theorem pRel_yes {v : Vw} {k : Int} {p : PS} (hv : wOK v) (hp : pOK p) (h1 : 12 ≤ k) (h2 : k ≤ 15) (h : p.1 < 0 ∨ v.1 p.1 = k) : ptk v k p = pRel v p := by
  rcases h with h | h
  · rw [ptk_neg h hp, pRel_neg hv h hp]
  · unfold pRel
    rw [h, if_pos ⟨h1, h2⟩]
theorem pRel_no {v : Vw} {k : Int} {p : PS} (hv : wOK v) (hp : pOK p) (hk : k < 12 ∨ 15 < k) (h : p.1 < 0 ∨ v.1 p.1 = k) : pfail v 1 p = pRel v p := by
  rcases h with h | h
  · rw [pfail_neg h hp, pRel_neg hv h hp]
  · unfold pRel
    rw [h, if_neg (by omega)]
theorem pNots_step {v : Vw} {f : Nat} {p : PS} (h : v.1 p.1 = 44) : pNots v (f + 1) p = pNots v f (ptk v 44 p) := if_pos h
theorem pNots_stop {v : Vw} {f : Nat} {p : PS} (h : ¬ v.1 p.1 = 44) : pNots v f p = p := by
  cases f with
  | zero => rfl
  | succ f => exact if_neg h
/-- a token taken well: the next one -/
theorem ptk_next {h : gH} (z : TKI h) {c : Int} {p : PS} (hp : 0 ≤ (ptk (vwC h) c p).1) : (ptk (vwC h) c p).1 = p.1 + 1 := by
  have q := pt1_kind z (show 0 ≤ pt1 (vwC h) c p.1 from hp)
  show pt1 (vwC h) c p.1 = p.1 + 1
  have hp' : 0 ≤ pt1 (vwC h) c p.1 := hp
  unfold pt1 at hp' ⊢
  rw [if_neg (by omega), if_pos q.2] at hp' ⊢
  by_cases h5 : p.1 < 500
  · rw [if_pos h5]
  · rw [if_neg h5] at hp'
    have := pfl_lt z (f := 2) (s := p.1) (by decide)
    omega
theorem PF_30 {a b : gH} {o i w : Int} (f : hUpd b a o i w) (ho : o = 30) (hi : 6 < i) (z : KI a) : PFs a b := by
  subst ho
  exact PF_of z (uSlot f 30 1 (by omega)) (uSlot f 30 2 (by omega)) (uSlot f 30 3 (by omega)) (uSlot f 30 4 (by omega)) (uSlot f 30 5 (by omega)) (uSlot f 30 6 (by omega)) (TKs_up f rfl) (KS5_up f z.1)
theorem pE_1 {v : Vw} {f : Nat} {o k : Int} {p : PS} (hv : v.1 p.1 = k) : pE v (f + 1) 1 o p = if k = 10 then (if o = 6 then pfail v 2 p else pE v f 1 (o + 1) (ptk v 10 p)) else if k = 3 ∨ (45 ≤ k ∧ k ≤ 49) then pE v f 0 o (ptk v k p) else pfail v 1 p := by
  subst hv
  exact if_pos rfl
theorem pE_0 {v : Vw} {f : Nat} {o k : Int} {p : PS} (hv : v.1 p.1 = k) : pE v (f + 1) 0 o p = if k = 11 ∧ 0 < o then pE v f 0 (o - 1) (ptk v 11 p) else if 6 ≤ k ∧ k ≤ 9 then pE v f 1 o (ptk v k p) else if 0 < o then pfail v 1 p else p := by
  subst hv
  exact if_neg (by decide)
/-- what is read moves on -/
theorem ptk_mono {h : gH} (z : TKI h) {c : Int} {p : PS} (hp : 0 ≤ (ptk (vwC h) c p).1) : 0 ≤ p.1 ∧ p.1 < (ptk (vwC h) c p).1 := by
  have q := pt1_kind z (show 0 ≤ pt1 (vwC h) c p.1 from hp)
  have e := ptk_next z hp
  omega
theorem pfail_no {h : gH} (z : TKI h) {f : Int} (h1 : 1 ≤ f) {p : PS} : ¬ 0 ≤ (pfail (vwC h) f p).1 := fun q => by
  have := pfl_lt z (f := f) (s := p.1) h1
  have e : (pfail (vwC h) f p).1 = pfl (vwC h) f p.1 := rfl
  omega
theorem pE_mono {h : gH} (z : TKI h) : ∀ {f : Nat} {b o : Int} {p : PS}, 0 ≤ (pE (vwC h) f b o p).1 → p.1 ≤ (pE (vwC h) f b o p).1 := by
  intro f
  induction f with
  | zero => intro b o p _; exact Int.le_refl _
  | succ f ih =>
    intro b o p hp
    have step : ∀ {b' o' c : Int}, 0 ≤ (pE (vwC h) f b' o' (ptk (vwC h) c p)).1 → p.1 ≤ (pE (vwC h) f b' o' (ptk (vwC h) c p)).1 := fun {b' o' c} q => by
      have i := ih q
      rcases Int.lt_or_le (ptk (vwC h) c p).1 0 with n | n
      · rw [pE_neg (vwC_ok h) n ptk_ok] at q
        omega
      · have := (ptk_mono z n).2
        omega
    unfold pE at hp ⊢
    by_cases hb : b = 1
    · rw [if_pos hb] at hp ⊢
      by_cases h10 : (vwC h).1 p.1 = 10
      · rw [if_pos h10] at hp ⊢
        by_cases h6 : o = 6
        · rw [if_pos h6] at hp
          exact absurd hp (pfail_no z (by decide))
        · rw [if_neg h6] at hp ⊢
          exact step hp
      · rw [if_neg h10] at hp ⊢
        by_cases hu : (vwC h).1 p.1 = 3 ∨ (45 ≤ (vwC h).1 p.1 ∧ (vwC h).1 p.1 ≤ 49)
        · rw [if_pos hu] at hp ⊢
          exact step hp
        · rw [if_neg hu] at hp
          exact absurd hp (pfail_no z (by decide))
    · rw [if_neg hb] at hp ⊢
      by_cases h11 : (vwC h).1 p.1 = 11 ∧ 0 < o
      · rw [if_pos h11] at hp ⊢
        exact step hp
      · rw [if_neg h11] at hp ⊢
        by_cases h6 : 6 ≤ (vwC h).1 p.1 ∧ (vwC h).1 p.1 ≤ 9
        · rw [if_pos h6] at hp ⊢
          exact step hp
        · rw [if_neg h6] at hp ⊢
          by_cases ho : 0 < o
          · rw [if_pos ho] at hp
            exact absurd hp (pfail_no z (by decide))
          · rw [if_neg ho]
            exact Int.le_refl _
theorem pExp_mono {h : gH} (z : TKI h) {p : PS} (hp : 0 ≤ (pExp (vwC h) p).1) : p.1 ≤ (pExp (vwC h) p).1 := pE_mono z hp
theorem pExp_ok {v : Vw} : ∀ {f : Nat} {b o : Int} {p : PS}, pOK p → pOK (pE v f b o p) := by
  intro f
  induction f with
  | zero => intro b o p h; exact h
  | succ f ih =>
    intro b o p h
    unfold pE
    split
    · split
      · split
        · exact pfail_ok
        · exact ih ptk_ok
      · split
        · exact ih ptk_ok
        · exact pfail_ok
    · split
      · exact ih ptk_ok
      · split
        · exact ih ptk_ok
        · split
          · exact pfail_ok
          · exact h
theorem pNots_ok {v : Vw} : ∀ {f : Nat} {p : PS}, pOK p → pOK (pNots v f p) := by
  intro f
  induction f with
  | zero => intro p h; exact h
  | succ f ih =>
    intro p h
    unfold pNots
    split
    · exact ih ptk_ok
    · exact h
theorem pNots_mono {h : gH} (z : TKI h) : ∀ {f : Nat} {p : PS}, 0 ≤ (pNots (vwC h) f p).1 → p.1 ≤ (pNots (vwC h) f p).1 := by
  intro f
  induction f with
  | zero => intro p _; exact Int.le_refl _
  | succ f ih =>
    intro p hp
    unfold pNots at hp ⊢
    by_cases c : (vwC h).1 p.1 = 44
    · rw [if_pos c] at hp ⊢
      have i := ih hp
      rcases Int.lt_or_le (ptk (vwC h) 44 p).1 0 with n | n
      · rw [pNots_neg (vwC_ok h) n] at hp
        omega
      · have := (ptk_mono z n).2
        omega
    · rw [if_neg c]
      exact Int.le_refl _
theorem pRel_ok {v : Vw} {p : PS} : pOK (pRel v p) := by
  unfold pRel
  split
  · exact ptk_ok
  · exact pfail_ok
theorem pRel_mono {h : gH} (z : TKI h) {p : PS} (hp : 0 ≤ (pRel (vwC h) p).1) : p.1 ≤ (pRel (vwC h) p).1 := by
  unfold pRel at hp ⊢
  split at hp
  · rename_i c
    rw [if_pos c]
    have := (ptk_mono z hp).2
    omega
  · exact absurd hp (pfail_no z (by decide))
theorem pLit_mono {h : gH} (z : TKI h) {p : PS} (ho : pOK p) (hp : 0 ≤ (pLit (vwC h) p).1) : p.1 ≤ (pLit (vwC h) p).1 := by
  unfold pLit at hp ⊢
  have a1 := pExp_mono z hp
  have n1 : 0 ≤ (pRel (vwC h) (pExp (vwC h) (pNots (vwC h) (502 - p.1).toNat p))).1 := by
    rcases Int.lt_or_le (pRel (vwC h) (pExp (vwC h) (pNots (vwC h) (502 - p.1).toNat p))).1 0 with n | n
    · rw [pExp_neg (vwC_ok h) n pRel_ok] at hp
      exact hp
    · exact n
  have a2 := pRel_mono z n1
  have o1 : pOK (pExp (vwC h) (pNots (vwC h) (502 - p.1).toNat p)) := pExp_ok (pNots_ok ho)
  have n2 : 0 ≤ (pExp (vwC h) (pNots (vwC h) (502 - p.1).toNat p)).1 := by
    rcases Int.lt_or_le (pExp (vwC h) (pNots (vwC h) (502 - p.1).toNat p)).1 0 with n | n
    · rw [pRel_neg (vwC_ok h) n o1] at n1
      exact n1
    · exact n
  have a3 := pExp_mono z n2
  have n3 : 0 ≤ (pNots (vwC h) (502 - p.1).toNat p).1 := by
    rcases Int.lt_or_le (pNots (vwC h) (502 - p.1).toNat p).1 0 with n | n
    · rw [pExp_neg (vwC_ok h) n (pNots_ok ho)] at n2
      exact n2
    · exact n
  have a4 := pNots_mono z n3
  omega
theorem pCond_step {v : Vw} {f : Nat} {p : PS} : pCond v (f + 1) p = if v.1 (pLit v p).1 = 42 ∨ v.1 (pLit v p).1 = 43 then pCond v f (ptk v (v.1 (pLit v p).1) (pLit v p)) else pLit v p := rfl
theorem pLit_ok {v : Vw} {p : PS} : pOK (pLit v p) := pExp_ok pRel_ok
