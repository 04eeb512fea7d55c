/-! RULES: code told behind its numbers, signs that wait, literals. -/
/-- how many stand on the pile behind n codes from i on -/
def dpt (f : Nat → Int) (i : Nat) : Nat → Int
  | 0 => 0
  | n + 1 => if f (i + n) < 2 then dpt f i n + 1 else dpt f i n - 1
def CGp (code ci : Nat → Int) (a b : Int) : Prop := a ≤ b ∧ ∀ n : Nat, a + n < b → (code (a.toNat + n) = 1 → ci (a.toNat + n) ≤ 4) ∧ (¬ code (a.toNat + n) < 2 → 2 ≤ dpt code a.toNat n)
theorem dpt_cong {f g : Nat → Int} {i : Nat} : ∀ {n : Nat}, (∀ k, k < n → f (i + k) = g (i + k)) → dpt f i n = dpt g i n := by
  intro n
  induction n with
  | zero => intro _; rfl
  | succ n ih =>
    intro h
    unfold dpt
    rw [ih fun k hk => h k (by omega), h n (by omega)]
theorem CG_cong {code ci code' ci' : Nat → Int} {a b : Int} (h : CGp code ci a b) (h0 : 0 ≤ a) (e : ∀ x : Nat, a ≤ x → (x : Int) < b → code' x = code x ∧ ci' x = ci x) : CGp code' ci' a b := by
  refine ⟨h.1, fun n hn => ?_⟩
  have z := h.2 n hn
  have y := e (a.toNat + n) (by omega) (by omega)
  rw [y.1, y.2, dpt_cong (g := code) fun k hk => (e (a.toNat + k) (by omega) (by omega)).1]
  exact z
theorem CG_nil {code ci : Nat → Int} {a : Int} : CGp code ci a a := ⟨Int.le_refl _, fun n hn => by omega⟩
theorem dpt_le {f : Nat → Int} {i : Nat} : ∀ n : Nat, dpt f i n ≤ n := by
  intro n
  induction n with
  | zero => exact Int.le_refl 0
  | succ n ih =>
    unfold dpt
    split <;> omega
theorem CG_pos {code ci : Nat → Int} {a b : Int} (h : CGp code ci a b) : ∀ n : Nat, a + n ≤ b → 0 ≤ dpt code a.toNat n := by
  intro n
  induction n with
  | zero => intro _; exact Int.le_refl 0
  | succ n ih =>
    intro hn
    have z := h.2 n (by omega)
    have y := ih (by omega)
    unfold dpt
    by_cases q : code (a.toNat + n) < 2
    · rw [if_pos q]
      omega
    · rw [if_neg q]
      have := z.2 q
      omega
/-- code told from a on: d stand on the pile -/
def EXp (code ci : Nat → Int) (a b d : Int) : Prop := CGp code ci a b ∧ dpt code a.toNat (b - a).toNat = d
theorem EX_first {code ci : Nat → Int} {a b d : Int} (e : a = b) (hd : d = 0) : EXp code ci a b d := by
  subst e hd
  refine ⟨CG_nil, ?_⟩
  rw [show (a - a).toNat = 0 by omega]
  rfl
theorem EX_step {code ci : Nat → Int} {a b d d' k v i j b' : Int} (h : EXp code ci a b d) (h0 : 0 ≤ a) (hi : i = b) (hj : j = b) (hb : b' = b + 1) (hk : (k < 2 ∧ d' = d + 1 ∧ (k = 1 → v ≤ 4)) ∨ (¬ k < 2 ∧ d' = d - 1 ∧ 2 ≤ d)) : EXp (uF code i k) (uF ci j v) a b' d' := by
  have hab := h.1.1
  have lo : ∀ x : Nat, (x : Int) < b → uF code i k x = code x ∧ uF ci j v x = ci x := fun x hx => by
    rw [uF_at, uF_at, if_neg (by omega), if_neg (by omega)]
    exact ⟨rfl, rfl⟩
  have hc : CGp (uF code i k) (uF ci j v) a b := CG_cong h.1 h0 fun x _ hx => lo x hx
  have en : a.toNat + (b - a).toNat = b.toNat := by omega
  have ek : uF code i k b.toNat = k := by rw [uF_at, if_pos (by omega)]
  have ev : uF ci j v b.toNat = v := by rw [uF_at, if_pos (by omega)]
  have ed : dpt (uF code i k) a.toNat (b - a).toNat = d := by
    rw [dpt_cong (g := code) fun x hx => (lo (a.toNat + x) (by omega)).1]
    exact h.2
  refine ⟨⟨by omega, fun n hn => ?_⟩, ?_⟩
  · by_cases q : a + n < b
    · exact hc.2 n q
    · rw [show n = (b - a).toNat by omega, en, ek, ev, ed]
      refine ⟨fun z => ?_, fun z => ?_⟩
      · rcases hk with y | y
        · exact y.2.2 z
        · omega
      · omega
  · rw [show (b' - a).toNat = (b - a).toNat + 1 by omega]
    unfold dpt
    rw [en, ek, ed]
    by_cases q : k < 2
    · rw [if_pos q]
      omega
    · rw [if_neg q]
      omega
/-- how many of those that wait are brackets -/
def wo (w : Nat → Int) : Nat → Int
  | 0 => 0
  | n + 1 => wo w n + if w n = 6 then 1 else 0
theorem wo_cong {w v : Nat → Int} : ∀ {n : Nat}, (∀ k, k < n → w k = v k) → wo w n = wo v n := by
  intro n
  induction n with
  | zero => intro _; rfl
  | succ n ih =>
    intro h
    unfold wo
    rw [ih fun k hk => h k (by omega), h n (by omega)]
theorem wo_le {w : Nat → Int} : ∀ n : Nat, 0 ≤ wo w n ∧ wo w n ≤ n := by
  intro n
  induction n with
  | zero => exact ⟨Int.le_refl 0, Int.le_refl 0⟩
  | succ n ih =>
    unfold wo
    split <;> omega
theorem wo_push {w : Nat → Int} {n i v : Int} (h0 : 0 ≤ n) (hi : i = n) : wo (uF w i v) (n + 1).toNat = wo w n.toNat + if v = 6 then 1 else 0 := by
  rw [show (n + 1).toNat = n.toNat + 1 by omega]
  show wo _ _ + _ = _
  have e : uF w i v n.toNat = v := by rw [uF_at, if_pos (by omega)]
  rw [wo_cong (v := w) fun k hk => by rw [uF_at, if_neg (by omega)], e]
theorem wo_pop {w : Nat → Int} {n : Int} (h0 : 0 < n) : wo w n.toNat = wo w (n - 1).toNat + if w (n - 1).toNat = 6 then 1 else 0 := by
  rw [show n.toNat = (n - 1).toNat + 1 by omega]
  rfl
/-- between brackets at most one weak sign and behind it one strong -/
def WTp (w : Nat → Int) (n : Int) : Prop := ∀ i : Nat, (i : Int) < n → (i : Int) + 1 ≤ 3 * wo w (i + 1) + 2 ∧ (w i = 6 → (i : Int) + 1 ≤ 3 * wo w (i + 1)) ∧ (w i = 8 ∨ w i = 9 → (i : Int) + 1 ≤ 3 * wo w (i + 1) + 1)
theorem WT_nil {w : Nat → Int} {n : Int} (h : n = 0) : WTp w n := fun i hi => by omega
theorem WT_pop {w : Nat → Int} {n n' : Int} (h : WTp w n) (hn : n' ≤ n) : WTp w n' := fun i hi => h i (by omega)
theorem WT_bound {w : Nat → Int} {n : Int} (h : WTp w n) (h0 : 0 ≤ n) : n ≤ 3 * wo w n.toNat + 2 := by
  by_cases q : n = 0
  · subst q
    exact (by decide : (0 : Int) ≤ 3 * 0 + 2)
  · have z := (h (n - 1).toNat (by omega)).1
    rw [show (n - 1).toNat + 1 = n.toNat by omega] at z
    omega
theorem WT_push {w : Nat → Int} {n i v n' : Int} (h : WTp w n) (h0 : 0 ≤ n) (hi : i = n) (hn : n' = n + 1) (hv : v = 6 ∨ ((v = 8 ∨ v = 9) ∧ (n = 0 ∨ w (n - 1).toNat = 6)) ∨ (¬ v = 8 ∧ ¬ v = 9 ∧ (n = 0 ∨ w (n - 1).toNat = 6 ∨ w (n - 1).toNat = 8 ∨ w (n - 1).toNat = 9))) : WTp (uF w i v) n' := fun k hk => by
  by_cases q : (k : Int) = n
  · have e := wo_push (w := w) (n := n) (i := i) (v := v) h0 hi
    rw [show (n + 1).toNat = k + 1 by omega] at e
    have b := WT_bound h h0
    have e2 : uF w i v k = v := by rw [uF_at, if_pos (by omega)]
    rw [e, e2]
    by_cases z : n = 0
    · subst z
      have : wo w (0 : Int).toNat = 0 := rfl
      rw [this]
      split <;> omega
    · have y := h (n - 1).toNat (by omega)
      rw [show (n - 1).toNat + 1 = n.toNat by omega] at y
      split <;> omega
  · have e2 : uF w i v k = w k := by rw [uF_at, if_neg (by omega)]
    rw [wo_cong (v := w) fun j hj => by rw [uF_at, if_neg (by omega)], e2]
    exact h k (by omega)
/-- what comes out keeps the code good, wherever it began -/
def COp (code0 ci0 code ci : Nat → Int) (c0 d0 c1 d1 : Int) : Prop := c0 ≤ c1 ∧ (∀ x : Nat, (x : Int) < c0 → code x = code0 x ∧ ci x = ci0 x) ∧ ∀ a, 0 ≤ a → a ≤ c0 → EXp code0 ci0 a c0 d0 → EXp code ci a c1 d1
theorem CO_refl {code ci : Nat → Int} {c0 d0 c1 d1 : Int} (e : c1 = c0) (e2 : d1 = d0) : COp code ci code ci c0 d0 c1 d1 := by
  subst e e2
  exact ⟨Int.le_refl _, fun _ _ => ⟨rfl, rfl⟩, fun _ _ _ z => z⟩
theorem CO_step {code0 ci0 code ci : Nat → Int} {c0 d0 c1 d1 k v i j c2 d2 : Int} (h : COp code0 ci0 code ci c0 d0 c1 d1) (hi : i = c1) (hj : j = c1) (hc : c2 = c1 + 1) (hk : (k < 2 ∧ d2 = d1 + 1 ∧ (k = 1 → v ≤ 4)) ∨ (¬ k < 2 ∧ d2 = d1 - 1 ∧ 2 ≤ d1)) : COp code0 ci0 (uF code i k) (uF ci j v) c0 d0 c2 d2 := by
  refine ⟨by have := h.1; omega, fun x hx => ?_, fun a a0 ac z => EX_step (h.2.2 a a0 ac z) a0 hi hj hc hk⟩
  have := h.1
  rw [uF_at, uF_at, if_neg (by omega), if_neg (by omega)]
  exact h.2.1 x hx
theorem CO_trans {code0 ci0 code1 ci1 code2 ci2 : Nat → Int} {c0 d0 c1 d1 d1' c2 d2 : Int} (h : COp code0 ci0 code1 ci1 c0 d0 c1 d1) (e : d1' = d1) (g : COp code1 ci1 code2 ci2 c1 d1' c2 d2) : COp code0 ci0 code2 ci2 c0 d0 c2 d2 := by
  subst e
  have h1 := h.1
  have g1 := g.1
  refine ⟨by omega, fun x hx => ?_, fun a a0 ac z => g.2.2 a a0 (by omega) (h.2.2 a a0 ac z)⟩
  have y := g.2.1 x (by omega)
  rw [y.1, y.2]
  exact h.2.1 x hx
theorem CO_end {code0 ci0 code ci : Nat → Int} {c0 c1 d : Int} (h : COp code0 ci0 code ci c0 0 c1 d) (h0 : 0 ≤ c0) : CGp code ci c0 c1 := (h.2.2 c0 h0 (Int.le_refl _) (EX_first rfl rfl)).1
/-! LITERALS AND RULES that stand -/
def lok (ll lr le code ci : Nat → Int) (sd E : Int) (l : Nat) : Prop := 600 * sd ≤ ll l ∧ le l ≤ E ∧ CGp code ci (ll l) (lr l) ∧ CGp code ci (lr l) (le l)
def rok (rs rf rt lf la ll lr le code ci : Nat → Int) (sd E L : Int) (q : Nat) : Prop := (rs q = 0 → 600 * sd ≤ rf q ∧ rt q ≤ E ∧ CGp code ci (rf q) (rt q)) ∧ 200 * sd ≤ lf q ∧ la q ≤ L ∧ ∀ l : Nat, lf q ≤ l → (l : Int) < la q → lok ll lr le code ci sd E l
def RGs (ru rs rf rt lf la ll lr le code ci : Nat → Int) (sd E L : Int) : Prop := ∀ r : Nat, (r : Int) < ru sd.toNat → rok rs rf rt lf la ll lr le code ci sd E L (12 * sd.toNat + r)
def LGs (ll lr le code ci : Nat → Int) (sd E L : Int) : Prop := ∀ l : Nat, 200 * sd ≤ (l : Int) → (l : Int) < L → lok ll lr le code ci sd E l
/-- while rules are told on the side that doesn't count -/
def RRs (ru rs rf rt lf la ll lr le code ci : Nat → Int) (lv sd E L : Int) : Prop := RGs ru rs rf rt lf la ll lr le code ci lv (600 * lv + 500) (200 * lv + 200) ∧ RGs ru rs rf rt lf la ll lr le code ci sd E L ∧ LGs ll lr le code ci sd E L
section RSEC
variable {ru rs rf rt lf la ll lr le code ci ru' rs' rf' rt' lf' la' ll' lr' le' code' ci' : Nat → Int}
theorem lok_cong {sd E E' : Int} {l : Nat} (h : lok ll lr le code ci sd E l) (h0 : 0 ≤ sd) (hE : E ≤ E') (e : ∀ x : Nat, 600 * sd ≤ x → (x : Int) < E → code' x = code x ∧ ci' x = ci x) (e1 : ll' l = ll l) (e2 : lr' l = lr l) (e3 : le' l = le l) : lok ll' lr' le' code' ci' sd E' l := by
  obtain ⟨h1, h2, h3, h4⟩ := h
  have a3 := h3.1
  have a4 := h4.1
  unfold lok
  rw [e1, e2, e3]
  exact ⟨h1, by omega, CG_cong h3 (by omega) fun x a b => e x (by omega) (by omega), CG_cong h4 (by omega) fun x a b => e x (by omega) (by omega)⟩
theorem rok_cong {sd E L E' L' : Int} {q : Nat} (h : rok rs rf rt lf la ll lr le code ci sd E L q) (h0 : 0 ≤ sd) (hE : E ≤ E') (hL : L ≤ L') (e : ∀ x : Nat, 600 * sd ≤ x → (x : Int) < E → code' x = code x ∧ ci' x = ci x) (el : ∀ x : Nat, 200 * sd ≤ x → (x : Int) < L → ll' x = ll x ∧ lr' x = lr x ∧ le' x = le x) (eq : rs' q = rs q ∧ rf' q = rf q ∧ rt' q = rt q ∧ lf' q = lf q ∧ la' q = la q) : rok rs' rf' rt' lf' la' ll' lr' le' code' ci' sd E' L' q := by
  obtain ⟨h1, h2, h3, h4⟩ := h
  obtain ⟨q1, q2, q3, q4, q5⟩ := eq
  unfold rok
  rw [q1, q2, q3, q4, q5]
  refine ⟨fun z => ?_, h2, by omega, fun l a b => ?_⟩
  · have y := h1 z
    have y3 := y.2.2.1
    exact ⟨y.1, by omega, CG_cong y.2.2 (by omega) fun x a b => e x (by omega) (by omega)⟩
  · have y := el l (by omega) (by omega)
    exact lok_cong (h4 l a b) h0 hE e y.1 y.2.1 y.2.2
theorem RGs_cong {sd E L E' L' : Int} (h : RGs ru rs rf rt lf la ll lr le code ci sd E L) (h0 : 0 ≤ sd) (hE : E ≤ E') (hL : L ≤ L') (e : ∀ x : Nat, 600 * sd ≤ x → (x : Int) < E → code' x = code x ∧ ci' x = ci x) (el : ∀ x : Nat, 200 * sd ≤ x → (x : Int) < L → ll' x = ll x ∧ lr' x = lr x ∧ le' x = le x) (eu : ru' sd.toNat = ru sd.toNat) (eq : ∀ r : Nat, (r : Int) < ru sd.toNat → rs' (12 * sd.toNat + r) = rs (12 * sd.toNat + r) ∧ rf' (12 * sd.toNat + r) = rf (12 * sd.toNat + r) ∧ rt' (12 * sd.toNat + r) = rt (12 * sd.toNat + r) ∧ lf' (12 * sd.toNat + r) = lf (12 * sd.toNat + r) ∧ la' (12 * sd.toNat + r) = la (12 * sd.toNat + r)) : RGs ru' rs' rf' rt' lf' la' ll' lr' le' code' ci' sd E' L' := fun r hr => by
  rw [eu] at hr
  exact rok_cong (h r hr) h0 hE hL e el (eq r hr)
theorem LGs_cong {sd E L E' : Int} (h : LGs ll lr le code ci sd E L) (h0 : 0 ≤ sd) (hE : E ≤ E') (e : ∀ x : Nat, 600 * sd ≤ x → (x : Int) < E → code' x = code x ∧ ci' x = ci x) (el : ∀ x : Nat, 200 * sd ≤ x → (x : Int) < L → ll' x = ll x ∧ lr' x = lr x ∧ le' x = le x) : LGs ll' lr' le' code' ci' sd E' L := fun l a b => lok_cong (h l a b) h0 hE e (el l a b).1 (el l a b).2.1 (el l a b).2.2
/-- a code more -/
theorem RR_emit {lv sd E L i k j v E' : Int} (h : RRs ru rs rf rt lf la ll lr le code ci lv sd E L) (hl : 0 ≤ lv) (hl1 : lv ≤ 1) (hs : sd = 1 - lv) (hE0 : 600 * sd ≤ E) (hE1 : E ≤ 600 * sd + 599) (hi : i = E) (hj : j = E) (hE : E' = E + 1) : RRs ru rs rf rt lf la ll lr le (uF code i k) (uF ci j v) lv sd E' L := by
  have lo : ∀ x : Nat, ¬ (x : Int) = E → uF code i k x = code x ∧ uF ci j v x = ci x := fun x hx => by
    rw [uF_at, uF_at, if_neg (by omega), if_neg (by omega)]
    exact ⟨rfl, rfl⟩
  refine ⟨RGs_cong h.1 hl (Int.le_refl _) (Int.le_refl _) (fun x a b => lo x (by omega)) (fun _ _ _ => ⟨rfl, rfl, rfl⟩) rfl (fun _ _ => ⟨rfl, rfl, rfl, rfl, rfl⟩), RGs_cong h.2.1 (by omega) (by omega) (Int.le_refl _) (fun x a b => lo x (by omega)) (fun _ _ _ => ⟨rfl, rfl, rfl⟩) rfl (fun _ _ => ⟨rfl, rfl, rfl, rfl, rfl⟩), LGs_cong h.2.2 (by omega) (by omega) (fun x a b => lo x (by omega)) (fun _ _ _ => ⟨rfl, rfl, rfl⟩)⟩
/-- a literal more -/
theorem RR_lit {lv sd E L i1 i2 i3 a b c L' : Int} (h : RRs ru rs rf rt lf la ll lr le code ci lv sd E L) (hl : 0 ≤ lv) (hl1 : lv ≤ 1) (hs : sd = 1 - lv) (hL0 : 200 * sd ≤ L) (hL1 : L ≤ 200 * sd + 199) (h1 : i1 = L) (h2 : i2 = L) (h3 : i3 = L) (hL : L' = L + 1) (ha : 600 * sd ≤ a) (hc : c ≤ E) (g1 : CGp code ci a b) (g2 : CGp code ci b c) : RRs ru rs rf rt lf la (uF ll i1 a) (uF lr i2 b) (uF le i3 c) code ci lv sd E L' := by
  have lo : ∀ x : Nat, ¬ (x : Int) = L → uF ll i1 a x = ll x ∧ uF lr i2 b x = lr x ∧ uF le i3 c x = le x := fun x hx => by
    rw [uF_at, uF_at, uF_at, if_neg (by omega), if_neg (by omega), if_neg (by omega)]
    exact ⟨rfl, rfl, rfl⟩
  refine ⟨RGs_cong h.1 hl (Int.le_refl _) (Int.le_refl _) (fun _ _ _ => ⟨rfl, rfl⟩) (fun x a b => lo x (by omega)) rfl (fun _ _ => ⟨rfl, rfl, rfl, rfl, rfl⟩), RGs_cong h.2.1 (by omega) (Int.le_refl _) (by omega) (fun _ _ _ => ⟨rfl, rfl⟩) (fun x a b => lo x (by omega)) rfl (fun _ _ => ⟨rfl, rfl, rfl, rfl, rfl⟩), fun l p q => ?_⟩
  by_cases z : (l : Int) = L
  · unfold lok
    rw [uF_at, uF_at, uF_at, if_pos (by omega), if_pos (by omega), if_pos (by omega)]
    exact ⟨ha, hc, g1, g2⟩
  · have y := lo l z
    exact lok_cong (h.2.2 l p (by omega)) (by omega) (Int.le_refl _) (fun _ _ _ => ⟨rfl, rfl⟩) y.1 y.2.1 y.2.2
/-- a rule under way is told nothing of -/
theorem RR_row {lv sd E L : Int} (h : RRs ru rs rf rt lf la ll lr le code ci lv sd E L) (hl : 0 ≤ lv) (hl1 : lv ≤ 1) (hs : sd = 1 - lv) (hu : ru lv.toNat ≤ 12) (e : ∀ x : Nat, ¬ (x : Int) = 12 * sd + ru sd.toNat → rs' x = rs x ∧ rf' x = rf x ∧ rt' x = rt x ∧ lf' x = lf x ∧ la' x = la x) (hm : ru sd.toNat ≤ 11) (hm0 : 0 ≤ ru sd.toNat) : RRs ru rs' rf' rt' lf' la' ll lr le code ci lv sd E L := by
  refine ⟨RGs_cong h.1 hl (Int.le_refl _) (Int.le_refl _) (fun _ _ _ => ⟨rfl, rfl⟩) (fun _ _ _ => ⟨rfl, rfl, rfl⟩) rfl (fun r hr => e _ (by omega)), RGs_cong h.2.1 (by omega) (Int.le_refl _) (Int.le_refl _) (fun _ _ _ => ⟨rfl, rfl⟩) (fun _ _ _ => ⟨rfl, rfl, rfl⟩) rfl (fun r hr => e _ (by omega)), h.2.2⟩
/-- a rule more -/
theorem RR_rule {lv sd E L i w : Int} (h : RRs ru rs rf rt lf la ll lr le code ci lv sd E L) (hl : 0 ≤ lv) (hl1 : lv ≤ 1) (hs : sd = 1 - lv) (hi : i = sd) (hw : w = ru sd.toNat + 1) (hm0 : 0 ≤ ru sd.toNat) (q : Nat) (hq : (q : Int) = 12 * sd + ru sd.toNat) (g : rs q = 0 → 600 * sd ≤ rf q ∧ rt q ≤ E ∧ CGp code ci (rf q) (rt q)) (g1 : 200 * sd ≤ lf q) (g2 : la q ≤ L) : RRs (uF ru i w) rs rf rt lf la ll lr le code ci lv sd E L := by
  refine ⟨RGs_cong h.1 hl (Int.le_refl _) (Int.le_refl _) (fun _ _ _ => ⟨rfl, rfl⟩) (fun _ _ _ => ⟨rfl, rfl, rfl⟩) (by rw [uF_at, if_neg (by omega)]) (fun _ _ => ⟨rfl, rfl, rfl, rfl, rfl⟩), fun r hr => ?_, h.2.2⟩
  rw [uF_at, if_pos (by omega), hw] at hr
  by_cases z : (r : Int) = ru sd.toNat
  · rw [show 12 * sd.toNat + r = q by omega]
    exact ⟨g, g1, g2, fun l a b => h.2.2 l (by omega) (by omega)⟩
  · exact h.2.1 r (by omega)
/-- the telling begins -/
theorem RR_first {lv sd E L i w : Int} (h : RGs ru rs rf rt lf la ll lr le code ci lv (600 * lv + 500) (200 * lv + 200)) (hl : 0 ≤ lv) (hl1 : lv ≤ 1) (hs : sd = 1 - lv) (hi : i = sd) (hw : w = 0) (hL : L = 200 * sd) : RRs (uF ru i w) rs rf rt lf la ll lr le code ci lv sd E L := by
  refine ⟨RGs_cong h hl (Int.le_refl _) (Int.le_refl _) (fun _ _ _ => ⟨rfl, rfl⟩) (fun _ _ _ => ⟨rfl, rfl, rfl⟩) (by rw [uF_at, if_neg (by omega)]) (fun _ _ => ⟨rfl, rfl, rfl, rfl, rfl⟩), fun r hr => ?_, fun l a b => by omega⟩
  rw [uF_at, if_pos (by omega), hw] at hr
  omega
theorem RGs_wide {sd E L E' L' : Int} (h : RGs ru rs rf rt lf la ll lr le code ci sd E L) (h0 : 0 ≤ sd) (hE : E ≤ E') (hL : L ≤ L') : RGs ru rs rf rt lf la ll lr le code ci sd E' L' := RGs_cong h h0 hE hL (fun _ _ _ => ⟨rfl, rfl⟩) (fun _ _ _ => ⟨rfl, rfl, rfl⟩) rfl (fun _ _ => ⟨rfl, rfl, rfl, rfl, rfl⟩)
end RSEC
theorem uF_ne {f : Nat → Int} {i w : Int} {x : Nat} (h : ¬ (x : Int) = i) : uF f i w x = f x := by
  rw [uF_at, if_neg h]
def SCp (code0 ci0 code ci : Nat → Int) (c : Int) : Prop := ∀ x : Nat, (x : Int) < c → code x = code0 x ∧ ci x = ci0 x
theorem SC_refl {code ci : Nat → Int} {c : Int} : SCp code ci code ci c := fun _ _ => ⟨rfl, rfl⟩
theorem SC_trans {code0 ci0 code1 ci1 code2 ci2 : Nat → Int} {c d : Int} (h : SCp code0 ci0 code1 ci1 c) (g : SCp code1 ci1 code2 ci2 d) (hd : c ≤ d) : SCp code0 ci0 code2 ci2 c := fun x hx => by
  have y := g x (by omega)
  rw [y.1, y.2]
  exact h x hx
theorem SC_of {code0 ci0 code ci : Nat → Int} {c0 d0 c1 d1 : Int} (h : COp code0 ci0 code ci c0 d0 c1 d1) : SCp code0 ci0 code ci c0 := h.2.1
theorem CG_keep {code0 ci0 code ci : Nat → Int} {a b c : Int} (h : CGp code0 ci0 a b) (g : SCp code0 ci0 code ci c) (h0 : 0 ≤ a) (hb : b ≤ c) : CGp code ci a b := CG_cong h h0 fun x _ hx => g x (by omega)
theorem CO_d {code0 ci0 code ci : Nat → Int} {c0 d0 c1 d1 d1' : Int} (h : COp code0 ci0 code ci c0 d0 c1 d1) (e : d1' = d1) : COp code0 ci0 code ci c0 d0 c1 d1' := by
  rw [e]
  exact h
theorem CG_eq {code ci : Nat → Int} {a b : Int} (e : a = b) : CGp code ci a b := by
  rw [e]
  exact CG_nil
theorem RR_keep {ru rs rf rt lf la ll lr le code ci rs' rf' rt' lf' la' : Nat → Int} {lv sd E L q : Int} (h : RRs ru rs rf rt lf la ll lr le code ci lv sd E L) (hl : 0 ≤ lv) (hl1 : lv ≤ 1) (hs : sd = 1 - lv) (hu : ∀ x : Nat, 0 ≤ ru x ∧ ru x ≤ 12) (hm : ru sd.toNat ≤ 11) (hq : q = 12 * sd + ru sd.toNat) (e : ∀ x : Nat, ¬ (x : Int) = q → rs' x = rs x ∧ rf' x = rf x ∧ rt' x = rt x ∧ lf' x = lf x ∧ la' x = la x) : RRs ru rs' rf' rt' lf' la' ll lr le code ci lv sd E L := RR_row h hl hl1 hs (hu _).2 (fun x hx => e x (by omega)) hm (hu _).1
theorem RR_more {ru rs rf rt lf la ll lr le code ci : Nat → Int} {lv sd E L i w q : Int} (h : RRs ru rs rf rt lf la ll lr le code ci lv sd E L) (hl : 0 ≤ lv) (hl1 : lv ≤ 1) (hs : sd = 1 - lv) (hi : i = sd) (hw : w = ru sd.toNat + 1) (hm0 : ∀ x : Nat, 0 ≤ ru x ∧ ru x ≤ 12) (hq : q = 12 * sd + ru sd.toNat) (g : CGp code ci (rf q.toNat) (rt q.toNat)) (g1 : 600 * sd ≤ rf q.toNat) (g2 : rt q.toNat ≤ E) (g3 : 200 * sd ≤ lf q.toNat) (g4 : la q.toNat ≤ L) : RRs (uF ru i w) rs rf rt lf la ll lr le code ci lv sd E L := RR_rule h hl hl1 hs hi hw (hm0 _).1 q.toNat (by have := (hm0 sd.toNat).1; omega) (fun _ => ⟨g1, g2, g⟩) g3 g4
theorem SOp_more {S sh sh' : Int} {kind first last off ms me : Nat → Int} (h : SOp S sh kind first last off ms me) (e : sh ≤ sh') : SOp S sh' kind first last off ms me := fun s hs => by
  have z := h s hs
  exact ⟨z.1, z.2.1, z.2.2.1, fun q => by have := z.2.2.2 q; omega⟩
theorem CG_to {code ci : Nat → Int} {a b a' b' : Int} (h : CGp code ci a b) (ea : a' = a) (eb : b' = b) : CGp code ci a' b' := by
  rw [ea, eb]
  exact h
theorem RGs_at {ru rs rf rt lf la ll lr le code ci : Nat → Int} {sd lv : Int} (h : RGs ru rs rf rt lf la ll lr le code ci sd (600 * sd + 500) (200 * sd + 200)) (e : lv = sd) : RGs ru rs rf rt lf la ll lr le code ci lv (600 * lv + 500) (200 * lv + 200) := by
  rw [e]
  exact h
def RNp (r_rules : Nat → Int) : Prop := ∀ s : Nat, 0 ≤ r_rules s ∧ r_rules s ≤ 12
def RN (h : gH) : Prop := RNp (hV h 306)
theorem RN_fr {W : List (Nat × Nat)} {a b : gH} (f : hFr W a b) (c : (vFreeR W 306 && (true)) = true) : RN b = RN a := by
  simp only [Bool.and_eq_true] at c
  unfold RN
  rw [fRow f 306 (c.1)]
theorem RN_upR {a b : gH} {o i w : Int} {n : Nat} (f : hUpd b a o i w) (e : o = (n : Int)) (c : (!(Nat.beq 306 n) && (!(Nat.beq 285 n) && (true))) = true) : RN b = RN a := by
  simp only [Bool.and_eq_true] at c
  unfold RN
  rw [uRowNe f 306 (iS e (by have z := c.1; simpa using z))]
theorem RN_upF {a b : gH} {o i w : Int} {n : Nat} (f : hUpd b a o i w) (e : o = 285) (e2 : i = (n : Int)) (c : (true) = true) : RN b = RN a := by
  unfold RN
  rw [uRowNe f 306 (iS (e : o = ((285 : Nat) : Int)) rfl)]
theorem RN_at {h : gH} (z : RN h) (s : Nat) : 0 ≤ (hV h 306) s ∧ (hV h 306) s ≤ 12 := z s
def RVp (v_live : Int) (r_rules r_ruleSort r_ruleFrom r_ruleTo r_litFirst r_litLast r_litLeft r_litRight r_litEnd r_code r_codeInt : Nat → Int) : Prop := RGs r_rules r_ruleSort r_ruleFrom r_ruleTo r_litFirst r_litLast r_litLeft r_litRight r_litEnd r_code r_codeInt v_live (600 * v_live + 500) (200 * v_live + 200)
def RV (h : gH) : Prop := RVp (hV h 285 34) (hV h 306) (hV h 307) (hV h 308) (hV h 309) (hV h 310) (hV h 311) (hV h 317) (hV h 318) (hV h 319) (hV h 320) (hV h 321)
theorem RV_fr {W : List (Nat × Nat)} {a b : gH} (f : hFr W a b) (c : (vFree W 285 34 && (vFreeR W 306 && (vFreeR W 307 && (vFreeR W 308 && (vFreeR W 309 && (vFreeR W 310 && (vFreeR W 311 && (vFreeR W 317 && (vFreeR W 318 && (vFreeR W 319 && (vFreeR W 320 && (vFreeR W 321 && (true))))))))))))) = true) : RV b = RV a := by
  simp only [Bool.and_eq_true] at c
  unfold RV
  rw [f.1 285 34 (c.1), fRow f 306 (c.2.1), fRow f 307 (c.2.2.1), fRow f 308 (c.2.2.2.1), fRow f 309 (c.2.2.2.2.1), fRow f 310 (c.2.2.2.2.2.1), fRow f 311 (c.2.2.2.2.2.2.1), fRow f 317 (c.2.2.2.2.2.2.2.1), fRow f 318 (c.2.2.2.2.2.2.2.2.1), fRow f 319 (c.2.2.2.2.2.2.2.2.2.1), fRow f 320 (c.2.2.2.2.2.2.2.2.2.2.1), fRow f 321 (c.2.2.2.2.2.2.2.2.2.2.2.1)]
theorem RV_upR {a b : gH} {o i w : Int} {n : Nat} (f : hUpd b a o i w) (e : o = (n : Int)) (c : (!(Nat.beq 306 n) && (!(Nat.beq 307 n) && (!(Nat.beq 308 n) && (!(Nat.beq 309 n) && (!(Nat.beq 310 n) && (!(Nat.beq 311 n) && (!(Nat.beq 317 n) && (!(Nat.beq 318 n) && (!(Nat.beq 319 n) && (!(Nat.beq 320 n) && (!(Nat.beq 321 n) && (!(Nat.beq 285 n) && (true))))))))))))) = true) : RV b = RV a := by
  simp only [Bool.and_eq_true] at c
  unfold RV
  rw [uPlace f 285 34 (iS e (by have z := c.2.2.2.2.2.2.2.2.2.2.2.1; simpa using z)), uRowNe f 306 (iS e (by have z := c.1; simpa using z)), uRowNe f 307 (iS e (by have z := c.2.1; simpa using z)), uRowNe f 308 (iS e (by have z := c.2.2.1; simpa using z)), uRowNe f 309 (iS e (by have z := c.2.2.2.1; simpa using z)), uRowNe f 310 (iS e (by have z := c.2.2.2.2.1; simpa using z)), uRowNe f 311 (iS e (by have z := c.2.2.2.2.2.1; simpa using z)), uRowNe f 317 (iS e (by have z := c.2.2.2.2.2.2.1; simpa using z)), uRowNe f 318 (iS e (by have z := c.2.2.2.2.2.2.2.1; simpa using z)), uRowNe f 319 (iS e (by have z := c.2.2.2.2.2.2.2.2.1; simpa using z)), uRowNe f 320 (iS e (by have z := c.2.2.2.2.2.2.2.2.2.1; simpa using z)), uRowNe f 321 (iS e (by have z := c.2.2.2.2.2.2.2.2.2.2.1; simpa using z))]
theorem RV_upF {a b : gH} {o i w : Int} {n : Nat} (f : hUpd b a o i w) (e : o = 285) (e2 : i = (n : Int)) (c : (!(Nat.beq 34 n) && (true)) = true) : RV b = RV a := by
  simp only [Bool.and_eq_true] at c
  unfold RV
  rw [uSlot f 285 34 (iS e2 (by have z := c.1; simpa using z)), uRowNe f 306 (iS (e : o = ((285 : Nat) : Int)) rfl), uRowNe f 307 (iS (e : o = ((285 : Nat) : Int)) rfl), uRowNe f 308 (iS (e : o = ((285 : Nat) : Int)) rfl), uRowNe f 309 (iS (e : o = ((285 : Nat) : Int)) rfl), uRowNe f 310 (iS (e : o = ((285 : Nat) : Int)) rfl), uRowNe f 311 (iS (e : o = ((285 : Nat) : Int)) rfl), uRowNe f 317 (iS (e : o = ((285 : Nat) : Int)) rfl), uRowNe f 318 (iS (e : o = ((285 : Nat) : Int)) rfl), uRowNe f 319 (iS (e : o = ((285 : Nat) : Int)) rfl), uRowNe f 320 (iS (e : o = ((285 : Nat) : Int)) rfl), uRowNe f 321 (iS (e : o = ((285 : Nat) : Int)) rfl)]
def RRp (v_live v_side v_codes v_lits : Int) (r_rules r_ruleSort r_ruleFrom r_ruleTo r_litFirst r_litLast r_litLeft r_litRight r_litEnd r_code r_codeInt : Nat → Int) : Prop := RRs r_rules r_ruleSort r_ruleFrom r_ruleTo r_litFirst r_litLast r_litLeft r_litRight r_litEnd r_code r_codeInt v_live v_side v_codes v_lits
def RR (h : gH) : Prop := RRp (hV h 285 34) (hV h 285 35) (hV h 285 51) (hV h 285 44) (hV h 306) (hV h 307) (hV h 308) (hV h 309) (hV h 310) (hV h 311) (hV h 317) (hV h 318) (hV h 319) (hV h 320) (hV h 321)
theorem RR_fr {W : List (Nat × Nat)} {a b : gH} (f : hFr W a b) (c : (vFree W 285 34 && (vFree W 285 35 && (vFree W 285 51 && (vFree W 285 44 && (vFreeR W 306 && (vFreeR W 307 && (vFreeR W 308 && (vFreeR W 309 && (vFreeR W 310 && (vFreeR W 311 && (vFreeR W 317 && (vFreeR W 318 && (vFreeR W 319 && (vFreeR W 320 && (vFreeR W 321 && (true)))))))))))))))) = true) : RR b = RR a := by
  simp only [Bool.and_eq_true] at c
  unfold RR
  rw [f.1 285 34 (c.1), f.1 285 35 (c.2.1), f.1 285 51 (c.2.2.1), f.1 285 44 (c.2.2.2.1), fRow f 306 (c.2.2.2.2.1), fRow f 307 (c.2.2.2.2.2.1), fRow f 308 (c.2.2.2.2.2.2.1), fRow f 309 (c.2.2.2.2.2.2.2.1), fRow f 310 (c.2.2.2.2.2.2.2.2.1), fRow f 311 (c.2.2.2.2.2.2.2.2.2.1), fRow f 317 (c.2.2.2.2.2.2.2.2.2.2.1), fRow f 318 (c.2.2.2.2.2.2.2.2.2.2.2.1), fRow f 319 (c.2.2.2.2.2.2.2.2.2.2.2.2.1), fRow f 320 (c.2.2.2.2.2.2.2.2.2.2.2.2.2.1), fRow f 321 (c.2.2.2.2.2.2.2.2.2.2.2.2.2.2.1)]
theorem RR_upR {a b : gH} {o i w : Int} {n : Nat} (f : hUpd b a o i w) (e : o = (n : Int)) (c : (!(Nat.beq 306 n) && (!(Nat.beq 307 n) && (!(Nat.beq 308 n) && (!(Nat.beq 309 n) && (!(Nat.beq 310 n) && (!(Nat.beq 311 n) && (!(Nat.beq 317 n) && (!(Nat.beq 318 n) && (!(Nat.beq 319 n) && (!(Nat.beq 320 n) && (!(Nat.beq 321 n) && (!(Nat.beq 285 n) && (true))))))))))))) = true) : RR b = RR a := by
  simp only [Bool.and_eq_true] at c
  unfold RR
  rw [uPlace f 285 34 (iS e (by have z := c.2.2.2.2.2.2.2.2.2.2.2.1; simpa using z)), uPlace f 285 35 (iS e (by have z := c.2.2.2.2.2.2.2.2.2.2.2.1; simpa using z)), uPlace f 285 51 (iS e (by have z := c.2.2.2.2.2.2.2.2.2.2.2.1; simpa using z)), uPlace f 285 44 (iS e (by have z := c.2.2.2.2.2.2.2.2.2.2.2.1; simpa using z)), uRowNe f 306 (iS e (by have z := c.1; simpa using z)), uRowNe f 307 (iS e (by have z := c.2.1; simpa using z)), uRowNe f 308 (iS e (by have z := c.2.2.1; simpa using z)), uRowNe f 309 (iS e (by have z := c.2.2.2.1; simpa using z)), uRowNe f 310 (iS e (by have z := c.2.2.2.2.1; simpa using z)), uRowNe f 311 (iS e (by have z := c.2.2.2.2.2.1; simpa using z)), uRowNe f 317 (iS e (by have z := c.2.2.2.2.2.2.1; simpa using z)), uRowNe f 318 (iS e (by have z := c.2.2.2.2.2.2.2.1; simpa using z)), uRowNe f 319 (iS e (by have z := c.2.2.2.2.2.2.2.2.1; simpa using z)), uRowNe f 320 (iS e (by have z := c.2.2.2.2.2.2.2.2.2.1; simpa using z)), uRowNe f 321 (iS e (by have z := c.2.2.2.2.2.2.2.2.2.2.1; simpa using z))]
theorem RR_upF {a b : gH} {o i w : Int} {n : Nat} (f : hUpd b a o i w) (e : o = 285) (e2 : i = (n : Int)) (c : (!(Nat.beq 34 n) && (!(Nat.beq 35 n) && (!(Nat.beq 51 n) && (!(Nat.beq 44 n) && (true))))) = true) : RR b = RR a := by
  simp only [Bool.and_eq_true] at c
  unfold RR
  rw [uSlot f 285 34 (iS e2 (by have z := c.1; simpa using z)), uSlot f 285 35 (iS e2 (by have z := c.2.1; simpa using z)), uSlot f 285 51 (iS e2 (by have z := c.2.2.1; simpa using z)), uSlot f 285 44 (iS e2 (by have z := c.2.2.2.1; simpa using z)), uRowNe f 306 (iS (e : o = ((285 : Nat) : Int)) rfl), uRowNe f 307 (iS (e : o = ((285 : Nat) : Int)) rfl), uRowNe f 308 (iS (e : o = ((285 : Nat) : Int)) rfl), uRowNe f 309 (iS (e : o = ((285 : Nat) : Int)) rfl), uRowNe f 310 (iS (e : o = ((285 : Nat) : Int)) rfl), uRowNe f 311 (iS (e : o = ((285 : Nat) : Int)) rfl), uRowNe f 317 (iS (e : o = ((285 : Nat) : Int)) rfl), uRowNe f 318 (iS (e : o = ((285 : Nat) : Int)) rfl), uRowNe f 319 (iS (e : o = ((285 : Nat) : Int)) rfl), uRowNe f 320 (iS (e : o = ((285 : Nat) : Int)) rfl), uRowNe f 321 (iS (e : o = ((285 : Nat) : Int)) rfl)]
theorem RN_up {ru : Nat → Int} {i w : Int} (h : RNp ru) (h0 : 0 ≤ w) (hw : w ≤ 12) : RNp (uF ru i w) := fun s => by
  rw [uF_at]
  split
  · exact ⟨h0, hw⟩
  · exact h s
