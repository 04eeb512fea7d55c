/-! LEMMAS on the reference's sounds. -/
theorem SOp_add {S S' sh : Int} {kind first last off ms me : Nat → Int} {k a b o m e : Int} (h : SOp S sh kind first last off ms me) (hS : S' = S + 1) (c4 : k = 4 → 0 ≤ o ∧ o < S ∧ 0 ≤ a ∧ a < b ∧ b ≤ 240) (c5 : k = 5 → 0 ≤ o ∧ o < S) (c1 : k = 1 → 0 ≤ a ∧ a < b ∧ b ≤ 240) (cm : m = -1) : SOp S' sh (uF kind S k) (uF first S a) (uF last S b) (uF off S o) (uF ms S m) (uF me S e) := by
  intro s hs
  simp only [uF_at]
  by_cases q : (s : Int) = S
  · simp only [if_pos q]
    exact ⟨fun z => by have := c4 z; omega, fun z => by have := c5 z; omega, fun z => c1 z, fun z => by omega⟩
  · simp only [if_neg q]
    exact h s (by omega)
theorem SSp_add {st st' S w g : Int} {stamp gen mk : Nat → Int} (h : SSp st stamp gen mk) (h1 : st ≤ st') (hw : w ≤ st') (hg : g ≤ st') : SSp st' (uF stamp S w) (uF gen S g) mk := by
  refine ⟨fun s hs => ?_, fun k hk => Int.le_trans (h.2 k hk) h1⟩
  have z := h.1 s hs
  simp only [uF_at]
  by_cases q : (s : Int) = S
  · rw [if_pos q, if_pos q]
    omega
  · rw [if_neg q, if_neg q]
    omega
theorem SSp_told {st st' S w : Int} {stamp gen mk : Nat → Int} (h : SSp st stamp gen mk) (h1 : st ≤ st') (hw : w ≤ st') : SSp st' (uF stamp S w) gen mk := by
  refine ⟨fun s hs => ?_, fun k hk => Int.le_trans (h.2 k hk) h1⟩
  have z := h.1 s hs
  simp only [uF_at]
  by_cases q : (s : Int) = S
  · rw [if_pos q]
    omega
  · rw [if_neg q]
    omega
theorem SSp_mark {st st' S w : Int} {stamp gen mk : Nat → Int} (h : SSp st stamp gen mk) (h1 : st ≤ st') (hw : w ≤ st') : SSp st' stamp gen (uF mk S w) := by
  refine ⟨fun s hs => ?_, fun k hk => ?_⟩
  · have z := h.1 s hs
    omega
  · have z := h.2 k hk
    simp only [uF_at]
    by_cases q : (k : Int) = S
    · rw [if_pos q]
      omega
    · rw [if_neg q]
      omega
/-- the firsts along a chain of trimmed ones -/
def sumF (kind off first : Nat → Int) : Nat → Nat → Int
  | 0, _ => 0
  | n + 1, k => if kind k = 4 then first k + sumF kind off first n (off k).toNat else 0
theorem sumF_fuel {S sh : Int} {kind first last off ms me : Nat → Int} (h : SOp S sh kind first last off ms me) : ∀ (n m k : Nat), (k : Int) < S → k < n → k < m → sumF kind off first n k = sumF kind off first m k := by
  intro n
  induction n with
  | zero => intro m k _ z; exact absurd z (Nat.not_lt_zero _)
  | succ n ih =>
    intro m k hk h1 h2
    cases m with
    | zero => exact absurd h2 (Nat.not_lt_zero _)
    | succ m =>
      unfold sumF
      by_cases q : kind k = 4
      · rw [if_pos q, if_pos q]
        have z := (h k hk).1 q
        rw [ih m (off k).toNat (by omega) (by omega) (by omega)]
      · rw [if_neg q, if_neg q]
theorem sumF_step {S sh : Int} {kind first last off ms me : Nat → Int} (h : SOp S sh kind first last off ms me) (hS : S ≤ 20) {k : Nat} (hk : (k : Int) < S) (h4 : kind k = 4) : sumF kind off first 20 k = first k + sumF kind off first 20 (off k).toNat := by
  have z := (h k hk).1 h4
  have e : sumF kind off first 20 k = if kind k = 4 then first k + sumF kind off first 19 (off k).toNat else 0 := rfl
  rw [e, if_pos h4, sumF_fuel h 19 20 (off k).toNat (by omega) (by omega) (by omega)]
theorem sumF_end {kind off first : Nat → Int} {k : Nat} (h4 : ¬ kind k = 4) : sumF kind off first 20 k = 0 := if_neg h4
theorem sumF_pos {S sh : Int} {kind first last off ms me : Nat → Int} (h : SOp S sh kind first last off ms me) : ∀ (n k : Nat), (k : Int) < S → 0 ≤ sumF kind off first n k := by
  intro n
  induction n with
  | zero => intro k _; exact Int.le_refl 0
  | succ n ih =>
    intro k hk
    unfold sumF
    by_cases q : kind k = 4
    · rw [if_pos q]
      have z := (h k hk).1 q
      have := ih (off k).toNat (by omega)
      omega
    · rw [if_neg q]
      exact Int.le_refl 0
/-- the row 'chain' while lengthOf runs -/
def CHp (kind off chain : Nat → Int) (s n k : Int) : Prop := (n = 0 → k = s) ∧ (0 < n → chain 0 = s) ∧ ∀ i : Nat, (i : Int) < n → kind (chain i).toNat = 4 ∧ 0 ≤ chain i ∧ chain i ≤ s ∧ off (chain i).toNat = (if (i : Int) + 1 < n then chain (i + 1) else k)
theorem CHp_nil {kind off chain : Nat → Int} {s n k : Int} (hn : n = 0) (hk : k = s) : CHp kind off chain s n k := ⟨fun _ => hk, fun z => by omega, fun i hi => by omega⟩
theorem CHp_push {kind off chain : Nat → Int} {s n n' k k' i w : Int} (h : CHp kind off chain s n k) (h0 : 0 ≤ n) (hk0 : 0 ≤ k) (hks : k ≤ s) (h4 : kind k.toNat = 4) (hn : n' = n + 1) (hk : k' = off k.toNat) (hi : i = n) (hw : w = k) : CHp kind off (uF chain i w) s n' k' := by
  subst hn hk
  have hi2 := hi.symm
  subst hi2
  have hw2 := hw.symm
  subst hw2
  refine ⟨fun z => by omega, fun _ => ?_, fun i hi => ?_⟩
  · rw [uF_at]
    by_cases q : ((0 : Nat) : Int) = n
    · rw [if_pos q]
      exact h.1 (by omega)
    · rw [if_neg q]
      exact h.2.1 (by omega)
  · simp only [uF_at]
    by_cases q : (i : Int) = n
    · rw [if_pos q, if_neg (by omega)]
      exact ⟨h4, hk0, hks, rfl⟩
    · rw [if_neg q, if_pos (by omega)]
      obtain ⟨a, b, c, d⟩ := h.2.2 i (by omega)
      refine ⟨a, b, c, ?_⟩
      rw [d]
      by_cases r : (i : Int) + 1 < n
      · rw [if_pos r, if_neg (by omega)]
      · rw [if_neg r, if_pos (by omega)]
def nxc (chain : Nat → Int) (n k i : Int) : Int := if i + 1 < n then chain (i + 1).toNat else k
def LNp (kind off first chain : Nat → Int) (n k all i : Int) : Prop := all = 0 ∨ all + sumF kind off first 20 (nxc chain n k i).toNat ≤ 240
theorem LNp_first {kind off first chain : Nat → Int} {n k all i : Int} (h4 : ¬ kind k.toNat = 4) (hi : i = n - 1) (ha : all ≤ 240) : LNp kind off first chain n k all i := by
  right
  unfold nxc
  rw [if_neg (by omega), sumF_end h4]
  omega
theorem LNp_step {S sh : Int} {kind first last off ms me chain : Nat → Int} {s n k all all' i i' : Int} (h : SOp S sh kind first last off ms me) (hS : S ≤ 20) (hs : s < S) (hc : CHp kind off chain s n k) (h0 : 0 ≤ i) (hi : i < n) (hl : LNp kind off first chain n k all i) (ha : all' = 0 ∨ all' + first (chain i.toNat).toNat ≤ all) (hi' : i' = i - 1) (hp : 0 ≤ all') : LNp kind off first chain n k all' i' := by
  obtain ⟨a, b, c, d⟩ := hc.2.2 i.toNat (by omega)
  have e : (chain i.toNat).toNat < 20 := by omega
  have st := sumF_step h hS (k := (chain i.toNat).toNat) (by omega) a
  have f := ((h (chain i.toNat).toNat (by omega)).1 a).2.2.1
  have e1 : nxc chain n k i' = chain i.toNat := by
    unfold nxc
    rw [if_pos (by omega), show i' + 1 = i by omega]
  have e2 : nxc chain n k i = off (chain i.toNat).toNat := by
    unfold nxc
    rw [d]
    by_cases q : i + 1 < n
    · rw [if_pos q, if_pos (by omega)]
      congr 1
      omega
    · rw [if_neg q, if_neg (by omega)]
  unfold LNp at hl ⊢
  rw [e1, st]
  rw [e2] at hl
  rcases ha with ha | ha
  · exact .inl ha
  · rcases hl with hl | hl
    · left; omega
    · right; omega
theorem LNp_end {kind off first chain : Nat → Int} {s n k all i : Int} (hc : CHp kind off chain s n k) (h0 : 0 ≤ n) (hi : i = -1) (hl : LNp kind off first chain n k all i) : all = 0 ∨ all + sumF kind off first 20 s.toNat ≤ 240 := by
  have e : nxc chain n k i = s := by
    unfold nxc
    subst hi
    by_cases q : (0 : Int) < n
    · rw [if_pos (by omega)]
      exact hc.2.1 q
    · rw [if_neg (by omega)]
      exact hc.1 (by omega)
  unfold LNp at hl
  rw [e] at hl
  exact hl
