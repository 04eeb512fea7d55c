/-! CUES, all blocks put in. -/
def zg (f : Nat → Int) : Nat → Int
  | 0 => 0
  | i + 1 => zg f i + f i
def zl (pm cs cw : Nat → Int) (base : Nat) : Nat → Nat → Int
  | 0, _ => 0
  | n + 1, b => zg (fun i => if cs (16 * (base + b) + i) = 5 then zl pm cs cw base n (cw (16 * (base + b) + i)).toNat else 1) (pm (base + b)).toNat
def lg (f : Nat → List Nat) : Nat → Nat → List Nat
  | _, 0 => []
  | i, k + 1 => f i ++ lg f (i + 1) k
def fl (pm cs cw : Nat → Int) (base : Nat) : Nat → Nat → List Nat
  | 0, _ => []
  | n + 1, b => lg (fun i => if cs (16 * (base + b) + i) = 5 then fl pm cs cw base n (cw (16 * (base + b) + i)).toNat else [16 * (base + b) + i]) 0 (pm (base + b)).toNat
def el (pm cs cw : Nat → Int) (base : Nat) (q i : Nat) : List Nat := if cs (16 * q + i) = 5 then fl pm cs cw base 6 (cw (16 * q + i)).toNat else [16 * q + i]
/-- uses go to blocks told ahead -/
def UW (pm cs cw : Nat → Int) (base : Nat) (B : Int) : Prop := ∀ b : Nat, (b : Int) < B → ∀ i : Nat, (i : Int) < pm (base + b) → cs (16 * (base + b) + i) = 5 → 0 ≤ cw (16 * (base + b) + i) ∧ cw (16 * (base + b) + i) < b
theorem zg_congr {f g : Nat → Int} : ∀ {n : Nat}, (∀ i, i < n → f i = g i) → zg f n = zg g n := by
  intro n
  induction n with
  | zero => intro _; rfl
  | succ n ih =>
    intro h
    show zg f n + f n = zg g n + g n
    rw [ih fun i hi => h i (Nat.lt_succ_of_lt hi), h n (Nat.lt_succ_self n)]
theorem lg_congr {f g : Nat → List Nat} : ∀ {k i : Nat}, (∀ j, i ≤ j → j < i + k → f j = g j) → lg f i k = lg g i k := by
  intro k
  induction k with
  | zero => intro i _; rfl
  | succ k ih =>
    intro i h
    show f i ++ lg f (i + 1) k = g i ++ lg g (i + 1) k
    rw [h i (Nat.le_refl _) (by omega), ih fun j a b => h j (by omega) (by omega)]
theorem zg_pos {f : Nat → Int} : ∀ {n : Nat}, (∀ i, i < n → 0 ≤ f i) → 0 ≤ zg f n := by
  intro n
  induction n with
  | zero => intro _; exact Int.le_refl 0
  | succ n ih =>
    intro h
    have a := ih fun i hi => h i (Nat.lt_succ_of_lt hi)
    have b := h n (Nat.lt_succ_self n)
    show 0 ≤ zg f n + f n
    omega
theorem zl_pos {pm cs cw : Nat → Int} {base : Nat} : ∀ (n b : Nat), 0 ≤ zl pm cs cw base n b := by
  intro n
  induction n with
  | zero => intro b; exact Int.le_refl 0
  | succ n ih =>
    intro b
    unfold zl
    refine zg_pos fun i _ => ?_
    split
    · exact ih _
    · decide
theorem lg_len {f : Nat → List Nat} {g : Nat → Int} : ∀ {k i : Nat}, (∀ j, i ≤ j → j < i + k → ((f j).length : Int) = g j) → ((lg f i k).length : Int) + zg g i = zg g (i + k) := by
  intro k
  induction k with
  | zero => intro i _; show ((0 : Nat) : Int) + zg g i = zg g i; omega
  | succ k ih =>
    intro i h
    have a := ih (i := i + 1) fun j a b => h j (by omega) (by omega)
    have b := h i (Nat.le_refl _) (by omega)
    show ((f i ++ lg f (i + 1) k).length : Int) + zg g i = zg g (i + (k + 1))
    rw [show i + (k + 1) = i + 1 + k by omega, ← a, List.length_append, show zg g (i + 1) = zg g i + g i from rfl]
    omega
theorem fl_len {pm cs cw : Nat → Int} {base : Nat} : ∀ (n b : Nat), ((fl pm cs cw base n b).length : Int) = zl pm cs cw base n b := by
  intro n
  induction n with
  | zero => intro b; rfl
  | succ n ih =>
    intro b
    unfold fl zl
    have h := lg_len (f := fun i => if cs (16 * (base + b) + i) = 5 then fl pm cs cw base n (cw (16 * (base + b) + i)).toNat else [16 * (base + b) + i]) (g := fun i => if cs (16 * (base + b) + i) = 5 then zl pm cs cw base n (cw (16 * (base + b) + i)).toNat else 1) (k := (pm (base + b)).toNat) (i := 0) (fun j _ _ => by
      by_cases q : cs (16 * (base + b) + j) = 5
      · rw [if_pos q, if_pos q]
        exact ih _
      · rw [if_neg q, if_neg q]
        rfl)
    rw [Nat.zero_add] at h
    rw [← h]
    show _ = _ + (0 : Int)
    rw [Int.add_zero]
theorem fl_fuel {pm cs cw : Nat → Int} {base : Nat} {B : Int} (h : UW pm cs cw base B) : ∀ (n m b : Nat), (b : Int) < B → b < n → b < m → fl pm cs cw base n b = fl pm cs cw base m b := by
  intro n
  induction n with
  | zero => intro m b _ z; exact absurd z (Nat.not_lt_zero _)
  | succ n ih =>
    intro m b hb h1 h2
    cases m with
    | zero => exact absurd h2 (Nat.not_lt_zero _)
    | succ m =>
      unfold fl
      refine lg_congr fun j _ hj => ?_
      by_cases q : cs (16 * (base + b) + j) = 5
      · rw [if_pos q, if_pos q]
        have z := h b hb j (by omega) q
        exact ih m _ (by omega) (by omega) (by omega)
      · rw [if_neg q, if_neg q]
theorem zl_fuel {pm cs cw : Nat → Int} {base : Nat} {B : Int} (h : UW pm cs cw base B) : ∀ (n m b : Nat), (b : Int) < B → b < n → b < m → zl pm cs cw base n b = zl pm cs cw base m b := by
  intro n m b h1 h2 h3
  rw [← fl_len, ← fl_len, fl_fuel h n m b h1 h2 h3]
theorem fl_root {pm cs cw : Nat → Int} {base : Nat} : fl pm cs cw base 7 6 = lg (el pm cs cw base (base + 6)) 0 (pm (base + 6)).toNat := rfl
theorem fl_block {pm cs cw : Nat → Int} {base : Nat} {B : Int} (h : UW pm cs cw base B) {b : Nat} (hb : (b : Int) < B) (h6 : b < 6) : fl pm cs cw base 6 b = lg (el pm cs cw base (base + b)) 0 (pm (base + b)).toNat := by
  show lg _ _ _ = _
  refine lg_congr fun j _ hj => ?_
  unfold el
  by_cases q : cs (16 * (base + b) + j) = 5
  · rw [if_pos q, if_pos q]
    have z := h b hb j (by omega) q
    exact fl_fuel h 5 6 _ (by omega) (by omega) (by omega)
  · rw [if_neg q, if_neg q]
/-- a cue is well told in block b -/
def wCp (cs cw cm ca cmt cn : Nat → Int) (b : Int) (c : Nat) : Prop := (cs c = 0 → 0 ≤ cw c ∧ cw c ≤ 19 ∧ 1 ≤ cn (6 * c + 4) ∧ 0 ≤ cn (6 * c + 5) ∧ cn (6 * c + 5) ≤ 2) ∧ (cs c = 2 → 0 ≤ cw c ∧ cw c ≤ 2 ∧ 0 ≤ cn (6 * c) ∧ cn (6 * c) ≤ 2) ∧ (cs c = 3 → 0 ≤ cw c ∧ cw c ≤ 2 ∧ cn (6 * c) ≤ 4) ∧ (cs c = 5 → 0 ≤ cw c ∧ cw c < b ∧ -60 ≤ ca c ∧ ca c ≤ 60) ∧ (cs c < 2 ∨ cs c = 5 → cm c ≤ 7) ∧ (cs c = 1 → cmt c ≤ 7)
def PGs (bl pm cs cw cm ca cmt cn : Nat → Int) (s : Nat) : Prop := (0 ≤ bl s ∧ bl s ≤ 6) ∧ (∀ b : Nat, ((b : Int) < bl s ∨ b = 6) → (0 ≤ pm (7 * s + b) ∧ pm (7 * s + b) ≤ 16) ∧ ∀ i : Nat, (i : Int) < pm (7 * s + b) → wCp cs cw cm ca cmt cn (if b = 6 then bl s else b) (16 * (7 * s + b) + i)) ∧ zl pm cs cw (7 * s) 7 6 ≤ 40
theorem PGs.uw {bl pm cs cw cm ca cmt cn : Nat → Int} {s : Nat} (h : PGs bl pm cs cw cm ca cmt cn s) : UW pm cs cw (7 * s) (bl s) := fun b hb i hi h5 => by
  have z := ((h.2.1 b (.inl hb)).2 i hi).2.2.2.1 h5
  have := h.1.2
  rw [if_neg (by omega)] at z
  exact ⟨z.1, z.2.1⟩
/-- a cue that stands unfolded -/
def gCp (cs cw cm ca cmt cn : Nat → Int) (c : Nat) : Prop := ¬ cs c = 5 ∧ wCp cs cw cm ca cmt cn 7 c
theorem wCp.good {cs cw cm ca cmt cn : Nat → Int} {b : Int} {c : Nat} (h : wCp cs cw cm ca cmt cn b c) (h5 : ¬ cs c = 5) : gCp cs cw cm ca cmt cn c := ⟨h5, h.1, h.2.1, h.2.2.1, fun z => absurd z h5, h.2.2.2.2⟩
theorem lg_mem {f : Nat → List Nat} {c : Nat} : ∀ {k i : Nat}, c ∈ lg f i k → ∃ j, i ≤ j ∧ j < i + k ∧ c ∈ f j := by
  intro k
  induction k with
  | zero => intro i h; cases h
  | succ k ih =>
    intro i h
    rcases List.mem_append.mp (show c ∈ f i ++ lg f (i + 1) k from h) with h | h
    · exact ⟨i, Nat.le_refl _, by omega, h⟩
    · obtain ⟨j, a, b, d⟩ := ih h
      exact ⟨j, by omega, by omega, d⟩
theorem fl_good {bl pm cs cw cm ca cmt cn : Nat → Int} {s : Nat} (h : PGs bl pm cs cw cm ca cmt cn s) {c : Nat} : ∀ (n b : Nat), ((b : Int) < bl s ∨ b = 6) → c ∈ fl pm cs cw (7 * s) n b → gCp cs cw cm ca cmt cn c ∧ c < 112 * (s + 1) := by
  intro n
  induction n with
  | zero => intro b _ hc; cases hc
  | succ n ih =>
    intro b hb hc
    unfold fl at hc
    obtain ⟨j, _, hj, hc⟩ := lg_mem hc
    have w := h.2.1 b hb
    have wj := w.2 j (by omega)
    have := h.1.2
    by_cases q : cs (16 * (7 * s + b) + j) = 5
    · rw [if_pos q] at hc
      have z := wj.2.2.2.1 q
      refine ih _ (.inl ?_) hc
      by_cases b6 : b = 6
      · rw [if_pos b6] at z
        omega
      · rw [if_neg b6] at z
        omega
    · rw [if_neg q] at hc
      rw [List.mem_singleton.mp hc]
      exact ⟨wj.good q, by omega⟩
/-- what is left on the levels below d -/
def RL (pm cs cw : Nat → Int) (base : Nat) (ip ia : Nat → Int) : Nat → List Nat
  | 0 => []
  | d + 1 => lg (el pm cs cw base (ip d).toNat) (ia d).toNat ((pm (ip d).toNat).toNat - (ia d).toNat) ++ RL pm cs cw base ip ia d
theorem RL_congr {pm cs cw : Nat → Int} {base : Nat} {ip ia ip' ia' : Nat → Int} : ∀ {d : Nat}, (∀ k, k < d → ip' k = ip k ∧ ia' k = ia k) → RL pm cs cw base ip' ia' d = RL pm cs cw base ip ia d := by
  intro d
  induction d with
  | zero => intro _; rfl
  | succ d ih =>
    intro h
    unfold RL
    obtain ⟨a, b⟩ := h d (Nat.lt_succ_self d)
    rw [a, b, ih fun k hk => h k (Nat.lt_succ_of_lt hk)]
def MS (pm : Nat → Int) (base : Nat) (ip ia : Nat → Int) : Nat → Nat
  | 0 => 0
  | d + 1 => ((pm (ip d).toNat).toNat - (ia d).toNat) * 18 ^ ((ip d).toNat - base + 1) + 1 + MS pm base ip ia d
theorem MS_congr {pm : Nat → Int} {base : Nat} {ip ia ip' ia' : Nat → Int} : ∀ {d : Nat}, (∀ k, k < d → ip' k = ip k ∧ ia' k = ia k) → MS pm base ip' ia' d = MS pm base ip ia d := by
  intro d
  induction d with
  | zero => intro _; rfl
  | succ d ih =>
    intro h
    unfold MS
    obtain ⟨a, b⟩ := h d (Nat.lt_succ_self d)
    rw [a, b, ih fun k hk => h k (Nat.lt_succ_of_lt hk)]
/-- the levels while unfolds (or marksOf) runs -/
def LVp (bl pm ip ia : Nat → Int) (s : Nat) (depth : Int) : Prop := ∀ d : Nat, (d : Int) ≤ depth → (7 * s : Int) ≤ ip d ∧ ip d + d ≤ 7 * s + 6 ∧ (ip d < 7 * s + bl s ∨ ip d = 7 * s + 6) ∧ 0 ≤ ia d ∧ ia d ≤ pm (ip d).toNat
theorem LVp_first {bl pm ip ia : Nat → Int} {s : Nat} {depth w v i j : Int} (hd : depth = 0) (hw : w = 7 * s + 6) (hv : v = 0) (hp : 0 ≤ pm (7 * s + 6)) (hi : i = 0) (hj : j = 0) : LVp bl pm (uF ip i w) (uF ia j v) s depth := fun d h => by
  have e : d = 0 := by omega
  subst e
  simp only [uF_at]
  rw [if_pos (by omega), if_pos (by omega), hw, hv, show (7 * (s : Int) + 6).toNat = 7 * s + 6 by omega]
  omega
theorem LVp_pop {bl pm ip ia : Nat → Int} {s : Nat} {depth depth' : Int} (h : LVp bl pm ip ia s depth) (hd : depth' = depth - 1) : LVp bl pm ip ia s depth' := fun d hd' => h d (by omega)
theorem LVp_next {bl pm ip ia : Nat → Int} {s : Nat} {depth i w : Int} (h : LVp bl pm ip ia s depth) (h0 : 0 ≤ depth) (hi : i = depth) (hw : w = ia depth.toNat + 1) (hlt : ia depth.toNat < pm (ip depth.toNat).toNat) : LVp bl pm ip (uF ia i w) s depth := fun d hd => by
  have z := h d hd
  rw [uF_at]
  by_cases q : (d : Int) = i
  · rw [if_pos q, hw]
    have e : d = depth.toNat := by omega
    rw [e] at z ⊢
    omega
  · rw [if_neg q]
    exact z
theorem LVp_use {bl pm ip ia : Nat → Int} {s : Nat} {depth depth' i w j v : Int} (h : LVp bl pm ip ia s depth) (h0 : 0 ≤ depth) (hd : depth' = depth + 1) (hi : i = depth + 1) (hj : j = depth + 1) (hv : v = 0) (k : Int) (hk : w = 7 * s + k) (hk0 : 0 ≤ k) (hkb : k < bl s) (hkp : k + 7 * s < ip depth.toNat) (hp : 0 ≤ pm (7 * s + k.toNat)) : LVp bl pm (uF ip i w) (uF ia j v) s depth' := fun d hd' => by
  simp only [uF_at]
  by_cases q : (d : Int) = i
  · rw [if_pos q, if_pos (by omega), hk, hv, show (7 * (s : Int) + k).toNat = 7 * s + k.toNat by omega]
    have z := h depth.toNat (by omega)
    omega
  · rw [if_neg q, if_neg (by omega)]
    exact h d (by omega)
theorem uF_off {f : Nat → Int} {i w : Int} {k d : Nat} (hi : i = (d : Int)) (hk : k < d) : uF f i w k = f k := by
  rw [uF_at, if_neg (by omega)]
theorem uF_on {f : Nat → Int} {i w : Int} {d : Nat} (hi : i = (d : Int)) : uF f i w d = w := by
  rw [uF_at, if_pos (by omega)]
/-- one step of the levels: a cue, or a block -/
theorem RL_pop {pm cs cw : Nat → Int} {base : Nat} {ip ia : Nat → Int} {d : Nat} (h : ia d = pm (ip d).toNat) : RL pm cs cw base ip ia (d + 1) = RL pm cs cw base ip ia d := by
  show lg _ _ _ ++ _ = _
  rw [h, Nat.sub_self]
  rfl
theorem RL_head {pm cs cw : Nat → Int} {base : Nat} {ip ia : Nat → Int} {d : Nat} {i w : Int} (h0 : 0 ≤ ia d) (h : ia d < pm (ip d).toNat) (hi : i = (d : Int)) (hw : w = ia d + 1) : RL pm cs cw base ip ia (d + 1) = el pm cs cw base (ip d).toNat (ia d).toNat ++ RL pm cs cw base ip (uF ia i w) (d + 1) := by
  show lg _ _ _ ++ _ = _ ++ (lg _ _ _ ++ _)
  rw [uF_on hi, RL_congr (ip' := ip) (ia' := uF ia i w) (fun k hk => ⟨rfl, uF_off hi hk⟩), hw]
  rw [show (pm (ip d).toNat).toNat - (ia d).toNat = ((pm (ip d).toNat).toNat - (ia d + 1).toNat) + 1 by omega]
  rw [show (ia d + 1).toNat = (ia d).toNat + 1 by omega, ← List.append_assoc]
  rfl
theorem RL_push {pm cs cw : Nat → Int} {base : Nat} {ip ia : Nat → Int} {d : Nat} {i w j v : Int} {k : Nat} (hi : i = (d : Int)) (hj : j = (d : Int)) (hv : v = 0) (hw : w = (base : Int) + k) : RL pm cs cw base (uF ip i w) (uF ia j v) (d + 1) = lg (el pm cs cw base (base + k)) 0 (pm (base + k)).toNat ++ RL pm cs cw base ip ia d := by
  show lg _ _ _ ++ _ = _
  rw [uF_on hi, uF_on hj, RL_congr (ip' := uF ip i w) (ia' := uF ia j v) (fun k hk => ⟨uF_off hi hk, uF_off hj hk⟩), hw, hv]
  rw [show ((base : Int) + k).toNat = base + k by omega]
  rfl
theorem MS_pop {pm : Nat → Int} {base : Nat} {ip ia : Nat → Int} {d : Nat} : MS pm base ip ia d < MS pm base ip ia (d + 1) := by
  show _ < _ + 1 + MS pm base ip ia d
  omega
theorem MS_next {pm : Nat → Int} {base : Nat} {ip ia : Nat → Int} {d : Nat} {i w : Int} (h0 : 0 ≤ ia d) (h : ia d < pm (ip d).toNat) (hi : i = (d : Int)) (hw : w = ia d + 1) : MS pm base ip (uF ia i w) (d + 1) + 18 ^ ((ip d).toNat - base + 1) = MS pm base ip ia (d + 1) := by
  show _ * _ + 1 + MS pm base ip (uF ia i w) d + _ = _ * _ + 1 + MS pm base ip ia d
  rw [uF_on hi, MS_congr (ip' := ip) (ia' := uF ia i w) (fun k hk => ⟨rfl, uF_off hi hk⟩), hw]
  rw [show (pm (ip d).toNat).toNat - (ia d).toNat = ((pm (ip d).toNat).toNat - (ia d + 1).toNat) + 1 by omega, Nat.succ_mul]
  omega
theorem MS_push {pm : Nat → Int} {base : Nat} {ip ia : Nat → Int} {d : Nat} {i w j v : Int} {k p : Nat} (hi : i = (d : Int)) (hj : j = (d : Int)) (hv : v = 0) (hw : w = (base : Int) + k) (hp : pm (base + k) ≤ 16) (hk : k + 1 ≤ p) : MS pm base (uF ip i w) (uF ia j v) (d + 1) < MS pm base ip ia d + 18 ^ (p + 1) := by
  show _ * _ + 1 + MS pm base (uF ip i w) (uF ia j v) d < _
  rw [uF_on hi, uF_on hj, MS_congr (ip' := uF ip i w) (ia' := uF ia j v) (fun k hk => ⟨uF_off hi hk, uF_off hj hk⟩), hw, hv]
  rw [show ((base : Int) + k).toNat = base + k by omega, show (0 : Int).toNat = 0 from rfl, Nat.sub_zero, show base + k - base + 1 = k + 1 by omega]
  have h1 : (pm (base + k)).toNat * 18 ^ (k + 1) ≤ 16 * 18 ^ p := Nat.mul_le_mul (by omega) (Nat.pow_le_pow_right (by decide) hk)
  have h2 : 18 ^ (p + 1) = 18 * 18 ^ p := by rw [Nat.pow_succ, Nat.mul_comm]
  have h3 : 0 < 18 ^ p := Nat.pow_pos (by decide)
  omega
/-- the cues told so far and those to come -/
def ULp (pm cs cw xc ip ia : Nat → Int) (s : Nat) (laid depth : Int) : Prop := ((List.range laid.toNat).map fun x => (xc x).toNat) ++ RL pm cs cw (7 * s) ip ia (depth + 1).toNat = fl pm cs cw (7 * s) 7 6
def SHp (ish : Nat → Int) (depth : Int) : Prop := ∀ d : Nat, (d : Int) ≤ depth → -(120 * ((d : Int) + 1)) ≤ ish d ∧ ish d ≤ 120 * ((d : Int) + 1)
theorem SHp_first {ish : Nat → Int} {depth i w : Int} (hd : depth = 0) (hi : i = 0) (hw : w = 0) : SHp (uF ish i w) depth := fun d h => by
  rw [uF_at, if_pos (by omega)]
  omega
theorem SHp_pop {ish : Nat → Int} {depth depth' : Int} (h : SHp ish depth) (hd : depth' ≤ depth) : SHp ish depth' := fun d h' => h d (by omega)
theorem SHp_use {ish : Nat → Int} {depth depth' i w : Int} (h : SHp ish depth) (h0 : 0 ≤ depth) (hd : depth' = depth + 1) (hi : i = depth + 1) (h1 : -(120 * (depth + 2)) ≤ w) (h2 : w ≤ 120 * (depth + 2)) : SHp (uF ish i w) depth' := fun d h' => by
  rw [uF_at]
  by_cases q : (d : Int) = i
  · rw [if_pos q]
    omega
  · rw [if_neg q]
    exact h d (by omega)
theorem range_snoc (f : Nat → Int) (n : Nat) (i w : Int) (hi : i = (n : Int)) : (List.range (n + 1)).map (fun x => (uF f i w x).toNat) = (List.range n).map (fun x => (f x).toNat) ++ [w.toNat] := by
  rw [List.range_succ, List.map_append]
  congr 1
  · refine List.map_congr_left fun x hx => ?_
    rw [uF_off hi (List.mem_range.mp hx)]
  · show [(uF f i w n).toNat] = _
    rw [uF_on hi]
theorem ULp_first {pm cs cw xc ip ia : Nat → Int} {s : Nat} {laid depth i w j v : Int} (hl : laid = 0) (hd : depth = 0) (hi : i = 0) (hj : j = 0) (hv : v = 0) (hw : w = 7 * s + 6) : ULp pm cs cw xc (uF ip i w) (uF ia j v) s laid depth := by
  unfold ULp
  subst hl hd
  show [] ++ RL _ _ _ _ _ _ (0 + 1) = _
  rw [RL_push (k := 6) (d := 0) hi hj hv (by omega), fl_root]
  show _ ++ [] = _
  rw [List.append_nil]
theorem ULp_pop {pm cs cw xc ip ia : Nat → Int} {s : Nat} {laid depth depth' : Int} (h : ULp pm cs cw xc ip ia s laid depth) (h0 : 0 ≤ depth) (he : ia depth.toNat = pm (ip depth.toNat).toNat) (hd : depth' = depth - 1) : ULp pm cs cw xc ip ia s laid depth' := by
  unfold ULp at h ⊢
  rw [show (depth + 1).toNat = depth.toNat + 1 by omega, RL_pop he] at h
  rw [show (depth' + 1).toNat = depth.toNat by omega]
  exact h
theorem ULp_lay {bl pm cs cw cm ca cmt cn xc ip ia : Nat → Int} {s : Nat} {laid depth c : Int} (h : ULp pm cs cw xc ip ia s laid depth) (P : PGs bl pm cs cw cm ca cmt cn s) (L : LVp bl pm ip ia s depth) (h0 : 0 ≤ depth) (hl : 0 ≤ laid) (hne : ¬ ia depth.toNat = pm (ip depth.toNat).toNat) (hc : c = 16 * ip depth.toNat + ia depth.toNat) (h5 : ¬ cs c.toNat = 5) : laid < 40 ∧ ∀ (i w j v laid' : Int), i = depth → w = ia depth.toNat + 1 → j = laid → v = c → laid' = laid + 1 → ULp pm cs cw (uF xc j v) ip (uF ia i w) s laid' depth := by
  have z := L depth.toNat (by omega)
  unfold ULp at h ⊢
  rw [show (depth + 1).toNat = depth.toNat + 1 by omega] at h ⊢
  rw [RL_head (i := depth) (w := ia depth.toNat + 1) z.2.2.2.1 (by omega) (by omega) rfl] at h
  have ec : 16 * (ip depth.toNat).toNat + (ia depth.toNat).toNat = c.toNat := by omega
  have e : el pm cs cw (7 * s) (ip depth.toNat).toNat (ia depth.toNat).toNat = [c.toNat] := by
    unfold el
    rw [ec, if_neg h5]
  rw [e] at h
  refine ⟨?_, fun i w j v laid' hi hw hj hv hl' => ?_⟩
  · have hlen := congrArg List.length h
    have h40 := P.2.2
    rw [← fl_len] at h40
    rw [← hlen] at h40
    simp only [List.length_append, List.length_map, List.length_range, List.length_cons, List.length_nil] at h40
    omega
  · rw [hi, hw, show laid'.toNat = laid.toNat + 1 by omega, range_snoc _ _ _ _ (by omega), hv, ← h, List.append_assoc]
theorem ULp_use {bl pm cs cw cm ca cmt cn xc ip ia : Nat → Int} {s : Nat} {laid depth c : Int} (h : ULp pm cs cw xc ip ia s laid depth) (P : PGs bl pm cs cw cm ca cmt cn s) (L : LVp bl pm ip ia s depth) (h0 : 0 ≤ depth) (hne : ¬ ia depth.toNat = pm (ip depth.toNat).toNat) (hc : c = 16 * ip depth.toNat + ia depth.toNat) (h5 : cs c.toNat = 5) : ∀ (i w j v i2 w2 depth' : Int), i = depth → w = ia depth.toNat + 1 → j = depth + 1 → v = 0 → i2 = depth + 1 → w2 = 7 * s + cw c.toNat → depth' = depth + 1 → ULp pm cs cw xc (uF ip i2 w2) (uF (uF ia i w) j v) s laid depth' := by
  have z := L depth.toNat (by omega)
  intro i w j v i2 w2 depth' hi hw hj hv hi2 hw2 hd
  unfold ULp at h ⊢
  rw [show (depth + 1).toNat = depth.toNat + 1 by omega] at h
  rw [show (depth' + 1).toNat = (depth.toNat + 1) + 1 by omega]
  rw [RL_head (i := depth) (w := ia depth.toNat + 1) z.2.2.2.1 (by omega) (by omega) rfl] at h
  have ec : 16 * (ip depth.toNat).toNat + (ia depth.toNat).toNat = c.toNat := by omega
  obtain ⟨b, hb, hbb⟩ : ∃ b : Nat, ip depth.toNat = 7 * (s : Int) + b ∧ ((b : Int) < bl s ∨ b = 6) := ⟨(ip depth.toNat - 7 * s).toNat, by omega, by omega⟩
  have ec2 : 16 * (7 * s + b) + (ia depth.toNat).toNat = c.toNat := by omega
  have wc := (P.2.1 b hbb).2 (ia depth.toNat).toNat (by rw [show (7 * s + b : Nat) = (ip depth.toNat).toNat by omega]; omega)
  rw [ec2] at wc
  have w5 := wc.2.2.2.1 h5
  have hk : cw c.toNat < bl s := by
    by_cases b6 : b = 6
    · rw [if_pos b6] at w5; omega
    · rw [if_neg b6] at w5; omega
  have hbl := P.1.2
  have e : el pm cs cw (7 * s) (ip depth.toNat).toNat (ia depth.toNat).toNat = lg (el pm cs cw (7 * s) (7 * s + (cw c.toNat).toNat)) 0 (pm (7 * s + (cw c.toNat).toNat)).toNat := by
    unfold el
    rw [ec, if_pos h5]
    exact fl_block P.uw (by omega) (by omega)
  rw [e] at h
  rw [hi, hw, RL_push (k := (cw c.toNat).toNat) (d := depth.toNat + 1) (by omega) (by omega) hv (by omega)]
  rw [← h]
/-- a block's use is told well -/
theorem use_at {bl pm cs cw cm ca cmt cn ip ia : Nat → Int} {s : Nat} {depth c : Int} (P : PGs bl pm cs cw cm ca cmt cn s) (L : LVp bl pm ip ia s depth) (h0 : 0 ≤ depth) (hne : ¬ ia depth.toNat = pm (ip depth.toNat).toNat) (hc : c = 16 * ip depth.toNat + ia depth.toNat) (h5 : cs c.toNat = 5) : 0 ≤ cw c.toNat ∧ cw c.toNat < bl s ∧ cw c.toNat + 7 * s < ip depth.toNat ∧ -60 ≤ ca c.toNat ∧ ca c.toNat ≤ 60 ∧ cm c.toNat ≤ 7 ∧ depth ≤ 5 ∧ 0 ≤ pm (7 * s + (cw c.toNat).toNat) ∧ pm (7 * s + (cw c.toNat).toNat) ≤ 16 := by
  have z := L depth.toNat (by omega)
  obtain ⟨b, hb, hbb⟩ : ∃ b : Nat, ip depth.toNat = 7 * (s : Int) + b ∧ ((b : Int) < bl s ∨ b = 6) := ⟨(ip depth.toNat - 7 * s).toNat, by omega, by omega⟩
  have ec2 : 16 * (7 * s + b) + (ia depth.toNat).toNat = c.toNat := by omega
  have wc := (P.2.1 b hbb).2 (ia depth.toNat).toNat (by rw [show (7 * s + b : Nat) = (ip depth.toNat).toNat by omega]; omega)
  rw [ec2] at wc
  have w5 := wc.2.2.2.1 h5
  have wm := wc.2.2.2.2.1 (.inr h5)
  have hbl := P.1.2
  have hk : cw c.toNat < bl s := by
    by_cases b6 : b = 6
    · rw [if_pos b6] at w5; omega
    · rw [if_neg b6] at w5; omega
  have hk2 : cw c.toNat < b := by
    by_cases b6 : b = 6
    · omega
    · rw [if_neg b6] at w5; omega
  have hp := P.2.1 (cw c.toNat).toNat (.inl (by omega))
  exact ⟨w5.1, hk, by omega, w5.2.2.1, w5.2.2.2, wm, by omega, hp.1.1, hp.1.2⟩
theorem cue_at {bl pm cs cw cm ca cmt cn ip ia : Nat → Int} {s : Nat} {depth c : Int} (P : PGs bl pm cs cw cm ca cmt cn s) (L : LVp bl pm ip ia s depth) (h0 : 0 ≤ depth) (hne : ¬ ia depth.toNat = pm (ip depth.toNat).toNat) (hc : c = 16 * ip depth.toNat + ia depth.toNat) : ia depth.toNat < 16 ∧ 0 ≤ c ∧ (cs c.toNat < 2 ∨ cs c.toNat = 5 → cm c.toNat ≤ 7) ∧ (cs c.toNat = 1 → cmt c.toNat ≤ 7) := by
  have z := L depth.toNat (by omega)
  obtain ⟨b, hb, hbb⟩ : ∃ b : Nat, ip depth.toNat = 7 * (s : Int) + b ∧ ((b : Int) < bl s ∨ b = 6) := ⟨(ip depth.toNat - 7 * s).toNat, by omega, by omega⟩
  have ec2 : 16 * (7 * s + b) + (ia depth.toNat).toNat = c.toNat := by omega
  have eq := show (7 * s + b : Nat) = (ip depth.toNat).toNat by omega
  have wc := (P.2.1 b hbb).2 (ia depth.toNat).toNat (by rw [eq]; omega)
  have wp := (P.2.1 b hbb).1
  rw [eq] at wp
  rw [ec2] at wc
  exact ⟨by omega, by omega, wc.2.2.2.2.1, wc.2.2.2.2.2⟩
theorem MS_lt_pop {pm : Nat → Int} {base : Nat} {ip ia : Nat → Int} {depth depth' : Int} (h0 : 0 ≤ depth) (hd : depth' = depth - 1) : MS pm base ip ia (depth' + 1).toNat < MS pm base ip ia (depth + 1).toNat := by
  rw [show (depth + 1).toNat = depth.toNat + 1 by omega, show (depth' + 1).toNat = depth.toNat by omega]
  exact MS_pop
theorem MS_lt_lay {bl pm ip ia : Nat → Int} {s : Nat} {depth i w : Int} (L : LVp bl pm ip ia s depth) (h0 : 0 ≤ depth) (hne : ¬ ia depth.toNat = pm (ip depth.toNat).toNat) (hi : i = depth) (hw : w = ia depth.toNat + 1) : MS pm (7 * s) ip (uF ia i w) (depth + 1).toNat < MS pm (7 * s) ip ia (depth + 1).toNat := by
  have z := L depth.toNat (by omega)
  rw [show (depth + 1).toNat = depth.toNat + 1 by omega]
  have h := MS_next (pm := pm) (base := 7 * s) (ip := ip) (ia := ia) (d := depth.toNat) (i := i) (w := w) z.2.2.2.1 (by omega) (by omega) hw
  have : 0 < 18 ^ ((ip depth.toNat).toNat - 7 * s + 1) := Nat.pow_pos (by decide)
  omega
theorem MS_lt_use {bl pm cw ip ia : Nat → Int} {s : Nat} {depth k i w j v i2 w2 depth' : Int} (L : LVp bl pm ip ia s depth) (h0 : 0 ≤ depth) (hne : ¬ ia depth.toNat = pm (ip depth.toNat).toNat) (hk0 : 0 ≤ k) (hk : k + 7 * s < ip depth.toNat) (hp : pm (7 * s + k.toNat) ≤ 16) (hi : i = depth) (hw : w = ia depth.toNat + 1) (hj : j = depth + 1) (hv : v = 0) (hi2 : i2 = depth + 1) (hw2 : w2 = 7 * s + k) (hd : depth' = depth + 1) : MS pm (7 * s) (uF ip i2 w2) (uF (uF ia i w) j v) (depth' + 1).toNat < MS pm (7 * s) ip ia (depth + 1).toNat := by
  have z := L depth.toNat (by omega)
  rw [show (depth + 1).toNat = depth.toNat + 1 by omega, show (depth' + 1).toNat = (depth.toNat + 1) + 1 by omega]
  have h := MS_next (pm := pm) (base := 7 * s) (ip := ip) (ia := ia) (d := depth.toNat) (i := i) (w := w) z.2.2.2.1 (by omega) (by omega) hw
  have g := MS_push (pm := pm) (base := 7 * s) (ip := ip) (ia := uF ia i w) (d := depth.toNat + 1) (i := i2) (w := w2) (j := j) (v := v) (k := k.toNat) (p := (ip depth.toNat).toNat - 7 * s) (by omega) (by omega) hv (by omega) hp (by omega)
  omega
def XLp (pm cs cw xc : Nat → Int) (s : Nat) (laid : Int) : Prop := (List.range laid.toNat).map (fun x => (xc x).toNat) = fl pm cs cw (7 * s) 7 6
theorem ULp_end {pm cs cw xc ip ia : Nat → Int} {s : Nat} {laid depth : Int} (h : ULp pm cs cw xc ip ia s laid depth) (hd : depth = -1) : XLp pm cs cw xc s laid := by
  unfold ULp at h
  subst hd
  unfold XLp
  rw [← h]
  show _ = _ ++ []
  rw [List.append_nil]
theorem XLp_good {bl pm cs cw cm ca cmt cn xc : Nat → Int} {s : Nat} {laid : Int} (h : XLp pm cs cw xc s laid) (P : PGs bl pm cs cw cm ca cmt cn s) : ∀ x : Nat, (x : Int) < laid → gCp cs cw cm ca cmt cn (xc x).toNat := fun x hx => by
  have hm : (xc x).toNat ∈ fl pm cs cw (7 * s) 7 6 := by
    unfold XLp at h
    rw [← h]
    exact List.mem_map.mpr ⟨x, List.mem_range.mpr (by omega), rfl⟩
  exact (fl_good P 7 6 (.inr rfl) hm).1
