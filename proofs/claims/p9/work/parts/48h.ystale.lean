/-! STAMPS, and which mixes are stale. -/
section TSEC
variable {S : Int} {nx : Nat → Nat → Prop} {kind off ms stamp : Nat → Int} {mk : Nat → Int}
/-- the greatest stamp so far along a chain: k is reached -/
def STq (S : Int) (nx : Nat → Nat → Prop) (stamp : Nat → Int) (s k : Nat) (most : Int) : Prop := (k = s ∨ LSp S nx s k) ∧ stamp s ≤ most ∧ ∃ j : Nat, (j = s ∨ LSp S nx s j) ∧ most = stamp j
theorem ST_first {s : Nat} {most : Int} (h : most = stamp s) : STq S nx stamp s s most := ⟨.inl rfl, by omega, s, .inl rfl, h⟩
theorem ST_next {s k k' : Nat} {most most' : Int} (h : STq S nx stamp s k most) (hk : (k : Int) < S) (hn : nx k k') (e : most' = most ∨ (most' = stamp k' ∧ most < most')) : STq S nx stamp s k' most' := by
  have hr : LSp S nx s k' := by
    rcases h.1 with z | z
    · rw [← z]
      exact LS_one hn
    · exact LS_next z hk hn
  obtain ⟨_, h2, j, hj, ej⟩ := h
  rcases e with e | e
  · exact ⟨.inr hr, by omega, j, hj, by omega⟩
  · exact ⟨.inr hr, by omega, k', .inr hr, e.1⟩
/-- what makes a mix stale at once -/
def BSp (S : Int) (nx : Nat → Nat → Prop) (kind ms stamp mk : Nat → Int) (s : Nat) : Prop := kind s = 6 ∧ 0 ≤ ms s ∧ (mk (ms s).toNat > stamp s ∨ ∃ k : Nat, LSp S nx s k ∧ stamp k > stamp s)
def SLp (S : Int) (nx : Nat → Nat → Prop) (kind ms stamp mk : Nat → Int) (s : Nat) : Prop := ∀ X : Nat → Prop, (∀ j : Nat, (j : Int) < S → BSp S nx kind ms stamp mk j → X j) → (∀ j k : Nat, (j : Int) < S → kind j = 6 → LSp S nx j k → (k : Int) < S → X k → X j) → X s
theorem SL_base {s : Nat} (hs : (s : Int) < S) (h : BSp S nx kind ms stamp mk s) : SLp S nx kind ms stamp mk s := fun _ a _ => a s hs h
theorem SL_step {s k : Nat} (hs : (s : Int) < S) (h6 : kind s = 6) (hk : LSp S nx s k) (hkS : (k : Int) < S) (h : SLp S nx kind ms stamp mk k) : SLp S nx kind ms stamp mk s := fun X a b => b s k hs h6 hk hkS (h X a b)
/-- the first round: those below n are told -/
def FSp (S : Int) (nx : Nat → Nat → Prop) (kind ms stamp mk st : Nat → Int) (n : Int) : Prop := ∀ j : Nat, (j : Int) < n → (¬ st j = 0 ↔ BSp S nx kind ms stamp mk j)
theorem FS_first {st : Nat → Int} {n : Int} (h : n = 0) : FSp S nx kind ms stamp mk st n := fun j hj => by omega
theorem FS_no {st : Nat → Int} {n n' i w : Int} (h : FSp S nx kind ms stamp mk st n) (h0 : 0 ≤ n) (hi : i = n) (hw : w = 0) (hn : n' = n + 1) (hk : ¬ kind n.toNat = 6 ∨ ¬ 0 ≤ ms n.toNat) : FSp S nx kind ms stamp mk (uF st i w) n' := fun j hj => by
  rw [uF_at]
  by_cases q : (j : Int) = i
  · rw [if_pos q, show j = n.toNat by omega]
    refine ⟨fun z => absurd hw z, fun z => ?_⟩
    rcases hk with y | y
    · exact absurd z.1 y
    · exact absurd z.2.1 y
  · rw [if_neg q]
    exact h j (by omega)
/-- the inner round: s has been held against those below k -/
def INp (S : Int) (nx : Nat → Nat → Prop) (ms stamp mk st : Nat → Int) (s k : Int) : Prop := (¬ st s.toNat = 0 → mk (ms s.toNat).toNat > stamp s.toNat ∨ ∃ j : Nat, LSp S nx s.toNat j ∧ stamp j > stamp s.toNat) ∧ ((mk (ms s.toNat).toNat > stamp s.toNat ∨ ∃ j : Nat, (j : Int) < k ∧ LSp S nx s.toNat j ∧ stamp j > stamp s.toNat) → ¬ st s.toNat = 0)
theorem FS_up {st : Nat → Int} {n i w : Int} (h : FSp S nx kind ms stamp mk st n) (hi : i = n) : FSp S nx kind ms stamp mk (uF st i w) n := fun j hj => by
  rw [uF_at, if_neg (by omega)]
  exact h j hj
theorem IN_first {st : Nat → Int} {s i w k v : Int} (h0 : 0 ≤ s) (hi : i = s) (hk : k = 0) (hv : v = mk (ms s.toNat).toNat) (e : (stamp s.toNat < v ∧ w = 1) ∨ (v ≤ stamp s.toNat ∧ w = 0)) : INp S nx ms stamp mk (uF st i w) s k := by
  have en : uF st i w s.toNat = w := by rw [uF_at, if_pos (by omega)]
  unfold INp
  rw [en]
  refine ⟨fun z => .inl (by omega), fun z => ?_⟩
  rcases z with z | ⟨j, hj, _⟩
  · omega
  · omega
theorem IN_skip {st : Nat → Int} {s k k' : Int} (h : INp S nx ms stamp mk st s k) (h0 : 0 ≤ k) (hk : k' = k + 1) (e : LSp S nx s.toNat k.toNat → stamp k.toNat ≤ stamp s.toNat) : INp S nx ms stamp mk st s k' := by
  refine ⟨h.1, fun z => h.2 ?_⟩
  rcases z with z | ⟨j, hj, a, b⟩
  · exact .inl z
  · refine .inr ⟨j, ?_, a, b⟩
    by_cases q : (j : Int) = k
    · rw [show j = k.toNat by omega] at a b
      have := e a
      omega
    · omega
theorem IN_hit {st : Nat → Int} {s k i w most : Int} (h0 : 0 ≤ s) (hi : i = s) (hw : w = 1) (hkS : (k.toNat : Int) < S) (hl : LSp S nx s.toNat k.toNat) (q : STq S nx stamp k.toNat k.toNat most ∨ ∃ j, STq S nx stamp k.toNat j most) (hm : most > stamp s.toNat) {k' : Int} : INp S nx ms stamp mk (uF st i w) s k' := by
  have en : uF st i w s.toNat = w := by rw [uF_at, if_pos (by omega)]
  unfold INp
  rw [en]
  refine ⟨fun _ => .inr ?_, fun _ => by omega⟩
  have q2 : ∃ j, STq S nx stamp k.toNat j most := q.elim (fun z => ⟨_, z⟩) id
  obtain ⟨_, _, _, j, hj, e⟩ := q2
  refine ⟨j, ?_, by omega⟩
  rcases hj with z | z
  · rw [z]
    exact hl
  · exact LS_trans hl hkS z
theorem FS_end {st : Nat → Int} {n n' : Int} (h : FSp S nx kind ms stamp mk st n) (h0 : 0 ≤ n) (hn : n' = n + 1) (h6 : kind n.toNat = 6) (hm : 0 ≤ ms n.toNat) (g : INp S nx ms stamp mk st n S) (hS : ∀ j, LSp S nx n.toNat j → (j : Int) < S) : FSp S nx kind ms stamp mk st n' := fun j hj => by
  by_cases q : (j : Int) = n
  · rw [show j = n.toNat by omega]
    refine ⟨fun z => ⟨h6, hm, g.1 z⟩, fun z => g.2 ?_⟩
    rcases z.2.2 with y | ⟨k, a, b⟩
    · exact .inl y
    · exact .inr ⟨k, hS k a, a, b⟩
  · exact h j (by omega)
/-- while those that lean on stale ones come in -/
def NWp (S : Int) (nx : Nat → Nat → Prop) (kind ms stamp mk st : Nat → Int) : Prop := (∀ j : Nat, (j : Int) < S → BSp S nx kind ms stamp mk j → ¬ st j = 0) ∧ ∀ j : Nat, (j : Int) < S → ¬ st j = 0 → SLp S nx kind ms stamp mk j
def CLp (S : Int) (nx : Nat → Nat → Prop) (kind st : Nat → Int) (n : Int) : Prop := ∀ j : Nat, (j : Int) < n → kind j = 6 → ∀ k : Nat, (k : Int) < S → LSp S nx j k → ¬ st k = 0 → ¬ st j = 0
theorem NW_first {st : Nat → Int} (h : FSp S nx kind ms stamp mk st S) : NWp S nx kind ms stamp mk st := ⟨fun j hj z => (h j hj).mpr z, fun j hj z => SL_base hj ((h j hj).mp z)⟩
theorem NW_add {st : Nat → Int} {s i w : Int} (h : NWp S nx kind ms stamp mk st) (h0 : 0 ≤ s) (hs : s < S) (hi : i = s) (hw : w = 1) (h6 : kind s.toNat = 6) (e : ∃ k : Nat, (k : Int) < S ∧ LSp S nx s.toNat k ∧ ¬ st k = 0) : NWp S nx kind ms stamp mk (uF st i w) := by
  refine ⟨fun j hj z => ?_, fun j hj z => ?_⟩
  · rw [uF_at]
    split
    · omega
    · exact h.1 j hj z
  · rw [uF_at] at z
    by_cases q : (j : Int) = i
    · obtain ⟨k, a, b, c⟩ := e
      rw [show j = s.toNat by omega]
      exact SL_step (by omega) h6 b a (h.2 k a c)
    · rw [if_neg q] at z
      exact h.2 j hj z
theorem CL_nil {st : Nat → Int} {n : Int} (h : n = 0) : CLp S nx kind st n := fun j hj => by omega
theorem CL_step {st : Nat → Int} {n n' : Int} (h : CLp S nx kind st n) (h0 : 0 ≤ n) (hn : n' = n + 1) (e : ¬ kind n.toNat = 6 ∨ ¬ st n.toNat = 0 ∨ ¬ ∃ k : Nat, (k : Int) < S ∧ LSp S nx n.toNat k ∧ ¬ st k = 0) : CLp S nx kind st n' := fun j hj h6 k hk hl hz => by
  by_cases q : (j : Int) = n
  · rw [show j = n.toNat by omega] at h6 hl ⊢
    rcases e with e | e | e
    · exact absurd h6 e
    · exact e
    · exact absurd ⟨k, hk, hl, hz⟩ e
  · exact h j (by omega) h6 k hk hl hz
theorem NW_end {st : Nat → Int} (h : NWp S nx kind ms stamp mk st) (c : CLp S nx kind st S) : ∀ s : Nat, (s : Int) < S → (¬ st s = 0 ↔ SLp S nx kind ms stamp mk s) := fun s hs => by
  refine ⟨h.2 s hs, fun z => ?_⟩
  have y := z (fun j => (j : Int) < S ∧ ¬ st j = 0) (fun j hj b => ⟨hj, h.1 j hj b⟩) (fun j k hj h6 hl hk x => ⟨hj, c j hj h6 k hk hl x.2⟩)
  exact y.2
/-- none leans on a stale one below k -/
def NOp (S : Int) (nx : Nat → Nat → Prop) (st : Nat → Int) (s : Nat) (n : Int) : Prop := ∀ k : Nat, (k : Int) < n → LSp S nx s k → st k = 0
theorem NO_step {st : Nat → Int} {s : Nat} {n n' : Int} (h : NOp S nx st s n) (h0 : 0 ≤ n) (hn : n' = n + 1) (e : LSp S nx s n.toNat → st n.toNat = 0) : NOp S nx st s n' := fun k hk hl => by
  by_cases q : (k : Int) = n
  · rw [show k = n.toNat by omega] at hl ⊢
    exact e hl
  · exact h k (by omega) hl
/-- zeros -/
def nzc (f : Nat → Int) : Nat → Nat
  | 0 => 0
  | n + 1 => nzc f n + if f n = 0 then 1 else 0
theorem nzc_cong {f g : Nat → Int} : ∀ {n : Nat}, (∀ k, k < n → f k = g k) → nzc f n = nzc g n := by
  intro n
  induction n with
  | zero => intro _; rfl
  | succ n ih =>
    intro h
    unfold nzc
    rw [ih fun k hk => h k (by omega), h n (by omega)]
theorem nzc_up {f : Nat → Int} {i w : Int} : ∀ {n : Nat}, 0 ≤ i → i < n → f i.toNat = 0 → ¬ w = 0 → nzc (uF f i w) n + 1 = nzc f n := by
  intro n
  induction n with
  | zero => intro _ h; omega
  | succ n ih =>
    intro h0 h1 hf hw
    unfold nzc
    by_cases q : i = (n : Int)
    · rw [nzc_cong (g := f) fun k hk => by rw [uF_at, if_neg (by omega)], uF_at, if_pos q.symm, if_neg hw]
      rw [show i.toNat = n by omega] at hf
      rw [if_pos hf]
    · have := ih h0 (by omega) hf hw
      have e : uF f i w n = f n := by rw [uF_at, if_neg (by omega)]
      rw [e]
      omega
/-- how many are stale -/
noncomputable def cntP (p : Nat → Prop) : Nat → Nat
  | 0 => 0
  | n + 1 => cntP p n + @ite Nat (p n) (Classical.propDecidable (p n)) 1 0
theorem cnt_le {p : Nat → Prop} : ∀ n : Nat, cntP p n ≤ n := by
  intro n
  induction n with
  | zero => exact Nat.le_refl 0
  | succ n ih =>
    unfold cntP
    split <;> omega
theorem cnt_mono {p q : Nat → Prop} : ∀ {n : Nat}, (∀ k, k < n → q k → p k) → cntP q n ≤ cntP p n := by
  intro n
  induction n with
  | zero => intro _; exact Nat.le_refl 0
  | succ n ih =>
    intro h
    have a := ih fun k hk => h k (by omega)
    unfold cntP
    by_cases z : q n
    · rw [if_pos z, if_pos (h n (by omega) z)]
      omega
    · rw [if_neg z]
      omega
theorem cnt_lt {p q : Nat → Prop} : ∀ {n : Nat}, (∀ k, k < n → q k → p k) → (∃ k, k < n ∧ p k ∧ ¬ q k) → cntP q n < cntP p n := by
  intro n
  induction n with
  | zero => intro _ h; obtain ⟨k, hk, _⟩ := h; omega
  | succ n ih =>
    intro h e
    obtain ⟨k, hk, hp, hq⟩ := e
    unfold cntP
    by_cases z : k = n
    · subst z
      have a := cnt_mono (p := p) (q := q) (n := k) fun j hj => h j (by omega)
      rw [if_pos hp, if_neg hq]
      omega
    · have a := ih (fun j hj => h j (by omega)) ⟨k, by omega, hp, hq⟩
      by_cases y : q n
      · rw [if_pos y, if_pos (h n (by omega) y)]
        omega
      · rw [if_neg y]
        omega
noncomputable def SNv (S : Int) (nx : Nat → Nat → Prop) (kind ms stamp mk : Nat → Int) : Nat := cntP (fun s => (s : Int) < S ∧ SLp S nx kind ms stamp mk s) 20
/-- one that is stale and leans on none that is, made again: one less -/
theorem SN_less {s : Nat} {i w : Int} {r : Nat → Nat} (hS20 : S ≤ 20) (hs : (s : Int) < S) (hsl : SLp S nx kind ms stamp mk s) (hno : ∀ k : Nat, (k : Int) < S → LSp S nx s k → ¬ SLp S nx kind ms stamp mk k) (hac : ∀ k : Nat, (k : Int) < S → ∀ j, nx k j → (j : Int) < S ∧ r j < r k) (hi : i = (s : Int)) (hw : ∀ k : Nat, (k : Int) < 20 → stamp k < w) (hmk : ∀ k : Nat, (k : Int) < S → kind k = 6 → 0 ≤ ms k → mk (ms k).toNat < w) : SNv S nx kind ms (uF stamp i w) mk < SNv S nx kind ms stamp mk := by
  have hin : ∀ k : Nat, (k : Int) < S → ∀ j, LSp S nx k j → (j : Int) < S ∧ r j < r k := fun k hk j h => h (fun j => (j : Int) < S ∧ r j < r k) (fun i hi => hac k hk i hi) (fun a b ha _ hb => by
    have := hac a ha.1 b hb
    exact ⟨this.1, by omega⟩)
  have e : ∀ k : Nat, ¬ k = s → uF stamp i w k = stamp k := fun k hk => by rw [uF_at, if_neg (by omega)]
  have es : uF stamp i w s = w := by rw [uF_at, if_pos hi.symm]
  have base : ∀ j : Nat, (j : Int) < S → BSp S nx kind ms (uF stamp i w) mk j → SLp S nx kind ms stamp mk j ∧ ¬ j = s := fun j hj b => by
    obtain ⟨b1, b2, b3⟩ := b
    by_cases q : j = s
    · subst q
      rw [es] at b3
      rcases b3 with z | ⟨k, hk, z⟩
      · have := hmk j hs b1 b2
        omega
      · have hk2 := hin j hs k hk
        rw [e k (by intro y; rw [y] at hk2; omega)] at z
        have := hw k (by omega)
        omega
    · rw [e j q] at b3
      refine ⟨?_, q⟩
      rcases b3 with z | ⟨k, hk, z⟩
      · exact SL_base hj ⟨b1, b2, .inl z⟩
      · by_cases y : k = s
        · rw [y] at hk
          exact SL_step hj b1 hk hs hsl
        · rw [e k y] at z
          exact SL_base hj ⟨b1, b2, .inr ⟨k, hk, z⟩⟩
  have sub : ∀ j : Nat, SLp S nx kind ms (uF stamp i w) mk j → SLp S nx kind ms stamp mk j ∧ ¬ j = s := fun j h => h (fun j => SLp S nx kind ms stamp mk j ∧ ¬ j = s) base (fun j k hj h6 hl hk x => by
    refine ⟨SL_step hj h6 hl hk x.1, fun y => ?_⟩
    subst y
    exact hno k hk hl x.1)
  unfold SNv
  refine cnt_lt (fun k _ z => ⟨z.1, (sub k z.2).1⟩) ⟨s, by omega, ⟨hs, hsl⟩, fun z => (sub s z.2).2 rfl⟩
theorem SL_made {s : Nat} (h : SLp S nx kind ms stamp mk s) (hn : ∀ j k : Nat, kind j = 6 → nx j k → 0 ≤ ms j) : (s : Int) < S ∧ kind s = 6 ∧ 0 ≤ ms s := h (fun s => (s : Int) < S ∧ kind s = 6 ∧ 0 ≤ ms s) (fun j hj b => ⟨hj, b.1, b.2.1⟩) (fun j k hj h6 hl _ _ => by
  obtain ⟨i, hi⟩ := LS_first hl
  exact ⟨hj, h6, hn j i h6 hi⟩)
end TSEC
theorem NX_made {kind off ms pm cs cw : Nat → Int} : ∀ j k : Nat, kind j = 6 → NXp kind off ms pm cs cw j k → 0 ≤ ms j := fun j k h6 h => by
  rcases h with ⟨z, _⟩ | ⟨_, z, _⟩
  · omega
  · exact z
theorem uF_same {f : Nat → Int} {i w : Int} (hw : w = f i.toNat) : uF f i w = f := by
  funext j
  rw [uF_at]
  split
  · rw [hw]
    congr 1
    omega
  · rfl
/-- a mix made of a sheet that lays none that leans on it -/
theorem AC_make {S sh i w : Int} {kind off ms pm cs cw : Nat → Int} {s p : Nat} (h : ACp S sh kind off ms pm cs cw) (hS : (s : Int) < S) (h6 : kind s = 6) (hp : (p : Int) < sh) (hi : i = (s : Int)) (hw : w = (p : Int)) (hl : ∀ j, LYp pm cs cw p j → (j : Int) < S ∧ ¬ j = s ∧ ¬ LSp S (NXp kind off ms pm cs cw) j s) : ACp S sh kind off (uF ms i w) pm cs cw := by
  obtain ⟨h1, r, h2⟩ := h
  have en : uF ms i w s = w := by rw [uF_at, if_pos hi.symm]
  have eo : ∀ k : Nat, ¬ k = s → uF ms i w k = ms k := fun k hk => by rw [uF_at, if_neg (by omega)]
  have hbig : ∃ M : Nat, ∀ k : Nat, (k : Int) < S → r k < M := by
    have : ∀ n : Nat, ∃ M : Nat, ∀ k : Nat, k < n → r k < M := by
      intro n
      induction n with
      | zero => exact ⟨0, fun k hk => absurd hk (Nat.not_lt_zero _)⟩
      | succ n ih =>
        obtain ⟨M, hM⟩ := ih
        refine ⟨M + r n + 1, fun k hk => ?_⟩
        by_cases q : k = n
        · rw [q]
          omega
        · have := hM k (by omega)
          omega
    obtain ⟨M, hM⟩ := this S.toNat
    exact ⟨M, fun k hk => hM k (by omega)⟩
  obtain ⟨M, hM⟩ := hbig
  refine ⟨fun k hk k6 k0 => ?_, fun k => r k + @ite Nat (k = s ∨ LSp S (NXp kind off ms pm cs cw) k s) (Classical.propDecidable _) M 0, fun k hk j hx => ?_⟩
  · by_cases q : k = s
    · rw [q, en]
      omega
    · rw [eo k q] at k0 ⊢
      exact h1 k hk k6 k0
  · show _ ∧ r j + _ < r k + _
    by_cases q : k = s
    · subst q
      have hy : LYp pm cs cw p j := by
        rcases hx with ⟨z, _⟩ | ⟨_, _, z⟩
        · omega
        · rw [en, hw, show ((p : Int)).toNat = p by omega] at z
          exact z
      have y := hl j hy
      refine ⟨y.1, ?_⟩
      rw [if_pos (Or.inl rfl), if_neg (fun z => z.elim y.2.1 y.2.2)]
      have := hM j y.1
      omega
    · have hx2 : NXp kind off ms pm cs cw k j := by
        rcases hx with z | ⟨a, b, z⟩
        · exact .inl z
        · rw [eo k q] at b z
          exact .inr ⟨a, b, z⟩
      have y := h2 k hk j hx2
      refine ⟨y.1, ?_⟩
      by_cases z : j = s ∨ LSp S (NXp kind off ms pm cs cw) j s
      · have zk : k = s ∨ LSp S (NXp kind off ms pm cs cw) k s := by
          right
          rcases z with z | z
          · rw [← z]
            exact LS_one hx2
          · exact LS_trans (LS_one hx2) y.1 z
        rw [if_pos z, if_pos zk]
        omega
      · rw [if_neg z]
        split <;> omega
theorem IN_le {S : Int} {nx : Nat → Nat → Prop} {ms stamp st : Nat → Int} {mk : Nat → Int} {s k : Int} (h : INp S nx ms stamp mk st s k) (e : S ≤ k) : INp S nx ms stamp mk st s S := ⟨h.1, fun z => h.2 (z.elim .inl fun ⟨j, a, b⟩ => .inr ⟨j, by omega, b⟩)⟩
theorem FS_le {S : Int} {nx : Nat → Nat → Prop} {kind ms stamp st : Nat → Int} {mk : Nat → Int} {n : Int} (h : FSp S nx kind ms stamp mk st n) (e : S ≤ n) : FSp S nx kind ms stamp mk st S := fun j hj => h j (by omega)
theorem CL_le {S : Int} {nx : Nat → Nat → Prop} {kind st : Nat → Int} {n : Int} (h : CLp S nx kind st n) (e : S ≤ n) : CLp S nx kind st S := fun j hj => h j (by omega)
theorem NO_le {S : Int} {nx : Nat → Nat → Prop} {st : Nat → Int} {s : Nat} {n : Int} (h : NOp S nx st s n) (e : S ≤ n) : NOp S nx st s S := fun j hj => h j (by omega)
theorem nzc_le {f : Nat → Int} : ∀ n : Nat, nzc f n ≤ n := by
  intro n
  induction n with
  | zero => exact Nat.le_refl 0
  | succ n ih =>
    unfold nzc
    split <;> omega
theorem AC_in {S sh : Int} {kind off ms pm cs cw : Nat → Int} (h : ACp S sh kind off ms pm cs cw) {k : Nat} (hk : (k : Int) < S) : ∀ j, LSp S (NXp kind off ms pm cs cw) k j → (j : Int) < S := fun j z => z (fun j => (j : Int) < S) (fun i hi => ((Classical.choose_spec h.2) k hk i hi).1) (fun a b ha _ hb => ((Classical.choose_spec h.2) a ha b hb).1)
theorem SOp_make {S sh i w v : Int} {kind first last off ms me : Nat → Int} (h : SOp S sh kind first last off ms me) (h0 : 0 ≤ i) (h6 : kind i.toNat = 6) (hw : w < sh) (hv : 0 ≤ v) : SOp S sh kind first last off (uF ms i w) (uF me i v) := fun s hs => by
  have z := h s hs
  refine ⟨z.1, z.2.1, z.2.2.1, ?_⟩
  rw [uF_at, uF_at]
  by_cases q : (s : Int) = i
  · rw [if_pos q, if_pos q]
    intro _
    rw [show s = i.toNat by omega]
    exact ⟨hw, hv, h6⟩
  · rw [if_neg q, if_neg q]
    exact z.2.2.2
theorem SSp_gen {st i g : Int} {stamp gen mk : Nat → Int} (h : SSp st stamp gen mk) (hg : g ≤ st + 1) : SSp (st + 1) stamp (uF gen i g) mk := by
  refine ⟨fun s hs => ?_, fun k hk => by have := h.2 k hk; omega⟩
  have z := h.1 s hs
  rw [uF_at]
  split <;> omega
theorem XQp_g {laid : Int} {xc cs cw cm ca cmt cn : Nat → Int} (z : XQp laid xc cs cw cm ca cmt cn) {s : Nat} (hs : (s : Int) < laid) (h0 : cs (xc s).toNat = 0) : 0 ≤ cw (xc s).toNat ∧ cw (xc s).toNat ≤ 19 := by
  have g : gCp _ _ _ _ _ _ _ := z s hs
  exact ⟨(g.2.1 h0).1, (g.2.1 h0).2.1⟩
theorem SS_gen {st : Int} {stamp gen mk : Nat → Int} (h : SSp st stamp gen mk) (k : Int) (h0 : 0 ≤ k) (h1 : k ≤ 19) : gen k.toNat ≤ st := (h.1 k.toNat (by omega)).2
/-- the bits of what a sheet lays are those of sounds -/
theorem set_lt {r S c one : Int} {p : Nat → Prop} (h : BTS r p) (hp : ∀ j, p j → j < 20) (hr1 : -2147483648 ≤ r) (hr2 : r ≤ 2147483647) (hc : c = o32 (fun x y => x <<< (y &&& 31)) one S) (h1 : one = 1) (hS0 : 0 ≤ S) (hS : S ≤ 20) (hlt : r < c) : ∀ j, p j → (j : Int) < S := fun j hj => by
  have e := o32_shl hc h1 hS0 (by omega)
  have h31 : bt r 31 = false := by
    cases hb : bt r 31 with
    | false => rfl
    | true =>
      have := hp 31 ((h 31 (by decide)).mp hb)
      omega
  have r0 := bt_neg hr1 hr2 h31
  have g := bt_ge r0 hr2 ((h j (by have := hp j hj; omega)).mpr hj)
  refine Classical.byContradiction fun hn => ?_
  have : (2 ^ S.toNat : Nat) ≤ 2 ^ j := Nat.pow_le_pow_right (by decide) (by omega)
  omega
theorem LY_lt {bl pm cs cw cm ca cmt cn : Nat → Int} {s : Nat} (P : PGs bl pm cs cw cm ca cmt cn s) : ∀ j, LYp pm cs cw s j → j < 20 := fun j h => by
  obtain ⟨c, hc, c0, e⟩ := h
  have g := (fl_good P 7 6 (.inr rfl) hc).1
  have := (g.2.1 c0).2.1
  omega
/-- in make: those below k that are laid don't lean on s -/
def MAp (S : Int) (nx : Nat → Nat → Prop) (ly : Nat → Prop) (s : Nat) (n : Int) : Prop := ∀ j : Nat, (j : Int) < n → ly j → ¬ LSp S nx j s
theorem MA_step {S : Int} {nx : Nat → Nat → Prop} {ly : Nat → Prop} {s : Nat} {n n' : Int} (h : MAp S nx ly s n) (h0 : 0 ≤ n) (hn : n' = n + 1) (e : ly n.toNat → ¬ LSp S nx n.toNat s) : MAp S nx ly s n' := fun j hj hl => by
  by_cases q : (j : Int) = n
  · rw [show j = n.toNat by omega] at hl ⊢
    exact e hl
  · exact h j (by omega) hl
theorem mf_le {ms : Nat → Int} {B : Int} : ∀ (l : List Nat) (m : Int), m ≤ B → (∀ k, k ∈ l → ms k ≤ B) → mf ms m l ≤ B := by
  intro l
  induction l with
  | nil => intro m h _; exact h
  | cons k l ih =>
    intro m h g
    refine ih _ ?_ fun j hj => g j (List.mem_cons_of_mem _ hj)
    split
    · exact g k List.mem_cons_self
    · exact h
theorem fm_le {bl pm cs cw cm ca cmt cn : Nat → Int} {s : Nat} (P : PGs bl pm cs cw cm ca cmt cn s) {k : Nat} : ∀ (n b : Nat) (im : Int), ((b : Int) < bl s ∨ b = 6) → im ≤ 7 → k ∈ fm pm cs cw cm cmt (7 * s) n b im → k < 8 := by
  intro n
  induction n with
  | zero => intro b im _ _ h; exact absurd h (List.not_mem_nil)
  | succ n ih =>
    intro b im hb him h
    unfold fm at h
    obtain ⟨j, _, hj, h⟩ := lg_mem h
    have z := P.2.1 b hb
    have w := z.2 j (by omega)
    have ho : ∀ f : Nat → Int, f (16 * (7 * s + b) + j) ≤ 7 → ow f (16 * (7 * s + b) + j) im ≤ 7 := fun f hf => by
      unfold ow
      split
      · exact him
      · exact hf
    rcases List.mem_append.mp h with h | h
    · unfold mk2 at h
      rcases List.mem_append.mp h with h | h
      · split at h
        · rename_i q
          have := ho cm (w.2.2.2.2.1 (.inl q.1))
          rw [List.mem_singleton.mp h]
          omega
        · exact absurd h (List.not_mem_nil)
      · split at h
        · rename_i q
          have := ho cmt (w.2.2.2.2.2 q.1)
          rw [List.mem_singleton.mp h]
          omega
        · exact absurd h (List.not_mem_nil)
    · split at h
      · rename_i q
        have u := w.2.2.2.1 q
        refine ih _ _ (.inl ?_) (ho cm (w.2.2.2.2.1 (.inr q))) h
        by_cases b6 : b = 6
        · rw [if_pos b6] at u; omega
        · have := P.1.2
          rw [if_neg b6] at u; omega
      · exact absurd h (List.not_mem_nil)
theorem MK_le {bl pm cs cw cm ca cmt cn mks stamp gen : Nat → Int} {s : Nat} {st : Int} (P : PGs bl pm cs cw cm ca cmt cn s) (h : SSp st stamp gen mks) (h0 : 0 ≤ st) : MKv pm cs cw cm cmt mks s ≤ st := mf_le _ _ h0 fun k hk => h.2 k (by have := fm_le P 7 6 (-1) (.inr rfl) (by decide) hk; omega)
