/-! WHAT LEANS ON WHAT. -/
def LYp (pm cs cw : Nat → Int) (s j : Nat) : Prop := ∃ c, c ∈ fl pm cs cw (7 * s) 7 6 ∧ cs c = 0 ∧ cw c = (j : Int)
def LBp (cs cw xc : Nat → Int) (n : Int) (j : Nat) : Prop := ∃ x : Nat, (x : Int) < n ∧ cs (xc x).toNat = 0 ∧ cw (xc x).toNat = (j : Int)
theorem BTS_congr {r : Int} {p q : Nat → Prop} (h : BTS r p) (e : ∀ j, j < 32 → (p j ↔ q j)) : BTS r q := fun j hj => (h j hj).trans (e j hj)
theorem LB_nil {cs cw xc : Nat → Int} {r n : Int} (hr : r = 0) (hn : n = 0) : BTS r (LBp cs cw xc n) := fun j _ => by
  rw [hr, bt_zero]
  refine ⟨fun z => (nomatch z), fun z => ?_⟩
  obtain ⟨x, hx, _⟩ := z
  omega
theorem LB_skip {cs cw xc : Nat → Int} {r n n' : Int} (h : BTS r (LBp cs cw xc n)) (h0 : 0 ≤ n) (hc : ¬ cs (xc n.toNat).toNat = 0) (hn : n' = n + 1) : BTS r (LBp cs cw xc n') := BTS_congr h fun j _ => by
  refine ⟨fun ⟨x, a, b⟩ => ⟨x, by omega, b⟩, fun ⟨x, a, b⟩ => ⟨x, ?_, b⟩⟩
  by_cases e : (x : Int) = n
  · rw [show x = n.toNat by omega] at b
    exact absurd b.1 hc
  · omega
theorem LB_add {cs cw xc : Nat → Int} {r n n' r1 m one c : Int} (h : BTS r (LBp cs cw xc n)) (h0 : 0 ≤ n) (hc : cs (xc n.toNat).toNat = 0) (hw0 : 0 ≤ c) (hw1 : c ≤ 19) (ho : r1 = o32 (fun x y => x ||| y) r m) (hm : m = o32 (fun x y => x <<< (y &&& 31)) one c) (h1 : one = 1) (hcw : c = cw (xc n.toNat).toNat) (hn : n' = n + 1) : BTS r1 (LBp cs cw xc n') := fun j hj => by
  rw [ho, bt_or, Bool.or_eq_true, h j hj, bt_shl hm h1 hw0 (by omega) hj]
  refine ⟨fun z => ?_, fun ⟨x, a, b⟩ => ?_⟩
  · rcases z with ⟨x, a, b⟩ | z
    · exact ⟨x, by omega, b⟩
    · exact ⟨n.toNat, by omega, hc, by omega⟩
  · by_cases e : (x : Int) = n
    · right
      rw [show x = n.toNat by omega] at b
      omega
    · exact .inl ⟨x, by omega, b⟩
theorem LB_end {pm cs cw xc : Nat → Int} {s : Nat} {r n laid : Int} (h : BTS r (LBp cs cw xc n)) (x : XLp pm cs cw xc s laid) (hn : n = laid) : BTS r (LYp pm cs cw s) := BTS_congr h fun j _ => by
  unfold XLp at x
  unfold LYp
  rw [← x]
  refine ⟨fun ⟨i, a, b⟩ => ⟨(xc i).toNat, List.mem_map.mpr ⟨i, List.mem_range.mpr (by omega), rfl⟩, b⟩, fun ⟨c, a, b⟩ => ?_⟩
  obtain ⟨i, hi, e⟩ := List.mem_map.mp a
  have := List.mem_range.mp hi
  exact ⟨i, by omega, by rw [e]; exact b⟩
/-- what a sound leans on at once -/
def NXp (kind off ms pm cs cw : Nat → Int) (k j : Nat) : Prop := ((kind k = 4 ∨ kind k = 5) ∧ off k = (j : Int)) ∨ (kind k = 6 ∧ 0 ≤ ms k ∧ LYp pm cs cw (ms k).toNat j)
theorem NX_off {kind off ms pm cs cw : Nat → Int} {k : Nat} {n one c : Int} (hk : kind k = 4 ∨ kind k = 5) (hm : n = o32 (fun x y => x <<< (y &&& 31)) one c) (h1 : one = 1) (hc : c = off k) (hc0 : 0 ≤ c) (hc1 : c ≤ 19) : BTS n (NXp kind off ms pm cs cw k) := fun j hj => by
  rw [bt_shl hm h1 hc0 (by omega) hj]
  refine ⟨fun z => .inl ⟨hk, by omega⟩, fun z => ?_⟩
  rcases z with ⟨_, z⟩ | ⟨z, _⟩
  · omega
  · omega
theorem NX_lays {kind off ms pm cs cw : Nat → Int} {k : Nat} {n : Int} {s : Nat} (h : BTS n (LYp pm cs cw s)) (hk : kind k = 6) (hm : 0 ≤ ms k) (hs : s = (ms k).toNat) : BTS n (NXp kind off ms pm cs cw k) := BTS_congr h fun j _ => by
  subst hs
  refine ⟨fun z => .inr ⟨hk, hm, z⟩, fun z => ?_⟩
  rcases z with ⟨z, _⟩ | ⟨_, _, z⟩
  · omega
  · exact z
theorem NX_none {kind off ms pm cs cw : Nat → Int} {k : Nat} {n : Int} (hn : n = 0) (h4 : ¬ kind k = 4) (h5 : ¬ kind k = 5) (h6 : ¬ kind k = 6 ∨ ms k = -1) : BTS n (NXp kind off ms pm cs cw k) := fun j _ => by
  rw [hn, bt_zero]
  refine ⟨fun z => (nomatch z), fun z => ?_⟩
  rcases z with ⟨z, _⟩ | ⟨z, y, _⟩
  · omega
  · omega
/-- all on which k leans: the least such set (sounds alone are gone through) -/
def LSp (S : Int) (nx : Nat → Nat → Prop) (k j : Nat) : Prop := ∀ X : Nat → Prop, (∀ i, nx k i → X i) → (∀ a b, X a → (a : Int) < S → nx a b → X b) → X j
theorem LS_one {S : Int} {nx : Nat → Nat → Prop} {k j : Nat} (h : nx k j) : LSp S nx k j := fun _ a _ => a j h
theorem LS_next {S : Int} {nx : Nat → Nat → Prop} {k a b : Nat} (h : LSp S nx k a) (ha : (a : Int) < S) (hn : nx a b) : LSp S nx k b := fun X p q => q a b (h X p q) ha hn
theorem LS_trans {S : Int} {nx : Nat → Nat → Prop} {k a b : Nat} (h : LSp S nx k a) (ha : (a : Int) < S) (hb : LSp S nx a b) : LSp S nx k b := hb (fun j => LSp S nx k j) (fun _ hi => LS_next h ha hi) (fun _ _ hx hs hn => LS_next hx hs hn)
theorem LS_first {S : Int} {nx : Nat → Nat → Prop} {k j : Nat} (h : LSp S nx k j) : ∃ i, nx k i := by
  refine Classical.byContradiction fun hn => ?_
  exact h (fun _ => False) (fun i hi => hn ⟨i, hi⟩) (fun _ _ z _ _ => z)
/-- the bits while leansOf runs: all (gone through), more -/
def LMp (S : Int) (nx : Nat → Nat → Prop) (k : Nat) (all more : Int) : Prop := (∀ j, j < 32 → bt all j = true → bt more j = true) ∧ (∀ j, j < 32 → nx k j → bt more j = true) ∧ (∀ j, j < 32 → bt more j = true → LSp S nx k j)
/-- for those gone through so far (below n) what they lean on is in -/
def LCp (S : Int) (nx : Nat → Nat → Prop) (n : Int) (all more : Int) : Prop := ∀ a, a < 32 → bt all a = true → (a : Int) < S → (a : Int) < n → ∀ b, b < 32 → nx a b → bt more b = true
theorem LM_first {S : Int} {nx : Nat → Nat → Prop} {k : Nat} {all more : Int} (ha : all = 0) (h : BTS more (nx k)) : LMp S nx k all more := ⟨fun j _ z => (by rw [ha, bt_zero] at z; cases z), fun j hj z => (h j hj).mpr z, fun j hj z => LS_one ((h j hj).mp z)⟩
theorem LC_first {S : Int} {nx : Nat → Nat → Prop} {all more n : Int} (ha : all = 0) : LCp S nx n all more := fun a _ z => by rw [ha, bt_zero] at z; cases z
/-- all becomes more -/
theorem LM_all {S : Int} {nx : Nat → Nat → Prop} {k : Nat} {all more all' more' : Int} (h : LMp S nx k all more) (ho : all' = o32 (fun x y => x ||| y) all more) (hm : more' = all') : LMp S nx k all' more' := by
  have e : ∀ j, j < 32 → (bt all' j = true ↔ bt more j = true) := fun j hj => by
    rw [ho, bt_or, Bool.or_eq_true]
    exact ⟨fun z => z.elim (h.1 j hj) id, .inr⟩
  subst hm
  exact ⟨fun _ _ z => z, fun j hj z => (e j hj).mpr (h.2.1 j hj z), fun j hj z => h.2.2 j hj ((e j hj).mp z)⟩
theorem LC_zero {S : Int} {nx : Nat → Nat → Prop} {all more n : Int} (hn : n = 0) : LCp S nx n all more := fun a _ _ _ z => by omega
/-- one that is in: what it leans on comes to more -/
theorem LM_add {S : Int} {nx : Nat → Nat → Prop} {k a : Nat} {all more more' m : Int} (h : LMp S nx k all more) (hb : bt all a = true) (ha : (a : Int) < S) (h32 : a < 32) (hm : BTS m (nx a)) (ho : more' = o32 (fun x y => x ||| y) more m) : LMp S nx k all more' := by
  have e : ∀ j, bt more' j = true ↔ bt more j = true ∨ bt m j = true := fun j => by rw [ho, bt_or, Bool.or_eq_true]
  refine ⟨fun j hj z => (e j).mpr (.inl (h.1 j hj z)), fun j hj z => (e j).mpr (.inl (h.2.1 j hj z)), fun j hj z => ?_⟩
  rcases (e j).mp z with z | z
  · exact h.2.2 j hj z
  · exact LS_next (h.2.2 a h32 (h.1 a h32 hb)) ha ((hm j hj).mp z)
theorem LC_add {S : Int} {nx : Nat → Nat → Prop} {n n' : Int} {all more more' m : Int} (h : LCp S nx n all more) (h0 : 0 ≤ n) (hm : BTS m (nx n.toNat)) (ho : more' = o32 (fun x y => x ||| y) more m) (hn : n' = n + 1) : LCp S nx n' all more' := fun a h32 hb ha hlt b hb32 hx => by
  have e : bt more' b = true ↔ bt more b = true ∨ bt m b = true := by rw [ho, bt_or, Bool.or_eq_true]
  by_cases q : (a : Int) = n
  · rw [show a = n.toNat by omega] at hx
    exact e.mpr (.inr ((hm b hb32).mpr hx))
  · exact e.mpr (.inl (h a h32 hb ha (by omega) b hb32 hx))
theorem LC_skip {S : Int} {nx : Nat → Nat → Prop} {n n' : Int} {all more : Int} (h : LCp S nx n all more) (h0 : 0 ≤ n) (hb : ¬ bt all n.toNat = true) (hn : n' = n + 1) : LCp S nx n' all more := fun a h32 hb' ha hlt b hb32 hx => by
  by_cases q : (a : Int) = n
  · rw [show a = n.toNat by omega] at hb'
    exact absurd hb' hb
  · exact h a h32 hb' ha (by omega) b hb32 hx
theorem LC_full {S : Int} {nx : Nat → Nat → Prop} {n n' : Int} {all more : Int} (h : LCp S nx n all more) (hn : S ≤ n) : LCp S nx n' all more := fun a h32 hb ha _ b hb32 hx => h a h32 hb ha (by omega) b hb32 hx
/-- the end: nothing is in more that is not in all -/
theorem LS_end {S : Int} {nx : Nat → Nat → Prop} {k : Nat} {all more x y m : Int} (h : LMp S nx k all more) (c : LCp S nx S all more) (hx : x = o32 (fun x y => x ^^^ y) all m) (hm : m = -1) (hy : y = o32 (fun x y => x &&& y) more x) (h0 : y = 0) (hk : (k : Int) < S) (hr : ∀ a b : Nat, (a : Int) < S → nx a b → b < 32) : BTS all (LSp S nx k) := by
  have sub : ∀ j, j < 32 → bt more j = true → bt all j = true := fun j hj z => by
    have q : bt y j = false := by rw [h0]; exact bt_zero j
    rw [hy, bt_and, z, Bool.true_and, bt_not hx hm hj] at q
    cases hb : bt all j with
    | true => rfl
    | false => rw [hb] at q; cases q
  refine fun j hj => ⟨fun z => h.2.2 j hj (h.1 j hj z), fun z => ?_⟩
  exact (z (fun j => j < 32 ∧ bt all j = true) (fun i hi => ⟨hr k i hk hi, sub i (hr k i hk hi) (h.2.1 i (hr k i hk hi) hi)⟩) (fun a b p q r => ⟨hr a b q r, sub b (hr a b q r) (c a p.1 p.2 q q b (hr a b q r) r)⟩)).2
/-- else all grows -/
theorem nz_all {all all' more x y m : Int} (ho : all' = o32 (fun x y => x ||| y) all more) (hx : x = o32 (fun x y => x ^^^ y) all m) (hm : m = -1) (hy : y = o32 (fun x y => x &&& y) more x) (h1 : -2147483648 ≤ y) (h2 : y ≤ 2147483647) (h0 : ¬ y = 0) : nz (bt all') 32 < nz (bt all) 32 := by
  refine nz_lt (fun k _ z => by rw [ho, bt_or, z]; rfl) ?_
  obtain ⟨k, hk, e⟩ := bt_any h1 h2 h0
  rw [hy, bt_and, bt_not hx hm hk, Bool.and_eq_true] at e
  refine ⟨k, hk, ?_, by rw [ho, bt_or, e.1, Bool.or_true]⟩
  cases hb : bt all k with
  | false => rfl
  | true => rw [hb] at e; cases e.2
theorem NX_lt {S sh : Int} {kind first last off ms me bl pm cs cw cm ca cmt cn : Nat → Int} (h : SOp S sh kind first last off ms me) (P : ∀ s : Nat, (s : Int) < sh → PGs bl pm cs cw cm ca cmt cn s) (hS : S ≤ 20) : ∀ a b : Nat, (a : Int) < S → NXp kind off ms pm cs cw a b → b < 32 := fun a b ha hx => by
  have z := h a ha
  rcases hx with ⟨q, e⟩ | ⟨q, m0, c, hc, c0, e⟩
  · rcases q with q | q
    · have := z.1 q
      omega
    · have := z.2.1 q
      omega
  · have z4 := z.2.2.2 m0
    have g := (fl_good (P (ms a).toNat (by omega)) 7 6 (.inr rfl) hc).1
    have := (g.2.1 c0).2.1
    omega
/-- nothing leans on itself: told by a rank -/
def ACs (S sh : Int) (kind off ms pm cs cw : Nat → Int) : Prop := (∀ k : Nat, (k : Int) < S → kind k = 6 → 0 ≤ ms k → ms k < sh) ∧ ∃ r : Nat → Nat, ∀ k : Nat, (k : Int) < S → ∀ j, NXp kind off ms pm cs cw k j → (j : Int) < S ∧ r j < r k
def ACp (v_sounds v_sheets : Int) (r_kind r_of r_madeSheet r_partMany r_cSort r_cWhat : Nat → Int) : Prop := ACs v_sounds v_sheets r_kind r_of r_madeSheet r_partMany r_cSort r_cWhat
def AC (h : gH) : Prop := ACp (hV h 285 64) (hV h 285 18) (hV h 328) (hV h 332) (hV h 335) (hV h 296) (hV h 298) (hV h 300)
theorem AC_fr {W : List (Nat × Nat)} {a b : gH} (f : hFr W a b) (c : (vFree W 285 64 && (vFree W 285 18 && (vFreeR W 328 && (vFreeR W 332 && (vFreeR W 335 && (vFreeR W 296 && (vFreeR W 298 && (vFreeR W 300 && (true))))))))) = true) : AC b = AC a := by
  simp only [Bool.and_eq_true] at c
  unfold AC
  rw [f.1 285 64 (c.1), f.1 285 18 (c.2.1), fRow f 328 (c.2.2.1), fRow f 332 (c.2.2.2.1), fRow f 335 (c.2.2.2.2.1), fRow f 296 (c.2.2.2.2.2.1), fRow f 298 (c.2.2.2.2.2.2.1), fRow f 300 (c.2.2.2.2.2.2.2.1)]
theorem AC_upR {a b : gH} {o i w : Int} {n : Nat} (f : hUpd b a o i w) (e : o = (n : Int)) (c : (!(Nat.beq 328 n) && (!(Nat.beq 332 n) && (!(Nat.beq 335 n) && (!(Nat.beq 296 n) && (!(Nat.beq 298 n) && (!(Nat.beq 300 n) && (!(Nat.beq 285 n) && (true)))))))) = true) : AC b = AC a := by
  simp only [Bool.and_eq_true] at c
  unfold AC
  rw [uPlace f 285 64 (iS e (by have z := c.2.2.2.2.2.2.1; simpa using z)), uPlace f 285 18 (iS e (by have z := c.2.2.2.2.2.2.1; simpa using z)), uRowNe f 328 (iS e (by have z := c.1; simpa using z)), uRowNe f 332 (iS e (by have z := c.2.1; simpa using z)), uRowNe f 335 (iS e (by have z := c.2.2.1; simpa using z)), uRowNe f 296 (iS e (by have z := c.2.2.2.1; simpa using z)), uRowNe f 298 (iS e (by have z := c.2.2.2.2.1; simpa using z)), uRowNe f 300 (iS e (by have z := c.2.2.2.2.2.1; simpa using z))]
theorem AC_upF {a b : gH} {o i w : Int} {n : Nat} (f : hUpd b a o i w) (e : o = 285) (e2 : i = (n : Int)) (c : (!(Nat.beq 64 n) && (!(Nat.beq 18 n) && (true))) = true) : AC b = AC a := by
  simp only [Bool.and_eq_true] at c
  unfold AC
  rw [uSlot f 285 64 (iS e2 (by have z := c.1; simpa using z)), uSlot f 285 18 (iS e2 (by have z := c.2.1; simpa using z)), uRowNe f 328 (iS (e : o = ((285 : Nat) : Int)) rfl), uRowNe f 332 (iS (e : o = ((285 : Nat) : Int)) rfl), uRowNe f 335 (iS (e : o = ((285 : Nat) : Int)) rfl), uRowNe f 296 (iS (e : o = ((285 : Nat) : Int)) rfl), uRowNe f 298 (iS (e : o = ((285 : Nat) : Int)) rfl), uRowNe f 300 (iS (e : o = ((285 : Nat) : Int)) rfl)]
theorem ACp_add {S S' sh k o m : Int} {kind off ms pm cs cw : Nat → Int} (h : ACp S sh kind off ms pm cs cw) (hS : S' = S + 1) (h0 : 0 ≤ S) (c4 : k = 4 → 0 ≤ o ∧ o < S) (c5 : k = 5 → 0 ≤ o ∧ o < S) (cm : m = -1) : ACp S' sh (uF kind S k) (uF off S o) (uF ms S m) pm cs cw := by
  obtain ⟨h1, r, h2⟩ := h
  have nx : ∀ a j : Nat, (a : Int) < S → NXp (uF kind S k) (uF off S o) (uF ms S m) pm cs cw a j → NXp kind off ms pm cs cw a j := fun a j ha z => by
    unfold NXp at z ⊢
    simp only [uF_at, if_neg (show ¬ (a : Int) = S by omega)] at z
    exact z
  refine ⟨fun a ha => ?_, fun j => if (j : Int) = S then r o.toNat + 1 else r j, fun a ha j z => ?_⟩
  · simp only [uF_at]
    by_cases q : (a : Int) = S
    · simp only [if_pos q]
      omega
    · simp only [if_neg q]
      exact h1 a (by omega)
  · by_cases q : (a : Int) = S
    · unfold NXp at z
      simp only [uF_at, if_pos q] at z
      have e : (j : Int) < S ∧ j = o.toNat := by
        rcases z with ⟨y, e⟩ | ⟨_, y, _⟩
        · rcases y with y | y
          · have := c4 y
            omega
          · have := c5 y
            omega
        · omega
      refine ⟨by omega, ?_⟩
      show ite _ _ _ < ite _ _ _
      rw [if_neg (by omega), if_pos q, e.2]
      omega
    · have y := h2 a (by omega) j (nx a j (by omega) z)
      refine ⟨by omega, ?_⟩
      show ite _ _ _ < ite _ _ _
      rw [if_neg (by omega), if_neg q]
      exact y.2
