/-! THE SYMBOLIC RUN COVERS THE PURE RUN (printed by wip/gen/gen13.py). -/
def gF2 {α β : Type} (R : α → β → Prop) : List α → List β → Prop
  | [], [] => True
  | a :: l, b :: m => R a b ∧ gF2 R l m
  | _, _ => False
theorem gF2.cases {α β : Type} {R : α → β → Prop} {l : List α} {m : List β} (h : gF2 R l m) : (l = [] ∧ m = []) ∨ ∃ a l' b m', l = a :: l' ∧ m = b :: m' ∧ R a b ∧ gF2 R l' m' := by
  cases l with
  | nil => cases m with
    | nil => exact Or.inl ⟨rfl, rfl⟩
    | cons b m => exact h.elim
  | cons a l => cases m with
    | nil => exact h.elim
    | cons b m => exact Or.inr ⟨a, l, b, m, rfl, rfl, h.1, h.2⟩
theorem gF2.app {α β : Type} {R : α → β → Prop} {l2 : List α} {m2 : List β} (h2 : gF2 R l2 m2) : ∀ {l : List α} {m : List β}, gF2 R l m → gF2 R (l ++ l2) (m ++ m2) := by
  intro l
  induction l with
  | nil => intro m h; cases m with
    | nil => exact h2
    | cons b m => exact h.elim
  | cons a l ih => intro m h; cases m with
    | nil => exact h.elim
    | cons b m => exact ⟨h.1, ih h.2⟩
theorem gF2.len {α β : Type} {R : α → β → Prop} : ∀ {l : List α} {m : List β}, gF2 R l m → l.length = m.length := by
  intro l
  induction l with
  | nil => intro m h; cases m with
    | nil => rfl
    | cons b m => exact h.elim
  | cons a l ih => intro m h; cases m with
    | nil => exact h.elim
    | cons b m => simp [ih h.2]
theorem gF2.drop {α β : Type} {R : α → β → Prop} (n : Nat) : ∀ {l : List α} {m : List β}, gF2 R l m → gF2 R (l.drop n) (m.drop n) := by
  induction n with
  | zero => intro l m h; exact h
  | succ n ih => intro l m h; cases l with
    | nil => cases m with
      | nil => exact h
      | cons b m => exact h.elim
    | cons a l => cases m with
      | nil => exact h.elim
      | cons b m => exact ih h.2
theorem gF2.take {α β : Type} {R : α → β → Prop} (n : Nat) : ∀ {l : List α} {m : List β}, gF2 R l m → gF2 R (l.take n) (m.take n) := by
  induction n with
  | zero => intro l m h; exact trivial
  | succ n ih => intro l m h; cases l with
    | nil => cases m with
      | nil => exact h
      | cons b m => exact h.elim
    | cons a l => cases m with
      | nil => exact h.elim
      | cons b m => exact ⟨h.1, ih h.2⟩
theorem gF2.rev {α β : Type} {R : α → β → Prop} : ∀ {l : List α} {m : List β}, gF2 R l m → gF2 R l.reverse m.reverse := by
  intro l
  induction l with
  | nil => intro m h; cases m with
    | nil => exact h
    | cons b m => exact h.elim
  | cons a l ih => intro m h; cases m with
    | nil => exact h.elim
    | cons b m =>
      rw [List.reverse_cons, List.reverse_cons]
      exact gF2.app (l2 := [a]) (m2 := [b]) ⟨h.1, trivial⟩ (ih h.2)
def sRel (ρ : Nat → Int32) (v : sV) (w : Value) : Prop := match v.1 with
  | 0 => ∃ x : Int32, w = .int x ∧ v.2.1 ≤ x.toInt ∧ x.toInt ≤ v.2.2
  | 1 => ∃ x : Int64, w = .long x ∧ v.2.1 ≤ x.toInt ∧ x.toInt ≤ v.2.2
  | 2 => w = .null
  | 3 => w = .ref v.2.1.toNat
  | 4 => w = .retAddr 0
  | k => 10 ≤ k ∧ w = .int (ρ (k - 10))
def sSgn (x y : Int32) : Int32 := if x < y then -1 else if x = y then 0 else 1
def sSg (ρ : Nat → Int32) : Prop := ρ 6 = sSgn (ρ 3) (ρ 4) ∧ ρ 7 = sSgn (ρ 2) (ρ 4)
def sOK (ρ : Nat → Int32) (cs : sI) : Prop := sSg ρ ∧ ∀ k, (cs.getD k sFull).1 ≤ (ρ k).toInt ∧ (ρ k).toInt ≤ (cs.getD k sFull).2
def sRS (ρ : Nat → Int32) (st : List sV) (st' : List Value) : Prop := gF2 (sRel ρ) st st'
def sRL (ρ : Nat → Int32) (lv : sL) (lv' : gL) : Prop := gF2 (fun a b => a.1 = b.1 ∧ sRel ρ a.2 b.2) lv lv'
def sRC (ρ : Nat → Int32) (c : sC) (c' : gC) : Prop := match c' with
  | .inl o => c.1 < 100 ∧ o.1 = c.1 ∧ ∀ j, sRel ρ (sGet c j) (o.2 j)
  | .inr y => 100 ≤ c.1 ∧ y.1 = c.1 - 100 ∧ (if c.2.1 ≤ 65536 then y.2.1 = c.2.1 ∧ ∀ j, sRel ρ (sGet c j) (y.2.2 j) else y.2 = ((ρ 100).toInt.toNat, fun j => .int (ρ (200 + j))))
theorem sRC_row {ρ : Nat → Int32} {c : sC} {y : Nat × Nat × (Nat → Value)} (h1 : 100 ≤ c.1) (h2 : y.1 = c.1 - 100) (h3 : y.2.1 = c.2.1) (h4 : ∀ j, sRel ρ (sGet c j) (y.2.2 j)) (h5 : c.2.1 ≤ 65536) : sRC ρ c (.inr y) := ⟨h1, h2, by rw [if_pos h5]; exact ⟨h3, h4⟩⟩
def sRH (ρ : Nat → Int32) (lh : sH) (lh' : gH) : Prop := gF2 (sRC ρ) lh lh'
def sGood (ρ : Nat → Int32) (L : List sLf) (q : Option gO) : Prop := ∃ f ∈ L, ∃ o : gO, q = some o ∧ sOK ρ f.1 ∧ sRH ρ f.2.1 o.1 ∧ o.2.1 = f.2.2.1 ∧ sRS ρ f.2.2.2 o.2.2
def sSim (ρ : Nat → Int32) (r : Option (List sLf)) (q : Option gO) : Prop := ∀ L, r = some L → sGood ρ L q
theorem sSim.none {ρ : Nat → Int32} {q : Option gO} : sSim ρ none q := fun L h => by cases h
theorem sSim.app {ρ : Nat → Int32} {a b : Option (List sLf)} {q : Option gO} (h : sSim ρ a q ∨ sSim ρ b q) : sSim ρ (sApp a b) q := by
  intro L hL
  cases a with
  | none => cases hL
  | some x =>
    cases b with
    | none => cases hL
    | some y =>
      have e : x ++ y = L := Option.some.inj hL
      rcases h with h | h
      · obtain ⟨f, hf, r⟩ := h x rfl
        exact ⟨f, by rw [← e]; exact List.mem_append_left _ hf, r⟩
      · obtain ⟨f, hf, r⟩ := h y rfl
        exact ⟨f, by rw [← e]; exact List.mem_append_right _ hf, r⟩
theorem sIv_var (cs : sI) (m : Nat) (p : Int × Int) : sIv cs (m + 10, p) = cs.getD m sFull := by
  show (match fNth cs m with
    | some p => p
    | none => sFull) = _
  rw [fNth_eq, List.getD_eq_getElem?_getD]
  cases cs[m]? <;> rfl
theorem sInt {ρ : Nat → Int32} {cs : sI} {v : sV} {w : Value} (hcs : sOK ρ cs) (hi : sIsI v = true) (h : sRel ρ v w) : ∃ x : Int32, w = .int x ∧ (sIv cs v).1 ≤ x.toInt ∧ x.toInt ≤ (sIv cs v).2 ∧ (Nat.ble 10 v.1 = true → ρ (v.1 - 10) = x) := by
  obtain ⟨k, p⟩ := v
  unfold sIsI at hi
  rw [Bool.or_eq_true] at hi
  rcases hi with hi | hi
  · have hk : k = 0 := Nat.eq_of_beq_eq_true hi
    subst hk
    obtain ⟨x, h1, h2, h3⟩ := h
    exact ⟨x, h1, h2, h3, fun z => by cases z⟩
  · have hk : 10 ≤ k := Nat.le_of_ble_eq_true hi
    obtain ⟨m, rfl⟩ : ∃ m, k = m + 10 := ⟨k - 10, by omega⟩
    obtain ⟨-, h1⟩ : 10 ≤ m + 10 ∧ w = .int (ρ (m + 10 - 10)) := h
    have e : sIv cs (m + 10, p) = cs.getD m sFull := sIv_var cs m p
    rw [e]
    exact ⟨_, h1, (hcs.2 m).1, (hcs.2 m).2, fun _ => rfl⟩
theorem sLong {ρ : Nat → Int32} {v : sV} {w : Value} (hi : sIsL v = true) (h : sRel ρ v w) : ∃ x : Int64, w = .long x ∧ v.2.1 ≤ x.toInt ∧ x.toInt ≤ v.2.2 := by
  obtain ⟨k, p⟩ := v
  have hk : k = 1 := Nat.eq_of_beq_eq_true hi
  subst hk
  exact h
theorem sRefA {ρ : Nat → Int32} {v : sV} {w : Value} (hi : sIsA v = true) (h : sRel ρ v w) : w = .null ∨ ∃ i, w = .ref i := by
  obtain ⟨k, p⟩ := v
  unfold sIsA at hi
  rw [Bool.or_eq_true] at hi
  rcases hi with hi | hi
  · have hk : k = 2 := Nat.eq_of_beq_eq_true hi
    subst hk
    exact Or.inl h
  · have hk : k = 3 := Nat.eq_of_beq_eq_true hi
    subst hk
    exact Or.inr ⟨_, h⟩
theorem sRef3 {ρ : Nat → Int32} {v : sV} {w : Value} (hi : Nat.beq v.1 3 = true) (h : sRel ρ v w) : w = .ref v.2.1.toNat := by
  obtain ⟨k, p⟩ := v
  have hk : k = 3 := Nat.eq_of_beq_eq_true hi
  subst hk
  exact h
theorem sRef2 {ρ : Nat → Int32} {v : sV} {w : Value} (hi : Nat.beq v.1 2 = true) (h : sRel ρ v w) : w = .null := by
  obtain ⟨k, p⟩ := v
  have hk : k = 2 := Nat.eq_of_beq_eq_true hi
  subst hk
  exact h
theorem sCat_ok {ρ : Nat → Int32} {v : sV} {w : Value} (h : sRel ρ v w) : w.category = sCat v := by
  obtain ⟨k, p⟩ := v
  match k, h with
  | 0, ⟨x, h1, _⟩ => rw [h1]; rfl
  | 1, ⟨x, h1, _⟩ => rw [h1]; rfl
  | 2, h => rw [show w = .null from h]; rfl
  | 3, h => rw [show w = .ref p.1.toNat from h]; rfl
  | 4, h => rw [show w = .retAddr 0 from h]; rfl
  | k + 5, h => rw [show w = .int (ρ (k + 5 - 10)) from h.2]; rfl
theorem sK0_ok {ρ : Nat → Int32} {x : Int32} : sRel ρ (sK0 x.toInt) (.int x) := ⟨x, rfl, Int.le_refl _, Int.le_refl _⟩
theorem sFull_ok (x : Int32) : sFull.1 ≤ x.toInt ∧ x.toInt ≤ sFull.2 := by
  have h1 := x.le_toInt
  have h2 := x.toInt_lt
  unfold sFull
  dsimp only
  omega
theorem sFulL_ok (x : Int64) : sFulL.1 ≤ x.toInt ∧ x.toInt ≤ sFulL.2 := by
  have h1 := x.le_toInt
  have h2 := x.toInt_lt
  unfold sFulL
  dsimp only
  omega
theorem sOne_ok {X : Int × Int} {x : Int32} (h : sOne X = true) (h1 : X.1 ≤ x.toInt) (h2 : x.toInt ≤ X.2) : Int32.ofInt X.1 = x := by
  have e : X.1 = X.2 := of_decide_eq_true h
  have e2 : X.1 = x.toInt := by omega
  rw [e2]
  exact Int32.ofInt_toInt x
theorem sOneL_ok {X : Int × Int} {x : Int64} (h : sOne X = true) (h1 : X.1 ≤ x.toInt) (h2 : x.toInt ≤ X.2) : Int64.ofInt X.1 = x := by
  have e : X.1 = X.2 := of_decide_eq_true h
  have e2 : X.1 = x.toInt := by omega
  rw [e2]
  exact Int64.ofInt_toInt x
theorem sBin_ok {ρ : Nat → Int32} {f : Int32 → Int32 → Int32} {g : Int × Int → Int × Int → Int × Int} {X Y : Int × Int} {x y : Int32} (hx : X.1 ≤ x.toInt ∧ x.toInt ≤ X.2) (hy : Y.1 ≤ y.toInt ∧ y.toInt ≤ Y.2) (hg : (g X Y).1 ≤ (f x y).toInt ∧ (f x y).toInt ≤ (g X Y).2) : sRel ρ (sBin f g X Y) (.int (f x y)) := by
  unfold sBin
  cases h : (sOne X && sOne Y) with
  | true =>
    rw [Bool.and_eq_true] at h
    show sRel ρ (sK0 _) _
    rw [sOne_ok h.1 hx.1 hx.2, sOne_ok h.2 hy.1 hy.2]
    exact sK0_ok
  | false => exact ⟨_, rfl, hg⟩
theorem sUn_ok {ρ : Nat → Int32} {f : Int32 → Int32} {X : Int × Int} {x : Int32} (hx : X.1 ≤ x.toInt ∧ x.toInt ≤ X.2) : sRel ρ (sUn f X) (.int (f x)) := by
  unfold sUn
  cases h : sOne X with
  | true =>
    show sRel ρ (sK0 _) _
    rw [sOne_ok h hx.1 hx.2]
    exact sK0_ok
  | false => exact ⟨_, rfl, sFull_ok _⟩
theorem sLbin_ok {ρ : Nat → Int32} {f : Int64 → Int64 → Int64} {X Y : Int × Int} {x y : Int64} (hx : X.1 ≤ x.toInt ∧ x.toInt ≤ X.2) (hy : Y.1 ≤ y.toInt ∧ y.toInt ≤ Y.2) : sRel ρ (sLbin f X Y) (.long (f x y)) := by
  unfold sLbin
  cases h : (sOne X && sOne Y) with
  | true =>
    rw [Bool.and_eq_true] at h
    show sRel ρ (1, _, _) _
    rw [sOneL_ok h.1 hx.1 hx.2, sOneL_ok h.2 hy.1 hy.2]
    exact ⟨_, rfl, Int.le_refl _, Int.le_refl _⟩
  | false => exact ⟨_, rfl, sFulL_ok _⟩
theorem sAny_ok (f : Int32 → Int32 → Int32) (X Y : Int × Int) (x y : Int32) : (sAny X Y).1 ≤ (f x y).toInt ∧ (f x y).toInt ≤ (sAny X Y).2 := sFull_ok _
theorem sAnd_core {x y : Int32} (hy : 0 ≤ y.toInt) : 0 ≤ (x &&& y).toInt ∧ (x &&& y).toInt ≤ y.toInt := by
  have hm : y.toBitVec.msb = false := by
    rw [BitVec.msb_eq_toInt]
    exact decide_eq_false (by show ¬ y.toBitVec.toInt < 0; exact Int.not_lt.mpr hy)
  have hm2 : (x &&& y).toBitVec.msb = false := by
    rw [Int32.toBitVec_and, BitVec.msb_and, hm, Bool.and_false]
  have e1 : y.toInt = (y.toBitVec.toNat : Int) := BitVec.toInt_eq_toNat_of_msb hm
  have e2 : (x &&& y).toInt = ((x &&& y).toBitVec.toNat : Int) := BitVec.toInt_eq_toNat_of_msb hm2
  rw [e1, e2, Int32.toBitVec_and, BitVec.toNat_and]
  exact ⟨Int.natCast_nonneg _, Int.ofNat_le.mpr Nat.and_le_right⟩
theorem gFit_l (x : Int64) : gFit .long (.long x) = true := by
  unfold gFit
  rw [Bool.and_eq_true]
  exact ⟨decide_eq_true rfl, rfl⟩
theorem sAnd_ok {X Y : Int × Int} {x y : Int32} (hy : Y.1 ≤ y.toInt ∧ y.toInt ≤ Y.2) : (sAnd X Y).1 ≤ (x &&& y).toInt ∧ (x &&& y).toInt ≤ (sAnd X Y).2 := by
  unfold sAnd
  cases h : (sOne Y && decide (0 ≤ Y.1)) with
  | false => exact sFull_ok _
  | true =>
    rw [Bool.and_eq_true, decide_eq_true_eq] at h
    have e : Y.1 = Y.2 := of_decide_eq_true h.1
    have hy0 : 0 ≤ y.toInt := by omega
    have e1 : Y.1 = y.toInt := by omega
    show (0 : Int) ≤ _ ∧ _ ≤ Y.1
    rw [e1]
    exact sAnd_core hy0
theorem gLk_ok {ρ : Nat → Int32} {k : Nat} {w : sV} : ∀ {lv : sL} {lv' : gL}, sRL ρ lv lv' → sLk k lv = some w → ∃ w', gLk k lv' = some w' ∧ sRel ρ w w' := by
  intro lv
  induction lv with
  | nil => intro lv' _ h; cases h
  | cons a l ih =>
    intro lv' hq h
    cases lv' with
    | nil => exact hq.elim
    | cons b l' =>
      have h1 : a.1 = b.1 := hq.1.1
      have h2 : sRel ρ a.2 b.2 := hq.1.2
      have h : (bif Nat.beq a.1 k then some a.2 else sLk k l) = some w := h
      unfold gLk
      rw [← h1]
      cases hb : Nat.beq a.1 k with
      | true =>
        rw [hb] at h
        have e : a.2 = w := Option.some.inj h
        exact ⟨b.2, rfl, e ▸ h2⟩
      | false =>
        rw [hb] at h
        exact ih hq.2 h
theorem s_filter {ρ : Nat → Int32} {f : Nat × sV → Bool} {g : Nat × Value → Bool} (hfg : ∀ a b, a.1 = b.1 → sRel ρ a.2 b.2 → f a = g b) : ∀ {lv : sL} {lv' : gL}, sRL ρ lv lv' → sRL ρ (lv.filter f) (lv'.filter g) := by
  intro lv
  induction lv with
  | nil => intro lv' h; cases lv' with
    | nil => exact h
    | cons b l' => exact h.elim
  | cons a l ih =>
    intro lv' hq
    cases lv' with
    | nil => exact hq.elim
    | cons b l' =>
      rw [List.filter_cons, List.filter_cons, hfg a b hq.1.1 hq.1.2]
      cases g b with
      | true => exact ⟨hq.1, ih hq.2⟩
      | false => exact ih hq.2
theorem sSt1_ok {ρ : Nat → Int32} {lv : sL} {lv' : gL} {i : Nat} {w : sV} {w' : Value} (h : sRL ρ lv lv') (hw : sRel ρ w w') : sRL ρ (sSt1 lv i w) (gSt1 lv' i w') := by
  refine And.intro ⟨rfl, hw⟩ (s_filter (fun a b h1 h2 => ?_) h)
  rw [h1, sCat_ok h2]
theorem sSt2_ok {ρ : Nat → Int32} {lv : sL} {lv' : gL} {i : Nat} {w : sV} {w' : Value} (h : sRL ρ lv lv') (hw : sRel ρ w w') : sRL ρ (sSt2 lv i w) (gSt2 lv' i w') := by
  refine And.intro ⟨rfl, hw⟩ (s_filter (fun a b h1 h2 => ?_) h)
  rw [h1, sCat_ok h2]
theorem sRH_at {ρ : Nat → Int32} {c : sC} : ∀ {lh : sH} {lh' : gH} {i : Nat}, sRH ρ lh lh' → lh[i]? = some c → ∃ c', lh'[i]? = some c' ∧ sRC ρ c c' := by
  intro lh
  induction lh with
  | nil => intro lh' i _ h; simp at h
  | cons a l ih =>
    intro lh' i hq h
    cases lh' with
    | nil => exact hq.elim
    | cons b l' =>
      cases i with
      | zero => simp at h; subst h; exact ⟨b, by simp, hq.1⟩
      | succ i => simp at h; obtain ⟨c', h1, h2⟩ := ih hq.2 h; exact ⟨c', by simp [h1], h2⟩
theorem sRH_set {ρ : Nat → Int32} {c : sC} {c' : gC} (hc : sRC ρ c c') : ∀ {lh : sH} {lh' : gH} {i : Nat}, sRH ρ lh lh' → sRH ρ (lh.set i c) (lh'.set i c') := by
  intro lh
  induction lh with
  | nil => intro lh' i h; cases lh' with
    | nil => exact h
    | cons b l' => exact h.elim
  | cons a l ih =>
    intro lh' i hq
    cases lh' with
    | nil => exact hq.elim
    | cons b l' =>
      cases i with
      | zero => exact ⟨hc, hq.2⟩
      | succ i => exact ⟨hq.1, ih hq.2⟩
theorem sRH_push {ρ : Nat → Int32} {c : sC} {c' : gC} (hc : sRC ρ c c') {lh : sH} {lh' : gH} (h : sRH ρ lh lh') : sRH ρ (lh ++ [c]) (lh' ++ [c']) := gF2.app (l2 := [c]) (m2 := [c']) ⟨hc, trivial⟩ h
theorem sRH_len {ρ : Nat → Int32} {lh : sH} {lh' : gH} (h : sRH ρ lh lh') : lh.length = lh'.length := gF2.len h
theorem sPut_ok {ρ : Nat → Int32} {c : sC} {f : Nat → Value} {j : Nat} {w : sV} {w' : Value} (h : ∀ j, sRel ρ (sGet c j) (f j)) (hw : sRel ρ w w') : ∀ k, sRel ρ (sGet (sPut c j w) k) (gup f j w' k) := by
  intro k
  show sRel ρ (bif Nat.beq k j then w else sGet c k) (bif Nat.beq k j then w' else f k)
  cases Nat.beq k j with
  | true => exact hw
  | false => exact h k
theorem sZ_ok {ρ : Nat → Int32} {ty : FieldType} (h1 : ty ≠ .float) (h2 : ty ≠ .double) : sRel ρ (sZ ty) (defaultValue ty) := by
  cases ty with
  | float => exact absurd rfl h1
  | double => exact absurd rfl h2
  | long => exact ⟨0, rfl, by decide, by decide⟩
  | object n => exact rfl
  | array t => exact rfl
  | _ => exact ⟨0, rfl, by decide, by decide⟩
def hCmp (c : Jvm.ClassFile.Cond) (a b : Int) : Prop := match c with
  | .eq => a = b
  | .ne => ¬ a = b
  | .lt => a < b
  | .ge => b ≤ a
  | .gt => b < a
  | .le => a ≤ b
theorem gCmp_iff {c : Jvm.ClassFile.Cond} {x y : Int32} : gCmp c x y = true ↔ hCmp c x.toInt y.toInt := by
  cases c <;> simp only [gCmp, hCmp, decide_eq_true_eq, Int32.lt_iff_toInt_lt, Int32.le_iff_toInt_le, ← Int32.toInt_inj]
theorem hCmp_neg {c : Jvm.ClassFile.Cond} {a b : Int} : hCmp (sNeg c) a b ↔ ¬ hCmp c a b := by
  cases c <;> simp only [sNeg, hCmp] <;> omega
theorem hCmp_flip {c : Jvm.ClassFile.Cond} {a b : Int} : hCmp (sFlip c) b a ↔ hCmp c a b := by
  cases c <;> simp only [sFlip, hCmp] <;> omega
theorem sCmp_true {c : Jvm.ClassFile.Cond} {X Y : Int × Int} {a b : Int} (h : sCmp c X Y = some true) (ha : X.1 ≤ a ∧ a ≤ X.2) (hb : Y.1 ≤ b ∧ b ≤ Y.2) : hCmp c a b := by
  cases c <;> simp only [sCmp, cond_eq_ite, Bool.and_eq_true, Bool.or_eq_true, decide_eq_true_eq] at h <;> unfold hCmp <;> dsimp only <;> (repeat' split at h) <;> first | omega | (cases h)
theorem sCmp_false {c : Jvm.ClassFile.Cond} {X Y : Int × Int} {a b : Int} (h : sCmp c X Y = some false) (ha : X.1 ≤ a ∧ a ≤ X.2) (hb : Y.1 ≤ b ∧ b ≤ Y.2) : ¬ hCmp c a b := by
  cases c <;> simp only [sCmp, cond_eq_ite, Bool.and_eq_true, Bool.or_eq_true, decide_eq_true_eq] at h <;> unfold hCmp <;> dsimp only <;> (repeat' split at h) <;> first | omega | (cases h)
theorem sCut_ok {c : Jvm.ClassFile.Cond} {X : Int × Int} {a n : Int} (h : hCmp c a n) (ha : X.1 ≤ a ∧ a ≤ X.2) : (sCut c X n).1 ≤ a ∧ a ≤ (sCut c X n).2 := by
  cases c <;> unfold hCmp at h <;> dsimp only at h <;> simp only [sCut, cond_eq_ite, decide_eq_true_eq] <;> (repeat' split) <;> (try dsimp only) <;> first | omega | (constructor <;> omega)
theorem sRef1_ok {ρ : Nat → Int32} {c : Jvm.ClassFile.Cond} {cs : sI} {v : sV} {n : Int} {x : Int32} (hcs : sOK ρ cs) (hv : Nat.ble 10 v.1 = true → ρ (v.1 - 10) = x) (h : hCmp c x.toInt n) : sOK ρ (sRef1 c cs v n) := by
  unfold sRef1
  cases hb : Nat.ble 10 v.1 with
  | false => exact hcs
  | true =>
    obtain ⟨w, p⟩ := v
    obtain ⟨m, rfl⟩ : ∃ m, w = m + 10 := ⟨w - 10, by have := Nat.le_of_ble_eq_true hb; dsimp only at this; omega⟩
    show sOK ρ (fSet cs _ m)
    rw [fSet_eq, sIv_var]
    have hv := hv hb
    refine ⟨hcs.1, fun k => ?_⟩
    by_cases hk : k = m
    · subst hk
      by_cases hl : k < cs.length
      · rw [List.getD_eq_getElem?_getD, List.getElem?_set_self hl]
        have h2 := hcs.2 k
        have hv' : ρ k = x := hv
        rw [hv'] at h2 ⊢
        exact sCut_ok h h2
      · rw [List.getD_eq_getElem?_getD, List.getElem?_eq_none (by rw [List.length_set]; omega)]
        exact sFull_ok _
    · rw [List.getD_eq_getElem?_getD, List.getElem?_set_ne (Ne.symm hk), ← List.getD_eq_getElem?_getD]
      exact hcs.2 k
theorem sRef_ok {ρ : Nat → Int32} {c : Jvm.ClassFile.Cond} {cs : sI} {v u : sV} {x y : Int32} (hcs : sOK ρ cs) (hx : (sIv cs v).1 ≤ x.toInt ∧ x.toInt ≤ (sIv cs v).2 ∧ (Nat.ble 10 v.1 = true → ρ (v.1 - 10) = x)) (hy : (sIv cs u).1 ≤ y.toInt ∧ y.toInt ≤ (sIv cs u).2 ∧ (Nat.ble 10 u.1 = true → ρ (u.1 - 10) = y)) (h : hCmp c x.toInt y.toInt) : sOK ρ (sRef c cs v u) := by
  unfold sRef
  cases h1 : decide ((sIv cs u).1 = (sIv cs u).2) with
  | true =>
    have e := of_decide_eq_true h1
    refine sRef1_ok hcs hx.2.2 ?_
    rw [show (sIv cs u).1 = y.toInt by omega]
    exact h
  | false =>
    show sOK ρ (bif _ then _ else _)
    cases h2 : decide ((sIv cs v).1 = (sIv cs v).2) with
    | true =>
      have e := of_decide_eq_true h2
      refine sRef1_ok hcs hy.2.2 ?_
      rw [show (sIv cs v).1 = x.toInt by omega]
      exact hCmp_flip.mpr h
    | false => exact hcs
theorem sBr3_ok {ρ : Nat → Int32} {c : Jvm.ClassFile.Cond} {cs : sI} {v u : sV} {x y : Int32} {k : sI → Option (List sLf)} {q : Option gO} (hcs : sOK ρ cs) (hx : (sIv cs v).1 ≤ x.toInt ∧ x.toInt ≤ (sIv cs v).2 ∧ (Nat.ble 10 v.1 = true → ρ (v.1 - 10) = x)) (hy : (sIv cs u).1 ≤ y.toInt ∧ y.toInt ≤ (sIv cs u).2 ∧ (Nat.ble 10 u.1 = true → ρ (u.1 - 10) = y)) (h : hCmp c x.toInt y.toInt) (hk : ∀ cs, sOK ρ cs → sSim ρ (k cs) q) : sSim ρ (sBr3 c cs v u k) q := by
  unfold sBr3
  split
  · rename_i h9
    exact absurd h (sCmp_false h9 ⟨hx.1, hx.2.1⟩ ⟨hy.1, hy.2.1⟩)
  · exact hk _ (sRef_ok hcs hx hy h)
theorem sBr1_ok {ρ : Nat → Int32} {c : Jvm.ClassFile.Cond} {cs : sI} {v u : sV} {x y : Int32} {kt kf : sI → Option (List sLf)} {qt qf : Option gO} (hcs : sOK ρ cs) (hx : (sIv cs v).1 ≤ x.toInt ∧ x.toInt ≤ (sIv cs v).2 ∧ (Nat.ble 10 v.1 = true → ρ (v.1 - 10) = x)) (hy : (sIv cs u).1 ≤ y.toInt ∧ y.toInt ≤ (sIv cs u).2 ∧ (Nat.ble 10 u.1 = true → ρ (u.1 - 10) = y)) (ht : gCmp c x y = true → ∀ cs, sOK ρ cs → sSim ρ (kt cs) qt) (hf : gCmp c x y = false → ∀ cs, sOK ρ cs → sSim ρ (kf cs) qf) : sSim ρ (sBr1 c cs v u kt kf) (bif gCmp c x y then qt else qf) := by
  unfold sBr1
  split
  · rename_i h
    have hq := gCmp_iff.mpr (sCmp_true h ⟨hx.1, hx.2.1⟩ ⟨hy.1, hy.2.1⟩)
    rw [hq]
    exact ht hq _ hcs
  · rename_i h
    have hq : gCmp c x y = false := by
      cases hq : gCmp c x y with
      | false => rfl
      | true => exact absurd (gCmp_iff.mp hq) (sCmp_false h ⟨hx.1, hx.2.1⟩ ⟨hy.1, hy.2.1⟩)
    rw [hq]
    exact hf hq _ hcs
  · have hn : ∀ {c : Jvm.ClassFile.Cond}, gCmp c x y = false → hCmp (sNeg c) x.toInt y.toInt := fun hq => hCmp_neg.mpr (fun z => by rw [gCmp_iff.mpr z] at hq; cases hq)
    cases hq : gCmp c x y with
    | true =>
      have h1 := gCmp_iff.mp hq
      cases c with
      | eq => exact sSim.app (Or.inr (sSim.app (Or.inr (sBr3_ok hcs hx hy h1 (ht hq)))))
      | ne =>
        have h2 : x.toInt < y.toInt ∨ y.toInt < x.toInt := by
          have h3 : ¬ x.toInt = y.toInt := h1
          omega
        rcases h2 with h2 | h2
        · exact sSim.app (Or.inl (sBr3_ok (c := .lt) hcs hx hy h2 (ht hq)))
        · exact sSim.app (Or.inr (sSim.app (Or.inl (sBr3_ok (c := .gt) hcs hx hy h2 (ht hq)))))
      | lt => exact sSim.app (Or.inl (ht hq _ (sRef_ok hcs hx hy h1)))
      | ge => exact sSim.app (Or.inl (ht hq _ (sRef_ok hcs hx hy h1)))
      | gt => exact sSim.app (Or.inl (ht hq _ (sRef_ok hcs hx hy h1)))
      | le => exact sSim.app (Or.inl (ht hq _ (sRef_ok hcs hx hy h1)))
    | false =>
      have h1 := hn hq
      cases c with
      | ne => exact sSim.app (Or.inr (sSim.app (Or.inr (sBr3_ok (c := .eq) hcs hx hy h1 (hf hq)))))
      | eq =>
        have h2 : x.toInt < y.toInt ∨ y.toInt < x.toInt := by
          have h3 : ¬ x.toInt = y.toInt := h1
          omega
        rcases h2 with h2 | h2
        · exact sSim.app (Or.inl (sBr3_ok (c := .lt) hcs hx hy h2 (hf hq)))
        · exact sSim.app (Or.inr (sSim.app (Or.inl (sBr3_ok (c := .gt) hcs hx hy h2 (hf hq)))))
      | lt => exact sSim.app (Or.inr (hf hq _ (sRef_ok hcs hx hy h1)))
      | ge => exact sSim.app (Or.inr (hf hq _ (sRef_ok hcs hx hy h1)))
      | gt => exact sSim.app (Or.inr (hf hq _ (sRef_ok hcs hx hy h1)))
      | le => exact sSim.app (Or.inr (hf hq _ (sRef_ok hcs hx hy h1)))
theorem gCmp_self {c : Jvm.ClassFile.Cond} {x : Int32} : gCmp c x x = sSelf c := by
  cases hs : sSelf c with
  | true =>
    refine gCmp_iff.mpr ?_
    cases c <;> first | exact rfl | exact Int.le_refl _ | cases hs
  | false =>
    cases hq : gCmp c x x with
    | false => rfl
    | true =>
      have h := gCmp_iff.mp hq
      cases c <;> first | (cases hs; done) | exact absurd rfl h | exact absurd h (Int.lt_irrefl _)
theorem gCmp_sg {x y z : Int32} (h : z = sSgn x y) (c : Jvm.ClassFile.Cond) : gCmp c x y = gCmp c z 0 := by
  have e : (hCmp c x.toInt y.toInt ↔ hCmp c z.toInt (0 : Int32).toInt) := by
    unfold sSgn at h
    rw [h, show (0 : Int32).toInt = 0 from rfl]
    by_cases h1 : x < y
    · rw [if_pos h1, show (-1 : Int32).toInt = -1 from rfl]
      rw [Int32.lt_iff_toInt_lt] at h1
      cases c <;> simp only [hCmp] <;> omega
    · rw [if_neg h1]
      rw [Int32.lt_iff_toInt_lt] at h1
      by_cases h2 : x = y
      · rw [if_pos h2, h2, show (0 : Int32).toInt = 0 from rfl]
        cases c <;> simp only [hCmp] <;> omega
      · rw [if_neg h2, show (1 : Int32).toInt = 1 from rfl]
        have h3 : ¬ x.toInt = y.toInt := fun z => h2 (Int32.toInt_inj.mp z)
        cases c <;> simp only [hCmp] <;> omega
  cases hq : gCmp c z 0 with
  | true => exact gCmp_iff.mpr (e.mpr (gCmp_iff.mp hq))
  | false =>
    cases hr : gCmp c x y with
    | false => rfl
    | true => rw [gCmp_iff.mpr (e.mp (gCmp_iff.mp hr))] at hq; cases hq
theorem gCmp_flip {c : Jvm.ClassFile.Cond} {x y : Int32} : gCmp (sFlip c) y x = gCmp c x y := by
  cases hq : gCmp c x y with
  | true => exact gCmp_iff.mpr (hCmp_flip.mpr (gCmp_iff.mp hq))
  | false =>
    cases hr : gCmp (sFlip c) y x with
    | false => rfl
    | true => rw [gCmp_iff.mpr (hCmp_flip.mp (gCmp_iff.mp hr))] at hq; cases hq
theorem sBr2_ok {ρ : Nat → Int32} {c : Jvm.ClassFile.Cond} {cs : sI} {v u : sV} {x y : Int32} {kt kf : sI → Option (List sLf)} {qt qf : Option gO} (hcs : sOK ρ cs) (hx : (sIv cs v).1 ≤ x.toInt ∧ x.toInt ≤ (sIv cs v).2 ∧ (Nat.ble 10 v.1 = true → ρ (v.1 - 10) = x)) (hy : (sIv cs u).1 ≤ y.toInt ∧ y.toInt ≤ (sIv cs u).2 ∧ (Nat.ble 10 u.1 = true → ρ (u.1 - 10) = y)) (ht : gCmp c x y = true → ∀ cs, sOK ρ cs → sSim ρ (kt cs) qt) (hf : gCmp c x y = false → ∀ cs, sOK ρ cs → sSim ρ (kf cs) qf) : sSim ρ (bif Nat.ble 10 v.1 && Nat.beq v.1 u.1 then (bif sSelf c then kt cs else kf cs) else sBr1 c cs v u kt kf) (bif gCmp c x y then qt else qf) := by
  cases hq3 : (Nat.ble 10 v.1 && Nat.beq v.1 u.1) with
  | false => exact sBr1_ok hcs hx hy ht hf
  | true =>
    rw [Bool.and_eq_true] at hq3
    have e1 : v.1 = u.1 := Nat.eq_of_beq_eq_true hq3.2
    have xy : x = y := by
      have h1 := hx.2.2 hq3.1
      have h2 := hy.2.2 (by rw [← e1]; exact hq3.1)
      rw [← h1, ← h2, e1]
    subst xy
    rw [gCmp_self] at ht hf ⊢
    cases hs : sSelf c with
    | true => exact ht hs _ hcs
    | false => exact hf hs _ hcs
theorem sBr_ok {ρ : Nat → Int32} {c : Jvm.ClassFile.Cond} {cs : sI} {v u : sV} {x y : Int32} {kt kf : sI → Option (List sLf)} {qt qf : Option gO} (hcs : sOK ρ cs) (hx : (sIv cs v).1 ≤ x.toInt ∧ x.toInt ≤ (sIv cs v).2 ∧ (Nat.ble 10 v.1 = true → ρ (v.1 - 10) = x)) (hy : (sIv cs u).1 ≤ y.toInt ∧ y.toInt ≤ (sIv cs u).2 ∧ (Nat.ble 10 u.1 = true → ρ (u.1 - 10) = y)) (ht : gCmp c x y = true → ∀ cs, sOK ρ cs → sSim ρ (kt cs) qt) (hf : gCmp c x y = false → ∀ cs, sOK ρ cs → sSim ρ (kf cs) qf) : sSim ρ (sBr c cs v u kt kf) (bif gCmp c x y then qt else qf) := by
  have h6 : ∀ m : Nat, (sIv cs (m + 10, 0, 0)).1 ≤ (ρ m).toInt ∧ (ρ m).toInt ≤ (sIv cs (m + 10, 0, 0)).2 ∧ (Nat.ble 10 (m + 10) = true → ρ (m + 10 - 10) = ρ m) := fun m => by
    rw [show sIv cs (m + 10, 0, 0) = cs.getD m sFull from sIv_var cs m (0, 0)]
    exact ⟨(hcs.2 m).1, (hcs.2 m).2, fun _ => rfl⟩
  have h0 : (sIv cs (sK0 0)).1 ≤ (0 : Int32).toInt ∧ (0 : Int32).toInt ≤ (sIv cs (sK0 0)).2 ∧ (Nat.ble 10 (sK0 0).1 = true → ρ ((sK0 0).1 - 10) = 0) := ⟨Int.le_refl _, Int.le_refl _, fun z => by cases z⟩
  have hvx : ∀ m : Nat, Nat.beq v.1 (m + 10) = true → ρ m = x := fun m hm => by
    have e1 : v.1 = m + 10 := Nat.eq_of_beq_eq_true hm
    have := hx.2.2 (by rw [e1]; exact Nat.ble_eq.mpr (Nat.le_add_left 10 m))
    rw [e1] at this
    exact this
  have huy : ∀ m : Nat, Nat.beq u.1 (m + 10) = true → ρ m = y := fun m hm => by
    have e1 : u.1 = m + 10 := Nat.eq_of_beq_eq_true hm
    have := hy.2.2 (by rw [e1]; exact Nat.ble_eq.mpr (Nat.le_add_left 10 m))
    rw [e1] at this
    exact this
  have key : ∀ (m : Nat) (t : Bool), (∀ c, gCmp c x y = gCmp (bif t then sFlip c else c) (ρ m) 0) → sSim ρ (sBr1 (bif t then sFlip c else c) cs (m + 10, 0, 0) (sK0 0) kt kf) (bif gCmp c x y then qt else qf) := fun m t e => by
    rw [e c] at ht hf ⊢
    exact sBr1_ok hcs (h6 m) h0 ht hf
  unfold sBr sPair
  cases h1 : Nat.beq u.1 14 with
  | true =>
    dsimp only [cond_true]
    cases h2 : Nat.beq v.1 13 with
    | true => exact key 6 false (fun c => by rw [← hvx 3 h2, ← huy 4 h1]; exact gCmp_sg hcs.1.1 c)
    | false =>
      dsimp only [cond_false]
      cases h3 : Nat.beq v.1 12 with
      | true => exact key 7 false (fun c => by rw [← hvx 2 h3, ← huy 4 h1]; exact gCmp_sg hcs.1.2 c)
      | false => exact sBr2_ok hcs hx hy ht hf
  | false =>
    dsimp only [cond_false]
    cases h2 : Nat.beq v.1 14 with
    | false => exact sBr2_ok hcs hx hy ht hf
    | true =>
      dsimp only [cond_true]
      cases h3 : Nat.beq u.1 13 with
      | true => exact key 6 true (fun c => by rw [← hvx 4 h2, ← huy 3 h3, ← gCmp_flip]; exact gCmp_sg hcs.1.1 (sFlip c))
      | false =>
        dsimp only [cond_false]
        cases h4 : Nat.beq u.1 12 with
        | true => exact key 7 true (fun c => by rw [← hvx 4 h2, ← huy 2 h4, ← gCmp_flip]; exact gCmp_sg hcs.1.2 (sFlip c))
        | false => exact sBr2_ok hcs hx hy ht hf
theorem sEach_ok {ρ : Nat → Int32} {cs : sI} {v : sV} {x : Int32} {k : sI → Int → Option (List sLf)} {q : Option gO} (hcs : sOK ρ cs) (hv : Nat.ble 10 v.1 = true → ρ (v.1 - 10) = x) (hk : ∀ cs, sOK ρ cs → sSim ρ (k cs x.toInt) q) : ∀ (m : Nat) (n : Int), n ≤ x.toInt → x.toInt ≤ n + m → sSim ρ (sEach cs v k m n) q := by
  intro m
  induction m with
  | zero =>
    intro n h1 h2
    have e : n = x.toInt := by omega
    subst e
    exact hk _ (sRef1_ok hcs hv rfl)
  | succ m ih =>
    intro n h1 h2
    by_cases e : n = x.toInt
    · subst e
      exact sSim.app (Or.inl (hk _ (sRef1_ok hcs hv rfl)))
    · refine sSim.app (Or.inr ?_)
      rw [fInt_eq]
      exact ih (n + 1) (by omega) (by omega)
theorem sIdx_ok {ρ : Nat → Int32} {cs : sI} {v : sV} {x : Int32} {n : Nat} {k : sI → Int → Option (List sLf)} {q : Option gO} (hcs : sOK ρ cs) (hx : (sIv cs v).1 ≤ x.toInt ∧ x.toInt ≤ (sIv cs v).2 ∧ (Nat.ble 10 v.1 = true → ρ (v.1 - 10) = x)) (hk : gIn x n = true → x.toInt.toNat = x.toNatClampNeg → ∀ cs, sOK ρ cs → sSim ρ (k cs x.toInt) q) : sSim ρ (sIdx cs v n k) q := by
  unfold sIdx
  cases h : (decide (0 ≤ (sIv cs v).1) && (decide ((sIv cs v).2 < (n : Int)) && (decide ((sIv cs v).1 ≤ (sIv cs v).2) && decide ((sIv cs v).2 - (sIv cs v).1 ≤ 64)))) with
  | false => exact sSim.none
  | true =>
    simp only [Bool.and_eq_true, decide_eq_true_eq] at h
    obtain ⟨h1, h2, h3, h4⟩ := h
    have h0 : 0 ≤ x.toInt := by omega
    have hc : x.toNatClampNeg = x.toInt.toNat := rfl
    refine sEach_ok hcs hx.2.2 (hk ?_ hc.symm) _ _ hx.1 (by omega)
    unfold gIn
    rw [Bool.and_eq_true, Bool.not_eq_true', decide_eq_false_iff_not, Int32.lt_iff_toInt_lt]
    refine ⟨by rw [show (0 : Int32).toInt = 0 from rfl]; omega, Nat.blt_eq.mpr (by rw [hc]; omega)⟩
section SROWS
variable {ρ : Nat → Int32} {K : Nat → gL → List Value → gH → Option gO} {C : Nat → List Value → gH → Option gO} {sK : sI → Nat → sL → List sV → sH → Option (List sLf)} {sCl : sI → Nat → List sV → sH → Option (List sLf)} {rt : Option FieldType} {dp : Bool} {cs : sI} {pc a b : Nat} {v : Int} {lv : sL} {st : List sV} {lh : sH} {lv' : gL} {st' : List Value} {lh' : gH}
theorem ss_iload (hK : ∀ (cs : sI) (pc : Nat) (lv : sL) (lv' : gL) (st : List sV) (st' : List Value) (lh : sH) (lh' : gH), sOK ρ cs → sRL ρ lv lv' → sRS ρ st st' → sRH ρ lh lh' → sSim ρ (sK cs pc lv st lh) (K pc lv' st' lh')) (hcs : sOK ρ cs) (hlv : sRL ρ lv lv') (hst : sRS ρ st st') (hlh : sRH ρ lh lh') {i n : Nat} : sSim ρ (sI_load sK cs pc lv st lh sIsI i n) (gI_iload K pc lv' st' lh' i n) := by
  unfold sI_load
  cases hv : sLk i lv with
  | none => exact sSim.none
  | some w =>
    dsimp only
    cases ht : sIsI w with
    | false => exact sSim.none
    | true =>
      obtain ⟨w', h1, h2⟩ := gLk_ok hlv hv
      obtain ⟨x, rfl, -⟩ := sInt hcs ht h2
      unfold gI_iload
      rw [h1]
      first | exact hK _ _ _ _ _ _ _ _ hcs hlv (And.intro h2 hst) hlh | (simp only [fNth_eq, fSet_eq, fSnoc_eq, fLen_eq, fNat_eq, fV_eq, fFilt_eq, cond_true]; exact hK _ _ _ _ _ _ _ _ hcs hlv (And.intro h2 hst) hlh)
theorem ss_lload (hK : ∀ (cs : sI) (pc : Nat) (lv : sL) (lv' : gL) (st : List sV) (st' : List Value) (lh : sH) (lh' : gH), sOK ρ cs → sRL ρ lv lv' → sRS ρ st st' → sRH ρ lh lh' → sSim ρ (sK cs pc lv st lh) (K pc lv' st' lh')) (hcs : sOK ρ cs) (hlv : sRL ρ lv lv') (hst : sRS ρ st st') (hlh : sRH ρ lh lh') {i n : Nat} : sSim ρ (sI_load sK cs pc lv st lh sIsL i n) (gI_lload K pc lv' st' lh' i n) := by
  unfold sI_load
  cases hv : sLk i lv with
  | none => exact sSim.none
  | some w =>
    dsimp only
    cases ht : sIsL w with
    | false => exact sSim.none
    | true =>
      obtain ⟨w', h1, h2⟩ := gLk_ok hlv hv
      obtain ⟨x, rfl, -⟩ := sLong ht h2
      unfold gI_lload
      rw [h1]
      first | exact hK _ _ _ _ _ _ _ _ hcs hlv (And.intro h2 hst) hlh | (simp only [fNth_eq, fSet_eq, fSnoc_eq, fLen_eq, fNat_eq, fV_eq, fFilt_eq, cond_true]; exact hK _ _ _ _ _ _ _ _ hcs hlv (And.intro h2 hst) hlh)
theorem ss_aload (hK : ∀ (cs : sI) (pc : Nat) (lv : sL) (lv' : gL) (st : List sV) (st' : List Value) (lh : sH) (lh' : gH), sOK ρ cs → sRL ρ lv lv' → sRS ρ st st' → sRH ρ lh lh' → sSim ρ (sK cs pc lv st lh) (K pc lv' st' lh')) (hcs : sOK ρ cs) (hlv : sRL ρ lv lv') (hst : sRS ρ st st') (hlh : sRH ρ lh lh') {i n : Nat} : sSim ρ (sI_load sK cs pc lv st lh sIsA i n) (gI_aload K pc lv' st' lh' i n) := by
  unfold sI_load
  cases hv : sLk i lv with
  | none => exact sSim.none
  | some w =>
    dsimp only
    cases ht : sIsA w with
    | false => exact sSim.none
    | true =>
      obtain ⟨w', h1, h2⟩ := gLk_ok hlv hv
      rcases sRefA ht h2 with rfl | ⟨x, rfl⟩
      · unfold gI_aload
        rw [h1]
        first | exact hK _ _ _ _ _ _ _ _ hcs hlv (And.intro h2 hst) hlh | (simp only [fNth_eq, fSet_eq, fSnoc_eq, fLen_eq, fNat_eq, fV_eq, fFilt_eq, cond_true]; exact hK _ _ _ _ _ _ _ _ hcs hlv (And.intro h2 hst) hlh)
      · unfold gI_aload
        rw [h1]
        first | exact hK _ _ _ _ _ _ _ _ hcs hlv (And.intro h2 hst) hlh | (simp only [fNth_eq, fSet_eq, fSnoc_eq, fLen_eq, fNat_eq, fV_eq, fFilt_eq, cond_true]; exact hK _ _ _ _ _ _ _ _ hcs hlv (And.intro h2 hst) hlh)
theorem ss_istore (hK : ∀ (cs : sI) (pc : Nat) (lv : sL) (lv' : gL) (st : List sV) (st' : List Value) (lh : sH) (lh' : gH), sOK ρ cs → sRL ρ lv lv' → sRS ρ st st' → sRH ρ lh lh' → sSim ρ (sK cs pc lv st lh) (K pc lv' st' lh')) (hcs : sOK ρ cs) (hlv : sRL ρ lv lv') (hst : sRS ρ st st') (hlh : sRH ρ lh lh') {i n : Nat} : sSim ρ (sI_store sK cs pc lv st lh sIsI i n) (gI_istore K pc lv' st' lh' i n) := by
  unfold sI_store
  rcases gF2.cases hst with ⟨rfl, rfl⟩ | ⟨w, r, w', r', rfl, rfl, h2, hr⟩
  · exact sSim.none
  · skip
    dsimp only
    cases ht : sIsI w with
    | false => exact sSim.none
    | true =>
      obtain ⟨x, rfl, -⟩ := sInt hcs ht h2
      first | exact hK _ _ _ _ _ _ _ _ hcs (sSt1_ok hlv h2) hr hlh | (simp only [fNth_eq, fSet_eq, fSnoc_eq, fLen_eq, fNat_eq, fV_eq, fFilt_eq, cond_true]; exact hK _ _ _ _ _ _ _ _ hcs (sSt1_ok hlv h2) hr hlh)
theorem ss_astore (hK : ∀ (cs : sI) (pc : Nat) (lv : sL) (lv' : gL) (st : List sV) (st' : List Value) (lh : sH) (lh' : gH), sOK ρ cs → sRL ρ lv lv' → sRS ρ st st' → sRH ρ lh lh' → sSim ρ (sK cs pc lv st lh) (K pc lv' st' lh')) (hcs : sOK ρ cs) (hlv : sRL ρ lv lv') (hst : sRS ρ st st') (hlh : sRH ρ lh lh') {i n : Nat} : sSim ρ (sI_store sK cs pc lv st lh sIsA i n) (gI_astore K pc lv' st' lh' i n) := by
  unfold sI_store
  rcases gF2.cases hst with ⟨rfl, rfl⟩ | ⟨w, r, w', r', rfl, rfl, h2, hr⟩
  · exact sSim.none
  · skip
    dsimp only
    cases ht : sIsA w with
    | false => exact sSim.none
    | true =>
      rcases sRefA ht h2 with rfl | ⟨x, rfl⟩
      · first | exact hK _ _ _ _ _ _ _ _ hcs (sSt1_ok hlv h2) hr hlh | (simp only [fNth_eq, fSet_eq, fSnoc_eq, fLen_eq, fNat_eq, fV_eq, fFilt_eq, cond_true]; exact hK _ _ _ _ _ _ _ _ hcs (sSt1_ok hlv h2) hr hlh)
      · first | exact hK _ _ _ _ _ _ _ _ hcs (sSt1_ok hlv h2) hr hlh | (simp only [fNth_eq, fSet_eq, fSnoc_eq, fLen_eq, fNat_eq, fV_eq, fFilt_eq, cond_true]; exact hK _ _ _ _ _ _ _ _ hcs (sSt1_ok hlv h2) hr hlh)
theorem ss_lstore (hK : ∀ (cs : sI) (pc : Nat) (lv : sL) (lv' : gL) (st : List sV) (st' : List Value) (lh : sH) (lh' : gH), sOK ρ cs → sRL ρ lv lv' → sRS ρ st st' → sRH ρ lh lh' → sSim ρ (sK cs pc lv st lh) (K pc lv' st' lh')) (hcs : sOK ρ cs) (hlv : sRL ρ lv lv') (hst : sRS ρ st st') (hlh : sRH ρ lh lh') {i n : Nat} : sSim ρ (sI_lstore sK cs pc lv st lh i n) (gI_lstore K pc lv' st' lh' i n) := by
  unfold sI_lstore
  rcases gF2.cases hst with ⟨rfl, rfl⟩ | ⟨w, r, w', r', rfl, rfl, h2, hr⟩
  · exact sSim.none
  · skip
    dsimp only
    cases ht : sIsL w with
    | false => exact sSim.none
    | true =>
      obtain ⟨x, rfl, -⟩ := sLong ht h2
      first | exact hK _ _ _ _ _ _ _ _ hcs (sSt2_ok hlv h2) hr hlh | (simp only [fNth_eq, fSet_eq, fSnoc_eq, fLen_eq, fNat_eq, fV_eq, fFilt_eq, cond_true]; exact hK _ _ _ _ _ _ _ _ hcs (sSt2_ok hlv h2) hr hlh)
theorem ss_iinc (hK : ∀ (cs : sI) (pc : Nat) (lv : sL) (lv' : gL) (st : List sV) (st' : List Value) (lh : sH) (lh' : gH), sOK ρ cs → sRL ρ lv lv' → sRS ρ st st' → sRH ρ lh lh' → sSim ρ (sK cs pc lv st lh) (K pc lv' st' lh')) (hcs : sOK ρ cs) (hlv : sRL ρ lv lv') (hst : sRS ρ st st') (hlh : sRH ρ lh lh') {i : Nat} {n : Int} : sSim ρ (sI_iinc sK cs pc lv st lh i n) (gI_iinc K pc lv' st' lh' i n) := by
  unfold sI_iinc
  cases hv : sLk i lv with
  | none => exact sSim.none
  | some w =>
    dsimp only
    cases ht : sIsI w with
    | false => exact sSim.none
    | true =>
      obtain ⟨w', h1, h2⟩ := gLk_ok hlv hv
      obtain ⟨x, rfl, h3, h4, -⟩ := sInt hcs ht h2
      unfold gI_iinc
      rw [h1]
      first | exact hK _ _ _ _ _ _ _ _ hcs (sSt1_ok hlv (sUn_ok (f := fun x => x + Int32.ofInt n) ⟨h3, h4⟩)) hst hlh | (simp only [fNth_eq, fSet_eq, fSnoc_eq, fLen_eq, fNat_eq, fV_eq, fFilt_eq, cond_true]; exact hK _ _ _ _ _ _ _ _ hcs (sSt1_ok hlv (sUn_ok (f := fun x => x + Int32.ofInt n) ⟨h3, h4⟩)) hst hlh)
theorem ss_int (hK : ∀ (cs : sI) (pc : Nat) (lv : sL) (lv' : gL) (st : List sV) (st' : List Value) (lh : sH) (lh' : gH), sOK ρ cs → sRL ρ lv lv' → sRS ρ st st' → sRH ρ lh lh' → sSim ρ (sK cs pc lv st lh) (K pc lv' st' lh')) (hcs : sOK ρ cs) (hlv : sRL ρ lv lv') (hst : sRS ρ st st') (hlh : sRH ρ lh lh') {x : Int32} {n : Nat} : sSim ρ (sI_int sK cs pc lv st lh x n) (gI_int K pc lv' st' lh' x n) := by
  unfold sI_int gI_int
  rw [fV_eq]
  first | exact hK _ _ _ _ _ _ _ _ hcs hlv (And.intro sK0_ok hst) hlh | (simp only [fNth_eq, fSet_eq, fSnoc_eq, fLen_eq, fNat_eq, fV_eq, fFilt_eq, cond_true]; exact hK _ _ _ _ _ _ _ _ hcs hlv (And.intro sK0_ok hst) hlh)
theorem ss_long (hK : ∀ (cs : sI) (pc : Nat) (lv : sL) (lv' : gL) (st : List sV) (st' : List Value) (lh : sH) (lh' : gH), sOK ρ cs → sRL ρ lv lv' → sRS ρ st st' → sRH ρ lh lh' → sSim ρ (sK cs pc lv st lh) (K pc lv' st' lh')) (hcs : sOK ρ cs) (hlv : sRL ρ lv lv') (hst : sRS ρ st st') (hlh : sRH ρ lh lh') {x : Int64} {n : Nat} : sSim ρ (sI_long sK cs pc lv st lh x n) (gI_long K pc lv' st' lh' x n) := by
  unfold sI_long gI_long
  rw [fV_eq]
  first | exact hK _ _ _ _ _ _ _ _ hcs hlv (And.intro ⟨x, rfl, Int.le_refl _, Int.le_refl _⟩ hst) hlh | (simp only [fNth_eq, fSet_eq, fSnoc_eq, fLen_eq, fNat_eq, fV_eq, fFilt_eq, cond_true]; exact hK _ _ _ _ _ _ _ _ hcs hlv (And.intro ⟨x, rfl, Int.le_refl _, Int.le_refl _⟩ hst) hlh)
theorem ss_bin (hK : ∀ (cs : sI) (pc : Nat) (lv : sL) (lv' : gL) (st : List sV) (st' : List Value) (lh : sH) (lh' : gH), sOK ρ cs → sRL ρ lv lv' → sRS ρ st st' → sRH ρ lh lh' → sSim ρ (sK cs pc lv st lh) (K pc lv' st' lh')) (hcs : sOK ρ cs) (hlv : sRL ρ lv lv') (hst : sRS ρ st st') (hlh : sRH ρ lh lh') {f : Int32 → Int32 → Int32} {g : Int × Int → Int × Int → Int × Int} (hg : ∀ (X Y : Int × Int) (x y : Int32), (X.1 ≤ x.toInt ∧ x.toInt ≤ X.2) → (Y.1 ≤ y.toInt ∧ y.toInt ≤ Y.2) → (g X Y).1 ≤ (f x y).toInt ∧ (f x y).toInt ≤ (g X Y).2) : sSim ρ (sI_bin sK cs pc lv st lh f g) (gI_bin K pc lv' st' lh' f) := by
  unfold sI_bin
  rcases gF2.cases hst with ⟨rfl, rfl⟩ | ⟨y, r0, y', r0', rfl, rfl, h2, hr0⟩
  · exact sSim.none
  rcases gF2.cases hr0 with ⟨rfl, rfl⟩ | ⟨x, r, x', r', rfl, rfl, h3, hr⟩
  · exact sSim.none
  ·   dsimp only
      cases ht : (sIsI y && sIsI x) with
      | false => exact sSim.none
      | true =>
        rw [Bool.and_eq_true] at ht
        obtain ⟨y1, rfl, g1, g2, -⟩ := sInt hcs ht.1 h2
        obtain ⟨x1, rfl, g3, g4, -⟩ := sInt hcs ht.2 h3
        first | exact hK _ _ _ _ _ _ _ _ hcs hlv (And.intro (sBin_ok ⟨g3, g4⟩ ⟨g1, g2⟩ (hg _ _ _ _ ⟨g3, g4⟩ ⟨g1, g2⟩)) hr) hlh | (simp only [fNth_eq, fSet_eq, fSnoc_eq, fLen_eq, fNat_eq, fV_eq, fFilt_eq, cond_true]; exact hK _ _ _ _ _ _ _ _ hcs hlv (And.intro (sBin_ok ⟨g3, g4⟩ ⟨g1, g2⟩ (hg _ _ _ _ ⟨g3, g4⟩ ⟨g1, g2⟩)) hr) hlh)
theorem ss_lbin (hK : ∀ (cs : sI) (pc : Nat) (lv : sL) (lv' : gL) (st : List sV) (st' : List Value) (lh : sH) (lh' : gH), sOK ρ cs → sRL ρ lv lv' → sRS ρ st st' → sRH ρ lh lh' → sSim ρ (sK cs pc lv st lh) (K pc lv' st' lh')) (hcs : sOK ρ cs) (hlv : sRL ρ lv lv') (hst : sRS ρ st st') (hlh : sRH ρ lh lh') {f : Int64 → Int64 → Int64} : sSim ρ (sI_lbin sK cs pc lv st lh f) (gI_lbin K pc lv' st' lh' f) := by
  unfold sI_lbin
  rcases gF2.cases hst with ⟨rfl, rfl⟩ | ⟨y, r0, y', r0', rfl, rfl, h2, hr0⟩
  · exact sSim.none
  rcases gF2.cases hr0 with ⟨rfl, rfl⟩ | ⟨x, r, x', r', rfl, rfl, h3, hr⟩
  · exact sSim.none
  ·   dsimp only
      cases ht : (sIsL y && sIsL x) with
      | false => exact sSim.none
      | true =>
        rw [Bool.and_eq_true] at ht
        obtain ⟨y1, rfl, g1, g2⟩ := sLong ht.1 h2
        obtain ⟨x1, rfl, g3, g4⟩ := sLong ht.2 h3
        first | exact hK _ _ _ _ _ _ _ _ hcs hlv (And.intro (sLbin_ok ⟨g3, g4⟩ ⟨g1, g2⟩) hr) hlh | (simp only [fNth_eq, fSet_eq, fSnoc_eq, fLen_eq, fNat_eq, fV_eq, fFilt_eq, cond_true]; exact hK _ _ _ _ _ _ _ _ hcs hlv (And.intro (sLbin_ok ⟨g3, g4⟩ ⟨g1, g2⟩) hr) hlh)
theorem ss_div (hK : ∀ (cs : sI) (pc : Nat) (lv : sL) (lv' : gL) (st : List sV) (st' : List Value) (lh : sH) (lh' : gH), sOK ρ cs → sRL ρ lv lv' → sRS ρ st st' → sRH ρ lh lh' → sSim ρ (sK cs pc lv st lh) (K pc lv' st' lh')) (hcs : sOK ρ cs) (hlv : sRL ρ lv lv') (hst : sRS ρ st st') (hlh : sRH ρ lh lh') {f : Int32 → Int32 → Int32} : sSim ρ (sI_div sK cs pc lv st lh f) (gI_div K pc lv' st' lh' f) := by
  unfold sI_div
  rcases gF2.cases hst with ⟨rfl, rfl⟩ | ⟨y, r0, y', r0', rfl, rfl, h2, hr0⟩
  · exact sSim.none
  rcases gF2.cases hr0 with ⟨rfl, rfl⟩ | ⟨x, r, x', r', rfl, rfl, h3, hr⟩
  · exact sSim.none
  ·   dsimp only
      cases ht : ((sIsI y && sIsI x) && (decide (0 < (sIv cs y).1) || decide ((sIv cs y).2 < 0))) with
      | false => exact sSim.none
      | true =>
        rw [Bool.and_eq_true] at ht
        rw [Bool.and_eq_true, Bool.or_eq_true, decide_eq_true_eq, decide_eq_true_eq] at ht
        obtain ⟨y1, rfl, g1, g2, -⟩ := sInt hcs ht.1.1 h2
        obtain ⟨x1, rfl, g3, g4, -⟩ := sInt hcs ht.1.2 h3
        have hy : ¬ y1 = 0 := fun z => by
          rw [z, show (0 : Int32).toInt = 0 from rfl] at g1 g2
          omega
        unfold gI_div
        dsimp only
        rw [decide_eq_false hy]
        first | exact hK _ _ _ _ _ _ _ _ hcs hlv (And.intro (sBin_ok ⟨g3, g4⟩ ⟨g1, g2⟩ (sAny_ok f _ _ _ _)) hr) hlh | (simp only [fNth_eq, fSet_eq, fSnoc_eq, fLen_eq, fNat_eq, fV_eq, fFilt_eq, cond_true]; exact hK _ _ _ _ _ _ _ _ hcs hlv (And.intro (sBin_ok ⟨g3, g4⟩ ⟨g1, g2⟩ (sAny_ok f _ _ _ _)) hr) hlh)
theorem ss_ldiv (hK : ∀ (cs : sI) (pc : Nat) (lv : sL) (lv' : gL) (st : List sV) (st' : List Value) (lh : sH) (lh' : gH), sOK ρ cs → sRL ρ lv lv' → sRS ρ st st' → sRH ρ lh lh' → sSim ρ (sK cs pc lv st lh) (K pc lv' st' lh')) (hcs : sOK ρ cs) (hlv : sRL ρ lv lv') (hst : sRS ρ st st') (hlh : sRH ρ lh lh')  : sSim ρ (sI_ldiv sK cs pc lv st lh) (gI_ldiv K pc lv' st' lh') := by
  unfold sI_ldiv
  rcases gF2.cases hst with ⟨rfl, rfl⟩ | ⟨y, r0, y', r0', rfl, rfl, h2, hr0⟩
  · exact sSim.none
  rcases gF2.cases hr0 with ⟨rfl, rfl⟩ | ⟨x, r, x', r', rfl, rfl, h3, hr⟩
  · exact sSim.none
  ·   dsimp only
      cases ht : ((sIsL y && sIsL x) && (decide (0 < y.2.1) || decide (y.2.2 < 0))) with
      | false => exact sSim.none
      | true =>
        rw [Bool.and_eq_true] at ht
        rw [Bool.and_eq_true, Bool.or_eq_true, decide_eq_true_eq, decide_eq_true_eq] at ht
        obtain ⟨y1, rfl, g1, g2⟩ := sLong ht.1.1 h2
        obtain ⟨x1, rfl, g3, g4⟩ := sLong ht.1.2 h3
        have hy : ¬ y1 = 0 := fun z => by
          rw [z, show (0 : Int64).toInt = 0 from rfl] at g1 g2
          omega
        unfold gI_ldiv
        dsimp only
        rw [decide_eq_false hy]
        first | exact hK _ _ _ _ _ _ _ _ hcs hlv (And.intro (sLbin_ok (f := fun x y => x / y) ⟨g3, g4⟩ ⟨g1, g2⟩) hr) hlh | (simp only [fNth_eq, fSet_eq, fSnoc_eq, fLen_eq, fNat_eq, fV_eq, fFilt_eq, cond_true]; exact hK _ _ _ _ _ _ _ _ hcs hlv (And.intro (sLbin_ok (f := fun x y => x / y) ⟨g3, g4⟩ ⟨g1, g2⟩) hr) hlh)
theorem ss_lcmp (hK : ∀ (cs : sI) (pc : Nat) (lv : sL) (lv' : gL) (st : List sV) (st' : List Value) (lh : sH) (lh' : gH), sOK ρ cs → sRL ρ lv lv' → sRS ρ st st' → sRH ρ lh lh' → sSim ρ (sK cs pc lv st lh) (K pc lv' st' lh')) (hcs : sOK ρ cs) (hlv : sRL ρ lv lv') (hst : sRS ρ st st') (hlh : sRH ρ lh lh')  : sSim ρ (sI_lcmp sK cs pc lv st lh) (gI_lcmp K pc lv' st' lh') := by
  unfold sI_lcmp
  rcases gF2.cases hst with ⟨rfl, rfl⟩ | ⟨y, r0, y', r0', rfl, rfl, h2, hr0⟩
  · exact sSim.none
  rcases gF2.cases hr0 with ⟨rfl, rfl⟩ | ⟨x, r, x', r', rfl, rfl, h3, hr⟩
  · exact sSim.none
  ·   dsimp only
      cases ht : (sIsL y && sIsL x) with
      | false => exact sSim.none
      | true =>
        rw [Bool.and_eq_true] at ht
        obtain ⟨y1, rfl, g1, g2⟩ := sLong ht.1 h2
        obtain ⟨x1, rfl, g3, g4⟩ := sLong ht.2 h3
        (try simp only [fNth_eq, fSet_eq, fSnoc_eq, fLen_eq, fNat_eq, fV_eq, fFilt_eq, cond_true])
        refine hK _ _ _ _ _ _ _ _ hcs hlv (And.intro ?_ hr) hlh
        cases h9 : (sOne x.2 && sOne y.2) with
        | true =>
          rw [Bool.and_eq_true] at h9
          show sRel ρ (sK0 _) _
          rw [sOneL_ok h9.1 g3 g4, sOneL_ok h9.2 g1 g2]
          exact sK0_ok
        | false => exact ⟨_, rfl, sFull_ok _⟩

theorem ss_un (hK : ∀ (cs : sI) (pc : Nat) (lv : sL) (lv' : gL) (st : List sV) (st' : List Value) (lh : sH) (lh' : gH), sOK ρ cs → sRL ρ lv lv' → sRS ρ st st' → sRH ρ lh lh' → sSim ρ (sK cs pc lv st lh) (K pc lv' st' lh')) (hcs : sOK ρ cs) (hlv : sRL ρ lv lv') (hst : sRS ρ st st') (hlh : sRH ρ lh lh') {f : Int32 → Int32} : sSim ρ (sI_un sK cs pc lv st lh f) (gI_un K pc lv' st' lh' f) := by
  unfold sI_un
  rcases gF2.cases hst with ⟨rfl, rfl⟩ | ⟨x, r, x', r', rfl, rfl, h2, hr⟩
  · exact sSim.none
  · skip
    dsimp only
    cases ht : sIsI x with
    | false => exact sSim.none
    | true =>
      obtain ⟨x1, rfl, g3, g4, -⟩ := sInt hcs ht h2
      first | exact hK _ _ _ _ _ _ _ _ hcs hlv (And.intro (sUn_ok ⟨g3, g4⟩) hr) hlh | (simp only [fNth_eq, fSet_eq, fSnoc_eq, fLen_eq, fNat_eq, fV_eq, fFilt_eq, cond_true]; exact hK _ _ _ _ _ _ _ _ hcs hlv (And.intro (sUn_ok ⟨g3, g4⟩) hr) hlh)
theorem ss_i2l (hK : ∀ (cs : sI) (pc : Nat) (lv : sL) (lv' : gL) (st : List sV) (st' : List Value) (lh : sH) (lh' : gH), sOK ρ cs → sRL ρ lv lv' → sRS ρ st st' → sRH ρ lh lh' → sSim ρ (sK cs pc lv st lh) (K pc lv' st' lh')) (hcs : sOK ρ cs) (hlv : sRL ρ lv lv') (hst : sRS ρ st st') (hlh : sRH ρ lh lh')  : sSim ρ (sI_i2l sK cs pc lv st lh) (gI_i2l K pc lv' st' lh') := by
  unfold sI_i2l
  rcases gF2.cases hst with ⟨rfl, rfl⟩ | ⟨x, r, x', r', rfl, rfl, h2, hr⟩
  · exact sSim.none
  · skip
    dsimp only
    cases ht : sIsI x with
    | false => exact sSim.none
    | true =>
      obtain ⟨x1, rfl, g3, g4, -⟩ := sInt hcs ht h2
      first | exact hK _ _ _ _ _ _ _ _ hcs hlv (And.intro ⟨_, rfl, by rw [Int32.toInt_toInt64]; exact g3, by rw [Int32.toInt_toInt64]; exact g4⟩ hr) hlh | (simp only [fNth_eq, fSet_eq, fSnoc_eq, fLen_eq, fNat_eq, fV_eq, fFilt_eq, cond_true]; exact hK _ _ _ _ _ _ _ _ hcs hlv (And.intro ⟨_, rfl, by rw [Int32.toInt_toInt64]; exact g3, by rw [Int32.toInt_toInt64]; exact g4⟩ hr) hlh)
theorem ss_l2i (hK : ∀ (cs : sI) (pc : Nat) (lv : sL) (lv' : gL) (st : List sV) (st' : List Value) (lh : sH) (lh' : gH), sOK ρ cs → sRL ρ lv lv' → sRS ρ st st' → sRH ρ lh lh' → sSim ρ (sK cs pc lv st lh) (K pc lv' st' lh')) (hcs : sOK ρ cs) (hlv : sRL ρ lv lv') (hst : sRS ρ st st') (hlh : sRH ρ lh lh')  : sSim ρ (sI_l2i sK cs pc lv st lh) (gI_l2i K pc lv' st' lh') := by
  unfold sI_l2i
  rcases gF2.cases hst with ⟨rfl, rfl⟩ | ⟨x, r, x', r', rfl, rfl, h2, hr⟩
  · exact sSim.none
  · skip
    dsimp only
    cases ht : sIsL x with
    | false => exact sSim.none
    | true =>
      obtain ⟨x1, rfl, g3, g4⟩ := sLong ht h2
      (try simp only [fNth_eq, fSet_eq, fSnoc_eq, fLen_eq, fNat_eq, fV_eq, fFilt_eq, cond_true])
      refine hK _ _ _ _ _ _ _ _ hcs hlv (And.intro ?_ hr) hlh
      cases h9 : sOne x.2 with
      | true =>
        show sRel ρ (sK0 _) _
        rw [sOneL_ok h9 g3 g4]
        exact sK0_ok
      | false => exact ⟨_, rfl, sFull_ok _⟩

theorem ss_dup (hK : ∀ (cs : sI) (pc : Nat) (lv : sL) (lv' : gL) (st : List sV) (st' : List Value) (lh : sH) (lh' : gH), sOK ρ cs → sRL ρ lv lv' → sRS ρ st st' → sRH ρ lh lh' → sSim ρ (sK cs pc lv st lh) (K pc lv' st' lh')) (hcs : sOK ρ cs) (hlv : sRL ρ lv lv') (hst : sRS ρ st st') (hlh : sRH ρ lh lh')  : sSim ρ (sI_dup sK cs pc lv st lh) (gI_dup K pc lv' st' lh') := by
  unfold sI_dup
  rcases gF2.cases hst with ⟨rfl, rfl⟩ | ⟨x, r, x', r', rfl, rfl, h2, hr⟩
  · exact sSim.none
  · skip
    unfold gI_dup
    dsimp only
    rw [sCat_ok h2]
    cases ht : Nat.beq (sCat x) 1 with
    | false => exact sSim.none
    | true => first | exact hK _ _ _ _ _ _ _ _ hcs hlv (And.intro h2 (And.intro h2 hr)) hlh | (simp only [fNth_eq, fSet_eq, fSnoc_eq, fLen_eq, fNat_eq, fV_eq, fFilt_eq, cond_true]; exact hK _ _ _ _ _ _ _ _ hcs hlv (And.intro h2 (And.intro h2 hr)) hlh)
theorem ss_pop (hK : ∀ (cs : sI) (pc : Nat) (lv : sL) (lv' : gL) (st : List sV) (st' : List Value) (lh : sH) (lh' : gH), sOK ρ cs → sRL ρ lv lv' → sRS ρ st st' → sRH ρ lh lh' → sSim ρ (sK cs pc lv st lh) (K pc lv' st' lh')) (hcs : sOK ρ cs) (hlv : sRL ρ lv lv') (hst : sRS ρ st st') (hlh : sRH ρ lh lh')  : sSim ρ (sI_pop sK cs pc lv st lh) (gI_pop K pc lv' st' lh') := by
  unfold sI_pop
  rcases gF2.cases hst with ⟨rfl, rfl⟩ | ⟨x, r, x', r', rfl, rfl, h2, hr⟩
  · exact sSim.none
  · skip
    unfold gI_pop
    dsimp only
    rw [sCat_ok h2]
    cases ht : Nat.beq (sCat x) 1 with
    | false => exact sSim.none
    | true => first | exact hK _ _ _ _ _ _ _ _ hcs hlv hr hlh | (simp only [fNth_eq, fSet_eq, fSnoc_eq, fLen_eq, fNat_eq, fV_eq, fFilt_eq, cond_true]; exact hK _ _ _ _ _ _ _ _ hcs hlv hr hlh)
theorem ss_dup2 (hK : ∀ (cs : sI) (pc : Nat) (lv : sL) (lv' : gL) (st : List sV) (st' : List Value) (lh : sH) (lh' : gH), sOK ρ cs → sRL ρ lv lv' → sRS ρ st st' → sRH ρ lh lh' → sSim ρ (sK cs pc lv st lh) (K pc lv' st' lh')) (hcs : sOK ρ cs) (hlv : sRL ρ lv lv') (hst : sRS ρ st st') (hlh : sRH ρ lh lh')  : sSim ρ (sI_dup2 sK cs pc lv st lh) (gI_dup2 K pc lv' st' lh') := by
  unfold sI_dup2
  rcases gF2.cases hst with ⟨rfl, rfl⟩ | ⟨x, r, x', r', rfl, rfl, h2, hr⟩
  · exact sSim.none
  · skip
    unfold gI_dup2
    dsimp only
    rw [sCat_ok h2]
    cases ht : Nat.beq (sCat x) 2 with
    | true => first | exact hK _ _ _ _ _ _ _ _ hcs hlv (And.intro h2 (And.intro h2 hr)) hlh | (simp only [fNth_eq, fSet_eq, fSnoc_eq, fLen_eq, fNat_eq, fV_eq, fFilt_eq, cond_true]; exact hK _ _ _ _ _ _ _ _ hcs hlv (And.intro h2 (And.intro h2 hr)) hlh)
    | false =>
      dsimp only [cond_false]
      rcases gF2.cases hr with ⟨rfl, rfl⟩ | ⟨y, r1, y', r1', rfl, rfl, h3, hr⟩
      · exact sSim.none
      · dsimp only
        rw [sCat_ok h3]
        cases ht : (Nat.beq (sCat x) 1 && Nat.beq (sCat y) 1) with
        | false => exact sSim.none
        | true => first | exact hK _ _ _ _ _ _ _ _ hcs hlv (And.intro h2 (And.intro h3 (And.intro h2 (And.intro h3 hr)))) hlh | (simp only [fNth_eq, fSet_eq, fSnoc_eq, fLen_eq, fNat_eq, fV_eq, fFilt_eq, cond_true]; exact hK _ _ _ _ _ _ _ _ hcs hlv (And.intro h2 (And.intro h3 (And.intro h2 (And.intro h3 hr)))) hlh)
theorem ss_if (hK : ∀ (cs : sI) (pc : Nat) (lv : sL) (lv' : gL) (st : List sV) (st' : List Value) (lh : sH) (lh' : gH), sOK ρ cs → sRL ρ lv lv' → sRS ρ st st' → sRH ρ lh lh' → sSim ρ (sK cs pc lv st lh) (K pc lv' st' lh')) (hcs : sOK ρ cs) (hlv : sRL ρ lv lv') (hst : sRS ρ st st') (hlh : sRH ρ lh lh') {c : Jvm.ClassFile.Cond} : sSim ρ (sI_if sK cs pc a lv st lh c) (gI_if K pc a lv' st' lh' c) := by
  unfold sI_if
  rcases gF2.cases hst with ⟨rfl, rfl⟩ | ⟨x, r, x', r', rfl, rfl, h2, hr⟩
  · exact sSim.none
  · skip
    dsimp only
    cases ht : sIsI x with
    | false => exact sSim.none
    | true =>
      obtain ⟨x1, rfl, g3⟩ := sInt hcs ht h2
      exact sBr_ok hcs g3 (y := 0) ⟨Int.le_refl _, Int.le_refl _, fun z => by cases z⟩ (fun _ cs hcs => hK _ _ _ _ _ _ _ _ hcs hlv hr hlh) (fun _ cs hcs => hK _ _ _ _ _ _ _ _ hcs hlv hr hlh)
theorem ss_icmp (hK : ∀ (cs : sI) (pc : Nat) (lv : sL) (lv' : gL) (st : List sV) (st' : List Value) (lh : sH) (lh' : gH), sOK ρ cs → sRL ρ lv lv' → sRS ρ st st' → sRH ρ lh lh' → sSim ρ (sK cs pc lv st lh) (K pc lv' st' lh')) (hcs : sOK ρ cs) (hlv : sRL ρ lv lv') (hst : sRS ρ st st') (hlh : sRH ρ lh lh') {c : Jvm.ClassFile.Cond} : sSim ρ (sI_icmp sK cs pc a lv st lh c) (gI_icmp K pc a lv' st' lh' c) := by
  unfold sI_icmp
  rcases gF2.cases hst with ⟨rfl, rfl⟩ | ⟨y, r0, y', r0', rfl, rfl, h2, hr0⟩
  · exact sSim.none
  rcases gF2.cases hr0 with ⟨rfl, rfl⟩ | ⟨x, r, x', r', rfl, rfl, h3, hr⟩
  · exact sSim.none
  ·   dsimp only
      cases ht : (sIsI y && sIsI x) with
      | false => exact sSim.none
      | true =>
        rw [Bool.and_eq_true] at ht
        obtain ⟨y1, rfl, g1⟩ := sInt hcs ht.1 h2
        obtain ⟨x1, rfl, g3⟩ := sInt hcs ht.2 h3
        exact sBr_ok hcs g3 g1 (fun _ cs hcs => hK _ _ _ _ _ _ _ _ hcs hlv hr hlh) (fun _ cs hcs => hK _ _ _ _ _ _ _ _ hcs hlv hr hlh)
theorem ss_ifnull (hK : ∀ (cs : sI) (pc : Nat) (lv : sL) (lv' : gL) (st : List sV) (st' : List Value) (lh : sH) (lh' : gH), sOK ρ cs → sRL ρ lv lv' → sRS ρ st st' → sRH ρ lh lh' → sSim ρ (sK cs pc lv st lh) (K pc lv' st' lh')) (hcs : sOK ρ cs) (hlv : sRL ρ lv lv') (hst : sRS ρ st st') (hlh : sRH ρ lh lh')  : sSim ρ (sI_null sK cs lv st lh a (pc + 3)) (gI_ifnull K pc a lv' st' lh') := by
  unfold sI_null
  rcases gF2.cases hst with ⟨rfl, rfl⟩ | ⟨x, r, x', r', rfl, rfl, h2, hr⟩
  · exact sSim.none
  · skip
    dsimp only
    cases ht : Nat.beq x.1 2 with
    | true =>
      have e := sRef2 ht h2
      subst e
      first | exact hK _ _ _ _ _ _ _ _ hcs hlv hr hlh | (simp only [fNth_eq, fSet_eq, fSnoc_eq, fLen_eq, fNat_eq, fV_eq, fFilt_eq, cond_true]; exact hK _ _ _ _ _ _ _ _ hcs hlv hr hlh)
    | false =>
      dsimp only [cond_false]
      cases ht3 : Nat.beq x.1 3 with
      | false => exact sSim.none
      | true =>
        have e := sRef3 ht3 h2
        subst e
        first | exact hK _ _ _ _ _ _ _ _ hcs hlv hr hlh | (simp only [fNth_eq, fSet_eq, fSnoc_eq, fLen_eq, fNat_eq, fV_eq, fFilt_eq, cond_true]; exact hK _ _ _ _ _ _ _ _ hcs hlv hr hlh)
theorem ss_ifnonnull (hK : ∀ (cs : sI) (pc : Nat) (lv : sL) (lv' : gL) (st : List sV) (st' : List Value) (lh : sH) (lh' : gH), sOK ρ cs → sRL ρ lv lv' → sRS ρ st st' → sRH ρ lh lh' → sSim ρ (sK cs pc lv st lh) (K pc lv' st' lh')) (hcs : sOK ρ cs) (hlv : sRL ρ lv lv') (hst : sRS ρ st st') (hlh : sRH ρ lh lh')  : sSim ρ (sI_null sK cs lv st lh (pc + 3) a) (gI_ifnonnull K pc a lv' st' lh') := by
  unfold sI_null
  rcases gF2.cases hst with ⟨rfl, rfl⟩ | ⟨x, r, x', r', rfl, rfl, h2, hr⟩
  · exact sSim.none
  · skip
    dsimp only
    cases ht : Nat.beq x.1 2 with
    | true =>
      have e := sRef2 ht h2
      subst e
      first | exact hK _ _ _ _ _ _ _ _ hcs hlv hr hlh | (simp only [fNth_eq, fSet_eq, fSnoc_eq, fLen_eq, fNat_eq, fV_eq, fFilt_eq, cond_true]; exact hK _ _ _ _ _ _ _ _ hcs hlv hr hlh)
    | false =>
      dsimp only [cond_false]
      cases ht3 : Nat.beq x.1 3 with
      | false => exact sSim.none
      | true =>
        have e := sRef3 ht3 h2
        subst e
        first | exact hK _ _ _ _ _ _ _ _ hcs hlv hr hlh | (simp only [fNth_eq, fSet_eq, fSnoc_eq, fLen_eq, fNat_eq, fV_eq, fFilt_eq, cond_true]; exact hK _ _ _ _ _ _ _ _ hcs hlv hr hlh)
theorem sGo_ok {ρ : Nat → Int32} {pc : Nat} {off : Int} {k : Nat → Option (List sLf)} {k' : Nat → Option gO} (h : ∀ t, sSim ρ (k t) (k' t)) : sSim ρ (sGo pc off k) (bif decide (0 ≤ (pc : Int) + off) then k' ((pc : Int) + off).toNat else none) := by
  unfold sGo
  cases decide (0 ≤ (pc : Int) + off) with
  | false => exact sSim.none
  | true => exact h _
theorem ss_table (hK : ∀ (cs : sI) (pc : Nat) (lv : sL) (lv' : gL) (st : List sV) (st' : List Value) (lh : sH) (lh' : gH), sOK ρ cs → sRL ρ lv lv' → sRS ρ st st' → sRH ρ lh lh' → sSim ρ (sK cs pc lv st lh) (K pc lv' st' lh')) (hcs : sOK ρ cs) (hlv : sRL ρ lv lv') (hst : sRS ρ st st') (hlh : sRH ρ lh lh') {dflt lo hi : Int} {offs : Array Int} : sSim ρ (sI_table sK cs pc lv st lh dflt lo hi offs) (gI_table K pc lv' st' lh' dflt lo hi offs) := by
  unfold sI_table
  rcases gF2.cases hst with ⟨rfl, rfl⟩ | ⟨x, r, x', r', rfl, rfl, h2, hr⟩
  · exact sSim.none
  · skip
    dsimp only
    cases ht : (sIsI x && (decide ((Int32.ofInt lo).toInt = lo) && decide ((Int32.ofInt hi).toInt = hi))) with
    | false => exact sSim.none
    | true =>
      rw [Bool.and_eq_true, Bool.and_eq_true, decide_eq_true_eq, decide_eq_true_eq] at ht
      obtain ⟨ht, hlo, hhi⟩ := ht
      dsimp only [cond_true]
      obtain ⟨x1, rfl, g3⟩ := sInt hcs ht h2
      have hg : gI_table K pc lv' (.int x1 :: r') lh' dflt lo hi offs = (bif gCmp .lt x1 (Int32.ofInt lo) then (bif decide (0 ≤ (pc : Int) + dflt) then K ((pc : Int) + dflt).toNat lv' r' lh' else none) else bif gCmp .gt x1 (Int32.ofInt hi) then (bif decide (0 ≤ (pc : Int) + dflt) then K ((pc : Int) + dflt).toNat lv' r' lh' else none) else (match offs[(x1.toInt - lo).toNat]? with
          | some off => bif decide (0 ≤ (pc : Int) + off) then K ((pc : Int) + off).toNat lv' r' lh' else none
          | none => none)) := by
        have e1 : gCmp .lt x1 (Int32.ofInt lo) = decide (x1.toInt < lo) := by
          exact decide_eq_decide.mpr (by rw [Int32.lt_iff_toInt_lt, hlo])
        have e2 : gCmp .gt x1 (Int32.ofInt hi) = decide (hi < x1.toInt) := by
          exact decide_eq_decide.mpr (by rw [Int32.lt_iff_toInt_lt, hhi])
        rw [e1, e2]
        unfold gI_table
        dsimp only
        cases decide (x1.toInt < lo) <;> cases decide (hi < x1.toInt) <;> rfl
      rw [hg]
      have hK0 : ∀ t : Nat, ∀ cs, sOK ρ cs → sSim ρ (sK cs t lv r lh) (K t lv' r' lh') := fun t cs hcs => hK _ _ _ _ _ _ _ _ hcs hlv hr hlh
      have hc0 : ∀ (cs : sI) (n : Int), (Int32.ofInt n).toInt = n → (sIv cs (sK0 n)).1 ≤ (Int32.ofInt n).toInt ∧ (Int32.ofInt n).toInt ≤ (sIv cs (sK0 n)).2 ∧ (Nat.ble 10 (sK0 n).1 = true → ρ ((sK0 n).1 - 10) = Int32.ofInt n) := fun cs n hn => by
        refine ⟨?_, ?_, fun z => by cases z⟩
        · show n ≤ _
          rw [hn]
          exact Int.le_refl _
        · show _ ≤ n
          rw [hn]
          exact Int.le_refl _
      have hx2 : ∀ cs, sOK ρ cs → (sIv cs x).1 ≤ x1.toInt ∧ x1.toInt ≤ (sIv cs x).2 ∧ (Nat.ble 10 x.1 = true → ρ (x.1 - 10) = x1) := fun cs hcs => by
        obtain ⟨x2, e, q⟩ := sInt hcs ht h2
        cases e
        exact q
      refine sBr_ok hcs g3 (hc0 cs lo hlo) (fun _ cs hcs => sGo_ok fun t => hK0 t cs hcs) (fun hq1 cs1 hcs1 => ?_)
      refine sBr_ok hcs1 (hx2 cs1 hcs1) (hc0 cs1 hi hhi) (fun _ cs hcs => sGo_ok fun t => hK0 t cs hcs) (fun hq2 cs2 hcs2 => ?_)
      have hb1 : ¬ x1.toInt < lo := fun z => by
        have h9 : gCmp .lt x1 (Int32.ofInt lo) = true := gCmp_iff.mpr (by show x1.toInt < _; rw [hlo]; exact z)
        rw [h9] at hq1
        cases hq1
      have hb2 : ¬ hi < x1.toInt := fun z => by
        have h9 : gCmp .gt x1 (Int32.ofInt hi) = true := gCmp_iff.mpr (by show _ < x1.toInt; rw [hhi]; exact z)
        rw [h9] at hq2
        cases hq2
      rw [decide_eq_true (show lo ≤ hi by omega)]
      dsimp only [cond_true]
      refine sEach_ok hcs2 (hx2 cs2 hcs2).2.2 (fun cs3 hcs3 => ?_) _ _ (by omega) (by omega)
      have h8 := hx2 cs2 hcs2
      rw [decide_eq_false (show ¬ (sIv cs2 x).2 < x1.toInt by omega), decide_eq_false (show ¬ x1.toInt < (sIv cs2 x).1 by omega)]
      show sSim ρ (match offs[(x1.toInt - lo).toNat]? with
        | some off => _
        | none => none) _
      cases offs[(x1.toInt - lo).toNat]? with
      | none => exact sSim.none
      | some off => exact sGo_ok fun t => hK0 t cs3 hcs3
def gFD : FieldType → Bool
  | .float => true
  | .double => true
  | _ => false
theorem gFD_ok {ty : FieldType} (h : gFD ty = false) : ty ≠ .float ∧ ty ≠ .double := by
  constructor
  · intro e
    rw [e] at h
    cases h
  · intro e
    rw [e] at h
    cases h
theorem gYt_fd (a j : Nat) : gFD (gYt a j) = false := by
  unfold gYt
  split <;> (first | unfold gY0 | unfold gY1 | unfold gY2 | unfold gY3 | unfold gY4 | unfold gY5 | unfold gY6 | unfold gY7 | unfold gY8 | unfold gY9 | unfold gY10 | unfold gY11 | unfold gY12 | unfold gY13) <;> split <;> rfl
theorem gYt_ok (a j : Nat) : gYt a j ≠ .float ∧ gYt a j ≠ .double := gFD_ok (gYt_fd a j)
theorem gTy_ok (a : Nat) : gTy a ≠ .float ∧ gTy a ≠ .double := gFD_ok (by unfold gTy; split <;> rfl)
theorem sObj {ρ : Nat → Int32} {c : sC} {c' : gC} (h : sRC ρ c c') (hc : c.1 < 100) : ∃ f, c' = .inl (c.1, f) ∧ ∀ j, sRel ρ (sGet c j) (f j) := by
  cases c' with
  | inl o => exact ⟨o.2, by rw [← h.2.1], h.2.2⟩
  | inr y => exact absurd h.1 (by omega)
theorem sArr {ρ : Nat → Int32} {c : sC} {c' : gC} (h : sRC ρ c c') (hc : 100 ≤ c.1) (hn : c.2.1 ≤ 65536) : ∃ f, c' = .inr (c.1 - 100, c.2.1, f) ∧ ∀ j, sRel ρ (sGet c j) (f j) := by
  cases c' with
  | inl o => exact absurd h.1 (by omega)
  | inr y =>
    have h2 := h.2.2
    rw [if_pos hn] at h2
    exact ⟨y.2.2, by rw [← h.2.1, ← h2.1], h2.2⟩
theorem sFit_ok {ρ : Nat → Int32} {cs : sI} (hcs : sOK ρ cs) {ty : FieldType} {v : sV} {w : Value} (h : sFit cs ty v = true) (hw : sRel ρ v w) : gFit ty w = true := by
  unfold sFit at h
  split at h
  · obtain ⟨x, rfl, -⟩ := sLong h hw
    exact gFit_l x
  · rcases sRefA h hw with rfl | ⟨i, rfl⟩
    · rfl
    · unfold gFit
      rw [Bool.and_eq_true]
      exact ⟨decide_eq_true rfl, rfl⟩
  · rcases sRefA h hw with rfl | ⟨i, rfl⟩
    · rfl
    · unfold gFit
      rw [Bool.and_eq_true]
      exact ⟨decide_eq_true rfl, rfl⟩
  · rw [Bool.and_eq_true] at h
    obtain ⟨x, rfl, h1, h2, -⟩ := sInt hcs h.1 hw
    have h3 := h.2
    unfold sFitI at h3
    split at h3
    · unfold gFit
      rw [Bool.and_eq_true]
      exact ⟨decide_eq_true rfl, rfl⟩
    · rw [Bool.and_eq_true, decide_eq_true_eq, decide_eq_true_eq] at h3
      rcases (show x.toInt = (0 : Int32).toInt ∨ x.toInt = (1 : Int32).toInt by
        rw [show (0 : Int32).toInt = 0 from rfl, show (1 : Int32).toInt = 1 from rfl]
        omega) with e | e
      · rw [Int32.toInt_inj.mp e]
        decide
      · rw [Int32.toInt_inj.mp e]
        decide
    · cases h3
theorem sFitI_nar {ty : FieldType} {X : Int × Int} {x : Int32} (h : (sFitI ty X || (sOne X && decide (narrow ty (.int (Int32.ofInt X.1)) = .int (Int32.ofInt X.1)))) = true) (h1 : X.1 ≤ x.toInt) (h2 : x.toInt ≤ X.2) : narrow ty (.int x) = .int x := by
  rw [Bool.or_eq_true] at h
  rcases h with h | h
  · unfold sFitI at h
    split at h
    · rfl
    · rw [Bool.and_eq_true, decide_eq_true_eq, decide_eq_true_eq] at h
      rcases (show x.toInt = (0 : Int32).toInt ∨ x.toInt = (1 : Int32).toInt by
        rw [show (0 : Int32).toInt = 0 from rfl, show (1 : Int32).toInt = 1 from rfl]
        omega) with e | e
      · rw [Int32.toInt_inj.mp e]
        decide
      · rw [Int32.toInt_inj.mp e]
        decide
    · cases h
  · rw [Bool.and_eq_true, decide_eq_true_eq] at h
    rw [sOne_ok h.1 h1 h2] at h
    exact h.2
theorem ss_get (hK : ∀ (cs : sI) (pc : Nat) (lv : sL) (lv' : gL) (st : List sV) (st' : List Value) (lh : sH) (lh' : gH), sOK ρ cs → sRL ρ lv lv' → sRS ρ st st' → sRH ρ lh lh' → sSim ρ (sK cs pc lv st lh) (K pc lv' st' lh')) (hcs : sOK ρ cs) (hlv : sRL ρ lv lv') (hst : sRS ρ st st') (hlh : sRH ρ lh lh')  : sSim ρ (sI_get sK cs pc a b lv st lh) (gI_get K pc a b lv' st' lh') := by
  unfold sI_get
  rcases gF2.cases hst with ⟨rfl, rfl⟩ | ⟨x, r, x', r', rfl, rfl, h2, hr⟩
  · exact sSim.none
  dsimp only
  cases ht : Nat.beq x.1 3 with
  | false => exact sSim.none
  | true =>
    have e := sRef3 ht h2
    subst e
    dsimp only [cond_true]
    (try simp only [fNth_eq])
    cases ho : lh[x.2.1.toNat]? with
    | none => exact sSim.none
    | some ob =>
      dsimp only
      cases hq : (Nat.beq ob.1 a && Nat.blt a 100) with
      | false => exact sSim.none
      | true =>
        rw [Bool.and_eq_true] at hq
        have ha : ob.1 = a := Nat.eq_of_beq_eq_true hq.1
        have hl : a < 100 := Nat.blt_eq.mp hq.2
        obtain ⟨c', g1, g2⟩ := sRH_at hlh ho
        obtain ⟨f, rfl, g3⟩ := sObj g2 (by omega)
        unfold gI_get
        dsimp only
        rw [g1]
        dsimp only
        rw [hq.1]
        first | exact hK _ _ _ _ _ _ _ _ hcs hlv ⟨g3 b, hr⟩ hlh | (simp only [fNth_eq, fSet_eq, fSnoc_eq, fLen_eq, fNat_eq, fV_eq, fFilt_eq, cond_true]; exact hK _ _ _ _ _ _ _ _ hcs hlv ⟨g3 b, hr⟩ hlh)
theorem ss_put (hK : ∀ (cs : sI) (pc : Nat) (lv : sL) (lv' : gL) (st : List sV) (st' : List Value) (lh : sH) (lh' : gH), sOK ρ cs → sRL ρ lv lv' → sRS ρ st st' → sRH ρ lh lh' → sSim ρ (sK cs pc lv st lh) (K pc lv' st' lh')) (hcs : sOK ρ cs) (hlv : sRL ρ lv lv') (hst : sRS ρ st st') (hlh : sRH ρ lh lh')  : sSim ρ (sI_put sK cs pc a b lv st lh) (gI_put K pc a b lv' st' lh') := by
  unfold sI_put
  rcases gF2.cases hst with ⟨rfl, rfl⟩ | ⟨w, r0, w', r0', rfl, rfl, h3, hr0⟩
  · exact sSim.none
  rcases gF2.cases hr0 with ⟨rfl, rfl⟩ | ⟨x, r, x', r', rfl, rfl, h2, hr⟩
  · exact sSim.none
  dsimp only
  cases ht : Nat.beq x.1 3 with
  | false => exact sSim.none
  | true =>
    have e := sRef3 ht h2
    subst e
    dsimp only [cond_true]
    (try simp only [fNth_eq])
    cases ho : lh[x.2.1.toNat]? with
    | none => exact sSim.none
    | some ob =>
      dsimp only
      cases hq : ((Nat.beq ob.1 a && Nat.blt a 100) && (sFit cs (gYt a b) w && Nat.ble 7 x.2.1.toNat)) with
      | false => exact sSim.none
      | true =>
        rw [Bool.and_eq_true, Bool.and_eq_true, Bool.and_eq_true] at hq
        have ha : ob.1 = a := Nat.eq_of_beq_eq_true hq.1.1
        have hl : a < 100 := Nat.blt_eq.mp hq.1.2
        obtain ⟨c', g1, g2⟩ := sRH_at hlh ho
        obtain ⟨f, rfl, g3⟩ := sObj g2 (by omega)
        unfold gI_put
        dsimp only
        rw [g1]
        dsimp only
        rw [hq.1.1, sFit_ok hcs hq.2.1 h3, hq.2.2]
        first | exact hK _ _ _ _ _ _ _ _ hcs hlv hr (sRH_set (c := sPut ob b w) (c' := .inl (ob.1, gup f b w')) ⟨by show ob.1 < 100; omega, rfl, sPut_ok g3 h3⟩ hlh) | (simp only [fNth_eq, fSet_eq, fSnoc_eq, fLen_eq, fNat_eq, fV_eq, fFilt_eq, cond_true]; exact hK _ _ _ _ _ _ _ _ hcs hlv hr (sRH_set (c := sPut ob b w) (c' := .inl (ob.1, gup f b w')) ⟨by show ob.1 < 100; omega, rfl, sPut_ok g3 h3⟩ hlh))
theorem ss_gets (hK : ∀ (cs : sI) (pc : Nat) (lv : sL) (lv' : gL) (st : List sV) (st' : List Value) (lh : sH) (lh' : gH), sOK ρ cs → sRL ρ lv lv' → sRS ρ st st' → sRH ρ lh lh' → sSim ρ (sK cs pc lv st lh) (K pc lv' st' lh')) (hcs : sOK ρ cs) (hlv : sRL ρ lv lv') (hst : sRS ρ st st') (hlh : sRH ρ lh lh')  : sSim ρ (sI_gets sK cs pc a lv st lh) (gI_gets K pc a lv' st' lh') := by
  unfold sI_gets gI_gets
  cases Nat.beq a 0 with
  | true => first | exact hK _ _ _ _ _ _ _ _ hcs hlv ⟨sK0_ok (x := 1), hst⟩ hlh | (simp only [fNth_eq, fSet_eq, fSnoc_eq, fLen_eq, fNat_eq, fV_eq, fFilt_eq, cond_true]; exact hK _ _ _ _ _ _ _ _ hcs hlv ⟨sK0_ok (x := 1), hst⟩ hlh)
  | false => first | exact hK _ _ _ _ _ _ _ _ hcs hlv ⟨rfl, hst⟩ hlh | (simp only [fNth_eq, fSet_eq, fSnoc_eq, fLen_eq, fNat_eq, fV_eq, fFilt_eq, cond_true]; exact hK _ _ _ _ _ _ _ _ hcs hlv ⟨rfl, hst⟩ hlh)
theorem ss_new (hK : ∀ (cs : sI) (pc : Nat) (lv : sL) (lv' : gL) (st : List sV) (st' : List Value) (lh : sH) (lh' : gH), sOK ρ cs → sRL ρ lv lv' → sRS ρ st st' → sRH ρ lh lh' → sSim ρ (sK cs pc lv st lh) (K pc lv' st' lh')) (hcs : sOK ρ cs) (hlv : sRL ρ lv lv') (hst : sRS ρ st st') (hlh : sRH ρ lh lh')  : sSim ρ (sI_new sK cs pc a lv st lh) (gI_new K pc a lv' st' lh') := by
  unfold sI_new gI_new
  cases hq : Nat.blt a 100 with
  | false => exact sSim.none
  | true =>
    (try simp only [fNth_eq, fSet_eq, fSnoc_eq, fLen_eq, fNat_eq, fV_eq, fFilt_eq, cond_true])
    refine hK _ _ _ _ _ _ _ _ hcs hlv ⟨by rw [← sRH_len hlh]; rfl, hst⟩ (sRH_push (c := (a, 0, [])) (c' := .inl (a, fun j => defaultValue (gYt a j))) ⟨Nat.blt_eq.mp hq, rfl, fun j => ?_⟩ hlh)
    show sRel ρ (sDf a j) _
    unfold sDf
    rw [hq]
    exact sZ_ok (gYt_ok a j).1 (gYt_ok a j).2
theorem ss_newa (hK : ∀ (cs : sI) (pc : Nat) (lv : sL) (lv' : gL) (st : List sV) (st' : List Value) (lh : sH) (lh' : gH), sOK ρ cs → sRL ρ lv lv' → sRS ρ st st' → sRH ρ lh lh' → sSim ρ (sK cs pc lv st lh) (K pc lv' st' lh')) (hcs : sOK ρ cs) (hlv : sRL ρ lv lv') (hst : sRS ρ st st') (hlh : sRH ρ lh lh') {n : Nat} : sSim ρ (sI_newa sK cs pc a lv st lh n) (gI_newa K pc a lv' st' lh' n) := by
  unfold sI_newa
  rcases gF2.cases hst with ⟨rfl, rfl⟩ | ⟨x, r, x', r', rfl, rfl, h2, hr⟩
  · exact sSim.none
  · skip
    dsimp only
    cases ht : (sIsI x && (sOne (sIv cs x) && (decide (0 ≤ (sIv cs x).1) && decide ((sIv cs x).1 ≤ 65536)))) with
    | false => exact sSim.none
    | true =>
      rw [Bool.and_eq_true, Bool.and_eq_true, Bool.and_eq_true, decide_eq_true_eq, decide_eq_true_eq] at ht
      obtain ⟨hi, h1, h3, h4⟩ := ht
      obtain ⟨x1, rfl, g3, g4, -⟩ := sInt hcs hi h2
      have e : (sIv cs x).1 = (sIv cs x).2 := of_decide_eq_true h1
      have e1 : (sIv cs x).1 = x1.toInt := by omega
      have hz : ¬ x1 < 0 := by rw [Int32.lt_iff_toInt_lt, show (0 : Int32).toInt = 0 from rfl]; omega
      have hc : x1.toNatClampNeg = x1.toInt.toNat := rfl
      unfold gI_newa
      dsimp only
      rw [decide_eq_false hz, show Nat.ble x1.toNatClampNeg 65536 = true from Nat.ble_eq.mpr (by rw [hc]; omega)]
      (try simp only [fNth_eq, fSet_eq, fSnoc_eq, fLen_eq, fNat_eq, fV_eq, fFilt_eq, cond_true])
      refine hK _ _ _ _ _ _ _ _ hcs hlv ⟨by rw [← sRH_len hlh]; rfl, hr⟩ (sRH_push (c := (100 + a, (sIv cs x).1.toNat, [])) (c' := .inr (a, x1.toNatClampNeg, fun _ => defaultValue (gTy a))) (sRC_row (Nat.le_add_right _ _) (by show a = 100 + a - 100; omega) (by rw [e1]; rfl) (fun j => ?_) (by show (sIv cs x).1.toNat ≤ 65536; omega)) hlh)
      show sRel ρ (sDf (100 + a) j) _
      unfold sDf
      rw [show Nat.blt (100 + a) 100 = false from by
        cases hq : Nat.blt (100 + a) 100 with
        | false => rfl
        | true => have := Nat.blt_eq.mp hq; omega, Nat.add_sub_cancel_left]
      exact sZ_ok (gTy_ok a).1 (gTy_ok a).2

theorem ss_len (hK : ∀ (cs : sI) (pc : Nat) (lv : sL) (lv' : gL) (st : List sV) (st' : List Value) (lh : sH) (lh' : gH), sOK ρ cs → sRL ρ lv lv' → sRS ρ st st' → sRH ρ lh lh' → sSim ρ (sK cs pc lv st lh) (K pc lv' st' lh')) (hcs : sOK ρ cs) (hlv : sRL ρ lv lv') (hst : sRS ρ st st') (hlh : sRH ρ lh lh')  : sSim ρ (sI_len sK cs pc lv st lh) (gI_len K pc lv' st' lh') := by
  unfold sI_len
  rcases gF2.cases hst with ⟨rfl, rfl⟩ | ⟨x, r, x', r', rfl, rfl, h2, hr⟩
  · exact sSim.none
  dsimp only
  cases ht : Nat.beq x.1 3 with
  | false => exact sSim.none
  | true =>
    have e := sRef3 ht h2
    subst e
    dsimp only [cond_true]
    (try simp only [fNth_eq])
    cases ho : lh[x.2.1.toNat]? with
    | none => exact sSim.none
    | some ob =>
      dsimp only
      cases hq : (Nat.ble 100 ob.1 && Nat.ble ob.2.1 65536) with
      | false => exact sSim.none
      | true =>
        rw [Bool.and_eq_true] at hq
        have hn := Nat.le_of_ble_eq_true hq.2
        obtain ⟨c', g1, g2⟩ := sRH_at hlh ho
        obtain ⟨f, rfl, g3⟩ := sArr g2 (Nat.le_of_ble_eq_true hq.1) (Nat.le_of_ble_eq_true hq.2)
        unfold gI_len
        dsimp only
        rw [g1]
        (try simp only [fNth_eq, fSet_eq, fSnoc_eq, fLen_eq, fNat_eq, fV_eq, fFilt_eq, cond_true])
        refine hK _ _ _ _ _ _ _ _ hcs hlv ⟨?_, hr⟩ hlh
        have e : (Int32.ofNat ob.2.1).toInt = (ob.2.1 : Int) := Int32.toInt_ofNat_of_lt (by omega)
        exact ⟨_, rfl, by show (ob.2.1 : Int) ≤ _; rw [e]; exact Int.le_refl _, by show _ ≤ (ob.2.1 : Int); rw [e]; exact Int.le_refl _⟩
theorem ss_ald (hK : ∀ (cs : sI) (pc : Nat) (lv : sL) (lv' : gL) (st : List sV) (st' : List Value) (lh : sH) (lh' : gH), sOK ρ cs → sRL ρ lv lv' → sRS ρ st st' → sRH ρ lh lh' → sSim ρ (sK cs pc lv st lh) (K pc lv' st' lh')) (hcs : sOK ρ cs) (hlv : sRL ρ lv lv') (hst : sRS ρ st st') (hlh : sRH ρ lh lh') {t : Nat → Bool} : sSim ρ (sI_ald sK cs pc lv st lh t) (gI_ald K pc lv' st' lh' t) := by
  unfold sI_ald
  rcases gF2.cases hst with ⟨rfl, rfl⟩ | ⟨i, r0, i', r0', rfl, rfl, h3, hr0⟩
  · exact sSim.none
  rcases gF2.cases hr0 with ⟨rfl, rfl⟩ | ⟨x, r, x', r', rfl, rfl, h2, hr⟩
  · exact sSim.none
  dsimp only
  cases ht : (Nat.beq x.1 3 && sIsI i) with
  | false => exact sSim.none
  | true =>
    rw [Bool.and_eq_true] at ht
    have e := sRef3 ht.1 h2
    subst e
    obtain ⟨x1, rfl, gx⟩ := sInt hcs ht.2 h3
    dsimp only [cond_true]
    (try simp only [fNth_eq])
    cases ho : lh[x.2.1.toNat]? with
    | none => exact sSim.none
    | some ob =>
      dsimp only
      cases hq : ((Nat.ble 100 ob.1 && t (ob.1 - 100)) && Nat.ble ob.2.1 65536) with
      | false => exact sSim.none
      | true =>
        rw [Bool.and_eq_true, Bool.and_eq_true] at hq
        obtain ⟨c', g1, g2⟩ := sRH_at hlh ho
        obtain ⟨f, rfl, g3⟩ := sArr g2 (Nat.le_of_ble_eq_true hq.1.1) (Nat.le_of_ble_eq_true hq.2)
        unfold gI_ald
        dsimp only [cond_true]
        rw [g1]
        dsimp only
        refine sIdx_ok hcs gx (fun hin hcl cs2 hcs2 => ?_)
        rw [hq.1.2, hin, hcl]
        first | exact hK _ _ _ _ _ _ _ _ hcs2 hlv ⟨g3 _, hr⟩ hlh | (simp only [fNth_eq, fSet_eq, fSnoc_eq, fLen_eq, fNat_eq, fV_eq, fFilt_eq, cond_true]; exact hK _ _ _ _ _ _ _ _ hcs2 hlv ⟨g3 _, hr⟩ hlh)
theorem sNar_ok {ρ : Nat → Int32} {t : Nat} {X : Int × Int} {x : Int32} (ht : t = 2 ∨ t = 3) (h : X.1 ≤ x.toInt ∧ x.toInt ≤ X.2) : sRel ρ (sNar t X) (narrow (gTy t) (.int x)) := by
  rcases ht with rfl | rfl
  · show sRel ρ (bif sOne X then sK0 _ else _) (.int x.toInt8.toInt32)
    cases h1 : sOne X with
    | true =>
      show sRel ρ (sK0 _) _
      rw [sOne_ok h1 h.1 h.2]
      exact sK0_ok
    | false =>
      have e : x.toInt8.toInt32.toInt = x.toInt8.toInt := Int8.toInt_toInt32 _
      have h8 := x.toInt8.le_toInt
      have h9 := x.toInt8.toInt_lt
      exact ⟨x.toInt8.toInt32, rfl, by show (-128 : Int) ≤ x.toInt8.toInt32.toInt; rw [e]; omega, by show x.toInt8.toInt32.toInt ≤ (127 : Int); rw [e]; omega⟩
  · show sRel ρ (bif sOne X then sK0 _ else _) (.int (x &&& 1))
    cases h1 : sOne X with
    | true =>
      show sRel ρ (sK0 _) _
      rw [sOne_ok h1 h.1 h.2]
      exact sK0_ok
    | false =>
      have h9 := sAnd_core (x := x) (y := 1) (by decide)
      exact ⟨_, rfl, h9.1, h9.2⟩
theorem ss_ist (hK : ∀ (cs : sI) (pc : Nat) (lv : sL) (lv' : gL) (st : List sV) (st' : List Value) (lh : sH) (lh' : gH), sOK ρ cs → sRL ρ lv lv' → sRS ρ st st' → sRH ρ lh lh' → sSim ρ (sK cs pc lv st lh) (K pc lv' st' lh')) (hcs : sOK ρ cs) (hlv : sRL ρ lv lv') (hst : sRS ρ st st') (hlh : sRH ρ lh lh') {t : Nat → Bool} {gs : Nat → sV → sV} {gg : Nat → Int32 → Value} (hg : ∀ (k : Nat) (w : sV) (x : Int32), t k = true → sRel ρ w (.int x) → ((sIv cs w).1 ≤ x.toInt ∧ x.toInt ≤ (sIv cs w).2) → sRel ρ (gs k w) (gg k x)) : sSim ρ (sI_ist sK cs pc lv st lh t gs) (gI_ist K pc lv' st' lh' t gg) := by
  unfold sI_ist
  rcases gF2.cases hst with ⟨rfl, rfl⟩ | ⟨w, r1, w', r1', rfl, rfl, h4, hr1⟩
  · exact sSim.none
  rcases gF2.cases hr1 with ⟨rfl, rfl⟩ | ⟨i, r0, i', r0', rfl, rfl, h3, hr0⟩
  · exact sSim.none
  rcases gF2.cases hr0 with ⟨rfl, rfl⟩ | ⟨x, r, x', r', rfl, rfl, h2, hr⟩
  · exact sSim.none
  dsimp only
  cases ht : (Nat.beq x.1 3 && (sIsI i && sIsI w)) with
  | false => exact sSim.none
  | true =>
    rw [Bool.and_eq_true, Bool.and_eq_true] at ht
    have e := sRef3 ht.1 h2
    subst e
    obtain ⟨x1, rfl, gx⟩ := sInt hcs ht.2.1 h3
    obtain ⟨w1, rfl, gw⟩ := sInt hcs ht.2.2 h4
    dsimp only [cond_true]
    (try simp only [fNth_eq])
    cases ho : lh[x.2.1.toNat]? with
    | none => exact sSim.none
    | some ob =>
      dsimp only
      cases hq : ((Nat.ble 100 ob.1 && t (ob.1 - 100)) && (Nat.ble ob.2.1 65536 && Nat.ble 7 x.2.1.toNat)) with
      | false => exact sSim.none
      | true =>
        rw [Bool.and_eq_true, Bool.and_eq_true, Bool.and_eq_true] at hq
        have h100 := Nat.le_of_ble_eq_true hq.1.1
        obtain ⟨c', g1, g2⟩ := sRH_at hlh ho
        obtain ⟨f, rfl, g3⟩ := sArr g2 h100 (Nat.le_of_ble_eq_true hq.2.1)
        unfold gI_ist
        dsimp only [cond_true]
        rw [g1]
        dsimp only
        refine sIdx_ok hcs gx (fun hin hcl cs2 hcs2 => ?_)
        rw [hq.1.2, hin, hq.2.2, hcl]
        first | exact hK _ _ _ _ _ _ _ _ hcs2 hlv hr (sRH_set (c := sPut ob x1.toNatClampNeg (gs (ob.1 - 100) w)) (c' := .inr (ob.1 - 100, ob.2.1, gup f x1.toNatClampNeg (gg (ob.1 - 100) w1))) (sRC_row h100 rfl rfl (sPut_ok g3 (hg _ _ _ hq.1.2 h4 ⟨gw.1, gw.2.1⟩)) (Nat.le_of_ble_eq_true hq.2.1)) hlh) | (simp only [fNth_eq, fSet_eq, fSnoc_eq, fLen_eq, fNat_eq, fV_eq, fFilt_eq, cond_true]; exact hK _ _ _ _ _ _ _ _ hcs2 hlv hr (sRH_set (c := sPut ob x1.toNatClampNeg (gs (ob.1 - 100) w)) (c' := .inr (ob.1 - 100, ob.2.1, gup f x1.toNatClampNeg (gg (ob.1 - 100) w1))) (sRC_row h100 rfl rfl (sPut_ok g3 (hg _ _ _ hq.1.2 h4 ⟨gw.1, gw.2.1⟩)) (Nat.le_of_ble_eq_true hq.2.1)) hlh))
theorem ss_last (hK : ∀ (cs : sI) (pc : Nat) (lv : sL) (lv' : gL) (st : List sV) (st' : List Value) (lh : sH) (lh' : gH), sOK ρ cs → sRL ρ lv lv' → sRS ρ st st' → sRH ρ lh lh' → sSim ρ (sK cs pc lv st lh) (K pc lv' st' lh')) (hcs : sOK ρ cs) (hlv : sRL ρ lv lv') (hst : sRS ρ st st') (hlh : sRH ρ lh lh')  : sSim ρ (sI_last sK cs pc lv st lh) (gI_last K pc lv' st' lh') := by
  unfold sI_last
  rcases gF2.cases hst with ⟨rfl, rfl⟩ | ⟨w, r1, w', r1', rfl, rfl, h4, hr1⟩
  · exact sSim.none
  rcases gF2.cases hr1 with ⟨rfl, rfl⟩ | ⟨i, r0, i', r0', rfl, rfl, h3, hr0⟩
  · exact sSim.none
  rcases gF2.cases hr0 with ⟨rfl, rfl⟩ | ⟨x, r, x', r', rfl, rfl, h2, hr⟩
  · exact sSim.none
  dsimp only
  cases ht : (Nat.beq x.1 3 && (sIsI i && sIsL w)) with
  | false => exact sSim.none
  | true =>
    rw [Bool.and_eq_true, Bool.and_eq_true] at ht
    have e := sRef3 ht.1 h2
    subst e
    obtain ⟨x1, rfl, gx⟩ := sInt hcs ht.2.1 h3
    obtain ⟨w1, rfl, gw⟩ := sLong ht.2.2 h4
    dsimp only [cond_true]
    (try simp only [fNth_eq])
    cases ho : lh[x.2.1.toNat]? with
    | none => exact sSim.none
    | some ob =>
      dsimp only
      cases hq : ((Nat.ble 100 ob.1 && Nat.beq (ob.1 - 100) 1) && (Nat.ble ob.2.1 65536 && Nat.ble 7 x.2.1.toNat)) with
      | false => exact sSim.none
      | true =>
        rw [Bool.and_eq_true, Bool.and_eq_true, Bool.and_eq_true] at hq
        have h100 := Nat.le_of_ble_eq_true hq.1.1
        obtain ⟨c', g1, g2⟩ := sRH_at hlh ho
        obtain ⟨f, rfl, g3⟩ := sArr g2 h100 (Nat.le_of_ble_eq_true hq.2.1)
        unfold gI_last
        dsimp only [cond_true]
        rw [g1]
        dsimp only
        refine sIdx_ok hcs gx (fun hin hcl cs2 hcs2 => ?_)
        rw [hq.1.2, hin, hq.2.2, hcl]
        first | exact hK _ _ _ _ _ _ _ _ hcs2 hlv hr (sRH_set (c := sPut ob x1.toNatClampNeg (w)) (c' := .inr (ob.1 - 100, ob.2.1, gup f x1.toNatClampNeg (.long w1))) (sRC_row h100 rfl rfl (sPut_ok g3 h4) (Nat.le_of_ble_eq_true hq.2.1)) hlh) | (simp only [fNth_eq, fSet_eq, fSnoc_eq, fLen_eq, fNat_eq, fV_eq, fFilt_eq, cond_true]; exact hK _ _ _ _ _ _ _ _ hcs2 hlv hr (sRH_set (c := sPut ob x1.toNatClampNeg (w)) (c' := .inr (ob.1 - 100, ob.2.1, gup f x1.toNatClampNeg (.long w1))) (sRC_row h100 rfl rfl (sPut_ok g3 h4) (Nat.le_of_ble_eq_true hq.2.1)) hlh))
theorem ss_aast (hK : ∀ (cs : sI) (pc : Nat) (lv : sL) (lv' : gL) (st : List sV) (st' : List Value) (lh : sH) (lh' : gH), sOK ρ cs → sRL ρ lv lv' → sRS ρ st st' → sRH ρ lh lh' → sSim ρ (sK cs pc lv st lh) (K pc lv' st' lh')) (hcs : sOK ρ cs) (hlv : sRL ρ lv lv') (hst : sRS ρ st st') (hlh : sRH ρ lh lh')  : sSim ρ (sI_aast sK cs pc lv st lh) (gI_aast K pc lv' st' lh') := by
  unfold sI_aast
  rcases gF2.cases hst with ⟨rfl, rfl⟩ | ⟨w, r1, w', r1', rfl, rfl, h4, hr1⟩
  · exact sSim.none
  rcases gF2.cases hr1 with ⟨rfl, rfl⟩ | ⟨i, r0, i', r0', rfl, rfl, h3, hr0⟩
  · exact sSim.none
  rcases gF2.cases hr0 with ⟨rfl, rfl⟩ | ⟨x, r, x', r', rfl, rfl, h2, hr⟩
  · exact sSim.none
  dsimp only
  cases ht : (Nat.beq x.1 3 && (sIsI i && Nat.beq w.1 3)) with
  | false => exact sSim.none
  | true =>
    rw [Bool.and_eq_true, Bool.and_eq_true] at ht
    have e := sRef3 ht.1 h2
    subst e
    have e := sRef3 ht.2.2 h4
    subst e
    obtain ⟨x1, rfl, gx⟩ := sInt hcs ht.2.1 h3
    dsimp only [cond_true]
    (try simp only [fNth_eq])
    cases ho : lh[x.2.1.toNat]? with
    | none => exact sSim.none
    | some ob =>
      dsimp only
      (try simp only [fNth_eq])
      cases hw : lh[w.2.1.toNat]? with
      | none => exact sSim.none
      | some wb =>
        dsimp only
        cases hq : ((Nat.ble 100 ob.1 && (Nat.beq (gEl (ob.1 - 100)) wb.1 && Nat.blt wb.1 100)) && (Nat.ble ob.2.1 65536 && Nat.ble 7 x.2.1.toNat)) with
        | false => exact sSim.none
        | true =>
          rw [Bool.and_eq_true, Bool.and_eq_true, Bool.and_eq_true, Bool.and_eq_true] at hq
          have h100 := Nat.le_of_ble_eq_true hq.1.1
          obtain ⟨c', g1, g2⟩ := sRH_at hlh ho
          obtain ⟨f, rfl, g3⟩ := sArr g2 h100 (Nat.le_of_ble_eq_true hq.2.1)
          obtain ⟨d', k1, k2⟩ := sRH_at hlh hw
          obtain ⟨fw, rfl, k3⟩ := sObj k2 (Nat.blt_eq.mp hq.1.2.2)
          unfold gI_aast
          dsimp only [cond_true]
          rw [g1, k1]
          dsimp only
          refine sIdx_ok hcs gx (fun hin hcl cs2 hcs2 => ?_)
          rw [hq.1.2.1, hin, hq.2.2, hcl]
          first | exact hK _ _ _ _ _ _ _ _ hcs2 hlv hr (sRH_set (c := sPut ob x1.toNatClampNeg w) (c' := .inr (ob.1 - 100, ob.2.1, gup f x1.toNatClampNeg (.ref w.2.1.toNat))) (sRC_row h100 rfl rfl (sPut_ok g3 h4) (Nat.le_of_ble_eq_true hq.2.1)) hlh) | (simp only [fNth_eq, fSet_eq, fSnoc_eq, fLen_eq, fNat_eq, fV_eq, fFilt_eq, cond_true]; exact hK _ _ _ _ _ _ _ _ hcs2 hlv hr (sRH_set (c := sPut ob x1.toNatClampNeg w) (c' := .inr (ob.1 - 100, ob.2.1, gup f x1.toNatClampNeg (.ref w.2.1.toNat))) (sRC_row h100 rfl rfl (sPut_ok g3 h4) (Nat.le_of_ble_eq_true hq.2.1)) hlh))
theorem sBack_ok (hK : ∀ (cs : sI) (pc : Nat) (lv : sL) (lv' : gL) (st : List sV) (st' : List Value) (lh : sH) (lh' : gH), sOK ρ cs → sRL ρ lv lv' → sRS ρ st st' → sRH ρ lh lh' → sSim ρ (sK cs pc lv st lh) (K pc lv' st' lh')) (hlv : sRL ρ lv lv') {r : List sV} {r' : List Value} (hr : sRS ρ r r') {n : Nat} {o : gO} : ∀ (l : List sLf), sGood ρ l (some o) → sSim ρ (sBack sK pc lv n r l) (gBack K pc lv' n r' (some o)) := by
  intro l
  induction l with
  | nil => intro h; obtain ⟨f, hf, -⟩ := h; cases hf
  | cons g l ih =>
    intro h
    obtain ⟨f, hf, o2, e, q1, q2, q3, q4⟩ := h
    cases e
    rcases List.mem_cons.mp hf with rfl | hf
    · exact sSim.app (Or.inl (hK _ _ _ _ _ _ _ _ q1 hlv (gF2.app hr q4) q2))
    · exact sSim.app (Or.inr (ih ⟨f, hf, o, rfl, q1, q2, q3, q4⟩))
theorem sCats_ok {r : List sV} {r' : List Value} (h : sRS ρ r r') : sCats r = gCat r' := by
  unfold sCats gCat
  have e : (r.map sCat) = (r'.map fun v => v.category) := by
    induction r generalizing r' with
    | nil => cases r' with
      | nil => rfl
      | cons b m => exact h.elim
    | cons a l ih => cases r' with
      | nil => exact h.elim
      | cons b m => rw [List.map_cons, List.map_cons, ih h.2, sCat_ok h.1]
  rw [e]
theorem ss_virt (hK : ∀ (cs : sI) (pc : Nat) (lv : sL) (lv' : gL) (st : List sV) (st' : List Value) (lh : sH) (lh' : gH), sOK ρ cs → sRL ρ lv lv' → sRS ρ st st' → sRH ρ lh lh' → sSim ρ (sK cs pc lv st lh) (K pc lv' st' lh')) (hcs : sOK ρ cs) (hlv : sRL ρ lv lv') (hst : sRS ρ st st') (hlh : sRH ρ lh lh') (hC : ∀ (cs : sI) (as : List sV) (as' : List Value) (lh : sH) (lh' : gH), sOK ρ cs → sRS ρ as as' → sRH ρ lh lh' → sSim ρ (sCl cs a as lh) (C a as' lh')) : sSim ρ (sI_virt sK sCl cs pc a b v lv st lh) (gI_virt K C pc a b v lv' st' lh') := by
  unfold sI_virt gI_virt
  have hd := gF2.drop b hst
  rcases gF2.cases hd with ⟨e1, e2⟩ | ⟨x, r, x', r', e1, e2, h2, hr⟩
  · rw [e1]; exact sSim.none
  rw [e1, e2]
  dsimp only
  cases ht : Nat.beq x.1 3 with
  | false => exact sSim.none
  | true =>
    have e := sRef3 ht h2
    subst e
    dsimp only [cond_true]
    (try simp only [fNth_eq])
    cases ho : lh[x.2.1.toNat]? with
    | none => exact sSim.none
    | some ob =>
      dsimp only
      cases hq : ((Int.toNat v == ob.1 && Nat.blt ob.1 100) && sCats r) with
      | false => exact sSim.none
      | true =>
        rw [Bool.and_eq_true, Bool.and_eq_true] at hq
        obtain ⟨c', g1, g2⟩ := sRH_at hlh ho
        obtain ⟨f, rfl, g3⟩ := sObj g2 (Nat.blt_eq.mp hq.1.2)
        rw [g1]
        dsimp only
        rw [hq.1.1, ← sCats_ok hr, hq.2]
        dsimp only [cond_true, Bool.and_self]
        cases hl : sCl cs a (x :: (st.take b).reverse) lh with
        | none => exact sSim.none
        | some l =>
          have hg := hC cs _ _ lh lh' hcs (show sRS ρ (x :: (st.take b).reverse) (Value.ref x.2.1.toNat :: (st'.take b).reverse) from And.intro h2 (gF2.rev (gF2.take b hst))) hlh l hl
          obtain ⟨f0, hf0, o, e, rest⟩ := id hg
          rw [e] at hg ⊢
          exact sBack_ok hK hlv hr l hg
theorem ss_stat (hK : ∀ (cs : sI) (pc : Nat) (lv : sL) (lv' : gL) (st : List sV) (st' : List Value) (lh : sH) (lh' : gH), sOK ρ cs → sRL ρ lv lv' → sRS ρ st st' → sRH ρ lh lh' → sSim ρ (sK cs pc lv st lh) (K pc lv' st' lh')) (hcs : sOK ρ cs) (hlv : sRL ρ lv lv') (hst : sRS ρ st st') (hlh : sRH ρ lh lh') (hC : ∀ (cs : sI) (as : List sV) (as' : List Value) (lh : sH) (lh' : gH), sOK ρ cs → sRS ρ as as' → sRH ρ lh lh' → sSim ρ (sCl cs a as lh) (C a as' lh')) : sSim ρ (sI_stat sK sCl cs pc a b lv st lh) (gI_stat K C pc a b lv' st' lh') := by
  unfold sI_stat gI_stat
  have hd := gF2.drop b hst
  rw [← sCats_ok hd, ← gF2.len hst]
  cases hq : (Nat.ble b st.length && sCats (st.drop b)) with
  | false => exact sSim.none
  | true =>
    dsimp only [cond_true]
    cases hl : sCl cs a ((st.take b).reverse) lh with
    | none => exact sSim.none
    | some l =>
      have hg := hC cs _ _ lh lh' hcs (gF2.rev (gF2.take b hst)) hlh l hl
      obtain ⟨f0, hf0, o, e, rest⟩ := id hg
      rw [e] at hg ⊢
      exact sBack_ok hK hlv hd l hg
theorem ss_spec (hK : ∀ (cs : sI) (pc : Nat) (lv : sL) (lv' : gL) (st : List sV) (st' : List Value) (lh : sH) (lh' : gH), sOK ρ cs → sRL ρ lv lv' → sRS ρ st st' → sRH ρ lh lh' → sSim ρ (sK cs pc lv st lh) (K pc lv' st' lh')) (hcs : sOK ρ cs) (hlv : sRL ρ lv lv') (hst : sRS ρ st st') (hlh : sRH ρ lh lh') (hC : ∀ (cs : sI) (as : List sV) (as' : List Value) (lh : sH) (lh' : gH), sOK ρ cs → sRS ρ as as' → sRH ρ lh lh' → sSim ρ (sCl cs a as lh) (C a as' lh')) : sSim ρ (sI_spec sK sCl dp cs pc a b lv st lh) (gI_spec K C dp pc a b lv' st' lh') := by
  unfold sI_spec gI_spec
  cases ha : Nat.beq a 9999 with
  | true =>
    dsimp only [cond_true]
    rcases gF2.cases hst with ⟨rfl, rfl⟩ | ⟨x, r, x', r', rfl, rfl, h2, hr⟩
    · exact sSim.none
    dsimp only
    cases hq : (Nat.beq x.1 3 && (dp && sCats r)) with
    | false => exact sSim.none
    | true =>
      rw [Bool.and_eq_true] at hq
      have e := sRef3 hq.1 h2
      subst e
      dsimp only [cond_true]
      rw [← sCats_ok hr, hq.2]
      first | exact hK _ _ _ _ _ _ _ _ hcs hlv hr hlh | (simp only [fNth_eq, fSet_eq, fSnoc_eq, fLen_eq, fNat_eq, fV_eq, fFilt_eq, cond_true]; exact hK _ _ _ _ _ _ _ _ hcs hlv hr hlh)
  | false =>
    dsimp only [cond_false]
    have hd := gF2.drop b hst
    rcases gF2.cases hd with ⟨e1, e2⟩ | ⟨x, r, x', r', e1, e2, h2, hr⟩
    · rw [e1]; exact sSim.none
    rw [e1, e2]
    dsimp only
    cases hq : (Nat.beq x.1 3 && sCats r) with
    | false => exact sSim.none
    | true =>
      rw [Bool.and_eq_true] at hq
      have e := sRef3 hq.1 h2
      subst e
      dsimp only [cond_true]
      rw [← sCats_ok hr, hq.2]
      dsimp only [cond_true]
      cases hl : sCl cs a (x :: (st.take b).reverse) lh with
      | none => exact sSim.none
      | some l =>
        have hg := hC cs _ _ lh lh' hcs (show sRS ρ (x :: (st.take b).reverse) (Value.ref x.2.1.toNat :: (st'.take b).reverse) from And.intro h2 (gF2.rev (gF2.take b hst))) hlh l hl
        obtain ⟨f0, hf0, o, e, rest⟩ := id hg
        rw [e] at hg ⊢
        exact sBack_ok hK hlv hr l hg
theorem sGood_one {cs : sI} {lh : sH} {lh' : gH} {pc : Nat} {st : List sV} {st' : List Value} (hcs : sOK ρ cs) (hlh : sRH ρ lh lh') (hst : sRS ρ st st') : sSim ρ (some [(cs, lh, pc, st)]) (some (lh', pc, st')) := by
  intro L hL
  cases hL
  exact ⟨_, List.mem_singleton.mpr rfl, _, rfl, hcs, hlh, rfl, hst⟩
theorem ss_iret (hcs : sOK ρ cs) (hlh : sRH ρ lh lh') (hst : sRS ρ st st')  : sSim ρ (sI_iret rt cs pc st lh) (gI_iret rt pc st' lh') := by
  unfold sI_iret
  rcases gF2.cases hst with ⟨rfl, rfl⟩ | ⟨x, r, x', r', rfl, rfl, h2, hr⟩
  · exact sSim.none
  rcases gF2.cases hr with ⟨rfl, rfl⟩ | ⟨y, r1, y', r1', rfl, rfl, h3, hr1⟩
  rotate_left
  · exact sSim.none
  dsimp only
  cases rt with
  | none => exact sSim.none
  | some ty =>
    dsimp only
    cases hq : (sIsI x && (sFitI ty (sIv cs x) || (sOne (sIv cs x) && decide (narrow ty (.int (Int32.ofInt (sIv cs x).1)) = .int (Int32.ofInt (sIv cs x).1))))) with
    | false => exact sSim.none
    | true =>
      rw [Bool.and_eq_true] at hq
      obtain ⟨x1, rfl, g3, g4, -⟩ := sInt hcs hq.1 h2
      unfold gI_iret
      dsimp only
      rw [decide_eq_true (sFitI_nar hq.2 g3 g4)]
      exact sGood_one hcs hlh ⟨h2, trivial⟩
theorem ss_lret (hcs : sOK ρ cs) (hlh : sRH ρ lh lh') (hst : sRS ρ st st')  : sSim ρ (sI_lret rt cs pc st lh) (gI_lret rt pc st' lh') := by
  unfold sI_lret
  rcases gF2.cases hst with ⟨rfl, rfl⟩ | ⟨x, r, x', r', rfl, rfl, h2, hr⟩
  · exact sSim.none
  rcases gF2.cases hr with ⟨rfl, rfl⟩ | ⟨y, r1, y', r1', rfl, rfl, h3, hr1⟩
  rotate_left
  · exact sSim.none
  dsimp only
  split
  · cases hq : sIsL x with
    | false => exact sSim.none
    | true =>
      obtain ⟨x1, rfl, -⟩ := sLong hq h2
      exact sGood_one hcs hlh ⟨h2, trivial⟩
  · exact sSim.none
theorem ss_aret (hcs : sOK ρ cs) (hlh : sRH ρ lh lh') (hst : sRS ρ st st')  : sSim ρ (sI_aret rt cs pc st lh) (gI_aret rt pc st' lh') := by
  unfold sI_aret gI_aret
  split
  all_goals first
    | exact sSim.none
    | (dsimp only
       rcases gF2.cases hst with ⟨rfl, rfl⟩ | ⟨x, r, x', r', rfl, rfl, h2, hr⟩
       · exact sSim.none
       rcases gF2.cases hr with ⟨rfl, rfl⟩ | ⟨y, r1, y', r1', rfl, rfl, h3, hr1⟩
       rotate_left
       · exact sSim.none
       dsimp only
       cases hq : sIsA x with
       | false => exact sSim.none
       | true => rcases sRefA hq h2 with rfl | ⟨i, rfl⟩ <;> exact sGood_one hcs hlh ⟨h2, trivial⟩)
theorem ss_vret (hcs : sOK ρ cs) (hlh : sRH ρ lh lh') (hst : sRS ρ st st')  : sSim ρ (sI_vret rt cs pc st lh) (gI_vret rt pc st' lh') := by
  unfold sI_vret
  rcases gF2.cases hst with ⟨rfl, rfl⟩ | ⟨x, r, x', r', rfl, rfl, h2, hr⟩
  rotate_left
  · exact sSim.none
  unfold gI_vret
  dsimp only
  split
  · exact sGood_one hcs hlh trivial
  · exact sSim.none
end SROWS
