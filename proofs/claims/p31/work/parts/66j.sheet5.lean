/-! BOTH PROGRAMS' CUES, all blocks put in, told alike (hand; behind sheet2 and sheet4). -/
theorem fm_congr {α β : Type} {l : List α} {f g : α → List β} (e : ∀ r, r ∈ l → f r = g r) : l.flatMap f = l.flatMap g := by
  induction l with
  | nil => rfl
  | cons a l ih =>
    show f a ++ l.flatMap f = g a ++ l.flatMap g
    rw [e a (.head _), ih fun r hr => e r (.tail _ hr)]
theorem fm_map {α β γ : Type} {l : List α} {f : α → List β} {g : β → γ} : (l.flatMap f).map g = l.flatMap (fun r => (f r).map g) := by
  induction l with
  | nil => rfl
  | cons a l ih =>
    show (f a ++ l.flatMap f).map g = (f a).map g ++ l.flatMap (fun r => (f r).map g)
    rw [List.map_append, ih]
/-- a text's parts: its blocks, and 6: its sheet -/
def drf (D : List (List CR)) (S : List CR) (b : Nat) : List CR := if b = 6 then S else (D[b]?).getD []
/-- blocks put in, with where they are used -/
def pV (D : Nat → List CR) (mk : Nat → Int) : Nat → Nat → Int → List (CR × Int)
  | 0, _, _ => []
  | n + 1, b, s => (D b).flatMap (fun r => if r.1 = 5 then pV D mk n r.2.2.1.toNat (frM mk r.2.2.2.1 r.2.2.2.2.1 s) else [(r, s)])
theorem pV_succ {D : Nat → List CR} {mk : Nat → Int} {n b : Nat} {s : Int} : pV D mk (n + 1) b s = (D b).flatMap (fun r => if r.1 = 5 then pV D mk n r.2.2.1.toNat (frM mk r.2.2.2.1 r.2.2.2.2.1 s) else [(r, s)]) := rfl
def lgV (h : gH) (q : Nat) (g : CR → List (CR × Int)) : Nat → Nat → List (CR × Int)
  | _, 0 => []
  | i, k + 1 => g (recR h (16 * q + i)) ++ lgV h q g (i + 1) k
theorem lgV_snoc {h : gH} {q : Nat} {g : CR → List (CR × Int)} : ∀ {k i : Nat}, lgV h q g i (k + 1) = lgV h q g i k ++ g (recR h (16 * q + (i + k))) := by
  intro k
  induction k with
  | zero =>
    intro i
    show g (recR h (16 * q + i)) ++ [] = g (recR h (16 * q + i))
    exact List.append_nil _
  | succ k ih =>
    intro i
    show g (recR h (16 * q + i)) ++ lgV h q g (i + 1) (k + 1) = (g (recR h (16 * q + i)) ++ lgV h q g (i + 1) k) ++ g (recR h (16 * q + (i + (k + 1))))
    rw [ih, List.append_assoc, show i + 1 + k = i + (k + 1) by omega]
theorem lsR_fm {h : gH} {q : Nat} {g : CR → List (CR × Int)} : ∀ {k : Nat}, (lsR h q k).flatMap g = lgV h q g 0 k := by
  intro k
  induction k with
  | zero => rfl
  | succ k ih =>
    rw [lgV_snoc, ← ih, Nat.zero_add]
    show (lsR h q k ++ [recR h (16 * q + k)]).flatMap g = _
    rw [List.flatMap_append]
    show _ ++ (g (recR h (16 * q + k)) ++ []) = _
    rw [List.append_nil]
theorem lgS_V {h : gH} {q : Nat} {g : CR → List (CR × Int)} {f : Nat → List (Nat × Int)} (e : ∀ i : Nat, (f i).map (fun p => (recR h p.1, p.2)) = g (recR h (16 * q + i))) : ∀ {k i : Nat}, (lgS f i k).map (fun p => (recR h p.1, p.2)) = lgV h q g i k := by
  intro k
  induction k with
  | zero => intro i; rfl
  | succ k ih =>
    intro i
    show (f i ++ lgS f (i + 1) k).map (fun p => (recR h p.1, p.2)) = g (recR h (16 * q + i)) ++ lgV h q g (i + 1) k
    rw [List.map_append, e i, ih]
theorem flS_succ {pm cs cw cm ca mk : Nat → Int} {base n b : Nat} {s : Int} : flS pm cs cw cm ca mk base (n + 1) b s = lgS (fun i => if cs (16 * (base + b) + i) = 5 then flS pm cs cw cm ca mk base n (cw (16 * (base + b) + i)).toNat (frM mk (cm (16 * (base + b) + i)) (ca (16 * (base + b) + i)) s) else [(16 * (base + b) + i, s)]) 0 (pm (base + b)).toNat := rfl
/-- the parts of a page -/
def pgD (h : gH) (pg b : Nat) : List CR := lsR h (7 * pg + b) (hV h 296 (7 * pg + b)).toNat
theorem flS_pV {h : gH} {mk : Nat → Int} {pg : Nat} : ∀ {n b : Nat} {s : Int}, (flS (hV h 296) (hV h 298) (hV h 300) (hV h 301) (hV h 302) mk (7 * pg) n b s).map (fun p => (recR h p.1, p.2)) = pV (pgD h pg) mk n b s := by
  intro n
  induction n with
  | zero => intro b s; rfl
  | succ n ih =>
    intro b s
    rw [pV_succ, flS_succ]
    show _ = (lsR h (7 * pg + b) (hV h 296 (7 * pg + b)).toNat).flatMap _
    rw [lsR_fm]
    refine lgS_V (fun i => ?_)
    have k5 : (recR h (16 * (7 * pg + b) + i)).1 = hV h 298 (16 * (7 * pg + b) + i) := rfl
    by_cases c : hV h 298 (16 * (7 * pg + b) + i) = 5
    · have e5 : (recR h (16 * (7 * pg + b) + i)).2.2.2.2.1 = hV h 302 (16 * (7 * pg + b) + i) := if_pos (.inr (.inr c))
      have w := ih (b := (hV h 300 (16 * (7 * pg + b) + i)).toNat) (s := frM mk (hV h 301 (16 * (7 * pg + b) + i)) (hV h 302 (16 * (7 * pg + b) + i)) s)
      rw [if_pos c, if_pos (k5.trans c), e5]
      exact w
    · rw [if_neg c, if_neg (fun w => c (k5.symm.trans w))]
      all_goals rfl
theorem lsRB_at {h : gH} {pg : Nat} : ∀ {n k : Nat}, k < n → (lsRB h pg n)[k]? = some (pgD h pg k)
  | 0, _, w => absurd w (Nat.not_lt_zero _)
  | n + 1, k, w => by
    show (lsRB h pg n ++ [pgD h pg n])[k]? = _
    by_cases e : k < n
    · rw [List.getElem?_append_left (by rw [lsRB_len]; exact e)]
      exact lsRB_at e
    · have e2 : k = n := by omega
      subst e2
      rw [List.getElem?_append_right (by rw [lsRB_len]; exact Nat.le_refl _), lsRB_len, Nat.sub_self]
      rfl
theorem lsB_len {h : gH} : ∀ {n : Nat}, (lsB h n).length = n
  | 0 => rfl
  | n + 1 => by
    show (lsB h n ++ [HD h n]).length = n + 1
    rw [List.length_append, lsB_len]
    rfl
theorem lsB_at {h : gH} : ∀ {n k : Nat}, k < n → (lsB h n)[k]? = some (HD h k)
  | 0, _, w => absurd w (Nat.not_lt_zero _)
  | n + 1, k, w => by
    show (lsB h n ++ [HD h n])[k]? = _
    by_cases e : k < n
    · rw [List.getElem?_append_left (by rw [lsB_len]; exact e)]
      exact lsB_at e
    · have e2 : k = n := by omega
      subst e2
      rw [List.getElem?_append_right (by rw [lsB_len]; exact Nat.le_refl _), lsB_len, Nat.sub_self]
      rfl
theorem KPT_drf {h : gH} {pg : Nat} {D : List (List CR)} {S : List CR} (z : KPT h pg D S) {b : Nat} (hb : b < D.length ∨ b = 6) : pgD h pg b = drf D S b := by
  obtain ⟨z1, z2, z3, z4, z5, z6⟩ := z
  unfold drf
  rcases hb with hb | hb
  · have w := lsRB_at (h := h) (pg := pg) hb
    rw [z1] at w
    rw [if_neg (by omega), w]
    all_goals exact rfl
  · subst hb
    rw [if_pos rfl]
    exact z2
/-- between which bounds T's lie -/
def FBr (r : CR) : Prop := (-9999 ≤ r.2.2.2.2.1 ∧ r.2.2.2.2.1 ≤ 9999) ∧ -9999 ≤ r.2.2.2.2.2.2.1 ∧ r.2.2.2.2.2.2.1 ≤ 9999
/-- the MARKS of a CUE -/
def MBr (r : CR) : Prop := -1 ≤ r.2.2.2.1 ∧ -1 ≤ r.2.2.2.2.2.1 ∧ (0 ≤ r.1 ∧ r.1 ≤ 5) ∧ (r.1 < 2 ∨ r.1 = 5 → r.2.2.2.1 ≤ 7) ∧ (r.1 = 1 → r.2.2.2.2.2.1 ≤ 7)
/-- the uses go to blocks that are there -/
def VL (D : Nat → List CR) (B : Nat) : Prop := ∀ b : Nat, (b < B ∨ b = 6) → ∀ r : CR, r ∈ D b → (r.1 = 5 → 0 ≤ r.2.2.1 ∧ r.2.2.1 < (B : Int) ∧ -60 ≤ r.2.2.2.2.1 ∧ r.2.2.2.2.1 ≤ 60) ∧ FBr r ∧ MBr r
/-- a block of no size puts nothing in -/
def ZT (D : Nat → List CR) (T : Int → Int) (B : Nat) : Prop := ∀ b : Nat, b < B → ¬ 0 < T (b : Int) → ∀ (mk : Nat → Int) (n : Nat) (s : Int), pV D mk n b s = []
theorem pV_same {D E : Nat → List CR} {B : Nat} {mk : Nat → Int} (e : ∀ b : Nat, (b < B ∨ b = 6) → D b = E b) (v : ∀ b : Nat, (b < B ∨ b = 6) → ∀ r : CR, r ∈ D b → r.1 = 5 → 0 ≤ r.2.2.1 ∧ r.2.2.1 < (B : Int)) : ∀ {n b : Nat} {s : Int}, (b < B ∨ b = 6) → pV D mk n b s = pV E mk n b s := by
  intro n
  induction n with
  | zero => intros; rfl
  | succ n ih =>
    intro b s hb
    rw [pV_succ, pV_succ, ← e b hb]
    refine fm_congr fun r hr => ?_
    by_cases c : r.1 = 5
    · have w := v b hb r hr c
      rw [if_pos c, if_pos c, ih (.inl (by omega))]
    · rw [if_neg c, if_neg c]
/-- a place that hangs on a MARK or on none -/
def nw (mk : Nat → Int) (m f : Int) : Int := if m = -1 then f else mk m.toNat + f
/-- a CUE as it is now: the class's -/
def nowC (mk : Nat → Int) (r : CR) : CR := (r.1, r.2.1, r.2.2.1, 0, nw mk r.2.2.2.1 r.2.2.2.2.1, 0, nw mk r.2.2.2.2.2.1 r.2.2.2.2.2.2.1, r.2.2.2.2.2.2.2)
/-- the reference's -/
def nowR (mk : Nat → Int) (p : CR × Int) : CR := (p.1.1, p.1.2.1, p.1.2.2.1, 0, frM mk p.1.2.2.2.1 p.1.2.2.2.2.1 p.2, 0, frM mk p.1.2.2.2.2.2.1 p.1.2.2.2.2.2.2.1 p.2, p.1.2.2.2.2.2.2.2)
theorem nw_use {mk : Nat → Int} {bm bf m f : Int} (b1 : -400 ≤ bf) (b2 : bf ≤ 400) (f1 : -9999 ≤ f) (f2 : f ≤ 9999) : nw mk (if m = -1 then bm else m) (if m = -1 then w32 (f + bf) else f) = frM mk m f (nw mk bm bf) := by
  unfold nw frM
  by_cases c : m = -1
  · rw [if_pos c, if_pos c, if_pos c, w32_id (by omega) (by omega)]
    by_cases d : bm = -1
    · rw [if_pos d, if_pos d]
    · rw [if_neg d, if_neg d]
      omega
  · rw [if_neg c, if_neg c, if_neg c, if_neg c]
theorem nw_us2 {mk : Nat → Int} {bm bf m f : Int} (b1 : -400 ≤ bf) (b2 : bf ≤ 400) (f1 : -9999 ≤ f) (f2 : f ≤ 9999) : nw mk (if m = -1 then bm else m) (if m = -1 then w32 (bf + f) else f) = frM mk m f (nw mk bm bf) := by
  rw [Int.add_comm bf f]
  exact nw_use b1 b2 f1 f2
theorem nowC_crS {mk : Nat → Int} {bm bf : Int} {r : CR} (b1 : -400 ≤ bf) (b2 : bf ≤ 400) (f : FBr r) : nowC mk (crS bm bf r) = nowR mk (r, nw mk bm bf) := by
  show (r.1, r.2.1, r.2.2.1, (0 : Int), nw mk (if r.2.2.2.1 = -1 then bm else r.2.2.2.1) (if r.2.2.2.1 = -1 then w32 (r.2.2.2.2.1 + bf) else r.2.2.2.2.1), (0 : Int), nw mk (if r.2.2.2.2.2.1 = -1 then bm else r.2.2.2.2.2.1) (if r.2.2.2.2.2.1 = -1 then w32 (r.2.2.2.2.2.2.1 + bf) else r.2.2.2.2.2.2.1), r.2.2.2.2.2.2.2) = (r.1, r.2.1, r.2.2.1, (0 : Int), frM mk r.2.2.2.1 r.2.2.2.2.1 (nw mk bm bf), (0 : Int), frM mk r.2.2.2.2.2.1 r.2.2.2.2.2.2.1 (nw mk bm bf), r.2.2.2.2.2.2.2)
  rw [nw_use b1 b2 f.1.1 f.1.2, nw_use b1 b2 f.2.1 f.2.2]
/-- both lists are one, CUE by CUE -/
theorem pU_pV {D : Nat → List CR} {T : Int → Int} {B : Nat} {mk : Nat → Int} (v : VL D B) (z : ZT D T B) : ∀ {n b : Nat} {bm bf : Int}, n ≤ 6 → (b < B ∨ b = 6) → -(360 - 60 * (n : Int)) ≤ bf → bf ≤ 360 - 60 * (n : Int) → (pU D T (n + 1) b bm bf).map (nowC mk) = (pV D mk (n + 1) b (nw mk bm bf)).map (nowR mk) := by
  intro n
  induction n with
  | zero =>
    intro b bm bf _ hb b1 b2
    rw [pU_succ, pV_succ, fm_map, fm_map]
    refine fm_congr fun r hr => ?_
    have w := v b hb r hr
    unfold pUf
    by_cases c : r.1 = 5
    · rw [if_pos c, if_pos c]
      split <;> rfl
    · rw [if_neg c, if_neg c]
      show [nowC mk (crS bm bf r)] = [nowR mk (r, nw mk bm bf)]
      rw [nowC_crS (by omega) (by omega) w.2.1]
  | succ n ih =>
    intro b bm bf hn hb b1 b2
    rw [pU_succ, pV_succ, fm_map, fm_map]
    refine fm_congr fun r hr => ?_
    have w := v b hb r hr
    unfold pUf
    by_cases c : r.1 = 5
    · have u := w.1 c
      have uf : usF bf r = if r.2.2.2.1 = -1 then bf + r.2.2.2.2.1 else r.2.2.2.2.1 := by
        unfold usF
        rw [w32_id (by omega) (by omega)]
      have us : nw mk (usM bm r) (usF bf r) = frM mk r.2.2.2.1 r.2.2.2.2.1 (nw mk bm bf) := nw_us2 (by omega) (by omega) w.2.1.1.1 w.2.1.1.2
      rw [if_pos c, if_pos c]
      by_cases t : 0 < T r.2.2.1
      · rw [if_pos t, ← us]
        refine ih (by omega) (.inl (by omega)) ?_ ?_
        · rw [uf]
          split <;> omega
        · rw [uf]
          split <;> omega
      · have e : T ((r.2.2.1.toNat : Nat) : Int) = T r.2.2.1 := by rw [Int.toNat_of_nonneg u.1]
        rw [if_neg t, z r.2.2.1.toNat (by omega) (by rw [e]; exact t)]
        rfl
    · rw [if_neg c, if_neg c]
      show [nowC mk (crS bm bf r)] = [nowR mk (r, nw mk bm bf)]
      rw [nowC_crS (by omega) (by omega) w.2.1]
/-- the class's parts and sizes told otherwise -/
theorem pU_cong {D E : Nat → List CR} {T U : Int → Int} {B : Nat} (eD : ∀ b : Nat, b < B → D b = E b) (eT : ∀ b : Nat, b < B → (0 < T (b : Int) ↔ 0 < U (b : Int))) (v : ∀ b : Nat, b < B → ∀ r : CR, r ∈ D b → r.1 = 5 → 0 ≤ r.2.2.1 ∧ r.2.2.1 < (B : Int)) : ∀ {n b : Nat} {bm bf : Int}, b < B → pU D T n b bm bf = pU E U n b bm bf := by
  intro n
  induction n with
  | zero => intros; rfl
  | succ n ih =>
    intro b bm bf hb
    rw [pU_succ, pU_succ, ← eD b hb]
    refine fm_congr fun r hr => ?_
    unfold pUf
    by_cases c : r.1 = 5
    · have w := v b hb r hr c
      have e : ((r.2.2.1.toNat : Nat) : Int) = r.2.2.1 := Int.toNat_of_nonneg w.1
      have t := eT r.2.2.1.toNat (by omega)
      rw [e] at t
      rw [if_pos c, if_pos c]
      by_cases q : 0 < T r.2.2.1
      · rw [if_pos q, if_pos (t.mp q)]
        exact ih (by omega)
      · rw [if_neg q, if_neg (fun y => q (t.mpr y))]
    · rw [if_neg c, if_neg c]
theorem pU_root {D E : Nat → List CR} {T U : Int → Int} {B R : Nat} (eD : ∀ b : Nat, b < B → D b = E b) (eR : D R = E 6) (eT : ∀ b : Nat, b < B → (0 < T (b : Int) ↔ 0 < U (b : Int))) (v : ∀ b : Nat, b < B → ∀ r : CR, r ∈ D b → r.1 = 5 → 0 ≤ r.2.2.1 ∧ r.2.2.1 < (B : Int)) (v6 : ∀ r : CR, r ∈ D R → r.1 = 5 → 0 ≤ r.2.2.1 ∧ r.2.2.1 < (B : Int)) {n : Nat} {bm bf : Int} : pU D T n R bm bf = pU E U n 6 bm bf := by
  cases n with
  | zero => rfl
  | succ n =>
    rw [pU_succ, pU_succ, ← eR]
    refine fm_congr fun r hr => ?_
    unfold pUf
    by_cases c : r.1 = 5
    · have w := v6 r hr c
      have e : ((r.2.2.1.toNat : Nat) : Int) = r.2.2.1 := Int.toNat_of_nonneg w.1
      have t := eT r.2.2.1.toNat (by omega)
      rw [e] at t
      rw [if_pos c, if_pos c]
      by_cases q : 0 < T r.2.2.1
      · rw [if_pos q, if_pos (t.mp q)]
        exact pU_cong eD eT v (by omega)
      · rw [if_neg q, if_neg (fun y => q (t.mpr y))]
    · rw [if_neg c, if_neg c]
/-! What the parts of a text hold. -/
theorem frA_bd {v : Vw} (hv : ∀ p : PS, 0 ≤ tvl v p ∧ tvl v p ≤ 9999) {p : PS} : -9999 ≤ frA v p ∧ frA v p ≤ 9999 := by
  unfold frA
  split
  · split
    · have w := hv (ptk v 6 (pnm v 0 7 (ptk v 37 p)))
      omega
    · split
      · have w := hv (ptk v 7 (pnm v 0 7 (ptk v 37 p)))
        omega
      · omega
  · have w := hv p
    omega
theorem mkA_bd {v : Vw} (hv : ∀ p : PS, 0 ≤ tvl v p ∧ tvl v p ≤ 9999) {p : PS} : -1 ≤ mkA v p := by
  unfold mkA
  split
  · have w := hv (ptk v 37 p)
    omega
  · omega
theorem cuT_bd {v : Vw} {bl : List (Int × Int)} {p : PS} (hv : ∀ p : PS, 0 ≤ tvl v p ∧ tvl v p ≤ 9999) : FBr (cuT v bl p) ∧ -1 ≤ (cuT v bl p).2.2.2.1 ∧ -1 ≤ (cuT v bl p).2.2.2.2.2.1 := by
  have z : (-9999 : Int) ≤ 0 ∧ (0 : Int) ≤ 9999 := by omega
  have y : (-1 : Int) ≤ -1 := by omega
  unfold FBr cuT
  split
  · exact ⟨⟨frA_bd hv, z⟩, mkA_bd hv, y⟩
  · split
    · exact ⟨⟨frA_bd hv, frA_bd hv⟩, mkA_bd hv, mkA_bd hv⟩
    · split
      · exact ⟨⟨frA_bd hv, z⟩, mkA_bd hv, y⟩
      · exact ⟨⟨z, z⟩, y, y⟩
theorem cuT_kd {v : Vw} {bl : List (Int × Int)} {p : PS} (h : 20 ≤ v.1 p.1 ∧ v.1 p.1 ≤ 25) : 0 ≤ (cuT v bl p).1 ∧ (cuT v bl p).1 ≤ 5 := by
  have z0 : (0 : Int) ≤ 0 ∧ (0 : Int) ≤ 5 := by omega
  have z1 : (0 : Int) ≤ 1 ∧ (1 : Int) ≤ 5 := by omega
  have z5 : (0 : Int) ≤ 5 ∧ (5 : Int) ≤ 5 := by omega
  have zx : 0 ≤ v.1 p.1 - 20 ∧ v.1 p.1 - 20 ≤ 5 := by omega
  unfold cuT
  split
  · exact z0
  · split
    · exact z1
    · split
      · exact z5
      · exact zx
theorem pDr_mem {v : Vw} {bl : List (Int × Int)} {r : CR} : ∀ {f : Nat} {p : PS}, r ∈ pDr v bl f p → ∃ q : PS, (20 ≤ v.1 q.1 ∧ v.1 q.1 ≤ 25) ∧ r = cuT v bl q := by
  intro f
  induction f with
  | zero => intro p w; cases (show r ∈ ([] : List CR) from w)
  | succ f ih =>
    intro p w
    by_cases c : 20 ≤ v.1 p.1 ∧ v.1 p.1 ≤ 25
    · rw [pDr_step c] at w
      rcases List.mem_cons.mp w with e | w
      · exact ⟨p, c, e⟩
      · exact ih w
    · rw [pDr_stop c] at w
      cases w
theorem pDb_mem {v : Vw} {X : List CR} : ∀ {f : Nat} {p : PS} {bl : List (Int × Int)}, X ∈ pDb v f p bl → ∃ bl' q, X = pDr v bl' 16 q := by
  intro f
  induction f with
  | zero => intro p bl w; cases (show X ∈ ([] : List (List CR)) from w)
  | succ f ih =>
    intro p bl w
    by_cases c : v.1 p.1 = 16
    · rw [pDb_step c] at w
      rcases List.mem_cons.mp w with e | w
      · exact ⟨_, _, e⟩
      · exact ih w
    · rw [pDb_stop c] at w
      cases w
theorem drf_bd {v : Vw} (hv : ∀ p : PS, 0 ≤ tvl v p ∧ tvl v p ≤ 9999) {b : Nat} {r : CR} (w : r ∈ drf (pDb v 6 (0, 0) []) (pDs v) b) : FBr r ∧ -1 ≤ r.2.2.2.1 ∧ -1 ≤ r.2.2.2.2.2.1 ∧ 0 ≤ r.1 ∧ r.1 ≤ 5 := by
  have fin : ∀ {bl : List (Int × Int)} {q : PS}, r ∈ pDr v bl 16 q → FBr r ∧ -1 ≤ r.2.2.2.1 ∧ -1 ≤ r.2.2.2.2.2.1 ∧ 0 ≤ r.1 ∧ r.1 ≤ 5 := by
    intro bl q w
    obtain ⟨q2, k, e⟩ := pDr_mem w
    have b := cuT_bd (bl := bl) (p := q2) hv
    rw [e]
    exact ⟨b.1, b.2.1, b.2.2, cuT_kd k⟩
  unfold drf at w
  by_cases c : b = 6
  · rw [if_pos c] at w
    exact fin w
  · rw [if_neg c] at w
    cases hX : (pDb v 6 (0, 0) [])[b]? with
    | none =>
      rw [hX] at w
      cases (show r ∈ ([] : List CR) from w)
    | some X =>
      rw [hX] at w
      obtain ⟨bl, q, e⟩ := pDb_mem (List.mem_of_getElem? hX)
      rw [e] at w
      exact fin w
theorem lsR_mem {h : gH} {q : Nat} {r : CR} : ∀ {k : Nat}, r ∈ lsR h q k → ∃ i, i < k ∧ r = recR h (16 * q + i) := by
  intro k
  induction k with
  | zero => intro w; cases (show r ∈ ([] : List CR) from w)
  | succ k ih =>
    intro w
    rcases List.mem_append.mp (show r ∈ lsR h q k ++ [recR h (16 * q + k)] from w) with w | w
    · obtain ⟨i, hi, e⟩ := ih w
      exact ⟨i, by omega, e⟩
    · exact ⟨k, by omega, List.mem_singleton.mp w⟩
/-- a page that is well told: its uses, its MARKS -/
theorem PGs_use {h : gH} {pg : Nat} (g : PGs (hV h 294) (hV h 296) (hV h 298) (hV h 300) (hV h 301) (hV h 302) (hV h 303) (hV h 305) pg) {b : Nat} (hb : (b : Int) < hV h 294 pg ∨ b = 6) {r : CR} (w : r ∈ pgD h pg b) : (r.1 = 5 → 0 ≤ r.2.2.1 ∧ r.2.2.1 < hV h 294 pg ∧ -60 ≤ r.2.2.2.2.1 ∧ r.2.2.2.2.1 ≤ 60) ∧ (r.1 < 2 ∨ r.1 = 5 → r.2.2.2.1 ≤ 7) ∧ (r.1 = 1 → r.2.2.2.2.2.1 ≤ 7) := by
  obtain ⟨i, hi, e⟩ := lsR_mem w
  have g2 := g.2.1 b hb
  have ww := g2.2 i (by omega)
  rw [e]
  refine ⟨fun c => ?_, ww.2.2.2.2.1, ww.2.2.2.2.2⟩
  have c5 : hV h 298 (16 * (7 * pg + b) + i) = 5 := c
  obtain ⟨u1, u2, u3, u4⟩ := ww.2.2.2.1 c5
  have e5 : (recR h (16 * (7 * pg + b) + i)).2.2.2.2.1 = hV h 302 (16 * (7 * pg + b) + i) := if_pos (.inr (.inr c5))
  refine ⟨u1, ?_, by rw [e5]; exact u3, by rw [e5]; exact u4⟩
  show hV h 300 (16 * (7 * pg + b) + i) < hV h 294 pg
  by_cases b6 : b = 6
  · rw [if_pos b6] at u2
    exact u2
  · rw [if_neg b6] at u2
    omega
/-- the sizes of a table -/
def tabT (bl : List (Int × Int)) (x : Int) : Int := ((bl[x.toNat]?).getD (0, 0)).2
theorem BLg_at {f g : Nat → Int} : ∀ {n i k : Nat}, k < n → (BLg f g i n)[k]? = some (f (i + k), g (i + k)) := by
  intro n
  induction n with
  | zero => intro i k w; exact absurd w (Nat.not_lt_zero _)
  | succ n ih =>
    intro i k w
    cases k with
    | zero => rfl
    | succ k =>
      show (BLg f g (i + 1) n)[k]? = _
      rw [ih (by omega), show i + 1 + k = i + (k + 1) by omega]
theorem BLf_at {f g : Nat → Int} : ∀ {n i k : Nat}, k < n → (BLf f g i n)[k]? = some (c27 9 (f (i + k)), pcap (g (i + k))) := by
  intro n
  induction n with
  | zero => intro i k w; exact absurd w (Nat.not_lt_zero _)
  | succ n ih =>
    intro i k w
    cases k with
    | zero => rfl
    | succ k =>
      show (BLf f g (i + 1) n)[k]? = _
      rw [ih (by omega), show i + 1 + k = i + (k + 1) by omega]
theorem pcap_pos {x : Int} : 0 < pcap x ↔ 0 < x := by
  unfold pcap
  split <;> omega
theorem ZP_V {h : gH} {pg : Nat} (z : ZP h pg) {b : Nat} (hb : (b : Int) < hV h 294 pg) (h0 : ¬ 0 < hV h 297 (7 * pg + b)) (mk : Nat → Int) (n : Nat) (s : Int) : pV (pgD h pg) mk n b s = [] := by
  rw [← flS_pV]
  have w := flS_fst (pm := hV h 296) (cs := hV h 298) (cw := hV h 300) (cm := hV h 301) (ca := hV h 302) (mk := mk) (base := 7 * pg) (n := n) (b := b) (s := s)
  rw [z b hb h0 n] at w
  rw [List.map_eq_nil_iff.mp w]
  rfl
