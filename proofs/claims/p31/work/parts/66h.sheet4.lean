/-! THE REFERENCE'S SHEETS, all blocks put in, with where they are put (hand; as part 39b does it without). -/
def frM (mk : Nat → Int) (m v s : Int) : Int := if m = -1 then v + s else mk m.toNat + v
def lgS (f : Nat → List (Nat × Int)) : Nat → Nat → List (Nat × Int)
  | _, 0 => []
  | i, k + 1 => f i ++ lgS f (i + 1) k
def flS (pm cs cw cm ca mk : Nat → Int) (base : Nat) : Nat → Nat → Int → List (Nat × Int)
  | 0, _, _ => []
  | n + 1, b, s => lgS (fun i => if cs (16 * (base + b) + i) = 5 then flS pm cs cw cm ca mk base n (cw (16 * (base + b) + i)).toNat (frM mk (cm (16 * (base + b) + i)) (ca (16 * (base + b) + i)) s) else [(16 * (base + b) + i, s)]) 0 (pm (base + b)).toNat
def elS (pm cs cw cm ca mk : Nat → Int) (base : Nat) (q : Nat) (s : Int) (i : Nat) : List (Nat × Int) := if cs (16 * q + i) = 5 then flS pm cs cw cm ca mk base 6 (cw (16 * q + i)).toNat (frM mk (cm (16 * q + i)) (ca (16 * q + i)) s) else [(16 * q + i, s)]
theorem lgS_congr {f g : Nat → List (Nat × Int)} : ∀ {k i : Nat}, (∀ j, i ≤ j → j < i + k → f j = g j) → lgS f i k = lgS g i k := by
  intro k
  induction k with
  | zero => intro i _; rfl
  | succ k ih =>
    intro i h
    show f i ++ lgS f (i + 1) k = g i ++ lgS g (i + 1) k
    rw [h i (Nat.le_refl _) (by omega), ih fun j a b => h j (by omega) (by omega)]
theorem flS_fuel {pm cs cw cm ca mk : Nat → Int} {base : Nat} {B : Int} (h : UW pm cs cw base B) : ∀ (n m b : Nat) (s : Int), (b : Int) < B → b < n → b < m → flS pm cs cw cm ca mk base n b s = flS pm cs cw cm ca mk base m b s := by
  intro n
  induction n with
  | zero => intro m b s _ z; exact absurd z (Nat.not_lt_zero _)
  | succ n ih =>
    intro m b s hb h1 h2
    cases m with
    | zero => exact absurd h2 (Nat.not_lt_zero _)
    | succ m =>
      unfold flS
      refine lgS_congr fun j _ hj => ?_
      by_cases q : cs (16 * (base + b) + j) = 5
      · rw [if_pos q, if_pos q]
        have z := h b hb j (by omega) q
        exact ih m _ _ (by omega) (by omega) (by omega)
      · rw [if_neg q, if_neg q]
theorem flS_root {pm cs cw cm ca mk : Nat → Int} {base : Nat} {s : Int} : flS pm cs cw cm ca mk base 7 6 s = lgS (elS pm cs cw cm ca mk base (base + 6) s) 0 (pm (base + 6)).toNat := rfl
theorem flS_block {pm cs cw cm ca mk : Nat → Int} {base : Nat} {B s : Int} (h : UW pm cs cw base B) {b : Nat} (hb : (b : Int) < B) (h6 : b < 6) : flS pm cs cw cm ca mk base 6 b s = lgS (elS pm cs cw cm ca mk base (base + b) s) 0 (pm (base + b)).toNat := by
  show lgS _ _ _ = _
  refine lgS_congr fun j _ hj => ?_
  unfold elS
  by_cases q : cs (16 * (base + b) + j) = 5
  · rw [if_pos q, if_pos q]
    have z := h b hb j (by omega) q
    exact flS_fuel h 5 6 _ _ (by omega) (by omega) (by omega)
  · rw [if_neg q, if_neg q]
/-- the cues without where they are put -/
theorem lgS_fst {f : Nat → List (Nat × Int)} {g : Nat → List Nat} : ∀ {k i : Nat}, (∀ j, i ≤ j → j < i + k → (f j).map Prod.fst = g j) → (lgS f i k).map Prod.fst = lg g i k := by
  intro k
  induction k with
  | zero => intro i _; rfl
  | succ k ih =>
    intro i h
    show (f i ++ lgS f (i + 1) k).map Prod.fst = g i ++ lg g (i + 1) k
    rw [List.map_append, h i (Nat.le_refl _) (by omega), ih fun j a b => h j (by omega) (by omega)]
theorem flS_fst {pm cs cw cm ca mk : Nat → Int} {base : Nat} : ∀ {n b : Nat} {s : Int}, (flS pm cs cw cm ca mk base n b s).map Prod.fst = fl pm cs cw base n b := by
  intro n
  induction n with
  | zero => intro b s; rfl
  | succ n ih =>
    intro b s
    unfold flS fl
    refine lgS_fst fun j _ _ => ?_
    by_cases q : cs (16 * (base + b) + j) = 5
    · rw [if_pos q, if_pos q]
      exact ih
    · rw [if_neg q, if_neg q]
      rfl
def RLS (pm cs cw cm ca mk : Nat → Int) (base : Nat) (ip ia is : Nat → Int) : Nat → List (Nat × Int)
  | 0 => []
  | d + 1 => lgS (elS pm cs cw cm ca mk base (ip d).toNat (is d)) (ia d).toNat ((pm (ip d).toNat).toNat - (ia d).toNat) ++ RLS pm cs cw cm ca mk base ip ia is d
theorem RLS_congr {pm cs cw cm ca mk : Nat → Int} {base : Nat} {ip ia is ip' ia' is' : Nat → Int} : ∀ {d : Nat}, (∀ k, k < d → ip' k = ip k ∧ ia' k = ia k ∧ is' k = is k) → RLS pm cs cw cm ca mk base ip' ia' is' d = RLS pm cs cw cm ca mk base ip ia is d := by
  intro d
  induction d with
  | zero => intro _; rfl
  | succ d ih =>
    intro h
    unfold RLS
    obtain ⟨a, b, c⟩ := h d (Nat.lt_succ_self d)
    rw [a, b, c, ih fun k hk => h k (Nat.lt_succ_of_lt hk)]
theorem RLS_pop {pm cs cw cm ca mk : Nat → Int} {base : Nat} {ip ia is : Nat → Int} {d : Nat} (h : ia d = pm (ip d).toNat) : RLS pm cs cw cm ca mk base ip ia is (d + 1) = RLS pm cs cw cm ca mk base ip ia is d := by
  show lgS _ _ _ ++ _ = _
  rw [h, Nat.sub_self]
  rfl
theorem RLS_head {pm cs cw cm ca mk : Nat → Int} {base : Nat} {ip ia is : Nat → Int} {d : Nat} {i w : Int} (h0 : 0 ≤ ia d) (h : ia d < pm (ip d).toNat) (hi : i = (d : Int)) (hw : w = ia d + 1) : RLS pm cs cw cm ca mk base ip ia is (d + 1) = elS pm cs cw cm ca mk base (ip d).toNat (is d) (ia d).toNat ++ RLS pm cs cw cm ca mk base ip (uF ia i w) is (d + 1) := by
  show lgS _ _ _ ++ _ = _ ++ (lgS _ _ _ ++ _)
  rw [uF_on hi, RLS_congr (ip' := ip) (ia' := uF ia i w) (is' := is) (fun k hk => ⟨rfl, uF_off hi hk, rfl⟩), hw]
  rw [show (pm (ip d).toNat).toNat - (ia d).toNat = ((pm (ip d).toNat).toNat - (ia d + 1).toNat) + 1 by omega]
  rw [show (ia d + 1).toNat = (ia d).toNat + 1 by omega, ← List.append_assoc]
  rfl
theorem RLS_push {pm cs cw cm ca mk : Nat → Int} {base : Nat} {ip ia is : Nat → Int} {d : Nat} {i w j v u x : Int} {k : Nat} (hi : i = (d : Int)) (hj : j = (d : Int)) (hu : u = (d : Int)) (hv : v = 0) (hw : w = (base : Int) + k) : RLS pm cs cw cm ca mk base (uF ip i w) (uF ia j v) (uF is u x) (d + 1) = lgS (elS pm cs cw cm ca mk base (base + k) x) 0 (pm (base + k)).toNat ++ RLS pm cs cw cm ca mk base ip ia is d := by
  show lgS _ _ _ ++ _ = _
  rw [uF_on hi, uF_on hj, uF_on hu, RLS_congr (ip' := uF ip i w) (ia' := uF ia j v) (is' := uF is u x) (fun k hk => ⟨uF_off hi hk, uF_off hj hk, uF_off hu hk⟩), hw, hv]
  rw [show ((base : Int) + k).toNat = base + k by omega]
  rfl
def xsL (xc xs : Nat → Int) (n : Int) : List (Nat × Int) := (List.range n.toNat).map fun x => ((xc x).toNat, xs x)
theorem xsL_snoc {xc xs : Nat → Int} {n n' j v u x : Int} (h0 : 0 ≤ n) (hn : n' = n + 1) (hj : j = n) (hu : u = n) : xsL (uF xc j v) (uF xs u x) n' = xsL xc xs n ++ [(v.toNat, x)] := by
  unfold xsL
  rw [show n'.toNat = n.toNat + 1 by omega, List.range_succ, List.map_append]
  congr 1
  · refine List.map_congr_left fun y hy => ?_
    have w := List.mem_range.mp hy
    rw [uF_off (d := n.toNat) (by omega) w, uF_off (d := n.toNat) (by omega) w]
  · show [((uF xc j v n.toNat).toNat, uF xs u x n.toNat)] = _
    rw [uF_on (by omega), uF_on (by omega)]
/-- the cues put in so far and those to come -/
def USp (pm cs cw cm ca mk xc xs ip ia is : Nat → Int) (s : Nat) (laid depth : Int) : Prop := xsL xc xs laid ++ RLS pm cs cw cm ca mk (7 * s) ip ia is (depth + 1).toNat = flS pm cs cw cm ca mk (7 * s) 7 6 0
theorem USp_first {pm cs cw cm ca mk xc xs ip ia is : Nat → Int} {s : Nat} {laid depth i w j v u x : Int} (hl : laid = 0) (hd : depth = 0) (hi : i = 0) (hj : j = 0) (hu : u = 0) (hv : v = 0) (hx : x = 0) (hw : w = 7 * s + 6) : USp pm cs cw cm ca mk xc xs (uF ip i w) (uF ia j v) (uF is u x) s laid depth := by
  unfold USp
  subst hl hd hx
  show [] ++ RLS _ _ _ _ _ _ _ _ _ _ (0 + 1) = _
  rw [RLS_push (k := 6) (d := 0) hi hj hu hv (by omega), flS_root]
  show _ ++ [] = _
  rw [List.append_nil]
theorem USp_pop {pm cs cw cm ca mk xc xs ip ia is : Nat → Int} {s : Nat} {laid depth depth' : Int} (h : USp pm cs cw cm ca mk xc xs ip ia is s laid depth) (h0 : 0 ≤ depth) (he : ia depth.toNat = pm (ip depth.toNat).toNat) (hd : depth' = depth - 1) : USp pm cs cw cm ca mk xc xs ip ia is s laid depth' := by
  unfold USp at h ⊢
  rw [show (depth + 1).toNat = depth.toNat + 1 by omega, RLS_pop he] at h
  rw [show (depth' + 1).toNat = depth.toNat by omega]
  exact h
theorem USp_lay {bl pm cs cw cm ca mk xc xs ip ia is : Nat → Int} {s : Nat} {laid depth c i w j v u x laid' : Int} (h : USp pm cs cw cm ca mk xc xs ip ia is s laid depth) (L : LVp bl pm ip ia s depth) (h0 : 0 ≤ depth) (hl : 0 ≤ laid) (hne : ¬ ia depth.toNat = pm (ip depth.toNat).toNat) (hc : c = 16 * ip depth.toNat + ia depth.toNat) (h5 : ¬ cs c.toNat = 5) (hi : i = depth) (hw : w = ia depth.toNat + 1) (hj : j = laid) (hv : v = c) (hu : u = laid) (hx : x = is depth.toNat) (hl' : laid' = laid + 1) : USp pm cs cw cm ca mk (uF xc j v) (uF xs u x) ip (uF ia i w) is s laid' depth := by
  have z := L depth.toNat (by omega)
  unfold USp at h ⊢
  rw [show (depth + 1).toNat = depth.toNat + 1 by omega] at h ⊢
  rw [RLS_head (i := i) (w := w) z.2.2.2.1 (by omega) (by omega) (by omega)] at h
  have ec : 16 * (ip depth.toNat).toNat + (ia depth.toNat).toNat = c.toNat := by omega
  have e : elS pm cs cw cm ca mk (7 * s) (ip depth.toNat).toNat (is depth.toNat) (ia depth.toNat).toNat = [(c.toNat, is depth.toNat)] := by
    unfold elS
    rw [ec, if_neg h5]
  rw [e] at h
  rw [xsL_snoc hl hl' hj hu, hv, hx, ← h, List.append_assoc]
theorem USp_use {bl pm cs cw cm ca cmt cn mk xc xs ip ia is : Nat → Int} {s : Nat} {laid depth c i w j v i2 w2 u x depth' : Int} (h : USp pm cs cw cm ca mk xc xs ip ia is s laid depth) (P : PGs bl pm cs cw cm ca cmt cn s) (L : LVp bl pm ip ia s depth) (h0 : 0 ≤ depth) (hne : ¬ ia depth.toNat = pm (ip depth.toNat).toNat) (hc : c = 16 * ip depth.toNat + ia depth.toNat) (h5 : cs c.toNat = 5) (hi : i = depth) (hw : w = ia depth.toNat + 1) (hj : j = depth + 1) (hv : v = 0) (hi2 : i2 = depth + 1) (hw2 : w2 = 7 * s + cw c.toNat) (hu : u = depth + 1) (hx : x = frM mk (cm c.toNat) (ca c.toNat) (is depth.toNat)) (hd : depth' = depth + 1) : USp pm cs cw cm ca mk xc xs (uF ip i2 w2) (uF (uF ia i w) j v) (uF is u x) s laid depth' := by
  have z := L depth.toNat (by omega)
  have w5 := use_at P L h0 hne hc h5
  unfold USp at h ⊢
  rw [show (depth + 1).toNat = depth.toNat + 1 by omega] at h
  rw [show (depth' + 1).toNat = (depth.toNat + 1) + 1 by omega]
  rw [RLS_head (i := i) (w := w) z.2.2.2.1 (by omega) (by omega) (by omega)] at h
  have ec : 16 * (ip depth.toNat).toNat + (ia depth.toNat).toNat = c.toNat := by omega
  have hbl := P.1.2
  have e : elS pm cs cw cm ca mk (7 * s) (ip depth.toNat).toNat (is depth.toNat) (ia depth.toNat).toNat = lgS (elS pm cs cw cm ca mk (7 * s) (7 * s + (cw c.toNat).toNat) x) 0 (pm (7 * s + (cw c.toNat).toNat)).toNat := by
    unfold elS
    rw [ec, if_pos h5, ← hx]
    exact flS_block P.uw (by omega) (by omega)
  rw [e] at h
  rw [RLS_push (k := (cw c.toNat).toNat) (d := depth.toNat + 1) (by omega) (by omega) (by omega) hv (by omega)]
  rw [← h]
theorem USp_end {pm cs cw cm ca mk xc xs ip ia is : Nat → Int} {s : Nat} {laid depth : Int} (h : USp pm cs cw cm ca mk xc xs ip ia is s laid depth) (hd : depth = -1) : xsL xc xs laid = flS pm cs cw cm ca mk (7 * s) 7 6 0 := by
  unfold USp at h
  subst hd
  rw [← h]
  show _ = _ ++ []
  rw [List.append_nil]
theorem xsL_len {xc xs : Nat → Int} {n : Int} : (xsL xc xs n).length = n.toNat := by
  unfold xsL
  rw [List.length_map, List.length_range]
theorem xsL_at {xc xs : Nat → Int} {n : Int} {L : List (Nat × Int)} {k : Int} {p : Nat × Int} (e : xsL xc xs n = L) (h : L[k.toNat]? = some p) : (xc k.toNat).toNat = p.1 ∧ xs k.toNat = p.2 := by
  rw [← e] at h
  unfold xsL at h
  rw [List.getElem?_map] at h
  have lt : k.toNat < n.toNat := by
    rcases Nat.lt_or_ge k.toNat n.toNat with w | w
    · exact w
    · rw [List.getElem?_eq_none (by rw [List.length_range]; exact w)] at h
      cases h
  rw [List.getElem?_range lt] at h
  have q := Option.some.inj h
  rw [← q]
  exact ⟨rfl, rfl⟩
/-- what cue answers -/
def cuA (cs cb cw cm ca mk : Nat → Int) (p : Nat × Int) (what : Int) : Int := if what = 0 then cs p.1 else if what = 1 then (if cs p.1 < 2 then frM mk (cm p.1) (ca p.1) p.2 else -1) else if what = 2 then cw p.1 else if what = 3 then cb p.1 else -1
