/-! MARKS of a sheet: what the cues, all blocks put in, are told by. -/
def ow (cm : Nat → Int) (c : Nat) (im : Int) : Int := if cm c = -1 then im else cm c
def mk2 (cs : Nat → Int) (c : Nat) (own to : Int) : List Nat := (if cs c < 2 ∧ ¬ own = -1 then [own.toNat] else []) ++ (if cs c = 1 ∧ ¬ to = -1 then [to.toNat] else [])
def fm (pm cs cw cm cmt : Nat → Int) (base : Nat) : Nat → Nat → Int → List Nat
  | 0, _, _ => []
  | n + 1, b, im => lg (fun i => mk2 cs (16 * (base + b) + i) (ow cm (16 * (base + b) + i) im) (ow cmt (16 * (base + b) + i) im) ++ (if cs (16 * (base + b) + i) = 5 then fm pm cs cw cm cmt base n (cw (16 * (base + b) + i)).toNat (ow cm (16 * (base + b) + i) im) else [])) 0 (pm (base + b)).toNat
def em (pm cs cw cm cmt : Nat → Int) (base c : Nat) (own to : Int) : List Nat := mk2 cs c own to ++ (if cs c = 5 then fm pm cs cw cm cmt base 6 (cw c).toNat own else [])
def em3 (pm cs cw cm cmt : Nat → Int) (base c : Nat) (own : Int) : List Nat := if cs c = 5 then fm pm cs cw cm cmt base 6 (cw c).toNat own else []
def em2 (pm cs cw cm cmt : Nat → Int) (base c : Nat) (own to : Int) : List Nat := (if cs c = 1 ∧ ¬ to = -1 then [to.toNat] else []) ++ em3 pm cs cw cm cmt base c own
def em1 (pm cs cw cm cmt : Nat → Int) (base c : Nat) (own to : Int) : List Nat := (if cs c < 2 ∧ ¬ own = -1 then [own.toNat] else []) ++ em2 pm cs cw cm cmt base c own to
theorem em_1 {pm cs cw cm cmt : Nat → Int} {base c : Nat} {own to : Int} : em pm cs cw cm cmt base c own to = em1 pm cs cw cm cmt base c own to := by
  unfold em em1 em2 em3 mk2
  rw [List.append_assoc]
def emi (pm cs cw cm cmt : Nat → Int) (base q : Nat) (im : Int) (i : Nat) : List Nat := em pm cs cw cm cmt base (16 * q + i) (ow cm (16 * q + i) im) (ow cmt (16 * q + i) im)
def RM (pm cs cw cm cmt : Nat → Int) (base : Nat) (ip ia im : Nat → Int) : Nat → List Nat
  | 0 => []
  | d + 1 => lg (emi pm cs cw cm cmt base (ip d).toNat (im d)) (ia d).toNat ((pm (ip d).toNat).toNat - (ia d).toNat) ++ RM pm cs cw cm cmt base ip ia im d
def mf (ms : Nat → Int) : Int → List Nat → Int
  | m, [] => m
  | m, k :: l => mf ms (if ms k > m then ms k else m) l
theorem mf_app {ms : Nat → Int} : ∀ (a b : List Nat) (m : Int), mf ms m (a ++ b) = mf ms (mf ms m a) b := by
  intro a
  induction a with
  | nil => intro b m; rfl
  | cons k l ih => intro b m; exact ih b _
def MKv (pm cs cw cm cmt mks : Nat → Int) (s : Nat) : Int := mf mks 0 (fm pm cs cw cm cmt (7 * s) 7 6 (-1))
section MSEC
variable {bl pm cs cw cm ca cmt cn mks ip ia im : Nat → Int}
theorem RM_congr {base : Nat} {ip' ia' im' : Nat → Int} : ∀ {d : Nat}, (∀ k, k < d → ip' k = ip k ∧ ia' k = ia k ∧ im' k = im k) → RM pm cs cw cm cmt base ip' ia' im' d = RM pm cs cw cm cmt base ip ia im d := by
  intro d
  induction d with
  | zero => intro _; rfl
  | succ d ih =>
    intro h
    unfold RM
    obtain ⟨a, b, c⟩ := h d (Nat.lt_succ_self d)
    rw [a, b, c, ih fun k hk => h k (Nat.lt_succ_of_lt hk)]
theorem fm_fuel {base : Nat} {B : Int} (h : UW pm cs cw base B) : ∀ (n m b : Nat) (im : Int), (b : Int) < B → b < n → b < m → fm pm cs cw cm cmt base n b im = fm pm cs cw cm cmt base m b im := by
  intro n
  induction n with
  | zero => intro m b _ _ z; exact absurd z (Nat.not_lt_zero _)
  | succ n ih =>
    intro m b im hb h1 h2
    cases m with
    | zero => exact absurd h2 (Nat.not_lt_zero _)
    | succ m =>
      unfold fm
      refine lg_congr fun j _ hj => ?_
      congr 1
      by_cases q : cs (16 * (base + b) + j) = 5
      · rw [if_pos q, if_pos q]
        have z := h b hb j (by omega) q
        exact ih m _ _ (by omega) (by omega) (by omega)
      · rw [if_neg q, if_neg q]
theorem fm_block {base : Nat} {B : Int} (h : UW pm cs cw base B) {b : Nat} (hb : (b : Int) < B) (h6 : b < 6) (im : Int) : fm pm cs cw cm cmt base 6 b im = lg (emi pm cs cw cm cmt base (base + b) im) 0 (pm (base + b)).toNat := by
  show lg _ _ _ = _
  refine lg_congr fun j _ hj => ?_
  unfold emi em
  congr 1
  by_cases q : cs (16 * (base + b) + j) = 5
  · rw [if_pos q, if_pos q]
    have z := h b hb j (by omega) q
    exact fm_fuel h 5 6 _ _ (by omega) (by omega) (by omega)
  · rw [if_neg q, if_neg q]
theorem RM_head {base : Nat} {d : Nat} {i w : Int} (h0 : 0 ≤ ia d) (h : ia d < pm (ip d).toNat) (hi : i = (d : Int)) (hw : w = ia d + 1) : RM pm cs cw cm cmt base ip ia im (d + 1) = emi pm cs cw cm cmt base (ip d).toNat (im d) (ia d).toNat ++ RM pm cs cw cm cmt base ip (uF ia i w) im (d + 1) := by
  show lg _ _ _ ++ _ = _ ++ (lg _ _ _ ++ _)
  rw [uF_on hi, RM_congr (ip' := ip) (ia' := uF ia i w) (im' := im) (fun k hk => ⟨rfl, uF_off hi hk, rfl⟩), hw]
  rw [show (pm (ip d).toNat).toNat - (ia d).toNat = ((pm (ip d).toNat).toNat - (ia d + 1).toNat) + 1 by omega]
  rw [show (ia d + 1).toNat = (ia d).toNat + 1 by omega, ← List.append_assoc]
  rfl
theorem RM_push {base : Nat} {d : Nat} {i w j v l u : Int} {k : Nat} (hi : i = (d : Int)) (hj : j = (d : Int)) (hl : l = (d : Int)) (hv : v = 0) (hw : w = (base : Int) + k) : RM pm cs cw cm cmt base (uF ip i w) (uF ia j v) (uF im l u) (d + 1) = lg (emi pm cs cw cm cmt base (base + k) u) 0 (pm (base + k)).toNat ++ RM pm cs cw cm cmt base ip ia im d := by
  show lg _ _ _ ++ _ = _
  rw [uF_on hi, uF_on hj, uF_on hl, RM_congr (ip' := uF ip i w) (ia' := uF ia j v) (im' := uF im l u) (fun k hk => ⟨uF_off hi hk, uF_off hj hk, uF_off hl hk⟩), hw, hv]
  rw [show ((base : Int) + k).toNat = base + k by omega]
  rfl
/-- the marks to come give, with the greatest so far, the whole's -/
def MLp (pm cs cw cm cmt mks ip ia im : Nat → Int) (s : Nat) (most depth : Int) (l : List Nat) : Prop := mf mks most (l ++ RM pm cs cw cm cmt (7 * s) ip ia im (depth + 1).toNat) = MKv pm cs cw cm cmt mks s
theorem ML_first {s : Nat} {most depth i w j v l u : Int} (hm : most = 0) (hd : depth = 0) (hi : i = 0) (hj : j = 0) (hl : l = 0) (hv : v = 0) (hu : u = -1) (hw : w = 7 * s + 6) : MLp pm cs cw cm cmt mks (uF ip i w) (uF ia j v) (uF im l u) s most depth [] := by
  unfold MLp MKv
  subst hm hd hu
  show mf mks 0 (RM _ _ _ _ _ _ _ _ _ (0 + 1)) = _
  rw [RM_push (k := 6) (d := 0) hi hj hl hv (by omega)]
  show mf mks 0 (_ ++ []) = _
  rw [List.append_nil]
  rfl
theorem ML_pop {s : Nat} {most depth depth' : Int} (h : MLp pm cs cw cm cmt mks ip ia im s most depth []) (h0 : 0 ≤ depth) (he : ia depth.toNat = pm (ip depth.toNat).toNat) (hd : depth' = depth - 1) : MLp pm cs cw cm cmt mks ip ia im s most depth' [] := by
  unfold MLp at h ⊢
  rw [show (depth + 1).toNat = depth.toNat + 1 by omega] at h
  rw [show (depth' + 1).toNat = depth.toNat by omega]
  have e : RM pm cs cw cm cmt (7 * s) ip ia im (depth.toNat + 1) = RM pm cs cw cm cmt (7 * s) ip ia im depth.toNat := by
    show lg _ _ _ ++ _ = _
    rw [he, Nat.sub_self]
    rfl
  rw [e] at h
  exact h
theorem ML_head {s : Nat} {most depth i w c own to : Int} (h : MLp pm cs cw cm cmt mks ip ia im s most depth []) (P : PGs bl pm cs cw cm ca cmt cn s) (L : LVp bl pm ip ia s depth) (h0 : 0 ≤ depth) (hne : ¬ ia depth.toNat = pm (ip depth.toNat).toNat) (hc : c = 16 * ip depth.toNat + ia depth.toNat) (hi : i = depth) (hw : w = ia depth.toNat + 1) (ho : own = ow cm c.toNat (im depth.toNat)) (ht : to = ow cmt c.toNat (im depth.toNat)) : MLp pm cs cw cm cmt mks ip (uF ia i w) im s most depth (em1 pm cs cw cm cmt (7 * s) c.toNat own to) := by
  have z := L depth.toNat (by omega)
  unfold MLp at h ⊢
  rw [show (depth + 1).toNat = depth.toNat + 1 by omega] at h ⊢
  rw [RM_head (i := i) (w := w) z.2.2.2.1 (by omega) (by omega) hw] at h
  have ec : 16 * (ip depth.toNat).toNat + (ia depth.toNat).toNat = c.toNat := by omega
  unfold emi at h
  rw [ec, ← ho, ← ht, em_1] at h
  exact h
theorem ML_one {s : Nat} {most most' depth own : Int} {a : Prop} {da : Decidable a} {l : List Nat} (h : MLp pm cs cw cm cmt mks ip ia im s most depth ((if a then [own.toNat] else []) ++ l)) (e : (a ∧ mks own.toNat > most ∧ most' = mks own.toNat) ∨ ((¬ a ∨ ¬ mks own.toNat > most) ∧ most' = most)) : MLp pm cs cw cm cmt mks ip ia im s most' depth l := by
  unfold MLp at h ⊢
  rw [← h, List.append_assoc]
  by_cases q : a
  · rw [if_pos q]
    show _ = mf mks (if mks own.toNat > most then mks own.toNat else most) _
    congr 1
    split <;> rcases e with ⟨_, y, z⟩ | ⟨y, z⟩
    · exact z
    · rcases y with y | y
      · exact absurd q y
      · omega
    · omega
    · exact z
  · rw [if_neg q]
    rcases e with ⟨y, _⟩ | ⟨_, z⟩
    · exact absurd y q
    · rw [z]
      rfl
theorem ML_skip {s : Nat} {most depth c own : Int} (h : MLp pm cs cw cm cmt mks ip ia im s most depth (em3 pm cs cw cm cmt (7 * s) c.toNat own)) (h5 : ¬ cs c.toNat = 5) : MLp pm cs cw cm cmt mks ip ia im s most depth [] := by
  unfold em3 at h
  rw [if_neg h5] at h
  exact h
/-- what a use asks -/
def UMp (bl pm cs cw ip : Nat → Int) (s : Nat) (depth c own : Int) : Prop := cs c.toNat = 5 → 0 ≤ cw c.toNat ∧ cw c.toNat < bl s ∧ cw c.toNat + 7 * s < ip depth.toNat ∧ depth ≤ 5 ∧ 0 ≤ pm (7 * s + (cw c.toNat).toNat) ∧ pm (7 * s + (cw c.toNat).toNat) ≤ 16 ∧ own ≤ 7
theorem UM_of {s : Nat} {depth c own : Int} (P : PGs bl pm cs cw cm ca cmt cn s) (L : LVp bl pm ip ia s depth) (h0 : 0 ≤ depth) (hne : ¬ ia depth.toNat = pm (ip depth.toNat).toNat) (hc : c = 16 * ip depth.toNat + ia depth.toNat) (ho : cs c.toNat = 5 → own ≤ 7) : UMp bl pm cs cw ip s depth c own := fun h5 => by
  have u := use_at P L h0 hne hc h5
  exact ⟨u.1, u.2.1, u.2.2.1, u.2.2.2.2.2.2.1, u.2.2.2.2.2.2.2.1, u.2.2.2.2.2.2.2.2, ho h5⟩
theorem ML_use {s : Nat} {most depth c own i w j v l u depth' : Int} (h : MLp pm cs cw cm cmt mks ip ia im s most depth (em3 pm cs cw cm cmt (7 * s) c.toNat own)) (P : PGs bl pm cs cw cm ca cmt cn s) (U : UMp bl pm cs cw ip s depth c own) (h0 : 0 ≤ depth) (h5 : cs c.toNat = 5) (hi : i = depth + 1) (hj : j = depth + 1) (hl : l = depth + 1) (hv : v = 0) (hu : u = own) (hw : w = 7 * s + cw c.toNat) (hd : depth' = depth + 1) : MLp pm cs cw cm cmt mks (uF ip i w) (uF ia j v) (uF im l u) s most depth' [] := by
  have z := U h5
  have hbl := P.1.2
  unfold MLp em3 at h
  unfold MLp
  rw [if_pos h5, fm_block P.uw (b := (cw c.toNat).toNat) (by omega) (by omega)] at h
  rw [show (depth' + 1).toNat = (depth.toNat + 1) + 1 by omega, RM_push (k := (cw c.toNat).toNat) (d := depth.toNat + 1) (by omega) (by omega) (by omega) hv (by omega), hu]
  rw [show (depth + 1).toNat = depth.toNat + 1 by omega] at h
  exact h
theorem ML_end {s : Nat} {most depth : Int} (h : MLp pm cs cw cm cmt mks ip ia im s most depth []) (hd : depth = -1) : most = MKv pm cs cw cm cmt mks s := by
  subst hd
  exact h
/-- the measure, when a cue has been taken -/
theorem MS_take {s : Nat} {depth i w : Int} (L : LVp bl pm ip ia s depth) (h0 : 0 ≤ depth) (hne : ¬ ia depth.toNat = pm (ip depth.toNat).toNat) (hi : i = depth) (hw : w = ia depth.toNat + 1) : MS pm (7 * s) ip (uF ia i w) (depth + 1).toNat + 18 ^ ((ip depth.toNat).toNat - 7 * s + 1) = MS pm (7 * s) ip ia (depth + 1).toNat := by
  have z := L depth.toNat (by omega)
  rw [show (depth + 1).toNat = depth.toNat + 1 by omega]
  exact MS_next z.2.2.2.1 (by omega) (by omega) hw
theorem MS_into {s : Nat} {depth c own i w j v depth' : Int} (U : UMp bl pm cs cw ip s depth c own) (h0 : 0 ≤ depth) (h5 : cs c.toNat = 5) (hi : i = depth + 1) (hj : j = depth + 1) (hv : v = 0) (hw : w = 7 * s + cw c.toNat) (hd : depth' = depth + 1) : MS pm (7 * s) (uF ip i w) (uF ia j v) (depth' + 1).toNat < MS pm (7 * s) ip ia (depth + 1).toNat + 18 ^ ((ip depth.toNat).toNat - 7 * s + 1) := by
  have z := U h5
  rw [show (depth' + 1).toNat = (depth.toNat + 1) + 1 by omega, show (depth + 1).toNat = depth.toNat + 1 by omega]
  exact MS_push (k := (cw c.toNat).toNat) (by omega) (by omega) hv (by omega) z.2.2.2.2.2.1 (by omega)
end MSEC
