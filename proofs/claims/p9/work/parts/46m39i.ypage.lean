/-! A PAGE WHILE IT IS TOLD. -/
/-- the sum by which a part's size is told -/
def szp (pm ps cs cw : Nat → Int) (base b : Nat) : Int := zg (fun i => if cs (16 * (base + b) + i) = 5 then ps (base + (cw (16 * (base + b) + i)).toNat) else 1) (pm (base + b)).toNat
def PTs (pm ps cs cw cm ca cmt cn : Nat → Int) (base b : Nat) (bd : Int) : Prop := (0 ≤ pm (base + b) ∧ pm (base + b) ≤ 16) ∧ (ps (base + b) < 1000 → szp pm ps cs cw base b ≤ ps (base + b)) ∧ ∀ i : Nat, (i : Int) < pm (base + b) → wCp cs cw cm ca cmt cn bd (16 * (base + b) + i)
def PBs (bl pm ps cs cw cm ca cmt cn : Nat → Int) (s : Nat) : Prop := ∀ b : Nat, (b : Int) < bl s → PTs pm ps cs cw cm ca cmt cn (7 * s) b b
def PWs (bl pm ps cs cw cm ca cmt cn : Nat → Int) (pg pt : Int) : Prop := PBs bl pm ps cs cw cm ca cmt cn pg.toNat ∧ PTs pm ps cs cw cm ca cmt cn (7 * pg.toNat) (pt - 7 * pg).toNat (bl pg.toNat)
theorem uF_lo {f : Nat → Int} {i w : Int} {x : Nat} (h : (x : Int) < i) : uF f i w x = f x := by
  rw [uF_at, if_neg (by omega)]
theorem wCp_cong {cs cw cm ca cmt cn cs' cw' cm' ca' cmt' cn' : Nat → Int} {b : Int} {c : Nat} (e : cs' c = cs c ∧ cw' c = cw c ∧ cm' c = cm c ∧ ca' c = ca c ∧ cmt' c = cmt c ∧ cn' (6 * c) = cn (6 * c) ∧ cn' (6 * c + 4) = cn (6 * c + 4) ∧ cn' (6 * c + 5) = cn (6 * c + 5)) (h : wCp cs cw cm ca cmt cn b c) : wCp cs' cw' cm' ca' cmt' cn' b c := by
  obtain ⟨e1, e2, e3, e4, e5, e6, e7, e8⟩ := e
  unfold wCp at h ⊢
  rw [e1, e2, e3, e4, e5, e6, e7, e8]
  exact h
/-- the cues below N are the same -/
def SMp (cs cw cm ca cmt cn cs' cw' cm' ca' cmt' cn' : Nat → Int) (N : Int) : Prop := ∀ x : Nat, (x : Int) < N → cs' x = cs x ∧ cw' x = cw x ∧ cm' x = cm x ∧ ca' x = ca x ∧ cmt' x = cmt x ∧ cn' (6 * x) = cn (6 * x) ∧ cn' (6 * x + 4) = cn (6 * x + 4) ∧ cn' (6 * x + 5) = cn (6 * x + 5)
section PSEC
variable {bl pm ps cs cw cm ca cmt cn bl' pm' ps' cs' cw' cm' ca' cmt' cn' : Nat → Int}
theorem PTs_cong {base b : Nat} {bd N : Int} (h : PTs pm ps cs cw cm ca cmt cn base b bd) (e : SMp cs cw cm ca cmt cn cs' cw' cm' ca' cmt' cn' N) (hN : 16 * ((base : Int) + b) + pm (base + b) ≤ N) : PTs pm ps cs' cw' cm' ca' cmt' cn' base b bd := by
  obtain ⟨h1, h2, h3⟩ := h
  refine ⟨h1, fun z => ?_, fun i hi => wCp_cong (e _ (by omega)) (h3 i hi)⟩
  have q := h2 z
  unfold szp at q ⊢
  refine Int.le_trans (Int.le_of_eq (zg_congr fun i hi => ?_)) q
  have y := e (16 * (base + b) + i) (by omega)
  rw [y.1, y.2.1]
theorem PW_cong {pg pt N : Int} (h : PWs bl pm ps cs cw cm ca cmt cn pg pt) (e : SMp cs cw cm ca cmt cn cs' cw' cm' ca' cmt' cn' N) (hi : 16 * pt + pm pt.toNat ≤ N) (hb : 7 * pg + bl pg.toNat ≤ pt) (h0 : 0 ≤ pg) (hbl : 0 ≤ bl pg.toNat) : PWs bl pm ps cs' cw' cm' ca' cmt' cn' pg pt := by
  have e2 := h.2.1
  rw [show 7 * pg.toNat + (pt - 7 * pg).toNat = pt.toNat by omega] at e2
  refine ⟨fun b hb' => PTs_cong (h.1 b hb') e ?_, PTs_cong h.2 e ?_⟩
  · have := (h.1 b hb').1
    omega
  · rw [show 7 * pg.toNat + (pt - 7 * pg).toNat = pt.toNat by omega]
    omega
/-- two rows of sizes that are the same for the parts told -/
theorem szp_ps {base b : Nat} {B : Int} (hb : (0 ≤ pm (base + b) ∧ pm (base + b) ≤ 16)) (hw : ∀ i : Nat, (i : Int) < pm (base + b) → wCp cs cw cm ca cmt cn B (16 * (base + b) + i)) (e : ∀ k : Nat, (k : Int) < B → ps' (base + k) = ps (base + k)) (hp : pm' (base + b) = pm (base + b)) : szp pm' ps' cs cw base b = szp pm ps cs cw base b := by
  unfold szp
  rw [hp]
  refine zg_congr fun i hi => ?_
  by_cases q : cs (16 * (base + b) + i) = 5
  · rw [if_pos q, if_pos q]
    have z := (hw i (by omega)).2.2.2.1 q
    exact e _ (by omega)
  · rw [if_neg q, if_neg q]
theorem PTs_ps {base b : Nat} {bd : Int} (h : PTs pm ps cs cw cm ca cmt cn base b bd) (e : ∀ k : Nat, (k : Int) < bd → ps' (base + k) = ps (base + k)) (e1 : ps' (base + b) = ps (base + b)) (hp : pm' (base + b) = pm (base + b)) : PTs pm' ps' cs cw cm ca cmt cn base b bd := by
  obtain ⟨h1, h2, h3⟩ := h
  refine ⟨by rw [hp]; exact h1, fun z => ?_, fun i hi => h3 i (by rw [hp] at hi; exact hi)⟩
  rw [e1] at z ⊢
  rw [szp_ps h1 h3 e hp]
  exact h2 z
/-- a cue more -/
theorem PW_add {pg pt : Int} (h : PWs bl pm ps cs cw cm ca cmt cn pg pt) (h0 : 0 ≤ pg) (hbl : 0 ≤ bl pg.toNat) (hb : 7 * pg + bl pg.toNat ≤ pt) (hp : pm pt.toNat < 16) {c : Nat} (hc : (c : Int) = 16 * pt + pm pt.toNat) (hw : wCp cs cw cm ca cmt cn (bl pg.toNat) c) {more i w : Int} (hm : more = if cs c = 5 then ps (7 * pg.toNat + (cw c).toNat) else 1) (hi : i = pt) (hw2 : w = pm pt.toNat + 1) (e : ∀ x : Nat, ¬ (x : Int) = pt → ps' x = ps x) (e1 : ps' pt.toNat < 1000 → ps' pt.toNat = ps pt.toNat + more) (hpos : ∀ x : Nat, 0 ≤ ps x) : PWs bl (uF pm i w) ps' cs cw cm ca cmt cn pg pt := by
  have ep : 7 * pg.toNat + (pt - 7 * pg).toNat = pt.toNat := by omega
  have z := h.2
  have lo : ∀ k : Nat, (k : Int) < bl pg.toNat → ps' (7 * pg.toNat + k) = ps (7 * pg.toNat + k) := fun k hk => e _ (by omega)
  refine ⟨fun b hb' => PTs_ps (h.1 b hb') (fun k hk => lo k (by omega)) (lo b hb') (by rw [uF_at, if_neg (by omega)]), ?_⟩
  obtain ⟨z1, z2, z3⟩ := z
  rw [ep] at z1 z2 z3
  have en : uF pm i w pt.toNat = pm pt.toNat + 1 := by rw [uF_at, if_pos (by omega), hw2]
  have wc : ∀ j : Nat, (j : Int) < pm pt.toNat + 1 → wCp cs cw cm ca cmt cn (bl pg.toNat) (16 * pt.toNat + j) := fun j hj => by
    by_cases q : (j : Int) = pm pt.toNat
    · rw [show 16 * pt.toNat + j = c by omega]
      exact hw
    · exact z3 j (by omega)
  refine ⟨by rw [ep, en]; omega, fun y => ?_, fun j hj => ?_⟩
  · rw [ep] at y ⊢
    have y1 := e1 y
    have hmp : 0 ≤ more := by
      rw [hm]
      split
      · exact hpos _
      · decide
    have y2 := z2 (by omega)
    have s1 : szp (uF pm i w) ps' cs cw (7 * pg.toNat) (pt - 7 * pg).toNat = szp pm ps cs cw (7 * pg.toNat) (pt - 7 * pg).toNat + more := by
      unfold szp
      rw [ep, en, show (pm pt.toNat + 1).toNat = (pm pt.toNat).toNat + 1 by omega]
      show zg _ _ + _ = _
      congr 1
      · refine zg_congr fun j hj => ?_
        by_cases q : cs (16 * pt.toNat + j) = 5
        · rw [if_pos q, if_pos q]
          have u := (z3 j (by omega)).2.2.2.1 q
          exact lo _ (by omega)
        · rw [if_neg q, if_neg q]
      · show (if cs (16 * pt.toNat + (pm pt.toNat).toNat) = 5 then ps' (7 * pg.toNat + (cw (16 * pt.toNat + (pm pt.toNat).toNat)).toNat) else 1) = more
        rw [show 16 * pt.toNat + (pm pt.toNat).toNat = c by omega, hm]
        by_cases q : cs c = 5
        · rw [if_pos q, if_pos q]
          have u := hw.2.2.2.1 q
          exact lo _ (by omega)
        · rw [if_neg q, if_neg q]
    rw [s1]
    omega
  · rw [ep, en] at hj
    rw [ep]
    exact wc j hj
/-- a part begins -/
theorem PW_new {pg pt i w j v : Int} (h : PBs bl pm ps cs cw cm ca cmt cn pg.toNat) (h0 : 0 ≤ pg) (hbl : 0 ≤ bl pg.toNat) (hb : 7 * pg + bl pg.toNat ≤ pt) (hi : i = pt) (hw : w = 0) (hj : j = pt) (hv : v = 0) : PWs bl (uF pm i w) (uF ps j v) cs cw cm ca cmt cn pg pt := by
  have ep : 7 * pg.toNat + (pt - 7 * pg).toNat = pt.toNat := by omega
  have en : uF pm i w pt.toNat = 0 := by rw [uF_at, if_pos (by omega), hw]
  have es : uF ps j v pt.toNat = 0 := by rw [uF_at, if_pos (by omega), hv]
  refine ⟨fun b hb' => PTs_ps (h b hb') (fun k hk => by rw [uF_at, if_neg (by omega)]) (by rw [uF_at, if_neg (by omega)]) (by rw [uF_at, if_neg (by omega)]), ?_, fun _ => ?_, fun k hk => ?_⟩
  · rw [ep, en]
    decide
  · unfold szp
    rw [ep, en, es]
    exact Int.le_refl 0
  · rw [ep, en] at hk
    omega
/-- a block is told -/
theorem PB_add {pg pt i w : Int} (h : PWs bl pm ps cs cw cm ca cmt cn pg pt) (h0 : 0 ≤ pg) (hbl : 0 ≤ bl pg.toNat) (hp : pt = 7 * pg + bl pg.toNat) (hi : i = pg) (hw : w = bl pg.toNat + 1) : PBs (uF bl i w) pm ps cs cw cm ca cmt cn pg.toNat := fun b hb => by
  rw [uF_at, if_pos (by omega), hw] at hb
  by_cases q : (b : Int) = bl pg.toNat
  · have z := h.2
    rw [show (pt - 7 * pg).toNat = b by omega, ← q] at z
    exact z
  · exact h.1 b (by omega)
theorem PB_first {pg : Nat} (h : bl pg = 0) : PBs bl pm ps cs cw cm ca cmt cn pg := fun b hb => by omega
theorem zg_le {f g : Nat → Int} : ∀ {n : Nat}, (∀ i, i < n → f i ≤ g i) → zg f n ≤ zg g n := by
  intro n
  induction n with
  | zero => intro _; exact Int.le_refl 0
  | succ n ih =>
    intro h
    have a := ih fun i hi => h i (Nat.lt_succ_of_lt hi)
    have b := h n (Nat.lt_succ_self n)
    show zg f n + f n ≤ zg g n + g n
    omega
theorem zg_ge {f : Nat → Int} : ∀ {n : Nat}, (∀ i, i < n → 0 ≤ f i) → ∀ i, i < n → f i ≤ zg f n := by
  intro n
  induction n with
  | zero => intro _ i hi; exact absurd hi (Nat.not_lt_zero _)
  | succ n ih =>
    intro h i hi
    show f i ≤ zg f n + f n
    have b := h n (Nat.lt_succ_self n)
    by_cases q : i = n
    · have := zg_pos (f := f) (n := n) fun j hj => h j (Nat.lt_succ_of_lt hj)
      rw [q]
      omega
    · have := ih (fun j hj => h j (Nat.lt_succ_of_lt hj)) i (by omega)
      omega
theorem zl_ps {s : Nat} (h : ∀ b : Nat, ((b : Int) < bl s ∨ b = 6) → PTs pm ps cs cw cm ca cmt cn (7 * s) b (if b = 6 then bl s else b)) (hb6 : bl s ≤ 6) (hpos : ∀ x : Nat, 0 ≤ ps x) : ∀ n b : Nat, ((b : Int) < bl s ∨ b = 6) → ps (7 * s + b) < 1000 → zl pm cs cw (7 * s) n b ≤ ps (7 * s + b) := by
  intro n
  induction n with
  | zero => intro b _ _; exact hpos _
  | succ n ih =>
    intro b hb hlt
    have z := h b hb
    have sz := z.2.1 hlt
    refine Int.le_trans ?_ sz
    unfold zl szp
    refine zg_le fun i hi => ?_
    by_cases q : cs (16 * (7 * s + b) + i) = 5
    · rw [if_pos q, if_pos q]
      have u := (z.2.2 i (by omega)).2.2.2.1 q
      have ub : cw (16 * (7 * s + b) + i) < bl s := by
        by_cases b6 : b = 6
        · rw [if_pos b6] at u; omega
        · rw [if_neg b6] at u; omega
      refine ih _ (.inl (by omega)) ?_
      have g := zg_ge (f := fun i => if cs (16 * (7 * s + b) + i) = 5 then ps (7 * s + (cw (16 * (7 * s + b) + i)).toNat) else 1) (n := (pm (7 * s + b)).toNat) (fun j _ => by
        show 0 ≤ ite _ _ _
        split
        · exact hpos _
        · decide) i hi
      simp only [if_pos q] at g
      unfold szp at sz
      omega
    · rw [if_neg q, if_neg q]
      exact Int.le_refl 1
/-- the page is told -/
theorem PGs_of {pg pt : Int} (h : PWs bl pm ps cs cw cm ca cmt cn pg pt) (h0 : 0 ≤ pg) (hbl : 0 ≤ bl pg.toNat) (hb6 : bl pg.toNat ≤ 6) (hp : pt = 7 * pg + 6) (h40 : ps pt.toNat ≤ 40) (hpos : ∀ x : Nat, 0 ≤ ps x) : PGs bl pm cs cw cm ca cmt cn pg.toNat := by
  have all : ∀ b : Nat, ((b : Int) < bl pg.toNat ∨ b = 6) → PTs pm ps cs cw cm ca cmt cn (7 * pg.toNat) b (if b = 6 then bl pg.toNat else b) := fun b hb => by
    by_cases q : b = 6
    · have z := h.2
      rw [show (pt - 7 * pg).toNat = b by omega] at z
      rw [if_pos q]
      exact z
    · rw [if_neg q]
      exact h.1 b (by omega)
  refine ⟨⟨hbl, hb6⟩, fun b hb => ⟨(all b hb).1, (all b hb).2.2⟩, ?_⟩
  have e : pt.toNat = 7 * pg.toNat + 6 := by omega
  rw [e] at h40
  exact Int.le_trans (zl_ps all hb6 hpos 7 6 (.inr rfl) (by omega)) h40
/-- pages told before stay -/
theorem zl_cong {s : Nat} {N : Int} (h : PGs bl pm cs cw cm ca cmt cn s) (e : SMp cs cw cm ca cmt cn cs' cw' cm' ca' cmt' cn' N) (hN : 112 * ((s : Int) + 1) ≤ N) (ep : ∀ b : Nat, b < 7 → pm' (7 * s + b) = pm (7 * s + b)) : ∀ n b : Nat, ((b : Int) < bl s ∨ b = 6) → zl pm' cs' cw' (7 * s) n b = zl pm cs cw (7 * s) n b := by
  intro n
  induction n with
  | zero => intro b _; rfl
  | succ n ih =>
    intro b hb
    have z := h.2.1 b hb
    have hb6 := h.1.2
    unfold zl
    rw [ep b (by omega)]
    refine zg_congr fun i hi => ?_
    have y := e (16 * (7 * s + b) + i) (by omega)
    rw [y.1, y.2.1]
    by_cases q : cs (16 * (7 * s + b) + i) = 5
    · rw [if_pos q, if_pos q]
      have u := (z.2 i (by omega)).2.2.2.1 q
      refine ih _ (.inl ?_)
      by_cases b6 : b = 6
      · rw [if_pos b6] at u; omega
      · rw [if_neg b6] at u; omega
    · rw [if_neg q, if_neg q]
theorem PGs_cong {s : Nat} {N : Int} (h : PGs bl pm cs cw cm ca cmt cn s) (e : SMp cs cw cm ca cmt cn cs' cw' cm' ca' cmt' cn' N) (hN : 112 * ((s : Int) + 1) ≤ N) (ep : ∀ b : Nat, b < 7 → pm' (7 * s + b) = pm (7 * s + b)) (eb : bl' s = bl s) : PGs bl' pm' cs' cw' cm' ca' cmt' cn' s := by
  have hz := zl_cong h e hN ep 7 6 (.inr rfl)
  obtain ⟨h1, h2, h3⟩ := h
  refine ⟨by rw [eb]; exact h1, fun b hb => ?_, by rw [hz]; exact h3⟩
  rw [eb] at hb ⊢
  have z := h2 b hb
  rw [ep b (by omega)]
  exact ⟨z.1, fun i hi => wCp_cong (e _ (by omega)) (z.2 i hi)⟩
theorem fl_cong {s : Nat} {N : Int} (h : PGs bl pm cs cw cm ca cmt cn s) (e : SMp cs cw cm ca cmt cn cs' cw' cm' ca' cmt' cn' N) (hN : 112 * ((s : Int) + 1) ≤ N) (ep : ∀ b : Nat, b < 7 → pm' (7 * s + b) = pm (7 * s + b)) : ∀ n b : Nat, ((b : Int) < bl s ∨ b = 6) → fl pm' cs' cw' (7 * s) n b = fl pm cs cw (7 * s) n b := by
  intro n
  induction n with
  | zero => intro b _; rfl
  | succ n ih =>
    intro b hb
    have z := h.2.1 b hb
    have hb6 := h.1.2
    unfold fl
    rw [ep b (by omega)]
    refine lg_congr fun i _ hi => ?_
    have y := e (16 * (7 * s + b) + i) (by omega)
    rw [y.1, y.2.1]
    by_cases q : cs (16 * (7 * s + b) + i) = 5
    · rw [if_pos q, if_pos q]
      have u := (z.2 i (by omega)).2.2.2.1 q
      refine ih _ (.inl ?_)
      by_cases b6 : b = 6
      · rw [if_pos b6] at u; omega
      · rw [if_neg b6] at u; omega
    · rw [if_neg q, if_neg q]
theorem ACs_cong {S sh N : Int} {kind off ms : Nat → Int} (h : ACs S sh kind off ms pm cs cw) (g : ∀ s : Nat, (s : Int) < sh → PGs bl pm cs cw cm ca cmt cn s) (e : SMp cs cw cm ca cmt cn cs' cw' cm' ca' cmt' cn' N) (hN : 112 * sh ≤ N) (ep : ∀ x : Nat, (x : Int) < 7 * sh → pm' x = pm x) : ACs S sh kind off ms pm' cs' cw' := by
  obtain ⟨h1, r, h2⟩ := h
  refine ⟨h1, r, fun k hk j z => h2 k hk j ?_⟩
  rcases z with z | ⟨z6, zm, c, hc, c0, cj⟩
  · exact .inl z
  · have hs := h1 k hk z6 zm
    have ge := g (ms k).toNat (by omega)
    rw [fl_cong ge e (by omega) (fun b hb => ep _ (by omega)) 7 6 (.inr rfl)] at hc
    have cl := (fl_good ge 7 6 (.inr rfl) hc).2
    have y := e c (by omega)
    exact .inr ⟨z6, zm, c, hc, by rw [← y.1]; exact c0, by rw [← y.2.1]; exact cj⟩
end PSEC
def PBp (v_page : Int) (r_blocks r_partMany r_partSize r_cSort r_cWhat r_cMark r_cAt r_cMarkTo r_cNumber : Nat → Int) : Prop := PBs r_blocks r_partMany r_partSize r_cSort r_cWhat r_cMark r_cAt r_cMarkTo r_cNumber v_page.toNat
def PB (h : gH) : Prop := PBp (hV h 285 32) (hV h 294) (hV h 296) (hV h 297) (hV h 298) (hV h 300) (hV h 301) (hV h 302) (hV h 303) (hV h 305)
theorem PB_fr {W : List (Nat × Nat)} {a b : gH} (f : hFr W a b) (c : (vFree W 285 32 && (vFreeR W 294 && (vFreeR W 296 && (vFreeR W 297 && (vFreeR W 298 && (vFreeR W 300 && (vFreeR W 301 && (vFreeR W 302 && (vFreeR W 303 && (vFreeR W 305 && (true))))))))))) = true) : PB b = PB a := by
  simp only [Bool.and_eq_true] at c
  unfold PB
  rw [f.1 285 32 (c.1), fRow f 294 (c.2.1), fRow f 296 (c.2.2.1), fRow f 297 (c.2.2.2.1), fRow f 298 (c.2.2.2.2.1), fRow f 300 (c.2.2.2.2.2.1), fRow f 301 (c.2.2.2.2.2.2.1), fRow f 302 (c.2.2.2.2.2.2.2.1), fRow f 303 (c.2.2.2.2.2.2.2.2.1), fRow f 305 (c.2.2.2.2.2.2.2.2.2.1)]
theorem PB_upR {a b : gH} {o i w : Int} {n : Nat} (f : hUpd b a o i w) (e : o = (n : Int)) (c : (!(Nat.beq 294 n) && (!(Nat.beq 296 n) && (!(Nat.beq 297 n) && (!(Nat.beq 298 n) && (!(Nat.beq 300 n) && (!(Nat.beq 301 n) && (!(Nat.beq 302 n) && (!(Nat.beq 303 n) && (!(Nat.beq 305 n) && (!(Nat.beq 285 n) && (true))))))))))) = true) : PB b = PB a := by
  simp only [Bool.and_eq_true] at c
  unfold PB
  rw [uPlace f 285 32 (iS e (by have z := c.2.2.2.2.2.2.2.2.2.1; simpa using z)), uRowNe f 294 (iS e (by have z := c.1; simpa using z)), uRowNe f 296 (iS e (by have z := c.2.1; simpa using z)), uRowNe f 297 (iS e (by have z := c.2.2.1; simpa using z)), uRowNe f 298 (iS e (by have z := c.2.2.2.1; simpa using z)), uRowNe f 300 (iS e (by have z := c.2.2.2.2.1; simpa using z)), uRowNe f 301 (iS e (by have z := c.2.2.2.2.2.1; simpa using z)), uRowNe f 302 (iS e (by have z := c.2.2.2.2.2.2.1; simpa using z)), uRowNe f 303 (iS e (by have z := c.2.2.2.2.2.2.2.1; simpa using z)), uRowNe f 305 (iS e (by have z := c.2.2.2.2.2.2.2.2.1; simpa using z))]
theorem PB_upF {a b : gH} {o i w : Int} {n : Nat} (f : hUpd b a o i w) (e : o = 285) (e2 : i = (n : Int)) (c : (!(Nat.beq 32 n) && (true)) = true) : PB b = PB a := by
  simp only [Bool.and_eq_true] at c
  unfold PB
  rw [uSlot f 285 32 (iS e2 (by have z := c.1; simpa using z)), uRowNe f 294 (iS (e : o = ((285 : Nat) : Int)) rfl), uRowNe f 296 (iS (e : o = ((285 : Nat) : Int)) rfl), uRowNe f 297 (iS (e : o = ((285 : Nat) : Int)) rfl), uRowNe f 298 (iS (e : o = ((285 : Nat) : Int)) rfl), uRowNe f 300 (iS (e : o = ((285 : Nat) : Int)) rfl), uRowNe f 301 (iS (e : o = ((285 : Nat) : Int)) rfl), uRowNe f 302 (iS (e : o = ((285 : Nat) : Int)) rfl), uRowNe f 303 (iS (e : o = ((285 : Nat) : Int)) rfl), uRowNe f 305 (iS (e : o = ((285 : Nat) : Int)) rfl)]
def PWp (v_page v_part : Int) (r_blocks r_partMany r_partSize r_cSort r_cWhat r_cMark r_cAt r_cMarkTo r_cNumber : Nat → Int) : Prop := PWs r_blocks r_partMany r_partSize r_cSort r_cWhat r_cMark r_cAt r_cMarkTo r_cNumber v_page v_part
def PW (h : gH) : Prop := PWp (hV h 285 32) (hV h 285 33) (hV h 294) (hV h 296) (hV h 297) (hV h 298) (hV h 300) (hV h 301) (hV h 302) (hV h 303) (hV h 305)
theorem PW_fr {W : List (Nat × Nat)} {a b : gH} (f : hFr W a b) (c : (vFree W 285 32 && (vFree W 285 33 && (vFreeR W 294 && (vFreeR W 296 && (vFreeR W 297 && (vFreeR W 298 && (vFreeR W 300 && (vFreeR W 301 && (vFreeR W 302 && (vFreeR W 303 && (vFreeR W 305 && (true)))))))))))) = true) : PW b = PW a := by
  simp only [Bool.and_eq_true] at c
  unfold PW
  rw [f.1 285 32 (c.1), f.1 285 33 (c.2.1), fRow f 294 (c.2.2.1), fRow f 296 (c.2.2.2.1), fRow f 297 (c.2.2.2.2.1), fRow f 298 (c.2.2.2.2.2.1), fRow f 300 (c.2.2.2.2.2.2.1), fRow f 301 (c.2.2.2.2.2.2.2.1), fRow f 302 (c.2.2.2.2.2.2.2.2.1), fRow f 303 (c.2.2.2.2.2.2.2.2.2.1), fRow f 305 (c.2.2.2.2.2.2.2.2.2.2.1)]
theorem PW_upR {a b : gH} {o i w : Int} {n : Nat} (f : hUpd b a o i w) (e : o = (n : Int)) (c : (!(Nat.beq 294 n) && (!(Nat.beq 296 n) && (!(Nat.beq 297 n) && (!(Nat.beq 298 n) && (!(Nat.beq 300 n) && (!(Nat.beq 301 n) && (!(Nat.beq 302 n) && (!(Nat.beq 303 n) && (!(Nat.beq 305 n) && (!(Nat.beq 285 n) && (true))))))))))) = true) : PW b = PW a := by
  simp only [Bool.and_eq_true] at c
  unfold PW
  rw [uPlace f 285 32 (iS e (by have z := c.2.2.2.2.2.2.2.2.2.1; simpa using z)), uPlace f 285 33 (iS e (by have z := c.2.2.2.2.2.2.2.2.2.1; simpa using z)), uRowNe f 294 (iS e (by have z := c.1; simpa using z)), uRowNe f 296 (iS e (by have z := c.2.1; simpa using z)), uRowNe f 297 (iS e (by have z := c.2.2.1; simpa using z)), uRowNe f 298 (iS e (by have z := c.2.2.2.1; simpa using z)), uRowNe f 300 (iS e (by have z := c.2.2.2.2.1; simpa using z)), uRowNe f 301 (iS e (by have z := c.2.2.2.2.2.1; simpa using z)), uRowNe f 302 (iS e (by have z := c.2.2.2.2.2.2.1; simpa using z)), uRowNe f 303 (iS e (by have z := c.2.2.2.2.2.2.2.1; simpa using z)), uRowNe f 305 (iS e (by have z := c.2.2.2.2.2.2.2.2.1; simpa using z))]
theorem PW_upF {a b : gH} {o i w : Int} {n : Nat} (f : hUpd b a o i w) (e : o = 285) (e2 : i = (n : Int)) (c : (!(Nat.beq 32 n) && (!(Nat.beq 33 n) && (true))) = true) : PW b = PW a := by
  simp only [Bool.and_eq_true] at c
  unfold PW
  rw [uSlot f 285 32 (iS e2 (by have z := c.1; simpa using z)), uSlot f 285 33 (iS e2 (by have z := c.2.1; simpa using z)), uRowNe f 294 (iS (e : o = ((285 : Nat) : Int)) rfl), uRowNe f 296 (iS (e : o = ((285 : Nat) : Int)) rfl), uRowNe f 297 (iS (e : o = ((285 : Nat) : Int)) rfl), uRowNe f 298 (iS (e : o = ((285 : Nat) : Int)) rfl), uRowNe f 300 (iS (e : o = ((285 : Nat) : Int)) rfl), uRowNe f 301 (iS (e : o = ((285 : Nat) : Int)) rfl), uRowNe f 302 (iS (e : o = ((285 : Nat) : Int)) rfl), uRowNe f 303 (iS (e : o = ((285 : Nat) : Int)) rfl), uRowNe f 305 (iS (e : o = ((285 : Nat) : Int)) rfl)]
def PQp (r_blocks r_partMany r_partSize : Nat → Int) : Prop := ∀ s : Nat, (0 ≤ r_blocks s ∧ r_blocks s ≤ 6) ∧ 0 ≤ r_partMany s ∧ 0 ≤ r_partSize s ∧ r_partSize s ≤ 1000
def PQ (h : gH) : Prop := PQp (hV h 294) (hV h 296) (hV h 297)
theorem PQ_fr {W : List (Nat × Nat)} {a b : gH} (f : hFr W a b) (c : (vFreeR W 294 && (vFreeR W 296 && (vFreeR W 297 && (true)))) = true) : PQ b = PQ a := by
  simp only [Bool.and_eq_true] at c
  unfold PQ
  rw [fRow f 294 (c.1), fRow f 296 (c.2.1), fRow f 297 (c.2.2.1)]
theorem PQ_upR {a b : gH} {o i w : Int} {n : Nat} (f : hUpd b a o i w) (e : o = (n : Int)) (c : (!(Nat.beq 294 n) && (!(Nat.beq 296 n) && (!(Nat.beq 297 n) && (!(Nat.beq 285 n) && (true))))) = true) : PQ b = PQ a := by
  simp only [Bool.and_eq_true] at c
  unfold PQ
  rw [uRowNe f 294 (iS e (by have z := c.1; simpa using z)), uRowNe f 296 (iS e (by have z := c.2.1; simpa using z)), uRowNe f 297 (iS e (by have z := c.2.2.1; simpa using z))]
theorem PQ_upF {a b : gH} {o i w : Int} {n : Nat} (f : hUpd b a o i w) (e : o = 285) (e2 : i = (n : Int)) (c : (true) = true) : PQ b = PQ a := by
  unfold PQ
  rw [uRowNe f 294 (iS (e : o = ((285 : Nat) : Int)) rfl), uRowNe f 296 (iS (e : o = ((285 : Nat) : Int)) rfl), uRowNe f 297 (iS (e : o = ((285 : Nat) : Int)) rfl)]
theorem PQ_at {h : gH} (z : PQ h) (s : Nat) : (0 ≤ (hV h 294) s ∧ (hV h 294) s ≤ 6) ∧ 0 ≤ (hV h 296) s ∧ 0 ≤ (hV h 297) s ∧ (hV h 297) s ≤ 1000 := z s
def PAp (v_sheets v_sounds : Int) (r_blocks r_partMany r_cSort r_cWhat r_cMark r_cAt r_cMarkTo r_cNumber r_kind r_of r_madeSheet : Nat → Int) : Prop := PGp v_sheets r_blocks r_partMany r_cSort r_cWhat r_cMark r_cAt r_cMarkTo r_cNumber ∧ ACs v_sounds v_sheets r_kind r_of r_madeSheet r_partMany r_cSort r_cWhat
def PA (h : gH) : Prop := PAp (hV h 285 18) (hV h 285 64) (hV h 294) (hV h 296) (hV h 298) (hV h 300) (hV h 301) (hV h 302) (hV h 303) (hV h 305) (hV h 328) (hV h 332) (hV h 335)
theorem PA_fr {W : List (Nat × Nat)} {a b : gH} (f : hFr W a b) (c : (vFree W 285 18 && (vFree W 285 64 && (vFreeR W 294 && (vFreeR W 296 && (vFreeR W 298 && (vFreeR W 300 && (vFreeR W 301 && (vFreeR W 302 && (vFreeR W 303 && (vFreeR W 305 && (vFreeR W 328 && (vFreeR W 332 && (vFreeR W 335 && (true)))))))))))))) = true) : PA b = PA a := by
  simp only [Bool.and_eq_true] at c
  unfold PA
  rw [f.1 285 18 (c.1), f.1 285 64 (c.2.1), fRow f 294 (c.2.2.1), fRow f 296 (c.2.2.2.1), fRow f 298 (c.2.2.2.2.1), fRow f 300 (c.2.2.2.2.2.1), fRow f 301 (c.2.2.2.2.2.2.1), fRow f 302 (c.2.2.2.2.2.2.2.1), fRow f 303 (c.2.2.2.2.2.2.2.2.1), fRow f 305 (c.2.2.2.2.2.2.2.2.2.1), fRow f 328 (c.2.2.2.2.2.2.2.2.2.2.1), fRow f 332 (c.2.2.2.2.2.2.2.2.2.2.2.1), fRow f 335 (c.2.2.2.2.2.2.2.2.2.2.2.2.1)]
theorem PA_upR {a b : gH} {o i w : Int} {n : Nat} (f : hUpd b a o i w) (e : o = (n : Int)) (c : (!(Nat.beq 294 n) && (!(Nat.beq 296 n) && (!(Nat.beq 298 n) && (!(Nat.beq 300 n) && (!(Nat.beq 301 n) && (!(Nat.beq 302 n) && (!(Nat.beq 303 n) && (!(Nat.beq 305 n) && (!(Nat.beq 328 n) && (!(Nat.beq 332 n) && (!(Nat.beq 335 n) && (!(Nat.beq 285 n) && (true))))))))))))) = true) : PA b = PA a := by
  simp only [Bool.and_eq_true] at c
  unfold PA
  rw [uPlace f 285 18 (iS e (by have z := c.2.2.2.2.2.2.2.2.2.2.2.1; simpa using z)), uPlace f 285 64 (iS e (by have z := c.2.2.2.2.2.2.2.2.2.2.2.1; simpa using z)), uRowNe f 294 (iS e (by have z := c.1; simpa using z)), uRowNe f 296 (iS e (by have z := c.2.1; simpa using z)), uRowNe f 298 (iS e (by have z := c.2.2.1; simpa using z)), uRowNe f 300 (iS e (by have z := c.2.2.2.1; simpa using z)), uRowNe f 301 (iS e (by have z := c.2.2.2.2.1; simpa using z)), uRowNe f 302 (iS e (by have z := c.2.2.2.2.2.1; simpa using z)), uRowNe f 303 (iS e (by have z := c.2.2.2.2.2.2.1; simpa using z)), uRowNe f 305 (iS e (by have z := c.2.2.2.2.2.2.2.1; simpa using z)), uRowNe f 328 (iS e (by have z := c.2.2.2.2.2.2.2.2.1; simpa using z)), uRowNe f 332 (iS e (by have z := c.2.2.2.2.2.2.2.2.2.1; simpa using z)), uRowNe f 335 (iS e (by have z := c.2.2.2.2.2.2.2.2.2.2.1; simpa using z))]
theorem PA_upF {a b : gH} {o i w : Int} {n : Nat} (f : hUpd b a o i w) (e : o = 285) (e2 : i = (n : Int)) (c : (!(Nat.beq 18 n) && (!(Nat.beq 64 n) && (true))) = true) : PA b = PA a := by
  simp only [Bool.and_eq_true] at c
  unfold PA
  rw [uSlot f 285 18 (iS e2 (by have z := c.1; simpa using z)), uSlot f 285 64 (iS e2 (by have z := c.2.1; simpa using z)), uRowNe f 294 (iS (e : o = ((285 : Nat) : Int)) rfl), uRowNe f 296 (iS (e : o = ((285 : Nat) : Int)) rfl), uRowNe f 298 (iS (e : o = ((285 : Nat) : Int)) rfl), uRowNe f 300 (iS (e : o = ((285 : Nat) : Int)) rfl), uRowNe f 301 (iS (e : o = ((285 : Nat) : Int)) rfl), uRowNe f 302 (iS (e : o = ((285 : Nat) : Int)) rfl), uRowNe f 303 (iS (e : o = ((285 : Nat) : Int)) rfl), uRowNe f 305 (iS (e : o = ((285 : Nat) : Int)) rfl), uRowNe f 328 (iS (e : o = ((285 : Nat) : Int)) rfl), uRowNe f 332 (iS (e : o = ((285 : Nat) : Int)) rfl), uRowNe f 335 (iS (e : o = ((285 : Nat) : Int)) rfl)]
theorem SM_cs {cs cw cm ca cmt cn : Nat → Int} {N i w : Int} (hi : N ≤ i) : SMp cs cw cm ca cmt cn (uF cs i w) cw cm ca cmt cn N := fun x hx => ⟨uF_lo (by omega), rfl, rfl, rfl, rfl, rfl, rfl, rfl⟩
theorem PW_cs {bl pm ps cs cw cm ca cmt cn : Nat → Int} {pg pt i w : Int} (h : PWp pg pt bl pm ps cs cw cm ca cmt cn) (hi : (16 * pt + pm pt.toNat) ≤ i) (hb : 7 * pg + bl pg.toNat ≤ pt) (h0 : 0 ≤ pg) (hbl : 0 ≤ bl pg.toNat) : PWp pg pt bl pm ps (uF cs i w) cw cm ca cmt cn := PW_cong h (SM_cs hi) (Int.le_refl _) hb h0 hbl
theorem PA_cs {bl pm cs cw cm ca cmt cn kind off ms : Nat → Int} {sh S i w : Int} (h : PAp sh S bl pm cs cw cm ca cmt cn kind off ms) (hi : (112 * sh) ≤ i) : PAp sh S bl pm (uF cs i w) cw cm ca cmt cn kind off ms := ⟨fun s hs => PGs_cong (h.1 s hs) (SM_cs (N := 112 * sh) hi) (by omega) (fun _ _ => rfl) rfl, ACs_cong h.2 h.1 (SM_cs (N := 112 * sh) hi) (Int.le_refl _) (fun _ _ => rfl)⟩
theorem SM_cw {cs cw cm ca cmt cn : Nat → Int} {N i w : Int} (hi : N ≤ i) : SMp cs cw cm ca cmt cn cs (uF cw i w) cm ca cmt cn N := fun x hx => ⟨rfl, uF_lo (by omega), rfl, rfl, rfl, rfl, rfl, rfl⟩
theorem PW_cw {bl pm ps cs cw cm ca cmt cn : Nat → Int} {pg pt i w : Int} (h : PWp pg pt bl pm ps cs cw cm ca cmt cn) (hi : (16 * pt + pm pt.toNat) ≤ i) (hb : 7 * pg + bl pg.toNat ≤ pt) (h0 : 0 ≤ pg) (hbl : 0 ≤ bl pg.toNat) : PWp pg pt bl pm ps cs (uF cw i w) cm ca cmt cn := PW_cong h (SM_cw hi) (Int.le_refl _) hb h0 hbl
theorem PA_cw {bl pm cs cw cm ca cmt cn kind off ms : Nat → Int} {sh S i w : Int} (h : PAp sh S bl pm cs cw cm ca cmt cn kind off ms) (hi : (112 * sh) ≤ i) : PAp sh S bl pm cs (uF cw i w) cm ca cmt cn kind off ms := ⟨fun s hs => PGs_cong (h.1 s hs) (SM_cw (N := 112 * sh) hi) (by omega) (fun _ _ => rfl) rfl, ACs_cong h.2 h.1 (SM_cw (N := 112 * sh) hi) (Int.le_refl _) (fun _ _ => rfl)⟩
theorem SM_cm {cs cw cm ca cmt cn : Nat → Int} {N i w : Int} (hi : N ≤ i) : SMp cs cw cm ca cmt cn cs cw (uF cm i w) ca cmt cn N := fun x hx => ⟨rfl, rfl, uF_lo (by omega), rfl, rfl, rfl, rfl, rfl⟩
theorem PW_cm {bl pm ps cs cw cm ca cmt cn : Nat → Int} {pg pt i w : Int} (h : PWp pg pt bl pm ps cs cw cm ca cmt cn) (hi : (16 * pt + pm pt.toNat) ≤ i) (hb : 7 * pg + bl pg.toNat ≤ pt) (h0 : 0 ≤ pg) (hbl : 0 ≤ bl pg.toNat) : PWp pg pt bl pm ps cs cw (uF cm i w) ca cmt cn := PW_cong h (SM_cm hi) (Int.le_refl _) hb h0 hbl
theorem PA_cm {bl pm cs cw cm ca cmt cn kind off ms : Nat → Int} {sh S i w : Int} (h : PAp sh S bl pm cs cw cm ca cmt cn kind off ms) (hi : (112 * sh) ≤ i) : PAp sh S bl pm cs cw (uF cm i w) ca cmt cn kind off ms := ⟨fun s hs => PGs_cong (h.1 s hs) (SM_cm (N := 112 * sh) (w := w) hi) (by omega) (fun _ _ => rfl) rfl, ACs_cong h.2 h.1 (SM_cm (N := 112 * sh) (w := w) hi) (Int.le_refl _) (fun _ _ => rfl)⟩
theorem SM_ca {cs cw cm ca cmt cn : Nat → Int} {N i w : Int} (hi : N ≤ i) : SMp cs cw cm ca cmt cn cs cw cm (uF ca i w) cmt cn N := fun x hx => ⟨rfl, rfl, rfl, uF_lo (by omega), rfl, rfl, rfl, rfl⟩
theorem PW_ca {bl pm ps cs cw cm ca cmt cn : Nat → Int} {pg pt i w : Int} (h : PWp pg pt bl pm ps cs cw cm ca cmt cn) (hi : (16 * pt + pm pt.toNat) ≤ i) (hb : 7 * pg + bl pg.toNat ≤ pt) (h0 : 0 ≤ pg) (hbl : 0 ≤ bl pg.toNat) : PWp pg pt bl pm ps cs cw cm (uF ca i w) cmt cn := PW_cong h (SM_ca hi) (Int.le_refl _) hb h0 hbl
theorem PA_ca {bl pm cs cw cm ca cmt cn kind off ms : Nat → Int} {sh S i w : Int} (h : PAp sh S bl pm cs cw cm ca cmt cn kind off ms) (hi : (112 * sh) ≤ i) : PAp sh S bl pm cs cw cm (uF ca i w) cmt cn kind off ms := ⟨fun s hs => PGs_cong (h.1 s hs) (SM_ca (N := 112 * sh) (w := w) hi) (by omega) (fun _ _ => rfl) rfl, ACs_cong h.2 h.1 (SM_ca (N := 112 * sh) (w := w) hi) (Int.le_refl _) (fun _ _ => rfl)⟩
theorem SM_cmt {cs cw cm ca cmt cn : Nat → Int} {N i w : Int} (hi : N ≤ i) : SMp cs cw cm ca cmt cn cs cw cm ca (uF cmt i w) cn N := fun x hx => ⟨rfl, rfl, rfl, rfl, uF_lo (by omega), rfl, rfl, rfl⟩
theorem PW_cmt {bl pm ps cs cw cm ca cmt cn : Nat → Int} {pg pt i w : Int} (h : PWp pg pt bl pm ps cs cw cm ca cmt cn) (hi : (16 * pt + pm pt.toNat) ≤ i) (hb : 7 * pg + bl pg.toNat ≤ pt) (h0 : 0 ≤ pg) (hbl : 0 ≤ bl pg.toNat) : PWp pg pt bl pm ps cs cw cm ca (uF cmt i w) cn := PW_cong h (SM_cmt hi) (Int.le_refl _) hb h0 hbl
theorem PA_cmt {bl pm cs cw cm ca cmt cn kind off ms : Nat → Int} {sh S i w : Int} (h : PAp sh S bl pm cs cw cm ca cmt cn kind off ms) (hi : (112 * sh) ≤ i) : PAp sh S bl pm cs cw cm ca (uF cmt i w) cn kind off ms := ⟨fun s hs => PGs_cong (h.1 s hs) (SM_cmt (N := 112 * sh) (w := w) hi) (by omega) (fun _ _ => rfl) rfl, ACs_cong h.2 h.1 (SM_cmt (N := 112 * sh) (w := w) hi) (Int.le_refl _) (fun _ _ => rfl)⟩
theorem SM_cn {cs cw cm ca cmt cn : Nat → Int} {N i w : Int} (hi : 6 * N ≤ i) : SMp cs cw cm ca cmt cn cs cw cm ca cmt (uF cn i w) N := fun x hx => ⟨rfl, rfl, rfl, rfl, rfl, uF_lo (by omega), uF_lo (by omega), uF_lo (by omega)⟩
theorem PW_cn {bl pm ps cs cw cm ca cmt cn : Nat → Int} {pg pt i w : Int} (h : PWp pg pt bl pm ps cs cw cm ca cmt cn) (hi : 6 * (16 * pt + pm pt.toNat) ≤ i) (hb : 7 * pg + bl pg.toNat ≤ pt) (h0 : 0 ≤ pg) (hbl : 0 ≤ bl pg.toNat) : PWp pg pt bl pm ps cs cw cm ca cmt (uF cn i w) := PW_cong h (SM_cn hi) (Int.le_refl _) hb h0 hbl
theorem PA_cn {bl pm cs cw cm ca cmt cn kind off ms : Nat → Int} {sh S i w : Int} (h : PAp sh S bl pm cs cw cm ca cmt cn kind off ms) (hi : 6 * (112 * sh) ≤ i) : PAp sh S bl pm cs cw cm ca cmt (uF cn i w) kind off ms := ⟨fun s hs => PGs_cong (h.1 s hs) (SM_cn (N := 112 * sh) (w := w) hi) (by omega) (fun _ _ => rfl) rfl, ACs_cong h.2 h.1 (SM_cn (N := 112 * sh) (w := w) hi) (Int.le_refl _) (fun _ _ => rfl)⟩
theorem SM_rfl {cs cw cm ca cmt cn : Nat → Int} {N : Int} : SMp cs cw cm ca cmt cn cs cw cm ca cmt cn N := fun _ _ => ⟨rfl, rfl, rfl, rfl, rfl, rfl, rfl, rfl⟩
theorem PA_pm {bl pm cs cw cm ca cmt cn kind off ms : Nat → Int} {sh S i w : Int} (h : PAp sh S bl pm cs cw cm ca cmt cn kind off ms) (hi : 7 * sh ≤ i) : PAp sh S bl (uF pm i w) cs cw cm ca cmt cn kind off ms := ⟨fun s hs => PGs_cong (h.1 s hs) (SM_rfl (N := 112 * sh)) (by omega) (fun _ _ => uF_lo (by omega)) rfl, ACs_cong h.2 h.1 (SM_rfl (N := 112 * sh)) (Int.le_refl _) (fun _ _ => uF_lo (by omega))⟩
theorem PA_bl {bl pm cs cw cm ca cmt cn kind off ms : Nat → Int} {sh S i w : Int} (h : PAp sh S bl pm cs cw cm ca cmt cn kind off ms) (hi : sh ≤ i) : PAp sh S (uF bl i w) pm cs cw cm ca cmt cn kind off ms := ⟨fun s hs => PGs_cong (h.1 s hs) (SM_rfl (N := 112 * sh)) (by omega) (fun _ _ => rfl) (uF_lo (by omega)), h.2⟩
theorem PA_more {bl pm cs cw cm ca cmt cn kind off ms : Nat → Int} {sh S sh' : Int} (h : PAp sh S bl pm cs cw cm ca cmt cn kind off ms) (h0 : 0 ≤ sh) (e : sh' = sh + 1) (n : PGs bl pm cs cw cm ca cmt cn sh.toNat) : PAp sh' S bl pm cs cw cm ca cmt cn kind off ms := by
  refine ⟨fun s hs => ?_, fun k hk a b => ?_, h.2.2⟩
  · by_cases q : (s : Int) = sh
    · rw [show s = sh.toNat by omega]
      exact n
    · exact h.1 s (by omega)
  · have := h.2.1 k hk a b
    omega
theorem PQ_up {bl pm ps : Nat → Int} {i w : Int} (h : PQp bl pm ps) (h0 : 0 ≤ w) (hw : w ≤ 1000) : PQp bl pm (uF ps i w) := fun s => by
  obtain ⟨a, b, c, d⟩ := h s
  refine ⟨a, b, ?_⟩
  rw [uF_at]
  split
  · exact ⟨h0, hw⟩
  · exact ⟨c, d⟩
theorem PQ_cap {bl pm ps : Nat → Int} {i v j w : Int} (h : PQp bl pm ps) (e : i = j) (h0 : 0 ≤ w) (hw : w ≤ 1000) : PQp bl pm (uF (uF ps i v) j w) := fun s => by
  obtain ⟨a, b, c, d⟩ := h s
  refine ⟨a, b, ?_⟩
  rw [uF_at]
  split
  · exact ⟨h0, hw⟩
  · rw [uF_at, if_neg (by omega)]
    exact ⟨c, d⟩
theorem PQ_pm {bl pm ps : Nat → Int} {i w : Int} (h : PQp bl pm ps) (h0 : 0 ≤ w) : PQp bl (uF pm i w) ps := fun s => by
  obtain ⟨a, b, c⟩ := h s
  refine ⟨a, ?_, c⟩
  rw [uF_at]
  split
  · exact h0
  · exact b
theorem PQ_bl {bl pm ps : Nat → Int} {i w : Int} (h : PQp bl pm ps) (h0 : 0 ≤ w) (h6 : w ≤ 6) : PQp (uF bl i w) pm ps := fun s => by
  obtain ⟨a, b⟩ := h s
  refine ⟨?_, b⟩
  rw [uF_at]
  split
  · exact ⟨h0, h6⟩
  · exact a
def WNp (bl ps cs cw cm ca cmt cn : Nat → Int) (pg : Int) (c : Nat) (more : Int) : Prop := wCp cs cw cm ca cmt cn (bl pg.toNat) c ∧ more = if cs c = 5 then ps (7 * pg.toNat + (cw c).toNat) else 1
section WSEC
variable {bl ps cs cw cm ca cmt cn : Nat → Int} {pg c more : Int}
theorem WN_lay (h0 : 0 ≤ c) (hs : cs c.toNat = 0) (a : 0 ≤ cw c.toNat) (b : cw c.toNat ≤ 19) (d : 1 ≤ cn (6 * c + 4).toNat) (e : 0 ≤ cn (6 * c + 5).toNat) (f : cn (6 * c + 5).toNat ≤ 2) (g : cm c.toNat ≤ 7) (m : more = 1) : WNp bl ps cs cw cm ca cmt cn pg c.toNat more := by
  rw [show (6 * c + 4).toNat = 6 * c.toNat + 4 by omega] at d
  rw [show (6 * c + 5).toNat = 6 * c.toNat + 5 by omega] at e f
  refine ⟨⟨fun _ => ⟨a, b, d, e, f⟩, fun z => by omega, fun z => by omega, fun z => by omega, fun _ => g, fun z => by omega⟩, ?_⟩
  rw [if_neg (by omega)]
  exact m
theorem WN_fade (hs : cs c.toNat = 1) (g : cm c.toNat ≤ 7) (g2 : cmt c.toNat ≤ 7) (m : more = 1) : WNp bl ps cs cw cm ca cmt cn pg c.toNat more := by
  refine ⟨⟨fun z => by omega, fun z => by omega, fun z => by omega, fun z => by omega, fun _ => g, fun _ => g2⟩, ?_⟩
  rw [if_neg (by omega)]
  exact m
theorem WN_dip (h0 : 0 ≤ c) (hs : cs c.toNat = 2) (a : 0 ≤ cw c.toNat) (b : cw c.toNat ≤ 2) (e : 0 ≤ cn (6 * c).toNat) (f : cn (6 * c).toNat ≤ 2) (m : more = 1) : WNp bl ps cs cw cm ca cmt cn pg c.toNat more := by
  rw [show (6 * c).toNat = 6 * c.toNat by omega] at e f
  refine ⟨⟨fun z => by omega, fun _ => ⟨a, b, e, f⟩, fun z => by omega, fun z => by omega, fun z => by omega, fun z => by omega⟩, ?_⟩
  rw [if_neg (by omega)]
  exact m
theorem WN_taps (h0 : 0 ≤ c) (hs : cs c.toNat = 3) (a : 0 ≤ cw c.toNat) (b : cw c.toNat ≤ 2) (f : cn (6 * c).toNat ≤ 4) (m : more = 1) : WNp bl ps cs cw cm ca cmt cn pg c.toNat more := by
  rw [show (6 * c).toNat = 6 * c.toNat by omega] at f
  refine ⟨⟨fun z => by omega, fun z => by omega, fun _ => ⟨a, b, f⟩, fun z => by omega, fun z => by omega, fun z => by omega⟩, ?_⟩
  rw [if_neg (by omega)]
  exact m
theorem WN_clip (hs : cs c.toNat = 4) (m : more = 1) : WNp bl ps cs cw cm ca cmt cn pg c.toNat more := by
  refine ⟨⟨fun z => by omega, fun z => by omega, fun z => by omega, fun z => by omega, fun z => by omega, fun z => by omega⟩, ?_⟩
  rw [if_neg (by omega)]
  exact m
theorem WN_use (hs : cs c.toNat = 5) (a : 0 ≤ cw c.toNat) (b : cw c.toNat < bl pg.toNat) (d : -60 ≤ ca c.toNat) (e : ca c.toNat ≤ 60) (g : cm c.toNat ≤ 7) (hp : 0 ≤ pg) (m : more = ps (7 * pg + cw c.toNat).toNat) : WNp bl ps cs cw cm ca cmt cn pg c.toNat more := by
  refine ⟨⟨fun z => by omega, fun z => by omega, fun z => by omega, fun _ => ⟨a, b, d, e⟩, fun _ => g, fun z => by omega⟩, ?_⟩
  rw [if_pos hs, m, show (7 * pg + cw c.toNat).toNat = 7 * pg.toNat + (cw c.toNat).toNat by omega]
end WSEC
/-- the cue counts: once for a part that isn't full, once for one that is -/
theorem PWp_add {bl pm ps cs cw cm ca cmt cn : Nat → Int} {pg pt c more i w j v : Int} (h : PWp pg pt bl pm ps cs cw cm ca cmt cn) (n : WNp bl ps cs cw cm ca cmt cn pg c.toNat more) (h0 : 0 ≤ pg) (hbl : 0 ≤ bl pg.toNat) (hb : 7 * pg + bl pg.toNat ≤ pt) (hp0 : 0 ≤ pm pt.toNat) (hp : pm pt.toNat < 16) (hc : c = 16 * pt + pm pt.toNat) (hi : i = pt) (hw : w = pm pt.toNat + 1) (hj : j = pt) (hv : v = ps pt.toNat + more) (hpos : ∀ x : Nat, 0 ≤ ps x) : PWp pg pt bl (uF pm i w) (uF ps j v) cs cw cm ca cmt cn := PW_add h h0 hbl hb hp (c := c.toNat) (by omega) n.1 (more := more) n.2 hi hw (fun x hx => by rw [uF_at, if_neg (by omega)]) (fun _ => by rw [uF_at, if_pos (by omega), hv]) hpos
theorem PWp_cap {bl pm ps cs cw cm ca cmt cn : Nat → Int} {pg pt c more i w j v j2 v2 : Int} (h : PWp pg pt bl pm ps cs cw cm ca cmt cn) (n : WNp bl ps cs cw cm ca cmt cn pg c.toNat more) (h0 : 0 ≤ pg) (hbl : 0 ≤ bl pg.toNat) (hb : 7 * pg + bl pg.toNat ≤ pt) (hp0 : 0 ≤ pm pt.toNat) (hp : pm pt.toNat < 16) (hc : c = 16 * pt + pm pt.toNat) (hi : i = pt) (hw : w = pm pt.toNat + 1) (hj : j = pt) (hj2 : j2 = pt) (hv : v2 = 1000) (hpos : ∀ x : Nat, 0 ≤ ps x) : PWp pg pt bl (uF pm i w) (uF (uF ps j v) j2 v2) cs cw cm ca cmt cn := PW_add h h0 hbl hb hp (c := c.toNat) (by omega) n.1 (more := more) n.2 hi hw (fun x hx => by rw [uF_at, if_neg (by omega), uF_at, if_neg (by omega)]) (fun z => by rw [uF_at, if_pos (by omega)] at z; omega) hpos
