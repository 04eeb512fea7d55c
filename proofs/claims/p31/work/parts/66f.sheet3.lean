/-! THE REFERENCE'S CUES (hand; behind sheet, rread and the reference's parts). -/
/-- no fault behind, no fault ahead -/
theorem fzR {a b : gH} {E F : PS} (za : RI a) (zb : RI b) (ea : absR a = E) (eb : absR b = F) (hn : E.1 < 0 → pOK E → F = E) (hf : hV b 285 13 = 0) : hV a 285 13 = 0 ∧ 0 ≤ E.1 := by
  have hp := (absR_pos zb hf).2
  rw [eb] at hp
  have ok := absR_ok za
  rw [ea] at ok
  have e0 : 0 ≤ E.1 := by
    rcases Int.lt_or_le E.1 0 with w | w
    · rw [hn w ok] at hp
      exact hp
    · exact w
  exact ⟨faultR_no za (by rw [ea]; exact e0), e0⟩
theorem posR {b : gH} {F : PS} (zb : RI b) (eb : absR b = F) (hf : hV b 285 13 = 0) : 0 ≤ F.1 := by
  have hp := (absR_pos zb hf).2
  rw [eb] at hp
  exact hp
theorem uRowQ2 {h' h : gH} {o i w : Int} (f : hUpd h' h o i w) (q : Nat) (e : o = (q : Int)) : hV h' q = uF (hV h q) i w := funext fun j => by
  rw [f.1 q j, uF_at]
  by_cases c : (j : Int) = i
  · rw [if_pos c, if_pos ⟨e.symm, c⟩]
  · rw [if_neg c, if_neg (fun z => c z.2)]
/-- all CUES but one stay -/
def CRo (a b : gH) (c : Int) : Prop := (∀ q : Nat, 298 ≤ q → q ≤ 304 → ∀ j : Nat, ¬ (j : Int) = c → hV b q j = hV a q j) ∧ ∀ j : Nat, ¬ ((j / 6 : Nat) : Int) = c → hV b 305 j = hV a 305 j
theorem CRo_rfl {a : gH} {c : Int} : CRo a a c := ⟨fun _ _ _ _ _ => rfl, fun _ _ => rfl⟩
theorem CRo_tr {a b d : gH} {c : Int} (x : CRo a b c) (y : CRo b d c) : CRo a d c := ⟨fun q h1 h2 j n => (y.1 q h1 h2 j n).trans (x.1 q h1 h2 j n), fun j n => (y.2 j n).trans (x.2 j n)⟩
noncomputable def cC8 (W : List (Nat × Nat)) : Bool := vFreeR W 298 && (vFreeR W 299 && (vFreeR W 300 && (vFreeR W 301 && (vFreeR W 302 && (vFreeR W 303 && (vFreeR W 304 && vFreeR W 305))))))
/-- all CUES stay -/
def CR8 (a b : gH) : Prop := hV b 298 = hV a 298 ∧ hV b 299 = hV a 299 ∧ hV b 300 = hV a 300 ∧ hV b 301 = hV a 301 ∧ hV b 302 = hV a 302 ∧ hV b 303 = hV a 303 ∧ hV b 304 = hV a 304 ∧ hV b 305 = hV a 305
theorem CR8_rfl {a : gH} : CR8 a a := ⟨rfl, rfl, rfl, rfl, rfl, rfl, rfl, rfl⟩
theorem CR8_fr {W : List (Nat × Nat)} {a b : gH} (f : hFr W a b) (w : cC8 W = true) : CR8 a b := by
  unfold cC8 at w
  simp only [Bool.and_eq_true] at w
  obtain ⟨w1, w2, w3, w4, w5, w6, w7, w8⟩ := w
  exact ⟨fRow f 298 w1, fRow f 299 w2, fRow f 300 w3, fRow f 301 w4, fRow f 302 w5, fRow f 303 w6, fRow f 304 w7, fRow f 305 w8⟩
theorem CR8_285 {a b : gH} {o i w : Int} (u : hUpd b a o i w) (e : o = 285) : CR8 a b := by
  refine ⟨?_, ?_, ?_, ?_, ?_, ?_, ?_, ?_⟩ <;> exact uRowNe u _ (by rw [e]; decide)
theorem CR8_tr {a b d : gH} (x : CR8 a b) (y : CR8 b d) : CR8 a d := by
  obtain ⟨x1, x2, x3, x4, x5, x6, x7, x8⟩ := x
  obtain ⟨y1, y2, y3, y4, y5, y6, y7, y8⟩ := y
  exact ⟨y1.trans x1, y2.trans x2, y3.trans x3, y4.trans x4, y5.trans x5, y6.trans x6, y7.trans x7, y8.trans x8⟩
theorem CRo_8 {a b : gH} {c : Int} (x : CR8 a b) : CRo a b c := by
  obtain ⟨x1, x2, x3, x4, x5, x6, x7, x8⟩ := x
  refine ⟨fun q h1 h2 j _ => ?_, fun j _ => congrFun x8 j⟩
  have hq : q = 298 ∨ q = 299 ∨ q = 300 ∨ q = 301 ∨ q = 302 ∨ q = 303 ∨ q = 304 := by omega
  rcases hq with rfl | rfl | rfl | rfl | rfl | rfl | rfl
  · exact congrFun x1 j
  · exact congrFun x2 j
  · exact congrFun x3 j
  · exact congrFun x4 j
  · exact congrFun x5 j
  · exact congrFun x6 j
  · exact congrFun x7 j
theorem CRo_up {a b : gH} {o i w c : Int} (u : hUpd b a o i w) (hi : i = c) (ho : ¬ o = 305) : CRo a b c := ⟨fun q _ _ j n => by
  rw [u.1 q j, if_neg (fun z => n (z.2.trans hi))], fun j _ => by
  rw [u.1 305 j, if_neg (fun z => ho (by have := z.1; omega))]⟩
theorem CRo_up5 {a b : gH} {o i w c : Int} (u : hUpd b a o i w) (ho : o = 305) {k : Int} (hi : i = 6 * c + k) (h0 : 0 ≤ k) (h6 : k < 6) : CRo a b c := ⟨fun q _ h2 j _ => by
  rw [u.1 q j, if_neg (fun z => by have := z.1; omega)], fun j n => by
  rw [u.1 305 j, if_neg (fun z => n (by have := z.2; omega))]⟩
/-- what a CUE of the reference says -/
def recR (h : gH) (c : Nat) : CR := (hV h 298 c, hV h 299 c, hV h 300 c, hV h 301 c, if hV h 298 c = 0 ∨ hV h 298 c = 1 ∨ hV h 298 c = 5 then hV h 302 c else 0, hV h 303 c, if hV h 298 c = 1 then hV h 304 c else 0, if hV h 298 c = 0 then hV h 305 (6 * c) else 0, if hV h 298 c = 0 then hV h 305 (6 * c + 1) else 0, if hV h 298 c = 0 then hV h 305 (6 * c + 2) else 0, if hV h 298 c = 0 then hV h 305 (6 * c + 3) else 0, if hV h 298 c = 0 then hV h 305 (6 * c + 4) else 0)
theorem recR_eq {a b : gH} {c : Nat} (e : CRo a b (-1)) : recR b c = recR a c := by
  have f : ∀ q : Nat, 298 ≤ q → q ≤ 304 → hV b q c = hV a q c := fun q h1 h2 => e.1 q h1 h2 c (by omega)
  have g : ∀ k : Nat, hV b 305 k = hV a 305 k := fun k => e.2 k (by omega)
  unfold recR
  rw [f 298 (by decide) (by decide), f 299 (by decide) (by decide), f 300 (by decide) (by decide), f 301 (by decide) (by decide), f 302 (by decide) (by decide), f 303 (by decide) (by decide), f 304 (by decide) (by decide), g, g, g, g, g]
theorem recR_ne {a b : gH} {c : Nat} {d : Int} (e : CRo a b d) (n : ¬ (c : Int) = d) : recR b c = recR a c := by
  have f : ∀ q : Nat, 298 ≤ q → q ≤ 304 → hV b q c = hV a q c := fun q h1 h2 => e.1 q h1 h2 c n
  have g : ∀ k : Nat, k < 6 → hV b 305 (6 * c + k) = hV a 305 (6 * c + k) := fun k hk => e.2 (6 * c + k) (by rw [show (6 * c + k) / 6 = c by omega]; exact n)
  have g0 := g 0 (by decide)
  unfold recR
  rw [f 298 (by decide) (by decide), f 299 (by decide) (by decide), f 300 (by decide) (by decide), f 301 (by decide) (by decide), f 302 (by decide) (by decide), f 303 (by decide) (by decide), f 304 (by decide) (by decide), show hV b 305 (6 * c) = hV a 305 (6 * c) from g0, g 1 (by decide), g 2 (by decide), g 3 (by decide), g 4 (by decide)]
theorem CR8_lo {a b : gH} {o i w : Int} {q : Nat} (u : hUpd b a o i w) (e : o = (q : Int)) (h : q < 298) : CR8 a b := by
  refine ⟨?_, ?_, ?_, ?_, ?_, ?_, ?_, ?_⟩ <;> exact uRowNe u _ (by omega)
theorem recR_lay {h : gH} {c : Nat} (e : hV h 298 c = 0) : recR h c = (0, hV h 299 c, hV h 300 c, hV h 301 c, hV h 302 c, hV h 303 c, 0, hV h 305 (6 * c), hV h 305 (6 * c + 1), hV h 305 (6 * c + 2), hV h 305 (6 * c + 3), hV h 305 (6 * c + 4)) := by
  unfold recR
  rw [e, if_pos (.inl rfl), if_neg (by decide), if_pos rfl, if_pos rfl, if_pos rfl, if_pos rfl, if_pos rfl]
theorem recR_fade {h : gH} {c : Nat} (e : hV h 298 c = 1) : recR h c = (1, hV h 299 c, hV h 300 c, hV h 301 c, hV h 302 c, hV h 303 c, hV h 304 c, 0, 0, 0, 0, 0) := by
  unfold recR
  rw [e, if_pos (.inr (.inl rfl)), if_pos rfl, if_neg (by decide), if_neg (by decide), if_neg (by decide), if_neg (by decide), if_neg (by decide)]
theorem recR_x {h : gH} {c : Nat} {k : Int} (e : hV h 298 c = k) (k2 : 2 ≤ k) (k4 : k ≤ 4) : recR h c = (k, hV h 299 c, hV h 300 c, hV h 301 c, 0, hV h 303 c, 0, 0, 0, 0, 0, 0) := by
  unfold recR
  rw [e, if_neg (by omega), if_neg (by omega), if_neg (by omega), if_neg (by omega), if_neg (by omega), if_neg (by omega), if_neg (by omega)]
theorem recR_use {h : gH} {c : Nat} (e : hV h 298 c = 5) : recR h c = (5, hV h 299 c, hV h 300 c, hV h 301 c, hV h 302 c, hV h 303 c, 0, 0, 0, 0, 0, 0) := by
  unfold recR
  rw [e, if_pos (.inr (.inr rfl)), if_neg (by decide), if_neg (by decide), if_neg (by decide), if_neg (by decide), if_neg (by decide), if_neg (by decide)]
/-- the search for a block's NAME from behind: the first block of it -/
def SPi (h : gH) (nm x w : Int) : Prop := w = pfi (BLg (fun k => hV h 295 ((6 * hV h 285 32).toNat + k)) (fun k => hV h 297 ((7 * hV h 285 32).toNat + k)) (x + 1).toNat ((hV h 294 (hV h 285 32).toNat).toNat - (x + 1).toNat)) nm (x + 1)
theorem SPi_0 {h : gH} {nm x : Int} (e : x = hV h 294 (hV h 285 32).toNat - 1) : SPi h nm x (-1) := by
  unfold SPi
  rw [show (hV h 294 (hV h 285 32).toNat).toNat - (x + 1).toNat = 0 by omega]
  rfl
theorem SPi_hit {h : gH} {nm x x' w : Int} (s : SPi h nm x w) (h0 : 0 ≤ x) (h1 : x < hV h 294 (hV h 285 32).toNat) (e : x' = x - 1) (k : hV h 295 ((6 * hV h 285 32).toNat + x.toNat) = nm) : SPi h nm x' x := by
  subst e
  unfold SPi
  rw [show (x - 1 + 1).toNat = x.toNat by omega, show (hV h 294 (hV h 285 32).toNat).toNat - x.toNat = ((hV h 294 (hV h 285 32).toNat).toNat - x.toNat - 1) + 1 by omega, show x - 1 + 1 = x by omega]
  exact (if_pos k).symm
theorem SPi_no {h : gH} {nm x x' w : Int} (s : SPi h nm x w) (h0 : 0 ≤ x) (h1 : x < hV h 294 (hV h 285 32).toNat) (e : x' = x - 1) (k : ¬ hV h 295 ((6 * hV h 285 32).toNat + x.toNat) = nm) : SPi h nm x' w := by
  subst e
  unfold SPi at s ⊢
  rw [show (x - 1 + 1).toNat = x.toNat by omega, show (hV h 294 (hV h 285 32).toNat).toNat - x.toNat = ((hV h 294 (hV h 285 32).toNat).toNat - (x + 1).toNat) + 1 by omega, show x - 1 + 1 = x by omega]
  rw [show (x + 1).toNat = x.toNat + 1 by omega] at s
  rw [show (x + 1).toNat = x.toNat + 1 by omega]
  exact s.trans (if_neg k).symm
theorem SPi_end {h : gH} {nm x w : Int} (s : SPi h nm x w) (h0 : x = -1) : w = pfi (BLr h) nm 0 := by
  subst h0
  exact s
/-- a kind that is one: no fault -/
theorem kdR_nf {h : gH} {k : Int} (z : RI h) (e : (vwR h).1 (absR h).1 = k) (h0 : 0 ≤ k) : hV h 285 13 = 0 := Classical.byContradiction fun c => by
  have w := vwR_ok h _ (absR_neg z c)
  omega
/-- the CUES of a part, the first n -/
def lsR (h : gH) (p : Nat) : Nat → List CR
  | 0 => []
  | n + 1 => lsR h p n ++ [recR h (16 * p + n)]
theorem lsR_len {h : gH} {p : Nat} : ∀ {n : Nat}, (lsR h p n).length = n
  | 0 => rfl
  | n + 1 => by
    show (lsR h p n ++ [recR h (16 * p + n)]).length = n + 1
    rw [List.length_append, lsR_len]
    rfl
theorem lsR_eq {a h : gH} {p : Nat} : ∀ {n : Nat}, (∀ k, k < n → recR h (16 * p + k) = recR a (16 * p + k)) → lsR h p n = lsR a p n
  | 0, _ => rfl
  | n + 1, e => by
    show lsR h p n ++ [recR h (16 * p + n)] = lsR a p n ++ [recR a (16 * p + n)]
    rw [lsR_eq (fun k hk => e k (by omega)), e n (by omega)]
theorem lsR_snoc {h : gH} {p n : Nat} {D : List CR} : lsR h p (n + 1) ++ D = lsR h p n ++ (recR h (16 * p + n) :: D) := by
  show (lsR h p n ++ [recR h (16 * p + n)]) ++ D = _
  rw [List.append_assoc]
  rfl
/-- the CUES below stay -/
def CRl (a b : gH) (n : Int) : Prop := (∀ q : Nat, 298 ≤ q → q ≤ 304 → ∀ j : Nat, (j : Int) < n → hV b q j = hV a q j) ∧ ∀ j : Nat, (j : Int) < 6 * n → hV b 305 j = hV a 305 j
theorem CRl_tr {a b d : gH} {n : Int} (x : CRl a b n) (y : CRl b d n) : CRl a d n := ⟨fun q h1 h2 j hj => (y.1 q h1 h2 j hj).trans (x.1 q h1 h2 j hj), fun j hj => (y.2 j hj).trans (x.2 j hj)⟩
theorem CRl_of {a b : gH} {n c : Int} (x : CRo a b c) (h : n ≤ c) : CRl a b n := ⟨fun q h1 h2 j hj => x.1 q h1 h2 j (by omega), fun j hj => x.2 j (by omega)⟩
theorem CRl_8 {a b : gH} {n : Int} (x : CR8 a b) : CRl a b n := CRl_of (CRo_8 (c := n) x) (Int.le_refl n)
theorem CRl_le {a b : gH} {n m : Int} (x : CRl a b m) (h : n ≤ m) : CRl a b n := ⟨fun q h1 h2 j hj => x.1 q h1 h2 j (by omega), fun j hj => x.2 j (by omega)⟩
theorem recR_l {a b : gH} {n : Int} {c : Nat} (x : CRl a b n) (h : (c : Int) < n) : recR b c = recR a c := by
  have f : ∀ q : Nat, 298 ≤ q → q ≤ 304 → hV b q c = hV a q c := fun q h1 h2 => x.1 q h1 h2 c h
  have g : ∀ k : Nat, k < 6 → hV b 305 (6 * c + k) = hV a 305 (6 * c + k) := fun k hk => x.2 (6 * c + k) (by omega)
  unfold recR
  rw [f 298 (by decide) (by decide), f 299 (by decide) (by decide), f 300 (by decide) (by decide), f 301 (by decide) (by decide), f 302 (by decide) (by decide), f 303 (by decide) (by decide), f 304 (by decide) (by decide), show hV b 305 (6 * c) = hV a 305 (6 * c) from g 0 (by decide), g 1 (by decide), g 2 (by decide), g 3 (by decide), g 4 (by decide)]
/-- the blocks told so far -/
def lsRB (h : gH) (pg : Nat) : Nat → List (List CR)
  | 0 => []
  | n + 1 => lsRB h pg n ++ [lsR h (7 * pg + n) (hV h 296 (7 * pg + n)).toNat]
theorem lsRB_eq {a h : gH} {pg : Nat} : ∀ {n : Nat}, (∀ b, b < n → hV h 296 (7 * pg + b) = hV a 296 (7 * pg + b) ∧ ∀ k, k < (hV a 296 (7 * pg + b)).toNat → recR h (16 * (7 * pg + b) + k) = recR a (16 * (7 * pg + b) + k)) → lsRB h pg n = lsRB a pg n
  | 0, _ => rfl
  | n + 1, e => by
    show lsRB h pg n ++ [lsR h (7 * pg + n) (hV h 296 (7 * pg + n)).toNat] = lsRB a pg n ++ [lsR a (7 * pg + n) (hV a 296 (7 * pg + n)).toNat]
    have w := e n (by omega)
    rw [lsRB_eq (fun b hb => e b (by omega)), w.1, lsR_eq w.2]
theorem lsRB_snoc {h : gH} {pg n : Nat} {D : List (List CR)} : lsRB h pg (n + 1) ++ D = lsRB h pg n ++ (lsR h (7 * pg + n) (hV h 296 (7 * pg + n)).toNat :: D) := by
  show (lsRB h pg n ++ [lsR h (7 * pg + n) (hV h 296 (7 * pg + n)).toNat]) ++ D = _
  rw [List.append_assoc]
  rfl
def R16 (h : gH) (pg n : Nat) : Prop := ∀ b : Nat, b < n → 0 ≤ hV h 296 (7 * pg + b) ∧ hV h 296 (7 * pg + b) ≤ 16
/-- a whole text lies in a page -/
def FIR (v : Vw) (p : PS) (h : gH) (pg : Nat) : Prop := 0 ≤ hV h 294 pg ∧ hV h 294 pg ≤ 6 ∧ BLr h = pTable v 6 p [] ∧ lsRB h pg (hV h 294 pg).toNat = pDb v 6 p [] ∧ lsR h (7 * pg + 6) (hV h 296 (7 * pg + 6)).toNat = pDr v (pTable v 6 p []) 16 (ptk v 18 (pBlocks v 6 p [])) ∧ R16 h pg (hV h 294 pg).toNat ∧ 0 ≤ hV h 296 (7 * pg + 6) ∧ hV h 296 (7 * pg + 6) ≤ 16
theorem FIR_same {v : Vw} {p : PS} {a b : gH} {pg : Nat} (e8 : CR8 a b) (e32 : hV b 285 32 = hV a 285 32) (e4 : hV b 294 = hV a 294) (e5 : hV b 295 = hV a 295) (e6 : hV b 296 = hV a 296) (e7 : hV b 297 = hV a 297) (z : FIR v p a pg) : FIR v p b pg := by
  obtain ⟨z1, z2, z3, z4, z5, z6, z7, z8⟩ := z
  have r : ∀ c : Nat, recR b c = recR a c := fun c => recR_eq (CRo_8 e8)
  have bl : BLr b = BLr a := by
    unfold BLr
    rw [e32, e4, e5, e7]
  unfold FIR
  rw [e4, e6, bl]
  refine ⟨z1, z2, z3, ?_, ?_, ?_, z7, z8⟩
  · rw [← z4]
    exact lsRB_eq (fun q _ => ⟨by rw [e6], fun k _ => r _⟩)
  · rw [← z5]
    exact lsR_eq (fun k _ => r _)
  · intro q hq
    rw [e6]
    exact z6 q hq
/-- a page that is kept: its blocks, its sheet -/
def KPT (h : gH) (pg : Nat) (D : List (List CR)) (S : List CR) : Prop := lsRB h pg D.length = D ∧ lsR h (7 * pg + 6) (hV h 296 (7 * pg + 6)).toNat = S ∧ R16 h pg D.length ∧ 0 ≤ hV h 296 (7 * pg + 6) ∧ hV h 296 (7 * pg + 6) ≤ 16 ∧ D.length ≤ 6
theorem lsRB_len {h : gH} {pg : Nat} : ∀ {n : Nat}, (lsRB h pg n).length = n
  | 0 => rfl
  | n + 1 => by
    show (lsRB h pg n ++ [lsR h (7 * pg + n) (hV h 296 (7 * pg + n)).toNat]).length = n + 1
    rw [List.length_append, lsRB_len]
    rfl
theorem FIR_KPT {v : Vw} {h : gH} {pg : Nat} (z : FIR v (0, 0) h pg) : KPT h pg (pDb v 6 (0, 0) []) (pDs v) := by
  obtain ⟨z1, z2, z3, z4, z5, z6, z7, z8⟩ := z
  have l : (pDb v 6 (0, 0) []).length = (hV h 294 pg).toNat := by rw [← z4, lsRB_len]
  refine ⟨by rw [l]; exact z4, z5, by rw [l]; exact z6, z7, z8, by omega⟩
theorem KPT_same {a b : gH} {pg : Nat} {D : List (List CR)} {S : List CR} {n : Int} (x : CRl a b (112 * n)) (y : ∀ k : Nat, (k : Int) < 7 * n → hV b 296 k = hV a 296 k) (h : (pg : Int) < n) (z : KPT a pg D S) : KPT b pg D S := by
  obtain ⟨z1, z2, z3, z4, z5, z6⟩ := z
  have e : ∀ q : Nat, q ≤ 6 → hV b 296 (7 * pg + q) = hV a 296 (7 * pg + q) := fun q hq => y _ (by omega)
  refine ⟨?_, ?_, fun q hq => by rw [e q (by omega)]; exact z3 q hq, by rw [e 6 (by decide)]; exact z4, by rw [e 6 (by decide)]; exact z5, z6⟩
  · rw [← z1, lsRB_len]
    exact lsRB_eq (fun q hq => ⟨e q (by omega), fun k hk => recR_l x (by have := z3 q (by rw [← z1, lsRB_len]; exact hq); omega)⟩)
  · rw [← z2, e 6 (by decide)]
    exact lsR_eq (fun k hk => recR_l x (by omega))
/-- what the reference told of a page: blocks of no size put nothing in -/
def ZP (h : gH) (pg : Nat) : Prop := ∀ b : Nat, (b : Int) < hV h 294 pg → ¬ 0 < hV h 297 (7 * pg + b) → ∀ n : Nat, fl (hV h 296) (hV h 298) (hV h 300) (7 * pg) n b = []
theorem ZP_of {h : gH} {pt : Int} {pg : Nat} (e : hV h 285 32 = (pg : Int)) (e33 : hV h 285 33 = pt) (hp : pt = 7 * (pg : Int) + 6) (pw : PW h) (pq : PQ h) : ZP h pg := by
  have pw2 : PWs (hV h 294) (hV h 296) (hV h 297) (hV h 298) (hV h 300) (hV h 301) (hV h 302) (hV h 303) (hV h 305) (hV h 285 32) (hV h 285 33) := pw
  rw [e, e33] at pw2
  obtain ⟨p1, p2⟩ := pw2
  rw [Int.toNat_natCast] at p1 p2
  rw [show (pt - 7 * (pg : Int)).toNat = 6 by omega] at p2
  intro b hb h0 n
  have z := zl_ps (bl := hV h 294) (pm := hV h 296) (ps := hV h 297) (cs := hV h 298) (cw := hV h 300) (cm := hV h 301) (ca := hV h 302) (cmt := hV h 303) (cn := hV h 305) (s := pg) (fun q hq => by
    by_cases q6 : q = 6
    · subst q6
      rw [if_pos rfl]
      exact p2
    · rw [if_neg q6]
      exact p1 q (hq.resolve_right q6)) (PQ_at pq pg).1.2 (fun x => (PQ_at pq x).2.2.1) n b (.inl hb) (by omega)
  rw [← fl_len] at z
  cases hl : fl (hV h 296) (hV h 298) (hV h 300) (7 * pg) n b with
  | nil => rfl
  | cons a l =>
    rw [hl] at z
    have z2 : ((l.length + 1 : Nat) : Int) ≤ hV h 297 (7 * pg + b) := z
    omega
theorem ZP_same {a b : gH} {pg : Nat} (e8 : CR8 a b) (e4 : hV b 294 = hV a 294) (e6 : hV b 296 = hV a 296) (e7 : hV b 297 = hV a 297) (z : ZP a pg) : ZP b pg := by
  obtain ⟨x1, x2, x3, x4, x5, x6, x7, x8⟩ := e8
  intro q hq h0 n
  rw [e4] at hq
  rw [e7] at h0
  rw [e6, x1, x3]
  exact z q hq h0 n
