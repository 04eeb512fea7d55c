/-! THE CLASS'S SHEETS: their CUES as a list (hand; behind sheet). -/
noncomputable def cNoK (k : Nat) (W : List (Nat × Nat)) : Bool := W.all (fun q => !(Nat.beq q.1 k))
theorem cNoK_ok {k : Nat} : ∀ {W : List (Nat × Nat)}, cNoK k W = true → ∀ s : Nat, vLoc W k s = false
  | [], _, _ => rfl
  | a :: l, c, s => by
    have c' := c
    unfold cNoK at c'
    rw [List.all_cons, Bool.and_eq_true] at c'
    show (bif (Nat.beq a.1 k && (Nat.ble 100 k || Nat.beq a.2 s)) then true else vLoc l k s) = false
    cases hb : Nat.beq a.1 k with
    | true => rw [hb] at c'; exact absurd c'.1 (by decide)
    | false => exact cNoK_ok (W := l) c'.2 s
/-- all sheets but one stay -/
def SHo (a b : gH) (S : Int) : Prop := ∀ o : Nat, hK a o = 6 → hK b o = 6 ∧ (¬ (o : Int) = S → ∀ s : Nat, hV b o s = hV a o s)
/-- all rows of CUES but one stay -/
def RWo (a b : gH) (R : Int) : Prop := ∀ o : Nat, hK a o = 106 → hK b o = 106 ∧ (¬ (o : Int) = R → hV b o = hV a o)
theorem SHo_rfl {a : gH} {c : Int} : SHo a a c := fun _ h => ⟨h, fun _ _ => rfl⟩
theorem SHo_tr {a b d : gH} {c : Int} (x : SHo a b c) (y : SHo b d c) : SHo a d c := fun o h => ⟨(y o (x o h).1).1, fun n s => ((y o (x o h).1).2 n s).trans ((x o h).2 n s)⟩
theorem SHo_fr {W : List (Nat × Nat)} {a b : gH} {c : Int} (le : hLe T0 a b) (f : hFr W a b) (w : cNoK 6 W = true) : SHo a b c := fun o h => ⟨kLe le h rfl, fun _ s => f.2.2 o 6 h rfl s (cNoK_ok w s)⟩
theorem SHo_up {a b : gH} {o i w : Int} (f : hUpd b a o i w) : SHo a b o := fun q h => ⟨(f.2.2 q).1.trans h, fun n s => uPlace f q s n⟩
theorem SHo_ne {a b : gH} {o i w c : Int} (f : hUpd b a o i w) (k : ¬ hK a o.toNat = 6) : SHo a b c := fun q h => ⟨(f.2.2 q).1.trans h, fun _ s => uPlace f q s (fun e => k (by rw [← e, Int.toNat_natCast]; exact h))⟩
theorem RWo_rfl {a : gH} {c : Int} : RWo a a c := fun _ h => ⟨h, fun _ => rfl⟩
theorem RWo_tr {a b d : gH} {c : Int} (x : RWo a b c) (y : RWo b d c) : RWo a d c := fun o h => ⟨(y o (x o h).1).1, fun n => ((y o (x o h).1).2 n).trans ((x o h).2 n)⟩
theorem RWo_fr {W : List (Nat × Nat)} {a b : gH} {c : Int} (le : hLe T0 a b) (f : hFr W a b) (w : cNoK 106 W = true) : RWo a b c := fun o h => ⟨kLe le h rfl, fun _ => funext fun s => f.2.2 o 106 h rfl s (cNoK_ok w s)⟩
theorem RWo_up {a b : gH} {o i w : Int} (f : hUpd b a o i w) : RWo a b o := fun q h => ⟨(f.2.2 q).1.trans h, fun n => funext fun s => uPlace f q s n⟩
theorem RWo_ne {a b : gH} {o i w c : Int} (f : hUpd b a o i w) (k : ¬ hK a o.toNat = 106) : RWo a b c := fun q h => ⟨(f.2.2 q).1.trans h, fun _ => funext fun s => uPlace f q s (fun e => k (by rw [← e, Int.toNat_natCast]; exact h))⟩
theorem SHo_app {a cs : gH} {c : Int} : SHo a (a ++ cs) c := fun o h => by
  have lt := hK_lt h (by decide)
  refine ⟨kLe (hLe.app (T := T0) a cs) h rfl, fun _ s => ?_⟩
  unfold hV hVal
  rw [app_lo lt]
theorem RWo_app {a cs : gH} {c : Int} : RWo a (a ++ cs) c := fun o h => by
  have lt := hK_lt h (by decide)
  refine ⟨kLe (hLe.app (T := T0) a cs) h rfl, fun _ => funext fun s => ?_⟩
  unfold hV hVal
  rw [app_lo lt]
theorem CUo_app {a cs : gH} {c : Int} : CUo a (a ++ cs) c := fun o h => by
  have lt := hK_lt h (by decide)
  refine ⟨kLe (hLe.app (T := T0) a cs) h rfl, fun _ s => ?_⟩
  unfold hV hVal
  rw [app_lo lt]
/-- the SOUNDS laid, as a set -/
def lyM (L : Int) (r : CR) : Int := if r.1 = 0 then o32 (fun x y => x ||| y) L (o32 (fun x y => x <<< (y &&& 31)) 1 r.2.2.1) else L
/-- one CUE more -/
def ADSh (S c bm bf : Int) (a b : gH) : Prop := hV b S.toNat 2 = hV a S.toNat 2 + 1 ∧ hV b S.toNat 1 = hV a S.toNat 1 ∧ hV b S.toNat 0 = hV a S.toNat 0 ∧ hV b S.toNat 3 = lyM (hV a S.toNat 3) (crS bm bf (recC a c.toNat)) ∧ hV b (hV a S.toNat 1).toNat = uF (hV a (hV a S.toNat 1).toNat) (hV a S.toNat 2) (a.length : Int) ∧ hK b a.length = 1 ∧ recC b a.length = crS bm bf (recC a c.toNat) ∧ SHo a b S ∧ RWo a b (hV a S.toNat 1) ∧ CUo a b (-1)
/-- under way: the CUE stands, the sheet waits -/
def ADW (S c bm bf : Int) (a b : gH) : Prop := b.length = a.length + 2 ∧ 0 ≤ hV a S.toNat 2 ∧ hV a S.toNat 2 < 40 ∧ hK a S.toNat = 6 ∧ hK a c.toNat = 1 ∧ hK b a.length = 1 ∧ recC b a.length = crS bm bf (recC a c.toNat) ∧ SHo a b S ∧ RWo a b (-1) ∧ CUo a b (-1) ∧ hV b S.toNat 0 = hV a S.toNat 0 ∧ hV b S.toNat 1 = hV a S.toNat 1 ∧ hV b S.toNat 2 = hV a S.toNat 2 ∧ hV b S.toNat 3 = lyM (hV a S.toNat 3) (crS bm bf (recC a c.toNat))
/-- a sheet and its CUES -/
def SHL (h : gH) (S : Nat) (D : List CR) : Prop := hK h S = 6 ∧ hV h S 1 = (S : Int) + 1 ∧ hK h (S + 1) = 106 ∧ hV h S 2 = (D.length : Int) ∧ D.length ≤ 40 ∧ hV h S 3 = D.foldl lyM 0 ∧ ∀ (k : Nat) (r : CR), D[k]? = some r → 358 ≤ hV h (S + 1) k ∧ hK h (hV h (S + 1) k).toNat = 1 ∧ recC h (hV h (S + 1) k).toNat = r
theorem SHL_add {a b : gH} {S : Nat} {D : List CR} {c bm bf : Int} (z : SHL a S D) (h40 : D.length < 40) (y : ADSh (S : Int) c bm bf a b) (hl : 358 ≤ a.length) : SHL b S (D ++ [crS bm bf (recC a c.toNat)]) := by
  obtain ⟨z1, z2, z3, z4, z5, z6, z7⟩ := z
  unfold ADSh at y
  rw [Int.toNat_natCast, z2, show ((S : Int) + 1).toNat = S + 1 by omega, z4] at y
  obtain ⟨y1, y2, y3, y4, y5, y6, y7, y8, y9, y10⟩ := y
  refine ⟨(y8 S z1).1, y2, (y9 (S + 1) z3).1, ?_, ?_, ?_, fun k r hk => ?_⟩
  · rw [y1, List.length_append]
    show (D.length : Int) + 1 = ((D.length + 1 : Nat) : Int)
    omega
  · rw [List.length_append]
    show D.length + 1 ≤ 40
    omega
  · rw [y4, z6, List.foldl_append]
    rfl
  · rw [y5, uF_at]
    by_cases e : k = D.length
    · subst e
      rw [if_pos rfl, Int.toNat_natCast, y7]
      rw [List.getElem?_append_right (Nat.le_refl _), Nat.sub_self] at hk
      exact ⟨by omega, y6, Option.some.inj hk⟩
    · rw [if_neg (by omega)]
      have lt : k < D.length := by
        have w := (List.getElem?_eq_some_iff.mp hk).1
        rw [List.length_append] at w
        have w2 : k < D.length + 1 := w
        omega
      rw [List.getElem?_append_left lt] at hk
      obtain ⟨w1, w2, w3⟩ := z7 k r hk
      have q := y10 _ w2
      exact ⟨w1, q.1, (recC_eq (q.2 (by omega))).trans w3⟩
theorem SHL_other {a b : gH} {S S' : Nat} {D : List CR} (z : SHL a S' D) (x1 : SHo a b (S : Int)) (x2 : RWo a b ((S : Int) + 1)) (x3 : CUo a b (-1)) (n : ¬ S' = S) : SHL b S' D := by
  obtain ⟨z1, z2, z3, z4, z5, z6, z7⟩ := z
  have q := x1 S' z1
  have e := q.2 (by omega)
  have p := x2 (S' + 1) z3
  have f := p.2 (by omega)
  refine ⟨q.1, (e 1).trans z2, p.1, (e 2).trans z4, z5, (e 3).trans z6, fun k r hk => ?_⟩
  obtain ⟨w1, w2, w3⟩ := z7 k r hk
  rw [f]
  have t := x3 _ w2
  exact ⟨w1, t.1, (recC_eq (t.2 (by omega))).trans w3⟩
/-- what is told of a sheet elsewhere -/
theorem SHL_same {a b : gH} {S : Nat} {D : List CR} (z : SHL a S D) (x1 : SHo a b (-1)) (x2 : RWo a b (-1)) (x3 : CUz a b) : SHL b S D := by
  obtain ⟨z1, z2, z3, z4, z5, z6, z7⟩ := z
  have q := x1 S z1
  have e := q.2 (by omega)
  have p := x2 (S + 1) z3
  have f := p.2 (by omega)
  refine ⟨q.1, (e 1).trans z2, p.1, (e 2).trans z4, z5, (e 3).trans z6, fun k r hk => ?_⟩
  obtain ⟨w1, w2, w3⟩ := z7 k r hk
  rw [f]
  have t := x3 _ w2
  exact ⟨w1, t.1, (recC_eq (t.2 (by omega))).trans w3⟩
/-- what putting in leaves -/
def SHX (a b : gH) (S : Nat) : Prop := SHo a b (S : Int) ∧ RWo a b ((S : Int) + 1) ∧ CUo a b (-1) ∧ hV b S 0 = hV a S 0
theorem SHX_rfl {a : gH} {S : Nat} : SHX a a S := ⟨SHo_rfl, RWo_rfl, CUo_rfl, rfl⟩
theorem SHX_tr {a b c : gH} {S : Nat} (x : SHX a b S) (y : SHX b c S) : SHX a c S := ⟨SHo_tr x.1 y.1, RWo_tr x.2.1 y.2.1, CUo_tr x.2.2.1 y.2.2.1, y.2.2.2.trans x.2.2.2⟩
theorem SHX_add {a b : gH} {S : Nat} {D : List CR} {c bm bf : Int} (z : SHL a S D) (y : ADSh (S : Int) c bm bf a b) : SHX a b S := by
  unfold ADSh at y
  rw [Int.toNat_natCast, z.2.1] at y
  obtain ⟨y1, y2, y3, y4, y5, y6, y7, y8, y9, y10⟩ := y
  exact ⟨y8, y9, y10, y3⟩
theorem take_snoc {E X : List CR} {r : CR} : ((E ++ X).take 40).length < 40 → (E ++ X).take 40 ++ [r] = (E ++ (X ++ [r])).take 40 := by
  intro h
  rw [List.length_take] at h
  have w : (E ++ X).length < 40 := by omega
  rw [List.take_of_length_le (by omega), List.take_of_length_le (by rw [List.length_append, List.length_append]; rw [List.length_append] at w; show E.length + (X.length + 1) ≤ 40; omega), List.append_assoc]
theorem tk40_full {E X Y : List CR} (h : 40 ≤ ((E ++ X).take 40).length) : (E ++ X).take 40 = (E ++ (X ++ Y)).take 40 := by
  rw [List.length_take] at h
  rw [← List.append_assoc]
  exact (List.take_append_of_le_length (l₁ := E ++ X) (by omega)).symm
theorem take_two {E X Y : List CR} : ((E ++ X).take 40 ++ Y).take 40 = (E ++ (X ++ Y)).take 40 := by
  rw [← List.append_assoc]
  rcases Nat.le_total (E ++ X).length 40 with w | w
  · rw [List.take_of_length_le w]
  · rw [List.take_append_of_le_length (by rw [List.length_take]; omega), List.take_take, Nat.min_self, List.take_append_of_le_length w]
/-- the draft of the reader, its sizes -/
noncomputable def HD (h : gH) (b : Nat) : List CR := lsC h b (hV h 46 b).toNat
def HT (h : gH) (x : Int) : Int := if 0 ≤ x ∧ x < 7 then hV h 47 x.toNat else 0
noncomputable def pUf (D : Nat → List CR) (T : Int → Int) (n : Nat) (bm bf : Int) (r : CR) : List CR := if r.1 = 5 then (if 0 < T r.2.2.1 then pU D T n r.2.2.1.toNat (usM bm r) (usF bf r) else []) else [crS bm bf r]
theorem pU_succ {D : Nat → List CR} {T : Int → Int} {n b : Nat} {bm bf : Int} : pU D T (n + 1) b bm bf = (D b).flatMap (pUf D T n bm bf) := rfl
theorem lsC_at {h : gH} {b : Nat} : ∀ {n k : Nat}, k < n → (lsC h b n)[k]? = some (recC h (cuP b k))
  | 0, _, w => absurd w (Nat.not_lt_zero _)
  | n + 1, k, w => by
    show (lsC h b n ++ [recC h (cuP b n)])[k]? = _
    by_cases e : k < n
    · rw [List.getElem?_append_left (by rw [lsC_len]; exact e)]
      exact lsC_at e
    · have e2 : k = n := by omega
      subst e2
      rw [List.getElem?_append_right (by rw [lsC_len]; exact Nat.le_refl _), lsC_len, Nat.sub_self]
      rfl
theorem take_next {D : List CR} {k : Nat} {r : CR} {f : CR → List CR} (h : D[k]? = some r) : (D.take (k + 1)).flatMap f = (D.take k).flatMap f ++ f r := by
  rw [List.take_add_one, h, List.flatMap_append]
  show _ ++ (f r ++ []) = _
  rw [List.append_nil]
theorem HD_same {a b : gH} {p : Nat} (z : C45 a) (y : CU a) (e46 : hV b 46 = hV a 46) (x : CUo a b (-1)) (hp : p ≤ 6) (h16 : (hV a 46 p).toNat ≤ 16) : HD b p = HD a p := by
  unfold HD
  rw [e46]
  exact lsC_eq (fun k hk s => (x _ (C45_k z y hp (by omega))).2 (by omega) s)
theorem pU_same {D E : Nat → List CR} {T U : Int → Int} (hT : T = U) (hD : ∀ b, b ≤ 6 → D b = E b) (hU : ∀ x, 0 < U x → 0 ≤ x ∧ x < 7) : ∀ {n b : Nat} {bm bf : Int}, b ≤ 6 → pU D T n b bm bf = pU E U n b bm bf := by
  subst hT
  intro n
  induction n with
  | zero => intros; rfl
  | succ n ih =>
    intro b bm bf hb
    rw [pU_succ, pU_succ, hD b hb]
    congr 1
    funext r
    unfold pUf
    split
    · split
      · rename_i c
        have w := hU _ c
        exact ih (by omega)
      · rfl
    · rfl
theorem HT_pos {h : gH} {x : Int} (w : 0 < HT h x) : 0 ≤ x ∧ x < 7 := by
  unfold HT at w
  split at w
  · assumption
  · omega
theorem HT_at {h : gH} {x r : Int} (e : r = if 0 ≤ x ∧ x < ((7 : Nat) : Int) then hV h 47 x.toNat else 0) : r = HT h x := e
theorem recC_of {a b : gH} {o p : Nat} (e0 : hV b o 0 = hV a p 0) (e1 : hV b o 1 = hV a p 1) (e2 : hV b o 2 = hV a p 2) (e3 : hV b o 3 = hV a p 3) (e4 : hV b o 4 = hV a p 4) (e5 : hV b o 5 = hV a p 5) (e6 : hV b o 6 = hV a p 6) (e7 : hV b o 7 = hV a p 7) (e8 : hV b o 8 = hV a p 8) (e9 : hV b o 9 = hV a p 9) (e10 : hV b o 10 = hV a p 10) (e12 : hV b o 12 = hV a p 12) (e13 : hV b o 13 = hV a p 13) : recC b o = recC a p := by
  unfold recC
  rw [e0, e1, e2, e3, e4, e5, e6, e7, e8, e9, e10, e12, e13]
theorem crS_of {a b : gH} {o p : Nat} {bm bf : Int} (e0 : hV b o 0 = hV a p 0) (e1 : hV b o 1 = hV a p 1) (e2 : hV b o 2 = hV a p 2) (e3 : hV b o 3 = hV a p 3) (e4 : hV b o 4 = if hV a p 4 = -1 then bm else hV a p 4) (e5 : hV b o 5 = if hV a p 4 = -1 then w32 (hV a p 5 + bf) else hV a p 5) (e6 : hV b o 6 = if hV a p 6 = -1 then bm else hV a p 6) (e7 : hV b o 7 = if hV a p 6 = -1 then w32 (hV a p 7 + bf) else hV a p 7) (e8 : hV b o 8 = hV a p 8) (e9 : hV b o 9 = hV a p 9) (e10 : hV b o 10 = hV a p 10) (e12 : hV b o 12 = hV a p 12) (e13 : hV b o 13 = hV a p 13) : recC b o = crS bm bf (recC a p) := by
  unfold recC crS
  dsimp only
  rw [e0, e1, e2, e3, e4, e5, e6, e7, e8, e9, e10, e12, e13]
theorem ADW_fr {W : List (Nat × Nat)} {S c bm bf : Int} {a b d : gH} (z : ADW S c bm bf a b) (hS : 0 ≤ S) (le : hLe T0 b d) (f : hFr W b d) (l : d.length = b.length) (w1 : cNo1 W = true) (w6 : cNoK 6 W = true) (wr : cNoK 106 W = true) : ADW S c bm bf a d := by
  obtain ⟨z1, z2, z3, z4, z5, z6, z7, z8, z9, z10, z11, z12, z13, z14⟩ := z
  have k := (z8 _ z4).1
  have e : ∀ s : Nat, hV d S.toNat s = hV b S.toNat s := fun s => f.2.2 S.toNat 6 k rfl s (cNoK_ok w6 s)
  refine ⟨l.trans z1, z2, z3, z4, z5, kLe le z6 rfl, (recC_eq (fr1 f w1 z6)).trans z7, SHo_tr z8 (SHo_fr le f w6), RWo_tr z9 (RWo_fr le f wr), CUo_tr z10 (CUo_fr le f w1), (e 0).trans z11, (e 1).trans z12, (e 2).trans z13, (e 3).trans z14⟩
theorem ADW_w4 {S c bm bf i w : Int} {a b d : gH} (z : ADW S c bm bf a b) (hS : 0 ≤ S) (u : hUpd d b S i w) (hi : i = 4) : ADW S c bm bf a d := by
  obtain ⟨z1, z2, z3, z4, z5, z6, z7, z8, z9, z10, z11, z12, z13, z14⟩ := z
  have k := (z8 _ z4).1
  have e : ∀ s : Nat, s < 4 → hV d S.toNat s = hV b S.toNat s := fun s hs => uSlot u S.toNat s (by omega)
  have kn : ¬ ((a.length : Nat) : Int) = S := fun w => by
    have := hK_lt z4 (by decide)
    omega
  refine ⟨u.2.1.trans z1, z2, z3, z4, z5, kUp u z6, (recC_eq (fun s => uPlace u a.length s kn)).trans z7, SHo_tr z8 (SHo_up u), RWo_tr z9 (RWo_ne u (by rw [k]; decide)), CUo_tr z10 (CUo_ne u (by rw [k]; decide)), (e 0 (by omega)).trans z11, (e 1 (by omega)).trans z12, (e 2 (by omega)).trans z13, (e 3 (by omega)).trans z14⟩
theorem ADS_of {S c bm bf R i N j v : Int} {a b d e : gH} (z : ADW S c bm bf a b) (hS : 0 ≤ S) (hR : 0 ≤ R) (eR : R = hV b S.toNat 1) (kA : hK a (hV a S.toNat 1).toNat = 106) (kR : hK b R.toNat = 106) (ei : i = hV b S.toNat 2) (eN : N = (a.length : Int)) (u : hUpd d b R i N) (u2 : hUpd e d S j v) (hj : j = 2) (hv : v = hV b S.toNat 2 + 1) : ADSh S c bm bf a e ∧ e.length = a.length + 2 := by
  obtain ⟨z1, z2, z3, z4, z5, z6, z7, z8, z9, z10, z11, z12, z13, z14⟩ := z
  have k := (z8 _ z4).1
  have k2 := kUp u k
  have ne : ¬ (S.toNat : Int) = R := fun w => kNe k kR rfl w
  have s1 : ∀ s : Nat, ¬ s = 2 → hV e S.toNat s = hV b S.toNat s := fun s hs => (uSlot u2 S.toNat s (by omega)).trans (uPlace u S.toNat s ne)
  have kn : ¬ ((a.length : Nat) : Int) = S := fun w => by
    have := hK_lt z4 (by decide)
    omega
  have kr : ¬ ((a.length : Nat) : Int) = R := fun w => by
    rw [← w, Int.toNat_natCast, z6] at kR
    exact absurd kR (by decide)
  have rn : ¬ (R.toNat : Int) = S := fun w => kNe kR k rfl w
  refine ⟨⟨?_, (s1 1 (by decide)).trans z12, (s1 0 (by decide)).trans z11, (s1 3 (by decide)).trans z14, ?_, kUp u2 (kUp u z6), ?_, ?_, ?_, ?_⟩, u2.2.1.trans (u.2.1.trans z1)⟩
  · rw [uSame u2 S.toNat 2 (by omega) (by omega), hv, z13]
  · rw [← z12, ← eR, uRowNe u2 R.toNat rn, uRow u R.toNat (by omega), ei, eN, z13]
    rw [(z9 _ (by rw [eR, z12]; exact kA)).2 (by omega)]
  · exact (recC_eq (fun s => (uPlace u2 a.length s kn).trans (uPlace u a.length s kr))).trans z7
  · exact SHo_tr z8 (SHo_tr (SHo_ne u (by rw [kR]; decide)) (SHo_up u2))
  · rw [← z12, ← eR]
    exact RWo_tr (fun o h => ⟨(z9 o h).1, fun _ => (z9 o h).2 (by omega)⟩) (RWo_tr (RWo_up u) (RWo_ne u2 (by rw [k2]; decide)))
  · exact CUo_tr z10 (CUo_tr (CUo_ne u (by rw [kR]; decide)) (CUo_ne u2 (by rw [k2]; decide)))
theorem SHL_keep {a b : gH} {S : Nat} {D : List CR} (z : SHL a S D) (x1 : SHo a b (-1)) (x2 : RWo a b (-1)) (x3 : CUo a b (-1)) : SHL b S D := SHL_same z x1 x2 (CUz_of x3)
