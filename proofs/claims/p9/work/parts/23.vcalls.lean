/-! THE GENERATOR IS SOUND, on: switches, calls. -/
section VSEVEN
variable {T : Nat → Nat → vT} {P : vP} {W : List (Nat × Nat)} {Z : Bool} {m : Nat} {X : (Nat → Int) × gH} {K : vS → Nat → vL → List vV → vR} {Q : gO → Prop} {j d : Nat} {ρ : Nat → Int} {η : Nat → gH} {S : vS} {pc : Nat} {lv : vL} {st : List vV} {lv' : gL} {st' : List Value} {lh : gH} {l : List vG}
theorem vGo_ok {off : Int} {k : Nat → vR} (h : vGo pc off k = some l) : 0 ≤ (pc : Int) + off ∧ k ((pc : Int) + off).toNat = some l := by
  unfold vGo at h
  cases hc : decide (0 ≤ (pc : Int) + off) with
  | false => rw [hc] at h; cases h
  | true =>
    rw [hc] at h
    dsimp only [cond_true] at h
    rw [fNat_eq] at h
    exact ⟨of_decide_eq_true hc, h⟩
theorem vTab_ok {lo : Int} {offs : Array Int} {x : Nat} {r : List vV} {Y : Int} : ∀ (c : Nat) (s : Int) (l : List vG), vTabR K S pc lv lo offs x r c s = some l → s ≤ Y → Y < s + c → ∃ off l', offs[(Y - lo).toNat]? = some off ∧ vGo pc off (fun t => K (vAdd S (0, [x], [], Y)) t lv r) = some l' ∧ ∀ g ∈ l', g ∈ l := by
  intro c
  induction c with
  | zero => intro s l _ h1 h2; omega
  | succ c ih =>
    intro s l h h1 h2
    replace h : vApp (match offs[(s - lo).toNat]? with
      | some off => vGo pc off (fun t => K (vAdd S (0, [x], [], s)) t lv r)
      | none => none) (fInt (s + 1) (vTabR K S pc lv lo offs x r c)) = some l := h
    rw [fInt_eq] at h
    obtain ⟨l1, l2, e1, e2, rfl⟩ := vApp_some h
    by_cases hs : Y = s
    · subst hs
      cases ho : offs[(Y - lo).toNat]? with
      | none => rw [ho] at e1; cases e1
      | some off =>
        rw [ho] at e1
        exact ⟨off, l1, rfl, e1, fun g hg => List.mem_append_left _ hg⟩
    · obtain ⟨off, l', g1, g2, g3⟩ := ih (s + 1) l2 e2 (by omega) (by omega)
      exact ⟨off, l', g1, g2, fun g hg => List.mem_append_right _ (g3 g hg)⟩
theorem vq_table {dflt lo hi : Int} {offs : Array Int} (hk0 : vK T P W Z m X K (gT_ Q j d)) (h : vI_table K S pc lv st dflt lo hi offs = some l) (hl : ∀ g ∈ l, vOkm T P m g) (R : vRt T P W Z m X ρ η S lh) (hlv : vRL T ρ S.1 lh lv lv') (hst : vRS T ρ S.1 lh st st') : gQ Q j d (fun K => gI_table K pc lv' st' lh dflt lo hi offs) := by
  unfold vI_table at h
  match st, st', hst, h with
  | x :: r, x' :: r', hst, h =>
    dsimp only at h
    cases ht : vIsI x with
    | false => rw [ht] at h; cases h
    | true =>
      rw [ht] at h
      dsimp only [cond_true] at h
      obtain ⟨y, rfl, hy⟩ := hst.1.int ht
      have hsc : ∀ k ∈ [x.2.1], k < S.1 := fun k hk => by
        rw [List.mem_singleton.mp hk]
        exact hst.1.1
      obtain ⟨l1, l23, e1, e23, rfl⟩ := vApp_some h
      obtain ⟨l2, l3, e2, e3, rfl⟩ := vApp_some e23
      by_cases c1 : y.toInt < lo
      · obtain ⟨g1, g2⟩ := vGo_ok e1
        obtain ⟨n1, o, e, q⟩ := hk0 _ _ _ _ _ _ _ _ _ _ g2 (fun g hg => hl g (List.mem_append_left _ hg)) (R.add ⟨⟨hsc, fun _ hk => nomatch hk⟩, by show ρ x.2.1 < lo; rw [hy]; exact c1⟩) hlv hst.2
        refine ⟨n1, o, ?_, q⟩
        show (bif decide (y.toInt < lo) || decide (hi < y.toInt) then (bif decide (0 ≤ (pc : Int) + dflt) then _ else none) else _) = _
        rw [decide_eq_true c1, decide_eq_true g1]
        exact e
      · by_cases c2 : hi < y.toInt
        · obtain ⟨g1, g2⟩ := vGo_ok e2
          obtain ⟨n1, o, e, q⟩ := hk0 _ _ _ _ _ _ _ _ _ _ g2 (fun g hg => hl g (List.mem_append_right _ (List.mem_append_left _ hg))) (R.add ⟨⟨hsc, fun _ hk => nomatch hk⟩, by show hi < ρ x.2.1; rw [hy]; exact c2⟩) hlv hst.2
          refine ⟨n1, o, ?_, q⟩
          show (bif decide (y.toInt < lo) || decide (hi < y.toInt) then (bif decide (0 ≤ (pc : Int) + dflt) then _ else none) else _) = _
          rw [decide_eq_true c2, decide_eq_true g1, Bool.or_true]
          exact e
        · obtain ⟨off, l', f1, f2, f3⟩ := vTab_ok (Y := y.toInt) _ _ _ e3 (by omega) (by omega)
          obtain ⟨g1, g2⟩ := vGo_ok f2
          obtain ⟨n1, o, e, q⟩ := hk0 _ _ _ _ _ _ _ _ _ _ g2 (fun g hg => hl g (List.mem_append_right _ (List.mem_append_right _ (f3 g hg)))) (R.add ⟨⟨hsc, fun _ hk => nomatch hk⟩, by show ρ x.2.1 = y.toInt; exact hy⟩) hlv hst.2
          refine ⟨n1, o, ?_, q⟩
          show (bif decide (y.toInt < lo) || decide (hi < y.toInt) then _ else (match offs[(y.toInt - lo).toNat]? with
            | some off => bif decide (0 ≤ (pc : Int) + off) then _ else none
            | none => none)) = _
          rw [decide_eq_false c1, decide_eq_false c2, f1]
          dsimp only [Bool.or_false, cond_false]
          rw [decide_eq_true g1]
          exact e
theorem vLkR_ok {dflt : Int} {x : Nat} {r : List vV} {r' : List Value} {y : Int} (hk0 : vK T P W Z m X K (gT_ Q j d)) (hlv : vRL T ρ S.1 lh lv lv') (hr : vRS T ρ S.1 lh r r') (hx : x < S.1) (hy : ρ x = y) : ∀ (ps : List (Int × Int)) (fs : List vF) (l : List vG), vLkR K pc lv dflt x r ps (S.1, S.2.1, fs) = some l → (∀ g ∈ l, vOkm T P m g) → vRt T P W Z m X ρ η (S.1, S.2.1, fs) lh → 0 ≤ (pc : Int) + Op.lookupswitch.offset ps dflt y ∧ gT_ Q j d ((pc : Int) + Op.lookupswitch.offset ps dflt y).toNat lv' r' lh := by
  intro ps
  induction ps with
  | nil =>
    intro fs l h hl R
    replace h : vGo pc dflt (fun t => K (S.1, S.2.1, fs) t lv r) = some l := h
    obtain ⟨g1, g2⟩ := vGo_ok h
    exact ⟨g1, hk0 _ _ _ _ _ _ _ _ _ _ g2 hl R hlv hr⟩
  | cons q ps ih =>
    intro fs l h hl R
    replace h : vApp (vGo pc q.2 (fun t => K (vAdd (S.1, S.2.1, fs) (0, [x], [], q.1)) t lv r)) (vLkR K pc lv dflt x r ps (vAdd (S.1, S.2.1, fs) (68, [x], [], q.1))) = some l := h
    obtain ⟨l1, l2, e1, e2, rfl⟩ := vApp_some h
    have hsc : ∀ k ∈ [x], k < S.1 := fun k hk => by
      rw [List.mem_singleton.mp hk]
      exact hx
    show 0 ≤ (pc : Int) + (if q.1 = y then q.2 else Op.lookupswitch.offset ps dflt y) ∧ gT_ Q j d ((pc : Int) + (if q.1 = y then q.2 else Op.lookupswitch.offset ps dflt y)).toNat lv' r' lh
    by_cases hq : q.1 = y
    · rw [if_pos hq]
      obtain ⟨g1, g2⟩ := vGo_ok e1
      exact ⟨g1, hk0 _ _ _ _ _ _ _ _ _ _ g2 (fun g hg => hl g (List.mem_append_left _ hg)) (R.add ⟨⟨hsc, fun _ hk => nomatch hk⟩, by show ρ x = q.1; rw [hy, hq]⟩) hlv hr⟩
    · rw [if_neg hq]
      exact ih _ l2 e2 (fun g hg => hl g (List.mem_append_right _ hg)) (R.add ⟨⟨hsc, fun _ hk => nomatch hk⟩, by show ρ x ≠ q.1; rw [hy]; exact fun z => hq z.symm⟩)
theorem vq_lookup {dflt : Int} {ps : Array (Int × Int)} (hk0 : vK T P W Z m X K (gT_ Q j d)) (h : vI_lookup K S pc lv st dflt ps = some l) (hl : ∀ g ∈ l, vOkm T P m g) (R : vRt T P W Z m X ρ η S lh) (hlv : vRL T ρ S.1 lh lv lv') (hst : vRS T ρ S.1 lh st st') : gQ Q j d (fun K => gI_lookup K pc lv' st' lh dflt ps) := by
  unfold vI_lookup at h
  match st, st', hst, h with
  | x :: r, x' :: r', hst, h =>
    dsimp only at h
    cases ht : vIsI x with
    | false => rw [ht] at h; cases h
    | true =>
      rw [ht] at h
      obtain ⟨y, rfl, hy⟩ := hst.1.int ht
      obtain ⟨g1, n1, o, e, q⟩ := vLkR_ok hk0 hlv hst.2 hst.1.1 hy ps.toList S.2.2 l h hl R
      refine ⟨n1, o, ?_, q⟩
      show (bif decide (0 ≤ (pc : Int) + Op.lookupswitch.offset ps.toList dflt y.toInt) then _ else none) = _
      rw [decide_eq_true g1]
      exact e
/-! calls -/
def vArgs (T : Nat → Nat → vT) (lh : gH) : List vT → List Value → Prop
  | [], [] => True
  | t :: ts, a :: as => (vOK T lh t a ∧ t.2.2.2 = 0) ∧ vArgs T lh ts as
  | _, _ => False
/-- method j at depth d keeps its contract -/
def gMeth (T : Nat → Nat → vT) (j d : Nat) (m : vM) (pre : List Int → gH → Prop) (post : List Int → gH → gH → Prop) : Prop := m.2.1.2.2.2 = 0 ∧ ∀ (as : List Value) (lh : gH), WT T lh → vArgs T lh m.1 as → (m.2.2.1 = 1 → pre (as.map vI) lh) → ∃ n o, gRun n j d 0 (lv_args 0 as) [] lh = some o ∧ WT T o.1 ∧ hLw T m.2.2.2.2 (Nat.beq m.2.2.2.1 0) lh o.1 ∧ (if m.2.1.1 = 9 then o.2.2 = [] else ∃ v, o.2.2 = [v] ∧ vOK T o.1 m.2.1 v) ∧ post (o.2.2.map vI ++ as.map vI) lh o.1
def gQ2 (Q : gO → Prop) (j d : Nat) (F : (Nat → gL → List Value → gH → Option gO) → (Nat → List Value → gH → Option gO) → Option gO) : Prop := ∃ n o, F (gRun n j d) (gCall (gRun n) d) = some o ∧ Q o
theorem vRS.app {N : Nat} : ∀ {a : List vV} {a' : List Value} {b : List vV} {b' : List Value}, vRS T ρ N lh a a' → vRS T ρ N lh b b' → vRS T ρ N lh (a ++ b) (a' ++ b') := by
  intro a
  induction a with
  | nil => intro a' b b' h1 h2; cases a' with
    | nil => exact h2
    | cons x a' => exact h1.elim
  | cons y a ih => intro a' b b' h1 h2; cases a' with
    | nil => exact h1.elim
    | cons x a' => exact ⟨h1.1, ih h1.2 h2⟩
theorem vRS.rev {N : Nat} : ∀ {a : List vV} {a' : List Value}, vRS T ρ N lh a a' → vRS T ρ N lh a.reverse a'.reverse := by
  intro a
  induction a with
  | nil => intro a' h1; cases a' with
    | nil => exact trivial
    | cons x a' => exact h1.elim
  | cons y a ih => intro a' h1; cases a' with
    | nil => exact h1.elim
    | cons x a' =>
      rw [List.reverse_cons, List.reverse_cons]
      exact (ih h1.2).app ⟨h1.1, trivial⟩
theorem vRS.take {N : Nat} : ∀ {a : List vV} {a' : List Value} (n : Nat), vRS T ρ N lh a a' → vRS T ρ N lh (a.take n) (a'.take n) := by
  intro a
  induction a with
  | nil => intro a' n h1; cases a' with
    | nil => rw [List.take_nil, List.take_nil]; exact trivial
    | cons x a' => exact h1.elim
  | cons y a ih => intro a' n h1; cases a' with
    | nil => exact h1.elim
    | cons x a' => cases n with
      | zero => exact trivial
      | succ n => exact ⟨h1.1, ih n h1.2⟩
theorem vRS.drop {N : Nat} : ∀ {a : List vV} {a' : List Value} (n : Nat), vRS T ρ N lh a a' → vRS T ρ N lh (a.drop n) (a'.drop n) := by
  intro a
  induction a with
  | nil => intro a' n h1; cases a' with
    | nil => rw [List.drop_nil, List.drop_nil]; exact trivial
    | cons x a' => exact h1.elim
  | cons y a ih => intro a' n h1; cases a' with
    | nil => exact h1.elim
    | cons x a' => cases n with
      | zero => exact h1
      | succ n => exact ih n h1.2
theorem vRS.len {N : Nat} : ∀ {a : List vV} {a' : List Value}, vRS T ρ N lh a a' → a.length = a'.length := by
  intro a
  induction a with
  | nil => intro a' h1; cases a' with
    | nil => rfl
    | cons x a' => exact h1.elim
  | cons y a ih => intro a' h1; cases a' with
    | nil => exact h1.elim
    | cons x a' => rw [List.length_cons, List.length_cons, ih h1.2]
theorem vRS.cats {N : Nat} : ∀ {a : List vV} {a' : List Value}, vRS T ρ N lh a a' → a.map vCat = a'.map fun v => v.category := by
  intro a
  induction a with
  | nil => intro a' h1; cases a' with
    | nil => rfl
    | cons x a' => exact h1.elim
  | cons y a ih => intro a' h1; cases a' with
    | nil => exact h1.elim
    | cons x a' => rw [List.map_cons, List.map_cons, ih h1.2, h1.1.cat]
theorem vRS.vals {N : Nat} : ∀ {a : List vV} {a' : List Value}, vRS T ρ N lh a a' → a'.map vI = a.map fun w => ρ w.2.1 := by
  intro a
  induction a with
  | nil => intro a' h1; cases a' with
    | nil => rfl
    | cons x a' => exact h1.elim
  | cons y a ih => intro a' h1; cases a' with
    | nil => exact h1.elim
    | cons x a' => rw [List.map_cons, List.map_cons, ih h1.2, h1.1.val]
theorem vRS.scope {N : Nat} : ∀ {a : List vV} {a' : List Value}, vRS T ρ N lh a a' → ∀ k ∈ a.map (fun w => w.2.1), k < N := by
  intro a
  induction a with
  | nil => intro a' _ k hk; cases hk
  | cons y a ih => intro a' h1; cases a' with
    | nil => exact h1.elim
    | cons x a' =>
      intro k hk
      rcases List.mem_cons.mp hk with rfl | hk
      · exact h1.1.1
      · exact ih h1.2 k hk
theorem v_sl : ∀ (as : List Value), (∀ v ∈ as, v.category = 1 ∨ v.category = 2) → (lg_sl as).length = (as.map fun v => v.category).sum := by
  intro as
  induction as with
  | nil => intro _; rfl
  | cons a as ih =>
    intro h
    have h1 := ih fun v hv => h v (List.mem_cons_of_mem _ hv)
    unfold lg_sl at h1 ⊢
    rw [List.flatMap_cons, List.length_append, h1, List.map_cons, List.sum_cons]
    rcases h a List.mem_cons_self with e | e
    · rw [if_neg (by omega), e]; rfl
    · rw [if_pos e, e]; rfl
theorem vCat_two (w : vV) : vCat w = 1 ∨ vCat w = 2 := by
  unfold vCat
  cases Nat.beq w.1 1 with
  | true => exact .inr rfl
  | false => exact .inl rfl
theorem vRS.sl {N : Nat} {a : List vV} {a' : List Value} (h : vRS T ρ N lh a a') : (lg_sl a').length = (a.map vCat).sum := by
  rw [v_sl a' fun v hv => ?_, h.cats]
  have h1 : v.category ∈ a'.map fun v => v.category := List.mem_map.mpr ⟨v, hv, rfl⟩
  rw [← h.cats] at h1
  obtain ⟨w, _, e⟩ := List.mem_map.mp h1
  rw [← e]
  exact vCat_two w
theorem vAll_ok {r : vR} : ∀ {ts : List vT} {as : List vV} {as' : List Value} {l : List vG}, vAll ts as = true → vBndAll S ts as r = some l → (∀ g ∈ l, vOkm T P m g) → vRt T P W Z m X ρ η S lh → vRS T ρ S.1 lh as as' → ∃ l', r = some l' ∧ (∀ g ∈ l', vOkm T P m g) ∧ vArgs T lh ts as' := by
  intro ts
  induction ts with
  | nil =>
    intro as as' l h1 h2 hl R hs
    cases as with
    | nil => cases as' with
      | nil => exact ⟨l, h2, hl, trivial⟩
      | cons x as' => exact hs.elim
    | cons a as => cases h1
  | cons t ts ih =>
    intro as as' l h1 h2 hl R hs
    cases as with
    | nil => cases h1
    | cons a as => cases as' with
      | nil => exact hs.elim
      | cons a' as' =>
        replace h1 : (vFits t a && (Nat.beq t.2.2.2 0 && vAll ts as)) = true := h1
        rw [Bool.and_eq_true, Bool.and_eq_true] at h1
        have e := Nat.eq_of_beq_eq_true h1.2.1
        obtain ⟨l1, g1, g2, g3⟩ := vBounds_ok (r := vBndAll S ts as r) h2 h1.1 hs.1 hl R
        obtain ⟨l2, k1, k2, k3⟩ := ih h1.2.2 g1 g2 R hs.2
        exact ⟨l2, k1, k2, ⟨vFits_ok h1.1 hs.1 e g3, e⟩, k3⟩
theorem vRel.nn {N : Nat} {w : vV} {v : Value} (h : vRel T ρ N lh w v) (hw : w.1 = 2) (hg : 0 ≤ ρ w.2.1) : vRel T ρ N lh (3, w.2) v := by
  obtain ⟨w1, w2⟩ := w
  obtain ⟨h1, h2⟩ := h
  have e : w1 = 2 := hw
  subst e
  refine ⟨h1, ?_⟩
  rcases h2 with ⟨_, z⟩ | h2
  · have z1 : ρ w2.1 = -1 := z
    have z2 : 0 ≤ ρ w2.1 := hg
    omega
  · exact h2
theorem vRS.set {N : Nat} {w : vV} : ∀ {a : List vV} {a' : List Value} {i : Nat}, vRS T ρ N lh a a' → (∀ v, a'[i]? = some v → vRel T ρ N lh w v) → vRS T ρ N lh (a.set i w) a' := by
  intro a
  induction a with
  | nil => intro a' i h _; exact h
  | cons y a ih => intro a' i h hw; cases a' with
    | nil => exact h.elim
    | cons x a' => cases i with
      | zero => exact ⟨hw x rfl, h.2⟩
      | succ i => exact ⟨h.1, ih h.2 (fun v hv => hw v (by rw [List.getElem?_cons_succ]; exact hv))⟩
theorem vRS.at {N : Nat} {w : vV} {v : Value} : ∀ {a : List vV} {a' : List Value} {i : Nat}, vRS T ρ N lh a a' → a[i]? = some w → a'[i]? = some v → vRel T ρ N lh w v := by
  intro a
  induction a with
  | nil => intro a' i h e _; cases i <;> cases e
  | cons y a ih => intro a' i h e e'; cases a' with
    | nil => exact h.elim
    | cons x a' => cases i with
      | zero =>
        cases e
        cases e'
        exact h.1
      | succ i =>
        rw [List.getElem?_cons_succ] at e e'
        exact ih h.2 e e'
theorem vNN_ok {i : Nat} {k : List vV → vR} (h : vNN S st i k = some l) (hl : ∀ g ∈ l, vOkm T P m g) (R : vRt T P W Z m X ρ η S lh) (hst : vRS T ρ S.1 lh st st') : ∃ st2 l', k st2 = some l' ∧ (∀ g ∈ l', vOkm T P m g) ∧ vRS T ρ S.1 lh st2 st' := by
  unfold vNN at h
  rw [fNth_eq] at h
  cases hw : st[i]? with
  | none => rw [hw] at h; cases h
  | some w =>
    rw [hw] at h
    dsimp only at h
    cases hb : Nat.beq w.1 2 with
    | false =>
      rw [hb] at h
      exact ⟨st, l, h, hl, hst⟩
    | true =>
      rw [hb] at h
      obtain ⟨l', h, hl, g⟩ := vGoal_ok h rfl hl R
      refine ⟨_, l', h, hl, ?_⟩
      rw [fSet_eq]
      exact hst.set fun v hv => (hst.at hw hv).nn (Nat.eq_of_beq_eq_true hb) g
theorem vProm_ok : ∀ {ts : List vT} {as : List vV} {as' : List Value} {k : List vV → vR} {l : List vG}, vProm S ts as k = some l → (∀ g ∈ l, vOkm T P m g) → vRt T P W Z m X ρ η S lh → vRS T ρ S.1 lh as as' → ∃ as2 l', k as2 = some l' ∧ (∀ g ∈ l', vOkm T P m g) ∧ vRS T ρ S.1 lh as2 as' := by
  intro ts
  induction ts with
  | nil => intro as as' k l h hl R hs; exact ⟨as, l, h, hl, hs⟩
  | cons t ts ih =>
    intro as as' k l h hl R hs
    cases as with
    | nil => exact ⟨[], l, h, hl, hs⟩
    | cons w as => cases as' with
      | nil => exact hs.elim
      | cons x as' =>
        replace h : (bif Nat.beq t.1 3 && Nat.beq w.1 2 then vGoal S (51, [w.2.1], [], 0) (vProm S ts as (fun as => k ((3, w.2) :: as))) else vProm S ts as (fun as => k (w :: as))) = some l := h
        cases hb : Nat.beq t.1 3 && Nat.beq w.1 2 with
        | false =>
          rw [hb] at h
          obtain ⟨as2, l', h1, h2, h3⟩ := ih h hl R hs.2
          exact ⟨w :: as2, l', h1, h2, hs.1, h3⟩
        | true =>
          rw [hb] at h
          rw [Bool.and_eq_true] at hb
          obtain ⟨l1, h, hl, g⟩ := vGoal_ok h rfl hl R
          obtain ⟨as2, l', h1, h2, h3⟩ := ih h hl R hs.2
          exact ⟨(3, w.2) :: as2, l', h1, h2, hs.1.nn (Nat.eq_of_beq_eq_true hb.2) g, h3⟩
theorem fX_call {op : Nat} {xs : List Int} {hs : List gH} {c : Int} (h : 1000 ≤ op) : fX T P op xs hs c = fX2 T P op xs hs c := by
  unfold fX
  rw [Nat.ble_eq.mpr h]
  rfl
theorem vRt.call {lh' : gH} {f : vF} (R : vRt T P W Z m X ρ η S lh) (hw : hLw T W Z lh lh') (hWT : WT T lh') (hs : (∀ k ∈ f.2.1, k < S.1) ∧ ∀ h ∈ f.2.2.1, h ≤ S.2.1 + 1) (hf : fD T P ρ (vUpH η (S.2.1 + 1) lh') f) : vRt T P W Z m X ρ (vUpH η (S.2.1 + 1) lh') (S.1, S.2.1 + 1, f :: S.2.2) lh' := by
  refine ⟨fun g hg => ?_, vUpH_at _ _, hWT, fun k hk => ?_, R.2.2.2.2.1, R.2.2.2.2.2.1, (vUpH_lt (Nat.succ_pos _)).trans R.2.2.2.2.2.2⟩
  · rcases List.mem_cons.mp hg with rfl | hg
    · exact ⟨hs, hf⟩
    · obtain ⟨⟨h1, h2⟩, h3⟩ := R.1 g hg
      exact ⟨⟨h1, fun k hk => Nat.le_succ_of_le (h2 k hk)⟩, (fD_congr (fun _ _ => rfl) (fun k hk => (vUpH_lt (Nat.lt_succ_of_le (h2 k hk))).symm)).mp h3⟩
  · rcases Nat.lt_or_ge k (S.2.1 + 1) with h9 | h9
    · rw [vUpH_lt h9]
      exact (R.2.2.2.1 k (Nat.le_of_lt_succ h9)).trans hw
    · rw [Nat.le_antisymm hk h9, vUpH_at]
      exact hLw.refl _ _ _ _
theorem vCal_ok {Sg : Nat → Option vM} (hSg : ∀ a m, Sg a = some m → a < 1000 ∧ gMeth T a d m (P.1 a) (P.2.1 a) ∧ P.2.2.2.2.2.2.1 a = m.2.2.2.2) (hk0 : vK T P W Z m X K (gT_ Q j (d + 1))) {a n : Nat} {as0 r : List vV} {as' r' : List Value} (h : vCal W Z Sg K S pc lv a n as0 r = some l) (hl : ∀ g ∈ l, vOkm T P m g) (R : vRt T P W Z m X ρ η S lh) (hlv : vRL T ρ S.1 lh lv lv') (has0 : vRS T ρ S.1 lh as0 as') (hr : vRS T ρ S.1 lh r r') : gCat r' = true ∧ gQ2 Q j (d + 1) (fun K C => gBack K pc lv' n r' (C a as' lh)) := by
  unfold vCal at h
  cases hm : Sg a with
  | none => rw [hm] at h; cases h
  | some M =>
    rw [hm] at h
    dsimp only at h
    obtain ⟨ha, hM, hPW⟩ := hSg a M hm
    obtain ⟨as, l0, h, hl, has⟩ := vProm_ok h hl R has0
    clear has0
    cases ht : vAll M.1 as && (Nat.ble (as.map vCat).sum (gMax a) && (vCats r && ((M.2.2.2.2.all fun q => vLoc W q.1 q.2) && (!Z || Nat.beq M.2.2.2.1 0)))) with
    | false => rw [ht] at h; cases h
    | true =>
      rw [ht] at h
      simp only [Bool.and_eq_true] at ht
      obtain ⟨t1, t2, t3, t4, t5⟩ := ht
      dsimp only [cond_true] at h
      obtain ⟨l1, h, hl, hA⟩ := vAll_ok t1 h hl R has
      have hcat : gCat r' = true := by
        unfold gCat
        rw [← hr.cats]
        exact t3
      refine ⟨hcat, ?_⟩
      have hpre : ∃ l2, (fNat (S.2.1 + 1) (fun h => bif Nat.beq M.2.1.1 9 then K (S.1, h, (1000 + a, as.map (fun w => w.2.1), [S.2.1, h], (M.2.2.2.1 : Int)) :: S.2.2) (pc + n) lv r else fNat S.1 (fun k => K (k + 1, h, (1000 + a, k :: as.map (fun w => w.2.1), [S.2.1, h], (M.2.2.2.1 : Int)) :: (vRng M.2.1 k ++ S.2.2)) (pc + n) lv (vOut M.2.1 k :: r)))) = some l2 ∧ (∀ g ∈ l2, vOkm T P m g) ∧ (M.2.2.1 = 1 → P.1 a (as'.map vI) lh) := by
        cases hb : Nat.beq M.2.2.1 1 with
        | false =>
          rw [hb] at h
          exact ⟨l1, h, hl, fun z => absurd z (Nat.ne_of_beq_eq_false hb)⟩
        | true =>
          rw [hb] at h
          obtain ⟨l2, h, hl, g⟩ := vGoal_ok h (by cases hz : Nat.ble 3000 (2000 + a) with
            | false => rfl
            | true => have := Nat.le_of_ble_eq_true hz; omega) hl R
          refine ⟨l2, h, hl, fun _ => ?_⟩
          unfold fD at g
          dsimp only at g
          rw [fX_call (by omega)] at g
          unfold fX2 at g
          rw [if_neg (by omega), if_pos (by omega)] at g
          rw [show 2000 + a - 2000 = a by omega] at g
          rw [has.vals, ← R.2.1]
          rw [List.map_map] at g
          exact g
      obtain ⟨l2, h, hl, hp⟩ := hpre
      rw [fNat_eq] at h
      obtain ⟨n1, o, o1, o2, o3, o4, o5⟩ := hM.2 as' lh R.2.2.1 hA hp
      have hw : hLw T W Z lh o.1 := o3.sub t4 (fun z => by rw [z] at t5; exact t5)
      have hfr := o3.fr R.2.2.1.1
      have back : ∀ n2 o', gRun n2 j (d + 1) (pc + n) lv' (o.2.2 ++ r') o.1 = some o' → Q o' → gQ2 Q j (d + 1) (fun K C => gBack K pc lv' n r' (C a as' lh)) := fun n2 o' e q => by
        refine ⟨n1 + n2, o', ?_, q⟩
        have e1 : gCall (gRun (n1 + n2)) (d + 1) a as' lh = some o := by
          show (bif Nat.ble (lg_sl as').length (gMax a) then gRun (n1 + n2) a d 0 (lv_args 0 as') [] lh else none) = some o
          rw [has.sl, t2]
          exact gRun_le (Nat.le_add_right n1 n2) _ _ _ _ _ _ _ o1
        show gBack _ pc lv' n r' (gCall (gRun (n1 + n2)) (d + 1) a as' lh) = _
        rw [e1]
        exact gRun_le (Nat.le_add_left n2 n1) _ _ _ _ _ _ _ e
      have hfx : ∀ (ρ' : Nat → Int) (η' : Nat → gH) (ns : List Nat), ns.map ρ' = o.2.2.map vI ++ as'.map vI → η' S.2.1 = lh → η' (S.2.1 + 1) = o.1 → fD T P ρ' η' (1000 + a, ns, [S.2.1, S.2.1 + 1], (M.2.2.2.1 : Int)) := fun ρ' η' ns e1 e2 e3 => by
        unfold fD
        dsimp only
        rw [fX_call (by omega)]
        unfold fX2
        rw [if_pos (by omega), e1, List.map_cons, List.map_cons, List.map_nil, e2, e3]
        dsimp only
        rw [show 1000 + a - 1000 = a by omega, hPW]
        refine ⟨⟨o3.1, hfr, fun z => o3.2.2.1 ?_, o2.rg⟩, o5⟩
        rw [show M.2.2.2.1 = 0 by omega]
        rfl
      cases hb : Nat.beq M.2.1.1 9 with
      | true =>
        rw [hb] at h
        rw [if_pos (Nat.eq_of_beq_eq_true hb)] at o4
        have R2 := R.call (f := (1000 + a, as.map (fun w => w.2.1), [S.2.1, S.2.1 + 1], (M.2.2.2.1 : Int))) hw o2 ⟨has.scope, fun k hk => by
          rcases List.mem_cons.mp hk with rfl | hk
          · exact Nat.le_succ _
          · rw [List.mem_singleton.mp hk]
            exact Nat.le_refl _⟩ (hfx _ _ _ (by rw [o4, has.vals, List.map_map]; rfl) ((vUpH_lt (Nat.lt_succ_self _)).trans R.2.1) (vUpH_at _ _))
        obtain ⟨n2, o', e, q⟩ := hk0 _ _ _ _ _ _ _ _ _ _ h hl R2 (hlv.heap hw.1) (hr.heap hw.1)
        refine back n2 o' ?_ q
        rw [o4]
        exact e
      | false =>
        rw [hb] at h
        dsimp only [cond_false] at h
        rw [fNat_eq] at h
        rw [if_neg (Nat.ne_of_beq_eq_false hb)] at o4
        obtain ⟨v, v1, v2⟩ := o4
        have hnn : M.2.1.2.2.2 ≠ 0 → v ≠ .null := fun z => absurd hM.1 z
        have R1 := R.new (x := vI v) (fs := vRng M.2.1 S.1) (vRng_ok v2 hnn)
        have R2 := R1.call (f := (1000 + a, S.1 :: as.map (fun w => w.2.1), [S.2.1, S.2.1 + 1], (M.2.2.2.1 : Int))) hw o2 ⟨fun k hk => by
          rcases List.mem_cons.mp hk with rfl | hk
          · exact Nat.lt_succ_self _
          · exact Nat.lt_succ_of_lt (has.scope k hk), fun k hk => by
          rcases List.mem_cons.mp hk with rfl | hk
          · exact Nat.le_succ _
          · rw [List.mem_singleton.mp hk]
            exact Nat.le_refl _⟩ (hfx _ _ _ (by
              rw [v1, List.map_cons, vUp_at, List.map_congr_left (fun k hk => vUp_lt (has.scope k hk)), has.vals, List.map_map]
              rfl) ((vUpH_lt (Nat.lt_succ_self _)).trans R.2.1) (vUpH_at _ _))
        obtain ⟨n2, o', e, q⟩ := hk0 _ _ _ _ _ _ _ _ _ _ h hl R2 (hlv.new.heap hw.1) (show vRS T _ (S.1 + 1) o.1 (vOut M.2.1 S.1 :: r) (v :: r') from ⟨vOut_ok v2 hnn, hr.new.heap hw.1⟩)
        refine back n2 o' ?_ q
        rw [v1]
        exact e
theorem vq_virt {Sg : Nat → Option vM} (hSg : ∀ a m, Sg a = some m → a < 1000 ∧ gMeth T a d m (P.1 a) (P.2.1 a) ∧ P.2.2.2.2.2.2.1 a = m.2.2.2.2) (hk0 : vK T P W Z m X K (gT_ Q j (d + 1))) {a b : Nat} {v : Int} (h : vI_virt W Z Sg K S pc a b v lv st = some l) (hl : ∀ g ∈ l, vOkm T P m g) (R : vRt T P W Z m X ρ η S lh) (hlv : vRL T ρ S.1 lh lv lv') (hst : vRS T ρ S.1 lh st st') : gQ2 Q j (d + 1) (fun K C => gI_virt K C pc a b v lv' st' lh) := by
  unfold vI_virt at h
  have hd := hst.drop b
  generalize hq : st.drop b = sd at h hd
  generalize hq' : st'.drop b = sd' at hd
  match sd, sd', hd, h with
  | x :: r, x' :: r', hd, h =>
    dsimp only at h
    cases ht : Nat.beq x.1 3 && (Nat.beq x.2.2.1 (Int.toNat v) && Nat.blt x.2.2.1 100) with
    | false => rw [ht] at h; cases h
    | true =>
      rw [ht] at h
      simp only [Bool.and_eq_true] at ht
      obtain ⟨t1, t2, t3⟩ := ht
      obtain ⟨q, rfl, z2, z3⟩ := hd.1.row t1
      obtain ⟨F, q1, q2, q3⟩ := z3.obj (Nat.blt_eq.mp t3)
      obtain ⟨c1, n1, o, e, qq⟩ := vCal_ok (a := a) hSg hk0 h hl R hlv (show vRS T ρ S.1 lh (x :: (st.take b).reverse) (.ref q :: (st'.take b).reverse) from ⟨hd.1, (hst.take b).rev⟩) hd.2
      refine ⟨n1, o, ?_, qq⟩
      show gI_virt _ _ _ _ _ _ _ _ _ = _
      unfold gI_virt
      rw [hq']
      dsimp only
      rw [q1]
      dsimp only
      rw [show (v.toNat == x.2.2.1 && gCat r') = true by
        rw [Bool.and_eq_true]
        exact ⟨by rw [Nat.eq_of_beq_eq_true t2]; exact beq_self_eq_true _, c1⟩]
      exact e
theorem vq_stat {Sg : Nat → Option vM} (hSg : ∀ a m, Sg a = some m → a < 1000 ∧ gMeth T a d m (P.1 a) (P.2.1 a) ∧ P.2.2.2.2.2.2.1 a = m.2.2.2.2) (hk0 : vK T P W Z m X K (gT_ Q j (d + 1))) {a b : Nat} (h : vI_stat W Z Sg K S pc a b lv st = some l) (hl : ∀ g ∈ l, vOkm T P m g) (R : vRt T P W Z m X ρ η S lh) (hlv : vRL T ρ S.1 lh lv lv') (hst : vRS T ρ S.1 lh st st') : gQ2 Q j (d + 1) (fun K C => gI_stat K C pc a b lv' st' lh) := by
  unfold vI_stat at h
  cases hb : Nat.ble b st.length with
  | false => rw [hb] at h; cases h
  | true =>
    rw [hb] at h
    obtain ⟨c1, n1, o, e, qq⟩ := vCal_ok (a := a) hSg hk0 h hl R hlv (hst.take b).rev (hst.drop b)
    refine ⟨n1, o, ?_, qq⟩
    show gI_stat _ _ _ _ _ _ _ _ = _
    unfold gI_stat
    rw [← hst.len, hb, c1]
    exact e
theorem vq_spec {Sg : Nat → Option vM} {dp : Bool} (hSg : ∀ a m, Sg a = some m → a < 1000 ∧ gMeth T a d m (P.1 a) (P.2.1 a) ∧ P.2.2.2.2.2.2.1 a = m.2.2.2.2) (hk0 : vK T P W Z m X K (gT_ Q j (d + 1))) {a b : Nat} (h : vI_spec W Z Sg K S pc a b lv st = some l) (hl : ∀ g ∈ l, vOkm T P m g) (R : vRt T P W Z m X ρ η S lh) (hlv : vRL T ρ S.1 lh lv lv') (hst : vRS T ρ S.1 lh st st') : gQ2 Q j (d + 1) (fun K C => gI_spec K C dp pc a b lv' st' lh) := by
  unfold vI_spec at h
  cases ha : Nat.beq a 9999 with
  | true => rw [ha] at h; cases h
  | false =>
    rw [ha] at h
    dsimp only [cond_false] at h
    have hd := hst.drop b
    generalize hq : st.drop b = sd at h hd
    generalize hq' : st'.drop b = sd' at hd
    match sd, sd', hd, h with
    | x :: r, x' :: r', hd, h =>
      dsimp only at h
      cases ht : Nat.beq x.1 3 with
      | false => rw [ht] at h; cases h
      | true =>
        rw [ht] at h
        obtain ⟨q, rfl, z2, z3⟩ := hd.1.row ht
        obtain ⟨c1, n1, o, e, qq⟩ := vCal_ok (a := a) hSg hk0 h hl R hlv (show vRS T ρ S.1 lh (x :: (st.take b).reverse) (.ref q :: (st'.take b).reverse) from ⟨hd.1, (hst.take b).rev⟩) hd.2
        refine ⟨n1, o, ?_, qq⟩
        show gI_spec _ _ _ _ _ _ _ _ _ = _
        unfold gI_spec
        rw [hq', ha]
        dsimp only [cond_false]
        rw [c1]
        exact e
end VSEVEN
