/-! A right RULE, a loud one, all RULES read by the class (hand). -/
theorem CODE_put {a b : gH} {d i x : Int} {j : Nat} {L : List Int} (p : PUTr a b d j i x) (j1 : 2 ≤ j) (c : CODE a d L) : CODE b d L := by
  obtain ⟨p1, p2, p3, p4, p5⟩ := p
  refine ⟨(p3 2).trans c.1, fun k y h => ?_⟩
  rw [p4 1 (by decide) (by decide) (by omega)]
  exact c.2 k y h
theorem CODE_end {a b : gH} {d x w : Int} {j : Nat} {L : List Int} (z : RO a d) (p : ENDp a b d j x w) (j1 : 2 ≤ j) (c : CODE a d L) : CODE b d L := by
  obtain ⟨p1, p2, p3, p4, p5⟩ := p z
  refine ⟨(p3 2 (by decide)).trans c.1, fun k y h => ?_⟩
  rw [p4 1 (by decide) (by decide) (by omega) (by decide)]
  exact c.2 k y h
theorem RR_right {a b c e e1 f g : gH} {d : Int} (za : RO a d) (sm : SMf a b) (pb : RO b d → PUTr b c d 2 (hV b d.toNat 0) (hV b d.toNat 2)) (kc : RO c d → KO c e d) (pe : RO e d → PUTr e e1 d 3 (hV e d.toNat 0) (hV e d.toNat 2)) (kf : RO e1 d → KO e1 f d) (en : ENDp f g d 4 (hV f d.toNat 2) 0) : RO g d ∧ OT a g d ∧ RO c d ∧ RO e1 d ∧ (∀ L, CODE a d L → CODE c d L) ∧ (∀ L, CODE e d L → CODE e1 d L) ∧ ∀ (L : List Int) (R : List Rul) (E : List Op) (LC : List Lit), CODE a d L → RLl a d L R → R.length < 12 → CODE e d (L ++ E.map enc) → CODE f d ((L ++ E.map enc) ++ cC false false LC) → RLl g d (L ++ (E.map enc ++ cC false false LC)) (R ++ [some (E, LC)]) ∧ CODE g d (L ++ (E.map enc ++ cC false false LC)) := by
  have k1 := KO_sm za sm
  have zb := k1.1
  have pb := pb zb
  have zc := pb.1
  have kc := kc zc
  have ze := kc.1
  have pe := pe ze
  have z1 := pe.1
  have kf := kf z1
  have zf := kf.1
  obtain ⟨n1, n2, n3, n4, n5⟩ := en zf
  refine ⟨n1, OT_tr k1.2.2.2 (OT_tr pb.2.1 (OT_tr kc.2.2.2 (OT_tr pe.2.1 (OT_tr kf.2.2.2 n2)))), zc, z1, fun L cl => CODE_put pb (by decide) (CODE_sm za sm cl), fun L cl => CODE_put pe (by decide) cl, fun L R E LC cl rl lt ce cf => ?_⟩
  obtain ⟨b1, b2, b3, b4, b5⟩ := pb
  obtain ⟨c1, c2, c3, c4⟩ := kc
  obtain ⟨e1_, e2, e3, e4, e5⟩ := pe
  obtain ⟨f1, f2, f3, f4⟩ := kf
  have r0 := rl.1
  have sb : hV b d.toNat 0 = (R.length : Int) := (k1.2.2.1 0 (by decide)).trans r0
  have se : hV e d.toNat 0 = (R.length : Int) := (c3 0 (by decide)).trans ((b3 0).trans sb)
  have sf : hV f d.toNat 0 = (R.length : Int) := (f3 0 (by decide)).trans ((e3 0).trans se)
  rw [sb] at b5
  rw [se] at e5
  rw [sf] at n5
  have b5 := b5 (by omega) (by omega)
  have e5 := e5 (by omega) (by omega)
  obtain ⟨n5, n6, n7⟩ := n5 (by omega) (by omega)
  have clb := (CODE_sm za sm cl).1
  rw [clb] at b5
  rw [ce.1] at e5
  rw [cf.1] at n5
  have w2 : hV g (d.toNat + 2) = uF (hV a (d.toNat + 2)) (R.length : Int) (L.length : Int) := by
    rw [n4 2 (by decide) (by decide) (by decide) (by decide), f2 2 (by decide) (by decide), e4 2 (by decide) (by decide) (by decide), c2 2 (by decide) (by decide), b5, k1.2.1 2 (by decide) (by decide)]
  have w3 : hV g (d.toNat + 3) = uF (hV a (d.toNat + 3)) (R.length : Int) ((L ++ E.map enc).length : Int) := by
    rw [n4 3 (by decide) (by decide) (by decide) (by decide), f2 3 (by decide) (by decide), e5, c2 3 (by decide) (by decide), b4 3 (by decide) (by decide) (by decide), k1.2.1 3 (by decide) (by decide)]
  have w4 : hV g (d.toNat + 4) = uF (hV a (d.toNat + 4)) (R.length : Int) (((L ++ E.map enc) ++ cC false false LC).length : Int) := by
    rw [n5, f2 4 (by decide) (by decide), e4 4 (by decide) (by decide) (by decide), c2 4 (by decide) (by decide), b4 4 (by decide) (by decide) (by decide), k1.2.1 4 (by decide) (by decide)]
  have w6 : hV g (d.toNat + 6) = uF (hV a (d.toNat + 6)) (R.length : Int) 0 := by
    rw [n6, f2 6 (by decide) (by decide), e4 6 (by decide) (by decide) (by decide), c2 6 (by decide) (by decide), b4 6 (by decide) (by decide) (by decide), k1.2.1 6 (by decide) (by decide)]
  have ne : ∀ (x : Int) (F : Nat → Int) (i : Nat), i < R.length → uF F (R.length : Int) x i = F i := fun x F i hi => by
    rw [uF_at, if_neg (by omega)]
  have at_ : ∀ (x : Int) (F : Nat → Int), uF F (R.length : Int) x R.length = x := fun x F => by
    rw [uF_at, if_pos rfl]
  refine ⟨RLl_add rl lt n7 (fun i hi => by rw [w2, ne _ _ i hi]) (fun i hi => by rw [w3, ne _ _ i hi]) (fun i hi => by rw [w4, ne _ _ i hi]) (fun i hi => by rw [w6, ne _ _ i hi]) ?_, ?_⟩
  · show hV g (d.toNat + 6) R.length = 0 ∧ CDl _ (hV g (d.toNat + 2) R.length) (hV g (d.toNat + 3) R.length) (E.map enc) ∧ CDl _ (hV g (d.toNat + 3) R.length) (hV g (d.toNat + 4) R.length) (cC false false LC)
    rw [w2, w3, w4, w6, at_, at_, at_, at_]
    refine ⟨rfl, ?_, ?_⟩
    · rw [← List.append_assoc]
      exact CDl_app (CDl_end rfl rfl)
    · rw [← List.append_assoc]
      exact CDl_end rfl rfl
  · rw [← List.append_assoc]
    exact CODE_end zf en (by decide) cf
theorem RR_loud {a b c g : gH} {d m w : Int} (za : RO a d) (sm : SMf a b) (pb : RO b d → PUTr b c d 2 (hV b d.toNat 0) (hV b d.toNat 2)) (en : ENDp c g d 5 m w) : RO g d ∧ OT a g d ∧ ∀ (L : List Int) (R : List Rul), CODE a d L → RLl a d L R → R.length < 12 → 0 < w → RLl g d (L ++ []) (R ++ [none]) ∧ CODE g d (L ++ []) := by
  have k1 := KO_sm za sm
  have pb := pb k1.1
  have zc := pb.1
  obtain ⟨n1, n2, n3, n4, n5⟩ := en zc
  refine ⟨n1, OT_tr k1.2.2.2 (OT_tr pb.2.1 n2), fun L R cl rl lt hw => ?_⟩
  have cc := CODE_put pb (by decide) (CODE_sm za sm cl)
  obtain ⟨b1, b2, b3, b4, b5⟩ := pb
  have r0 := rl.1
  have sb : hV b d.toNat 0 = (R.length : Int) := (k1.2.2.1 0 (by decide)).trans r0
  have sc : hV c d.toNat 0 = (R.length : Int) := (b3 0).trans sb
  rw [sb] at b5
  rw [sc] at n5
  have b5 := b5 (by omega) (by omega)
  obtain ⟨n5, n6, n7⟩ := n5 (by omega) (by omega)
  have ne : ∀ (x : Int) (F : Nat → Int) (i : Nat), i < R.length → uF F (R.length : Int) x i = F i := fun x F i hi => by
    rw [uF_at, if_neg (by omega)]
  refine ⟨RLl_add rl lt n7 (fun i hi => ?_) (fun i hi => ?_) (fun i hi => ?_) (fun i hi => ?_) ?_, ?_⟩
  · rw [n4 2 (by decide) (by decide) (by decide) (by decide), b5, ne _ _ i hi, k1.2.1 2 (by decide) (by decide)]
  · rw [n4 3 (by decide) (by decide) (by decide) (by decide), b4 3 (by decide) (by decide) (by decide), k1.2.1 3 (by decide) (by decide)]
  · rw [n4 4 (by decide) (by decide) (by decide) (by decide), b4 4 (by decide) (by decide) (by decide), k1.2.1 4 (by decide) (by decide)]
  · rw [n6, ne _ _ i hi, b4 6 (by decide) (by decide) (by decide), k1.2.1 6 (by decide) (by decide)]
  · show 0 < hV g (d.toNat + 6) R.length
    rw [n6, uF_at, if_pos rfl]
    exact hw
  · rw [List.append_nil]
    exact CODE_end zc en (by decide) cc
