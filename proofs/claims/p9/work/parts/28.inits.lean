/-! CONSTRUCTORS that run behind the start: straight runs over the heap h ++ [object, rows] (printed by wip/gen/gen28.py). -/
theorem z_get {h t : gH} {c : gC} : (h ++ (c :: t))[h.length]? = some c := by
  rw [List.getElem?_append_right (Nat.le_refl _), Nat.sub_self]
  rfl
theorem z_set {h t : gH} {c c' : gC} : (h ++ (c :: t)).set h.length c' = h ++ (c' :: t) := by
  rw [List.set_append_right _ _ (Nat.le_refl _), Nat.sub_self]
  rfl
theorem z_put {K : Nat → gL → List Value → gH → Option gO} {pc a b : Nat} {lv : gL} {w : Value} {r : List Value} {h t : gH} {F : Nat → Value} (hf : gFit (gYt a b) w = true) (h7 : 7 ≤ h.length) : gI_put K pc a b lv (w :: .ref h.length :: r) (h ++ (.inl (a, F) :: t)) = K (pc + 3) lv r (h ++ (.inl (a, gup F b w) :: t)) := by
  unfold gI_put
  dsimp only
  rw [z_get]
  dsimp only
  rw [Nat.beq_refl, hf, Nat.ble_eq.mpr h7, z_set]
  rfl
theorem z_newa {K : Nat → gL → List Value → gH → Option gO} {pc a n : Nat} {lv : gL} {x : Int32} {r : List Value} {lh : gH} (hx : (!decide (x < 0) && Nat.ble x.toNatClampNeg 65536) = true) : gI_newa K pc a lv (.int x :: r) lh n = K (pc + n) lv (.ref lh.length :: r) (lh ++ [.inr (a, x.toNatClampNeg, fun _ => defaultValue (gTy a))]) := by
  show (bif !decide (x < 0) && Nat.ble x.toNatClampNeg 65536 then _ else none) = _
  rw [hx]
  rfl
theorem z_fit (x : Int32) : gFit .int (.int x) = true := by
  unfold gFit
  rw [decide_eq_true (show narrow .int (.int x) = .int x from rfl)]
  rfl
theorem z_fitr {ty : FieldType} (i : Nat) (h : ty.isReference = true) : gFit ty (.ref i) = true := by
  unfold gFit
  cases ty <;> first | (cases h; done) | (rw [decide_eq_true (show narrow _ (.ref i) = .ref i from rfl)]; rfl)
theorem z_fitn {ty : FieldType} (h : ty.isReference = true) : gFit ty .null = true := by
  unfold gFit
  cases ty <;> first | (cases h; done) | (rw [decide_eq_true (show narrow _ .null = .null from rfl)]; rfl)
theorem z_app {h t : gH} {c : gC} : (h ++ t) ++ [c] = h ++ (t ++ [c]) := List.append_assoc _ _ _
def F_117 (a0 a1 a2 a3 a4 : Int32) (L : Nat) : Nat → Value := (gup (gup (gup (gup (gup (gup (gup (gup (gup (gup (gup (gup (gup (fun j => defaultValue (gYt 7 j)) 4 (.ref (L + 1))) 5 (.ref (L + 2))) 7 (.int 0)) 8 (.int 0)) 9 (.int 0)) 10 (.null)) 11 (.int (-1))) 12 (.int (-1))) 0 (.int a0)) 1 (.int a1)) 2 (.int a2)) 3 (.int a3)) 6 (.int a4))
theorem run_117 {h : gH} (h7 : 7 ≤ h.length) (d : Nat) (a0 a1 a2 a3 a4 : Int32) : gRun 45 117 (d + 1) 0 (lv_args 0 [.ref h.length, .int a0, .int a1, .int a2, .int a3, .int a4]) [] (h ++ [.inl (7, fun j => defaultValue (gYt 7 j))]) = some (h ++ [.inl (7, F_117 a0 a1 a2 a3 a4 h.length), .inr (0, 240, fun _ => defaultValue (gTy 0)), .inr (0, 8, fun _ => defaultValue (gTy 0))], 78, []) := by
  refine Eq.trans (b := gI_newa (gRun 40 117 (d + 1)) 8 0 [(0, .ref h.length), (1, .int a0), (2, .int a1), (3, .int a2), (4, .int a3), (5, .int a4)] (.int 240 :: .ref h.length :: []) (h ++ (.inl (7, (fun j => defaultValue (gYt 7 j))) :: [])) 2) rfl ?_
  refine Eq.trans (z_newa (by decide)) ?_
  rw [z_app, show (h ++ (.inl (7, (fun j => defaultValue (gYt 7 j))) :: []) : gH).length = h.length + 1 by simp]
  refine Eq.trans (b := gI_put (gRun 39 117 (d + 1)) 10 7 4 [(0, .ref h.length), (1, .int a0), (2, .int a1), (3, .int a2), (4, .int a3), (5, .int a4)] (.ref (h.length + 1) :: .ref h.length :: []) (h ++ (.inl (7, (fun j => defaultValue (gYt 7 j))) :: [.inr (0, 240, fun _ => defaultValue (gTy 0))]))) rfl ?_
  refine Eq.trans (z_put (z_fitr _ rfl) h7) ?_
  refine Eq.trans (b := gI_newa (gRun 36 117 (d + 1)) 16 0 [(0, .ref h.length), (1, .int a0), (2, .int a1), (3, .int a2), (4, .int a3), (5, .int a4)] (.int 8 :: .ref h.length :: []) (h ++ (.inl (7, (gup (fun j => defaultValue (gYt 7 j)) 4 (.ref (h.length + 1)))) :: [.inr (0, 240, fun _ => defaultValue (gTy 0))])) 2) rfl ?_
  refine Eq.trans (z_newa (by decide)) ?_
  rw [z_app, show (h ++ (.inl (7, (gup (fun j => defaultValue (gYt 7 j)) 4 (.ref (h.length + 1)))) :: [.inr (0, 240, fun _ => defaultValue (gTy 0))]) : gH).length = h.length + 2 by simp]
  refine Eq.trans (b := gI_put (gRun 35 117 (d + 1)) 18 7 5 [(0, .ref h.length), (1, .int a0), (2, .int a1), (3, .int a2), (4, .int a3), (5, .int a4)] (.ref (h.length + 2) :: .ref h.length :: []) (h ++ (.inl (7, (gup (fun j => defaultValue (gYt 7 j)) 4 (.ref (h.length + 1)))) :: [.inr (0, 240, fun _ => defaultValue (gTy 0)), .inr (0, 8, fun _ => defaultValue (gTy 0))]))) rfl ?_
  refine Eq.trans (z_put (z_fitr _ rfl) h7) ?_
  refine Eq.trans (b := gI_put (gRun 32 117 (d + 1)) 23 7 7 [(0, .ref h.length), (1, .int a0), (2, .int a1), (3, .int a2), (4, .int a3), (5, .int a4)] (.int 0 :: .ref h.length :: []) (h ++ (.inl (7, (gup (gup (fun j => defaultValue (gYt 7 j)) 4 (.ref (h.length + 1))) 5 (.ref (h.length + 2)))) :: [.inr (0, 240, fun _ => defaultValue (gTy 0)), .inr (0, 8, fun _ => defaultValue (gTy 0))]))) rfl ?_
  refine Eq.trans (z_put (z_fit _) h7) ?_
  refine Eq.trans (b := gI_put (gRun 29 117 (d + 1)) 28 7 8 [(0, .ref h.length), (1, .int a0), (2, .int a1), (3, .int a2), (4, .int a3), (5, .int a4)] (.int 0 :: .ref h.length :: []) (h ++ (.inl (7, (gup (gup (gup (fun j => defaultValue (gYt 7 j)) 4 (.ref (h.length + 1))) 5 (.ref (h.length + 2))) 7 (.int 0))) :: [.inr (0, 240, fun _ => defaultValue (gTy 0)), .inr (0, 8, fun _ => defaultValue (gTy 0))]))) rfl ?_
  refine Eq.trans (z_put (z_fit _) h7) ?_
  refine Eq.trans (b := gI_put (gRun 26 117 (d + 1)) 33 7 9 [(0, .ref h.length), (1, .int a0), (2, .int a1), (3, .int a2), (4, .int a3), (5, .int a4)] (.int 0 :: .ref h.length :: []) (h ++ (.inl (7, (gup (gup (gup (gup (fun j => defaultValue (gYt 7 j)) 4 (.ref (h.length + 1))) 5 (.ref (h.length + 2))) 7 (.int 0)) 8 (.int 0))) :: [.inr (0, 240, fun _ => defaultValue (gTy 0)), .inr (0, 8, fun _ => defaultValue (gTy 0))]))) rfl ?_
  refine Eq.trans (z_put (z_fit _) h7) ?_
  refine Eq.trans (b := gI_put (gRun 23 117 (d + 1)) 38 7 10 [(0, .ref h.length), (1, .int a0), (2, .int a1), (3, .int a2), (4, .int a3), (5, .int a4)] (.null :: .ref h.length :: []) (h ++ (.inl (7, (gup (gup (gup (gup (gup (fun j => defaultValue (gYt 7 j)) 4 (.ref (h.length + 1))) 5 (.ref (h.length + 2))) 7 (.int 0)) 8 (.int 0)) 9 (.int 0))) :: [.inr (0, 240, fun _ => defaultValue (gTy 0)), .inr (0, 8, fun _ => defaultValue (gTy 0))]))) rfl ?_
  refine Eq.trans (z_put (z_fitn rfl) h7) ?_
  refine Eq.trans (b := gI_put (gRun 20 117 (d + 1)) 43 7 11 [(0, .ref h.length), (1, .int a0), (2, .int a1), (3, .int a2), (4, .int a3), (5, .int a4)] (.int (-1) :: .ref h.length :: []) (h ++ (.inl (7, (gup (gup (gup (gup (gup (gup (fun j => defaultValue (gYt 7 j)) 4 (.ref (h.length + 1))) 5 (.ref (h.length + 2))) 7 (.int 0)) 8 (.int 0)) 9 (.int 0)) 10 (.null))) :: [.inr (0, 240, fun _ => defaultValue (gTy 0)), .inr (0, 8, fun _ => defaultValue (gTy 0))]))) rfl ?_
  refine Eq.trans (z_put (z_fit _) h7) ?_
  refine Eq.trans (b := gI_put (gRun 17 117 (d + 1)) 48 7 12 [(0, .ref h.length), (1, .int a0), (2, .int a1), (3, .int a2), (4, .int a3), (5, .int a4)] (.int (-1) :: .ref h.length :: []) (h ++ (.inl (7, (gup (gup (gup (gup (gup (gup (gup (fun j => defaultValue (gYt 7 j)) 4 (.ref (h.length + 1))) 5 (.ref (h.length + 2))) 7 (.int 0)) 8 (.int 0)) 9 (.int 0)) 10 (.null)) 11 (.int (-1)))) :: [.inr (0, 240, fun _ => defaultValue (gTy 0)), .inr (0, 8, fun _ => defaultValue (gTy 0))]))) rfl ?_
  refine Eq.trans (z_put (z_fit _) h7) ?_
  refine Eq.trans (b := gI_put (gRun 14 117 (d + 1)) 53 7 0 [(0, .ref h.length), (1, .int a0), (2, .int a1), (3, .int a2), (4, .int a3), (5, .int a4)] (.int a0 :: .ref h.length :: []) (h ++ (.inl (7, (gup (gup (gup (gup (gup (gup (gup (gup (fun j => defaultValue (gYt 7 j)) 4 (.ref (h.length + 1))) 5 (.ref (h.length + 2))) 7 (.int 0)) 8 (.int 0)) 9 (.int 0)) 10 (.null)) 11 (.int (-1))) 12 (.int (-1)))) :: [.inr (0, 240, fun _ => defaultValue (gTy 0)), .inr (0, 8, fun _ => defaultValue (gTy 0))]))) rfl ?_
  refine Eq.trans (z_put (z_fit _) h7) ?_
  refine Eq.trans (b := gI_put (gRun 11 117 (d + 1)) 58 7 1 [(0, .ref h.length), (1, .int a0), (2, .int a1), (3, .int a2), (4, .int a3), (5, .int a4)] (.int a1 :: .ref h.length :: []) (h ++ (.inl (7, (gup (gup (gup (gup (gup (gup (gup (gup (gup (fun j => defaultValue (gYt 7 j)) 4 (.ref (h.length + 1))) 5 (.ref (h.length + 2))) 7 (.int 0)) 8 (.int 0)) 9 (.int 0)) 10 (.null)) 11 (.int (-1))) 12 (.int (-1))) 0 (.int a0))) :: [.inr (0, 240, fun _ => defaultValue (gTy 0)), .inr (0, 8, fun _ => defaultValue (gTy 0))]))) rfl ?_
  refine Eq.trans (z_put (z_fit _) h7) ?_
  refine Eq.trans (b := gI_put (gRun 8 117 (d + 1)) 63 7 2 [(0, .ref h.length), (1, .int a0), (2, .int a1), (3, .int a2), (4, .int a3), (5, .int a4)] (.int a2 :: .ref h.length :: []) (h ++ (.inl (7, (gup (gup (gup (gup (gup (gup (gup (gup (gup (gup (fun j => defaultValue (gYt 7 j)) 4 (.ref (h.length + 1))) 5 (.ref (h.length + 2))) 7 (.int 0)) 8 (.int 0)) 9 (.int 0)) 10 (.null)) 11 (.int (-1))) 12 (.int (-1))) 0 (.int a0)) 1 (.int a1))) :: [.inr (0, 240, fun _ => defaultValue (gTy 0)), .inr (0, 8, fun _ => defaultValue (gTy 0))]))) rfl ?_
  refine Eq.trans (z_put (z_fit _) h7) ?_
  refine Eq.trans (b := gI_put (gRun 5 117 (d + 1)) 69 7 3 [(0, .ref h.length), (1, .int a0), (2, .int a1), (3, .int a2), (4, .int a3), (5, .int a4)] (.int a3 :: .ref h.length :: []) (h ++ (.inl (7, (gup (gup (gup (gup (gup (gup (gup (gup (gup (gup (gup (fun j => defaultValue (gYt 7 j)) 4 (.ref (h.length + 1))) 5 (.ref (h.length + 2))) 7 (.int 0)) 8 (.int 0)) 9 (.int 0)) 10 (.null)) 11 (.int (-1))) 12 (.int (-1))) 0 (.int a0)) 1 (.int a1)) 2 (.int a2))) :: [.inr (0, 240, fun _ => defaultValue (gTy 0)), .inr (0, 8, fun _ => defaultValue (gTy 0))]))) rfl ?_
  refine Eq.trans (z_put (z_fit _) h7) ?_
  refine Eq.trans (b := gI_put (gRun 2 117 (d + 1)) 75 7 6 [(0, .ref h.length), (1, .int a0), (2, .int a1), (3, .int a2), (4, .int a3), (5, .int a4)] (.int a4 :: .ref h.length :: []) (h ++ (.inl (7, (gup (gup (gup (gup (gup (gup (gup (gup (gup (gup (gup (gup (fun j => defaultValue (gYt 7 j)) 4 (.ref (h.length + 1))) 5 (.ref (h.length + 2))) 7 (.int 0)) 8 (.int 0)) 9 (.int 0)) 10 (.null)) 11 (.int (-1))) 12 (.int (-1))) 0 (.int a0)) 1 (.int a1)) 2 (.int a2)) 3 (.int a3))) :: [.inr (0, 240, fun _ => defaultValue (gTy 0)), .inr (0, 8, fun _ => defaultValue (gTy 0))]))) rfl ?_
  refine Eq.trans (z_put (z_fit _) h7) ?_
  rfl
def F_22 (L : Nat) : Nat → Value := (gup (gup (gup (gup (gup (gup (gup (gup (gup (gup (gup (gup (gup (gup (gup (gup (gup (gup (gup (fun j => defaultValue (gYt 1 j)) 0 (.int 0)) 1 (.int 0)) 2 (.int 0)) 3 (.int 0)) 4 (.int (-1))) 5 (.int 0)) 6 (.int (-1))) 7 (.int 0)) 8 (.int 0)) 9 (.int (-1))) 10 (.int 100)) 11 (.int 100)) 12 (.int 1)) 13 (.int 1)) 14 (.int 0)) 15 (.int 0)) 16 (.int 0)) 17 (.ref (L + 1))) 18 (.int 0))
theorem run_22 {h : gH} (h7 : 7 ≤ h.length) (d : Nat) : gRun 62 22 (d + 1) 0 (lv_args 0 [.ref h.length]) [] (h ++ [.inl (1, fun j => defaultValue (gYt 1 j))]) = some (h ++ [.inl (1, F_22  h.length), .inr (0, 4, fun _ => defaultValue (gTy 0))], 103, []) := by
  refine Eq.trans (b := gI_put (gRun 57 22 (d + 1)) 6 1 0 [(0, .ref h.length)] (.int 0 :: .ref h.length :: []) (h ++ (.inl (1, (fun j => defaultValue (gYt 1 j))) :: []))) rfl ?_
  refine Eq.trans (z_put (z_fit _) h7) ?_
  refine Eq.trans (b := gI_put (gRun 54 22 (d + 1)) 11 1 1 [(0, .ref h.length)] (.int 0 :: .ref h.length :: []) (h ++ (.inl (1, (gup (fun j => defaultValue (gYt 1 j)) 0 (.int 0))) :: []))) rfl ?_
  refine Eq.trans (z_put (z_fit _) h7) ?_
  refine Eq.trans (b := gI_put (gRun 51 22 (d + 1)) 16 1 2 [(0, .ref h.length)] (.int 0 :: .ref h.length :: []) (h ++ (.inl (1, (gup (gup (fun j => defaultValue (gYt 1 j)) 0 (.int 0)) 1 (.int 0))) :: []))) rfl ?_
  refine Eq.trans (z_put (z_fit _) h7) ?_
  refine Eq.trans (b := gI_put (gRun 48 22 (d + 1)) 21 1 3 [(0, .ref h.length)] (.int 0 :: .ref h.length :: []) (h ++ (.inl (1, (gup (gup (gup (fun j => defaultValue (gYt 1 j)) 0 (.int 0)) 1 (.int 0)) 2 (.int 0))) :: []))) rfl ?_
  refine Eq.trans (z_put (z_fit _) h7) ?_
  refine Eq.trans (b := gI_put (gRun 45 22 (d + 1)) 26 1 4 [(0, .ref h.length)] (.int (-1) :: .ref h.length :: []) (h ++ (.inl (1, (gup (gup (gup (gup (fun j => defaultValue (gYt 1 j)) 0 (.int 0)) 1 (.int 0)) 2 (.int 0)) 3 (.int 0))) :: []))) rfl ?_
  refine Eq.trans (z_put (z_fit _) h7) ?_
  refine Eq.trans (b := gI_put (gRun 42 22 (d + 1)) 31 1 5 [(0, .ref h.length)] (.int 0 :: .ref h.length :: []) (h ++ (.inl (1, (gup (gup (gup (gup (gup (fun j => defaultValue (gYt 1 j)) 0 (.int 0)) 1 (.int 0)) 2 (.int 0)) 3 (.int 0)) 4 (.int (-1)))) :: []))) rfl ?_
  refine Eq.trans (z_put (z_fit _) h7) ?_
  refine Eq.trans (b := gI_put (gRun 39 22 (d + 1)) 36 1 6 [(0, .ref h.length)] (.int (-1) :: .ref h.length :: []) (h ++ (.inl (1, (gup (gup (gup (gup (gup (gup (fun j => defaultValue (gYt 1 j)) 0 (.int 0)) 1 (.int 0)) 2 (.int 0)) 3 (.int 0)) 4 (.int (-1))) 5 (.int 0))) :: []))) rfl ?_
  refine Eq.trans (z_put (z_fit _) h7) ?_
  refine Eq.trans (b := gI_put (gRun 36 22 (d + 1)) 41 1 7 [(0, .ref h.length)] (.int 0 :: .ref h.length :: []) (h ++ (.inl (1, (gup (gup (gup (gup (gup (gup (gup (fun j => defaultValue (gYt 1 j)) 0 (.int 0)) 1 (.int 0)) 2 (.int 0)) 3 (.int 0)) 4 (.int (-1))) 5 (.int 0)) 6 (.int (-1)))) :: []))) rfl ?_
  refine Eq.trans (z_put (z_fit _) h7) ?_
  refine Eq.trans (b := gI_put (gRun 33 22 (d + 1)) 46 1 8 [(0, .ref h.length)] (.int 0 :: .ref h.length :: []) (h ++ (.inl (1, (gup (gup (gup (gup (gup (gup (gup (gup (fun j => defaultValue (gYt 1 j)) 0 (.int 0)) 1 (.int 0)) 2 (.int 0)) 3 (.int 0)) 4 (.int (-1))) 5 (.int 0)) 6 (.int (-1))) 7 (.int 0))) :: []))) rfl ?_
  refine Eq.trans (z_put (z_fit _) h7) ?_
  refine Eq.trans (b := gI_put (gRun 30 22 (d + 1)) 51 1 9 [(0, .ref h.length)] (.int (-1) :: .ref h.length :: []) (h ++ (.inl (1, (gup (gup (gup (gup (gup (gup (gup (gup (gup (fun j => defaultValue (gYt 1 j)) 0 (.int 0)) 1 (.int 0)) 2 (.int 0)) 3 (.int 0)) 4 (.int (-1))) 5 (.int 0)) 6 (.int (-1))) 7 (.int 0)) 8 (.int 0))) :: []))) rfl ?_
  refine Eq.trans (z_put (z_fit _) h7) ?_
  refine Eq.trans (b := gI_put (gRun 27 22 (d + 1)) 57 1 10 [(0, .ref h.length)] (.int 100 :: .ref h.length :: []) (h ++ (.inl (1, (gup (gup (gup (gup (gup (gup (gup (gup (gup (gup (fun j => defaultValue (gYt 1 j)) 0 (.int 0)) 1 (.int 0)) 2 (.int 0)) 3 (.int 0)) 4 (.int (-1))) 5 (.int 0)) 6 (.int (-1))) 7 (.int 0)) 8 (.int 0)) 9 (.int (-1)))) :: []))) rfl ?_
  refine Eq.trans (z_put (z_fit _) h7) ?_
  refine Eq.trans (b := gI_put (gRun 24 22 (d + 1)) 63 1 11 [(0, .ref h.length)] (.int 100 :: .ref h.length :: []) (h ++ (.inl (1, (gup (gup (gup (gup (gup (gup (gup (gup (gup (gup (gup (fun j => defaultValue (gYt 1 j)) 0 (.int 0)) 1 (.int 0)) 2 (.int 0)) 3 (.int 0)) 4 (.int (-1))) 5 (.int 0)) 6 (.int (-1))) 7 (.int 0)) 8 (.int 0)) 9 (.int (-1))) 10 (.int 100))) :: []))) rfl ?_
  refine Eq.trans (z_put (z_fit _) h7) ?_
  refine Eq.trans (b := gI_put (gRun 21 22 (d + 1)) 68 1 12 [(0, .ref h.length)] (.int 1 :: .ref h.length :: []) (h ++ (.inl (1, (gup (gup (gup (gup (gup (gup (gup (gup (gup (gup (gup (gup (fun j => defaultValue (gYt 1 j)) 0 (.int 0)) 1 (.int 0)) 2 (.int 0)) 3 (.int 0)) 4 (.int (-1))) 5 (.int 0)) 6 (.int (-1))) 7 (.int 0)) 8 (.int 0)) 9 (.int (-1))) 10 (.int 100)) 11 (.int 100))) :: []))) rfl ?_
  refine Eq.trans (z_put (z_fit _) h7) ?_
  refine Eq.trans (b := gI_put (gRun 18 22 (d + 1)) 73 1 13 [(0, .ref h.length)] (.int 1 :: .ref h.length :: []) (h ++ (.inl (1, (gup (gup (gup (gup (gup (gup (gup (gup (gup (gup (gup (gup (gup (fun j => defaultValue (gYt 1 j)) 0 (.int 0)) 1 (.int 0)) 2 (.int 0)) 3 (.int 0)) 4 (.int (-1))) 5 (.int 0)) 6 (.int (-1))) 7 (.int 0)) 8 (.int 0)) 9 (.int (-1))) 10 (.int 100)) 11 (.int 100)) 12 (.int 1))) :: []))) rfl ?_
  refine Eq.trans (z_put (z_fit _) h7) ?_
  refine Eq.trans (b := gI_put (gRun 15 22 (d + 1)) 78 1 14 [(0, .ref h.length)] (.int 0 :: .ref h.length :: []) (h ++ (.inl (1, (gup (gup (gup (gup (gup (gup (gup (gup (gup (gup (gup (gup (gup (gup (fun j => defaultValue (gYt 1 j)) 0 (.int 0)) 1 (.int 0)) 2 (.int 0)) 3 (.int 0)) 4 (.int (-1))) 5 (.int 0)) 6 (.int (-1))) 7 (.int 0)) 8 (.int 0)) 9 (.int (-1))) 10 (.int 100)) 11 (.int 100)) 12 (.int 1)) 13 (.int 1))) :: []))) rfl ?_
  refine Eq.trans (z_put (z_fit _) h7) ?_
  refine Eq.trans (b := gI_put (gRun 12 22 (d + 1)) 83 1 15 [(0, .ref h.length)] (.int 0 :: .ref h.length :: []) (h ++ (.inl (1, (gup (gup (gup (gup (gup (gup (gup (gup (gup (gup (gup (gup (gup (gup (gup (fun j => defaultValue (gYt 1 j)) 0 (.int 0)) 1 (.int 0)) 2 (.int 0)) 3 (.int 0)) 4 (.int (-1))) 5 (.int 0)) 6 (.int (-1))) 7 (.int 0)) 8 (.int 0)) 9 (.int (-1))) 10 (.int 100)) 11 (.int 100)) 12 (.int 1)) 13 (.int 1)) 14 (.int 0))) :: []))) rfl ?_
  refine Eq.trans (z_put (z_fit _) h7) ?_
  refine Eq.trans (b := gI_put (gRun 9 22 (d + 1)) 88 1 16 [(0, .ref h.length)] (.int 0 :: .ref h.length :: []) (h ++ (.inl (1, (gup (gup (gup (gup (gup (gup (gup (gup (gup (gup (gup (gup (gup (gup (gup (gup (fun j => defaultValue (gYt 1 j)) 0 (.int 0)) 1 (.int 0)) 2 (.int 0)) 3 (.int 0)) 4 (.int (-1))) 5 (.int 0)) 6 (.int (-1))) 7 (.int 0)) 8 (.int 0)) 9 (.int (-1))) 10 (.int 100)) 11 (.int 100)) 12 (.int 1)) 13 (.int 1)) 14 (.int 0)) 15 (.int 0))) :: []))) rfl ?_
  refine Eq.trans (z_put (z_fit _) h7) ?_
  refine Eq.trans (b := gI_newa (gRun 6 22 (d + 1)) 93 0 [(0, .ref h.length)] (.int 4 :: .ref h.length :: []) (h ++ (.inl (1, (gup (gup (gup (gup (gup (gup (gup (gup (gup (gup (gup (gup (gup (gup (gup (gup (gup (fun j => defaultValue (gYt 1 j)) 0 (.int 0)) 1 (.int 0)) 2 (.int 0)) 3 (.int 0)) 4 (.int (-1))) 5 (.int 0)) 6 (.int (-1))) 7 (.int 0)) 8 (.int 0)) 9 (.int (-1))) 10 (.int 100)) 11 (.int 100)) 12 (.int 1)) 13 (.int 1)) 14 (.int 0)) 15 (.int 0)) 16 (.int 0))) :: [])) 2) rfl ?_
  refine Eq.trans (z_newa (by decide)) ?_
  rw [z_app, show (h ++ (.inl (1, (gup (gup (gup (gup (gup (gup (gup (gup (gup (gup (gup (gup (gup (gup (gup (gup (gup (fun j => defaultValue (gYt 1 j)) 0 (.int 0)) 1 (.int 0)) 2 (.int 0)) 3 (.int 0)) 4 (.int (-1))) 5 (.int 0)) 6 (.int (-1))) 7 (.int 0)) 8 (.int 0)) 9 (.int (-1))) 10 (.int 100)) 11 (.int 100)) 12 (.int 1)) 13 (.int 1)) 14 (.int 0)) 15 (.int 0)) 16 (.int 0))) :: []) : gH).length = h.length + 1 by simp]
  refine Eq.trans (b := gI_put (gRun 5 22 (d + 1)) 95 1 17 [(0, .ref h.length)] (.ref (h.length + 1) :: .ref h.length :: []) (h ++ (.inl (1, (gup (gup (gup (gup (gup (gup (gup (gup (gup (gup (gup (gup (gup (gup (gup (gup (gup (fun j => defaultValue (gYt 1 j)) 0 (.int 0)) 1 (.int 0)) 2 (.int 0)) 3 (.int 0)) 4 (.int (-1))) 5 (.int 0)) 6 (.int (-1))) 7 (.int 0)) 8 (.int 0)) 9 (.int (-1))) 10 (.int 100)) 11 (.int 100)) 12 (.int 1)) 13 (.int 1)) 14 (.int 0)) 15 (.int 0)) 16 (.int 0))) :: [.inr (0, 4, fun _ => defaultValue (gTy 0))]))) rfl ?_
  refine Eq.trans (z_put (z_fitr _ rfl) h7) ?_
  refine Eq.trans (b := gI_put (gRun 2 22 (d + 1)) 100 1 18 [(0, .ref h.length)] (.int 0 :: .ref h.length :: []) (h ++ (.inl (1, (gup (gup (gup (gup (gup (gup (gup (gup (gup (gup (gup (gup (gup (gup (gup (gup (gup (gup (fun j => defaultValue (gYt 1 j)) 0 (.int 0)) 1 (.int 0)) 2 (.int 0)) 3 (.int 0)) 4 (.int (-1))) 5 (.int 0)) 6 (.int (-1))) 7 (.int 0)) 8 (.int 0)) 9 (.int (-1))) 10 (.int 100)) 11 (.int 100)) 12 (.int 1)) 13 (.int 1)) 14 (.int 0)) 15 (.int 0)) 16 (.int 0)) 17 (.ref (h.length + 1)))) :: [.inr (0, 4, fun _ => defaultValue (gTy 0))]))) rfl ?_
  refine Eq.trans (z_put (z_fit _) h7) ?_
  rfl
def F_114 (a0 : Int32) (L : Nat) : Nat → Value := (gup (gup (gup (gup (gup (fun j => defaultValue (gYt 6 j)) 1 (.ref (L + 1))) 2 (.int 0)) 3 (.int 0)) 4 (.int 0)) 0 (.int a0))
theorem run_114 {h : gH} (h7 : 7 ≤ h.length) (d : Nat) (a0 : Int32) : gRun 20 114 (d + 1) 0 (lv_args 0 [.ref h.length, .int a0]) [] (h ++ [.inl (6, fun j => defaultValue (gYt 6 j))]) = some (h ++ [.inl (6, F_114 a0 h.length), .inr (6, 40, fun _ => defaultValue (gTy 6))], 33, []) := by
  refine Eq.trans (b := gI_newa (gRun 15 114 (d + 1)) 7 6 [(0, .ref h.length), (1, .int a0)] (.int 40 :: .ref h.length :: []) (h ++ (.inl (6, (fun j => defaultValue (gYt 6 j))) :: [])) 3) rfl ?_
  refine Eq.trans (z_newa (by decide)) ?_
  rw [z_app, show (h ++ (.inl (6, (fun j => defaultValue (gYt 6 j))) :: []) : gH).length = h.length + 1 by simp]
  refine Eq.trans (b := gI_put (gRun 14 114 (d + 1)) 10 6 1 [(0, .ref h.length), (1, .int a0)] (.ref (h.length + 1) :: .ref h.length :: []) (h ++ (.inl (6, (fun j => defaultValue (gYt 6 j))) :: [.inr (6, 40, fun _ => defaultValue (gTy 6))]))) rfl ?_
  refine Eq.trans (z_put (z_fitr _ rfl) h7) ?_
  refine Eq.trans (b := gI_put (gRun 11 114 (d + 1)) 15 6 2 [(0, .ref h.length), (1, .int a0)] (.int 0 :: .ref h.length :: []) (h ++ (.inl (6, (gup (fun j => defaultValue (gYt 6 j)) 1 (.ref (h.length + 1)))) :: [.inr (6, 40, fun _ => defaultValue (gTy 6))]))) rfl ?_
  refine Eq.trans (z_put (z_fit _) h7) ?_
  refine Eq.trans (b := gI_put (gRun 8 114 (d + 1)) 20 6 3 [(0, .ref h.length), (1, .int a0)] (.int 0 :: .ref h.length :: []) (h ++ (.inl (6, (gup (gup (fun j => defaultValue (gYt 6 j)) 1 (.ref (h.length + 1))) 2 (.int 0))) :: [.inr (6, 40, fun _ => defaultValue (gTy 6))]))) rfl ?_
  refine Eq.trans (z_put (z_fit _) h7) ?_
  refine Eq.trans (b := gI_put (gRun 5 114 (d + 1)) 25 6 4 [(0, .ref h.length), (1, .int a0)] (.int 0 :: .ref h.length :: []) (h ++ (.inl (6, (gup (gup (gup (fun j => defaultValue (gYt 6 j)) 1 (.ref (h.length + 1))) 2 (.int 0)) 3 (.int 0))) :: [.inr (6, 40, fun _ => defaultValue (gTy 6))]))) rfl ?_
  refine Eq.trans (z_put (z_fit _) h7) ?_
  refine Eq.trans (b := gI_put (gRun 2 114 (d + 1)) 30 6 0 [(0, .ref h.length), (1, .int a0)] (.int a0 :: .ref h.length :: []) (h ++ (.inl (6, (gup (gup (gup (gup (fun j => defaultValue (gYt 6 j)) 1 (.ref (h.length + 1))) 2 (.int 0)) 3 (.int 0)) 4 (.int 0))) :: [.inr (6, 40, fun _ => defaultValue (gTy 6))]))) rfl ?_
  refine Eq.trans (z_put (z_fit _) h7) ?_
  rfl
