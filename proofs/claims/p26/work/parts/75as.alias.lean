/-! THE COUPLED METHODS of the sheets under the law's names (printed by wip/gen/lawsh.py). -/
noncomputable def s_157t : vM := s_157y
def preb_157t (a0 : Int) (h : gH) : Prop := preb_157y a0 h
def postb_157t (r a0 : Int) (h0 h : gH) : Prop := (h.length : Int) ≤ h0.length + 82 * (hV h 7 4 - hV h0 7 4) ∧ RDY h ∧ KM h ∧ ICm h ∧ (mC h, r) = mRead (mC h0) ∧ (CK h0 → K79 h0 → B16 h0 7 → RDT (pTx (hV h0 8) (hV h0 7 1)) r h0 h)
def post_157t : List Int → gH → gH → Prop := fun xs h0 h => match xs with
  | [r, a0] => postb_157t r a0 h0 h
  | _ => True
noncomputable def e_157t : vE := (157, s_157y, pre_157y, post_157t)
theorem m_157t (d : Nat) : eC e_157t (d + 15) := eC_post (eC_and2 (m_157u (d + 0)) (m_157y (d + 0)) rfl rfl (fun xs h z => by
  rcases xs with _ | ⟨a, _ | ⟨b, xs⟩⟩ <;> exact z) rfl) (fun xs h0 h z => by
  unfold post_157t
  split
  · obtain ⟨⟨z_0, z_1, z_2, z_3, z_4⟩, z9⟩ := z
    exact ⟨z_0, z_1, z_2, z_3, z_4, z9⟩
  · trivial)
noncomputable def s_221t : vM := s_221
def postb_221t (r a0 : Int) (h0 h : gH) : Prop := PG h ∧ AC h ∧ PQ h ∧ RV h ∧ SO h ∧ RN h ∧ nb_221 r a0 h0 h ∧ yb_221 r a0 h0 h
def post_221t : List Int → gH → gH → Prop := fun xs h0 h => match xs with
  | [r, a0] => postb_221t r a0 h0 h
  | _ => True
noncomputable def e_221t : vE := (e_221y.1, e_221y.2.1, e_221y.2.2.1, post_221t)
theorem m_221t (d : Nat) : eC e_221t (d + 11) := eC_post (m_221y (d + 0)) (fun xs h0 h z => by
  unfold post_221t
  split
  · obtain ⟨⟨⟨z_0, z_1, z_2, z_3, z_4, z_5⟩, z_6⟩, z9⟩ := z
    exact ⟨z_0, z_1, z_2, z_3, z_4, z_5, z_6, z9⟩
  · trivial)
noncomputable def s_179t : vM := s_179
def postb_179t (r a0 a1 : Int) (h0 h : gH) : Prop := nb_179 r a0 a1 h0 h
def post_179t : List Int → gH → gH → Prop := fun xs h0 h => match xs with
  | [r, a0, a1] => postb_179t r a0 a1 h0 h
  | _ => True
noncomputable def e_179t : vE := (e_179w.1, e_179w.2.1, e_179w.2.2.1, post_179t)
theorem m_179t (d : Nat) : eC e_179t (d + 5) := eC_post (m_179w (d + 0)) (fun xs h0 h z => by
  unfold post_179t
  split
  · exact z.2
  · trivial)
noncomputable def s_281t : vM := s_281
def postb_281t (r a0 a1 : Int) (h0 h : gH) : Prop := nb_281 r a0 a1 h0 h
def post_281t : List Int → gH → gH → Prop := fun xs h0 h => match xs with
  | [r, a0, a1] => postb_281t r a0 a1 h0 h
  | _ => True
noncomputable def e_281t : vE := (e_281w.1, e_281w.2.1, e_281w.2.2.1, post_281t)
theorem m_281t (d : Nat) : eC e_281t (d + 6) := eC_post (m_281w (d + 0)) (fun xs h0 h z => by
  unfold post_281t
  split
  · exact z.2
  · trivial)
noncomputable def s_165t : vM := s_165v
def postb_165t (r a0 a1 a2 a3 a4 : Int) (h0 h : gH) : Prop := postb_165v r a0 a1 a2 a3 a4 h0 h
noncomputable def e_165t : vE := e_165v
theorem m_165t (d : Nat) : eC e_165t (d + 3) := m_165v (d + 0)
noncomputable def s_253t : vM := s_253
def postb_253t (r a0 a1 a2 a3 a4 : Int) (h0 h : gH) : Prop := SO h ∧ SS h ∧ hV h 285 65 ≤ hV h0 285 65 + 1 ∧ AC h ∧ ((SNCp a1 a2 a3 a4 ∧ hV h0 285 64 ≤ 19 ∧ ADDm r a1 a2 (hV h0 285 64) (hV h 285 64) (hV h0 328) (hV h0 338) (hV h0 329) (hV h 328) (hV h 338) (hV h 329)) ∨ (¬ (SNCp a1 a2 a3 a4 ∧ hV h0 285 64 ≤ 19) ∧ r = -1 ∧ SAMm (hV h0 285 64) (hV h 285 64) (hV h0 328) (hV h0 338) (hV h0 329) (hV h 328) (hV h 338) (hV h 329))) ∧ nb_253 r a0 a1 a2 a3 a4 h0 h
def post_253t : List Int → gH → gH → Prop := fun xs h0 h => match xs with
  | [r, a0, a1, a2, a3, a4] => postb_253t r a0 a1 a2 a3 a4 h0 h
  | _ => True
noncomputable def e_253t : vE := ((eAnd e_253v e_253w).1, (eAnd e_253v e_253w).2.1, (eAnd e_253v e_253w).2.2.1, post_253t)
theorem m_253t (d : Nat) : eC e_253t (d + 2) := eC_post (eC_and2 (m_253v (d + 0)) (m_253w (d + 0)) rfl rfl (fun _ _ z => z) rfl) (fun xs h0 h z => by
  unfold post_253t
  split
  · obtain ⟨⟨z_0, z_1, z_2, z_3, z_4⟩, _, z9⟩ := z
    exact ⟨z_0, z_1, z_2, z_3, z_4, z9⟩
  · trivial)
noncomputable def s_166t : vM := s_166v
def postb_166t (r a0 a1 a2 a3 : Int) (h0 h : gH) : Prop := postb_166v r a0 a1 a2 a3 h0 h
noncomputable def e_166t : vE := e_166v
theorem m_166t (d : Nat) : eC e_166t (d + 3) := m_166v (d + 0)
noncomputable def s_254t : vM := s_254
def postb_254t (r a0 a1 a2 a3 : Int) (h0 h : gH) : Prop := SO h ∧ SS h ∧ hV h 285 65 ≤ hV h0 285 65 + 1 ∧ AC h ∧ (((0 ≤ a1 ∧ a1 < hV h0 285 64 ∧ 0 ≤ a2 ∧ a2 < a3 ∧ a3 ≤ 240) ∧ hV h0 285 64 ≤ 19 ∧ ADDm r 4 0 (hV h0 285 64) (hV h 285 64) (hV h0 328) (hV h0 338) (hV h0 329) (hV h 328) (hV h 338) (hV h 329)) ∨ (¬ ((0 ≤ a1 ∧ a1 < hV h0 285 64 ∧ 0 ≤ a2 ∧ a2 < a3 ∧ a3 ≤ 240) ∧ hV h0 285 64 ≤ 19) ∧ r = -1 ∧ SAMm (hV h0 285 64) (hV h 285 64) (hV h0 328) (hV h0 338) (hV h0 329) (hV h 328) (hV h 338) (hV h 329))) ∧ nb_254 r a0 a1 a2 a3 h0 h
def post_254t : List Int → gH → gH → Prop := fun xs h0 h => match xs with
  | [r, a0, a1, a2, a3] => postb_254t r a0 a1 a2 a3 h0 h
  | _ => True
noncomputable def e_254t : vE := ((eAnd e_254v e_254w).1, (eAnd e_254v e_254w).2.1, (eAnd e_254v e_254w).2.2.1, post_254t)
theorem m_254t (d : Nat) : eC e_254t (d + 2) := eC_post (eC_and2 (m_254v (d + 0)) (m_254w (d + 0)) rfl rfl (fun _ _ z => z) rfl) (fun xs h0 h z => by
  unfold post_254t
  split
  · obtain ⟨⟨z_0, z_1, z_2, z_3, z_4⟩, _, z9⟩ := z
    exact ⟨z_0, z_1, z_2, z_3, z_4, z9⟩
  · trivial)
noncomputable def s_167t : vM := s_167v
def postb_167t (r a0 a1 : Int) (h0 h : gH) : Prop := postb_167v r a0 a1 h0 h
noncomputable def e_167t : vE := e_167v
theorem m_167t (d : Nat) : eC e_167t (d + 3) := m_167v (d + 0)
noncomputable def s_255t : vM := s_255
def postb_255t (r a0 a1 : Int) (h0 h : gH) : Prop := SO h ∧ SS h ∧ hV h 285 65 ≤ hV h0 285 65 + 1 ∧ AC h ∧ (((0 ≤ a1 ∧ a1 < hV h0 285 64 ∧ hV h0 328 ((a1).toNat) = 2) ∧ hV h0 285 64 ≤ 19 ∧ ADDm r 5 0 (hV h0 285 64) (hV h 285 64) (hV h0 328) (hV h0 338) (hV h0 329) (hV h 328) (hV h 338) (hV h 329)) ∨ (¬ ((0 ≤ a1 ∧ a1 < hV h0 285 64 ∧ hV h0 328 ((a1).toNat) = 2) ∧ hV h0 285 64 ≤ 19) ∧ r = -1 ∧ SAMm (hV h0 285 64) (hV h 285 64) (hV h0 328) (hV h0 338) (hV h0 329) (hV h 328) (hV h 338) (hV h 329))) ∧ nb_255 r a0 a1 h0 h
def post_255t : List Int → gH → gH → Prop := fun xs h0 h => match xs with
  | [r, a0, a1] => postb_255t r a0 a1 h0 h
  | _ => True
noncomputable def e_255t : vE := ((eAnd e_255v e_255w).1, (eAnd e_255v e_255w).2.1, (eAnd e_255v e_255w).2.2.1, post_255t)
theorem m_255t (d : Nat) : eC e_255t (d + 2) := eC_post (eC_and2 (m_255v (d + 0)) (m_255w (d + 0)) rfl rfl (fun _ _ z => z) rfl) (fun xs h0 h z => by
  unfold post_255t
  split
  · obtain ⟨⟨z_0, z_1, z_2, z_3, z_4⟩, _, z9⟩ := z
    exact ⟨z_0, z_1, z_2, z_3, z_4, z9⟩
  · trivial)
noncomputable def s_168t : vM := s_168v
def postb_168t (r a0 : Int) (h0 h : gH) : Prop := postb_168v r a0 h0 h
noncomputable def e_168t : vE := e_168v
theorem m_168t (d : Nat) : eC e_168t (d + 3) := m_168v (d + 0)
noncomputable def s_256t : vM := s_256
def postb_256t (r a0 : Int) (h0 h : gH) : Prop := SO h ∧ SS h ∧ hV h 285 65 ≤ hV h0 285 65 + 1 ∧ AC h ∧ ((True ∧ hV h0 285 64 ≤ 19 ∧ ADDm r 6 0 (hV h0 285 64) (hV h 285 64) (hV h0 328) (hV h0 338) (hV h0 329) (hV h 328) (hV h 338) (hV h 329)) ∨ (¬ (True ∧ hV h0 285 64 ≤ 19) ∧ r = -1 ∧ SAMm (hV h0 285 64) (hV h 285 64) (hV h0 328) (hV h0 338) (hV h0 329) (hV h 328) (hV h 338) (hV h 329))) ∧ nb_256 r a0 h0 h
def post_256t : List Int → gH → gH → Prop := fun xs h0 h => match xs with
  | [r, a0] => postb_256t r a0 h0 h
  | _ => True
noncomputable def e_256t : vE := ((eAnd e_256v e_256w).1, (eAnd e_256v e_256w).2.1, (eAnd e_256v e_256w).2.2.1, post_256t)
theorem m_256t (d : Nat) : eC e_256t (d + 2) := eC_post (eC_and2 (m_256v (d + 0)) (m_256w (d + 0)) rfl rfl (fun _ _ z => z) rfl) (fun xs h0 h z => by
  unfold post_256t
  split
  · obtain ⟨⟨z_0, z_1, z_2, z_3, z_4⟩, _, z9⟩ := z
    exact ⟨z_0, z_1, z_2, z_3, z_4, z9⟩
  · trivial)
noncomputable def s_174t : vM := s_174
def postb_174t (r a0 a1 a2 a3 : Int) (h0 h : gH) : Prop := nb_174 r a0 a1 a2 a3 h0 h
def post_174t : List Int → gH → gH → Prop := fun xs h0 h => match xs with
  | [r, a0, a1, a2, a3] => postb_174t r a0 a1 a2 a3 h0 h
  | _ => True
noncomputable def e_174t : vE := (e_174w.1, e_174w.2.1, e_174w.2.2.1, post_174t)
theorem m_174t (d : Nat) : eC e_174t (d + 8) := eC_post (m_174w (d + 0)) (fun xs h0 h z => by
  unfold post_174t
  split
  · exact z.2
  · trivial)
noncomputable def s_285t : vM := s_285
def postb_285t (r a0 a1 a2 a3 : Int) (h0 h : gH) : Prop := SO h ∧ SS h ∧ AC h ∧ hV h 285 65 ≤ hV h0 285 65 + 1 ∧ nb_285 r a0 a1 a2 a3 h0 h
def post_285t : List Int → gH → gH → Prop := fun xs h0 h => match xs with
  | [r, a0, a1, a2, a3] => postb_285t r a0 a1 a2 a3 h0 h
  | _ => True
noncomputable def e_285t : vE := (e_285w.1, e_285w.2.1, e_285w.2.2.1, post_285t)
theorem m_285t (d : Nat) : eC e_285t (d + 6) := eC_post (m_285w (d + 0)) (fun xs h0 h z => by
  unfold post_285t
  split
  · obtain ⟨⟨z_0, z_1, z_2, z_3⟩, z9⟩ := z
    exact ⟨z_0, z_1, z_2, z_3, z9⟩
  · trivial)
noncomputable def s_290t : vM := s_290
def postb_290t (r a0 : Int) (h0 h : gH) : Prop := SO h ∧ SS h ∧ AC h ∧ hV h 285 65 ≤ hV h0 285 65 + 20 ∧ nb_290 r a0 h0 h
def post_290t : List Int → gH → gH → Prop := fun xs h0 h => match xs with
  | [r, a0] => postb_290t r a0 h0 h
  | _ => True
noncomputable def e_290t : vE := (e_290w.1, e_290w.2.1, e_290w.2.2.1, post_290t)
theorem m_290t (d : Nat) : eC e_290t (d + 8) := eC_post (m_290w (d + 0)) (fun xs h0 h z => by
  unfold post_290t
  split
  · obtain ⟨⟨z_0, z_1, z_2, z_3⟩, z9⟩ := z
    exact ⟨z_0, z_1, z_2, z_3, z9⟩
  · trivial)
