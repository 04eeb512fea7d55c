/-! THE COUPLED METHODS of the sheets under the law's names (printed by wip/gen/lawsh.py). -/
noncomputable def s_157t : vM := s_157y
def preb_157t (a0 : Int) (h : gH) : Prop := preb_157y a0 h
def postb_157t (r a0 : Int) (h0 h : gH) : Prop := (h.length : Int) ≤ h0.length + 82 * (hV h 7 4 - hV h0 7 4) ∧ RDY h ∧ KM h ∧ ICm h ∧ (mC h, r) = mRead (mC h0) ∧ (CK h0 → K79 h0 → B16 h0 7 → RDT (pTx (hV h0 8) (hV h0 7 1)) r h0 h) ∧ (RX h0 → RXr (pTx (hV h0 8) (hV h0 7 1)) r h0 h)
def post_157t : List Int → gH → gH → Prop := fun xs h0 h => match xs with
  | [r, a0] => postb_157t r a0 h0 h
  | _ => True
noncomputable def e_157t : vE := (157, s_157y, pre_157y, post_157t)
theorem m_157t (d : Nat) : eC e_157t (d + 15) := eC_post (eC_and2 (eC_and2 (m_157u d) (m_157o d) rfl rfl (fun xs h z => by
  rcases xs with _ | ⟨a, _ | ⟨b, xs⟩⟩ <;> exact z) rfl) (m_157y d) rfl rfl (fun xs h z => by
  rcases xs with _ | ⟨a, _ | ⟨b, xs⟩⟩ <;> exact z) rfl) (fun xs h0 h z => by
  unfold post_157t
  split
  · obtain ⟨⟨⟨z_0, z_1, z_2, z_3, z_4⟩, z8⟩, z9⟩ := z
    exact ⟨z_0, z_1, z_2, z_3, z_4, z9, z8⟩
  · trivial)
noncomputable def s_221t : vM := s_221
def postb_221t (r a0 : Int) (h0 h : gH) : Prop := PG h ∧ AC h ∧ PQ h ∧ RV h ∧ SO h ∧ RN h ∧ nb_221 r a0 h0 h ∧ yb_221 r a0 h0 h ∧ ybo_221 r a0 h0 h
def post_221t : List Int → gH → gH → Prop := fun xs h0 h => match xs with
  | [r, a0] => postb_221t r a0 h0 h
  | _ => True
noncomputable def e_221t : vE := ((eAnd e_221o e_221y).1, (eAnd e_221o e_221y).2.1, (eAnd e_221o e_221y).2.2.1, post_221t)
theorem m_221t (d : Nat) : eC e_221t (d + 11) := eC_post (eC_and2 (m_221o d) (m_221y d) rfl rfl (fun _ _ z => z) rfl) (fun xs h0 h z => by
  unfold post_221t
  split
  · obtain ⟨⟨_, z8⟩, ⟨⟨z_0, z_1, z_2, z_3, z_4, z_5⟩, z_6⟩, z9⟩ := z
    exact ⟨z_0, z_1, z_2, z_3, z_4, z_5, z_6, z9, z8⟩
  · trivial)
noncomputable def s_190t : vM := s_190
def postb_190t (r a0 a1 a2 a3 a4 : Int) (h0 h : gH) : Prop := nb_190 r a0 a1 a2 a3 a4 h0 h
def post_190t : List Int → gH → gH → Prop := fun xs h0 h => match xs with
  | [r, a0, a1, a2, a3, a4] => postb_190t r a0 a1 a2 a3 a4 h0 h
  | _ => True
noncomputable def e_190t : vE := (e_190w.1, e_190w.2.1, e_190w.2.2.1, post_190t)
theorem m_190t (d : Nat) : eC e_190t (d + 7) := eC_post (m_190w (d + 0)) (fun xs h0 h z => by
  unfold post_190t
  split
  · exact z.2
  · trivial)
noncomputable def s_313t : vM := s_313
def postb_313t (r a0 a1 a2 a3 a4 : Int) (h0 h : gH) : Prop := nb_313 r a0 a1 a2 a3 a4 h0 h
def post_313t : List Int → gH → gH → Prop := fun xs h0 h => match xs with
  | [r, a0, a1, a2, a3, a4] => postb_313t r a0 a1 a2 a3 a4 h0 h
  | _ => True
noncomputable def e_313t : vE := (e_313w.1, e_313w.2.1, e_313w.2.2.1, post_313t)
theorem m_313t (d : Nat) : eC e_313t (d + 5) := eC_post (m_313w (d + 0)) (fun xs h0 h z => by
  unfold post_313t
  split
  · exact z.2
  · trivial)
noncomputable def s_172t : vM := s_172y
def postb_172t (r a0 a1 a2 : Int) (h0 h : gH) : Prop := postb_172y r a0 a1 a2 h0 h
noncomputable def e_172t : vE := e_172y
theorem m_172t (d : Nat) : eC e_172t (d + 3) := m_172y (d + 0)
noncomputable def s_262t : vM := s_262
def postb_262t (r a0 a1 a2 : Int) (h0 h : gH) : Prop := SS h ∧ hV h 285 65 ≤ hV h0 285 65 + 1 ∧ nb_262 r a0 a1 a2 h0 h
def post_262t : List Int → gH → gH → Prop := fun xs h0 h => match xs with
  | [r, a0, a1, a2] => postb_262t r a0 a1 a2 h0 h
  | _ => True
noncomputable def e_262t : vE := (e_262w.1, e_262w.2.1, e_262w.2.2.1, post_262t)
theorem m_262t (d : Nat) : eC e_262t (d + 2) := eC_post (m_262w (d + 0)) (fun xs h0 h z => by
  unfold post_262t
  split
  · obtain ⟨⟨z_0, z_1⟩, z9⟩ := z
    exact ⟨z_0, z_1, z9⟩
  · trivial)
noncomputable def s_165t : vM := s_165v
def postb_165t (r a0 a1 a2 a3 a4 : Int) (h0 h : gH) : Prop := postb_165v r a0 a1 a2 a3 a4 h0 h
noncomputable def e_165t : vE := e_165v
theorem m_165t (d : Nat) : eC e_165t (d + 3) := m_165v d
noncomputable def s_253t : vM := s_253v
def postb_253t (r a0 a1 a2 a3 a4 : Int) (h0 h : gH) : Prop := SO h ∧ SS h ∧ hV h 285 65 ≤ hV h0 285 65 + 1 ∧ AC h ∧ ((SNCp a1 a2 a3 a4 ∧ hV h0 285 64 ≤ 19 ∧ ADDm r a1 a2 (hV h0 285 64) (hV h 285 64) (hV h0 328) (hV h0 338) (hV h0 329) (hV h 328) (hV h 338) (hV h 329)) ∨ (¬ (SNCp a1 a2 a3 a4 ∧ hV h0 285 64 ≤ 19) ∧ r = -1 ∧ SAMm (hV h0 285 64) (hV h 285 64) (hV h0 328) (hV h0 338) (hV h0 329) (hV h 328) (hV h 338) (hV h 329))) ∧ nb_253 r a0 a1 a2 a3 a4 h0 h ∧ nbr_253 r a0 a1 a2 a3 a4 h0 h
def post_253t : List Int → gH → gH → Prop := fun xs h0 h => match xs with
  | [r, a0, a1, a2, a3, a4] => postb_253t r a0 a1 a2 a3 a4 h0 h
  | _ => True
noncomputable def e_253t : vE := ((eAnd e_253vw e_253r).1, (eAnd e_253vw e_253r).2.1, (eAnd e_253vw e_253r).2.2.1, post_253t)
theorem m_253t (d : Nat) : eC e_253t (d + 2) := eC_post (eC_and2 (m_253vw d) (m_253r d) rfl rfl (fun _ _ z => z) rfl) (fun xs h0 h z => by
  unfold post_253t
  split
  · obtain ⟨⟨⟨z_0, z_1, z_2, z_3, z_4⟩, z8⟩, _, z9⟩ := z
    exact ⟨z_0, z_1, z_2, z_3, z_4, z8, z9⟩
  · trivial)
noncomputable def s_166t : vM := s_166v
def postb_166t (r a0 a1 a2 a3 : Int) (h0 h : gH) : Prop := postb_166v r a0 a1 a2 a3 h0 h
noncomputable def e_166t : vE := e_166v
theorem m_166t (d : Nat) : eC e_166t (d + 3) := m_166v d
noncomputable def s_254t : vM := s_254v
def postb_254t (r a0 a1 a2 a3 : Int) (h0 h : gH) : Prop := SO h ∧ SS h ∧ hV h 285 65 ≤ hV h0 285 65 + 1 ∧ AC h ∧ (((0 ≤ a1 ∧ a1 < hV h0 285 64 ∧ 0 ≤ a2 ∧ a2 < a3 ∧ a3 ≤ 240) ∧ hV h0 285 64 ≤ 19 ∧ ADDm r 4 0 (hV h0 285 64) (hV h 285 64) (hV h0 328) (hV h0 338) (hV h0 329) (hV h 328) (hV h 338) (hV h 329)) ∨ (¬ ((0 ≤ a1 ∧ a1 < hV h0 285 64 ∧ 0 ≤ a2 ∧ a2 < a3 ∧ a3 ≤ 240) ∧ hV h0 285 64 ≤ 19) ∧ r = -1 ∧ SAMm (hV h0 285 64) (hV h 285 64) (hV h0 328) (hV h0 338) (hV h0 329) (hV h 328) (hV h 338) (hV h 329))) ∧ nb_254 r a0 a1 a2 a3 h0 h ∧ nbr_254 r a0 a1 a2 a3 h0 h
def post_254t : List Int → gH → gH → Prop := fun xs h0 h => match xs with
  | [r, a0, a1, a2, a3] => postb_254t r a0 a1 a2 a3 h0 h
  | _ => True
noncomputable def e_254t : vE := ((eAnd e_254vw e_254r).1, (eAnd e_254vw e_254r).2.1, (eAnd e_254vw e_254r).2.2.1, post_254t)
theorem m_254t (d : Nat) : eC e_254t (d + 2) := eC_post (eC_and2 (m_254vw d) (m_254r d) rfl rfl (fun _ _ z => z) rfl) (fun xs h0 h z => by
  unfold post_254t
  split
  · obtain ⟨⟨⟨z_0, z_1, z_2, z_3, z_4⟩, z8⟩, _, z9⟩ := z
    exact ⟨z_0, z_1, z_2, z_3, z_4, z8, z9⟩
  · trivial)
noncomputable def s_167t : vM := s_167v
def postb_167t (r a0 a1 : Int) (h0 h : gH) : Prop := postb_167v r a0 a1 h0 h
noncomputable def e_167t : vE := e_167v
theorem m_167t (d : Nat) : eC e_167t (d + 3) := m_167v d
noncomputable def s_255t : vM := s_255v
def postb_255t (r a0 a1 : Int) (h0 h : gH) : Prop := SO h ∧ SS h ∧ hV h 285 65 ≤ hV h0 285 65 + 1 ∧ AC h ∧ (((0 ≤ a1 ∧ a1 < hV h0 285 64 ∧ hV h0 328 ((a1).toNat) = 2) ∧ hV h0 285 64 ≤ 19 ∧ ADDm r 5 0 (hV h0 285 64) (hV h 285 64) (hV h0 328) (hV h0 338) (hV h0 329) (hV h 328) (hV h 338) (hV h 329)) ∨ (¬ ((0 ≤ a1 ∧ a1 < hV h0 285 64 ∧ hV h0 328 ((a1).toNat) = 2) ∧ hV h0 285 64 ≤ 19) ∧ r = -1 ∧ SAMm (hV h0 285 64) (hV h 285 64) (hV h0 328) (hV h0 338) (hV h0 329) (hV h 328) (hV h 338) (hV h 329))) ∧ nb_255 r a0 a1 h0 h ∧ nbr_255 r a0 a1 h0 h
def post_255t : List Int → gH → gH → Prop := fun xs h0 h => match xs with
  | [r, a0, a1] => postb_255t r a0 a1 h0 h
  | _ => True
noncomputable def e_255t : vE := ((eAnd e_255vw e_255r).1, (eAnd e_255vw e_255r).2.1, (eAnd e_255vw e_255r).2.2.1, post_255t)
theorem m_255t (d : Nat) : eC e_255t (d + 2) := eC_post (eC_and2 (m_255vw d) (m_255r d) rfl rfl (fun _ _ z => z) rfl) (fun xs h0 h z => by
  unfold post_255t
  split
  · obtain ⟨⟨⟨z_0, z_1, z_2, z_3, z_4⟩, z8⟩, _, z9⟩ := z
    exact ⟨z_0, z_1, z_2, z_3, z_4, z8, z9⟩
  · trivial)
noncomputable def s_168t : vM := s_168v
def postb_168t (r a0 : Int) (h0 h : gH) : Prop := postb_168v r a0 h0 h
noncomputable def e_168t : vE := e_168v
theorem m_168t (d : Nat) : eC e_168t (d + 3) := m_168v d
noncomputable def s_256t : vM := s_256v
def postb_256t (r a0 : Int) (h0 h : gH) : Prop := SO h ∧ SS h ∧ hV h 285 65 ≤ hV h0 285 65 + 1 ∧ AC h ∧ ((True ∧ hV h0 285 64 ≤ 19 ∧ ADDm r 6 0 (hV h0 285 64) (hV h 285 64) (hV h0 328) (hV h0 338) (hV h0 329) (hV h 328) (hV h 338) (hV h 329)) ∨ (¬ (True ∧ hV h0 285 64 ≤ 19) ∧ r = -1 ∧ SAMm (hV h0 285 64) (hV h 285 64) (hV h0 328) (hV h0 338) (hV h0 329) (hV h 328) (hV h 338) (hV h 329))) ∧ nb_256 r a0 h0 h ∧ nbr_256 r a0 h0 h
def post_256t : List Int → gH → gH → Prop := fun xs h0 h => match xs with
  | [r, a0] => postb_256t r a0 h0 h
  | _ => True
noncomputable def e_256t : vE := ((eAnd e_256vw e_256r).1, (eAnd e_256vw e_256r).2.1, (eAnd e_256vw e_256r).2.2.1, post_256t)
theorem m_256t (d : Nat) : eC e_256t (d + 2) := eC_post (eC_and2 (m_256vw d) (m_256r d) rfl rfl (fun _ _ z => z) rfl) (fun xs h0 h z => by
  unfold post_256t
  split
  · obtain ⟨⟨⟨z_0, z_1, z_2, z_3, z_4⟩, z8⟩, _, z9⟩ := z
    exact ⟨z_0, z_1, z_2, z_3, z_4, z8, z9⟩
  · trivial)
noncomputable def s_171t : vM := s_171v
def postb_171t (r a0 a1 a2 : Int) (h0 h : gH) : Prop := postb_171v r a0 a1 a2 h0 h
noncomputable def e_171t : vE := e_171v
theorem m_171t (d : Nat) : eC e_171t (d + 3) := m_171v d
noncomputable def s_261t : vM := s_261v
def postb_261t (r a0 a1 a2 : Int) (h0 h : gH) : Prop := postb_261v r a0 a1 a2 h0 h
noncomputable def e_261t : vE := e_261v
theorem m_261t (d : Nat) : eC e_261t (d + 2) := m_261v d
noncomputable def s_169t : vM := s_169v
def postb_169t (r a0 a1 a2 a3 a4 a5 : Int) (h0 h : gH) : Prop := nb_169 r a0 a1 a2 a3 a4 a5 h0 h
def post_169t : List Int → gH → gH → Prop := fun xs h0 h => match xs with
  | [r, a0, a1, a2, a3, a4, a5] => postb_169t r a0 a1 a2 a3 a4 a5 h0 h
  | _ => True
noncomputable def e_169t : vE := (e_169vw.1, e_169vw.2.1, e_169vw.2.2.1, post_169t)
theorem m_169t (d : Nat) : eC e_169t (d + 3) := eC_post (m_169vw d) (fun xs h0 h z => by
  unfold post_169t
  split
  · exact z.2
  · trivial)
noncomputable def s_259t : vM := s_259v
def postb_259t (r a0 a1 a2 a3 a4 a5 : Int) (h0 h : gH) : Prop := SO h ∧ SS h ∧ hV h 285 65 ≤ hV h0 285 65 + 1 ∧ nb_259 r a0 a1 a2 a3 a4 a5 h0 h
def post_259t : List Int → gH → gH → Prop := fun xs h0 h => match xs with
  | [r, a0, a1, a2, a3, a4, a5] => postb_259t r a0 a1 a2 a3 a4 a5 h0 h
  | _ => True
noncomputable def e_259t : vE := (e_259vw.1, e_259vw.2.1, e_259vw.2.2.1, post_259t)
theorem m_259t (d : Nat) : eC e_259t (d + 3) := eC_post (m_259vw d) (fun xs h0 h z => by
  unfold post_259t
  split
  · obtain ⟨⟨z_0, z_1, z_2⟩, z9⟩ := z
    exact ⟨z_0, z_1, z_2, z9⟩
  · trivial)
noncomputable def s_170t : vM := s_170v
def postb_170t (r a0 a1 a2 a3 : Int) (h0 h : gH) : Prop := ((SMc h0 a1 a2 a3 ∧ r = 1) ∨ (¬ SMc h0 a1 a2 a3 ∧ r = 0)) ∧ nb_170 r a0 a1 a2 a3 h0 h
def post_170t : List Int → gH → gH → Prop := fun xs h0 h => match xs with
  | [r, a0, a1, a2, a3] => postb_170t r a0 a1 a2 a3 h0 h
  | _ => True
noncomputable def e_170t : vE := (e_170vw.1, e_170vw.2.1, e_170vw.2.2.1, post_170t)
theorem m_170t (d : Nat) : eC e_170t (d + 2) := eC_post (m_170vw d) (fun xs h0 h z => by
  unfold post_170t
  split
  · exact ⟨z.1, z.2⟩
  · trivial)
noncomputable def s_260t : vM := s_260v
def postb_260t (r a0 a1 a2 a3 : Int) (h0 h : gH) : Prop := SO h ∧ SS h ∧ hV h 285 65 ≤ hV h0 285 65 + 1 ∧ (((0 ≤ a1 ∧ a1 < hV h0 285 64 ∧ hV h0 328 ((a1).toNat) < 4 ∧ ¬ hV h0 329 ((a1).toNat) = -1 ∧ 0 ≤ a2 ∧ a2 < hV h0 329 ((a1).toNat) ∧ -9999 ≤ a3 ∧ a3 ≤ 9999) ∧ r = 1) ∨ (¬ (0 ≤ a1 ∧ a1 < hV h0 285 64 ∧ hV h0 328 ((a1).toNat) < 4 ∧ ¬ hV h0 329 ((a1).toNat) = -1 ∧ 0 ≤ a2 ∧ a2 < hV h0 329 ((a1).toNat) ∧ -9999 ≤ a3 ∧ a3 ≤ 9999) ∧ r = 0)) ∧ nb_260 r a0 a1 a2 a3 h0 h
def post_260t : List Int → gH → gH → Prop := fun xs h0 h => match xs with
  | [r, a0, a1, a2, a3] => postb_260t r a0 a1 a2 a3 h0 h
  | _ => True
noncomputable def e_260t : vE := (e_260vw.1, e_260vw.2.1, e_260vw.2.2.1, post_260t)
theorem m_260t (d : Nat) : eC e_260t (d + 3) := eC_post (m_260vw d) (fun xs h0 h z => by
  unfold post_260t
  split
  · obtain ⟨⟨z_0, z_1, z_2, z_3⟩, z9⟩ := z
    exact ⟨z_0, z_1, z_2, z_3, z9⟩
  · trivial)
noncomputable def s_174t : vM := s_174v
def postb_174t (r a0 a1 a2 a3 : Int) (h0 h : gH) : Prop := KEc h0 h ∧ nb_174 r a0 a1 a2 a3 h0 h
def post_174t : List Int → gH → gH → Prop := fun xs h0 h => match xs with
  | [r, a0, a1, a2, a3] => postb_174t r a0 a1 a2 a3 h0 h
  | _ => True
noncomputable def e_174t : vE := (e_174vw.1, e_174vw.2.1, e_174vw.2.2.1, post_174t)
theorem m_174t (d : Nat) : eC e_174t (d + 8) := eC_post (m_174vw d) (fun xs h0 h z => by
  unfold post_174t
  split
  · exact ⟨z.1, z.2⟩
  · trivial)
noncomputable def s_285t : vM := s_285v
def postb_285t (r a0 a1 a2 a3 : Int) (h0 h : gH) : Prop := SO h ∧ SS h ∧ AC h ∧ hV h 285 65 ≤ hV h0 285 65 + 1 ∧ KMk (hV h0 328) (hV h0 329) (hV h 329) ∧ nb_285 r a0 a1 a2 a3 h0 h
def post_285t : List Int → gH → gH → Prop := fun xs h0 h => match xs with
  | [r, a0, a1, a2, a3] => postb_285t r a0 a1 a2 a3 h0 h
  | _ => True
noncomputable def e_285t : vE := (e_285vw.1, e_285vw.2.1, e_285vw.2.2.1, post_285t)
theorem m_285t (d : Nat) : eC e_285t (d + 6) := eC_post (m_285vw d) (fun xs h0 h z => by
  unfold post_285t
  split
  · obtain ⟨⟨z_0, z_1, z_2, z_3, z_4⟩, z9⟩ := z
    exact ⟨z_0, z_1, z_2, z_3, z_4, z9⟩
  · trivial)
noncomputable def s_175t : vM := s_175v
def postb_175t (r a0 : Int) (h0 h : gH) : Prop := KEc h0 h ∧ nb_175 r a0 h0 h
def post_175t : List Int → gH → gH → Prop := fun xs h0 h => match xs with
  | [r, a0] => postb_175t r a0 h0 h
  | _ => True
noncomputable def e_175t : vE := (e_175vw.1, e_175vw.2.1, e_175vw.2.2.1, post_175t)
theorem m_175t (d : Nat) : eC e_175t (d + 8) := eC_post (m_175vw d) (fun xs h0 h z => by
  unfold post_175t
  split
  · exact ⟨z.1, z.2⟩
  · trivial)
noncomputable def s_290t : vM := s_290v
def postb_290t (r a0 : Int) (h0 h : gH) : Prop := SO h ∧ SS h ∧ AC h ∧ hV h 285 65 ≤ hV h0 285 65 + 20 ∧ KMk (hV h0 328) (hV h0 329) (hV h 329) ∧ nb_290 r a0 h0 h
def post_290t : List Int → gH → gH → Prop := fun xs h0 h => match xs with
  | [r, a0] => postb_290t r a0 h0 h
  | _ => True
noncomputable def e_290t : vE := (e_290vw.1, e_290vw.2.1, e_290vw.2.2.1, post_290t)
theorem m_290t (d : Nat) : eC e_290t (d + 8) := eC_post (m_290vw d) (fun xs h0 h z => by
  unfold post_290t
  split
  · obtain ⟨⟨z_0, z_1, z_2, z_3, z_4⟩, z9⟩ := z
    exact ⟨z_0, z_1, z_2, z_3, z_4, z9⟩
  · trivial)
