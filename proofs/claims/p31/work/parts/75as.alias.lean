/-! THE COUPLED METHODS of the sheets under the law's names (printed by wip/gen/lawsh.py). -/
noncomputable def s_157t : vM := s_157y
def preb_157t (a0 : Int) (h : gH) : Prop := preb_157y a0 h
def postb_157t (r a0 : Int) (h0 h : gH) : Prop := (h.length : Int) ≤ h0.length + 82 * (hV h 7 4 - hV h0 7 4) ∧ RDY h ∧ KM h ∧ ICm h ∧ (mC h, r) = mRead (mC h0) ∧ (CK h0 → K79 h0 → B16 h0 7 → RDT (pTx (hV h0 8) (hV h0 7 1)) r h0 h)
def post_157t : List Int → gH → gH → Prop := fun xs h0 h => match xs with
  | [r, a0] => postb_157t r a0 h0 h
  | _ => True
noncomputable def e_157t : vE := (157, s_157y, pre_157y, post_157t)
theorem m_157t (d : Nat) : eC e_157t (d + 15) := eC_post (eC_and2 (m_157u (d + 0)) (m_157y (d + 0)) rfl rfl (fun xs h z => by
  rcases xs with _ | ⟨a, _ | ⟨b, xs⟩⟩ <;> exact z) rfl) (fun xs h0 h z => by
  unfold post_157t
  split
  · obtain ⟨⟨z_0, z_1, z_2, z_3, z_4⟩, z9⟩ := z
    exact ⟨z_0, z_1, z_2, z_3, z_4, z9⟩
  · trivial)
noncomputable def s_221t : vM := s_221
def postb_221t (r a0 : Int) (h0 h : gH) : Prop := PG h ∧ AC h ∧ PQ h ∧ RV h ∧ SO h ∧ RN h ∧ nb_221 r a0 h0 h ∧ yb_221 r a0 h0 h
def post_221t : List Int → gH → gH → Prop := fun xs h0 h => match xs with
  | [r, a0] => postb_221t r a0 h0 h
  | _ => True
noncomputable def e_221t : vE := (e_221y.1, e_221y.2.1, e_221y.2.2.1, post_221t)
theorem m_221t (d : Nat) : eC e_221t (d + 11) := eC_post (m_221y (d + 0)) (fun xs h0 h z => by
  unfold post_221t
  split
  · obtain ⟨⟨⟨z_0, z_1, z_2, z_3, z_4, z_5⟩, z_6⟩, z9⟩ := z
    exact ⟨z_0, z_1, z_2, z_3, z_4, z_5, z_6, z9⟩
  · trivial)
noncomputable def s_184t : vM := s_184
def postb_184t (r a0 a1 a2 : Int) (h0 h : gH) : Prop := nb_184 r a0 a1 a2 h0 h
def post_184t : List Int → gH → gH → Prop := fun xs h0 h => match xs with
  | [r, a0, a1, a2] => postb_184t r a0 a1 a2 h0 h
  | _ => True
noncomputable def e_184t : vE := (e_184w.1, e_184w.2.1, e_184w.2.2.1, post_184t)
theorem m_184t (d : Nat) : eC e_184t (d + 5) := eC_post (m_184w (d + 0)) (fun xs h0 h z => by
  unfold post_184t
  split
  · exact z.2
  · trivial)
noncomputable def s_300t : vM := s_300
def postb_300t (r a0 a1 a2 : Int) (h0 h : gH) : Prop := nb_300 r a0 a1 a2 h0 h
def post_300t : List Int → gH → gH → Prop := fun xs h0 h => match xs with
  | [r, a0, a1, a2] => postb_300t r a0 a1 a2 h0 h
  | _ => True
noncomputable def e_300t : vE := (e_300w.1, e_300w.2.1, e_300w.2.2.1, post_300t)
theorem m_300t (d : Nat) : eC e_300t (d + 3) := eC_post (m_300w (d + 0)) (fun xs h0 h z => by
  unfold post_300t
  split
  · exact z.2
  · trivial)
noncomputable def s_172t : vM := s_172y
def postb_172t (r a0 a1 a2 : Int) (h0 h : gH) : Prop := postb_172y r a0 a1 a2 h0 h
noncomputable def e_172t : vE := e_172y
theorem m_172t (d : Nat) : eC e_172t (d + 3) := m_172y (d + 0)
noncomputable def s_262t : vM := s_262
def postb_262t (r a0 a1 a2 : Int) (h0 h : gH) : Prop := SS h ∧ hV h 285 65 ≤ hV h0 285 65 + 1 ∧ nb_262 r a0 a1 a2 h0 h
def post_262t : List Int → gH → gH → Prop := fun xs h0 h => match xs with
  | [r, a0, a1, a2] => postb_262t r a0 a1 a2 h0 h
  | _ => True
noncomputable def e_262t : vE := (e_262w.1, e_262w.2.1, e_262w.2.2.1, post_262t)
theorem m_262t (d : Nat) : eC e_262t (d + 2) := eC_post (m_262w (d + 0)) (fun xs h0 h z => by
  unfold post_262t
  split
  · obtain ⟨⟨z_0, z_1⟩, z9⟩ := z
    exact ⟨z_0, z_1, z9⟩
  · trivial)
