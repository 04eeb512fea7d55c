/-! THE COUPLED METHODS of the sheets under the law's names (printed by wip/gen/lawsh.py). -/
noncomputable def s_157t : vM := s_157y
def preb_157t (a0 : Int) (h : gH) : Prop := preb_157y a0 h
def postb_157t (r a0 : Int) (h0 h : gH) : Prop := (h.length : Int) ≤ h0.length + 82 * (hV h 7 4 - hV h0 7 4) ∧ RDY h ∧ KM h ∧ ICm h ∧ (mC h, r) = mRead (mC h0) ∧ (CK h0 → K79 h0 → B16 h0 7 → RDT (pTx (hV h0 8) (hV h0 7 1)) r h0 h)
def post_157t : List Int → gH → gH → Prop := fun xs h0 h => match xs with
  | [r, a0] => postb_157t r a0 h0 h
  | _ => True
noncomputable def e_157t : vE := (157, s_157y, pre_157y, post_157t)
theorem m_157t (d : Nat) : eC e_157t (d + 15) := eC_post (eC_and2 (m_157u (d + 0)) (m_157y (d + 0)) rfl rfl (fun xs h z => by
  rcases xs with _ | ⟨a, _ | ⟨b, xs⟩⟩ <;> exact z) rfl) (fun xs h0 h z => by
  unfold post_157t
  split
  · obtain ⟨⟨z_0, z_1, z_2, z_3, z_4⟩, z9⟩ := z
    exact ⟨z_0, z_1, z_2, z_3, z_4, z9⟩
  · trivial)
noncomputable def s_221t : vM := s_221
def postb_221t (r a0 : Int) (h0 h : gH) : Prop := PG h ∧ AC h ∧ PQ h ∧ RV h ∧ SO h ∧ RN h ∧ nb_221 r a0 h0 h ∧ yb_221 r a0 h0 h
def post_221t : List Int → gH → gH → Prop := fun xs h0 h => match xs with
  | [r, a0] => postb_221t r a0 h0 h
  | _ => True
noncomputable def e_221t : vE := (e_221y.1, e_221y.2.1, e_221y.2.2.1, post_221t)
theorem m_221t (d : Nat) : eC e_221t (d + 11) := eC_post (m_221y (d + 0)) (fun xs h0 h z => by
  unfold post_221t
  split
  · obtain ⟨⟨⟨z_0, z_1, z_2, z_3, z_4, z_5⟩, z_6⟩, z9⟩ := z
    exact ⟨z_0, z_1, z_2, z_3, z_4, z_5, z_6, z9⟩
  · trivial)
noncomputable def s_180t : vM := s_180y
def postb_180t (r a0 a1 : Int) (h0 h : gH) : Prop := postb_180y r a0 a1 h0 h
noncomputable def e_180t : vE := e_180y
theorem m_180t (d : Nat) : eC e_180t (d + 2) := m_180y (d + 0)
noncomputable def s_293t : vM := s_293
def postb_293t (r a0 a1 : Int) (h0 h : gH) : Prop := nb_293 r a0 a1 h0 h
def post_293t : List Int → gH → gH → Prop := fun xs h0 h => match xs with
  | [r, a0, a1] => postb_293t r a0 a1 h0 h
  | _ => True
noncomputable def e_293t : vE := (e_293w.1, e_293w.2.1, e_293w.2.2.1, post_293t)
theorem m_293t (d : Nat) : eC e_293t (d + 3) := eC_post (m_293w (d + 0)) (fun xs h0 h z => by
  unfold post_293t
  split
  · exact z.2
  · trivial)
