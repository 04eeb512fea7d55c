/-! THE COUPLED METHODS under the law's names (printed by wip/gen/lawmix.py). -/
noncomputable def s_155u : vM := s_155v
def preb_155u (a0 a1 a2 a3 a4 a5 : Int) (h : gH) : Prop := preb_155v a0 a1 a2 a3 a4 a5 h
def postb_155u (r a0 a1 a2 a3 a4 a5 : Int) (h0 h : gH) : Prop := postb_155v r a0 a1 a2 a3 a4 a5 h0 h
noncomputable def e_155u : vE := e_155v
theorem m_155u (d : Nat) : eC e_155u (d + 3) := m_155v d
noncomputable def s_205u : vM := s_205
def postb_205u (r a0 a1 a2 a3 a4 a5 : Int) (h0 h : gH) : Prop := nb_205 r a0 a1 a2 a3 a4 a5 h0 h
def post_205u : List Int → gH → gH → Prop := fun xs h0 h => match xs with
  | [r, a0, a1, a2, a3, a4, a5] => postb_205u r a0 a1 a2 a3 a4 a5 h0 h
  | _ => True
noncomputable def e_205u : vE := (e_205w.1, e_205w.2.1, e_205w.2.2.1, post_205u)
theorem m_205u (d : Nat) : eC e_205u (d + 2) := eC_post (m_205w d) (fun xs h0 h z => by
  unfold post_205u
  split
  · exact z.2
  · trivial)
noncomputable def s_156u : vM := s_156v
def preb_156u (a0 a1 : Int) (h : gH) : Prop := preb_156v a0 a1 h
def postb_156u (r a0 a1 : Int) (h0 h : gH) : Prop := postb_156v r a0 a1 h0 h
noncomputable def e_156u : vE := e_156v
theorem m_156u (d : Nat) : eC e_156u (d + 1) := m_156v d
noncomputable def s_207u : vM := s_207
def postb_207u (r a0 a1 : Int) (h0 h : gH) : Prop := nb_207 r a0 a1 h0 h
def post_207u : List Int → gH → gH → Prop := fun xs h0 h => match xs with
  | [r, a0, a1] => postb_207u r a0 a1 h0 h
  | _ => True
noncomputable def e_207u : vE := (e_207w.1, e_207w.2.1, e_207w.2.2.1, post_207u)
theorem m_207u (d : Nat) : eC e_207u (d + 1) := eC_post (m_207w d) (fun xs h0 h z => by
  unfold post_207u
  split
  · exact z.2
  · trivial)
noncomputable def s_157u : vM := s_157v
def preb_157u (a0 : Int) (h : gH) : Prop := preb_157v a0 h
def postb_157u (r a0 : Int) (h0 h : gH) : Prop := (h.length : Int) ≤ h0.length + 82 * (hV h 7 4 - hV h0 7 4) ∧ RDY h ∧ KM h ∧ ICm h ∧ (mC h, r) = mRead (mC h0)
noncomputable def e_157u : vE := eAnd e_157 e_157v
theorem m_157u (d : Nat) : eC e_157u (d + 15) := eC_and (m_157 d) (m_157v d) rfl rfl rfl
noncomputable def s_221u : vM := s_221
def postb_221u (r a0 : Int) (h0 h : gH) : Prop := PG h ∧ AC h ∧ PQ h ∧ RV h ∧ SO h ∧ RN h ∧ nb_221 r a0 h0 h
def post_221u : List Int → gH → gH → Prop := fun xs h0 h => match xs with
  | [r, a0] => postb_221u r a0 h0 h
  | _ => True
noncomputable def e_221u : vE := (e_221w.1, e_221w.2.1, e_221w.2.2.1, post_221u)
theorem m_221u (d : Nat) : eC e_221u (d + 11) := eC_post (m_221w d) (fun xs h0 h z => by
  unfold post_221u
  split
  · obtain ⟨⟨z_0, z_1, z_2, z_3, z_4, z_5⟩, z9⟩ := z
    exact ⟨z_0, z_1, z_2, z_3, z_4, z_5, z9⟩
  · trivial)
noncomputable def s_159u : vM := s_159v
def preb_159u (a0 a1 : Int) (h : gH) : Prop := preb_159v a0 a1 h
def postb_159u (r a0 a1 : Int) (h0 h : gH) : Prop := postb_159v r a0 a1 h0 h
noncomputable def e_159u : vE := e_159v
theorem m_159u (d : Nat) : eC e_159u (d + 3) := m_159v d
noncomputable def s_240u : vM := s_240
def postb_240u (r a0 a1 : Int) (h0 h : gH) : Prop := nb_240 r a0 a1 h0 h
def post_240u : List Int → gH → gH → Prop := fun xs h0 h => match xs with
  | [r, a0, a1] => postb_240u r a0 a1 h0 h
  | _ => True
noncomputable def e_240u : vE := (e_240w.1, e_240w.2.1, e_240w.2.2.1, post_240u)
theorem m_240u (d : Nat) : eC e_240u (d + 1) := eC_post (m_240w d) (fun xs h0 h z => by
  unfold post_240u
  split
  · exact z.2
  · trivial)
noncomputable def s_160u : vM := s_160v
def preb_160u (a0 : Int) (h : gH) : Prop := preb_160v a0 h
def postb_160u (r a0 : Int) (h0 h : gH) : Prop := postb_160v r a0 h0 h
noncomputable def e_160u : vE := e_160v
theorem m_160u (d : Nat) : eC e_160u (d + 4) := m_160v d
noncomputable def s_241u : vM := s_241
def postb_241u (r a0 : Int) (h0 h : gH) : Prop := nb_241 r a0 h0 h
def post_241u : List Int → gH → gH → Prop := fun xs h0 h => match xs with
  | [r, a0] => postb_241u r a0 h0 h
  | _ => True
noncomputable def e_241u : vE := (e_241w.1, e_241w.2.1, e_241w.2.2.1, post_241u)
theorem m_241u (d : Nat) : eC e_241u (d + 1) := eC_post (m_241w d) (fun xs h0 h z => by
  unfold post_241u
  split
  · exact z.2
  · trivial)
noncomputable def s_161u : vM := s_161v
def preb_161u (a0 a1 a2 : Int) (h : gH) : Prop := preb_161v a0 a1 a2 h
def postb_161u (r a0 a1 a2 : Int) (h0 h : gH) : Prop := postb_161v r a0 a1 a2 h0 h
noncomputable def e_161u : vE := e_161v
theorem m_161u (d : Nat) : eC e_161u (d + 4) := m_161v d
noncomputable def s_244u : vM := s_244
def postb_244u (r a0 a1 a2 : Int) (h0 h : gH) : Prop := nb_244 r a0 a1 a2 h0 h
def post_244u : List Int → gH → gH → Prop := fun xs h0 h => match xs with
  | [r, a0, a1, a2] => postb_244u r a0 a1 a2 h0 h
  | _ => True
noncomputable def e_244u : vE := (e_244w.1, e_244w.2.1, e_244w.2.2.1, post_244u)
theorem m_244u (d : Nat) : eC e_244u (d + 2) := eC_post (m_244w d) (fun xs h0 h z => by
  unfold post_244u
  split
  · exact z.2
  · trivial)
noncomputable def s_162u : vM := s_162v
def preb_162u (a0 a1 : Int) (h : gH) : Prop := preb_162v a0 a1 h
def postb_162u (r a0 a1 : Int) (h0 h : gH) : Prop := postb_162v r a0 a1 h0 h
noncomputable def e_162u : vE := e_162v
theorem m_162u (d : Nat) : eC e_162u (d + 4) := m_162v d
noncomputable def s_245u : vM := s_245
def postb_245u (r a0 a1 : Int) (h0 h : gH) : Prop := nb_245 r a0 a1 h0 h
def post_245u : List Int → gH → gH → Prop := fun xs h0 h => match xs with
  | [r, a0, a1] => postb_245u r a0 a1 h0 h
  | _ => True
noncomputable def e_245u : vE := (e_245w.1, e_245w.2.1, e_245w.2.2.1, post_245u)
theorem m_245u (d : Nat) : eC e_245u (d + 2) := eC_post (m_245w d) (fun xs h0 h z => by
  unfold post_245u
  split
  · exact z.2
  · trivial)
noncomputable def s_163u : vM := s_163v
def preb_163u (a0 a1 : Int) (h : gH) : Prop := preb_163v a0 a1 h
def postb_163u (r a0 a1 : Int) (h0 h : gH) : Prop := postb_163v r a0 a1 h0 h
noncomputable def e_163u : vE := e_163v
theorem m_163u (d : Nat) : eC e_163u (d + 3) := m_163v d
noncomputable def s_247u : vM := s_247
def postb_247u (r a0 a1 : Int) (h0 h : gH) : Prop := nb_247 r a0 a1 h0 h
def post_247u : List Int → gH → gH → Prop := fun xs h0 h => match xs with
  | [r, a0, a1] => postb_247u r a0 a1 h0 h
  | _ => True
noncomputable def e_247u : vE := (e_247w.1, e_247w.2.1, e_247w.2.2.1, post_247u)
theorem m_247u (d : Nat) : eC e_247u (d + 2) := eC_post (m_247w d) (fun xs h0 h z => by
  unfold post_247u
  split
  · exact z.2
  · trivial)
noncomputable def s_164u : vM := s_164v
def preb_164u (a0 a1 a2 a3 : Int) (h : gH) : Prop := preb_164v a0 a1 a2 a3 h
def postb_164u (r a0 a1 a2 a3 : Int) (h0 h : gH) : Prop := postb_164v r a0 a1 a2 a3 h0 h
noncomputable def e_164u : vE := e_164v
theorem m_164u (d : Nat) : eC e_164u (d + 3) := m_164v d
noncomputable def s_249u : vM := s_249
def postb_249u (r a0 a1 a2 a3 : Int) (h0 h : gH) : Prop := nb_249 r a0 a1 a2 a3 h0 h
def post_249u : List Int → gH → gH → Prop := fun xs h0 h => match xs with
  | [r, a0, a1, a2, a3] => postb_249u r a0 a1 a2 a3 h0 h
  | _ => True
noncomputable def e_249u : vE := (e_249w.1, e_249w.2.1, e_249w.2.2.1, post_249u)
theorem m_249u (d : Nat) : eC e_249u (d + 2) := eC_post (m_249w d) (fun xs h0 h z => by
  unfold post_249u
  split
  · exact z.2
  · trivial)
noncomputable def s_158u : vM := s_158v
def preb_158u (a0 : Int) (h : gH) : Prop := preb_158v a0 h
def postb_158u (r a0 : Int) (h0 h : gH) : Prop := postb_158v r a0 h0 h
noncomputable def e_158u : vE := e_158v
theorem m_158u (d : Nat) : eC e_158u (d + 1) := m_158v d
noncomputable def s_222u : vM := s_222
def postb_222u (r a0 : Int) (h0 h : gH) : Prop := nb_222 r a0 h0 h
def post_222u : List Int → gH → gH → Prop := fun xs h0 h => match xs with
  | [r, a0] => postb_222u r a0 h0 h
  | _ => True
noncomputable def e_222u : vE := (e_222w.1, e_222w.2.1, e_222w.2.2.1, post_222u)
theorem m_222u (d : Nat) : eC e_222u (d + 1) := eC_post (m_222w d) (fun xs h0 h z => by
  unfold post_222u
  split
  · exact z.2
  · trivial)
