/-! THE COUPLED METHODS under the law's names (printed by wip/gen/lawlib.py). -/
noncomputable def s_169x : vM := s_169v
def postb_169x (r a0 a1 a2 a3 a4 a5 : Int) (h0 h : gH) : Prop := nb_169 r a0 a1 a2 a3 a4 a5 h0 h
def post_169x : List Int → gH → gH → Prop := fun xs h0 h => match xs with
  | [r, a0, a1, a2, a3, a4, a5] => postb_169x r a0 a1 a2 a3 a4 a5 h0 h
  | _ => True
noncomputable def e_169x : vE := (e_169vw.1, e_169vw.2.1, e_169vw.2.2.1, post_169x)
theorem m_169x (d : Nat) : eC e_169x (d + 3) := eC_post (m_169vw d) (fun xs h0 h z => by
  unfold post_169x
  split
  · exact z.2
  · trivial)
noncomputable def s_170x : vM := s_170v
def postb_170x (r a0 a1 a2 a3 : Int) (h0 h : gH) : Prop := postb_170v r a0 a1 a2 a3 h0 h ∧ nb_170 r a0 a1 a2 a3 h0 h
def post_170x : List Int → gH → gH → Prop := fun xs h0 h => match xs with
  | [r, a0, a1, a2, a3] => postb_170x r a0 a1 a2 a3 h0 h
  | _ => True
noncomputable def e_170x : vE := (e_170vw.1, e_170vw.2.1, e_170vw.2.2.1, post_170x)
theorem m_170x (d : Nat) : eC e_170x (d + 2) := eC_post (m_170vw d) (fun xs h0 h z => by
  unfold post_170x
  split
  · exact ⟨z.1, z.2⟩
  · trivial)
noncomputable def s_174x : vM := s_174v
def postb_174x (r a0 a1 a2 a3 : Int) (h0 h : gH) : Prop := postb_174v r a0 a1 a2 a3 h0 h ∧ nb_174 r a0 a1 a2 a3 h0 h
def post_174x : List Int → gH → gH → Prop := fun xs h0 h => match xs with
  | [r, a0, a1, a2, a3] => postb_174x r a0 a1 a2 a3 h0 h
  | _ => True
noncomputable def e_174x : vE := (e_174vw.1, e_174vw.2.1, e_174vw.2.2.1, post_174x)
theorem m_174x (d : Nat) : eC e_174x (d + 8) := eC_post (m_174vw d) (fun xs h0 h z => by
  unfold post_174x
  split
  · exact ⟨z.1, z.2⟩
  · trivial)
noncomputable def s_175x : vM := s_175v
def postb_175x (r a0 : Int) (h0 h : gH) : Prop := postb_175v r a0 h0 h ∧ nb_175 r a0 h0 h
def post_175x : List Int → gH → gH → Prop := fun xs h0 h => match xs with
  | [r, a0] => postb_175x r a0 h0 h
  | _ => True
noncomputable def e_175x : vE := (e_175vw.1, e_175vw.2.1, e_175vw.2.2.1, post_175x)
theorem m_175x (d : Nat) : eC e_175x (d + 8) := eC_post (m_175vw d) (fun xs h0 h z => by
  unfold post_175x
  split
  · exact ⟨z.1, z.2⟩
  · trivial)
noncomputable def s_253x : vM := s_253v
def postb_253x (r a0 a1 a2 a3 a4 : Int) (h0 h : gH) : Prop := postb_253v r a0 a1 a2 a3 a4 h0 h ∧ nb_253 r a0 a1 a2 a3 a4 h0 h
def post_253x : List Int → gH → gH → Prop := fun xs h0 h => match xs with
  | [r, a0, a1, a2, a3, a4] => postb_253x r a0 a1 a2 a3 a4 h0 h
  | _ => True
noncomputable def e_253x : vE := (e_253vw.1, e_253vw.2.1, e_253vw.2.2.1, post_253x)
theorem m_253x (d : Nat) : eC e_253x (d + 2) := eC_post (m_253vw d) (fun xs h0 h z => by
  unfold post_253x
  split
  · exact ⟨z.1, z.2⟩
  · trivial)
noncomputable def s_254x : vM := s_254v
def postb_254x (r a0 a1 a2 a3 : Int) (h0 h : gH) : Prop := postb_254v r a0 a1 a2 a3 h0 h ∧ nb_254 r a0 a1 a2 a3 h0 h
def post_254x : List Int → gH → gH → Prop := fun xs h0 h => match xs with
  | [r, a0, a1, a2, a3] => postb_254x r a0 a1 a2 a3 h0 h
  | _ => True
noncomputable def e_254x : vE := (e_254vw.1, e_254vw.2.1, e_254vw.2.2.1, post_254x)
theorem m_254x (d : Nat) : eC e_254x (d + 2) := eC_post (m_254vw d) (fun xs h0 h z => by
  unfold post_254x
  split
  · exact ⟨z.1, z.2⟩
  · trivial)
noncomputable def s_255x : vM := s_255v
def postb_255x (r a0 a1 : Int) (h0 h : gH) : Prop := postb_255v r a0 a1 h0 h ∧ nb_255 r a0 a1 h0 h
def post_255x : List Int → gH → gH → Prop := fun xs h0 h => match xs with
  | [r, a0, a1] => postb_255x r a0 a1 h0 h
  | _ => True
noncomputable def e_255x : vE := (e_255vw.1, e_255vw.2.1, e_255vw.2.2.1, post_255x)
theorem m_255x (d : Nat) : eC e_255x (d + 2) := eC_post (m_255vw d) (fun xs h0 h z => by
  unfold post_255x
  split
  · exact ⟨z.1, z.2⟩
  · trivial)
noncomputable def s_256x : vM := s_256v
def postb_256x (r a0 : Int) (h0 h : gH) : Prop := postb_256v r a0 h0 h ∧ nb_256 r a0 h0 h
def post_256x : List Int → gH → gH → Prop := fun xs h0 h => match xs with
  | [r, a0] => postb_256x r a0 h0 h
  | _ => True
noncomputable def e_256x : vE := (e_256vw.1, e_256vw.2.1, e_256vw.2.2.1, post_256x)
theorem m_256x (d : Nat) : eC e_256x (d + 2) := eC_post (m_256vw d) (fun xs h0 h z => by
  unfold post_256x
  split
  · exact ⟨z.1, z.2⟩
  · trivial)
noncomputable def s_259x : vM := s_259v
def postb_259x (r a0 a1 a2 a3 a4 a5 : Int) (h0 h : gH) : Prop := postb_259v r a0 a1 a2 a3 a4 a5 h0 h ∧ nb_259 r a0 a1 a2 a3 a4 a5 h0 h
def post_259x : List Int → gH → gH → Prop := fun xs h0 h => match xs with
  | [r, a0, a1, a2, a3, a4, a5] => postb_259x r a0 a1 a2 a3 a4 a5 h0 h
  | _ => True
noncomputable def e_259x : vE := (e_259vw.1, e_259vw.2.1, e_259vw.2.2.1, post_259x)
theorem m_259x (d : Nat) : eC e_259x (d + 3) := eC_post (m_259vw d) (fun xs h0 h z => by
  unfold post_259x
  split
  · exact ⟨z.1, z.2⟩
  · trivial)
noncomputable def s_260x : vM := s_260v
def postb_260x (r a0 a1 a2 a3 : Int) (h0 h : gH) : Prop := postb_260v r a0 a1 a2 a3 h0 h ∧ nb_260 r a0 a1 a2 a3 h0 h
def post_260x : List Int → gH → gH → Prop := fun xs h0 h => match xs with
  | [r, a0, a1, a2, a3] => postb_260x r a0 a1 a2 a3 h0 h
  | _ => True
noncomputable def e_260x : vE := (e_260vw.1, e_260vw.2.1, e_260vw.2.2.1, post_260x)
theorem m_260x (d : Nat) : eC e_260x (d + 3) := eC_post (m_260vw d) (fun xs h0 h z => by
  unfold post_260x
  split
  · exact ⟨z.1, z.2⟩
  · trivial)
noncomputable def s_285x : vM := s_285v
def postb_285x (r a0 a1 a2 a3 : Int) (h0 h : gH) : Prop := postb_285v r a0 a1 a2 a3 h0 h ∧ nb_285 r a0 a1 a2 a3 h0 h
def post_285x : List Int → gH → gH → Prop := fun xs h0 h => match xs with
  | [r, a0, a1, a2, a3] => postb_285x r a0 a1 a2 a3 h0 h
  | _ => True
noncomputable def e_285x : vE := (e_285vw.1, e_285vw.2.1, e_285vw.2.2.1, post_285x)
theorem m_285x (d : Nat) : eC e_285x (d + 6) := eC_post (m_285vw d) (fun xs h0 h z => by
  unfold post_285x
  split
  · exact ⟨z.1, z.2⟩
  · trivial)
noncomputable def s_290x : vM := s_290v
def postb_290x (r a0 : Int) (h0 h : gH) : Prop := postb_290v r a0 h0 h ∧ nb_290 r a0 h0 h
def post_290x : List Int → gH → gH → Prop := fun xs h0 h => match xs with
  | [r, a0] => postb_290x r a0 h0 h
  | _ => True
noncomputable def e_290x : vE := (e_290vw.1, e_290vw.2.1, e_290vw.2.2.1, post_290x)
theorem m_290x (d : Nat) : eC e_290x (d + 8) := eC_post (m_290vw d) (fun xs h0 h z => by
  unfold post_290x
  split
  · exact ⟨z.1, z.2⟩
  · trivial)
noncomputable def s_305x : vM := s_305
def postb_305x (r a0 a1 : Int) (h0 h : gH) : Prop := nb_305 r a0 a1 h0 h
def post_305x : List Int → gH → gH → Prop := fun xs h0 h => match xs with
  | [r, a0, a1] => postb_305x r a0 a1 h0 h
  | _ => True
noncomputable def e_305x : vE := (e_305w.1, e_305w.2.1, e_305w.2.2.1, post_305x)
theorem m_305x (d : Nat) : eC e_305x (d + 2) := eC_post (m_305w d) (fun xs h0 h z => by
  unfold post_305x
  split
  · exact z.2
  · trivial)
