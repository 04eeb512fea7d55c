/-! EACH INSTRUCTION of the pure run is a step of the machine (printed by wip/gen/gen08.py). -/
def gLv (G : gG) (lv : gL) : gL := lv.map (fun q => (q.1, grv G q.2))
theorem gLk_mem {k : Nat} {v : Value} : ∀ lv : gL, gLk k lv = some v → (k, v) ∈ lv := by
  intro lv
  induction lv with
  | nil => intro h; cases h
  | cons q t ih =>
    intro h
    unfold gLk at h
    cases hb : Nat.beq q.1 k with
    | true =>
      rw [hb] at h
      have h1 := Nat.eq_of_beq_eq_true hb
      have h2 : q.2 = v := Option.some.inj h
      rw [← h1, ← h2]
      exact List.mem_cons_self
    | false => rw [hb] at h; exact List.mem_cons_of_mem _ (ih h)
theorem gLk_at {G : gG} {ls : Array Slot} {nL : Nat} {lv : gL} {k : Nat} {v : Value} (hl : lv_has ls nL (gLv G lv)) (h : gLk k lv = some v) : ls[k]? = some (.val (grv G v)) :=
  hl.2.2 (k, grv G v) (List.mem_map.mpr ⟨(k, v), gLk_mem lv h, rfl⟩)
theorem gLk_idx {G : gG} {lv : gL} {k : Nat} {v : Value} (h : gLk k lv = some v) : ∃ i : Nat, (gLv G lv)[i]? = some (k, grv G v) :=
  List.getElem?_of_mem (List.mem_map.mpr ⟨(k, v), gLk_mem lv h, rfl⟩)
theorem gSt1_map (G : gG) (lv : gL) (i : Nat) (v : Value) : (i, grv G v) :: (gLv G lv).filter (fun q => !(q.1 == i) && !(q.1 + 1 == i && q.2.category == 2)) = gLv G (gSt1 lv i v) := by
  unfold gSt1 gLv
  rw [List.map_cons, List.filter_map]
  congr 2
  apply List.filter_congr
  intro q _
  simp [grv_cat]
theorem gSt2_map (G : gG) (lv : gL) (i : Nat) (v : Value) : (i, grv G v) :: (gLv G lv).filter (fun q => !(q.1 == i) && (!(q.1 == i + 1) && !(q.1 + 1 == i && q.2.category == 2))) = gLv G (gSt2 lv i v) := by
  unfold gSt2 gLv
  rw [List.map_cons, List.filter_map]
  congr 2
  apply List.filter_congr
  intro q _
  simp [grv_cat]
theorem gsz_set {lh : gH} {i : Nat} {c d : gC} (h : lh[i]? = some c) (hz : gsz1 d = gsz1 c) : gsz (lh.set i d) = gsz lh := by
  unfold gsz
  induction lh generalizing i with
  | nil => simp at h
  | cons x t ih =>
    cases i with
    | zero =>
      have hx : x = c := by simpa using h
      subst hx
      simp [hz]
    | succ i =>
      have h2 : t[i]? = some c := by simpa using h
      simp only [List.set_cons_succ, List.map_cons, List.sum_cons]
      rw [ih h2]
theorem gsz_push (lh : gH) (c : gC) : gsz (lh ++ [c]) = gsz lh + gsz1 c := by
  unfold gsz
  rw [List.map_append, List.sum_append]
  simp
theorem gup_at (G : gG) (f : Nat → Value) (k : Nat) (v : Value) (j : Nat) : grv G (gup f k v j) = updV (fun q => grv G (f q)) k (grv G v) j := by
  unfold gup updV
  cases hb : Nat.beq j k with
  | true => rw [if_pos (Nat.eq_of_beq_eq_true hb)]; rfl
  | false => rw [if_neg (Nat.ne_of_beq_eq_false hb)]; rfl
theorem gFit_ok {G : gG} {ty : FieldType} {w : Value} (h : gFit ty w = true) : narrow ty (grv G w) = grv G w ∧ fits ty (grv G w) = true := by
  unfold gFit at h
  rw [Bool.and_eq_true] at h
  obtain ⟨h1, h2⟩ := h
  have h1 := of_decide_eq_true h1
  cases w with
  | ref i => cases ty <;> first | exact ⟨rfl, rfl⟩ | exact absurd h2 (by simp [fits])
  | retAddr i => cases ty <;> exact absurd h2 (by simp [fits])
  | _ => exact ⟨h1, h2⟩
theorem gIn_ok {x : Int32} {n z : Nat} (h : gIn x n = true) (hz : n ≤ z) : ¬ (x < 0 ∨ z ≤ x.toNatClampNeg) ∧ x.toNatClampNeg < n := by
  unfold gIn at h
  rw [Bool.and_eq_true] at h
  have h2 : x.toNatClampNeg < n := Nat.blt_eq.mp h.2
  refine ⟨fun q => ?_, h2⟩
  rcases q with q | q
  · have h1 := h.1
    rw [decide_eq_true q] at h1
    cases h1
  · omega
/-- how a method ends: what stands on its stack, at which instruction -/
def gEnd (cc : ByteArray) (rt : Option FieldType) (o : gO) : Prop :=
  (∃ (x : Int32) (ty : FieldType), rt = some ty ∧ o.2.2 = [.int x] ∧ narrow ty (.int x) = .int x ∧ decode cc o.2.1 = .ok (.ireturn, 1)) ∨
  (∃ x : Int64, rt = some .long ∧ o.2.2 = [.long x] ∧ decode cc o.2.1 = .ok (.lreturn, 1)) ∨
  (∃ (w : Value) (ty : FieldType), rt = some ty ∧ ((∃ n, ty = .object n) ∨ ∃ t, ty = .array t) ∧ o.2.2 = [w] ∧ (w = .null ∨ ∃ i, w = .ref i) ∧ decode cc o.2.1 = .ok (.areturn, 1)) ∨
  (rt = none ∧ o.2.2 = [] ∧ decode cc o.2.1 = .ok (.return_, 1))
/-- what stands through a method's run -/
def gCx (G : gG) (p : Program) (R : Room) (s : State) (m : MethodId) (meth : Method) (c : Code) (own name : String) (cc : ByteArray) (nL L0 S0 d : Nat) (o : gO) : Prop :=
  p.tables.exec = Jvm.exec ∧ c.code = cc ∧ c.maxLocals = nL ∧ s.vm.findClass own = some m.cls ∧ gKz G s s.heap ∧ G.1 = 7 ∧ (name = "<init>" → meth.name = "<init>") ∧ d ≤ R.frames ∧ 100 * d ≤ R.locals ∧ o.1.length ≤ R.cells + L0 ∧ gsz o.1 ≤ R.slots + S0
/-- from here the run ends at o; where the machine goes on well from o, it goes on well from here -/
def gOk (G : gG) (l : Launch) (p : Program) (e : Env) (R : Room) (s : State) (m : MethodId) (args : Array Value) (below : List Frame) (meth : Method) (c : Code) (Q : State → Prop) (own name : String) (cc : ByteArray) (d nL L0 S0 : Nat) (rt : Option FieldType) (o : gO) (pc : Nat) (lv : gL) (st : List Value) (lh : gH) : Prop :=
  (gEnd cc rt o ∧ lh.length ≤ o.1.length ∧ gsz lh ≤ gsz o.1) ∧
  (gCx G p R s m meth c own name cc nL L0 S0 d o → (∀ (H : Heap) (locs : List Loc) (cells slots : Nat) (ls : Array Slot), gR G s o.1 H → va_S (fun q => G.2.1 ≤ q) s.heap H locs → cells + L0 = o.1.length → slots + S0 = gsz o.1 → W p l e R s m args below meth c H locs cells slots Q (F0 m o.2.1 ls (o.2.2.map (grv G)))) →
    ∀ (H : Heap) (locs : List Loc) (cells slots : Nat) (ls : Array Slot), gR G s lh H → va_S (fun q => G.2.1 ≤ q) s.heap H locs → lv_has ls nL (gLv G lv) → cells + L0 = lh.length → slots + S0 = gsz lh → W p l e R s m args below meth c H locs cells slots Q (F0 m pc ls (st.map (grv G))))
section GROWS
variable {G : gG} {l : Launch} {p : Program} {e : Env} {R : Room} {s : State} {m : MethodId} {args : Array Value} {below : List Frame} {meth : Method} {c : Code} {Q : State → Prop} {own name : String} {cc : ByteArray} {nL L0 S0 pc a b d : Nat} {rt : Option FieldType} {o : gO} {v : Int} {ts : List Nat} {lv : gL} {st : List Value} {lh : gH} {K : Nat → gL → List Value → gH → Option gO} {C : Nat → List Value → gH → Option gO}
theorem gw_iload_n (hK : ∀ pc lv st lh, K pc lv st lh = some o → gOk G l p e R s m args below meth c Q own name cc d nL L0 S0 rt o pc lv st lh) {k : Fin 4} (hdg : decode cc pc = .ok (.iload_n k, 1)) (h : gI_iload K pc lv st lh (k : Nat) 1 = some o) : gOk G l p e R s m args below meth c Q own name cc d nL L0 S0 rt o pc lv st lh := by
  unfold gI_iload at h
  split at h
  · rename_i hv
    refine ⟨(hK _ _ _ _ h).1, fun X hE H locs cells slots ls hR hS hl h1 h2 => ?_⟩
    obtain ⟨hx, hb, hml, hown, hks, hG, hnm, hfr, hlo, hcc, hss⟩ := id X
    refine lv_iload_n hx hb hdg rfl (gLk_at hl hv) ?_
    exact (hK _ _ _ _ h).2 X hE _ _ _ _ _ hR hS hl h1 h2
  all_goals cases h
theorem gw_iload (hK : ∀ pc lv st lh, K pc lv st lh = some o → gOk G l p e R s m args below meth c Q own name cc d nL L0 S0 rt o pc lv st lh) {k : Nat} (hdg : decode cc pc = .ok (.iload k, 2)) (h : gI_iload K pc lv st lh k 2 = some o) : gOk G l p e R s m args below meth c Q own name cc d nL L0 S0 rt o pc lv st lh := by
  unfold gI_iload at h
  split at h
  · rename_i hv
    refine ⟨(hK _ _ _ _ h).1, fun X hE H locs cells slots ls hR hS hl h1 h2 => ?_⟩
    obtain ⟨hx, hb, hml, hown, hks, hG, hnm, hfr, hlo, hcc, hss⟩ := id X
    refine lv_iload hx hb hdg (gLk_at hl hv) ?_
    exact (hK _ _ _ _ h).2 X hE _ _ _ _ _ hR hS hl h1 h2
  all_goals cases h
theorem gw_lload_n (hK : ∀ pc lv st lh, K pc lv st lh = some o → gOk G l p e R s m args below meth c Q own name cc d nL L0 S0 rt o pc lv st lh) {k : Fin 4} (hdg : decode cc pc = .ok (.lload_n k, 1)) (h : gI_lload K pc lv st lh (k : Nat) 1 = some o) : gOk G l p e R s m args below meth c Q own name cc d nL L0 S0 rt o pc lv st lh := by
  unfold gI_lload at h
  split at h
  · rename_i hv
    refine ⟨(hK _ _ _ _ h).1, fun X hE H locs cells slots ls hR hS hl h1 h2 => ?_⟩
    obtain ⟨hx, hb, hml, hown, hks, hG, hnm, hfr, hlo, hcc, hss⟩ := id X
    refine lv_lload_n hx hb hdg rfl (gLk_at hl hv) ?_
    exact (hK _ _ _ _ h).2 X hE _ _ _ _ _ hR hS hl h1 h2
  all_goals cases h
theorem gw_lload (hK : ∀ pc lv st lh, K pc lv st lh = some o → gOk G l p e R s m args below meth c Q own name cc d nL L0 S0 rt o pc lv st lh) {k : Nat} (hdg : decode cc pc = .ok (.lload k, 2)) (h : gI_lload K pc lv st lh k 2 = some o) : gOk G l p e R s m args below meth c Q own name cc d nL L0 S0 rt o pc lv st lh := by
  unfold gI_lload at h
  split at h
  · rename_i hv
    refine ⟨(hK _ _ _ _ h).1, fun X hE H locs cells slots ls hR hS hl h1 h2 => ?_⟩
    obtain ⟨hx, hb, hml, hown, hks, hG, hnm, hfr, hlo, hcc, hss⟩ := id X
    refine lv_lload hx hb hdg (gLk_at hl hv) ?_
    exact (hK _ _ _ _ h).2 X hE _ _ _ _ _ hR hS hl h1 h2
  all_goals cases h
theorem gw_aload_n (hK : ∀ pc lv st lh, K pc lv st lh = some o → gOk G l p e R s m args below meth c Q own name cc d nL L0 S0 rt o pc lv st lh) {k : Fin 4} (hdg : decode cc pc = .ok (.aload_n k, 1)) (h : gI_aload K pc lv st lh (k : Nat) 1 = some o) : gOk G l p e R s m args below meth c Q own name cc d nL L0 S0 rt o pc lv st lh := by
  unfold gI_aload at h
  split at h
  · rename_i hv
    refine ⟨(hK _ _ _ _ h).1, fun X hE H locs cells slots ls hR hS hl h1 h2 => ?_⟩
    obtain ⟨hx, hb, hml, hown, hks, hG, hnm, hfr, hlo, hcc, hss⟩ := id X
    refine lv_aload_n hx hb hdg rfl (gLk_at hl hv) ?_
    exact (hK _ _ _ _ h).2 X hE _ _ _ _ _ hR hS hl h1 h2
  · rename_i hv
    refine ⟨(hK _ _ _ _ h).1, fun X hE H locs cells slots ls hR hS hl h1 h2 => ?_⟩
    obtain ⟨hx, hb, hml, hown, hks, hG, hnm, hfr, hlo, hcc, hss⟩ := id X
    refine lv_aload_nN hx hb hdg rfl (gLk_at hl hv) ?_
    exact (hK _ _ _ _ h).2 X hE _ _ _ _ _ hR hS hl h1 h2
  all_goals cases h
theorem gw_aload (hK : ∀ pc lv st lh, K pc lv st lh = some o → gOk G l p e R s m args below meth c Q own name cc d nL L0 S0 rt o pc lv st lh) {k : Nat} (hdg : decode cc pc = .ok (.aload k, 2)) (h : gI_aload K pc lv st lh k 2 = some o) : gOk G l p e R s m args below meth c Q own name cc d nL L0 S0 rt o pc lv st lh := by
  unfold gI_aload at h
  split at h
  · rename_i hv
    refine ⟨(hK _ _ _ _ h).1, fun X hE H locs cells slots ls hR hS hl h1 h2 => ?_⟩
    obtain ⟨hx, hb, hml, hown, hks, hG, hnm, hfr, hlo, hcc, hss⟩ := id X
    refine lv_aload hx hb hdg (gLk_at hl hv) ?_
    exact (hK _ _ _ _ h).2 X hE _ _ _ _ _ hR hS hl h1 h2
  · rename_i hv
    refine ⟨(hK _ _ _ _ h).1, fun X hE H locs cells slots ls hR hS hl h1 h2 => ?_⟩
    obtain ⟨hx, hb, hml, hown, hks, hG, hnm, hfr, hlo, hcc, hss⟩ := id X
    refine lv_aloadN hx hb hdg (gLk_at hl hv) ?_
    exact (hK _ _ _ _ h).2 X hE _ _ _ _ _ hR hS hl h1 h2
  all_goals cases h
theorem gw_istore_n (hK : ∀ pc lv st lh, K pc lv st lh = some o → gOk G l p e R s m args below meth c Q own name cc d nL L0 S0 rt o pc lv st lh) {k : Fin 4} (hdg : decode cc pc = .ok (.istore_n k, 1)) (hk : (k : Nat) < nL) (h : gI_istore K pc lv st lh (k : Nat) 1 = some o) : gOk G l p e R s m args below meth c Q own name cc d nL L0 S0 rt o pc lv st lh := by
  unfold gI_istore at h
  split at h
  · rename_i x r
    refine ⟨(hK _ _ _ _ h).1, fun X hE H locs cells slots ls hR hS hl h1 h2 => ?_⟩
    obtain ⟨hx, hb, hml, hown, hks, hG, hnm, hfr, hlo, hcc, hss⟩ := id X
    refine lv_istore_n hx hb hdg rfl hl hk (gSt1_map G lv (k : Nat) (.int x)) (fun ls hl => ?_)
    exact (hK _ _ _ _ h).2 X hE _ _ _ _ _ hR hS hl h1 h2
  all_goals cases h
theorem gw_istore (hK : ∀ pc lv st lh, K pc lv st lh = some o → gOk G l p e R s m args below meth c Q own name cc d nL L0 S0 rt o pc lv st lh) {k : Nat} (hdg : decode cc pc = .ok (.istore k, 2)) (hk : k < nL) (h : gI_istore K pc lv st lh k 2 = some o) : gOk G l p e R s m args below meth c Q own name cc d nL L0 S0 rt o pc lv st lh := by
  unfold gI_istore at h
  split at h
  · rename_i x r
    refine ⟨(hK _ _ _ _ h).1, fun X hE H locs cells slots ls hR hS hl h1 h2 => ?_⟩
    obtain ⟨hx, hb, hml, hown, hks, hG, hnm, hfr, hlo, hcc, hss⟩ := id X
    refine lv_istore hx hb hdg hl hk (gSt1_map G lv k (.int x)) (fun ls hl => ?_)
    exact (hK _ _ _ _ h).2 X hE _ _ _ _ _ hR hS hl h1 h2
  all_goals cases h
theorem gw_astore_n (hK : ∀ pc lv st lh, K pc lv st lh = some o → gOk G l p e R s m args below meth c Q own name cc d nL L0 S0 rt o pc lv st lh) {k : Fin 4} (hdg : decode cc pc = .ok (.astore_n k, 1)) (hk : (k : Nat) < nL) (h : gI_astore K pc lv st lh (k : Nat) 1 = some o) : gOk G l p e R s m args below meth c Q own name cc d nL L0 S0 rt o pc lv st lh := by
  unfold gI_astore at h
  split at h
  · rename_i x r
    refine ⟨(hK _ _ _ _ h).1, fun X hE H locs cells slots ls hR hS hl h1 h2 => ?_⟩
    obtain ⟨hx, hb, hml, hown, hks, hG, hnm, hfr, hlo, hcc, hss⟩ := id X
    refine lv_astore_n hx hb hdg rfl hl hk (gSt1_map G lv (k : Nat) (.ref x)) (fun ls hl => ?_)
    exact (hK _ _ _ _ h).2 X hE _ _ _ _ _ hR hS hl h1 h2
  · rename_i r
    refine ⟨(hK _ _ _ _ h).1, fun X hE H locs cells slots ls hR hS hl h1 h2 => ?_⟩
    obtain ⟨hx, hb, hml, hown, hks, hG, hnm, hfr, hlo, hcc, hss⟩ := id X
    refine lv_astore_nN hx hb hdg rfl hl hk (gSt1_map G lv (k : Nat) .null) (fun ls hl => ?_)
    exact (hK _ _ _ _ h).2 X hE _ _ _ _ _ hR hS hl h1 h2
  all_goals cases h
theorem gw_astore (hK : ∀ pc lv st lh, K pc lv st lh = some o → gOk G l p e R s m args below meth c Q own name cc d nL L0 S0 rt o pc lv st lh) {k : Nat} (hdg : decode cc pc = .ok (.astore k, 2)) (hk : k < nL) (h : gI_astore K pc lv st lh k 2 = some o) : gOk G l p e R s m args below meth c Q own name cc d nL L0 S0 rt o pc lv st lh := by
  unfold gI_astore at h
  split at h
  · rename_i x r
    refine ⟨(hK _ _ _ _ h).1, fun X hE H locs cells slots ls hR hS hl h1 h2 => ?_⟩
    obtain ⟨hx, hb, hml, hown, hks, hG, hnm, hfr, hlo, hcc, hss⟩ := id X
    refine lv_astore hx hb hdg hl hk (gSt1_map G lv k (.ref x)) (fun ls hl => ?_)
    exact (hK _ _ _ _ h).2 X hE _ _ _ _ _ hR hS hl h1 h2
  · rename_i r
    refine ⟨(hK _ _ _ _ h).1, fun X hE H locs cells slots ls hR hS hl h1 h2 => ?_⟩
    obtain ⟨hx, hb, hml, hown, hks, hG, hnm, hfr, hlo, hcc, hss⟩ := id X
    refine lv_astoreN hx hb hdg hl hk (gSt1_map G lv k .null) (fun ls hl => ?_)
    exact (hK _ _ _ _ h).2 X hE _ _ _ _ _ hR hS hl h1 h2
  all_goals cases h
theorem gw_lstore_n (hK : ∀ pc lv st lh, K pc lv st lh = some o → gOk G l p e R s m args below meth c Q own name cc d nL L0 S0 rt o pc lv st lh) {k : Fin 4} (hdg : decode cc pc = .ok (.lstore_n k, 1)) (hk : (k : Nat) + 1 < nL) (h : gI_lstore K pc lv st lh (k : Nat) 1 = some o) : gOk G l p e R s m args below meth c Q own name cc d nL L0 S0 rt o pc lv st lh := by
  unfold gI_lstore at h
  split at h
  · rename_i x r
    refine ⟨(hK _ _ _ _ h).1, fun X hE H locs cells slots ls hR hS hl h1 h2 => ?_⟩
    obtain ⟨hx, hb, hml, hown, hks, hG, hnm, hfr, hlo, hcc, hss⟩ := id X
    refine lv_lstore_n hx hb hdg rfl hl hk (gSt2_map G lv (k : Nat) (.long x)) (fun ls hl => ?_)
    exact (hK _ _ _ _ h).2 X hE _ _ _ _ _ hR hS hl h1 h2
  all_goals cases h
theorem gw_lstore (hK : ∀ pc lv st lh, K pc lv st lh = some o → gOk G l p e R s m args below meth c Q own name cc d nL L0 S0 rt o pc lv st lh) {k : Nat} (hdg : decode cc pc = .ok (.lstore k, 2)) (hk : k + 1 < nL) (h : gI_lstore K pc lv st lh k 2 = some o) : gOk G l p e R s m args below meth c Q own name cc d nL L0 S0 rt o pc lv st lh := by
  unfold gI_lstore at h
  split at h
  · rename_i x r
    refine ⟨(hK _ _ _ _ h).1, fun X hE H locs cells slots ls hR hS hl h1 h2 => ?_⟩
    obtain ⟨hx, hb, hml, hown, hks, hG, hnm, hfr, hlo, hcc, hss⟩ := id X
    refine lv_lstore hx hb hdg hl hk (gSt2_map G lv k (.long x)) (fun ls hl => ?_)
    exact (hK _ _ _ _ h).2 X hE _ _ _ _ _ hR hS hl h1 h2
  all_goals cases h
theorem gw_iinc (hK : ∀ pc lv st lh, K pc lv st lh = some o → gOk G l p e R s m args below meth c Q own name cc d nL L0 S0 rt o pc lv st lh) {k : Nat} {n : Int} (hdg : decode cc pc = .ok (.iinc k n, 3)) (hk : k < nL) (h : gI_iinc K pc lv st lh k n = some o) : gOk G l p e R s m args below meth c Q own name cc d nL L0 S0 rt o pc lv st lh := by
  unfold gI_iinc at h
  split at h
  · rename_i x hv
    refine ⟨(hK _ _ _ _ h).1, fun X hE H locs cells slots ls hR hS hl h1 h2 => ?_⟩
    obtain ⟨hx, hb, hml, hown, hks, hG, hnm, hfr, hlo, hcc, hss⟩ := id X
    obtain ⟨i, hi⟩ := gLk_idx (G := G) hv
    refine lv_iinc (v := x + Int32.ofInt n) hx hb hdg hl hi rfl hk (gSt1_map G lv k (.int (x + Int32.ofInt n))) (fun ls hl => ?_)
    exact (hK _ _ _ _ h).2 X hE _ _ _ _ _ hR hS hl h1 h2
  all_goals cases h
theorem gw_iconst (hK : ∀ pc lv st lh, K pc lv st lh = some o → gOk G l p e R s m args below meth c Q own name cc d nL L0 S0 rt o pc lv st lh) {n : Int} (hdg : decode cc pc = .ok (.iconst n, 1)) (h : gI_int K pc lv st lh (Int32.ofInt n) 1 = some o) : gOk G l p e R s m args below meth c Q own name cc d nL L0 S0 rt o pc lv st lh := by
  refine ⟨(hK _ _ _ _ h).1, fun X hE H locs cells slots ls hR hS hl h1 h2 => ?_⟩
  obtain ⟨hx, hb, hml, hown, hks, hG, hnm, hfr, hlo, hcc, hss⟩ := id X
  refine lv_iconst hx hb hdg rfl ?_
  exact (hK _ _ _ _ h).2 X hE _ _ _ _ _ hR hS hl h1 h2
theorem gw_bipush (hK : ∀ pc lv st lh, K pc lv st lh = some o → gOk G l p e R s m args below meth c Q own name cc d nL L0 S0 rt o pc lv st lh) {n : Int} (hdg : decode cc pc = .ok (.bipush n, 2)) (h : gI_int K pc lv st lh (Int8.ofInt n).toInt32 2 = some o) : gOk G l p e R s m args below meth c Q own name cc d nL L0 S0 rt o pc lv st lh := by
  refine ⟨(hK _ _ _ _ h).1, fun X hE H locs cells slots ls hR hS hl h1 h2 => ?_⟩
  obtain ⟨hx, hb, hml, hown, hks, hG, hnm, hfr, hlo, hcc, hss⟩ := id X
  refine lv_bipush hx hb hdg rfl ?_
  exact (hK _ _ _ _ h).2 X hE _ _ _ _ _ hR hS hl h1 h2
theorem gw_sipush (hK : ∀ pc lv st lh, K pc lv st lh = some o → gOk G l p e R s m args below meth c Q own name cc d nL L0 S0 rt o pc lv st lh) {n : Int} (hdg : decode cc pc = .ok (.sipush n, 3)) (h : gI_int K pc lv st lh (Int16.ofInt n).toInt32 3 = some o) : gOk G l p e R s m args below meth c Q own name cc d nL L0 S0 rt o pc lv st lh := by
  refine ⟨(hK _ _ _ _ h).1, fun X hE H locs cells slots ls hR hS hl h1 h2 => ?_⟩
  obtain ⟨hx, hb, hml, hown, hks, hG, hnm, hfr, hlo, hcc, hss⟩ := id X
  refine lv_sipush hx hb hdg rfl ?_
  exact (hK _ _ _ _ h).2 X hE _ _ _ _ _ hR hS hl h1 h2
theorem gw_lconst (hK : ∀ pc lv st lh, K pc lv st lh = some o → gOk G l p e R s m args below meth c Q own name cc d nL L0 S0 rt o pc lv st lh) {n : Fin 2} (hdg : decode cc pc = .ok (.lconst n, 1)) (h : gI_long K pc lv st lh (Int64.ofNat (n : Nat)) 1 = some o) : gOk G l p e R s m args below meth c Q own name cc d nL L0 S0 rt o pc lv st lh := by
  refine ⟨(hK _ _ _ _ h).1, fun X hE H locs cells slots ls hR hS hl h1 h2 => ?_⟩
  obtain ⟨hx, hb, hml, hown, hks, hG, hnm, hfr, hlo, hcc, hss⟩ := id X
  refine lv_lconst hx hb hdg rfl ?_
  exact (hK _ _ _ _ h).2 X hE _ _ _ _ _ hR hS hl h1 h2
theorem gw_null (hK : ∀ pc lv st lh, K pc lv st lh = some o → gOk G l p e R s m args below meth c Q own name cc d nL L0 S0 rt o pc lv st lh)  (hdg : decode cc pc = .ok (.aconst_null, 1)) (h : K (pc + 1) lv (.null :: st) lh = some o) : gOk G l p e R s m args below meth c Q own name cc d nL L0 S0 rt o pc lv st lh := by
  refine ⟨(hK _ _ _ _ h).1, fun X hE H locs cells slots ls hR hS hl h1 h2 => ?_⟩
  obtain ⟨hx, hb, hml, hown, hks, hG, hnm, hfr, hlo, hcc, hss⟩ := id X
  refine lv_null hx hb hdg ?_
  exact (hK _ _ _ _ h).2 X hE _ _ _ _ _ hR hS hl h1 h2
theorem gw_ldc (hK : ∀ pc lv st lh, K pc lv st lh = some o → gOk G l p e R s m args below meth c Q own name cc d nL L0 S0 rt o pc lv st lh) {n : Nat} (hw : Cond.constant own n (Int32.ofInt v) ∈ gTB) (hdg : decode cc pc = .ok (.ldc n, 2)) (h : gI_int K pc lv st lh (Int32.ofInt v) 2 = some o) : gOk G l p e R s m args below meth c Q own name cc d nL L0 S0 rt o pc lv st lh := by
  refine ⟨(hK _ _ _ _ h).1, fun X hE H locs cells slots ls hR hS hl h1 h2 => ?_⟩
  obtain ⟨hx, hb, hml, hown, hks, hG, hnm, hfr, hlo, hcc, hss⟩ := id X
  refine lv_ldc hx hb hown (hks.1 _ (List.mem_filter.mp hw).1 (List.mem_filter.mp hw).2 args) hdg ?_
  exact (hK _ _ _ _ h).2 X hE _ _ _ _ _ hR hS hl h1 h2
theorem gw_ldcw (hK : ∀ pc lv st lh, K pc lv st lh = some o → gOk G l p e R s m args below meth c Q own name cc d nL L0 S0 rt o pc lv st lh) {n : Nat} (hw : Cond.constant own n (Int32.ofInt v) ∈ gTB) (hdg : decode cc pc = .ok (.ldc_w n, 3)) (h : gI_int K pc lv st lh (Int32.ofInt v) 3 = some o) : gOk G l p e R s m args below meth c Q own name cc d nL L0 S0 rt o pc lv st lh := by
  refine ⟨(hK _ _ _ _ h).1, fun X hE H locs cells slots ls hR hS hl h1 h2 => ?_⟩
  obtain ⟨hx, hb, hml, hown, hks, hG, hnm, hfr, hlo, hcc, hss⟩ := id X
  refine lv_ldcw hx hb hown (hks.1 _ (List.mem_filter.mp hw).1 (List.mem_filter.mp hw).2 args) hdg ?_
  exact (hK _ _ _ _ h).2 X hE _ _ _ _ _ hR hS hl h1 h2
theorem gw_ldc2 (hK : ∀ pc lv st lh, K pc lv st lh = some o → gOk G l p e R s m args below meth c Q own name cc d nL L0 S0 rt o pc lv st lh) {n : Nat} (hw : Cond.constantLong own n (Int64.ofInt v) ∈ gTB) (hdg : decode cc pc = .ok (.ldc2_w n, 3)) (h : gI_long K pc lv st lh (Int64.ofInt v) 3 = some o) : gOk G l p e R s m args below meth c Q own name cc d nL L0 S0 rt o pc lv st lh := by
  refine ⟨(hK _ _ _ _ h).1, fun X hE H locs cells slots ls hR hS hl h1 h2 => ?_⟩
  obtain ⟨hx, hb, hml, hown, hks, hG, hnm, hfr, hlo, hcc, hss⟩ := id X
  refine lv_ldc2 hx hb hown (hks.1 _ (List.mem_filter.mp hw).1 (List.mem_filter.mp hw).2 args) hdg ?_
  exact (hK _ _ _ _ h).2 X hE _ _ _ _ _ hR hS hl h1 h2
theorem gw_ldcS (hK : ∀ pc lv st lh, K pc lv st lh = some o → gOk G l p e R s m args below meth c Q own name cc d nL L0 S0 rt o pc lv st lh) {n : Nat} (ha : a < 3) (ho : own = "MixStage$Tokens") (hn : n = (gSt a).1) (hz : vk_R "MixStage$Tokens" (gSt a).1 (gSt a).2 (gad G (2 * a + 1)) s = vk_R own n (gSt a).2 (gad G (2 * a + 1)) s) (hdg : decode cc pc = .ok (.ldc n, 2)) (h : K (pc + 2) lv (.ref (2 * a + 1) :: st) lh = some o) : gOk G l p e R s m args below meth c Q own name cc d nL L0 S0 rt o pc lv st lh := by
  refine ⟨(hK _ _ _ _ h).1, fun X hE H locs cells slots ls hR hS hl h1 h2 => ?_⟩
  obtain ⟨hx, hb, hml, hown, hks, hG, hnm, hfr, hlo, hcc, hss⟩ := id X
  refine va_ldcS hx hb hown (hz ▸ hks.2.2.1 a ha) hdg ?_
  exact (hK _ _ _ _ h).2 X hE _ _ _ _ _ hR hS hl h1 h2
theorem gw_iadd (hK : ∀ pc lv st lh, K pc lv st lh = some o → gOk G l p e R s m args below meth c Q own name cc d nL L0 S0 rt o pc lv st lh) (hdg : decode cc pc = .ok (.iadd, 1)) (h : gI_bin K pc lv st lh (fun x y => x + y) = some o) : gOk G l p e R s m args below meth c Q own name cc d nL L0 S0 rt o pc lv st lh := by
  unfold gI_bin at h
  split at h
  · skip
    refine ⟨(hK _ _ _ _ h).1, fun X hE H locs cells slots ls hR hS hl h1 h2 => ?_⟩
    obtain ⟨hx, hb, hml, hown, hks, hG, hnm, hfr, hlo, hcc, hss⟩ := id X
    refine lv_iadd hx hb hdg ?_
    exact (hK _ _ _ _ h).2 X hE _ _ _ _ _ hR hS hl h1 h2
  all_goals cases h
theorem gw_isub (hK : ∀ pc lv st lh, K pc lv st lh = some o → gOk G l p e R s m args below meth c Q own name cc d nL L0 S0 rt o pc lv st lh) (hdg : decode cc pc = .ok (.isub, 1)) (h : gI_bin K pc lv st lh (fun x y => x - y) = some o) : gOk G l p e R s m args below meth c Q own name cc d nL L0 S0 rt o pc lv st lh := by
  unfold gI_bin at h
  split at h
  · skip
    refine ⟨(hK _ _ _ _ h).1, fun X hE H locs cells slots ls hR hS hl h1 h2 => ?_⟩
    obtain ⟨hx, hb, hml, hown, hks, hG, hnm, hfr, hlo, hcc, hss⟩ := id X
    refine lv_isub hx hb hdg ?_
    exact (hK _ _ _ _ h).2 X hE _ _ _ _ _ hR hS hl h1 h2
  all_goals cases h
theorem gw_imul (hK : ∀ pc lv st lh, K pc lv st lh = some o → gOk G l p e R s m args below meth c Q own name cc d nL L0 S0 rt o pc lv st lh) (hdg : decode cc pc = .ok (.imul, 1)) (h : gI_bin K pc lv st lh (fun x y => x * y) = some o) : gOk G l p e R s m args below meth c Q own name cc d nL L0 S0 rt o pc lv st lh := by
  unfold gI_bin at h
  split at h
  · skip
    refine ⟨(hK _ _ _ _ h).1, fun X hE H locs cells slots ls hR hS hl h1 h2 => ?_⟩
    obtain ⟨hx, hb, hml, hown, hks, hG, hnm, hfr, hlo, hcc, hss⟩ := id X
    refine lv_imul hx hb hdg ?_
    exact (hK _ _ _ _ h).2 X hE _ _ _ _ _ hR hS hl h1 h2
  all_goals cases h
theorem gw_iand (hK : ∀ pc lv st lh, K pc lv st lh = some o → gOk G l p e R s m args below meth c Q own name cc d nL L0 S0 rt o pc lv st lh) (hdg : decode cc pc = .ok (.iand, 1)) (h : gI_bin K pc lv st lh (fun x y => x &&& y) = some o) : gOk G l p e R s m args below meth c Q own name cc d nL L0 S0 rt o pc lv st lh := by
  unfold gI_bin at h
  split at h
  · skip
    refine ⟨(hK _ _ _ _ h).1, fun X hE H locs cells slots ls hR hS hl h1 h2 => ?_⟩
    obtain ⟨hx, hb, hml, hown, hks, hG, hnm, hfr, hlo, hcc, hss⟩ := id X
    refine lv_iand hx hb hdg ?_
    exact (hK _ _ _ _ h).2 X hE _ _ _ _ _ hR hS hl h1 h2
  all_goals cases h
theorem gw_ior (hK : ∀ pc lv st lh, K pc lv st lh = some o → gOk G l p e R s m args below meth c Q own name cc d nL L0 S0 rt o pc lv st lh) (hdg : decode cc pc = .ok (.ior, 1)) (h : gI_bin K pc lv st lh (fun x y => x ||| y) = some o) : gOk G l p e R s m args below meth c Q own name cc d nL L0 S0 rt o pc lv st lh := by
  unfold gI_bin at h
  split at h
  · skip
    refine ⟨(hK _ _ _ _ h).1, fun X hE H locs cells slots ls hR hS hl h1 h2 => ?_⟩
    obtain ⟨hx, hb, hml, hown, hks, hG, hnm, hfr, hlo, hcc, hss⟩ := id X
    refine lv_ior hx hb hdg ?_
    exact (hK _ _ _ _ h).2 X hE _ _ _ _ _ hR hS hl h1 h2
  all_goals cases h
theorem gw_ixor (hK : ∀ pc lv st lh, K pc lv st lh = some o → gOk G l p e R s m args below meth c Q own name cc d nL L0 S0 rt o pc lv st lh) (hdg : decode cc pc = .ok (.ixor, 1)) (h : gI_bin K pc lv st lh (fun x y => x ^^^ y) = some o) : gOk G l p e R s m args below meth c Q own name cc d nL L0 S0 rt o pc lv st lh := by
  unfold gI_bin at h
  split at h
  · skip
    refine ⟨(hK _ _ _ _ h).1, fun X hE H locs cells slots ls hR hS hl h1 h2 => ?_⟩
    obtain ⟨hx, hb, hml, hown, hks, hG, hnm, hfr, hlo, hcc, hss⟩ := id X
    refine lv_ixor hx hb hdg ?_
    exact (hK _ _ _ _ h).2 X hE _ _ _ _ _ hR hS hl h1 h2
  all_goals cases h
theorem gw_ishl (hK : ∀ pc lv st lh, K pc lv st lh = some o → gOk G l p e R s m args below meth c Q own name cc d nL L0 S0 rt o pc lv st lh) (hdg : decode cc pc = .ok (.ishl, 1)) (h : gI_bin K pc lv st lh (fun x y => x <<< (y &&& 31)) = some o) : gOk G l p e R s m args below meth c Q own name cc d nL L0 S0 rt o pc lv st lh := by
  unfold gI_bin at h
  split at h
  · skip
    refine ⟨(hK _ _ _ _ h).1, fun X hE H locs cells slots ls hR hS hl h1 h2 => ?_⟩
    obtain ⟨hx, hb, hml, hown, hks, hG, hnm, hfr, hlo, hcc, hss⟩ := id X
    refine lv_ishl hx hb hdg ?_
    exact (hK _ _ _ _ h).2 X hE _ _ _ _ _ hR hS hl h1 h2
  all_goals cases h
theorem gw_ishr (hK : ∀ pc lv st lh, K pc lv st lh = some o → gOk G l p e R s m args below meth c Q own name cc d nL L0 S0 rt o pc lv st lh) (hdg : decode cc pc = .ok (.ishr, 1)) (h : gI_bin K pc lv st lh (fun x y => x >>> (y &&& 31)) = some o) : gOk G l p e R s m args below meth c Q own name cc d nL L0 S0 rt o pc lv st lh := by
  unfold gI_bin at h
  split at h
  · skip
    refine ⟨(hK _ _ _ _ h).1, fun X hE H locs cells slots ls hR hS hl h1 h2 => ?_⟩
    obtain ⟨hx, hb, hml, hown, hks, hG, hnm, hfr, hlo, hcc, hss⟩ := id X
    refine lv_ishr hx hb hdg ?_
    exact (hK _ _ _ _ h).2 X hE _ _ _ _ _ hR hS hl h1 h2
  all_goals cases h
theorem gw_iushr (hK : ∀ pc lv st lh, K pc lv st lh = some o → gOk G l p e R s m args below meth c Q own name cc d nL L0 S0 rt o pc lv st lh) (hdg : decode cc pc = .ok (.iushr, 1)) (h : gI_bin K pc lv st lh (fun x y => (x.toUInt32 >>> (y.toUInt32 &&& Int32.toUInt32 31)).toInt32) = some o) : gOk G l p e R s m args below meth c Q own name cc d nL L0 S0 rt o pc lv st lh := by
  unfold gI_bin at h
  split at h
  · skip
    refine ⟨(hK _ _ _ _ h).1, fun X hE H locs cells slots ls hR hS hl h1 h2 => ?_⟩
    obtain ⟨hx, hb, hml, hown, hks, hG, hnm, hfr, hlo, hcc, hss⟩ := id X
    refine lv_iushr hx hb hdg rfl ?_
    exact (hK _ _ _ _ h).2 X hE _ _ _ _ _ hR hS hl h1 h2
  all_goals cases h
theorem gw_ineg (hK : ∀ pc lv st lh, K pc lv st lh = some o → gOk G l p e R s m args below meth c Q own name cc d nL L0 S0 rt o pc lv st lh) (hdg : decode cc pc = .ok (.ineg, 1)) (h : gI_un K pc lv st lh (fun x => -x) = some o) : gOk G l p e R s m args below meth c Q own name cc d nL L0 S0 rt o pc lv st lh := by
  unfold gI_un at h
  split at h
  · skip
    refine ⟨(hK _ _ _ _ h).1, fun X hE H locs cells slots ls hR hS hl h1 h2 => ?_⟩
    obtain ⟨hx, hb, hml, hown, hks, hG, hnm, hfr, hlo, hcc, hss⟩ := id X
    refine lv_ineg hx hb hdg ?_
    exact (hK _ _ _ _ h).2 X hE _ _ _ _ _ hR hS hl h1 h2
  all_goals cases h
theorem gw_i2b (hK : ∀ pc lv st lh, K pc lv st lh = some o → gOk G l p e R s m args below meth c Q own name cc d nL L0 S0 rt o pc lv st lh) (hdg : decode cc pc = .ok (.i2b, 1)) (h : gI_un K pc lv st lh (fun x => x.toInt8.toInt32) = some o) : gOk G l p e R s m args below meth c Q own name cc d nL L0 S0 rt o pc lv st lh := by
  unfold gI_un at h
  split at h
  · skip
    refine ⟨(hK _ _ _ _ h).1, fun X hE H locs cells slots ls hR hS hl h1 h2 => ?_⟩
    obtain ⟨hx, hb, hml, hown, hks, hG, hnm, hfr, hlo, hcc, hss⟩ := id X
    refine lv_i2b hx hb hdg rfl ?_
    exact (hK _ _ _ _ h).2 X hE _ _ _ _ _ hR hS hl h1 h2
  all_goals cases h
theorem gw_i2c (hK : ∀ pc lv st lh, K pc lv st lh = some o → gOk G l p e R s m args below meth c Q own name cc d nL L0 S0 rt o pc lv st lh) (hdg : decode cc pc = .ok (.i2c, 1)) (h : gI_un K pc lv st lh (fun x => (x.toUInt32 % 65536).toInt32) = some o) : gOk G l p e R s m args below meth c Q own name cc d nL L0 S0 rt o pc lv st lh := by
  unfold gI_un at h
  split at h
  · skip
    refine ⟨(hK _ _ _ _ h).1, fun X hE H locs cells slots ls hR hS hl h1 h2 => ?_⟩
    obtain ⟨hx, hb, hml, hown, hks, hG, hnm, hfr, hlo, hcc, hss⟩ := id X
    refine lv_i2c hx hb hdg rfl ?_
    exact (hK _ _ _ _ h).2 X hE _ _ _ _ _ hR hS hl h1 h2
  all_goals cases h
theorem gw_ladd (hK : ∀ pc lv st lh, K pc lv st lh = some o → gOk G l p e R s m args below meth c Q own name cc d nL L0 S0 rt o pc lv st lh) (hdg : decode cc pc = .ok (.ladd, 1)) (h : gI_lbin K pc lv st lh (fun x y => x + y) = some o) : gOk G l p e R s m args below meth c Q own name cc d nL L0 S0 rt o pc lv st lh := by
  unfold gI_lbin at h
  split at h
  · skip
    refine ⟨(hK _ _ _ _ h).1, fun X hE H locs cells slots ls hR hS hl h1 h2 => ?_⟩
    obtain ⟨hx, hb, hml, hown, hks, hG, hnm, hfr, hlo, hcc, hss⟩ := id X
    refine lv_ladd hx hb hdg ?_
    exact (hK _ _ _ _ h).2 X hE _ _ _ _ _ hR hS hl h1 h2
  all_goals cases h
theorem gw_lsub (hK : ∀ pc lv st lh, K pc lv st lh = some o → gOk G l p e R s m args below meth c Q own name cc d nL L0 S0 rt o pc lv st lh) (hdg : decode cc pc = .ok (.lsub, 1)) (h : gI_lbin K pc lv st lh (fun x y => x - y) = some o) : gOk G l p e R s m args below meth c Q own name cc d nL L0 S0 rt o pc lv st lh := by
  unfold gI_lbin at h
  split at h
  · skip
    refine ⟨(hK _ _ _ _ h).1, fun X hE H locs cells slots ls hR hS hl h1 h2 => ?_⟩
    obtain ⟨hx, hb, hml, hown, hks, hG, hnm, hfr, hlo, hcc, hss⟩ := id X
    refine lv_lsub hx hb hdg ?_
    exact (hK _ _ _ _ h).2 X hE _ _ _ _ _ hR hS hl h1 h2
  all_goals cases h
theorem gw_lmul (hK : ∀ pc lv st lh, K pc lv st lh = some o → gOk G l p e R s m args below meth c Q own name cc d nL L0 S0 rt o pc lv st lh) (hdg : decode cc pc = .ok (.lmul, 1)) (h : gI_lbin K pc lv st lh (fun x y => x * y) = some o) : gOk G l p e R s m args below meth c Q own name cc d nL L0 S0 rt o pc lv st lh := by
  unfold gI_lbin at h
  split at h
  · skip
    refine ⟨(hK _ _ _ _ h).1, fun X hE H locs cells slots ls hR hS hl h1 h2 => ?_⟩
    obtain ⟨hx, hb, hml, hown, hks, hG, hnm, hfr, hlo, hcc, hss⟩ := id X
    refine lv_lmul hx hb hdg ?_
    exact (hK _ _ _ _ h).2 X hE _ _ _ _ _ hR hS hl h1 h2
  all_goals cases h
theorem gw_lcmp (hK : ∀ pc lv st lh, K pc lv st lh = some o → gOk G l p e R s m args below meth c Q own name cc d nL L0 S0 rt o pc lv st lh) (hdg : decode cc pc = .ok (.lcmp, 1)) (h : gI_lcmp K pc lv st lh = some o) : gOk G l p e R s m args below meth c Q own name cc d nL L0 S0 rt o pc lv st lh := by
  unfold gI_lcmp at h
  split at h
  · skip
    refine ⟨(hK _ _ _ _ h).1, fun X hE H locs cells slots ls hR hS hl h1 h2 => ?_⟩
    obtain ⟨hx, hb, hml, hown, hks, hG, hnm, hfr, hlo, hcc, hss⟩ := id X
    refine W.lcmp hx hb hdg ?_
    exact (hK _ _ _ _ h).2 X hE _ _ _ _ _ hR hS hl h1 h2
  all_goals cases h
theorem gw_i2l (hK : ∀ pc lv st lh, K pc lv st lh = some o → gOk G l p e R s m args below meth c Q own name cc d nL L0 S0 rt o pc lv st lh) (hdg : decode cc pc = .ok (.i2l, 1)) (h : gI_i2l K pc lv st lh = some o) : gOk G l p e R s m args below meth c Q own name cc d nL L0 S0 rt o pc lv st lh := by
  unfold gI_i2l at h
  split at h
  · skip
    refine ⟨(hK _ _ _ _ h).1, fun X hE H locs cells slots ls hR hS hl h1 h2 => ?_⟩
    obtain ⟨hx, hb, hml, hown, hks, hG, hnm, hfr, hlo, hcc, hss⟩ := id X
    refine lv_i2l hx hb hdg rfl ?_
    exact (hK _ _ _ _ h).2 X hE _ _ _ _ _ hR hS hl h1 h2
  all_goals cases h
theorem gw_l2i (hK : ∀ pc lv st lh, K pc lv st lh = some o → gOk G l p e R s m args below meth c Q own name cc d nL L0 S0 rt o pc lv st lh) (hdg : decode cc pc = .ok (.l2i, 1)) (h : gI_l2i K pc lv st lh = some o) : gOk G l p e R s m args below meth c Q own name cc d nL L0 S0 rt o pc lv st lh := by
  unfold gI_l2i at h
  split at h
  · skip
    refine ⟨(hK _ _ _ _ h).1, fun X hE H locs cells slots ls hR hS hl h1 h2 => ?_⟩
    obtain ⟨hx, hb, hml, hown, hks, hG, hnm, hfr, hlo, hcc, hss⟩ := id X
    refine lv_l2i hx hb hdg rfl ?_
    exact (hK _ _ _ _ h).2 X hE _ _ _ _ _ hR hS hl h1 h2
  all_goals cases h
theorem gw_idiv (hK : ∀ pc lv st lh, K pc lv st lh = some o → gOk G l p e R s m args below meth c Q own name cc d nL L0 S0 rt o pc lv st lh) (hdg : decode cc pc = .ok (.idiv, 1)) (h : gI_div K pc lv st lh (fun x y => x / y) = some o) : gOk G l p e R s m args below meth c Q own name cc d nL L0 S0 rt o pc lv st lh := by
  unfold gI_div at h
  split at h
  · rename_i y x r
    by_cases hy : y = 0
    · rw [decide_eq_true hy] at h
      cases h
    · rw [decide_eq_false hy] at h
      refine ⟨(hK _ _ _ _ h).1, fun X hE H locs cells slots ls hR hS hl h1 h2 => ?_⟩
      obtain ⟨hx, hb, hml, hown, hks, hG, hnm, hfr, hlo, hcc, hss⟩ := id X
      refine lv_idiv hx hb hdg hy ?_
      exact (hK _ _ _ _ h).2 X hE _ _ _ _ _ hR hS hl h1 h2
  all_goals cases h
theorem gw_irem (hK : ∀ pc lv st lh, K pc lv st lh = some o → gOk G l p e R s m args below meth c Q own name cc d nL L0 S0 rt o pc lv st lh) (hdg : decode cc pc = .ok (.irem, 1)) (h : gI_div K pc lv st lh (fun x y => x - x / y * y) = some o) : gOk G l p e R s m args below meth c Q own name cc d nL L0 S0 rt o pc lv st lh := by
  unfold gI_div at h
  split at h
  · rename_i y x r
    by_cases hy : y = 0
    · rw [decide_eq_true hy] at h
      cases h
    · rw [decide_eq_false hy] at h
      refine ⟨(hK _ _ _ _ h).1, fun X hE H locs cells slots ls hR hS hl h1 h2 => ?_⟩
      obtain ⟨hx, hb, hml, hown, hks, hG, hnm, hfr, hlo, hcc, hss⟩ := id X
      refine lv_irem hx hb hdg hy ?_
      exact (hK _ _ _ _ h).2 X hE _ _ _ _ _ hR hS hl h1 h2
  all_goals cases h
theorem gw_ldiv (hK : ∀ pc lv st lh, K pc lv st lh = some o → gOk G l p e R s m args below meth c Q own name cc d nL L0 S0 rt o pc lv st lh) (hdg : decode cc pc = .ok (.ldiv, 1)) (h : gI_ldiv K pc lv st lh = some o) : gOk G l p e R s m args below meth c Q own name cc d nL L0 S0 rt o pc lv st lh := by
  unfold gI_ldiv at h
  split at h
  · rename_i y x r
    by_cases hy : y = 0
    · rw [decide_eq_true hy] at h
      cases h
    · rw [decide_eq_false hy] at h
      refine ⟨(hK _ _ _ _ h).1, fun X hE H locs cells slots ls hR hS hl h1 h2 => ?_⟩
      obtain ⟨hx, hb, hml, hown, hks, hG, hnm, hfr, hlo, hcc, hss⟩ := id X
      refine lv_ldiv hx hb hdg hy ?_
      exact (hK _ _ _ _ h).2 X hE _ _ _ _ _ hR hS hl h1 h2
  all_goals cases h
theorem gw_dup (hK : ∀ pc lv st lh, K pc lv st lh = some o → gOk G l p e R s m args below meth c Q own name cc d nL L0 S0 rt o pc lv st lh) (hdg : decode cc pc = .ok (.dup, 1)) (h : gI_dup K pc lv st lh = some o) : gOk G l p e R s m args below meth c Q own name cc d nL L0 S0 rt o pc lv st lh := by
  unfold gI_dup at h
  split at h
  · rename_i w r
    cases hw : Nat.beq w.category 1 with
    | false => rw [hw] at h; cases h
    | true =>
      rw [hw] at h
      refine ⟨(hK _ _ _ _ h).1, fun X hE H locs cells slots ls hR hS hl h1 h2 => ?_⟩
      obtain ⟨hx, hb, hml, hown, hks, hG, hnm, hfr, hlo, hcc, hss⟩ := id X
      refine lv_dup hx hb hdg (by rw [grv_cat]; exact Nat.eq_of_beq_eq_true hw) ?_
      exact (hK _ _ _ _ h).2 X hE _ _ _ _ _ hR hS hl h1 h2
  all_goals cases h
theorem gw_pop (hK : ∀ pc lv st lh, K pc lv st lh = some o → gOk G l p e R s m args below meth c Q own name cc d nL L0 S0 rt o pc lv st lh) (hdg : decode cc pc = .ok (.pop, 1)) (h : gI_pop K pc lv st lh = some o) : gOk G l p e R s m args below meth c Q own name cc d nL L0 S0 rt o pc lv st lh := by
  unfold gI_pop at h
  split at h
  · rename_i w r
    cases hw : Nat.beq w.category 1 with
    | false => rw [hw] at h; cases h
    | true =>
      rw [hw] at h
      refine ⟨(hK _ _ _ _ h).1, fun X hE H locs cells slots ls hR hS hl h1 h2 => ?_⟩
      obtain ⟨hx, hb, hml, hown, hks, hG, hnm, hfr, hlo, hcc, hss⟩ := id X
      refine lv_pop hx hb hdg (by rw [grv_cat]; exact Nat.eq_of_beq_eq_true hw) ?_
      exact (hK _ _ _ _ h).2 X hE _ _ _ _ _ hR hS hl h1 h2
  all_goals cases h
theorem gw_dup2 (hK : ∀ pc lv st lh, K pc lv st lh = some o → gOk G l p e R s m args below meth c Q own name cc d nL L0 S0 rt o pc lv st lh) (hdg : decode cc pc = .ok (.dup2, 1)) (h : gI_dup2 K pc lv st lh = some o) : gOk G l p e R s m args below meth c Q own name cc d nL L0 S0 rt o pc lv st lh := by
  unfold gI_dup2 at h
  split at h
  · rename_i w r
    cases hw : Nat.beq w.category 2 with
    | true =>
      rw [hw] at h
      refine ⟨(hK _ _ _ _ h).1, fun X hE H locs cells slots ls hR hS hl h1 h2 => ?_⟩
      obtain ⟨hx, hb, hml, hown, hks, hG, hnm, hfr, hlo, hcc, hss⟩ := id X
      refine lv_dup2_2 hx hb hdg (by rw [grv_cat]; exact Nat.eq_of_beq_eq_true hw) ?_
      exact (hK _ _ _ _ h).2 X hE _ _ _ _ _ hR hS hl h1 h2
    | false =>
      rw [hw] at h
      dsimp only [cond_false] at h
      split at h
      · rename_i w2 r2
        cases hq : (Nat.beq w.category 1 && Nat.beq w2.category 1) with
        | false => rw [hq] at h; cases h
        | true =>
          rw [hq] at h
          rw [Bool.and_eq_true] at hq
          refine ⟨(hK _ _ _ _ h).1, fun X hE H locs cells slots ls hR hS hl h1 h2 => ?_⟩
          obtain ⟨hx, hb, hml, hown, hks, hG, hnm, hfr, hlo, hcc, hss⟩ := id X
          refine lv_dup2_11 hx hb hdg (by rw [grv_cat]; exact Nat.eq_of_beq_eq_true hq.1) (by rw [grv_cat]; exact Nat.eq_of_beq_eq_true hq.2) ?_
          exact (hK _ _ _ _ h).2 X hE _ _ _ _ _ hR hS hl h1 h2
      · cases h
  all_goals cases h
theorem gw_if (hK : ∀ pc lv st lh, K pc lv st lh = some o → gOk G l p e R s m args below meth c Q own name cc d nL L0 S0 rt o pc lv st lh) {cd : Jvm.ClassFile.Cond} {off : Int} (hdg : decode cc pc = .ok (.ifCond cd off, 3)) (ht : (pc : Int) + off = (a : Int)) (h : gI_if K pc a lv st lh cd = some o) : gOk G l p e R s m args below meth c Q own name cc d nL L0 S0 rt o pc lv st lh := by
  unfold gI_if at h
  split at h
  · rename_i x r
    cases cd with
    | eq =>
      refine ⟨?_, fun X hE H locs cells slots ls hR hS hl h1 h2 => ?_⟩
      · cases hq : gCmp .eq x 0 with
        | true => rw [hq] at h; exact (hK _ _ _ _ h).1
        | false => rw [hq] at h; exact (hK _ _ _ _ h).1
      · obtain ⟨hx, hb, hml, hown, hks, hG, hnm, hfr, hlo, hcc, hss⟩ := id X
        refine lv_if_eq hx hb hdg ht (fun hq => ?_) (fun hq => ?_)
        · rw [show gCmp .eq x 0 = true from decide_eq_true hq] at h
          exact (hK _ _ _ _ h).2 X hE _ _ _ _ _ hR hS hl h1 h2
        · rw [show gCmp .eq x 0 = false from decide_eq_false (hq)] at h
          exact (hK _ _ _ _ h).2 X hE _ _ _ _ _ hR hS hl h1 h2
    | ne =>
      refine ⟨?_, fun X hE H locs cells slots ls hR hS hl h1 h2 => ?_⟩
      · cases hq : gCmp .ne x 0 with
        | true => rw [hq] at h; exact (hK _ _ _ _ h).1
        | false => rw [hq] at h; exact (hK _ _ _ _ h).1
      · obtain ⟨hx, hb, hml, hown, hks, hG, hnm, hfr, hlo, hcc, hss⟩ := id X
        refine lv_if_ne hx hb hdg ht (fun hq => ?_) (fun hq => ?_)
        · rw [show gCmp .ne x 0 = true from decide_eq_true hq] at h
          exact (hK _ _ _ _ h).2 X hE _ _ _ _ _ hR hS hl h1 h2
        · rw [show gCmp .ne x 0 = false from decide_eq_false (fun z => z hq)] at h
          exact (hK _ _ _ _ h).2 X hE _ _ _ _ _ hR hS hl h1 h2
    | lt =>
      refine ⟨?_, fun X hE H locs cells slots ls hR hS hl h1 h2 => ?_⟩
      · cases hq : gCmp .lt x 0 with
        | true => rw [hq] at h; exact (hK _ _ _ _ h).1
        | false => rw [hq] at h; exact (hK _ _ _ _ h).1
      · obtain ⟨hx, hb, hml, hown, hks, hG, hnm, hfr, hlo, hcc, hss⟩ := id X
        refine lv_if_lt hx hb hdg ht (fun hq => ?_) (fun hq => ?_)
        · rw [show gCmp .lt x 0 = true from decide_eq_true hq] at h
          exact (hK _ _ _ _ h).2 X hE _ _ _ _ _ hR hS hl h1 h2
        · rw [show gCmp .lt x 0 = false from decide_eq_false (hq)] at h
          exact (hK _ _ _ _ h).2 X hE _ _ _ _ _ hR hS hl h1 h2
    | ge =>
      refine ⟨?_, fun X hE H locs cells slots ls hR hS hl h1 h2 => ?_⟩
      · cases hq : gCmp .ge x 0 with
        | true => rw [hq] at h; exact (hK _ _ _ _ h).1
        | false => rw [hq] at h; exact (hK _ _ _ _ h).1
      · obtain ⟨hx, hb, hml, hown, hks, hG, hnm, hfr, hlo, hcc, hss⟩ := id X
        refine lv_if_ge hx hb hdg ht (fun hq => ?_) (fun hq => ?_)
        · rw [show gCmp .ge x 0 = true from decide_eq_true hq] at h
          exact (hK _ _ _ _ h).2 X hE _ _ _ _ _ hR hS hl h1 h2
        · rw [show gCmp .ge x 0 = false from decide_eq_false (hq)] at h
          exact (hK _ _ _ _ h).2 X hE _ _ _ _ _ hR hS hl h1 h2
    | gt =>
      refine ⟨?_, fun X hE H locs cells slots ls hR hS hl h1 h2 => ?_⟩
      · cases hq : gCmp .gt x 0 with
        | true => rw [hq] at h; exact (hK _ _ _ _ h).1
        | false => rw [hq] at h; exact (hK _ _ _ _ h).1
      · obtain ⟨hx, hb, hml, hown, hks, hG, hnm, hfr, hlo, hcc, hss⟩ := id X
        refine lv_if_gt hx hb hdg ht (fun hq => ?_) (fun hq => ?_)
        · rw [show gCmp .gt x 0 = true from decide_eq_true hq] at h
          exact (hK _ _ _ _ h).2 X hE _ _ _ _ _ hR hS hl h1 h2
        · rw [show gCmp .gt x 0 = false from decide_eq_false (hq)] at h
          exact (hK _ _ _ _ h).2 X hE _ _ _ _ _ hR hS hl h1 h2
    | le =>
      refine ⟨?_, fun X hE H locs cells slots ls hR hS hl h1 h2 => ?_⟩
      · cases hq : gCmp .le x 0 with
        | true => rw [hq] at h; exact (hK _ _ _ _ h).1
        | false => rw [hq] at h; exact (hK _ _ _ _ h).1
      · obtain ⟨hx, hb, hml, hown, hks, hG, hnm, hfr, hlo, hcc, hss⟩ := id X
        refine lv_if_le hx hb hdg ht (fun hq => ?_) (fun hq => ?_)
        · rw [show gCmp .le x 0 = true from decide_eq_true hq] at h
          exact (hK _ _ _ _ h).2 X hE _ _ _ _ _ hR hS hl h1 h2
        · rw [show gCmp .le x 0 = false from decide_eq_false (hq)] at h
          exact (hK _ _ _ _ h).2 X hE _ _ _ _ _ hR hS hl h1 h2
  all_goals cases h
theorem gw_icmp (hK : ∀ pc lv st lh, K pc lv st lh = some o → gOk G l p e R s m args below meth c Q own name cc d nL L0 S0 rt o pc lv st lh) {cd : Jvm.ClassFile.Cond} {off : Int} (hdg : decode cc pc = .ok (.if_icmp cd off, 3)) (ht : (pc : Int) + off = (a : Int)) (h : gI_icmp K pc a lv st lh cd = some o) : gOk G l p e R s m args below meth c Q own name cc d nL L0 S0 rt o pc lv st lh := by
  unfold gI_icmp at h
  split at h
  · rename_i y x r
    cases cd with
    | eq =>
      refine ⟨?_, fun X hE H locs cells slots ls hR hS hl h1 h2 => ?_⟩
      · cases hq : gCmp .eq x y with
        | true => rw [hq] at h; exact (hK _ _ _ _ h).1
        | false => rw [hq] at h; exact (hK _ _ _ _ h).1
      · obtain ⟨hx, hb, hml, hown, hks, hG, hnm, hfr, hlo, hcc, hss⟩ := id X
        refine lv_icmp_eq hx hb hdg ht (fun hq => ?_) (fun hq => ?_)
        · rw [show gCmp .eq x y = true from decide_eq_true hq] at h
          exact (hK _ _ _ _ h).2 X hE _ _ _ _ _ hR hS hl h1 h2
        · rw [show gCmp .eq x y = false from decide_eq_false (hq)] at h
          exact (hK _ _ _ _ h).2 X hE _ _ _ _ _ hR hS hl h1 h2
    | ne =>
      refine ⟨?_, fun X hE H locs cells slots ls hR hS hl h1 h2 => ?_⟩
      · cases hq : gCmp .ne x y with
        | true => rw [hq] at h; exact (hK _ _ _ _ h).1
        | false => rw [hq] at h; exact (hK _ _ _ _ h).1
      · obtain ⟨hx, hb, hml, hown, hks, hG, hnm, hfr, hlo, hcc, hss⟩ := id X
        refine lv_icmp_ne hx hb hdg ht (fun hq => ?_) (fun hq => ?_)
        · rw [show gCmp .ne x y = true from decide_eq_true hq] at h
          exact (hK _ _ _ _ h).2 X hE _ _ _ _ _ hR hS hl h1 h2
        · rw [show gCmp .ne x y = false from decide_eq_false (fun z => z hq)] at h
          exact (hK _ _ _ _ h).2 X hE _ _ _ _ _ hR hS hl h1 h2
    | lt =>
      refine ⟨?_, fun X hE H locs cells slots ls hR hS hl h1 h2 => ?_⟩
      · cases hq : gCmp .lt x y with
        | true => rw [hq] at h; exact (hK _ _ _ _ h).1
        | false => rw [hq] at h; exact (hK _ _ _ _ h).1
      · obtain ⟨hx, hb, hml, hown, hks, hG, hnm, hfr, hlo, hcc, hss⟩ := id X
        refine lv_icmp_lt hx hb hdg ht (fun hq => ?_) (fun hq => ?_)
        · rw [show gCmp .lt x y = true from decide_eq_true hq] at h
          exact (hK _ _ _ _ h).2 X hE _ _ _ _ _ hR hS hl h1 h2
        · rw [show gCmp .lt x y = false from decide_eq_false (hq)] at h
          exact (hK _ _ _ _ h).2 X hE _ _ _ _ _ hR hS hl h1 h2
    | ge =>
      refine ⟨?_, fun X hE H locs cells slots ls hR hS hl h1 h2 => ?_⟩
      · cases hq : gCmp .ge x y with
        | true => rw [hq] at h; exact (hK _ _ _ _ h).1
        | false => rw [hq] at h; exact (hK _ _ _ _ h).1
      · obtain ⟨hx, hb, hml, hown, hks, hG, hnm, hfr, hlo, hcc, hss⟩ := id X
        refine lv_icmp_ge hx hb hdg ht (fun hq => ?_) (fun hq => ?_)
        · rw [show gCmp .ge x y = true from decide_eq_true hq] at h
          exact (hK _ _ _ _ h).2 X hE _ _ _ _ _ hR hS hl h1 h2
        · rw [show gCmp .ge x y = false from decide_eq_false (hq)] at h
          exact (hK _ _ _ _ h).2 X hE _ _ _ _ _ hR hS hl h1 h2
    | gt =>
      refine ⟨?_, fun X hE H locs cells slots ls hR hS hl h1 h2 => ?_⟩
      · cases hq : gCmp .gt x y with
        | true => rw [hq] at h; exact (hK _ _ _ _ h).1
        | false => rw [hq] at h; exact (hK _ _ _ _ h).1
      · obtain ⟨hx, hb, hml, hown, hks, hG, hnm, hfr, hlo, hcc, hss⟩ := id X
        refine lv_icmp_gt hx hb hdg ht (fun hq => ?_) (fun hq => ?_)
        · rw [show gCmp .gt x y = true from decide_eq_true hq] at h
          exact (hK _ _ _ _ h).2 X hE _ _ _ _ _ hR hS hl h1 h2
        · rw [show gCmp .gt x y = false from decide_eq_false (hq)] at h
          exact (hK _ _ _ _ h).2 X hE _ _ _ _ _ hR hS hl h1 h2
    | le =>
      refine ⟨?_, fun X hE H locs cells slots ls hR hS hl h1 h2 => ?_⟩
      · cases hq : gCmp .le x y with
        | true => rw [hq] at h; exact (hK _ _ _ _ h).1
        | false => rw [hq] at h; exact (hK _ _ _ _ h).1
      · obtain ⟨hx, hb, hml, hown, hks, hG, hnm, hfr, hlo, hcc, hss⟩ := id X
        refine lv_icmp_le hx hb hdg ht (fun hq => ?_) (fun hq => ?_)
        · rw [show gCmp .le x y = true from decide_eq_true hq] at h
          exact (hK _ _ _ _ h).2 X hE _ _ _ _ _ hR hS hl h1 h2
        · rw [show gCmp .le x y = false from decide_eq_false (hq)] at h
          exact (hK _ _ _ _ h).2 X hE _ _ _ _ _ hR hS hl h1 h2
  all_goals cases h
theorem gw_ifnull (hK : ∀ pc lv st lh, K pc lv st lh = some o → gOk G l p e R s m args below meth c Q own name cc d nL L0 S0 rt o pc lv st lh) {off : Int} (hdg : decode cc pc = .ok (.ifnull off, 3)) (ht : (pc : Int) + off = (a : Int)) (h : gI_ifnull K pc a lv st lh = some o) : gOk G l p e R s m args below meth c Q own name cc d nL L0 S0 rt o pc lv st lh := by
  unfold gI_ifnull at h
  split at h
  · skip
    refine ⟨(hK _ _ _ _ h).1, fun X hE H locs cells slots ls hR hS hl h1 h2 => ?_⟩
    obtain ⟨hx, hb, hml, hown, hks, hG, hnm, hfr, hlo, hcc, hss⟩ := id X
    refine lv_ifnull hx hb hdg ?_
    exact (hK _ _ _ _ h).2 X hE _ _ _ _ _ hR hS hl h1 h2
  · skip
    refine ⟨(hK _ _ _ _ h).1, fun X hE H locs cells slots ls hR hS hl h1 h2 => ?_⟩
    obtain ⟨hx, hb, hml, hown, hks, hG, hnm, hfr, hlo, hcc, hss⟩ := id X
    refine lv_ifnullN hx hb hdg ht ?_
    exact (hK _ _ _ _ h).2 X hE _ _ _ _ _ hR hS hl h1 h2
  all_goals cases h
theorem gw_ifnonnull (hK : ∀ pc lv st lh, K pc lv st lh = some o → gOk G l p e R s m args below meth c Q own name cc d nL L0 S0 rt o pc lv st lh) {off : Int} (hdg : decode cc pc = .ok (.ifnonnull off, 3)) (ht : (pc : Int) + off = (a : Int)) (h : gI_ifnonnull K pc a lv st lh = some o) : gOk G l p e R s m args below meth c Q own name cc d nL L0 S0 rt o pc lv st lh := by
  unfold gI_ifnonnull at h
  split at h
  · skip
    refine ⟨(hK _ _ _ _ h).1, fun X hE H locs cells slots ls hR hS hl h1 h2 => ?_⟩
    obtain ⟨hx, hb, hml, hown, hks, hG, hnm, hfr, hlo, hcc, hss⟩ := id X
    refine lv_ifnonnull hx hb hdg ht ?_
    exact (hK _ _ _ _ h).2 X hE _ _ _ _ _ hR hS hl h1 h2
  · skip
    refine ⟨(hK _ _ _ _ h).1, fun X hE H locs cells slots ls hR hS hl h1 h2 => ?_⟩
    obtain ⟨hx, hb, hml, hown, hks, hG, hnm, hfr, hlo, hcc, hss⟩ := id X
    refine lv_ifnonnullN hx hb hdg ?_
    exact (hK _ _ _ _ h).2 X hE _ _ _ _ _ hR hS hl h1 h2
  all_goals cases h
theorem gw_goto (hK : ∀ pc lv st lh, K pc lv st lh = some o → gOk G l p e R s m args below meth c Q own name cc d nL L0 S0 rt o pc lv st lh) {off : Int} (ht : (pc : Int) + off = (a : Int)) (hdg : decode cc pc = .ok (.goto off, 3)) (h : K a lv st lh = some o) : gOk G l p e R s m args below meth c Q own name cc d nL L0 S0 rt o pc lv st lh := by
  refine ⟨(hK _ _ _ _ h).1, fun X hE H locs cells slots ls hR hS hl h1 h2 => ?_⟩
  obtain ⟨hx, hb, hml, hown, hks, hG, hnm, hfr, hlo, hcc, hss⟩ := id X
  refine lv_goto hx hb hdg ht ?_
  exact (hK _ _ _ _ h).2 X hE _ _ _ _ _ hR hS hl h1 h2
theorem gw_table (hK : ∀ pc lv st lh, K pc lv st lh = some o → gOk G l p e R s m args below meth c Q own name cc d nL L0 S0 rt o pc lv st lh) {dflt lo hi : Int} {offs : Array Int} {len : Nat} (hdg : decode cc pc = .ok (.tableswitch dflt lo hi offs, len)) (h : gI_table K pc lv st lh dflt lo hi offs = some o) : gOk G l p e R s m args below meth c Q own name cc d nL L0 S0 rt o pc lv st lh := by
  unfold gI_table at h
  split at h
  · rename_i x r
    cases hq : (decide (x.toInt < lo) || decide (hi < x.toInt)) with
    | true =>
      rw [hq] at h
      rw [Bool.or_eq_true, decide_eq_true_eq, decide_eq_true_eq] at hq
      dsimp only [cond_true] at h
      by_cases h0 : 0 ≤ (pc : Int) + dflt
      · rw [decide_eq_true h0] at h
        refine ⟨(hK _ _ _ _ h).1, fun X hE H locs cells slots ls hR hS hl h1 h2 => ?_⟩
        obtain ⟨hx, hb, hml, hown, hks, hG, hnm, hfr, hlo, hcc, hss⟩ := id X
        refine lv_tableOut hx hb hdg hq (Int.toNat_of_nonneg h0).symm ?_
        exact (hK _ _ _ _ h).2 X hE _ _ _ _ _ hR hS hl h1 h2
      · rw [decide_eq_false h0] at h
        cases h
    | false =>
      rw [hq] at h
      rw [Bool.or_eq_false_iff, decide_eq_false_iff_not, decide_eq_false_iff_not] at hq
      dsimp only [cond_false] at h
      split at h
      · rename_i off ho
        by_cases h0 : 0 ≤ (pc : Int) + off
        · rw [decide_eq_true h0] at h
          refine ⟨(hK _ _ _ _ h).1, fun X hE H locs cells slots ls hR hS hl h1 h2 => ?_⟩
          obtain ⟨hx, hb, hml, hown, hks, hG, hnm, hfr, hlo, hcc, hss⟩ := id X
          refine lv_tableIn hx hb hdg hq.1 hq.2 ho (Int.toNat_of_nonneg h0).symm ?_
          exact (hK _ _ _ _ h).2 X hE _ _ _ _ _ hR hS hl h1 h2
        · rw [decide_eq_false h0] at h
          cases h
      · cases h
  all_goals cases h
theorem gw_lookup (hK : ∀ pc lv st lh, K pc lv st lh = some o → gOk G l p e R s m args below meth c Q own name cc d nL L0 S0 rt o pc lv st lh) {dflt : Int} {ps : Array (Int × Int)} {len : Nat} (hdg : decode cc pc = .ok (.lookupswitch dflt ps, len)) (hp : (ps.toList.zip (ps.toList.drop 1)).all (fun (a, next) => decide (a.1 < next.1)) = true) (h : gI_lookup K pc lv st lh dflt ps = some o) : gOk G l p e R s m args below meth c Q own name cc d nL L0 S0 rt o pc lv st lh := by
  unfold gI_lookup at h
  split at h
  · rename_i x r
    by_cases h0 : 0 ≤ (pc : Int) + Op.lookupswitch.offset ps.toList dflt x.toInt
    · rw [decide_eq_true h0] at h
      refine ⟨(hK _ _ _ _ h).1, fun X hE H locs cells slots ls hR hS hl h1 h2 => ?_⟩
      obtain ⟨hx, hb, hml, hown, hks, hG, hnm, hfr, hlo, hcc, hss⟩ := id X
      refine lv_lookup hx hb hdg hp rfl (Int.toNat_of_nonneg h0).symm ?_
      exact (hK _ _ _ _ h).2 X hE _ _ _ _ _ hR hS hl h1 h2
    · rw [decide_eq_false h0] at h
      cases h
  all_goals cases h
theorem gw_iret (hK : ∀ pc lv st lh, K pc lv st lh = some o → gOk G l p e R s m args below meth c Q own name cc d nL L0 S0 rt o pc lv st lh) (hdg : decode cc pc = .ok (.ireturn, 1)) (h : gI_iret rt pc st lh = some o) : gOk G l p e R s m args below meth c Q own name cc d nL L0 S0 rt o pc lv st lh := by
  unfold gI_iret at h
  split at h
  · rename_i x
    split at h
    · rename_i ty
      by_cases hn : narrow ty (.int x) = .int x
      · rw [decide_eq_true hn] at h
        cases h
        exact ⟨⟨Or.inl ⟨x, ty, rfl, rfl, hn, hdg⟩, Nat.le_refl _, Nat.le_refl _⟩, fun _ hE H locs cells slots ls hR hS hl h1 h2 => hE H locs cells slots ls hR hS h1 h2⟩
      · rw [decide_eq_false hn] at h
        cases h
    · cases h
  all_goals cases h
theorem gw_lret (hK : ∀ pc lv st lh, K pc lv st lh = some o → gOk G l p e R s m args below meth c Q own name cc d nL L0 S0 rt o pc lv st lh) (hdg : decode cc pc = .ok (.lreturn, 1)) (h : gI_lret rt pc st lh = some o) : gOk G l p e R s m args below meth c Q own name cc d nL L0 S0 rt o pc lv st lh := by
  unfold gI_lret at h
  split at h
  · rename_i x
    split at h
    · cases h
      exact ⟨⟨Or.inr (Or.inl ⟨x, rfl, rfl, hdg⟩), Nat.le_refl _, Nat.le_refl _⟩, fun _ hE H locs cells slots ls hR hS hl h1 h2 => hE H locs cells slots ls hR hS h1 h2⟩
    · cases h
  all_goals cases h
theorem gw_aret (hK : ∀ pc lv st lh, K pc lv st lh = some o → gOk G l p e R s m args below meth c Q own name cc d nL L0 S0 rt o pc lv st lh) (hdg : decode cc pc = .ok (.areturn, 1)) (h : gI_aret rt pc st lh = some o) : gOk G l p e R s m args below meth c Q own name cc d nL L0 S0 rt o pc lv st lh := by
  unfold gI_aret at h
  split at h
  · split at h
    · cases h
      exact ⟨⟨Or.inr (Or.inr (Or.inl ⟨_, _, rfl, Or.inl ⟨_, rfl⟩, rfl, Or.inr ⟨_, rfl⟩, hdg⟩)), Nat.le_refl _, Nat.le_refl _⟩, fun _ hE H locs cells slots ls hR hS hl h1 h2 => hE H locs cells slots ls hR hS h1 h2⟩
    · cases h
      exact ⟨⟨Or.inr (Or.inr (Or.inl ⟨_, _, rfl, Or.inl ⟨_, rfl⟩, rfl, Or.inl rfl, hdg⟩)), Nat.le_refl _, Nat.le_refl _⟩, fun _ hE H locs cells slots ls hR hS hl h1 h2 => hE H locs cells slots ls hR hS h1 h2⟩
    · cases h
  · split at h
    · cases h
      exact ⟨⟨Or.inr (Or.inr (Or.inl ⟨_, _, rfl, Or.inr ⟨_, rfl⟩, rfl, Or.inr ⟨_, rfl⟩, hdg⟩)), Nat.le_refl _, Nat.le_refl _⟩, fun _ hE H locs cells slots ls hR hS hl h1 h2 => hE H locs cells slots ls hR hS h1 h2⟩
    · cases h
      exact ⟨⟨Or.inr (Or.inr (Or.inl ⟨_, _, rfl, Or.inr ⟨_, rfl⟩, rfl, Or.inl rfl, hdg⟩)), Nat.le_refl _, Nat.le_refl _⟩, fun _ hE H locs cells slots ls hR hS hl h1 h2 => hE H locs cells slots ls hR hS h1 h2⟩
    · cases h
  · cases h
theorem gw_vret (hK : ∀ pc lv st lh, K pc lv st lh = some o → gOk G l p e R s m args below meth c Q own name cc d nL L0 S0 rt o pc lv st lh) (hdg : decode cc pc = .ok (.return_, 1)) (h : gI_vret rt pc st lh = some o) : gOk G l p e R s m args below meth c Q own name cc d nL L0 S0 rt o pc lv st lh := by
  unfold gI_vret at h
  split at h
  · split at h
    · cases h
      exact ⟨⟨Or.inr (Or.inr (Or.inr ⟨rfl, rfl, hdg⟩)), Nat.le_refl _, Nat.le_refl _⟩, fun _ hE H locs cells slots ls hR hS hl h1 h2 => hE H locs cells slots ls hR hS h1 h2⟩
    · cases h
  all_goals cases h
end GROWS
