/-! CALLS, AND THE MAIN THEOREM (printed by wip/gen/gen10.py). -/
def gPc (G : gG) (as : List Value) (lh : gH) : Array Value → State → Prop := fun v U => v = (as.map (grv G)).toArray ∧ gR G U lh U.heap ∧ gKz G U U.heap
def gQc (G : gG) (o1 : gO) : Array Value → State → Outcome → State → Prop := fun _ st oc t => oc = .returned ((o1.2.2.map (grv G)).head?) ∧ gR G t o1.1 t.heap ∧ va_F (fun q => G.2.1 ≤ q) st t
def gRm (d : Nat) (lh : gH) (o1 : gO) : Room := { frames := d, cells := o1.1.length - lh.length, slots := gsz o1.1 - gsz lh, locals := 100 * d }
def gWs (a : Nat) : List Cond := [.code (gM a).1 (gBy a) (gMax a) (gRt a)]
/-- what is known of a call of method a that runs to o1 -/
def gMt1 (G : gG) (l : Launch) (d a : Nat) (as : List Value) (lh : gH) (o1 : gO) : Prop :=
  1 ≤ d ∧ lh.length ≤ o1.1.length ∧ gsz lh ≤ gsz o1.1 ∧ o1.2.2.length ≤ 1 ∧ Met l (gM a).1 (gWs a) (gRm (d - 1) lh o1) (gPc G as lh) (gQc G o1) (o1.1.length - lh.length) (gsz o1.1 - gsz lh) (fun q => G.2.1 ≤ q)
theorem gPc_blind (G : gG) (as : List Value) (lh : gH) : FrameBlind (gPc G as lh) := by
  intro a U g mk ⟨h1, h2, h3⟩
  exact ⟨h1, gR.moved (u := U) (U := U.calling g mk a) (Vm.Alike.refl U.vm) h2, gKz.warm (s := U) (U := U.calling g mk a) (State.WarmedH.refl U) h3⟩
theorem g_cats (G : gG) (r : List Value) : ((r.map (grv G)).map fun v => v.category) = (r.map fun v => v.category) := by
  rw [List.map_map]
  apply List.map_congr_left
  intro v _
  exact grv_cat G v
theorem g_stack {b : Nat} {st r : List Value} {f : Value → Value} (h : st.drop b = r) : st.map f = (((st.take b).reverse).map f).reverse ++ r.map f := by
  rw [List.map_reverse, List.reverse_reverse, ← List.map_append, ← h, List.take_append_drop]
theorem gCkB {a tc : Nat} (h : (gCk tc (gM a).1 (gMax a) (gRt a) && (Nat.beq tc (gM a).2.2.2.2 && Nat.blt 0 a)) = true) : Cond.code (gM a).1 (gBy a) (gMax a) (gRt a) ∈ gTB := by
  simp only [Bool.and_eq_true] at h
  obtain ⟨h1, h2, h3⟩ := h
  have h4 : tc = (gM a).2.2.2.2 := Nat.eq_of_beq_eq_true h2
  have h5 : gBy a = gBt tc := by
    unfold gBy
    rw [show Nat.beq a 0 = false from by
      cases hq : Nat.beq a 0 with
      | false => rfl
      | true =>
        have h6 : 0 < a := Nat.blt_eq.mp h3
        have h7 : a = 0 := Nat.eq_of_beq_eq_true hq
        omega]
    rw [h4]
    rfl
  rw [h5]
  exact gCk.mem h1
theorem gckM_ok {a n ti tc : Nat} (h : gckM a n ti tc = true) : a < 333 ∧ gMax a ≤ 80 ∧ Cond.initialized (gM a).1.cls ∈ gTB ∧ Cond.code (gM a).1 (gBy a) (gMax a) (gRt a) ∈ gTB ∧ (gM a).1.cls ≠ "java/lang/invoke/MethodHandle" ∧ (gM a).1.cls ≠ "java/lang/invoke/VarHandle" ∧ plainFor (gM a).1 = true ∧ (parseMethodDescriptor (gM a).1.desc).map (fun d => d.parameters.length) = some n := by
  unfold gckM at h
  simp only [Bool.and_eq_true] at h
  obtain ⟨h1, h2, h3, h4, h5, h6, h7, h8⟩ := h
  exact ⟨Nat.blt_eq.mp h1, Nat.le_of_ble_eq_true h2, gHas.mem h3, gCkB (by simp only [Bool.and_eq_true]; exact h4), of_decide_eq_true h5, of_decide_eq_true h6, h7, of_decide_eq_true h8⟩
theorem gWs_ok {s : State} (hT : gTb s) {a : Nat} (hc : Cond.code (gM a).1 (gBy a) (gMax a) (gRt a) ∈ gTB) : ∀ w ∈ gWs a, ∀ (a' : Array Value) (U : State), s.WarmedH U.vm → w.before a' U = true := by
  intro w hw a' U hW
  rw [List.mem_singleton.mp hw]
  exact (hT.warm hW).use hc a'
theorem g_fit {R : Room} {d mx : Nat} (hd : 1 ≤ d) (hfr : d ≤ R.frames) (hlo : 100 * d ≤ R.locals) (hm : mx ≤ 80) : d - 1 + 1 ≤ R.frames ∧ 8 + (mx + 11) + 100 * (d - 1) ≤ R.locals := by omega
section GCALL
variable {G : gG} {l : Launch} {p : Program} {e : Env} {R : Room} {s : State} {m : MethodId} {args : Array Value} {below : List Frame} {meth : Method} {c : Code} {Q : State → Prop} {own name : String} {cc : ByteArray} {nL L0 S0 pc a b d : Nat} {rt : Option FieldType} {o : gO} {v : Int} {ts : List Nat} {lv : gL} {st : List Value} {lh : gH} {K : Nat → gL → List Value → gH → Option gO} {C : Nat → List Value → gH → Option gO}
theorem gw_back (hK : ∀ pc lv st lh, K pc lv st lh = some o → gOk G l p e R s m args below meth c Q own name cc d nL L0 S0 rt o pc lv st lh) {as : List Value} {o1 : gO} {r st0 : List Value} {As : Array Value} (hM : gMt1 G l d a as lh o1) (h : K (pc + 3) lv (o1.2.2 ++ r) o1.1 = some o)
    (hrun : gCx G p R s m meth c own name cc nL L0 S0 d o → ∀ (H : Heap) (locs : List Loc) (cells slots : Nat) (ls : Array Slot), gR G s lh H → va_S (fun q => G.2.1 ≤ q) s.heap H locs → lv_has ls nL (gLv G lv) → cells + L0 = lh.length → slots + S0 = gsz lh → cells + (o1.1.length - lh.length) ≤ R.cells ∧ slots + (gsz o1.1 - gsz lh) ≤ R.slots → va_Run p l e R s m args below meth c H locs cells slots (o1.1.length - lh.length) (gsz o1.1 - gsz lh) (F0 m pc ls st0) (r.map (grv G)) (gQc G o1 As) (fun q => G.2.1 ≤ q)) (hst : st0 = st.map (grv G)) : gOk G l p e R s m args below meth c Q own name cc d nL L0 S0 rt o pc lv st lh := by
  obtain ⟨hd, m1, m2, m3, -⟩ := hM
  have hm := (hK _ _ _ _ h).1
  refine ⟨⟨hm.1, Nat.le_trans m1 hm.2.1, Nat.le_trans m2 hm.2.2⟩, fun X hE H locs cells slots ls hR hS hl h1 h2 => ?_⟩
  obtain ⟨hx, hb, hml, hown, hks, hG, hnm, hfr, hlo, hcc, hss⟩ := id X
  subst hst
  intro T hT XT
  obtain ⟨w, st₀, t, T', L, h0, X', hL, e1, e2, ⟨hv, hr, hz, hk⟩, stp⟩ := hrun X H locs cells slots ls hR hS hl h1 h2 (by omega) T hT XT
  have hal : s.vm.Alike T'.vm := X'.warmed.alike
  have hR' : gR G s o1.1 T'.heap := by
    rw [e1]
    rw [e2] at hal
    exact hr.moved hal.symm
  rw [h0] at hz hk
  have hS' : va_S (fun q => G.2.1 ≤ q) s.heap T'.heap (locs ++ L) := by
    refine ⟨Nat.le_trans hS.1 (by rw [e1]; exact hz), fun q q1 q2 => ?_, fun q hq => ?_⟩
    · rw [e1, hk q (Nat.lt_of_lt_of_le q1 hS.1) q2]
      exact hS.2.1 q q1 q2
    · rcases List.mem_append.mp hq with z | z
      · exact hS.2.2 q z
      · exact hL q z
  have hw : w.toList = o1.2.2.map (grv G) := by
    have hv' : w = (o1.2.2.map (grv G)).head? := Outcome.returned.inj hv
    rw [hv']
    rcases hq : o1.2.2 with _ | ⟨x, _ | ⟨y, z⟩⟩
    · rfl
    · rfl
    · rw [hq] at m3
      simp at m3
  obtain ⟨t2, a1, b1⟩ := (hK _ _ _ _ h).2 X hE T'.heap (locs ++ L) (cells + (o1.1.length - lh.length)) (slots + (gsz o1.1 - gsz lh)) ls hR' hS' hl (by omega) (by omega) T' rfl X'
  rw [hw, ← List.map_append] at stp
  exact ⟨t2, stp t2 a1, b1⟩
theorem gw_virt (hK : ∀ pc lv st lh, K pc lv st lh = some o → gOk G l p e R s m args below meth c Q own name cc d nL L0 S0 rt o pc lv st lh) {n : Nat} (hdg : decode cc pc = .ok (.invokevirtual n, 3)) (hC : ∀ (a2 : Nat) (as : List Value) (lh2 : gH) (o1 : gO), C a2 as lh2 = some o1 → a2 < 333 → plainFor (gM a2).1 = true → gMt1 G l d a2 as lh2 o1) (hl0 : gckL own n a (gts ts 0) = true) (hw1 : Cond.instanceMethod (gM a).1 ∈ gTB) (hw2 : Cond.selects (gM a).1.cls (gM a).1 (gM a).1 ∈ gTB) (hmm : gckM a b (gts ts 3) (gts ts 4) = true) (hv14 : v.toNat < 14) (hvc : gCn v.toNat = (gM a).1.cls) (h : gI_virt K C pc a b v lv st lh = some o) : gOk G l p e R s m args below meth c Q own name cc d nL L0 S0 rt o pc lv st lh := by
  obtain ⟨ha, hmx, hi0, hc0, hn1, hn2, hpl, hps⟩ := gckM_ok hmm
  have hlen : ∀ sig, parseMethodDescriptor (gM a).1.desc = some sig → b = sig.parameters.length := fun sig z => by
    rw [z] at hps
    exact (Option.some.inj hps).symm
  unfold gckL at hl0
  rw [Bool.or_eq_true] at hl0
  unfold gI_virt at h
  split at h
  · rename_i i r hst
    split at h
    · rename_i ob hi
      obtain ⟨k, f⟩ := ob
      dsimp only at h
      cases hq : (Int.toNat v == k && gCat r) with
      | false => rw [hq] at h; cases h
      | true =>
        rw [hq] at h
        dsimp only [cond_true] at h
        rw [Bool.and_eq_true] at hq
        have hk : v.toNat = k := by simpa using hq.1
        subst hk
        have hcat := Nat.le_of_ble_eq_true hq.2
        cases ho : C a (.ref i :: (st.take b).reverse) lh with
        | none => rw [ho] at h; cases h
        | some o1 =>
          rw [ho] at h
          have hM := hC _ _ _ _ ho ha hpl
          have hbl : b ≤ st.length := by
            rcases Nat.lt_or_ge st.length b with z | z
            · rw [List.drop_eq_nil_of_le (Nat.le_of_lt z)] at hst
              cases hst
            · exact z
          refine gw_back hK (As := (Value.ref (gad G i) :: ((st.take b).reverse).map (grv G)).toArray) (r := r) (st0 := st.map (grv G)) hM h (fun X H locs cells slots ls hR hS hl h1 h2 hroom => ?_) rfl
          obtain ⟨hx, hb, hml, hown, hks, hG, hnm, hfr, hlo, hcc, hss⟩ := id X
          have hfit := g_fit (mx := gMax a) hM.1 hfr hlo hmx
          have hS0 : CallFix p m c cc nL s args [] own := ⟨hx, hb, hml, hown, fun w hw => by cases hw⟩
          obtain ⟨-, cell, c1, c2, c3, c4, c5, c6⟩ := hR.2.2.2 i _ hi
          have hrecv : ∃ cellB : Cell, H[gad G i]? = some cellB ∧ cellB.vm.isStatics = false ∧ s.vm.findClass (gM a).1.cls = some cellB.cls := ⟨cell, c1, c4, by rw [← hvc, c2]; exact hks.2.1.1 _ hv14⟩
          have hpre : PreV s H (gM a).1.cls (gad G i) (gPc G (.ref i :: (st.take b).reverse) lh) (((st.take b).reverse).map (grv G)) := ⟨gPc_blind G _ _, hrecv, fun U hU hW => ⟨rfl, by rw [hU]; exact hR.moved hW.alike, by rw [hU]; exact (hks.kept hS.2.1).warm hW⟩⟩
          have hstk : st.map (grv G) = (((st.take b).reverse).map (grv G)).reverse ++ Value.ref (gad G i) :: r.map (grv G) := g_stack hst
          rw [hstk]
          rcases hl0 with hl0 | hl0
          · exact va_runV (As := ((st.take b).reverse).map (grv G)) (rest := r.map (grv G)) hS0 hM.2.2.2.2 (C := (gM a).1.cls) (n := b) ⟨⟨rfl, rfl, hfit.1, hfit.2, gWs_ok hks.1 hc0, List.mem_singleton.mpr rfl, hks.1.use hc0 args, hks.1.use hi0 args, ⟨hn1, hn2⟩, hlen, hks.1.use (gHas.mem hl0) args⟩, hks.1.use hw1 args, hks.1.use hw2 args⟩ hpre rfl (by simp [hbl]) hl.1 rfl (lv_room (by rw [g_cats]; exact hcat)) hdg hroom
          · exact va_runVN (As := ((st.take b).reverse).map (grv G)) (rest := r.map (grv G)) hS0 hM.2.2.2.2 (C := (gM a).1.cls) (n := b) ⟨⟨⟨rfl, rfl, hfit.1, hfit.2, gWs_ok hks.1 hc0, List.mem_singleton.mpr rfl⟩, hks.1.use hc0 args, hks.1.use hi0 args, ⟨hn1, hn2⟩, hlen, hks.1.use (gHas.mem hl0) args⟩, hks.1.use hw1 args, hks.1.use hw2 args⟩ hpre rfl (by simp [hbl]) hl.1 rfl (lv_room (by rw [g_cats]; exact hcat)) hdg hroom
    all_goals cases h
  all_goals cases h
theorem gw_stat (hK : ∀ pc lv st lh, K pc lv st lh = some o → gOk G l p e R s m args below meth c Q own name cc d nL L0 S0 rt o pc lv st lh) {n : Nat} (hdg : decode cc pc = .ok (.invokestatic n, 3)) (hC : ∀ (a2 : Nat) (as : List Value) (lh2 : gH) (o1 : gO), C a2 as lh2 = some o1 → a2 < 333 → plainFor (gM a2).1 = true → gMt1 G l d a2 as lh2 o1) (hl0 : gckL own n a (gts ts 0) = true) (hw1 : Cond.static (gM a).1 ∈ gTB) (hmm : gckM a b (gts ts 2) (gts ts 3) = true) (h : gI_stat K C pc a b lv st lh = some o) : gOk G l p e R s m args below meth c Q own name cc d nL L0 S0 rt o pc lv st lh := by
  obtain ⟨ha, hmx, hi0, hc0, hn1, hn2, hpl, hps⟩ := gckM_ok hmm
  have hlen : ∀ sig, parseMethodDescriptor (gM a).1.desc = some sig → b = sig.parameters.length := fun sig z => by
    rw [z] at hps
    exact (Option.some.inj hps).symm
  unfold gckL at hl0
  rw [Bool.or_eq_true] at hl0
  unfold gI_stat at h
  cases hq : (Nat.ble b st.length && gCat (st.drop b)) with
  | false => rw [hq] at h; cases h
  | true =>
    rw [hq] at h
    dsimp only [cond_true] at h
    rw [Bool.and_eq_true] at hq
    have hbl := Nat.le_of_ble_eq_true hq.1
    have hcat := Nat.le_of_ble_eq_true hq.2
    cases ho : C a (st.take b).reverse lh with
    | none => rw [ho] at h; cases h
    | some o1 =>
      rw [ho] at h
      have hM := hC _ _ _ _ ho ha hpl
      refine gw_back hK (As := (((st.take b).reverse).map (grv G)).toArray) (r := st.drop b) (st0 := st.map (grv G)) hM h (fun X H locs cells slots ls hR hS hl h1 h2 hroom => ?_) rfl
      obtain ⟨hx, hb, hml, hown, hks, hG, hnm, hfr, hlo, hcc, hss⟩ := id X
      have hfit := g_fit (mx := gMax a) hM.1 hfr hlo hmx
      have hS0 : CallFix p m c cc nL s args [] own := ⟨hx, hb, hml, hown, fun w hw => by cases hw⟩
      have hpre : PreS s H (gPc G (st.take b).reverse lh) (((st.take b).reverse).map (grv G)) := ⟨gPc_blind G _ _, fun U hU hW => ⟨rfl, by rw [hU]; exact hR.moved hW.alike, by rw [hU]; exact (hks.kept hS.2.1).warm hW⟩⟩
      have hstk : st.map (grv G) = (((st.take b).reverse).map (grv G)).reverse ++ (st.drop b).map (grv G) := g_stack rfl
      rw [hstk]
      rcases hl0 with hl0 | hl0
      · exact va_runS (As := ((st.take b).reverse).map (grv G)) (rest := (st.drop b).map (grv G)) hS0 hM.2.2.2.2 (n := b) ⟨⟨rfl, rfl, hfit.1, hfit.2, gWs_ok hks.1 hc0, List.mem_singleton.mpr rfl, hks.1.use hc0 args, hks.1.use hi0 args, ⟨hn1, hn2⟩, hlen, hks.1.use (gHas.mem hl0) args⟩, hks.1.use hw1 args⟩ hpre rfl (by simp [hbl]) hl.1 rfl (lv_room (by rw [g_cats]; exact hcat)) hdg hroom
      · exact va_runSN (As := ((st.take b).reverse).map (grv G)) (rest := (st.drop b).map (grv G)) hS0 hM.2.2.2.2 (n := b) ⟨⟨⟨rfl, rfl, hfit.1, hfit.2, gWs_ok hks.1 hc0, List.mem_singleton.mpr rfl⟩, hks.1.use hc0 args, hks.1.use hi0 args, ⟨hn1, hn2⟩, hlen, hks.1.use (gHas.mem hl0) args⟩, hks.1.use hw1 args, trivial⟩ hpre rfl (by simp [hbl]) hl.1 rfl (lv_room (by rw [g_cats]; exact hcat)) hdg hroom
theorem gw_spec (hK : ∀ pc lv st lh, K pc lv st lh = some o → gOk G l p e R s m args below meth c Q own name cc d nL L0 S0 rt o pc lv st lh) {n : Nat} (ha9 : Nat.beq a 9999 = false) (hdg : decode cc pc = .ok (.invokespecial n, 3)) (hC : ∀ (a2 : Nat) (as : List Value) (lh2 : gH) (o1 : gO), C a2 as lh2 = some o1 → a2 < 333 → plainFor (gM a2).1 = true → gMt1 G l d a2 as lh2 o1) (hl0 : gckL own n a (gts ts 0) = true) (hw1 : Cond.instanceMethod (gM a).1 ∈ gTB) (hin : (gM a).1.name = "<init>") (hrn : gRt a = none) (hmm : gckM a b (gts ts 2) (gts ts 3) = true) (h : gI_spec K C (Nat.ble 1 d) pc a b lv st lh = some o) : gOk G l p e R s m args below meth c Q own name cc d nL L0 S0 rt o pc lv st lh := by
  obtain ⟨ha, hmx, hi0, hc0, hn1, hn2, hpl, hps⟩ := gckM_ok hmm
  have hlen : ∀ sig, parseMethodDescriptor (gM a).1.desc = some sig → b = sig.parameters.length := fun sig z => by
    rw [z] at hps
    exact (Option.some.inj hps).symm
  unfold gckL at hl0
  rw [Bool.or_eq_true] at hl0
  unfold gI_spec at h
  rw [ha9] at h
  dsimp only [cond_false] at h
  split at h
  · rename_i i r hst
    cases hq : gCat r with
    | false => rw [hq] at h; cases h
    | true =>
      rw [hq] at h
      dsimp only [cond_true] at h
      have hcat := Nat.le_of_ble_eq_true hq
      cases ho : C a (.ref i :: (st.take b).reverse) lh with
      | none => rw [ho] at h; cases h
      | some o1 =>
        rw [ho] at h
        have hM := hC _ _ _ _ ho ha hpl
        have hbl : b ≤ st.length := by
          rcases Nat.lt_or_ge st.length b with z | z
          · rw [List.drop_eq_nil_of_le (Nat.le_of_lt z)] at hst
            cases hst
          · exact z
        have hcm : Cond.code (gM a).1 (gBy a) (gMax a) none ∈ gWs a := by rw [← hrn]; exact List.mem_singleton.mpr rfl
        refine gw_back hK (As := (Value.ref (gad G i) :: ((st.take b).reverse).map (grv G)).toArray) (r := r) (st0 := st.map (grv G)) hM h (fun X H locs cells slots ls hR hS hl h1 h2 hroom => ?_) rfl
        obtain ⟨hx, hb, hml, hown, hks, hG, hnm, hfr, hlo, hcc, hss⟩ := id X
        have hfit := g_fit (mx := gMax a) hM.1 hfr hlo hmx
        have hS0 : CallFix p m c cc nL s args [] own := ⟨hx, hb, hml, hown, fun w hw => by cases hw⟩
        have hpre : PreS s H (gPc G (.ref i :: (st.take b).reverse) lh) (Value.ref (gad G i) :: ((st.take b).reverse).map (grv G)) := ⟨gPc_blind G _ _, fun U hU hW => ⟨rfl, by rw [hU]; exact hR.moved hW.alike, by rw [hU]; exact (hks.kept hS.2.1).warm hW⟩⟩
        have hstk : st.map (grv G) = (((st.take b).reverse).map (grv G)).reverse ++ Value.ref (gad G i) :: r.map (grv G) := g_stack hst
        rw [hstk]
        rcases hl0 with hl0 | hl0
        · exact va_runI (As := ((st.take b).reverse).map (grv G)) (rest := r.map (grv G)) hS0 hM.2.2.2.2 (n := b) ⟨⟨rfl, rfl, hfit.1, hfit.2, gWs_ok hks.1 hc0, hcm, hrn ▸ hks.1.use hc0 args, hks.1.use hi0 args, ⟨hn1, hn2⟩, hlen, hks.1.use (gHas.mem hl0) args⟩, hin, hks.1.use hw1 args⟩ hpre rfl (by simp [hbl]) hl.1 rfl (lv_room (by rw [g_cats]; exact hcat)) hdg hroom
        · exact va_runIN (As := ((st.take b).reverse).map (grv G)) (rest := r.map (grv G)) hS0 hM.2.2.2.2 (n := b) ⟨⟨⟨rfl, rfl, hfit.1, hfit.2, gWs_ok hks.1 hc0, hcm⟩, hrn ▸ hks.1.use hc0 args, hks.1.use hi0 args, ⟨hn1, hn2⟩, hlen, hks.1.use (gHas.mem hl0) args⟩, hin, hks.1.use hw1 args⟩ hpre rfl (by simp [hbl]) hl.1 rfl (lv_room (by rw [g_cats]; exact hcat)) hdg hroom
  all_goals cases h
theorem gw_obj (hK : ∀ pc lv st lh, K pc lv st lh = some o → gOk G l p e R s m args below meth c Q own name cc d nL L0 S0 rt o pc lv st lh) {n : Nat} (ha9 : Nat.beq a 9999 = true) (hdg : decode cc pc = .ok (.invokespecial n, 3)) (hw0 : Cond.methodLink own n objectInit ∈ gTB) (hw1 : Cond.instanceMethod objectInit ∈ gTB) (hw2 : Cond.code objectInit ⟨#[0xb1]⟩ 1 none ∈ gTB) (h : gI_spec K C (Nat.ble 1 d) pc a b lv st lh = some o) : gOk G l p e R s m args below meth c Q own name cc d nL L0 S0 rt o pc lv st lh := by
  unfold gI_spec at h
  rw [ha9] at h
  dsimp only [cond_true] at h
  split at h
  · rename_i i r
    cases hq : (Nat.ble 1 d && gCat r) with
    | false => rw [hq] at h; cases h
    | true =>
      rw [hq] at h
      rw [Bool.and_eq_true] at hq
      have hd := Nat.le_of_ble_eq_true hq.1
      have hcat := Nat.le_of_ble_eq_true hq.2
      refine ⟨(hK _ _ _ _ h).1, fun X hE H locs cells slots ls hR hS hl h1 h2 => ?_⟩
      obtain ⟨hx, hb, hml, hown, hks, hG, hnm, hfr, hlo, hcc, hss⟩ := id X
      refine W.objInit hx hb hown (hks.1.use hw0 args) (hks.1.use hw1 args) (hks.1.use hw2 args) rfl (hl.1.trans hml.symm) rfl hdg (by omega) ?_ ?_
      · have := lv_room (m := m) (pc := pc) (ls := ls) (rest := (r.map (grv G))) (st := r.map (grv G)) (by rw [g_cats]; exact hcat)
        show 2 * 0 + ((r.map (grv G)).map fun v => v.category).sum + 12 ≤ R.locals
        have h8 : ((r.map (grv G)).map fun v => v.category).sum ≤ 8 := by rw [g_cats]; exact hcat
        omega
      · exact (hK _ _ _ _ h).2 X hE _ _ _ _ _ hR hS hl h1 h2
  all_goals cases h
end GCALL
