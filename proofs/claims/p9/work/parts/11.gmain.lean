/-! THE MAIN THEOREM: a pure run is a run of the machine (printed by wip/gen/gen11.py). -/
theorem gdg {cc : ByteArray} {pc n0 : Nat} {ins : Instr} (hd : decode cc pc = .ok (ins, n0)) (hn : (Nat.beq n0 (gLen ins) || gAny ins) = true) (ha : gAny ins = false) : decode cc pc = .ok (ins, gLen ins) := by
  rw [ha, Bool.or_false] at hn
  rw [hd, Nat.eq_of_beq_eq_true hn]
def gIHs (G : gG) (l : Launch) (n : Nat) : Prop := ∀ (j d pc : Nat) (lv : gL) (st : List Value) (lh : gH) (o : gO), gRun n j d pc lv st lh = some o →
  ∀ (p : Program) (e : Env) (R : Room) (s : State) (m : MethodId) (args : Array Value) (below : List Frame) (meth : Method) (c : Code) (Q : State → Prop) (L0 S0 : Nat),
    gOk G l p e R s m args below meth c Q (gM j).1.cls (gM j).1.name (gBy j) d (gMax j) L0 S0 (gRt j) o pc lv st lh
theorem lv_args_map (G : gG) (as : List Value) : ∀ k : Nat, lv_args k (as.map (grv G)) = gLv G (lv_args k as) := by
  induction as with
  | nil => intro k; rfl
  | cons v t ih =>
    intro k
    show (k, grv G v) :: lv_args (if (grv G v).category = 2 then k + 2 else k + 1) (t.map (grv G)) = (k, grv G v) :: gLv G (lv_args (if v.category = 2 then k + 2 else k + 1) t)
    rw [grv_cat, ih]
theorem lg_sl_map (G : gG) (as : List Value) : (lg_sl (as.map (grv G))).length = (lg_sl as).length := by
  unfold lg_sl
  induction as with
  | nil => rfl
  | cons v t ih =>
    simp only [List.map_cons, List.flatMap_cons, List.length_append, grv_cat]
    rw [ih]
    by_cases h : v.category = 2
    · simp [h]
    · simp [h]
theorem gEnd_len {cc : ByteArray} {rt : Option FieldType} {o : gO} (h : gEnd cc rt o) : o.2.2.length ≤ 1 := by
  rcases h with ⟨x, ty, -, h, -⟩ | ⟨x, -, h, -⟩ | ⟨w, ty, -, -, h, -⟩ | ⟨-, h, -⟩ <;> rw [h] <;> simp
theorem gMet {G : gG} (hG : G.1 = 7) {l : Launch} {n : Nat} (p0 : Program) (e0 : Env) (R0 : Room) (s0 : State) (m0 : MethodId) (args0 : Array Value) (below0 : List Frame) (meth0 : Method) (c0 : Code) (Q0 : State → Prop) (IH : gIHs G l n) {d a : Nat} {as : List Value} {lh : gH} {o1 : gO} (hpl : plainFor (gM a).1 = true) (h : gCall (gRun n) d a as lh = some o1) : gMt1 G l d a as lh o1 := by
  unfold gCall at h
  cases d with
  | zero => cases h
  | succ d =>
    dsimp only at h
    cases hq : Nat.ble (lg_sl as).length (gMax a) with
    | false => rw [hq] at h; cases h
    | true =>
      rw [hq] at h
      dsimp only [cond_true] at h
      have hlen : (lg_sl (as.map (grv G))).length ≤ gMax a := by rw [lg_sl_map]; exact Nat.le_of_ble_eq_true hq
      have ih := IH a d 0 (lv_args 0 as) [] lh o1 h
      suffices key : (gEnd (gBy a) (gRt a) o1 ∧ lh.length ≤ o1.1.length ∧ gsz lh ≤ gsz o1.1) → Met l (gM a).1 (gWs a) (gRm d lh o1) (gPc G as lh) (gQc G o1) (o1.1.length - lh.length) (gsz o1.1 - gsz lh) (fun q => G.2.1 ≤ q) by
        have hm := (ih p0 e0 R0 s0 m0 args0 below0 meth0 c0 Q0 0 0).1
        exact ⟨Nat.succ_le_succ (Nat.zero_le d), hm.2.1, hm.2.2, gEnd_len hm.1, key hm⟩
      intro hm
      refine va_MetF (cc := (gBy a)) (maxL := gMax a) (ret := gRt a) hpl rfl ?_
      intro p e s m args below meth c s₁ B hml hv
      obtain ⟨rfl, hR, hks⟩ := hv
      have hx := B.exec
      have hb := B.bytes
      have hr := B.returns
      have hlocks : meth.locks = false := B.notSynchronized
      have hown : s.vm.findClass (gM a).1.cls = some m.cls := findClass_of_methodNamed B.named
      have hnm : meth.name = (gM a).1.name := (name_of_methodNamed B.named B.method).1
      have hok := ih p e (gRm d lh o1) s m (as.map (grv G)).toArray below meth c (MQ below (gQc G o1) (as.map (grv G)).toArray s (o1.1.length - lh.length) (gsz o1.1 - gsz lh) (fun q => G.2.1 ≤ q)) lh.length (gsz lh)
      have hcx : gCx G p (gRm d lh o1) s m meth c (gM a).1.cls (gM a).1.name (gBy a) (gMax a) lh.length (gsz lh) d o1 := ⟨hx, hb, hml, hown, hks, hG, fun z => hnm.trans z, Nat.le_refl _, Nat.le_refl _, by show o1.1.length ≤ o1.1.length - lh.length + lh.length; omega, by show gsz o1.1 ≤ gsz o1.1 - gsz lh + gsz lh; omega⟩
      rw [lg_entry_eq]
      have hl := lv_entry (as.map (grv G)) hlen
      rw [lv_args_map] at hl
      refine hok.2 hcx ?_ s.heap [] 0 0 _ hR va_S.rf hl (Nat.zero_add _) (Nat.zero_add _)
      intro H locs cells slots ls hR' hS' hc hs
      obtain rfl : cells = o1.1.length - lh.length := by omega
      obtain rfl : slots = gsz o1.1 - gsz lh := by omega
      have hpost : ∀ (w : Option Value), (o1.2.2.map (grv G)).head? = w → ∀ t : State, t.heap = H → s.WarmedH t.vm → gQc G o1 (as.map (grv G)).toArray s (.returned w) t := fun w hw t ht hW => ⟨by rw [hw], by rw [ht]; exact hR'.moved hW.alike, hS'.F ht⟩
      rcases hm.1 with ⟨x, ty, e1, e2, e3, e4⟩ | ⟨x, e1, e2, e4⟩ | ⟨w, ty, e1, e5, e2, e3, e4⟩ | ⟨e1, e2, e4⟩
      · rw [e2]
        exact W.zret hx hb (hr.trans e1) e3 (hpost _ (by rw [e2]; rfl)) hS'.2.2 e4
      · rw [e2]
        exact W.lret hx hb (hr.trans e1) (hpost _ (by rw [e2]; rfl)) hS'.2.2 e4
      · rw [e2]
        refine W.aret hx hb (hr.trans e1) e5 ?_ (hpost _ (by rw [e2]; rfl)) hS'.2.2 e4
        rcases e3 with rfl | ⟨i, rfl⟩
        · exact Or.inl rfl
        · exact Or.inr ⟨_, rfl⟩
      · rw [e2]
        exact W.vret hx hb (hr.trans e1) (hpost _ (by rw [e2]; rfl)) hS'.2.2 e4
set_option maxHeartbeats 4000000 in
theorem gMain {G : gG} (hG : G.1 = 7) (l : Launch) : ∀ n, gIHs G l n := by
  intro n
  induction n with
  | zero =>
    intro j d pc lv st lh o h
    rw [gRun_zero] at h
    cases h
  | succ n IH =>
  intro j d pc lv st lh o h p e R s m args below meth c Q L0 S0
  rw [gRun_succ] at h
  unfold gStep at h
  split at h
  · cases h
  rename_i en hen
  obtain ⟨hpc, hck⟩ := gAtt_chk hen
  obtain ⟨pc0, ins, a, b, v, ts⟩ := en
  dsimp only at hpc h
  subst hpc
  unfold gchk at hck
  rw [Bool.and_eq_true] at hck
  obtain ⟨hdn, hc⟩ := hck
  dsimp only at hdn hc
  split at hdn
  rotate_left
  · cases hdn
  rename_i r hd
  obtain ⟨i0, n0⟩ := r
  rw [Bool.and_eq_true] at hdn
  have hi0 : i0 = ins := of_decide_eq_true hdn.1
  subst hi0
  have hn := hdn.2
  dsimp only at hn
  have hK : ∀ pc' lv' st' lh', gRun n j d pc' lv' st' lh' = some o → gOk G l p e R s m args below meth c Q (gM j).1.cls (gM j).1.name (gBy j) d (gMax j) L0 S0 (gRt j) o pc' lv' st' lh' := fun pc' lv' st' lh' h' => IH j d pc' lv' st' lh' o h' p e R s m args below meth c Q L0 S0
  have hC : ∀ (a2 : Nat) (as : List Value) (lh2 : gH) (o1 : gO), gCall (gRun n) d a2 as lh2 = some o1 → a2 < 333 → plainFor (gM a2).1 = true → gMt1 G l d a2 as lh2 o1 := fun a2 as lh2 o1 h2 _ hpl => gMet hG p e R s m args below meth c Q IH hpl h2
  cases i0 with
  | iload_n k => exact gw_iload_n hK (gdg hd hn rfl) h
  | iload k => exact gw_iload hK (gdg hd hn rfl) h
  | lload_n k => exact gw_lload_n hK (gdg hd hn rfl) h
  | lload k => exact gw_lload hK (gdg hd hn rfl) h
  | aload_n k => exact gw_aload_n hK (gdg hd hn rfl) h
  | aload k => exact gw_aload hK (gdg hd hn rfl) h
  | istore_n k => exact gw_istore_n hK (gdg hd hn rfl) (Nat.blt_eq.mp hc) h
  | istore k => exact gw_istore hK (gdg hd hn rfl) (Nat.blt_eq.mp hc) h
  | astore_n k => exact gw_astore_n hK (gdg hd hn rfl) (Nat.blt_eq.mp hc) h
  | astore k => exact gw_astore hK (gdg hd hn rfl) (Nat.blt_eq.mp hc) h
  | lstore_n k => exact gw_lstore_n hK (gdg hd hn rfl) (Nat.blt_eq.mp hc) h
  | lstore k => exact gw_lstore hK (gdg hd hn rfl) (Nat.blt_eq.mp hc) h
  | iinc k n => exact gw_iinc hK (gdg hd hn rfl) (Nat.blt_eq.mp hc) h
  | iconst n => exact gw_iconst hK (gdg hd hn rfl) h
  | bipush n => exact gw_bipush hK (gdg hd hn rfl) h
  | sipush n => exact gw_sipush hK (gdg hd hn rfl) h
  | lconst n => exact gw_lconst hK (gdg hd hn rfl) h
  | aconst_null => exact gw_null hK (gdg hd hn rfl) h
  | ldc n =>
    unfold gIns at h
    unfold gck at hc
    cases hb1 : Nat.beq b 1 with
    | true =>
      rw [hb1] at h hc
      dsimp only [cond_true] at h hc
      rw [Bool.and_eq_true, Bool.and_eq_true, decide_eq_true_eq] at hc
      have hn1 : n = (gSt a).1 := Nat.eq_of_beq_eq_true hc.2.2
      exact gw_ldcS hK (Nat.blt_eq.mp hc.1) hc.2.1 hn1 (by rw [hc.2.1, hn1]) (gdg hd hn rfl) h
    | false =>
      rw [hb1] at h hc
      dsimp only [cond_false] at h hc
      exact gw_ldc hK (gHas.mem hc) (gdg hd hn rfl) h
  | ldc_w n => exact gw_ldcw hK (gHas.mem hc) (gdg hd hn rfl) h
  | ldc2_w n => exact gw_ldc2 hK (gHas.mem hc) (gdg hd hn rfl) h
  | iadd => exact gw_iadd hK (gdg hd hn rfl) h
  | isub => exact gw_isub hK (gdg hd hn rfl) h
  | imul => exact gw_imul hK (gdg hd hn rfl) h
  | iand => exact gw_iand hK (gdg hd hn rfl) h
  | ior => exact gw_ior hK (gdg hd hn rfl) h
  | ixor => exact gw_ixor hK (gdg hd hn rfl) h
  | ishl => exact gw_ishl hK (gdg hd hn rfl) h
  | ishr => exact gw_ishr hK (gdg hd hn rfl) h
  | iushr => exact gw_iushr hK (gdg hd hn rfl) h
  | idiv => exact gw_idiv hK (gdg hd hn rfl) h
  | irem => exact gw_irem hK (gdg hd hn rfl) h
  | ineg => exact gw_ineg hK (gdg hd hn rfl) h
  | i2b => exact gw_i2b hK (gdg hd hn rfl) h
  | i2c => exact gw_i2c hK (gdg hd hn rfl) h
  | ladd => exact gw_ladd hK (gdg hd hn rfl) h
  | lsub => exact gw_lsub hK (gdg hd hn rfl) h
  | lmul => exact gw_lmul hK (gdg hd hn rfl) h
  | ldiv => exact gw_ldiv hK (gdg hd hn rfl) h
  | lcmp => exact gw_lcmp hK (gdg hd hn rfl) h
  | i2l => exact gw_i2l hK (gdg hd hn rfl) h
  | l2i => exact gw_l2i hK (gdg hd hn rfl) h
  | dup => exact gw_dup hK (gdg hd hn rfl) h
  | dup2 => exact gw_dup2 hK (gdg hd hn rfl) h
  | pop => exact gw_pop hK (gdg hd hn rfl) h
  | ifCond cd off => exact gw_if hK (gdg hd hn rfl) (of_decide_eq_true hc) h
  | if_icmp cd off => exact gw_icmp hK (gdg hd hn rfl) (of_decide_eq_true hc) h
  | ifnull off => exact gw_ifnull hK (gdg hd hn rfl) (of_decide_eq_true hc) h
  | ifnonnull off => exact gw_ifnonnull hK (gdg hd hn rfl) (of_decide_eq_true hc) h
  | goto off => exact gw_goto hK (of_decide_eq_true hc) (gdg hd hn rfl) h
  | tableswitch dflt lo hi offs => exact gw_table hK hd h
  | lookupswitch dflt ps => exact gw_lookup hK hd hc h
  | getfield n =>
    have hc := Bool.and_eq_true _ _ ▸ hc
    exact gw_get hK (gdg hd hn rfl) (Nat.blt_eq.mp hc.1) hc.2 h
  | putfield n =>
    unfold gck at hc
    rw [Bool.and_eq_true, Bool.and_eq_true] at hc
    exact gw_put hK (gdg hd hn rfl) (Nat.blt_eq.mp hc.1) hc.2.1 hc.2.2 h
  | getstatic n => exact gw_gets hK (gdg hd hn rfl) hc h
  | new n =>
    unfold gck at hc
    rw [Bool.and_eq_true, Bool.and_eq_true, Bool.and_eq_true] at hc
    exact gw_new hK (gdg hd hn rfl) (Nat.blt_eq.mp hc.1) (gHas.mem hc.2.1) (gHas.mem hc.2.2.1) (gHas.mem hc.2.2.2) h
  | newarray t =>
    unfold gck at hc
    rw [Bool.and_eq_true, Bool.and_eq_true, decide_eq_true_eq] at hc
    exact gw_newa hK (gdg hd hn rfl) (Nat.blt_eq.mp hc.1) hc.2.1 (gHas.mem hc.2.2) h
  | anewarray n =>
    unfold gck at hc
    rw [Bool.and_eq_true, Bool.and_eq_true, Bool.and_eq_true] at hc
    exact gw_anew hK (gdg hd hn rfl) (Nat.blt_eq.mp hc.1) (Nat.blt_eq.mp hc.2.1) (gHas.mem hc.2.2.1) (gHas.mem hc.2.2.2) h
  | arraylength => exact gw_len hK (gdg hd hn rfl) h
  | iaload => exact gw_iald hK (gdg hd hn rfl) h
  | laload => exact gw_lald hK (gdg hd hn rfl) h
  | baload => exact gw_bald hK (gdg hd hn rfl) h
  | aaload => exact gw_aald hK (gdg hd hn rfl) h
  | iastore => exact gw_iast hK (gdg hd hn rfl) h
  | bastore => exact gw_bast hK (gdg hd hn rfl) h
  | lastore => exact gw_last hK (gdg hd hn rfl) h
  | aastore => exact gw_aast hK (gdg hd hn rfl) h
  | invokevirtual n =>
    unfold gck at hc
    simp only [Bool.and_eq_true, decide_eq_true_eq] at hc
    exact gw_virt hK (gdg hd hn rfl) hC hc.1 (gHas.mem hc.2.1) (gHas.mem hc.2.2.1) hc.2.2.2.1 (Nat.blt_eq.mp hc.2.2.2.2.1) hc.2.2.2.2.2 h
  | invokestatic n =>
    unfold gck at hc
    simp only [Bool.and_eq_true] at hc
    exact gw_stat hK (gdg hd hn rfl) hC hc.1 (gHas.mem hc.2.1) hc.2.2 h
  | invokespecial n =>
    unfold gck at hc
    cases ha9 : Nat.beq a 9999 with
    | true =>
      rw [ha9] at hc
      dsimp only [cond_true] at hc
      simp only [Bool.and_eq_true] at hc
      exact gw_obj hK ha9 (gdg hd hn rfl) (gHas.mem hc.1) (gHas.mem hc.2.1) (gHas.mem hc.2.2) h
    | false =>
      rw [ha9] at hc
      dsimp only [cond_false] at hc
      simp only [Bool.and_eq_true, decide_eq_true_eq] at hc
      exact gw_spec hK ha9 (gdg hd hn rfl) hC hc.1 (gHas.mem hc.2.1) hc.2.2.1 hc.2.2.2.1 hc.2.2.2.2 h
  | ireturn => exact gw_iret hK (gdg hd hn rfl) h
  | lreturn => exact gw_lret hK (gdg hd hn rfl) h
  | areturn => exact gw_aret hK (gdg hd hn rfl) h
  | return_ => exact gw_vret hK (gdg hd hn rfl) h
  | _ => exact absurd (show (none : Option gO) = some o from h) (fun z => by cases z)
