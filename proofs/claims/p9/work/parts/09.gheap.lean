/-! THE INSTRUCTIONS THAT TOUCH THE HEAP (printed by wip/gen/gen09.py). -/
theorem gTb.use {U : State} (h : gTb U) {w : Cond} (hw : w ∈ gTB) (a : Array Value) : w.before a U = true := h w (List.mem_filter.mp hw).1 (List.mem_filter.mp hw).2 a
def gLy0 : List Nat := [1120, 1122, 1124, 1126, 1128, 1130, 1132, 1134]
def gLy1 : List Nat := [2071, 2073, 2075, 2077, 2079, 2081, 2083, 2085, 2087, 2089, 2091, 2093, 2095, 2097, 2099, 2101, 2103, 2105, 2107]
def gLy2 : List Nat := [2193, 2195, 2197, 2199, 2201, 2203, 2205, 2207, 2209]
def gLy3 : List Nat := [1091, 1093, 1095, 1097, 1099]
def gLy4 : List Nat := [2127, 2129, 2131, 2133, 2135, 2137, 2139, 2141, 2143, 2145, 2147, 2149, 2151, 2153, 2155, 2157]
def gLy5 : List Nat := [1051, 1053, 1055, 1057, 1059, 1061, 1063, 1065, 1067, 1069, 1071, 1073]
def gLy6 : List Nat := [4065, 4067, 4069, 4071, 4073]
def gLy7 : List Nat := [4217, 4219, 4221, 4223, 4225, 4227, 4229, 4231, 4233, 4235, 4237, 4239, 5001]
def gLy8 : List Nat := [1216, 1218, 1220, 1222, 1224]
def gLy9 : List Nat := [2226, 2228, 2230, 2232, 2234, 2236, 2238, 3000]
def gLy10 : List Nat := [2177, 2179, 2181]
def gLy11 : List Nat := [3017, 3019, 3021, 3023, 3025, 3027, 3029, 3031, 3033, 3035, 3037, 3039]
def gLy12 : List Nat := [7122, 7124, 7126, 7128, 7130, 7132, 7134, 7136, 7138, 7140, 7142, 7144, 7146, 7148, 7150, 7152, 7154, 7156, 7158, 7160, 7162, 7164, 7166, 7168, 7170, 7172, 7174, 7176, 7178, 7180, 7182, 7184, 7186, 7188, 7190, 7192, 7194, 7196, 7198, 7200, 7202, 7204, 7206, 7208, 7210, 7212, 7214, 7216, 7218, 7220, 7222, 7224, 7226, 7228, 7230, 7232, 7234, 7236, 7238, 8000, 8002, 8004, 8006, 8008, 8010, 8012, 8014, 8016, 8018, 8020, 8022, 8024, 8026, 8028, 8030, 8032, 8034, 8036, 8038, 8040, 8042, 8044, 8046, 8048, 8050, 8052, 8054, 8056, 8058, 8060, 8062, 8064, 8066, 8068, 8070, 8072, 8074, 8076, 8078, 8080, 8082, 8084, 8086, 8088]
def gLy : Nat → List Nat := fun k => match k with
  | 0 => gLy0
  | 1 => gLy1
  | 2 => gLy2
  | 3 => gLy3
  | 4 => gLy4
  | 5 => gLy5
  | 6 => gLy6
  | 7 => gLy7
  | 8 => gLy8
  | 9 => gLy9
  | 10 => gLy10
  | 11 => gLy11
  | _ => gLy12
def gLyChk (k : Nat) : Bool := (List.range (gN k)).all (fun f => gHas ((gLy k).getD f 0) (u_lay (gCn k) (gT k) f) && (decide (parseFieldDescriptor (gT k f).2.2.1 = some (gYt k f)) && (List.range (gN k)).all (fun f2 => Nat.beq f f2 || decide ((gT k f).2.1 ≠ (gT k f2).2.1))))
set_option maxRecDepth 1000000 in
theorem gLyChk_0 : gLyChk 0 = true := by decide +kernel
set_option maxRecDepth 1000000 in
theorem gLyChk_1 : gLyChk 1 = true := by decide +kernel
set_option maxRecDepth 1000000 in
theorem gLyChk_2 : gLyChk 2 = true := by decide +kernel
set_option maxRecDepth 1000000 in
theorem gLyChk_3 : gLyChk 3 = true := by decide +kernel
set_option maxRecDepth 1000000 in
theorem gLyChk_4 : gLyChk 4 = true := by decide +kernel
set_option maxRecDepth 1000000 in
theorem gLyChk_5 : gLyChk 5 = true := by decide +kernel
set_option maxRecDepth 1000000 in
theorem gLyChk_6 : gLyChk 6 = true := by decide +kernel
set_option maxRecDepth 1000000 in
theorem gLyChk_7 : gLyChk 7 = true := by decide +kernel
set_option maxRecDepth 1000000 in
theorem gLyChk_8 : gLyChk 8 = true := by decide +kernel
set_option maxRecDepth 1000000 in
theorem gLyChk_9 : gLyChk 9 = true := by decide +kernel
set_option maxRecDepth 1000000 in
theorem gLyChk_10 : gLyChk 10 = true := by decide +kernel
set_option maxRecDepth 1000000 in
theorem gLyChk_11 : gLyChk 11 = true := by decide +kernel
set_option maxRecDepth 1000000 in
theorem gLyChk_12 : gLyChk 12 = true := by decide +kernel
theorem gLyChk_all : (List.range 13).all gLyChk = true := by
  rw [show List.range 13 = [0, 1, 2, 3, 4, 5, 6, 7, 8, 9, 10, 11, 12] by decide]
  simp only [List.all_cons, List.all_nil, gLyChk_0, gLyChk_1, gLyChk_2, gLyChk_3, gLyChk_4, gLyChk_5, gLyChk_6, gLyChk_7, gLyChk_8, gLyChk_9, gLyChk_10, gLyChk_11, gLyChk_12, Bool.and_self]
theorem gLay {k : Nat} (hk : k < 13) {f : Nat} (hf : f < gN k) : u_lay (gCn k) (gT k) f ∈ gTB ∧ parseFieldDescriptor (gT k f).2.2.1 = some (gYt k f) ∧ ∀ f2, f2 < gN k → f ≠ f2 → (gT k f).2.1 ≠ (gT k f2).2.1 := by
  have h1 := List.all_eq_true.mp gLyChk_all k (List.mem_range.mpr hk)
  have h2 := List.all_eq_true.mp h1 f (List.mem_range.mpr hf)
  rw [Bool.and_eq_true, Bool.and_eq_true] at h2
  refine ⟨gHas.mem h2.1, of_decide_eq_true h2.2.1, fun f2 hf2 hne => ?_⟩
  have h3 := List.all_eq_true.mp h2.2.2 f2 (List.mem_range.mpr hf2)
  rw [Bool.or_eq_true] at h3
  rcases h3 with h3 | h3
  · exact absurd (Nat.eq_of_beq_eq_true h3) hne
  · exact of_decide_eq_true h3
theorem gLayIn {k : Nat} (hk : k < 13) : ∀ w ∈ u_ws (gCn k) (gT k) (gN k), w ∈ gTB := by
  intro w hw
  obtain ⟨f, hf, rfl⟩ := List.mem_map.mp hw
  exact (gLay hk (List.mem_range.mp hf)).1
theorem gApart {G : gG} {U : State} (hT : gTb U) (hK : gKm G U) {k : Nat} (hk : k < 13) : ∀ x y, x < gN k → y < gN k → x ≠ y → G.2.2.2.2.1 k x ≠ G.2.2.2.2.1 k y := by
  intro x y hx hy hne
  obtain ⟨_, _, _, fa, hia, -, ea⟩ := hK.2.2 k (by omega) x hx
  obtain ⟨_, _, _, fb, hib, -, eb⟩ := hK.2.2 k (by omega) y hy
  rw [← ea, ← eb]
  have hts : ∀ w ∈ gTB, w.before #[] U = true := fun w hw => hT.use hw #[]
  refine u_apart (u_lays hts (gLayIn hk) hx) (u_lays hts (gLayIn hk) hy) hia hib ?_
  rw [(State.fieldFound?_type hia (gLay hk hx).2.1).1, (State.fieldFound?_type hib (gLay hk hy).2.1).1]
  exact (gLay hk hx).2.2 y hy hne
theorem gad_in {G : gG} {i : Nat} (h : G.1 ≤ i) : G.2.1 ≤ gad G i := by rw [gad_own h]; omega
theorem grv_default (G : gG) (ty : FieldType) : grv G (defaultValue ty) = defaultValue ty := by cases ty <;> rfl
section GHEAP
variable {G : gG} {l : Launch} {p : Program} {e : Env} {R : Room} {s : State} {m : MethodId} {args : Array Value} {below : List Frame} {meth : Method} {c : Code} {Q : State → Prop} {own name : String} {cc : ByteArray} {nL L0 S0 pc a b d : Nat} {rt : Option FieldType} {o : gO} {v : Int} {ts : List Nat} {lv : gL} {st : List Value} {lh : gH} {K : Nat → gL → List Value → gH → Option gO} {C : Nat → List Value → gH → Option gO}
theorem gw_get (hK : ∀ pc lv st lh, K pc lv st lh = some o → gOk G l p e R s m args below meth c Q own name cc d nL L0 S0 rt o pc lv st lh) {n : Nat} (hdg : decode cc pc = .ok (.getfield n, 3)) (ha : a < 14) (hck : gckF own n a b ts = true) (h : gI_get K pc a b lv st lh = some o) : gOk G l p e R s m args below meth c Q own name cc d nL L0 S0 rt o pc lv st lh := by
  unfold gI_get at h
  split at h
  · rename_i i r
    split at h
    · rename_i ob hi
      obtain ⟨k, f⟩ := ob
      cases hq : Nat.beq k a with
      | false => dsimp only at h; rw [hq] at h; cases h
      | true =>
        dsimp only at h
        rw [hq] at h
        have hka : k = a := Nat.eq_of_beq_eq_true hq
        subst hka
        refine ⟨(hK _ _ _ _ h).1, fun X hE H locs cells slots ls hR hS hl h1 h2 => ?_⟩
        obtain ⟨hx, hb, hml, hown, hks, hG, hnm, hfr, hlo, hcc, hss⟩ := id X
        unfold gckF at hck
        rw [Bool.and_eq_true, Bool.or_eq_true] at hck
        have hb' : b < gN k := Nat.blt_eq.mp hck.1
        obtain ⟨-, cell, c1, c2, c3, c4, c5, c6⟩ := hR.2.2.2 i _ hi
        obtain ⟨cf, kf, fi, fd, f1, f2, f3⟩ := hks.2.1.2.2 k ha b hb'
        have c7 := c6 b hb'
        rw [← f3] at c7
        rcases hck.2 with hw | hw
        · refine W.getf hx hb hown (hks.1.use (gHas.mem hw) args) f1 f2 c1 c3 c7 rfl rfl hdg ?_
          exact (hK _ _ _ _ h).2 X hE _ _ _ _ _ hR hS hl h1 h2
        · refine va_Wgetf hx hb hown (hks.1.use (gHas.mem hw) args) f1 f2 c1 c3 c7 rfl rfl hdg ?_
          exact (hK _ _ _ _ h).2 X hE _ _ _ _ _ hR hS hl h1 h2
    all_goals cases h
  all_goals cases h
theorem gw_put (hK : ∀ pc lv st lh, K pc lv st lh = some o → gOk G l p e R s m args below meth c Q own name cc d nL L0 S0 rt o pc lv st lh) {n : Nat} (hdg : decode cc pc = .ok (.putfield n, 3)) (ha : a < 13) (hck : gckF own n a b ts = true) (hcp : gckP own name n a b ts = true) (h : gI_put K pc a b lv st lh = some o) : gOk G l p e R s m args below meth c Q own name cc d nL L0 S0 rt o pc lv st lh := by
  unfold gI_put at h
  split at h
  · rename_i w i r
    split at h
    · rename_i ob hi
      obtain ⟨k, f⟩ := ob
      dsimp only at h
      cases hq : (Nat.beq k a && (gFit (gYt a b) w && Nat.ble 7 i)) with
      | false => rw [hq] at h; cases h
      | true =>
        rw [hq] at h
        rw [Bool.and_eq_true, Bool.and_eq_true] at hq
        have hka : k = a := Nat.eq_of_beq_eq_true hq.1
        subst hka
        obtain ⟨hn, hfit⟩ := gFit_ok (G := G) hq.2.1
        have hm := (hK _ _ _ _ h).1
        rw [List.length_set, gsz_set hi (by rfl)] at hm
        refine ⟨hm, fun X hE H locs cells slots ls hR hS hl h1 h2 => ?_⟩
        obtain ⟨hx, hb, hml, hown, hks, hG, hnm, hfr, hlo, hcc, hss⟩ := id X
        have hi7 : G.1 ≤ i := by rw [hG]; exact Nat.le_of_ble_eq_true hq.2.2
        unfold gckF at hck
        rw [Bool.and_eq_true, Bool.or_eq_true] at hck
        have hb' : b < gN k := Nat.blt_eq.mp hck.1
        obtain ⟨c0, cell, c1, c2, c3, c4, c5, c6⟩ := hR.2.2.2 i _ hi
        obtain ⟨cf, kf, fi, fd, f1, f2, f3⟩ := hks.2.1.2.2 k (by omega) b hb'
        obtain ⟨hfc, kC, hkC, hkind⟩ := hks.2.1.2.1 k (by omega)
        have c7 := c6 b hb'
        have hlt : fd.slot < cell.slots.size := by rw [f3]; exact k2_hasslot c7
        have hap := gApart hks.1 hks.2.1 ha
        have hlay := hks.1.use (gLay ha hb').1 args
        have hd := (gLay ha hb').2.1
        have fin : ∀ H' : Heap, H'[gad G i]? = some (cell.setSlot fd.slot (grv G w)) → H'.size = H.size → (∀ q, q ≠ gad G i → H'[q]? = H[q]?) → W p l e R s m args below meth c H' (locs ++ [⟨gad G i, fd.slot⟩]) cells slots Q (F0 m (pc + 3) ls (r.map (grv G))) := by
          intro H' e1 e2 e3
          refine (hK _ _ _ _ h).2 X hE _ _ _ _ _ (hR.set hi7 ?_ e2 e3) (hS.put e2 e3 (gad_in hi7)) hl (by rw [List.length_set]; exact h1) (by rw [gsz_set hi (by rfl)]; exact h2)
          refine ⟨c0, _, e1, c2, c3, c4, c5, fun j hj => ?_⟩
          rw [f3]
          have h9 := t_set c6 hap hb' (grv G w) j hj
          rw [h9]
          show some (updV (fun j => grv G (f j)) b (grv G w) j) = some (grv G (gup f b w j))
          rw [gup_at]
        unfold u_lay at hlay
        cases hf : (gT k b).2.2.2 with
        | false =>
          rw [hf, if_neg (by decide)] at hlay
          have h6 := u_store hfc hkC hkind hlay f1 hd hn hfit
          rcases hck.2 with hw | hw
          · exact W.putK hx hb (f := fd) ⟨hown, hks.1.use (gHas.mem hw) args, ⟨_, _, _, f1⟩, f2⟩ (by rw [c2]; exact h6) c1 (c5 hi7).1 hlt rfl rfl hdg fin
          · exact va_WputK hx hb hown (hks.1.use (gHas.mem hw) args) f1 f2 (by rw [c2]; exact h6) c1 (c5 hi7).1 hlt rfl rfl hdg fin
        | true =>
          rw [hf, if_pos rfl] at hlay
          unfold gckP at hcp
          rw [hf] at hcp
          dsimp only [cond_true] at hcp
          rw [Bool.and_eq_true, Bool.and_eq_true, decide_eq_true_eq, decide_eq_true_eq] at hcp
          have hcf : m.cls = cf := by
            obtain ⟨_, _, c', _, _, _, -, -, hf', -, -, -, hown2, -⟩ := Cond.laysFinal_spec hlay
            have e1 : c' = cf := by have := f1.symm.trans hf'; simp at this; exact this.1.symm
            rw [hcp.2.2] at hown2
            rw [← e1]; exact Option.some.inj (hown.symm.trans hown2)
          have h6 := u_fits hfc hkC hkind (Or.inr hlay) f1 hd hn hfit
          exact W.putFinK hx hb hown (hks.1.use (gHas.mem hcp.1) args) f1 f2 hcf (hnm hcp.2.1) (by rw [c2]; exact h6) c1 (c5 hi7).1 hlt rfl rfl hdg fin
    all_goals cases h
  all_goals cases h
theorem gw_gets (hK : ∀ pc lv st lh, K pc lv st lh = some o → gOk G l p e R s m args below meth c Q own name cc d nL L0 S0 rt o pc lv st lh) {n : Nat} (hdg : decode cc pc = .ok (.getstatic n, 3)) {t : Nat} (hck : (bif Nat.beq a 0 then gHas t (.fieldLink own n "java/lang/String" "COMPACT_STRINGS" "Z") else gHas t (.fieldLink own n "jdk/internal/util/Preconditions" "SIOOBE_FORMATTER" "Ljava/util/function/BiFunction;")) = true) (h : gI_gets K pc a lv st lh = some o) : gOk G l p e R s m args below meth c Q own name cc d nL L0 S0 rt o pc lv st lh := by
  unfold gI_gets at h
  cases ha : Nat.beq a 0 with
  | true =>
    rw [ha] at h hck
    dsimp only [cond_true] at h hck
    refine ⟨(hK _ _ _ _ h).1, fun X hE H locs cells slots ls hR hS hl h1 h2 => ?_⟩
    obtain ⟨hx, hb, hml, hown, hks, hG, hnm, hfr, hlo, hcc, hss⟩ := id X
    refine va_gets hx hb hks.2.2.2.1 hS hown (hks.1.use (gHas.mem hck) args) (fun _ z => z) hdg ?_
    exact (hK _ _ _ _ h).2 X hE _ _ _ _ _ hR hS hl h1 h2
  | false =>
    rw [ha] at h hck
    dsimp only [cond_false] at h hck
    refine ⟨(hK _ _ _ _ h).1, fun X hE H locs cells slots ls hR hS hl h1 h2 => ?_⟩
    obtain ⟨hx, hb, hml, hown, hks, hG, hnm, hfr, hlo, hcc, hss⟩ := id X
    refine va_gets hx hb hks.2.2.2.2 hS hown (hks.1.use (gHas.mem hck) args) (fun _ z => z) hdg ?_
    exact (hK _ _ _ _ h).2 X hE _ _ _ _ _ hR hS hl h1 h2
theorem gw_new (hK : ∀ pc lv st lh, K pc lv st lh = some o → gOk G l p e R s m args below meth c Q own name cc d nL L0 S0 rt o pc lv st lh) {n : Nat} (hdg : decode cc pc = .ok (.new n, 3)) (ha : a < 13) (hw1 : Cond.classLink own n (gCn a) ∈ gTB) (hw2 : Cond.instantiable (gCn a) (gN a) ∈ gTB) (hw3 : Cond.initialized (gCn a) ∈ gTB) (h : gI_new K pc a lv st lh = some o) : gOk G l p e R s m args below meth c Q own name cc d nL L0 S0 rt o pc lv st lh := by
  unfold gI_new at h
  have hm := (hK _ _ _ _ h).1
  rw [List.length_append, gsz_push] at hm
  have hm1 : lh.length + 1 ≤ o.1.length := hm.2.1
  have hm2 : gsz lh + gN a ≤ gsz o.1 := hm.2.2
  refine ⟨⟨hm.1, by omega, by omega⟩, fun X hE H locs cells slots ls hR hS hl h1 h2 => ?_⟩
  obtain ⟨hx, hb, hml, hown, hks, hG, hnm, hfr, hlo, hcc, hss⟩ := id X
  obtain ⟨hfc, kC0, hkC0, hkind⟩ := hks.2.1.2.1 a (by omega)
  refine W.newcK hx hb hown (hks.1.use hw1 args) (hks.1.use hw2 args) (hks.1.use hw3 args) rfl hdg (by omega) (by omega) hfc rfl fun H' kC hkC e1 e2 e3 => ?_
  have hts : ∀ w ∈ gTB, w.before args s = true := fun w hw => hks.1.use hw args
  have hR' : gR G s (lh ++ [.inl (a, fun j => defaultValue (gYt a j))]) H' := by
    refine hR.push ?_ e2 e3
    refine ⟨by show a < 14; omega, _, by rw [hR.top]; exact e1, rfl, (fun z => by cases z), rfl, fun _ => ⟨rfl, ha⟩, fun j hj => ?_⟩
    obtain ⟨cf, kf, fi, fd, f1, f2, f3⟩ := hks.2.1.2.2 a (by omega) j hj
    have h3 := (u_facts hfc hkC (u_lays hts (gLayIn ha) hj) f1).2.2
    rw [(State.fieldFound?_type f1 (gLay ha hj).2.1).2] at h3
    rw [← f3]
    show _ = some (grv G (defaultValue (gYt a j)))
    rw [grv_default]
    exact k2_blank h3
  have hS' : va_S (fun q => G.2.1 ≤ q) s.heap H' locs := ⟨by rw [e2]; exact Nat.le_succ_of_le hS.1, fun q q1 q2 => by rw [e3 q (Nat.lt_of_lt_of_le q1 hS.1)]; exact hS.2.1 q q1 q2, hS.2.2⟩
  have hk := (hK _ _ _ _ h).2 X hE H' locs (cells + 1) (slots + gN a) ls hR' hS' hl (by rw [List.length_append]; show cells + 1 + L0 = lh.length + 1; omega) (by rw [gsz_push]; show slots + gN a + S0 = gsz lh + gN a; omega)
  rw [List.map_cons, grv_ref, hR.top] at hk
  exact hk
theorem gTy_prim {a : Nat} (ha : a < 4) {U : State} {cA : ClassId} (h : U.vm.findClass ("[" ++ (gTy a).toString) = some cA) : va_RA U cA (gTy a) := by
  rcases (show a = 0 ∨ a = 1 ∨ a = 2 ∨ a = 3 by omega) with rfl | rfl | rfl | rfl <;> exact h
theorem gTy_bytes {a : Nat} (ha : a < 4) : componentBytes (gTy a) ≤ 8 := by
  rcases (show a = 0 ∨ a = 1 ∨ a = 2 ∨ a = 3 by omega) with rfl | rfl | rfl | rfl <;> decide
theorem gTy_obj {a : Nat} (h3 : 3 < a) (h7 : a < 7) : gTy a = .object (gCn (gEl a)) ∧ gEl a < 13 := by
  rcases (show a = 4 ∨ a = 5 ∨ a = 6 by omega) with rfl | rfl | rfl <;> exact ⟨rfl, by decide⟩
theorem gTy_ref {a : Nat} (h3 : 3 < a) (h7 : a < 7) : (gTy a).isReference = true := by
  rcases (show a = 4 ∨ a = 5 ∨ a = 6 by omega) with rfl | rfl | rfl <;> rfl
theorem gR_arr {G : gG} {U : State} {lh : gH} {H H1 : Heap} (h : gR G U lh H) {a N : Nat} {cA : ClassId} {x : Value} (ha : a < 7) (hx : grv G x = x) (e1 : H1[H.size]? = some (arrV cA N (fun _ => x))) (e2 : H1.size = H.size + 1) (e3 : ∀ q, q < H.size → H1[q]? = H[q]?) (hA : ArrOfT U cA (gTy a)) (hV : va_RA U cA (gTy a)) : gR G U (lh ++ [.inr (a, N, fun _ => x)]) H1 := by
  refine h.push ?_ e2 e3
  refine ⟨ha, _, by rw [h.top]; exact e1, hA _ _, (fun z => by cases z), by rw [arrV_size]; exact Nat.le_refl _, by rw [arrV_size], fun j hj => ?_, fun _ => ⟨rfl, hV⟩⟩
  rw [arrV_read cA _ hj]
  show some x = some (grv G x)
  rw [hx]
theorem gw_newa (hK : ∀ pc lv st lh, K pc lv st lh = some o → gOk G l p e R s m args below meth c Q own name cc d nL L0 S0 rt o pc lv st lh) {t : ArrayType} (hdg : decode cc pc = .ok (.newarray t, 2)) (ha : a < 4) (hty : newarray.typeOf t = gTy a) (hw1 : Cond.arrayClass (newarray.typeOf t) ∈ gTB) (h : gI_newa K pc a lv st lh 2 = some o) : gOk G l p e R s m args below meth c Q own name cc d nL L0 S0 rt o pc lv st lh := by
  unfold gI_newa at h
  split at h
  · rename_i x r
    cases hq : (!decide (x < 0) && Nat.ble x.toNatClampNeg 65536) with
    | false => rw [hq] at h; cases h
    | true =>
      rw [hq] at h
      rw [Bool.and_eq_true, Bool.not_eq_true', decide_eq_false_iff_not] at hq
      have hm := (hK _ _ _ _ h).1
      rw [List.length_append, gsz_push] at hm
      have hm1 : lh.length + 1 ≤ o.1.length := hm.2.1
      have hm2 : gsz lh + x.toNatClampNeg ≤ gsz o.1 := hm.2.2
      refine ⟨⟨hm.1, by omega, by omega⟩, fun X hE H locs cells slots ls hR hS hl h1 h2 => ?_⟩
      obtain ⟨hx, hb, hml, hown, hks, hG, hnm, hfr, hlo, hcc, hss⟩ := id X
      have hby : x.toNatClampNeg * componentBytes (newarray.typeOf t) ≤ 536870912 := by
        rw [hty]
        exact Nat.le_trans (Nat.mul_le_mul (Nat.le_of_ble_eq_true hq.2) (gTy_bytes ha)) (by decide)
      refine va_newaK hx hb (hks.1.use hw1 args) rfl hdg rfl hq.1 rfl hby (by omega) (by omega) rfl fun H' cA e1 e2 e3 hAr hNm => ?_
      rw [hty] at e1 hAr hNm
      have hR' := gR_arr hR (by omega) (grv_default G (gTy a)) e1 e2 e3 hAr (gTy_prim ha hNm)
      have hS' : va_S (fun q => G.2.1 ≤ q) s.heap H' locs := ⟨by rw [e2]; exact Nat.le_succ_of_le hS.1, fun q q1 q2 => by rw [e3 q (Nat.lt_of_lt_of_le q1 hS.1)]; exact hS.2.1 q q1 q2, hS.2.2⟩
      have hk := (hK _ _ _ _ h).2 X hE H' locs (cells + 1) (slots + x.toNatClampNeg) ls hR' hS' hl (by rw [List.length_append]; show cells + 1 + L0 = lh.length + 1; omega) (by rw [gsz_push]; show slots + x.toNatClampNeg + S0 = gsz lh + x.toNatClampNeg; omega)
      rw [List.map_cons, grv_ref, hR.top] at hk
      exact hk
  all_goals cases h
theorem gw_anew (hK : ∀ pc lv st lh, K pc lv st lh = some o → gOk G l p e R s m args below meth c Q own name cc d nL L0 S0 rt o pc lv st lh) {n : Nat} (hdg : decode cc pc = .ok (.anewarray n, 3)) (h3a : 3 < a) (ha : a < 7) (hw1 : Cond.classLink own n (gCn (gEl a)) ∈ gTB) (hw2 : Cond.arrayOver (.object (gCn (gEl a))) ∈ gTB) (h : gI_newa K pc a lv st lh 3 = some o) : gOk G l p e R s m args below meth c Q own name cc d nL L0 S0 rt o pc lv st lh := by
  unfold gI_newa at h
  split at h
  · rename_i x r
    cases hq : (!decide (x < 0) && Nat.ble x.toNatClampNeg 65536) with
    | false => rw [hq] at h; cases h
    | true =>
      rw [hq] at h
      rw [Bool.and_eq_true, Bool.not_eq_true', decide_eq_false_iff_not] at hq
      have hm := (hK _ _ _ _ h).1
      rw [List.length_append, gsz_push] at hm
      have hm1 : lh.length + 1 ≤ o.1.length := hm.2.1
      have hm2 : gsz lh + x.toNatClampNeg ≤ gsz o.1 := hm.2.2
      refine ⟨⟨hm.1, by omega, by omega⟩, fun X hE H locs cells slots ls hR hS hl h1 h2 => ?_⟩
      obtain ⟨hx, hb, hml, hown, hks, hG, hnm, hfr, hlo, hcc, hss⟩ := id X
      obtain ⟨ht, hel⟩ := gTy_obj h3a ha
      have hdv : defaultValue (gTy a) = .null := by rw [ht]; rfl
      refine W.anew hx hb hown (hks.1.use hw1 args) (hks.1.use hw2 args) rfl hdg rfl hq.1 (Nat.le_trans (Nat.mul_le_mul_right 4 (Nat.le_of_ble_eq_true hq.2)) (by decide)) (by omega) (by omega) fun cA kA comp f1 f2 f3 f4 => ?_
      generalize hH1 : H.push ({ cls := cA, slots := Array.replicate x.toNatClampNeg .null, vm := .none } : Cell) = H'
      have e2 : H'.size = H.size + 1 := by rw [← hH1, Array.size_push]
      have e1 : H'[H.size]? = some (arrV cA x.toNatClampNeg (fun _ => defaultValue (gTy a))) := by rw [hdv, ← hH1, Array.getElem?_push_size, ← arrV_new]
      have e3 : ∀ q : Nat, q < H.size → H'[q]? = H[q]? := fun q hq => by rw [← hH1, Array.getElem?_push, if_neg (Nat.ne_of_lt hq)]
      have hAr : ArrOfT s cA (gTy a) := by rw [ht]; exact fun N z => ⟨(fun k h => by cases h), kA, f2, comp, f3⟩
      have hV : va_RA s cA (gTy a) := by rw [ht]; exact ⟨kA, comp, f2, f3, f4, f1⟩
      have hR' := gR_arr hR ha (grv_default G (gTy a)) e1 e2 e3 hAr hV
      have hS' : va_S (fun q => G.2.1 ≤ q) s.heap H' locs := ⟨by rw [e2]; exact Nat.le_succ_of_le hS.1, fun q q1 q2 => by rw [e3 q (Nat.lt_of_lt_of_le q1 hS.1)]; exact hS.2.1 q q1 q2, hS.2.2⟩
      have hk := (hK _ _ _ _ h).2 X hE H' locs (cells + 1) (slots + x.toNatClampNeg) ls hR' hS' hl (by rw [List.length_append]; show cells + 1 + L0 = lh.length + 1; omega) (by rw [gsz_push]; show slots + x.toNatClampNeg + S0 = gsz lh + x.toNatClampNeg; omega)
      rw [List.map_cons, grv_ref, hR.top] at hk
      exact hk
  all_goals cases h
theorem gw_len (hK : ∀ pc lv st lh, K pc lv st lh = some o → gOk G l p e R s m args below meth c Q own name cc d nL L0 S0 rt o pc lv st lh) (hdg : decode cc pc = .ok (.arraylength, 1)) (h : gI_len K pc lv st lh = some o) : gOk G l p e R s m args below meth c Q own name cc d nL L0 S0 rt o pc lv st lh := by
  unfold gI_len at h
  split at h
  · rename_i i r
    split at h
    · rename_i y hi
      refine ⟨(hK _ _ _ _ h).1, fun X hE H locs cells slots ls hR hS hl h1 h2 => ?_⟩
      obtain ⟨hx, hb, hml, hown, hks, hG, hnm, hfr, hlo, hcc, hss⟩ := id X
      obtain ⟨c0, cell, c1, c2, c3, c4, c5, c6, c7⟩ := hR.2.2.2 i _ hi
      refine W.alen hx hb c1 c2 c5 rfl rfl hdg ?_
      exact (hK _ _ _ _ h).2 X hE _ _ _ _ _ hR hS hl h1 h2
    all_goals cases h
  all_goals cases h
theorem gw_iald (hK : ∀ pc lv st lh, K pc lv st lh = some o → gOk G l p e R s m args below meth c Q own name cc d nL L0 S0 rt o pc lv st lh) (hdg : decode cc pc = .ok (.iaload, 1)) (h : gI_ald K pc lv st lh (fun t => Nat.beq t 0) = some o) : gOk G l p e R s m args below meth c Q own name cc d nL L0 S0 rt o pc lv st lh := by
  unfold gI_ald at h
  split at h
  · rename_i x i r
    split at h
    · rename_i y hi
      obtain ⟨t, n, f⟩ := y
      dsimp only at h
      cases hq : (Nat.beq t 0 && gIn x n) with
      | false => rw [hq] at h; cases h
      | true =>
        rw [hq] at h
        rw [Bool.and_eq_true] at hq
        refine ⟨(hK _ _ _ _ h).1, fun X hE H locs cells slots ls hR hS hl h1 h2 => ?_⟩
        obtain ⟨hx, hb, hml, hown, hks, hG, hnm, hfr, hlo, hcc, hss⟩ := id X
        obtain ⟨c0, cell, c1, c2, c3, c4, c5, c6, c7⟩ := hR.2.2.2 i _ hi
        obtain ⟨hin, hlt⟩ := gIn_ok hq.2 c4
        have hv := c6 _ hlt
        have ht : t = 0 := Nat.eq_of_beq_eq_true hq.1
        subst ht
        refine W.iald hx hb c1 c2 c3 hin hv rfl rfl hdg ?_
        exact (hK _ _ _ _ h).2 X hE _ _ _ _ _ hR hS hl h1 h2
    all_goals cases h
  all_goals cases h
theorem gw_lald (hK : ∀ pc lv st lh, K pc lv st lh = some o → gOk G l p e R s m args below meth c Q own name cc d nL L0 S0 rt o pc lv st lh) (hdg : decode cc pc = .ok (.laload, 1)) (h : gI_ald K pc lv st lh (fun t => Nat.beq t 1) = some o) : gOk G l p e R s m args below meth c Q own name cc d nL L0 S0 rt o pc lv st lh := by
  unfold gI_ald at h
  split at h
  · rename_i x i r
    split at h
    · rename_i y hi
      obtain ⟨t, n, f⟩ := y
      dsimp only at h
      cases hq : (Nat.beq t 1 && gIn x n) with
      | false => rw [hq] at h; cases h
      | true =>
        rw [hq] at h
        rw [Bool.and_eq_true] at hq
        refine ⟨(hK _ _ _ _ h).1, fun X hE H locs cells slots ls hR hS hl h1 h2 => ?_⟩
        obtain ⟨hx, hb, hml, hown, hks, hG, hnm, hfr, hlo, hcc, hss⟩ := id X
        obtain ⟨c0, cell, c1, c2, c3, c4, c5, c6, c7⟩ := hR.2.2.2 i _ hi
        obtain ⟨hin, hlt⟩ := gIn_ok hq.2 c4
        have hv := c6 _ hlt
        have ht : t = 1 := Nat.eq_of_beq_eq_true hq.1
        subst ht
        refine W.lald hx hb c1 c2 c3 hin hv rfl rfl hdg ?_
        exact (hK _ _ _ _ h).2 X hE _ _ _ _ _ hR hS hl h1 h2
    all_goals cases h
  all_goals cases h
theorem gw_bald (hK : ∀ pc lv st lh, K pc lv st lh = some o → gOk G l p e R s m args below meth c Q own name cc d nL L0 S0 rt o pc lv st lh) (hdg : decode cc pc = .ok (.baload, 1)) (h : gI_ald K pc lv st lh (fun t => Nat.beq t 2 || Nat.beq t 3) = some o) : gOk G l p e R s m args below meth c Q own name cc d nL L0 S0 rt o pc lv st lh := by
  unfold gI_ald at h
  split at h
  · rename_i x i r
    split at h
    · rename_i y hi
      obtain ⟨t, n, f⟩ := y
      dsimp only at h
      cases hq : ((Nat.beq t 2 || Nat.beq t 3) && gIn x n) with
      | false => rw [hq] at h; cases h
      | true =>
        rw [hq] at h
        rw [Bool.and_eq_true] at hq
        refine ⟨(hK _ _ _ _ h).1, fun X hE H locs cells slots ls hR hS hl h1 h2 => ?_⟩
        obtain ⟨hx, hb, hml, hown, hks, hG, hnm, hfr, hlo, hcc, hss⟩ := id X
        obtain ⟨c0, cell, c1, c2, c3, c4, c5, c6, c7⟩ := hR.2.2.2 i _ hi
        obtain ⟨hin, hlt⟩ := gIn_ok hq.2 c4
        have hv := c6 _ hlt
        have ht := hq.1
        rw [Bool.or_eq_true] at ht
        rcases ht with ht | ht
        · have ht : t = 2 := Nat.eq_of_beq_eq_true ht
          subst ht
          refine W.bald hx hb c1 c2 c3 hin hv rfl rfl hdg ?_
          exact (hK _ _ _ _ h).2 X hE _ _ _ _ _ hR hS hl h1 h2
        · have ht : t = 3 := Nat.eq_of_beq_eq_true ht
          subst ht
          refine W.zald hx hb c1 c2 c3 hin hv rfl rfl hdg ?_
          exact (hK _ _ _ _ h).2 X hE _ _ _ _ _ hR hS hl h1 h2
    all_goals cases h
  all_goals cases h
theorem gw_aald (hK : ∀ pc lv st lh, K pc lv st lh = some o → gOk G l p e R s m args below meth c Q own name cc d nL L0 S0 rt o pc lv st lh) (hdg : decode cc pc = .ok (.aaload, 1)) (h : gI_ald K pc lv st lh (fun t => Nat.ble 4 t) = some o) : gOk G l p e R s m args below meth c Q own name cc d nL L0 S0 rt o pc lv st lh := by
  unfold gI_ald at h
  split at h
  · rename_i x i r
    split at h
    · rename_i y hi
      obtain ⟨t, n, f⟩ := y
      dsimp only at h
      cases hq : (Nat.ble 4 t && gIn x n) with
      | false => rw [hq] at h; cases h
      | true =>
        rw [hq] at h
        rw [Bool.and_eq_true] at hq
        refine ⟨(hK _ _ _ _ h).1, fun X hE H locs cells slots ls hR hS hl h1 h2 => ?_⟩
        obtain ⟨hx, hb, hml, hown, hks, hG, hnm, hfr, hlo, hcc, hss⟩ := id X
        obtain ⟨c0, cell, c1, c2, c3, c4, c5, c6, c7⟩ := hR.2.2.2 i _ hi
        obtain ⟨hin, hlt⟩ := gIn_ok hq.2 c4
        have hv := c6 _ hlt
        have ht : 4 ≤ t := Nat.le_of_ble_eq_true hq.1
        refine W.aald hx hb c1 c2 (gTy_ref ht c0) c3 hin hv rfl rfl hdg ?_
        exact (hK _ _ _ _ h).2 X hE _ _ _ _ _ hR hS hl h1 h2
    all_goals cases h
  all_goals cases h
theorem gArr_set {G : gG} {U : State} {lh : gH} {H H1 : Heap} {i t n k : Nat} {f : Nat → Value} {w : Value} {cell : Cell} (h : gR G U lh H) (hi7 : G.1 ≤ i) (hlt : k < n) (c0 : t < 7) (c2 : U.isArrayOf cell (gTy t)) (c3 : cell.vm ≠ .unknown) (c4 : n ≤ cell.slots.size) (c5 : cell.slots.size.toInt32 = Int32.ofNat n) (c6 : ∀ j, j < n → cell.slots[j]? = some (grv G (f j))) (c7 : G.1 ≤ i → cell.vm = .none ∧ va_RA U cell.cls (gTy t))
    (e1 : H1[gad G i]? = some (cell.setSlot k (grv G w))) (e2 : H1.size = H.size) (e3 : ∀ q, q ≠ gad G i → H1[q]? = H[q]?) : gR G U (lh.set i (.inr (t, n, gup f k w))) H1 := by
  have hz : (cell.setSlot k (grv G w)).slots.size = cell.slots.size := Array.size_setIfInBounds
  refine h.set hi7 ?_ e2 e3
  refine ⟨c0, _, e1, c2, c3, by rw [hz]; exact c4, by rw [hz]; exact c5, fun j hj => ?_, c7⟩
  show (cell.slots.setIfInBounds k (grv G w))[j]? = some (grv G (gup f k w j))
  rw [gup_at]
  unfold updV
  by_cases hjk : j = k
  · subst hjk
    have : j < cell.slots.size := Nat.lt_of_lt_of_le hj c4
    rw [if_pos rfl]
    simp [this]
  · rw [if_neg hjk, Array.getElem?_setIfInBounds_ne (Ne.symm hjk)]
    exact c6 j hj
theorem gw_iast (hK : ∀ pc lv st lh, K pc lv st lh = some o → gOk G l p e R s m args below meth c Q own name cc d nL L0 S0 rt o pc lv st lh) (hdg : decode cc pc = .ok (.iastore, 1)) (h : gI_ist K pc lv st lh (fun t => Nat.beq t 0) (fun _ w => .int w) = some o) : gOk G l p e R s m args below meth c Q own name cc d nL L0 S0 rt o pc lv st lh := by
  unfold gI_ist at h
  split at h
  · rename_i w x i r
    split at h
    · rename_i y hi
      obtain ⟨t, n, f⟩ := y
      dsimp only at h
      cases hq : (Nat.beq t 0 && (gIn x n && Nat.ble 7 i)) with
      | false => rw [hq] at h; cases h
      | true =>
        rw [hq] at h
        rw [Bool.and_eq_true, Bool.and_eq_true] at hq
        have hm := (hK _ _ _ _ h).1
        rw [List.length_set, gsz_set hi (by rfl)] at hm
        refine ⟨hm, fun X hE H locs cells slots ls hR hS hl h1 h2 => ?_⟩
        obtain ⟨hx, hb, hml, hown, hks, hG, hnm, hfr, hlo, hcc, hss⟩ := id X
        have hi7 : G.1 ≤ i := by rw [hG]; exact Nat.le_of_ble_eq_true hq.2.2
        obtain ⟨c0, cell, c1, c2, c3, c4, c5, c6, c7⟩ := hR.2.2.2 i _ hi
        obtain ⟨hin, hlt⟩ := gIn_ok hq.2.1 c4
        have ht : t = 0 := Nat.eq_of_beq_eq_true hq.1
        subst ht
        refine W.iast hx hb c1 c2 c3 hin rfl rfl hdg fun H' e1 e2 e3 => ?_
        exact (hK _ _ _ _ h).2 X hE _ _ _ _ _ (gArr_set hR hi7 hlt c0 c2 c3 c4 c5 c6 c7 e1 e2 e3) (hS.put e2 e3 (gad_in hi7)) hl (by rw [List.length_set]; exact h1) (by rw [gsz_set hi (by rfl)]; exact h2)
    all_goals cases h
  all_goals cases h
theorem gw_last (hK : ∀ pc lv st lh, K pc lv st lh = some o → gOk G l p e R s m args below meth c Q own name cc d nL L0 S0 rt o pc lv st lh) (hdg : decode cc pc = .ok (.lastore, 1)) (h : gI_last K pc lv st lh = some o) : gOk G l p e R s m args below meth c Q own name cc d nL L0 S0 rt o pc lv st lh := by
  unfold gI_last at h
  split at h
  · rename_i w x i r
    split at h
    · rename_i y hi
      obtain ⟨t, n, f⟩ := y
      dsimp only at h
      cases hq : (Nat.beq t 1 && (gIn x n && Nat.ble 7 i)) with
      | false => rw [hq] at h; cases h
      | true =>
        rw [hq] at h
        rw [Bool.and_eq_true, Bool.and_eq_true] at hq
        have hm := (hK _ _ _ _ h).1
        rw [List.length_set, gsz_set hi (by rfl)] at hm
        refine ⟨hm, fun X hE H locs cells slots ls hR hS hl h1 h2 => ?_⟩
        obtain ⟨hx, hb, hml, hown, hks, hG, hnm, hfr, hlo, hcc, hss⟩ := id X
        have hi7 : G.1 ≤ i := by rw [hG]; exact Nat.le_of_ble_eq_true hq.2.2
        obtain ⟨c0, cell, c1, c2, c3, c4, c5, c6, c7⟩ := hR.2.2.2 i _ hi
        obtain ⟨hin, hlt⟩ := gIn_ok hq.2.1 c4
        have ht : t = 1 := Nat.eq_of_beq_eq_true hq.1
        subst ht
        refine W.last hx hb c1 c2 c3 hin rfl rfl hdg fun H' e1 e2 e3 => ?_
        exact (hK _ _ _ _ h).2 X hE _ _ _ _ _ (gArr_set hR hi7 hlt c0 c2 c3 c4 c5 c6 c7 e1 e2 e3) (hS.put e2 e3 (gad_in hi7)) hl (by rw [List.length_set]; exact h1) (by rw [gsz_set hi (by rfl)]; exact h2)
    all_goals cases h
  all_goals cases h
theorem gw_bast (hK : ∀ pc lv st lh, K pc lv st lh = some o → gOk G l p e R s m args below meth c Q own name cc d nL L0 S0 rt o pc lv st lh) (hdg : decode cc pc = .ok (.bastore, 1)) (h : gI_ist K pc lv st lh (fun t => Nat.beq t 2 || Nat.beq t 3) (fun t w => narrow (gTy t) (.int w)) = some o) : gOk G l p e R s m args below meth c Q own name cc d nL L0 S0 rt o pc lv st lh := by
  unfold gI_ist at h
  split at h
  · rename_i w x i r
    split at h
    · rename_i y hi
      obtain ⟨t, n, f⟩ := y
      dsimp only at h
      cases hq : ((Nat.beq t 2 || Nat.beq t 3) && (gIn x n && Nat.ble 7 i)) with
      | false => rw [hq] at h; cases h
      | true =>
        rw [hq] at h
        rw [Bool.and_eq_true, Bool.and_eq_true] at hq
        have hm := (hK _ _ _ _ h).1
        rw [List.length_set, gsz_set hi (by rfl)] at hm
        refine ⟨hm, fun X hE H locs cells slots ls hR hS hl h1 h2 => ?_⟩
        obtain ⟨hx, hb, hml, hown, hks, hG, hnm, hfr, hlo, hcc, hss⟩ := id X
        have hi7 : G.1 ≤ i := by rw [hG]; exact Nat.le_of_ble_eq_true hq.2.2
        obtain ⟨c0, cell, c1, c2, c3, c4, c5, c6, c7⟩ := hR.2.2.2 i _ hi
        obtain ⟨hin, hlt⟩ := gIn_ok hq.2.1 c4
        have ht := hq.1
        rw [Bool.or_eq_true] at ht
        rcases ht with ht | ht
        · have ht : t = 2 := Nat.eq_of_beq_eq_true ht
          subst ht
          refine W.bast hx hb c1 c2 c3 hin rfl rfl hdg fun H' e1 e2 e3 => ?_
          exact (hK _ _ _ _ h).2 X hE _ _ _ _ _ (gArr_set hR hi7 hlt c0 c2 c3 c4 c5 c6 c7 e1 e2 e3) (hS.put e2 e3 (gad_in hi7)) hl (by rw [List.length_set]; exact h1) (by rw [gsz_set hi (by rfl)]; exact h2)
        · have ht : t = 3 := Nat.eq_of_beq_eq_true ht
          subst ht
          refine W.zast hx hb c1 c2 c3 hin rfl rfl hdg fun H' e1 e2 e3 => ?_
          exact (hK _ _ _ _ h).2 X hE _ _ _ _ _ (gArr_set hR hi7 hlt c0 c2 c3 c4 c5 c6 c7 e1 e2 e3) (hS.put e2 e3 (gad_in hi7)) hl (by rw [List.length_set]; exact h1) (by rw [gsz_set hi (by rfl)]; exact h2)
    all_goals cases h
  all_goals cases h
theorem gw_aast (hK : ∀ pc lv st lh, K pc lv st lh = some o → gOk G l p e R s m args below meth c Q own name cc d nL L0 S0 rt o pc lv st lh) (hdg : decode cc pc = .ok (.aastore, 1)) (h : gI_aast K pc lv st lh = some o) : gOk G l p e R s m args below meth c Q own name cc d nL L0 S0 rt o pc lv st lh := by
  unfold gI_aast at h
  split at h
  · rename_i w x i r
    split at h
    · rename_i y hi
      obtain ⟨t, n, f⟩ := y
      dsimp only at h
      split at h
      · rename_i ob hw
        obtain ⟨k, fv⟩ := ob
        dsimp only at h
        cases hq : (Nat.beq (gEl t) k && (gIn x n && Nat.ble 7 i)) with
        | false => rw [hq] at h; cases h
        | true =>
          rw [hq] at h
          rw [Bool.and_eq_true, Bool.and_eq_true] at hq
          have hm := (hK _ _ _ _ h).1
          rw [List.length_set, gsz_set hi (by rfl)] at hm
          refine ⟨hm, fun X hE H locs cells slots ls hR hS hl h1 h2 => ?_⟩
          obtain ⟨hx, hb, hml, hown, hks, hG, hnm, hfr, hlo, hcc, hss⟩ := id X
          have hi7 : G.1 ≤ i := by rw [hG]; exact Nat.le_of_ble_eq_true hq.2.2
          obtain ⟨c0, cell, c1, c2, c3, c4, c5, c6, c7⟩ := hR.2.2.2 i _ hi
          obtain ⟨d0, cv, d1, d2, d3, d4, d5, d6⟩ := hR.2.2.2 w _ hw
          obtain ⟨hin, hlt⟩ := gIn_ok hq.2.1 c4
          have hk : gEl t = k := Nat.eq_of_beq_eq_true hq.1
          have h3 : 3 < t := by
            rcases Nat.lt_or_ge 3 t with z | z
            · exact z
            · exfalso
              have h99 : gEl t = 99 := by
                rcases (show t = 0 ∨ t = 1 ∨ t = 2 ∨ t = 3 by omega) with rfl | rfl | rfl | rfl <;> rfl
              have d0' : k < 14 := d0
              omega
          obtain ⟨ht, hel⟩ := gTy_obj h3 c0
          have c8 := (c7 hi7).2
          rw [ht, hk] at c8
          obtain ⟨kA, comp, k1, k2, k3, -⟩ := c8
          have hcl := hks.2.1.2.1 k (by omega)
          have hcomp : comp = G.2.2.2.1 k := Option.some.inj (k3.symm.trans hcl.1)
          subst hcomp
          obtain ⟨kC, hkC, -⟩ := hcl.2
          refine W.aast hx hb c1 (fun q z => by rw [(c7 hi7).1] at z; cases z) c3 k1 k2 rfl hkC ⟨fun z => hin (Or.inl z), Nat.not_le.mp fun z => hin (Or.inr z)⟩ d1 (fun q z => by rw [z] at d4; cases d4) (by rw [d2]; exact hkC) (by rw [d2]; exact va_assign hcl) rfl rfl hdg fun H' e1 e2 e3 => ?_
          exact (hK _ _ _ _ h).2 X hE _ _ _ _ _ (gArr_set hR hi7 hlt c0 c2 c3 c4 c5 c6 c7 e1 e2 e3) (hS.put e2 e3 (gad_in hi7)) hl (by rw [List.length_set]; exact h1) (by rw [gsz_set hi (by rfl)]; exact h2)
      all_goals cases h
    all_goals cases h
  all_goals cases h
end GHEAP
