/-! NEW OBJECTS keep the types (printed by wip/gen/gen29.py). -/
theorem vPcT_none {l : List (Nat × Nat)} {o : Nat} (h : ∀ q ∈ l, q.1 ≠ o) : vPcT l o = 0 := by
  induction l with
  | nil => rfl
  | cons a l ih =>
    show (bif Nat.beq a.1 o then a.2 else vPcT l o) = 0
    cases hq : Nat.beq a.1 o with
    | true => exact absurd (Nat.eq_of_beq_eq_true hq) (h a List.mem_cons_self)
    | false => exact ih fun q hq => h q (List.mem_cons_of_mem _ hq)
theorem vPcs_chk : (vPcs.all fun q => Nat.blt q.1 358) = true := by decide +kernel
theorem vPc_new {o : Nat} (h : 358 ≤ o) : vPc o = 0 := by
  have hb : Nat.blt o 7 = false := by
    cases hq : Nat.blt o 7 with
    | false => rfl
    | true => have := Nat.blt_eq.mp hq; omega
  unfold vPc
  rw [hb]
  show vPcT vPcs o = 0
  refine vPcT_none fun q hq => ?_
  have := Nat.blt_eq.mp (List.all_eq_true.mp vPcs_chk q hq)
  omega
theorem vKd_last : vKd 357 = 101 + 8 * 73 := by decide +kernel
theorem KS.len {h : gH} (hk : KS h) : 358 ≤ h.length := by
  have h1 := hk 357 684 vKd_last
  have := hK_lt h1 (by decide)
  omega
theorem app_lo {h cs : gH} {o : Nat} (ho : o < h.length) : (h ++ cs)[o]? = h[o]? := List.getElem?_append_left ho
theorem app_hi {h cs : gH} {i : Nat} : (h ++ cs)[h.length + i]? = cs[i]? := by
  rw [List.getElem?_append_right (Nat.le_add_right _ _), Nat.add_sub_cancel_left]
theorem hLe.app {T : Nat → Nat → vT} (h cs : gH) : hLe T h (h ++ cs) := by
  refine ⟨by rw [List.length_append]; omega, fun o ho => ⟨?_, ?_, fun f _ _ _ => ?_⟩⟩
  · unfold hK; rw [app_lo ho]
  · unfold hN; rw [app_lo ho]
  · unfold hVal; rw [app_lo ho]
theorem hLw.app {T : Nat → Nat → vT} {W : List (Nat × Nat)} (h cs : gH) (hs : gsz cs ≤ 300 * cs.length) : hLw T W false h (h ++ cs) :=
  ⟨hLe.app h cs, fun o i ho _ => by unfold hVal; rw [app_lo ho], (fun z => nomatch z), by rw [List.length_append, show gsz (h ++ cs) = gsz h + gsz cs by unfold gsz; rw [List.map_append, List.sum_append]]; omega⟩
theorem WT.app {T : Nat → Nat → vT} {h cs : gH} (hw : WT T h) (hc : ∀ k, k < cs.length → ∀ i, i < hN (h ++ cs) (h.length + k) → vOK T (h ++ cs) (T (hK (h ++ cs) (h.length + k)) i) (hVal (h ++ cs) (h.length + k) i)) : WT T (h ++ cs) := by
  refine ⟨hw.1.le (hLe.app (T := T) h cs), fun o i ho hi => ?_⟩
  by_cases hl : o < h.length
  · have e1 : hK (h ++ cs) o = hK h o := by unfold hK; rw [app_lo hl]
    have e2 : hN (h ++ cs) o = hN h o := by unfold hN; rw [app_lo hl]
    have e3 : hVal (h ++ cs) o i = hVal h o i := by unfold hVal; rw [app_lo hl]
    rw [e2] at hi
    rw [e1, e3]
    exact (hw.2 o i hl hi).mono (hLe.app h cs)
  · rw [List.length_append] at ho
    have := hc (o - h.length) (by omega) i
    rw [show h.length + (o - h.length) = o by omega] at this
    exact this hi
theorem hK_obj {h cs : gH} {i k : Nat} {F : Nat → Value} (e : cs[i]? = some (.inl (k, F))) (hk : k < 100) : hK (h ++ cs) (h.length + i) = k ∧ hN (h ++ cs) (h.length + i) = gN k ∧ ∀ f, hVal (h ++ cs) (h.length + i) f = F f := by
  refine ⟨?_, ?_, fun f => ?_⟩
  · unfold hK; rw [app_hi, e]; exact if_pos hk
  · unfold hN; rw [app_hi, e]
  · unfold hVal; rw [app_hi, e]
theorem hK_row {h cs : gH} {i k n : Nat} {F : Nat → Value} {q : Nat} (e : cs[i]? = some (.inr (k, n, F))) (hq : 100 + k + 8 * vLn k n = q) (hk : k < 8) (h3 : 358 ≤ h.length) : hK (h ++ cs) (h.length + i) = q ∧ hN (h ++ cs) (h.length + i) = n ∧ ∀ f, hVal (h ++ cs) (h.length + i) f = F f := by
  refine ⟨?_, ?_, fun f => ?_⟩
  · unfold hK; rw [app_hi, e]
    show (if k < 8 then 100 + k + 8 * vPd (h.length + i) k n else 999) = _
    rw [if_pos hk, vPd_new (by omega)]
    exact hq
  · unfold hN; rw [app_hi, e]
  · unfold hVal; rw [app_hi, e]
theorem isA_row {h cs : gH} {i k n : Nat} {F : Nat → Value} {q : Nat} (e : cs[i]? = some (.inr (k, n, F))) (hq : 100 + k + 8 * vLn k n = q) (hk : k < 8) (h3 : 358 ≤ h.length) (hn : n ≤ 65536) (ht : (T0 q 0).2.2.2 = 0) (h9 : Nat.beq q 999 = false) : isA T0 (h ++ cs) q (n : Int) (h.length + i) := by
  have q9 : q ≠ 999 := fun e => by
    subst e
    exact absurd h9 (by decide)
  obtain ⟨a, b, c⟩ := hK_row e hq hk h3
  refine ⟨⟨q9, fun _ => by omega⟩, ⟨a, by rw [b]; exact hn⟩, .inr ?_, fun f _ hf => ?_⟩
  · rw [if_neg (by omega), b]
  · rw [T0_ok.2.1 _ _ (by omega)] at hf
    exact absurd ht hf
theorem vInt {T : Nat → Nat → vT} {h : gH} (x : Int32) : vOK T h (0, -2147483648, 2147483647, 0) (.int x) := by
  have a1 := Int32.le_toInt x
  have a2 := Int32.toInt_lt x
  exact ⟨x, rfl, by show -2147483648 ≤ x.toInt; omega, by show x.toInt ≤ 2147483647; omega⟩
def cs_new_117 (a0 a1 a2 a3 a4 : Int32) (L : Nat) : gH := [.inl (7, F_117 a0 a1 a2 a3 a4 L), .inr (0, 240, fun _ => defaultValue (gTy 0)), .inr (0, 8, fun _ => defaultValue (gTy 0))]
theorem new_117 {h : gH} (hw : WT T0 h) (a0 a1 a2 a3 a4 : Int32) : WT T0 (h ++ (cs_new_117 a0 a1 a2 a3 a4 h.length)) ∧ isA T0 (h ++ (cs_new_117 a0 a1 a2 a3 a4 h.length)) 7 (-1) h.length := by
  have h3 := hw.1.len
  have r0 : isA T0 (h ++ (cs_new_117 a0 a1 a2 a3 a4 h.length)) 780 (240 : Nat) (h.length + 1) := isA_row (k := 0) (n := 240) (q := 780) rfl rfl (by decide) h3 (by decide) rfl rfl
  have r1 : isA T0 (h ++ (cs_new_117 a0 a1 a2 a3 a4 h.length)) 788 (8 : Nat) (h.length + 2) := isA_row (k := 0) (n := 8) (q := 788) rfl rfl (by decide) h3 (by decide) rfl rfl
  obtain ⟨o1, o2, o3⟩ := hK_obj (h := h) (cs := (cs_new_117 a0 a1 a2 a3 a4 h.length)) (i := 0) (k := 7) (F := F_117 a0 a1 a2 a3 a4 h.length) rfl (by decide)
  refine ⟨hw.app fun q hq i hi => ?_, ?_⟩
  · match q, hq, hi with
    | 0, _, hi =>
      rw [o2] at hi
      rw [o1, o3]
      match i, hi with
      | 0, _ => exact vInt _
      | 1, _ => exact vInt _
      | 2, _ => exact vInt _
      | 3, _ => exact vInt _
      | 4, _ => exact .inr ⟨h.length + 1, rfl, r0, fun z => absurd z (by decide)⟩
      | 5, _ => exact .inr ⟨h.length + 2, rfl, r1, fun z => absurd z (by decide)⟩
      | 6, _ => exact vInt _
      | 7, _ => exact vInt _
      | 8, _ => exact vInt _
      | 9, _ => exact vInt _
      | 10, _ => exact .inl rfl
      | 11, _ => exact vInt _
      | 12, _ => exact vInt _
      | i + 13, hi => exact absurd (show i + 13 < 13 from hi) (by omega)
    | 1, _, hi =>
      obtain ⟨b1, b2, b3⟩ := hK_row (h := h) (cs := (cs_new_117 a0 a1 a2 a3 a4 h.length)) (i := 1) (k := 0) (n := 240) (q := 780) (F := fun _ => defaultValue (gTy 0)) rfl rfl (by decide) h3
      rw [b1, b3, T0_ok.2.1 _ _ (by decide)]
      exact vInt 0
    | 2, _, hi =>
      obtain ⟨b1, b2, b3⟩ := hK_row (h := h) (cs := (cs_new_117 a0 a1 a2 a3 a4 h.length)) (i := 2) (k := 0) (n := 8) (q := 788) (F := fun _ => defaultValue (gTy 0)) rfl rfl (by decide) h3
      rw [b1, b3, T0_ok.2.1 _ _ (by decide)]
      exact vInt 0
    | q + 3, hq, _ => exact absurd (show q + 3 < 3 from hq) (by omega)
  · refine ⟨⟨by decide, fun _ => by omega⟩, ⟨o1, by show hN _ (h.length + 0) ≤ 65536; rw [o2]; decide⟩, .inl (by decide), fun f hf hn => ?_⟩
    rw [show hVal (h ++ (cs_new_117 a0 a1 a2 a3 a4 h.length)) h.length f = F_117 a0 a1 a2 a3 a4 h.length f from o3 f]
    replace hf : f < 13 := by rw [show hN (h ++ (cs_new_117 a0 a1 a2 a3 a4 h.length)) h.length = gN 7 from o2] at hf; exact hf
    match f, hf, hn with
    | 0, _, hn => exact absurd rfl hn
    | 1, _, hn => exact absurd rfl hn
    | 2, _, hn => exact absurd rfl hn
    | 3, _, hn => exact absurd rfl hn
    | 4, _, _ => exact fun z => nomatch (show Value.ref _ = Value.null from z)
    | 5, _, _ => exact fun z => nomatch (show Value.ref _ = Value.null from z)
    | 6, _, hn => exact absurd rfl hn
    | 7, _, hn => exact absurd rfl hn
    | 8, _, hn => exact absurd rfl hn
    | 9, _, hn => exact absurd rfl hn
    | 10, _, hn => exact absurd rfl hn
    | 11, _, hn => exact absurd rfl hn
    | 12, _, hn => exact absurd rfl hn
    | f + 13, hf, _ => exact absurd hf (by omega)
def cs_new_22 (L : Nat) : gH := [.inl (1, F_22  L), .inr (0, 4, fun _ => defaultValue (gTy 0))]
theorem new_22 {h : gH} (hw : WT T0 h) : WT T0 (h ++ (cs_new_22  h.length)) ∧ isA T0 (h ++ (cs_new_22  h.length)) 1 (-1) h.length := by
  have h3 := hw.1.len
  have r0 : isA T0 (h ++ (cs_new_22  h.length)) 796 (4 : Nat) (h.length + 1) := isA_row (k := 0) (n := 4) (q := 796) rfl rfl (by decide) h3 (by decide) rfl rfl
  obtain ⟨o1, o2, o3⟩ := hK_obj (h := h) (cs := (cs_new_22  h.length)) (i := 0) (k := 1) (F := F_22  h.length) rfl (by decide)
  refine ⟨hw.app fun q hq i hi => ?_, ?_⟩
  · match q, hq, hi with
    | 0, _, hi =>
      rw [o2] at hi
      rw [o1, o3]
      match i, hi with
      | 0, _ => exact vInt _
      | 1, _ => exact vInt _
      | 2, _ => exact vInt _
      | 3, _ => exact vInt _
      | 4, _ => exact vInt _
      | 5, _ => exact vInt _
      | 6, _ => exact vInt _
      | 7, _ => exact vInt _
      | 8, _ => exact vInt _
      | 9, _ => exact vInt _
      | 10, _ => exact vInt _
      | 11, _ => exact vInt _
      | 12, _ => exact vInt _
      | 13, _ => exact vInt _
      | 14, _ => exact vInt _
      | 15, _ => exact vInt _
      | 16, _ => exact vInt _
      | 17, _ => exact .inr ⟨h.length + 1, rfl, r0, fun z => absurd z (by decide)⟩
      | 18, _ => exact vInt _
      | i + 19, hi => exact absurd (show i + 19 < 19 from hi) (by omega)
    | 1, _, hi =>
      obtain ⟨b1, b2, b3⟩ := hK_row (h := h) (cs := (cs_new_22  h.length)) (i := 1) (k := 0) (n := 4) (q := 796) (F := fun _ => defaultValue (gTy 0)) rfl rfl (by decide) h3
      rw [b1, b3, T0_ok.2.1 _ _ (by decide)]
      exact vInt 0
    | q + 2, hq, _ => exact absurd (show q + 2 < 2 from hq) (by omega)
  · refine ⟨⟨by decide, fun _ => by omega⟩, ⟨o1, by show hN _ (h.length + 0) ≤ 65536; rw [o2]; decide⟩, .inl (by decide), fun f hf hn => ?_⟩
    rw [show hVal (h ++ (cs_new_22  h.length)) h.length f = F_22  h.length f from o3 f]
    replace hf : f < 19 := by rw [show hN (h ++ (cs_new_22  h.length)) h.length = gN 1 from o2] at hf; exact hf
    match f, hf, hn with
    | 0, _, hn => exact absurd rfl hn
    | 1, _, hn => exact absurd rfl hn
    | 2, _, hn => exact absurd rfl hn
    | 3, _, hn => exact absurd rfl hn
    | 4, _, hn => exact absurd rfl hn
    | 5, _, hn => exact absurd rfl hn
    | 6, _, hn => exact absurd rfl hn
    | 7, _, hn => exact absurd rfl hn
    | 8, _, hn => exact absurd rfl hn
    | 9, _, hn => exact absurd rfl hn
    | 10, _, hn => exact absurd rfl hn
    | 11, _, hn => exact absurd rfl hn
    | 12, _, hn => exact absurd rfl hn
    | 13, _, hn => exact absurd rfl hn
    | 14, _, hn => exact absurd rfl hn
    | 15, _, hn => exact absurd rfl hn
    | 16, _, hn => exact absurd rfl hn
    | 17, _, _ => exact fun z => nomatch (show Value.ref _ = Value.null from z)
    | 18, _, hn => exact absurd rfl hn
    | f + 19, hf, _ => exact absurd hf (by omega)
def cs_new_114 (a0 : Int32) (L : Nat) : gH := [.inl (6, F_114 a0 L), .inr (6, 40, fun _ => defaultValue (gTy 6))]
theorem new_114 {h : gH} (hw : WT T0 h) (a0 : Int32) : WT T0 (h ++ (cs_new_114 a0 h.length)) ∧ isA T0 (h ++ (cs_new_114 a0 h.length)) 6 (-1) h.length := by
  have h3 := hw.1.len
  have r0 : isA T0 (h ++ (cs_new_114 a0 h.length)) 106 (40 : Nat) (h.length + 1) := isA_row (k := 6) (n := 40) (q := 106) rfl rfl (by decide) h3 (by decide) rfl rfl
  obtain ⟨o1, o2, o3⟩ := hK_obj (h := h) (cs := (cs_new_114 a0 h.length)) (i := 0) (k := 6) (F := F_114 a0 h.length) rfl (by decide)
  refine ⟨hw.app fun q hq i hi => ?_, ?_⟩
  · match q, hq, hi with
    | 0, _, hi =>
      rw [o2] at hi
      rw [o1, o3]
      match i, hi with
      | 0, _ => exact vInt _
      | 1, _ => exact .inr ⟨h.length + 1, rfl, r0, fun z => absurd z (by decide)⟩
      | 2, _ => exact ⟨_, rfl, by decide, by decide⟩
      | 3, _ => exact vInt _
      | 4, _ => exact vInt _
      | i + 5, hi => exact absurd (show i + 5 < 5 from hi) (by omega)
    | 1, _, hi =>
      obtain ⟨b1, b2, b3⟩ := hK_row (h := h) (cs := (cs_new_114 a0 h.length)) (i := 1) (k := 6) (n := 40) (q := 106) (F := fun _ => defaultValue (gTy 6)) rfl rfl (by decide) h3
      rw [b1, b3, T0_ok.2.1 _ _ (by decide)]
      exact .inl rfl
    | q + 2, hq, _ => exact absurd (show q + 2 < 2 from hq) (by omega)
  · refine ⟨⟨by decide, fun _ => by omega⟩, ⟨o1, by show hN _ (h.length + 0) ≤ 65536; rw [o2]; decide⟩, .inl (by decide), fun f hf hn => ?_⟩
    rw [show hVal (h ++ (cs_new_114 a0 h.length)) h.length f = F_114 a0 h.length f from o3 f]
    replace hf : f < 5 := by rw [show hN (h ++ (cs_new_114 a0 h.length)) h.length = gN 6 from o2] at hf; exact hf
    match f, hf, hn with
    | 0, _, hn => exact absurd rfl hn
    | 1, _, _ => exact fun z => nomatch (show Value.ref _ = Value.null from z)
    | 2, _, hn => exact absurd rfl hn
    | 3, _, hn => exact absurd rfl hn
    | 4, _, hn => exact absurd rfl hn
    | f + 5, hf, _ => exact absurd hf (by omega)
theorem gs {n j d pc : Nat} {lv : gL} {st : List Value} {lh : gH} {e : gE} (h : gAtt j pc = some e) : gRun (n + 1) j d pc lv st lh = gIns (gRun n j d) (gCall (gRun n) d) (gRt j) (Nat.ble 1 d) pc e.2.2.1 e.2.2.2.1 e.2.2.2.2.1 lv st lh e.2.1 := by
  rw [gRun_succ]
  unfold gStep
  rw [h]
theorem z_new {K : Nat → gL → List Value → gH → Option gO} {pc a : Nat} {lv : gL} {st : List Value} {lh : gH} (q : Nat) (hq : pc + 3 = q) : gI_new K pc a lv st lh = K q lv (.ref lh.length :: st) (lh ++ [.inl (a, fun j => defaultValue (gYt a j))]) := by
  subst hq
  rfl
theorem z_dup {K : Nat → gL → List Value → gH → Option gO} {pc i : Nat} {lv : gL} {r : List Value} {lh : gH} (q : Nat) (hq : pc + 1 = q) : gI_dup K pc lv (.ref i :: r) lh = K q lv (.ref i :: .ref i :: r) lh := by
  subst hq
  rfl
theorem z_iload {K : Nat → gL → List Value → gH → Option gO} {pc i n : Nat} {lv : gL} {st : List Value} {lh : gH} {x : Int32} (h : gLk i lv = some (.int x)) (q : Nat) (hq : pc + n = q) : gI_iload K pc lv st lh i n = K q lv (.int x :: st) lh := by
  subst hq
  unfold gI_iload
  rw [h]
theorem z_aload {K : Nat → gL → List Value → gH → Option gO} {pc i n : Nat} {lv : gL} {st : List Value} {lh : gH} {x : Nat} (h : gLk i lv = some (.ref x)) (q : Nat) (hq : pc + n = q) : gI_aload K pc lv st lh i n = K q lv (.ref x :: st) lh := by
  subst hq
  unfold gI_aload
  rw [h]
theorem z_astore {K : Nat → gL → List Value → gH → Option gO} {pc i n x : Nat} {lv : gL} {r : List Value} {lh : gH} (q : Nat) (hq : pc + n = q) : gI_astore K pc lv (.ref x :: r) lh i n = K q (gSt1 lv i (.ref x)) r lh := by
  subst hq
  rfl
theorem z_back {K : Nat → gL → List Value → gH → Option gO} {lv : gL} {n : Nat} {r : List Value} {x : Option gO} {h : gH} {p : Nat} {pc : Nat} (e : x = some (h, p, [])) (q : Nat) (hq : pc + n = q) : gBack K pc lv n r x = K q lv r h := by
  subst hq
  rw [e]
  rfl
theorem z_spec0 {K : Nat → gL → List Value → gH → Option gO} {ih : Nat → Nat → Nat → gL → List Value → gH → Option gO} {dp : Bool} {d pc a i : Nat} {lv : gL} {lh : gH} (ha : Nat.beq a 9999 = false) (hm : Nat.ble 1 (gMax a) = true) : gI_spec K (gCall ih (d + 1)) dp pc a 0 lv [.ref i, .ref i] lh = gBack K pc lv 3 [.ref i] (ih a d 0 (lv_args 0 [.ref i]) [] lh) := by
  unfold gI_spec
  rw [ha]
  show (bif true then gBack K pc lv 3 [.ref i] (bif Nat.ble 1 (gMax a) then ih a d 0 (lv_args 0 [.ref i]) [] lh else none) else none) = _
  rw [hm]
  rfl
theorem z_spec1 {K : Nat → gL → List Value → gH → Option gO} {ih : Nat → Nat → Nat → gL → List Value → gH → Option gO} {dp : Bool} {d pc a i : Nat} {lv : gL} {lh : gH} {v1 : Int32} (ha : Nat.beq a 9999 = false) (hm : Nat.ble 2 (gMax a) = true) : gI_spec K (gCall ih (d + 1)) dp pc a 1 lv [.int v1, .ref i, .ref i] lh = gBack K pc lv 3 [.ref i] (ih a d 0 (lv_args 0 [.ref i, .int v1]) [] lh) := by
  unfold gI_spec
  rw [ha]
  show (bif true then gBack K pc lv 3 [.ref i] (bif Nat.ble 2 (gMax a) then ih a d 0 (lv_args 0 [.ref i, .int v1]) [] lh else none) else none) = _
  rw [hm]
  rfl
theorem z_spec5 {K : Nat → gL → List Value → gH → Option gO} {ih : Nat → Nat → Nat → gL → List Value → gH → Option gO} {dp : Bool} {d pc a i : Nat} {lv : gL} {lh : gH} {v1 v2 v3 v4 v5 : Int32} (ha : Nat.beq a 9999 = false) (hm : Nat.ble 6 (gMax a) = true) : gI_spec K (gCall ih (d + 1)) dp pc a 5 lv [.int v5, .int v4, .int v3, .int v2, .int v1, .ref i, .ref i] lh = gBack K pc lv 3 [.ref i] (ih a d 0 (lv_args 0 [.ref i, .int v1, .int v2, .int v3, .int v4, .int v5]) [] lh) := by
  unfold gI_spec
  rw [ha]
  show (bif true then gBack K pc lv 3 [.ref i] (bif Nat.ble 6 (gMax a) then ih a d 0 (lv_args 0 [.ref i, .int v1, .int v2, .int v3, .int v4, .int v5]) [] lh else none) else none) = _
  rw [hm]
  rfl
theorem vAts_inv {T : Nat → Nat → vT} {lh : gH} {lv : gL} {q : Nat × vT} {ls : List (Nat × vT)} {ys : List Int} (h : vAts T lh lv (q :: ls) ys) : ∃ y t, ys = y :: t ∧ (∃ v, gLk q.1 lv = some v ∧ vI v = y ∧ vOK T lh q.2 v ∧ q.2.2.2.2 = 0) ∧ vAts T lh lv ls t := by
  cases ys with
  | nil => exact h.elim
  | cons y t => exact ⟨y, t, rfl, h.1, h.2⟩
theorem vAts_nil {T : Nat → Nat → vT} {lh : gH} {lv : gL} {ys : List Int} (h : vAts T lh lv [] ys) : ys = [] := by
  cases ys with
  | nil => rfl
  | cons y t => exact h.elim
/-- a store at i leaves the other slots -/
theorem vAts.sto {T : Nat → Nat → vT} {lh lh' : gH} {lv : gL} {i : Nat} {v : Value} (hh : hLe T lh lh') : ∀ {ls : List (Nat × vT)} {ys : List Int}, (ls.all fun q => !(Nat.beq q.1 i) && !(Nat.beq (q.1 + 1) i && Nat.beq q.2.1 1)) = true → vAts T lh lv ls ys → vAts T lh' (gSt1 lv i v) ls ys := by
  intro ls
  induction ls with
  | nil => intro ys _ h; cases ys with
    | nil => exact trivial
    | cons y t => exact h.elim
  | cons q ls ih =>
    intro ys hc h
    cases ys with
    | nil => exact h.elim
    | cons y t =>
      rw [List.all_cons, Bool.and_eq_true] at hc
      obtain ⟨⟨w, h1, h2, h3, h4⟩, h5⟩ := h
      refine ⟨⟨w, ?_, h2, h3.mono hh, h4⟩, ih hc.2 h5⟩
      have hc1 := hc.1
      rw [Bool.and_eq_true] at hc1
      have n1 : q.1 ≠ i := fun z => by rw [z, Nat.beq_refl] at hc1; cases hc1.1
      have n2 : ¬ (q.1 + 1 = i ∧ w.category = 2) := fun z => by
        have hcat := h3.cat
        rw [z.2] at hcat
        cases hb : Nat.beq q.2.1 1 with
        | true => rw [hb, z.1, Nat.beq_refl] at hc1; cases hc1.2
        | false => rw [hb] at hcat; cases hcat
      show (bif Nat.beq i q.1 then some v else gLk q.1 (lv.filter _)) = _
      cases hb : Nat.beq i q.1 with
      | true => exact absurd (Nat.eq_of_beq_eq_true hb).symm n1
      | false =>
        exact gLk_filter (fun s c => !(s == i) && !(s + 1 == i && c == 2)) (by
          show (!(q.1 == i) && !(q.1 + 1 == i && w.category == 2)) = true
          rw [Bool.and_eq_true]
          refine ⟨by rw [beq_false_of_ne n1]; rfl, ?_⟩
          cases hx : (q.1 + 1 == i && w.category == 2) with
          | false => rfl
          | true =>
            rw [Bool.and_eq_true, beq_iff_eq, beq_iff_eq] at hx
            exact absurd hx n2) h1
theorem vAts.snoc {T : Nat → Nat → vT} {lh : gH} {lv : gL} {q : Nat × vT} {y : Int} (h2 : ∃ v, gLk q.1 lv = some v ∧ vI v = y ∧ vOK T lh q.2 v ∧ q.2.2.2.2 = 0) : ∀ {ls : List (Nat × vT)} {ys : List Int}, vAts T lh lv ls ys → vAts T lh lv (ls ++ [q]) (ys ++ [y]) := by
  intro ls
  induction ls with
  | nil => intro ys h; cases ys with
    | nil => exact ⟨h2, trivial⟩
    | cons y t => exact h.elim
  | cons q' ls ih => intro ys h; cases ys with
    | nil => exact h.elim
    | cons y' t => exact ⟨h.1, ih h.2⟩
