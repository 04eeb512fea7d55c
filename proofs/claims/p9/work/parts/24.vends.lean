/-! THE GENERATOR IS SOUND, on: returns, cuts, every instruction. -/
section VEIGHT
variable {T : Nat → Nat → vT} {P : vP} {W : List (Nat × Nat)} {Z : Bool} {m : Nat} {X : (Nat → Int) × gH} {K : vS → Nat → vL → List vV → vR} {Q : gO → Prop} {j d : Nat} {ρ : Nat → Int} {η : Nat → gH} {S : vS} {pc : Nat} {lv : vL} {st : List vV} {lv' : gL} {st' : List Value} {lh : gH} {l : List vG}
theorem vPin_map (R : vRt T P W Z m X ρ η S lh) : (List.range' 0 m).map ρ = (List.range' 0 m).map X.1 := by
  refine List.map_congr_left fun k hk => R.2.2.2.2.2.1 k ?_
  have := List.mem_range'_1.mp hk
  omega
theorem vEnd_ok {op : Nat} {ns : List Nat} {c : Int} (h : ∀ g ∈ [((S.2.2, (op, ns, [S.2.1], c)) : vG)], vOkm T P m g) (hop : 3000 ≤ op) (R : vRt T P W Z m X ρ η S lh) : fX2 T P op (bif Nat.ble 4000 op then (List.range' 0 m).map X.1 ++ ns.map ρ else ns.map ρ ++ (List.range' 0 m).map X.1) [X.2, lh] c := by
  have h1 := h _ List.mem_cons_self
  unfold vOkm vFin at h1
  dsimp only at h1
  rw [Nat.ble_eq.mpr hop] at h1
  have h2 := h1 ρ η (fun f hf => (R.1 f hf).2)
  unfold fD at h2
  dsimp only [cond_true] at h2
  rw [fX_call (by omega), List.map_cons, List.map_cons, List.map_nil, R.2.1, R.2.2.2.2.2.2] at h2
  cases hb : Nat.ble 4000 op with
  | true =>
    rw [hb] at h2
    dsimp only [cond_true] at h2 ⊢
    rw [List.map_append, vPin_map R] at h2
    exact h2
  | false =>
    rw [hb] at h2
    dsimp only [cond_false] at h2 ⊢
    rw [List.map_append, vPin_map R] at h2
    exact h2
theorem vRet_ok {rt : vT} {tg : Nat} (hQ : ∀ (lh : gH) (st' : List Value) (pc : Nat), WT T lh → hLw T W Z X.2 lh → (if rt.1 = 9 then st' = [] else ∃ v, st' = [v] ∧ vOK T lh rt v) → P.2.2.2.2.2.1 (st'.map vI ++ (List.range' 0 m).map X.1) X.2 lh → Q (lh, pc, st')) (h : vI_ret S pc st tg rt = some l) (hl : ∀ g ∈ l, vOkm T P m g) (R : vRt T P W Z m X ρ η S lh) (hst : vRS T ρ S.1 lh st st') : (rt.1 = tg ∨ tg = 2 ∧ rt.1 = 3) ∧ (tg = 9 → st' = []) ∧ (tg ≠ 9 → ∃ v, st' = [v] ∧ vOK T lh rt v) ∧ Q (lh, pc, st') := by
  unfold vI_ret at h
  cases ht : (Nat.beq rt.1 tg || (Nat.beq tg 2 && Nat.beq rt.1 3)) && Nat.beq rt.2.2.2 0 with
  | false => rw [ht] at h; cases h
  | true =>
    rw [ht] at h
    rw [Bool.and_eq_true, Bool.or_eq_true, Bool.and_eq_true] at ht
    obtain ⟨t1, t2⟩ := ht
    have e2 := Nat.eq_of_beq_eq_true t2
    have e1 : rt.1 = tg ∨ tg = 2 ∧ rt.1 = 3 := by
      rcases t1 with z | z
      · exact .inl (Nat.eq_of_beq_eq_true z)
      · exact .inr ⟨Nat.eq_of_beq_eq_true z.1, Nat.eq_of_beq_eq_true z.2⟩
    refine ⟨e1, ?_⟩
    have hh : hLw T W Z X.2 lh := by
      have := R.2.2.2.1 0 (Nat.zero_le _)
      rw [R.2.2.2.2.2.2] at this
      exact this
    match st, st', hst, h with
    | [], [], hst, h =>
      dsimp only [cond_true] at h
      cases h9 : Nat.beq tg 9 with
      | false => rw [h9] at h; cases h
      | true =>
        rw [h9] at h
        have e9 := Nat.eq_of_beq_eq_true h9
        have h2 := Option.some.inj h
        rw [← h2] at hl
        have g := vEnd_ok hl (Nat.le_refl _) R
        refine ⟨fun _ => rfl, fun z => absurd e9 z, hQ lh [] pc R.2.2.1 hh ?_ g⟩
        rw [if_pos (by omega)]
    | [w], [w'], hst, h =>
      dsimp only [cond_true] at h
      cases h9 : vFits rt w && !(Nat.beq tg 9) with
      | false => rw [h9] at h; cases h
      | true =>
        rw [h9] at h
        rw [Bool.and_eq_true] at h9
        have e9 : tg ≠ 9 := fun z => by rw [z] at h9; cases h9.2
        obtain ⟨l', h, hl, hb⟩ := vBounds_ok h h9.1 hst.1 hl R
        cases h
        have g := vEnd_ok hl (Nat.le_refl _) R
        have hok := vFits_ok h9.1 hst.1 e2 hb
        refine ⟨fun z => absurd z e9, fun _ => ⟨w', rfl, hok⟩, hQ lh [w'] pc R.2.2.1 hh ?_ ?_⟩
        · rw [if_neg (by omega)]
          exact ⟨w', rfl, hok⟩
        · show P.2.2.2.2.2.1 ([vI w'] ++ _) _ _
          rw [hst.1.val]
          exact g
    | [], _ :: _, hst, h => exact hst.elim
    | _ :: _, [], hst, h => exact hst.elim
    | [_], _ :: _ :: _, hst, h => exact hst.2.elim
    | _ :: _ :: _, _, hst, h => cases h
/-- what the slots of a cut hold -/
def vAts (T : Nat → Nat → vT) (lh : gH) (lv' : gL) : List (Nat × vT) → List Int → Prop
  | [], [] => True
  | q :: ls, y :: ys => (∃ v, gLk q.1 lv' = some v ∧ vI v = y ∧ vOK T lh q.2 v ∧ q.2.2.2.2 = 0) ∧ vAts T lh lv' ls ys
  | _, _ => False
theorem vArrL_ok : ∀ {ls : List (Nat × vT)} {ns : List Nat} {l : List vG}, vArrL S pc lv ls ns = some l → (∀ g ∈ l, vOkm T P m g) → vRt T P W Z m X ρ η S lh → vRL T ρ S.1 lh lv lv' → ∃ ys, vAts T lh lv' ls ys ∧ P.2.2.2.2.1 (pc : Int) ((List.range' 0 m).map X.1 ++ (ns.reverse.map ρ ++ ys)) X.2 lh := by
  intro ls
  induction ls with
  | nil =>
    intro ns l h hl R hlv
    replace h : some [((S.2.2, (4000, ns.reverse, [S.2.1], (pc : Int))) : vG)] = some l := h
    cases h
    have g := vEnd_ok hl (by decide) R
    refine ⟨[], trivial, ?_⟩
    rw [List.append_nil]
    exact g
  | cons q ls ih =>
    intro ns l h hl R hlv
    replace h : (match sLkV q.1 lv with
      | some w => bif vFits q.2 w && Nat.beq q.2.2.2.2 0 then vBounds S q.2 w.2.1 (vArrL S pc lv ls (w.2.1 :: ns)) else none
      | none => none) = some l := h
    cases hw : sLkV q.1 lv with
    | none => rw [hw] at h; cases h
    | some w =>
      rw [hw] at h
      dsimp only at h
      cases hc : vFits q.2 w && Nat.beq q.2.2.2.2 0 with
      | false => rw [hc] at h; cases h
      | true =>
        rw [hc] at h
        rw [Bool.and_eq_true] at hc
        obtain ⟨v, h1, h2⟩ := vLk_ok hlv hw
        obtain ⟨l1, h, hl, hb⟩ := vBounds_ok (r := vArrL S pc lv ls (w.2.1 :: ns)) h hc.1 h2 hl R
        obtain ⟨ys, g1, g2⟩ := ih h hl R hlv
        have e0 := Nat.eq_of_beq_eq_true hc.2
        refine ⟨ρ w.2.1 :: ys, ⟨⟨v, h1, h2.val, vFits_ok hc.1 h2 e0 hb, e0⟩, g1⟩, ?_⟩
        rw [List.reverse_cons, List.map_append, List.append_assoc] at g2
        exact g2
def rtOk (o : Option FieldType) (t : vT) : Bool := match o with
  | none => Nat.beq t.1 9
  | some .int => Nat.beq t.1 0
  | some .boolean => Nat.beq t.1 0 && (decide (0 ≤ t.2.1) && decide (t.2.2.1 ≤ 1))
  | some .long => Nat.beq t.1 1
  | some (.object _) => Nat.beq t.1 2 || Nat.beq t.1 3
  | some (.array _) => Nat.beq t.1 2 || Nat.beq t.1 3
  | _ => false
theorem gQ.two {F : (Nat → gL → List Value → gH → Option gO) → Option gO} (h : gQ Q j d F) : gQ2 Q j d (fun K _ => F K) := h
theorem nar_bool {x : Int32} (h1 : 0 ≤ x.toInt) (h2 : x.toInt ≤ 1) : narrow .boolean (.int x) = .int x := by
  have h3 : x.toInt = 0 ∨ x.toInt = 1 := by omega
  rcases h3 with z | z
  · have e : x = 0 := Int32.toInt_inj.mp z
    subst e
    rfl
  · have e : x = 1 := Int32.toInt_inj.mp z
    subst e
    rfl
section VINSOK
variable {Sg : Nat → Option vM} {rt : vT} {rt0 : Option FieldType} {dp : Bool} {a b : Nat} {v : Int}
theorem vIns_ok (hT1 : ∀ a b v lh, a < 100 → b < gN a → (T a b).2.2.2 = 0 → vOK T lh (T a b) v → gFit (gYt a b) v = true) (hT2 : ∀ k i, 100 ≤ k → T k i = T k 0) (hT3 : ∀ k, 100 ≤ k → (Nat.mod (k - 100) 8 = 2 → T k 0 = (0, -128, 127, 0)) ∧ (Nat.mod (k - 100) 8 = 3 → T k 0 = (0, 0, 1, 0))) (hSg : ∀ a m, Sg a = some m → a < 1000 ∧ gMeth T a d m (P.1 a) (P.2.1 a) ∧ P.2.2.2.2.2.2.1 a = m.2.2.2.2) (hrt : rtOk rt0 rt = true) (hQ : ∀ (lh : gH) (st' : List Value) (pc : Nat), WT T lh → hLw T W Z X.2 lh → (if rt.1 = 9 then st' = [] else ∃ v, st' = [v] ∧ vOK T lh rt v) → P.2.2.2.2.2.1 (st'.map vI ++ (List.range' 0 m).map X.1) X.2 lh → Q (lh, pc, st')) (hk0 : vK T P W Z m X K (gT_ Q j (d + 1))) (ins : Instr) (h : vIns T W Z Sg ins K rt S pc a b v lv st = some l) (hl : ∀ g ∈ l, vOkm T P m g) (R : vRt T P W Z m X ρ η S lh) (hlv : vRL T ρ S.1 lh lv lv') (hst : vRS T ρ S.1 lh st st') : gQ2 Q j (d + 1) (fun K C => gIns K C rt0 dp pc a b v lv' st' lh ins) := by
  cases ins with
  | iload_n k => exact (vq_iload hk0 h hl R hlv hst).two
  | iload k => exact (vq_iload hk0 h hl R hlv hst).two
  | lload_n k => exact (vq_lload hk0 h hl R hlv hst).two
  | lload k => exact (vq_lload hk0 h hl R hlv hst).two
  | aload_n k => exact (vq_aload hk0 h hl R hlv hst).two
  | aload k => exact (vq_aload hk0 h hl R hlv hst).two
  | istore_n k => exact (vq_istore hk0 h hl R hlv hst).two
  | istore k => exact (vq_istore hk0 h hl R hlv hst).two
  | lstore_n k => exact (vq_lstore hk0 h hl R hlv hst).two
  | lstore k => exact (vq_lstore hk0 h hl R hlv hst).two
  | astore_n k => exact (vq_astore hk0 h hl R hlv hst).two
  | astore k => exact (vq_astore hk0 h hl R hlv hst).two
  | iinc k n => exact (vq_iinc hk0 h hl R hlv hst).two
  | iconst n => exact (vq_int hk0 h hl R hlv hst).two
  | bipush n => exact (vq_int hk0 h hl R hlv hst).two
  | sipush n => exact (vq_int hk0 h hl R hlv hst).two
  | lconst n => exact (vq_long hk0 h hl R hlv hst).two
  | aconst_null =>
    replace h : vNew S (fun k => [(50, [k], [], 0)]) (fun k S => K S (pc + 1) lv ((4, k, 0, 0) :: st)) = some l := h
    unfold vNew at h
    rw [fNat_eq] at h
    have R2 := R.one (x := -1) (op := 50) (ns := []) (c := 0) (fun k hk => nomatch hk) (show (-1 : Int) = -1 from rfl)
    exact hk0 _ _ _ _ _ _ _ _ _ _ h hl R2 hlv.new (show vRS T _ (S.1 + 1) lh ((4, S.1, 0, 0) :: st) (.null :: st') from ⟨⟨Nat.lt_succ_self _, rfl, vUp_at _ _ _⟩, hst.new⟩)
  | ldc k =>
    replace h : (bif Nat.beq b 1 then none else vI_int K S pc lv st (Int32.ofInt v) 2) = some l := h
    cases hb : Nat.beq b 1 with
    | true => rw [hb] at h; cases h
    | false =>
      rw [hb] at h
      obtain ⟨n1, o, e, q⟩ := vq_int hk0 h hl R hlv hst
      refine ⟨n1, o, ?_, q⟩
      show (bif Nat.beq b 1 then _ else _) = _
      rw [hb]
      exact e
  | ldc_w k => exact (vq_int hk0 h hl R hlv hst).two
  | ldc2_w k => exact (vq_long hk0 h hl R hlv hst).two
  | iadd => exact (vq_bin (op := 1) (f := fun x y => x + y) (fun _ x y z => z.trans (o32_add x y)) hk0 h hl R hlv hst).two
  | isub => exact (vq_bin (op := 2) (f := fun x y => x - y) (fun _ x y z => z.trans (o32_sub x y)) hk0 h hl R hlv hst).two
  | imul => exact (vq_bin (op := 3) (f := fun x y => x * y) (fun _ x y z => z.trans (o32_mul x y)) hk0 h hl R hlv hst).two
  | iand => exact (vq_bin (op := 4) (f := fun x y => x &&& y) (fun _ _ _ z => z) hk0 h hl R hlv hst).two
  | ior => exact (vq_bin (op := 5) (f := fun x y => x ||| y) (fun _ _ _ z => z) hk0 h hl R hlv hst).two
  | ixor => exact (vq_bin (op := 6) (f := fun x y => x ^^^ y) (fun _ _ _ z => z) hk0 h hl R hlv hst).two
  | ishl => exact (vq_bin (op := 7) (f := fun x y => x <<< (y &&& 31)) (fun _ _ _ z => z) hk0 h hl R hlv hst).two
  | ishr => exact (vq_bin (op := 8) (f := fun x y => x >>> (y &&& 31)) (fun _ _ _ z => z) hk0 h hl R hlv hst).two
  | iushr => exact (vq_bin (op := 9) (f := fun x y => (x.toUInt32 >>> (y.toUInt32 &&& Int32.toUInt32 31)).toInt32) (fun _ _ _ z => z) hk0 h hl R hlv hst).two
  | idiv => exact (vq_div (op := 11) (f := fun x y => x / y) (fun _ _ _ z => z) hk0 h hl R hlv hst).two
  | irem => exact (vq_div (op := 12) (f := fun x y => x - x / y * y) (fun _ _ _ z => z) hk0 h hl R hlv hst).two
  | ineg => exact (vq_un (op := 14) (f := fun x => -x) (fun _ x z => z.trans (o32_neg x)) hk0 h hl R hlv hst).two
  | i2b => exact (vq_un (op := 15) (f := fun x => x.toInt8.toInt32) (fun _ _ z => z) hk0 h hl R hlv hst).two
  | i2c => exact (vq_un (op := 13) (f := fun x => (x.toUInt32 % 65536).toInt32) (fun _ _ z => z) hk0 h hl R hlv hst).two
  | ladd => exact (vq_lbin (op := 61) (f := fun x y => x + y) (fun _ _ _ z => z) hk0 h hl R hlv hst).two
  | lsub => exact (vq_lbin (op := 62) (f := fun x y => x - y) (fun _ _ _ z => z) hk0 h hl R hlv hst).two
  | lmul => exact (vq_lbin (op := 63) (f := fun x y => x * y) (fun _ _ _ z => z) hk0 h hl R hlv hst).two
  | ldiv => exact (vq_ldiv hk0 h hl R hlv hst).two
  | lcmp => exact (vq_lcmp hk0 h hl R hlv hst).two
  | i2l => exact (vq_i2l hk0 h hl R hlv hst).two
  | l2i => exact (vq_l2i hk0 h hl R hlv hst).two
  | dup => exact (vq_dup hk0 h hl R hlv hst).two
  | dup2 => exact (vq_dup2 hk0 h hl R hlv hst).two
  | pop => exact (vq_pop hk0 h hl R hlv hst).two
  | ifCond cd off => exact (vq_if hk0 h hl R hlv hst).two
  | if_icmp cd off => exact (vq_icmp hk0 h hl R hlv hst).two
  | ifnull off => exact (vq_ifnull hk0 h hl R hlv hst).two
  | ifnonnull off => exact (vq_ifnonnull hk0 h hl R hlv hst).two
  | goto off => exact hk0 _ _ _ _ _ _ _ _ _ _ h hl R hlv hst
  | tableswitch dflt lo hi offs => exact (vq_table hk0 h hl R hlv hst).two
  | lookupswitch dflt ps => exact (vq_lookup hk0 h hl R hlv hst).two
  | getfield k =>
    obtain ⟨st2, l2, h2, hl2, hst2⟩ := vNN_ok h hl R hst
    exact (vq_get hk0 h2 hl2 R hlv hst2).two
  | putfield k =>
    obtain ⟨st2, l2, h2, hl2, hst2⟩ := vNN_ok h hl R hst
    exact (vq_put hT1 hk0 h2 hl2 R hlv hst2).two
  | arraylength =>
    obtain ⟨st2, l2, h2, hl2, hst2⟩ := vNN_ok h hl R hst
    exact (vq_len hk0 h2 hl2 R hlv hst2).two
  | iaload =>
    obtain ⟨st2, l2, h2, hl2, hst2⟩ := vNN_ok (i := 1) (k := fun st => vI_ald T K S pc lv st (fun t => Nat.beq t 0)) h hl R hst
    exact (vq_ald (t := fun t => Nat.beq t 0) hT2 hk0 h2 hl2 R hlv hst2).two
  | laload =>
    obtain ⟨st2, l2, h2, hl2, hst2⟩ := vNN_ok (i := 1) (k := fun st => vI_ald T K S pc lv st (fun t => Nat.beq t 1)) h hl R hst
    exact (vq_ald (t := fun t => Nat.beq t 1) hT2 hk0 h2 hl2 R hlv hst2).two
  | baload =>
    obtain ⟨st2, l2, h2, hl2, hst2⟩ := vNN_ok (i := 1) (k := fun st => vI_ald T K S pc lv st (fun t => Nat.beq t 2 || Nat.beq t 3)) h hl R hst
    exact (vq_ald (t := fun t => Nat.beq t 2 || Nat.beq t 3) hT2 hk0 h2 hl2 R hlv hst2).two
  | aaload =>
    obtain ⟨st2, l2, h2, hl2, hst2⟩ := vNN_ok (i := 1) (k := fun st => vI_ald T K S pc lv st (fun t => Nat.ble 4 t)) h hl R hst
    exact (vq_ald (t := fun t => Nat.ble 4 t) hT2 hk0 h2 hl2 R hlv hst2).two
  | iastore =>
    obtain ⟨st2, l2, h2, hl2, hst2⟩ := vNN_ok h hl R hst
    exact (vq_iast hT2 hk0 h2 hl2 R hlv hst2).two
  | bastore =>
    obtain ⟨st2, l2, h2, hl2, hst2⟩ := vNN_ok h hl R hst
    exact (vq_bast hT2 hT3 hk0 h2 hl2 R hlv hst2).two
  | lastore =>
    obtain ⟨st2, l2, h2, hl2, hst2⟩ := vNN_ok h hl R hst
    exact (vq_last hT2 hk0 h2 hl2 R hlv hst2).two
  | aastore =>
    obtain ⟨st2, l2, h2, hl2, hst2⟩ := vNN_ok h hl R hst
    exact (vq_aast hT2 hk0 h2 hl2 R hlv hst2).two
  | invokevirtual k =>
    obtain ⟨st2, l2, h2, hl2, hst2⟩ := vNN_ok h hl R hst
    exact vq_virt hSg hk0 h2 hl2 R hlv hst2
  | invokestatic k => exact vq_stat hSg hk0 h hl R hlv hst
  | invokespecial k =>
    obtain ⟨st2, l2, h2, hl2, hst2⟩ := vNN_ok h hl R hst
    exact vq_spec hSg hk0 h2 hl2 R hlv hst2
  | ireturn =>
    obtain ⟨e1, e2, e3, q⟩ := vRet_ok (tg := 0) hQ h hl R hst
    obtain ⟨w, rfl, hw⟩ := e3 (by decide)
    have e4 : rt.1 = 0 := by omega
    unfold vOK at hw
    rw [e4] at hw
    obtain ⟨x, rfl, b1, b2⟩ := hw
    refine ⟨0, _, ?_, q⟩
    show gI_iret rt0 pc [.int x] lh = _
    unfold gI_iret
    unfold rtOk at hrt
    rw [e4] at hrt
    split at hrt
    · cases hrt
    · dsimp only
      rw [decide_eq_true (show narrow .int (.int x) = .int x from rfl)]
      rfl
    · rw [Bool.and_eq_true, Bool.and_eq_true, decide_eq_true_eq, decide_eq_true_eq] at hrt
      dsimp only
      rw [decide_eq_true (nar_bool (by omega) (by omega))]
      rfl
    · cases hrt
    · cases hrt
    · cases hrt
    · cases hrt
  | lreturn =>
    obtain ⟨e1, e2, e3, q⟩ := vRet_ok (tg := 1) hQ h hl R hst
    obtain ⟨w, rfl, hw⟩ := e3 (by decide)
    have e4 : rt.1 = 1 := by omega
    unfold vOK at hw
    rw [e4] at hw
    obtain ⟨x, rfl⟩ := hw
    refine ⟨0, _, ?_, q⟩
    show gI_lret rt0 pc [.long x] lh = _
    unfold gI_lret
    unfold rtOk at hrt
    rw [e4] at hrt
    split at hrt
    · cases hrt
    · cases hrt
    · cases hrt
    · rfl
    · cases hrt
    · cases hrt
    · cases hrt
  | areturn =>
    obtain ⟨e1, e2, e3, q⟩ := vRet_ok (tg := 2) hQ h hl R hst
    obtain ⟨w, rfl, hw⟩ := e3 (by decide)
    have e4 : rt.1 = 2 ∨ rt.1 = 3 := by omega
    have e5 : w = .null ∨ ∃ i, w = .ref i := by
      unfold vOK at hw
      rcases e4 with z | z
      · rw [z] at hw
        rcases hw with hw | ⟨i, hw, _⟩
        · exact .inl hw
        · exact .inr ⟨i, hw⟩
      · rw [z] at hw
        obtain ⟨i, hw, _⟩ := hw
        exact .inr ⟨i, hw⟩
    refine ⟨0, _, ?_, q⟩
    show gI_aret rt0 pc [w] lh = _
    unfold gI_aret
    unfold rtOk at hrt
    split at hrt
    · have := Nat.eq_of_beq_eq_true hrt; omega
    · have := Nat.eq_of_beq_eq_true hrt; omega
    · rw [Bool.and_eq_true] at hrt
      have := Nat.eq_of_beq_eq_true hrt.1; omega
    · have := Nat.eq_of_beq_eq_true hrt; omega
    · rcases e5 with rfl | ⟨i, rfl⟩ <;> rfl
    · rcases e5 with rfl | ⟨i, rfl⟩ <;> rfl
    · cases hrt
  | return_ =>
    obtain ⟨e1, e2, e3, q⟩ := vRet_ok (tg := 9) hQ h hl R hst
    have e5 := e2 rfl
    subst e5
    have e4 : rt.1 = 9 := by omega
    refine ⟨0, _, ?_, q⟩
    show gI_vret rt0 pc [] lh = _
    unfold gI_vret
    unfold rtOk at hrt
    rw [e4] at hrt
    split at hrt
    · rfl
    · cases hrt
    · cases hrt
    · cases hrt
    · cases hrt
    · cases hrt
    · cases hrt
  | _ => exact nomatch h
end VINSOK
end VEIGHT
