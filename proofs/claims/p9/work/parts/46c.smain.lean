/-! THE SYMBOLIC RUN COVERS THE PURE RUN: the whole. -/
theorem s_args_ok {ρ : Nat → Int32} : ∀ {as : List sV} {as' : List Value} (k : Nat), sRS ρ as as' → sRL ρ (s_args k as) (lv_args k as') := by
  intro as
  induction as with
  | nil => intro as' k h; cases as' with
    | nil => exact trivial
    | cons b m => exact h.elim
  | cons a l ih => intro as' k h; cases as' with
    | nil => exact h.elim
    | cons b m =>
      show (k = k ∧ sRel ρ a b) ∧ sRL ρ (s_args (bif Nat.beq (sCat a) 2 then k + 2 else k + 1) l) (lv_args (if b.category = 2 then k + 2 else k + 1) m)
      rw [sCat_ok h.1]
      cases hq : Nat.beq (sCat a) 2 with
      | true =>
        rw [if_pos (Nat.eq_of_beq_eq_true hq)]
        exact ⟨⟨rfl, h.1⟩, ih _ h.2⟩
      | false =>
        rw [if_neg (Nat.ne_of_beq_eq_false hq)]
        exact ⟨⟨rfl, h.1⟩, ih _ h.2⟩
theorem s_sl_ok {ρ : Nat → Int32} : ∀ {as : List sV} {as' : List Value}, sRS ρ as as' → s_sl as = (lg_sl as').length := by
  intro as
  induction as with
  | nil => intro as' h; cases as' with
    | nil => rfl
    | cons b m => exact h.elim
  | cons a l ih => intro as' h; cases as' with
    | nil => exact h.elim
    | cons b m =>
      have e := ih h.2
      unfold s_sl lg_sl at e ⊢
      rw [List.map_cons, List.sum_cons, List.flatMap_cons, List.length_append, ← e, ← sCat_ok h.1]
      rcases lv_cat b with hc | hc <;> simp [hc]
theorem sCall_ok {ρ : Nat → Int32} {n : Nat} (IH : ∀ (cs : sI) (j d pc : Nat) (lv : sL) (lv' : gL) (st : List sV) (st' : List Value) (lh : sH) (lh' : gH), sOK ρ cs → sRL ρ lv lv' → sRS ρ st st' → sRH ρ lh lh' → sSim ρ (sRun n cs j d pc lv st lh) (gRun n j d pc lv' st' lh')) (d a : Nat) (cs : sI) (as : List sV) (as' : List Value) (lh : sH) (lh' : gH) (hcs : sOK ρ cs) (has : sRS ρ as as') (hlh : sRH ρ lh lh') : sSim ρ (sCall (sRun n) d cs a as lh) (gCall (gRun n) d a as' lh') := by
  cases d with
  | zero => exact sSim.none
  | succ d =>
    show sSim ρ (bif Nat.ble (s_sl as) (gMax a) then _ else _) (bif Nat.ble (lg_sl as').length (gMax a) then _ else _)
    rw [s_sl_ok has]
    cases Nat.ble (lg_sl as').length (gMax a) with
    | false => exact sSim.none
    | true => exact IH _ _ _ _ _ _ _ _ _ _ hcs (s_args_ok 0 has) trivial hlh
set_option maxHeartbeats 4000000 in
theorem sMain {ρ : Nat → Int32} : ∀ (n : Nat) (cs : sI) (j d pc : Nat) (lv : sL) (lv' : gL) (st : List sV) (st' : List Value) (lh : sH) (lh' : gH), sOK ρ cs → sRL ρ lv lv' → sRS ρ st st' → sRH ρ lh lh' → sSim ρ (sRun n cs j d pc lv st lh) (gRun n j d pc lv' st' lh') := by
  intro n
  induction n with
  | zero =>
    intro cs j d pc lv lv' st st' lh lh' _ _ _ _
    exact sSim.none
  | succ n IH =>
  intro cs j d pc lv lv' st st' lh lh' hcs hlv hst hlh
  rw [sRun_succ, gRun_succ]
  unfold sStep gStep
  rw [fNat_eq, sAtt_eq]
  cases gAtt j pc with
  | none => exact sSim.none
  | some e =>
  obtain ⟨pc0, ins, a, b, v, ts⟩ := e
  dsimp only
  have hK : ∀ (cs : sI) (pc : Nat) (lv : sL) (lv' : gL) (st : List sV) (st' : List Value) (lh : sH) (lh' : gH), sOK ρ cs → sRL ρ lv lv' → sRS ρ st st' → sRH ρ lh lh' → sSim ρ ((fun cs => sRun n cs j d) cs pc lv st lh) (gRun n j d pc lv' st' lh') := fun cs pc lv lv' st st' lh lh' q1 q2 q3 q4 => IH cs j d pc lv lv' st st' lh lh' q1 q2 q3 q4
  have hC : ∀ (cs : sI) (as : List sV) (as' : List Value) (lh : sH) (lh' : gH), sOK ρ cs → sRS ρ as as' → sRH ρ lh lh' → sSim ρ (sCall (sRun n) d cs a as lh) (gCall (gRun n) d a as' lh') := fun cs as as' lh lh' q1 q2 q3 => sCall_ok IH d a cs as as' lh lh' q1 q2 q3
  cases ins with
  | iload_n k => exact ss_iload hK hcs hlv hst hlh
  | iload k => exact ss_iload hK hcs hlv hst hlh
  | lload_n k => exact ss_lload hK hcs hlv hst hlh
  | lload k => exact ss_lload hK hcs hlv hst hlh
  | aload_n k => exact ss_aload hK hcs hlv hst hlh
  | aload k => exact ss_aload hK hcs hlv hst hlh
  | istore_n k => exact ss_istore hK hcs hlv hst hlh
  | istore k => exact ss_istore hK hcs hlv hst hlh
  | lstore_n k => exact ss_lstore hK hcs hlv hst hlh
  | lstore k => exact ss_lstore hK hcs hlv hst hlh
  | astore_n k => exact ss_astore hK hcs hlv hst hlh
  | astore k => exact ss_astore hK hcs hlv hst hlh
  | iinc k n => exact ss_iinc hK hcs hlv hst hlh
  | iconst n => exact ss_int hK hcs hlv hst hlh
  | bipush n => exact ss_int hK hcs hlv hst hlh
  | sipush n => exact ss_int hK hcs hlv hst hlh
  | lconst n => exact ss_long hK hcs hlv hst hlh
  | aconst_null => exact hK _ _ _ _ _ _ _ _ hcs hlv (And.intro rfl hst) hlh
  | ldc k =>
    show sSim ρ (bif Nat.beq b 1 then _ else _) (bif Nat.beq b 1 then _ else _)
    cases Nat.beq b 1 with
    | true => exact hK _ _ _ _ _ _ _ _ hcs hlv (And.intro rfl hst) hlh
    | false => exact ss_int hK hcs hlv hst hlh
  | ldc_w k => exact ss_int hK hcs hlv hst hlh
  | ldc2_w k => exact ss_long hK hcs hlv hst hlh
  | iadd => exact ss_bin hK hcs hlv hst hlh (fun X Y x y _ _ => sAny_ok _ X Y x y)
  | isub => exact ss_bin hK hcs hlv hst hlh (fun X Y x y _ _ => sAny_ok _ X Y x y)
  | imul => exact ss_bin hK hcs hlv hst hlh (fun X Y x y _ _ => sAny_ok _ X Y x y)
  | iand => exact ss_bin hK hcs hlv hst hlh (fun X Y x y _ hy => sAnd_ok hy)
  | ior => exact ss_bin hK hcs hlv hst hlh (fun X Y x y _ _ => sAny_ok _ X Y x y)
  | ixor => exact ss_bin hK hcs hlv hst hlh (fun X Y x y _ _ => sAny_ok _ X Y x y)
  | ishl => exact ss_bin hK hcs hlv hst hlh (fun X Y x y _ _ => sAny_ok (fun x y => x <<< (y &&& 31)) X Y x y)
  | ishr => exact ss_bin hK hcs hlv hst hlh (fun X Y x y _ _ => sAny_ok (fun x y => x >>> (y &&& 31)) X Y x y)
  | iushr => exact ss_bin hK hcs hlv hst hlh (fun X Y x y _ _ => sAny_ok (fun x y => (x.toUInt32 >>> (y.toUInt32 &&& Int32.toUInt32 31)).toInt32) X Y x y)
  | idiv => exact ss_div hK hcs hlv hst hlh
  | irem => exact ss_div hK hcs hlv hst hlh
  | ineg => exact ss_un hK hcs hlv hst hlh
  | i2b => exact ss_un hK hcs hlv hst hlh
  | i2c => exact ss_un hK hcs hlv hst hlh
  | ladd => exact ss_lbin hK hcs hlv hst hlh
  | lsub => exact ss_lbin hK hcs hlv hst hlh
  | lmul => exact ss_lbin hK hcs hlv hst hlh
  | ldiv => exact ss_ldiv hK hcs hlv hst hlh
  | lcmp => exact ss_lcmp hK hcs hlv hst hlh
  | i2l => exact ss_i2l hK hcs hlv hst hlh
  | l2i => exact ss_l2i hK hcs hlv hst hlh
  | dup => exact ss_dup hK hcs hlv hst hlh
  | dup2 => exact ss_dup2 hK hcs hlv hst hlh
  | pop => exact ss_pop hK hcs hlv hst hlh
  | ifCond cd off => exact ss_if hK hcs hlv hst hlh
  | if_icmp cd off => exact ss_icmp hK hcs hlv hst hlh
  | ifnull off => exact ss_ifnull hK hcs hlv hst hlh
  | ifnonnull off => exact ss_ifnonnull hK hcs hlv hst hlh
  | goto off => exact hK _ _ _ _ _ _ _ _ hcs hlv hst hlh
  | tableswitch dflt lo hi offs => exact ss_table hK hcs hlv hst hlh
  | getfield k => exact ss_get hK hcs hlv hst hlh
  | putfield k => exact ss_put hK hcs hlv hst hlh
  | getstatic k => exact ss_gets hK hcs hlv hst hlh
  | new k => exact ss_new hK hcs hlv hst hlh
  | newarray t => exact ss_newa hK hcs hlv hst hlh
  | anewarray k => exact ss_newa hK hcs hlv hst hlh
  | arraylength => exact ss_len hK hcs hlv hst hlh
  | iaload => exact ss_ald hK hcs hlv hst hlh (t := fun t => Nat.beq t 0)
  | laload => exact ss_ald hK hcs hlv hst hlh (t := fun t => Nat.beq t 1)
  | baload => exact ss_ald hK hcs hlv hst hlh (t := fun t => Nat.beq t 2 || Nat.beq t 3)
  | aaload => exact ss_ald hK hcs hlv hst hlh (t := fun t => Nat.ble 4 t)
  | iastore => exact ss_ist hK hcs hlv hst hlh (t := fun t => Nat.beq t 0) (gs := fun _ w => w) (gg := fun _ w => .int w) (fun _ _ _ _ hw _ => hw)
  | bastore => exact ss_ist hK hcs hlv hst hlh (t := fun t => Nat.beq t 2 || Nat.beq t 3) (gs := fun t w => sNar t (sIv cs w)) (gg := fun t w => narrow (gTy t) (.int w)) (fun k w x hk _ hb => sNar_ok (by
      rw [Bool.or_eq_true] at hk
      rcases hk with hk | hk
      · exact Or.inl (Nat.eq_of_beq_eq_true hk)
      · exact Or.inr (Nat.eq_of_beq_eq_true hk)) hb)
  | lastore => exact ss_last hK hcs hlv hst hlh
  | aastore => exact ss_aast hK hcs hlv hst hlh
  | invokevirtual k => exact ss_virt hK hcs hlv hst hlh hC
  | invokestatic k => exact ss_stat hK hcs hlv hst hlh hC
  | invokespecial k => exact ss_spec hK hcs hlv hst hlh hC
  | ireturn => exact ss_iret hcs hlh hst
  | lreturn => exact ss_lret hcs hlh hst
  | areturn => exact ss_aret hcs hlh hst
  | return_ => exact ss_vret hcs hlh hst
  | _ => exact sSim.none
