/-! THE CHECK: each entry of the table of instructions is what the code and the tables' words say. -/
def gTB : List Cond := lw_tbl.filter gGood
def gTabs : List (List Cond) := [tables_1_1, tables_1_2, tables_1_3, tables_1_4, tables_1_5, tables_1_6, tables_1_7, tables_1_8, tables_1_9, tables_1_10]
theorem gTabs_all : tables_1 = gTabs.flatten := by simp [gTabs, tables_1]
/-- a word by its place: 1000 * (number of the table's piece) + place, or place of a private method -/
def gWd (t : Nat) : Option Cond := bif Nat.blt t 1000 then (lw_privs[t]?).map (fun q => Cond.selects q.1.cls q.1 q.1) else (gTabs.getD (t / 1000 - 1) [])[t % 1000]?
theorem gWd.mem {t : Nat} {w : Cond} (h : gWd t = some w) : w ∈ lw_tbl := by
  unfold gWd at h
  cases hb : Nat.blt t 1000 with
  | true =>
    rw [hb] at h
    obtain ⟨q, hq, rfl⟩ := Option.map_eq_some_iff.mp h
    exact List.mem_append_left _ (List.mem_map.mpr ⟨q, List.mem_of_getElem? hq, rfl⟩)
  | false =>
    rw [hb] at h
    refine List.mem_append_right _ ?_
    rw [gTabs_all]
    have h2 : w ∈ gTabs.getD (t / 1000 - 1) [] := List.mem_of_getElem? h
    refine List.mem_flatten.mpr ⟨_, ?_, h2⟩
    rw [List.getD_eq_getElem?_getD] at h2 ⊢
    cases hg : gTabs[t / 1000 - 1]? with
    | none => rw [hg] at h2; exact absurd h2 List.not_mem_nil
    | some x => exact List.mem_of_getElem? hg
def gHas (t : Nat) (w : Cond) : Bool := decide (gWd t = some w) && gGood w
theorem gHas.mem {t : Nat} {w : Cond} (h : gHas t w = true) : w ∈ gTB := by
  unfold gHas at h
  rw [Bool.and_eq_true] at h
  exact List.mem_filter.mpr ⟨gWd.mem (of_decide_eq_true h.1), h.2⟩
/-- a method's code: that of its word -/
def gBt (t : Nat) : ByteArray := match gWd t with
  | some (.code _ b _ _) => b
  | _ => ByteArray.empty
def gBy (j : Nat) : ByteArray := bif Nat.beq j 0 then code else gBt (gM j).2.2.2.2
def gCk (t : Nat) (y : MethodName) (n : Nat) (r : Option FieldType) : Bool := match gWd t with
  | some (.code y' _ n' r') => decide (y' = y) && (Nat.beq n' n && decide (r' = r))
  | _ => false
theorem gCk.mem {t : Nat} {y : MethodName} {n : Nat} {r : Option FieldType} (h : gCk t y n r = true) : Cond.code y (gBt t) n r ∈ gTB := by
  unfold gCk at h
  split at h
  · rename_i y' b n' r' hw
    rw [Bool.and_eq_true, Bool.and_eq_true] at h
    have e1 : y' = y := of_decide_eq_true h.1
    have e2 : n' = n := Nat.eq_of_beq_eq_true h.2.1
    have e3 : r' = r := of_decide_eq_true h.2.2
    subst e1; subst e2; subst e3
    have e : gBt t = b := by
      unfold gBt
      rw [hw]
    rw [e]
    exact List.mem_filter.mpr ⟨gWd.mem hw, rfl⟩
  · cases h
def gLen : Instr → Nat
  | .iload _ | .lload _ | .aload _ | .istore _ | .lstore _ | .astore _ | .bipush _ | .ldc _ | .newarray _ => 2
  | .iinc .. | .sipush _ | .ldc_w _ | .ldc2_w _ | .ifCond .. | .if_icmp .. | .ifnull _ | .ifnonnull _ | .goto _ | .getfield _ | .putfield _ | .getstatic _ | .new _ | .anewarray _ | .invokevirtual _ | .invokestatic _ | .invokespecial _ => 3
  | _ => 1
def gAny : Instr → Bool
  | .tableswitch .. => true
  | .lookupswitch .. => true
  | _ => false
def gts (ts : List Nat) (i : Nat) : Nat := ts.getD i 0
def gckF (own : String) (idx a b : Nat) (ts : List Nat) : Bool := Nat.blt b (gN a) && (gHas (gts ts 0) (.fieldLink own idx (gT a b).1 (gT a b).2.1 (gT a b).2.2.1) || gHas (gts ts 0) (.fieldLinkNest own idx (gT a b).1 (gT a b).2.1 (gT a b).2.2.1 "MixStage"))
def gckP (own name : String) (idx a b : Nat) (ts : List Nat) : Bool := bif (gT a b).2.2.2 then (gHas (gts ts 0) (.fieldLink own idx (gT a b).1 (gT a b).2.1 (gT a b).2.2.1) && (decide (name = "<init>") && decide ((gT a b).1 = own))) else true
/-- what a call of method a asks, but its link: (its place in ts of initialized, of code) -/
def gckM (a n : Nat) (ti tc : Nat) : Bool := Nat.blt a 333 && (Nat.ble (gMax a) 80 && (gHas ti (.initialized (gM a).1.cls) && ((gCk tc (gM a).1 (gMax a) (gRt a) && (Nat.beq tc (gM a).2.2.2.2 && Nat.blt 0 a)) && (decide ((gM a).1.cls ≠ "java/lang/invoke/MethodHandle") && (decide ((gM a).1.cls ≠ "java/lang/invoke/VarHandle") && (plainFor (gM a).1 && decide ((parseMethodDescriptor (gM a).1.desc).map (fun d => d.parameters.length) = some n)))))))
def gckL (own : String) (idx a t : Nat) : Bool := gHas t (.methodLink own idx (gM a).1) || gHas t (.methodLinkNest own idx (gM a).1 "MixStage")
def gck (own name : String) (mx pc a b : Nat) (v : Int) (ts : List Nat) : Instr → Bool
  | .istore_n i => Nat.blt i mx
  | .astore_n i => Nat.blt i mx
  | .istore i => Nat.blt i mx
  | .astore i => Nat.blt i mx
  | .lstore_n i => Nat.blt (i + 1) mx
  | .lstore i => Nat.blt (i + 1) mx
  | .iinc i _ => Nat.blt i mx
  | .ldc idx => bif Nat.beq b 1 then Nat.blt a 3 && (decide (own = "MixStage$Tokens") && Nat.beq idx (gSt a).1) else gHas (gts ts 0) (.constant own idx (Int32.ofInt v))
  | .ldc_w idx => gHas (gts ts 0) (.constant own idx (Int32.ofInt v))
  | .ldc2_w idx => gHas (gts ts 0) (.constantLong own idx (Int64.ofInt v))
  | .ifCond _ off => decide ((pc : Int) + off = (a : Int))
  | .if_icmp _ off => decide ((pc : Int) + off = (a : Int))
  | .ifnull off => decide ((pc : Int) + off = (a : Int))
  | .ifnonnull off => decide ((pc : Int) + off = (a : Int))
  | .goto off => decide ((pc : Int) + off = (a : Int))
  | .lookupswitch _ ps => (ps.toList.zip (ps.toList.drop 1)).all (fun (a, next) => decide (a.1 < next.1))
  | .getfield idx => Nat.blt a 14 && gckF own idx a b ts
  | .putfield idx => Nat.blt a 13 && (gckF own idx a b ts && gckP own name idx a b ts)
  | .getstatic idx => bif Nat.beq a 0 then gHas (gts ts 0) (.fieldLink own idx "java/lang/String" "COMPACT_STRINGS" "Z") else gHas (gts ts 0) (.fieldLink own idx "jdk/internal/util/Preconditions" "SIOOBE_FORMATTER" "Ljava/util/function/BiFunction;")
  | .new idx => Nat.blt a 13 && (gHas (gts ts 0) (.classLink own idx (gCn a)) && (gHas (gts ts 1) (.instantiable (gCn a) (gN a)) && gHas (gts ts 2) (.initialized (gCn a))))
  | .newarray at' => Nat.blt a 4 && (decide (newarray.typeOf at' = gTy a) && gHas (gts ts 0) (.arrayClass (newarray.typeOf at')))
  | .anewarray idx => Nat.blt 3 a && (Nat.blt a 7 && (gHas (gts ts 0) (.classLink own idx (gCn (gEl a))) && gHas (gts ts 1) (.arrayOver (.object (gCn (gEl a))))))
  | .invokevirtual idx => gckL own idx a (gts ts 0) && (gHas (gts ts 1) (.instanceMethod (gM a).1) && (gHas (gts ts 2) (.selects (gM a).1.cls (gM a).1 (gM a).1) && (gckM a b (gts ts 3) (gts ts 4) && (Nat.blt v.toNat 14 && decide (gCn v.toNat = (gM a).1.cls)))))
  | .invokestatic idx => gckL own idx a (gts ts 0) && (gHas (gts ts 1) (.static (gM a).1) && gckM a b (gts ts 2) (gts ts 3))
  | .invokespecial idx => bif Nat.beq a 9999 then gHas (gts ts 0) (.methodLink own idx objectInit) && (gHas (gts ts 1) (.instanceMethod objectInit) && gHas (gts ts 2) (.code objectInit ⟨#[0xb1]⟩ 1 none)) else gckL own idx a (gts ts 0) && (gHas (gts ts 1) (.instanceMethod (gM a).1) && (decide ((gM a).1.name = "<init>") && (decide (gRt a = none) && gckM a b (gts ts 2) (gts ts 3))))
  | _ => true
def gchk (j : Nat) (e : gE) : Bool := (match decode (gBy j) e.1 with
  | .ok r => decide (r.1 = e.2.1) && (Nat.beq r.2 (gLen e.2.1) || gAny e.2.1)
  | .error _ => false) && gck (gM j).1.cls (gM j).1.name (gMax j) e.1 e.2.2.1 e.2.2.2.1 e.2.2.2.2.1 e.2.2.2.2.2 e.2.1
