/-! THE START OF THE LAW in the pure picture (printed by wip/gen/gen15.py). -/
def gInT : List Nat := [1103, 1233, 2161, 1078, 1138, 1032, 4042, 4170, 1144, 2213, 2167, 1022, 7007]
set_option maxRecDepth 100000 in
theorem gInT_ok : (List.range 13).all (fun k => gHas (gInT.getD k 0) (.instantiable (gCn k) (gN k))) = true := by decide +kernel
theorem gInst {k : Nat} (hk : k < 13) : Cond.instantiable (gCn k) (gN k) ∈ gTB := gHas.mem (List.all_eq_true.mp gInT_ok k (List.mem_range.mpr hk))
def gTm (i : Nat) : Term := .string "MixStage$Tokens" (gSt i).1
def gTl : List Nat := [72, 58, 32]
def gTb3 : List (List Int32) := [gTx0, gTx1, gTx2]
def gFlat : List Cond := flatC (Jvm.Cond.and given_1 narrow_1)
set_option maxRecDepth 100000 in
theorem gf_ex : (List.range 3).all (fun i => decide (Cond.exactly (gTm i) "java/lang/String" ∈ gFlat)) = true := by decide +kernel
set_option maxRecDepth 100000 in
theorem gf_co : (List.range 3).all (fun i => decide (Cond.eq (.field (gTm i) "java/lang/String" "coder" "B") (.int 0) ∈ gFlat)) = true := by decide +kernel
set_option maxRecDepth 100000 in
theorem gf_ar : (List.range 3).all (fun i => decide (Cond.arrayOf (.field (gTm i) "java/lang/String" "value" "[B") .byte ∈ gFlat)) = true := by decide +kernel
set_option maxRecDepth 100000 in
theorem gf_le : (List.range 3).all (fun i => decide (Cond.eq (.length (.field (gTm i) "java/lang/String" "value" "[B")) (.int (Int32.ofNat (gTl.getD i 0))) ∈ gFlat)) = true := by decide +kernel
set_option maxRecDepth 100000 in
theorem gf_el : (List.range 3).all (fun i => (List.range (gTl.getD i 0)).all (fun j => decide (Cond.eq (.elem (.field (gTm i) "java/lang/String" "value" "[B") (.int (Int32.ofNat j))) (.int ((gTb3.getD i []).getD j 0)) ∈ gFlat))) = true := by decide +kernel
set_option maxRecDepth 100000 in
theorem gf_ne : (List.range 3).all (fun i => (List.range 3).all (fun j => Nat.beq i j || (decide (Cond.not (Cond.eq (gTm i) (gTm j)) ∈ gFlat) || decide (Cond.not (Cond.eq (gTm j) (gTm i)) ∈ gFlat)))) = true := by decide +kernel
set_option maxRecDepth 100000 in
theorem gf_cs : decide (Cond.eq (.static "java/lang/String" "COMPACT_STRINGS" "Z") (.int 1) ∈ gFlat) = true := by decide +kernel
set_option maxRecDepth 100000 in
theorem gf_si : decide (Cond.isRef (.static "jdk/internal/util/Preconditions" "SIOOBE_FORMATTER" "Ljava/util/function/BiFunction;") ∈ gFlat) = true := by decide +kernel
theorem gb_ls0 : gWd 1163 = some (.laysStatic "java/lang/String" "COMPACT_STRINGS" "Z") := by decide +kernel
theorem gb_ls1 : gWd 1179 = some (.laysStatic "jdk/internal/util/Preconditions" "SIOOBE_FORMATTER" "Ljava/util/function/BiFunction;") := by decide +kernel
theorem gb_in0 : gWd 1007 = some (.initialized "java/lang/String") := by decide +kernel
theorem gb_in1 : gWd 1009 = some (.initialized "jdk/internal/util/Preconditions") := by decide +kernel
theorem gb_sr : (List.range 3).all (fun i => decide (gWd (([1149, 1209, 1210] : List Nat).getD i 0) = some (.stringRef "MixStage$Tokens" (gSt i).1 (gSt i).2))) = true := by decide +kernel
def gEx (b : Nat) (aK aV : Nat → Nat) : Nat → Nat
  | 0 => b
  | 1 => aK 0
  | 2 => aV 0
  | 3 => aK 1
  | 4 => aV 1
  | 5 => aK 2
  | _ => aV 2
set_option maxHeartbeats 4000000 in
theorem gStart {p : Program} {s : State} {m : MethodId} {meth : Method} {c : Code} {b L : Nat} {xs : Nat → Int32} (C0 : lw_At p s m meth c b L xs) : ∃ G : gG, G.1 = 7 ∧ G.2.1 = s.heap.size ∧ gad G 0 = b ∧ gR G s (gH0 L xs) s.heap ∧ gKz G s s.heap := by
  obtain ⟨-, -, -, -, -, hts, hX, hbl, -, hgv⟩ := C0
  have hs : ∀ w ∈ gFlat, w.before #[Value.ref b] s = true := flat_of_before _ hgv
  have hr : ∀ {n i : Nat}, i < n → i ∈ List.range n := fun h => List.mem_range.mpr h
  have hA : ∀ a : Nat, a < s.heap.size → ¬ s.heap.size ≤ a := fun a h => by omega
  have hT : gTb s := gTb.of hts
  have htb : ∀ w ∈ gTB, w.before #[Value.ref b] s = true := fun w hw => hT.use hw _
  obtain ⟨aK, aV, hS, hev⟩ := vk_Sof (args := #[Value.ref b]) (s := s) (N := 3) (tm := gTm) (len := gTl) (byt := gTb3) (A := fun q => s.heap.size ≤ q)
    (fun i hi => by rcases (show i = 0 ∨ i = 1 ∨ i = 2 by omega) with rfl | rfl | rfl <;> decide)
    (fun i hi => hs _ (of_decide_eq_true (List.all_eq_true.mp gf_ex i (hr hi))))
    (fun i hi => hs _ (of_decide_eq_true (List.all_eq_true.mp gf_co i (hr hi))))
    (fun i hi => hs _ (of_decide_eq_true (List.all_eq_true.mp gf_ar i (hr hi))))
    (fun i hi => hs _ (of_decide_eq_true (List.all_eq_true.mp gf_le i (hr hi))))
    (fun i hi j hj => hs _ (of_decide_eq_true (List.all_eq_true.mp (List.all_eq_true.mp gf_el i (hr hi)) j (hr hj))))
    (fun i j hi hj hne => by
      have h1 := List.all_eq_true.mp (List.all_eq_true.mp gf_ne i (hr hi)) j (hr hj)
      rw [Bool.or_eq_true, Bool.or_eq_true, decide_eq_true_eq, decide_eq_true_eq] at h1
      rcases h1 with h1 | h1 | h1
      · exact absurd (Nat.eq_of_beq_eq_true h1) hne
      · exact Or.inl (hs _ h1)
      · exact Or.inr (hs _ h1)) hA
  have hcl : ∀ k : Nat, ∃ q : ClassId × (Nat → Nat), k < 13 → u_Kn s (gCn k) (gT k) (gN k) q.1 q.2 := by
    intro k
    by_cases hk : k < 13
    · obtain ⟨cC, iS, h⟩ := u_known htb (gLayIn hk) (htb _ (gInst hk))
      exact ⟨(cC, iS), fun _ => h⟩
    · exact ⟨(0, fun _ => 0), fun h => absurd h hk⟩
  obtain ⟨qf, hqf⟩ := Classical.axiomOfChoice hcl
  obtain ⟨⟨cell0, o1, o2, o3, o4⟩, ⟨cfc, kc, ic, fc, cellc, hfc, hstc, -⟩, ⟨cfv, kv, iv, fv, cellv, hfv, hstv, -⟩, -⟩ := hS.1 0 (by omega)
  have hsi := va_Zqof (A := fun q => s.heap.size ≤ q) (hts _ (gWd.mem gb_ls1)) (hts _ (gWd.mem gb_in1)) (hs _ (of_decide_eq_true gf_si)) hA
  obtain ⟨sio, hsio⟩ : ∃ sio : Option Nat, va_Z "jdk/internal/util/Preconditions" "SIOOBE_FORMATTER" "Ljava/util/function/BiFunction;" (va_rf sio) (fun q => s.heap.size ≤ q) s s.heap := by
    rcases hsi with h | ⟨t, h⟩
    · exact ⟨none, h⟩
    · exact ⟨some t, h⟩
  have hco := va_Zof (A := fun q => s.heap.size ≤ q) (hts _ (gWd.mem gb_ls0)) (hts _ (gWd.mem gb_in0)) (va_eqt (hs _ (of_decide_eq_true gf_cs))) hA
  obtain ⟨dC, hdC⟩ : ∃ f : Nat → ClassId, f = fun k => if k < 13 then (qf k).1 else cell0.cls := ⟨_, rfl⟩
  obtain ⟨dI, hdI⟩ : ∃ f : Nat → Nat → Nat, f = fun k j => if k < 13 then (qf k).2 j else if j = 0 then fv.slot else fc.slot := ⟨_, rfl⟩
  have hC : ∀ k, k < 13 → dC k = (qf k).1 := fun k hk => by rw [hdC]; exact if_pos hk
  have hC13 : dC 13 = cell0.cls := by rw [hdC]; rfl
  have hI : ∀ k, k < 13 → dI k = (qf k).2 := fun k hk => by rw [hdI]; funext j; exact if_pos hk
  have hI0 : dI 13 0 = fv.slot := by rw [hdI]; rfl
  have hI1 : dI 13 1 = fc.slot := by rw [hdI]; rfl
  have hlt : ∀ i, i < 7 → gEx b aK aV i < s.heap.size := by
    intro i hi
    have hk : ∀ k, k < 3 → aK k < s.heap.size := fun k hk => by
      obtain ⟨⟨cell, q1, -⟩, -⟩ := hS.1 k hk
      exact (Array.getElem?_eq_some_iff.mp q1).1
    have hv : ∀ k, k < 3 → aV k < s.heap.size := fun k hk => by
      obtain ⟨-, -, -, cell, q1, -⟩ := hS.1 k hk
      exact (Array.getElem?_eq_some_iff.mp q1).1
    rcases (show i = 0 ∨ i = 1 ∨ i = 2 ∨ i = 3 ∨ i = 4 ∨ i = 5 ∨ i = 6 by omega) with rfl | rfl | rfl | rfl | rfl | rfl | rfl
    · exact hbl
    · exact hk 0 (by omega)
    · exact hv 0 (by omega)
    · exact hk 1 (by omega)
    · exact hv 1 (by omega)
    · exact hk 2 (by omega)
    · exact hv 2 (by omega)
  obtain ⟨G, hG⟩ : ∃ G : gG, G = (7, s.heap.size, gEx b aK aV, dC, dI, sio) := ⟨_, rfl⟩
  have g1 : G.1 = 7 := by rw [hG]
  have g2 : G.2.1 = s.heap.size := by rw [hG]
  have g3 : ∀ i, i < 7 → gad G i = gEx b aK aV i := fun i hi => by rw [hG]; exact if_pos hi
  have g4 : G.2.2.2.1 = dC := by rw [hG]
  have g5 : G.2.2.2.2.1 = dI := by rw [hG]
  have g6 : G.2.2.2.2.2 = sio := by rw [hG]
  have hstr : ∀ k, k < 3 → gEx b aK aV (2 * k + 1) = aK k ∧ gEx b aK aV (2 * k + 2) = aV k := by
    intro k hk
    rcases (show k = 0 ∨ k = 1 ∨ k = 2 by omega) with rfl | rfl | rfl <;> exact ⟨rfl, rfl⟩
  have hobj : ∀ k, k < 3 → gAt G s (2 * k + 1) (.inl (13, gStr (2 * k + 2))) s.heap := by
    intro k hk
    obtain ⟨⟨cell, q1, q2, q3, -⟩, ⟨cf1, k1, i1, f1, cell1, r1, -, r2, -, r3, -⟩, ⟨cf2, k2, i2, f2, cell2, t1, -, t2, t4, t3, -⟩, -⟩ := hS.1 k hk
    have e1 : cell1 = cell := Option.some.inj (r2.symm.trans q1)
    have e2 : cell2 = cell := Option.some.inj (t2.symm.trans q1)
    subst e1; subst e2
    have e3 : f1 = fc := by have := r1.symm.trans hfc; simp at this; exact this.2.2.2
    have e4 : f2 = fv := by have := t1.symm.trans hfv; simp at this; exact this.2.2.2
    subst e3; subst e4
    refine ⟨by show 13 < 14; decide, _, by rw [g3 _ (by omega), (hstr k hk).1]; exact q1, ?_, t4, q2, fun z => by rw [g1] at z; omega, fun j hj => ?_⟩
    · rw [g4]
      show _ = dC 13
      rw [hC13]
      exact Option.some.inj (q3.symm.trans o3)
    · rw [g5]
      have hj2 : j < 2 := hj
      rcases (show j = 0 ∨ j = 1 by omega) with rfl | rfl
      · have e5 : grv G (gStr (2 * k + 2) 0) = .ref (gad G (2 * k + 2)) := rfl
        dsimp only
        rw [e5, hI0, g3 _ (by omega), (hstr k hk).2]
        exact t3
      · have e5 : grv G (gStr (2 * k + 2) 1) = .int 0 := rfl
        dsimp only
        rw [e5, hI1]
        exact r3
  have harr : ∀ k, k < 3 → gAt G s (2 * k + 2) (.inr (2, gTl.getD k 0, gTxV (gTb3.getD k []))) s.heap := by
    intro k hk
    obtain ⟨-, -, -, cell, q1, q2, q3, q4, q5, q6, -⟩ := hS.1 k hk
    exact ⟨by show 2 < 7; decide, cell, by rw [g3 _ (by omega), (hstr k hk).2]; exact q1, q2, q3, q4, q5, fun j hj => q6 j hj, fun z => by rw [g1] at z; omega⟩
  refine ⟨G, g1, g2, by rw [g3 0 (by omega)]; rfl, ⟨by rw [g1, g2]; rfl, by rw [g1]; exact Nat.le_refl 7, fun i hi => by rw [g1] at hi; rw [g2, hG]; exact hlt i hi, fun i cc hc => ?_⟩, hT, ⟨fun k hk => ?_, fun k hk => ?_, fun k hk f hf => ?_⟩, fun k hk => ?_, ?_, ?_⟩
  · obtain ⟨scr, v1, v2, v3, v4, v5⟩ := hX
    match i, hc with
    | 0, hc =>
      cases hc
      refine ⟨by show 0 < 7; decide, scr, by rw [g3 0 (by omega)]; exact v1, v2, v3, by rw [v4]; exact Nat.le_refl L, by rw [v4], fun j hj => ?_, fun z => by rw [g1] at z; omega⟩
      have hjL : j < L := hj
      exact v5 j hj
    | 1, hc => cases hc; exact hobj 0 (by omega)
    | 2, hc => cases hc; exact harr 0 (by omega)
    | 3, hc => cases hc; exact hobj 1 (by omega)
    | 4, hc => cases hc; exact harr 1 (by omega)
    | 5, hc => cases hc; exact hobj 2 (by omega)
    | 6, hc => cases hc; exact harr 2 (by omega)
    | n + 7, hc => simp [gH0] at hc
  · rw [g4]
    by_cases hk13 : k < 13
    · rw [hC k hk13]
      exact (hqf k hk13).2.1
    · rw [show k = 13 by omega, hC13]
      exact o3
  · rw [g4, hC k hk]
    exact (hqf k hk).2
  · rw [g5]
    by_cases hk13 : k < 13
    · obtain ⟨cf, kf, fi, fd, h1, h2⟩ := (hqf k hk13).1 f hf
      exact ⟨cf, kf, fi, fd, h1, (u_facts (hqf k hk13).2.1 (hqf k hk13).2.2.choose_spec.1 (u_lays htb (gLayIn hk13) hf) h1).1, by rw [hI k hk13]; exact h2⟩
    · obtain rfl : k = 13 := by omega
      have hf2 : f < 2 := hf
      rcases (show f = 0 ∨ f = 1 by omega) with rfl | rfl
      · exact ⟨cfv, kv, iv, fv, hfv, hstv, hI0.symm⟩
      · exact ⟨cfc, kc, ic, fc, hfc, hstc, hI1.symm⟩
  · have h9 := of_decide_eq_true (List.all_eq_true.mp gb_sr k (hr hk))
    rw [g3 _ (by omega), (hstr k hk).1]
    exact vk_R.of (hts _ (gWd.mem h9)) (hev k hk)
  · rw [g2]
    exact hco
  · rw [g2, g6]
    exact hsio
