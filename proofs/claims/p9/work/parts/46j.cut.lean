/-! A METHOD'S CUTS ALONE (printed by wip/gen/gen74.py out of part 25). -/
section VCUT
variable {T : Nat → Nat → vT} {P : vP} {W : List (Nat × Nat)} {Z : Bool} {m : Nat} {X : (Nat → Int) × gH} {Q : gO → Prop} {j d : Nat} {ρ : Nat → Int} {η : Nat → gH} {lh : gH} {l : List vG} {lv' : gL}
theorem gMeth_cut {M : vM} {Sg : Nat → Option vM} {cs : List vC} {n : Nat} {cpre : Nat → List Int → gH → Prop} {cpost : Nat → List Int → gH → gH → Prop} {cW : Nat → List (Nat × Nat)} {pre : List Int → gH → Prop} {post : List Int → gH → gH → Prop} {A : Int → List Int → gH → gH → Prop} {μ : Int → List Int → gH → gH → Nat} (hT : vTOK T) (hSg : ∀ a m, Sg a = some m → a < 1000 ∧ gMeth T a d m (cpre a) (cpost a) ∧ cW a = m.2.2.2.2) (hpre : M.2.2.1 ≠ 1 → ∀ xs h, pre xs h) (hrt : rtOk (gRt j) M.2.1 = true)
    (hc : ∀ c ∈ cs, (∃ l, vRun T M.2.2.2.2 (Nat.beq M.2.2.2.1 0) Sg cs M.2.1 j n true (vSc M.1 c) c.1 (vTake c.2 M.1.length) [] = some l ∧ ∀ q, ∀ g ∈ l, vOkm T (vPP cpre cpost cW M.2.2.2.2 pre post A μ M.1.length (some q)) M.1.length g) ∨ (∀ (Q : gO → Prop) (xs : List Int) (h0 : gH) (q : Nat), pre xs h0 → (∀ q', q' < q → ∀ c ∈ cs, vGood T M.2.2.2.2 (Nat.beq M.2.2.2.1 0) A μ j (d + 1) Q xs h0 q' c) → vGood T M.2.2.2.2 (Nat.beq M.2.2.2.1 0) A μ j (d + 1) Q xs h0 q c)) : ∀ (as : List Value) (lh0 : gH), WT T lh0 → vArgs T lh0 M.1 as → (M.2.2.1 = 1 → pre (as.map vI) lh0) → ∀ q, ∀ c ∈ cs, vGood T M.2.2.2.2 (Nat.beq M.2.2.2.1 0) A μ j (d + 1) (fun o : gO => WT T o.1 ∧ hLw T M.2.2.2.2 (Nat.beq M.2.2.2.1 0) lh0 o.1 ∧ (if M.2.1.1 = 9 then o.2.2 = [] else ∃ v, o.2.2 = [v] ∧ vOK T o.1 M.2.1 v) ∧ post (o.2.2.map vI ++ as.map vI) lh0 o.1) (as.map vI) lh0 q c := by
  intro as lh0 hWT hA hp
  have hp' : pre (as.map vI) lh0 := by
    by_cases h1 : M.2.2.1 = 1
    · exact hp h1
    · exact hpre h1 _ _
  have hlen : (as.map vI).length = M.1.length := by rw [List.length_map]; exact hA.len
  have hpin : (List.range' 0 M.1.length).map (fun k => (as.map vI).getD k 0) = as.map vI := by
    rw [range_getD (by omega), ← hlen, List.take_length]
  have hat := vAts_args 0 hA
  have hQ : ∀ k, ∀ (lh : gH) (st' : List Value) (pc : Nat), WT T lh → hLw T M.2.2.2.2 (Nat.beq M.2.2.2.1 0) lh0 lh → (if M.2.1.1 = 9 then st' = [] else ∃ v, st' = [v] ∧ vOK T lh M.2.1 v) → (vPP cpre cpost cW M.2.2.2.2 pre post A μ M.1.length k).2.2.2.2.2.1 (st'.map vI ++ (List.range' 0 M.1.length).map (fun k => (as.map vI).getD k 0)) lh0 lh → (fun o : gO => WT T o.1 ∧ hLw T M.2.2.2.2 (Nat.beq M.2.2.2.1 0) lh0 o.1 ∧ (if M.2.1.1 = 9 then o.2.2 = [] else ∃ v, o.2.2 = [v] ∧ vOK T o.1 M.2.1 v) ∧ post (o.2.2.map vI ++ as.map vI) lh0 o.1) (lh, pc, st') := fun k lh st' pc a1 a2 a3 a4 => by
    rw [hpin] at a4
    exact ⟨a1, a2, a3, a4⟩
  have good : ∀ q, ∀ c ∈ cs, vGood T M.2.2.2.2 (Nat.beq M.2.2.2.1 0) A μ j (d + 1) (fun o : gO => WT T o.1 ∧ hLw T M.2.2.2.2 (Nat.beq M.2.2.2.1 0) lh0 o.1 ∧ (if M.2.1.1 = 9 then o.2.2 = [] else ∃ v, o.2.2 = [v] ∧ vOK T o.1 M.2.1 v) ∧ post (o.2.2.map vI ++ as.map vI) lh0 o.1) (as.map vI) lh0 q c := by
    intro q
    induction q using Nat.strongRecOn with
    | _ q ih =>
      intro c hcm
      rcases hc c hcm with ⟨l, h1, h2⟩ | hand
      · intro lv' lh ys b1 b2 b3 b4 b5
        have hys := b3.len
        have hrc : ∀ i, i < c.2.length → (as.map vI ++ ys).getD (M.1.length + i) 0 = ys.getD i 0 := fun i hi => by
          rw [List.getD_eq_getElem?_getD, List.getElem?_append_right (by omega), List.getD_eq_getElem?_getD]
          rw [hlen, Nat.add_sub_cancel_left]
        have hra : ∀ i, i < (vSlots M.1 0).length → (as.map vI ++ ys).getD (0 + i) 0 = (as.map vI).getD i 0 := fun i hi => by
          rw [vSlots_len] at hi
          rw [List.getD_eq_getElem?_getD, List.getElem?_append_left (by omega), List.getD_eq_getElem?_getD, Nat.zero_add]
        have hall : (List.range' 0 (M.1.length + c.2.length)).map (fun k => (as.map vI ++ ys).getD k 0) = as.map vI ++ ys := by
          rw [range_getD (by rw [List.length_append]; omega), List.take_of_length_le (by rw [List.length_append]; omega)]
        refine vRun_ok (X := (fun k => (as.map vI).getD k 0, lh0)) hT hSg hrt (hQ (some q)) (fun c' hc' lv2 lh2 ys2 a1 a2 a3 a4 => ?_) n true (fun k => (as.map vI ++ ys).getD k 0) (fun k => if k = 0 then lh0 else lh) _ _ _ _ lv' [] lh l h1 (h2 q) ?_ (vTake_ok b3 hrc (Nat.le_refl _)) trivial
        · rw [hpin] at a4
          exact ih _ (a4.2 q rfl) c' hc' lv2 lh2 ys2 a1 a2 a3 a4.1 rfl
        · refine ⟨fun f hf => ?_, rfl, b1, fun h hh => ?_, Nat.le_add_right _ _, fun k hk => ?_, rfl⟩
          · rcases List.mem_cons.mp hf with rfl | hf
            · refine ⟨⟨fun k hk => ?_, fun k hk => ?_⟩, ?_⟩
              · have := List.mem_range'_1.mp hk
                show k < M.1.length + c.2.length
                omega
              · rcases List.mem_cons.mp hk with rfl | hk
                · exact Nat.zero_le _
                · rw [List.mem_singleton.mp hk]
                  exact Nat.le_refl 1
              · unfold fD
                dsimp only
                rw [hall, fX_call (by decide)]
                refine ⟨⟨b2.1, b2.fr hWT.1, b1.rg⟩, ⟨b4, ?_⟩, ?_⟩
                · rw [List.take_append_of_le_length (by omega), ← hlen, List.take_length]
                  exact hp'
                · show some q = some (μ (c.1 : Int) (as.map vI ++ ys) lh0 lh)
                  rw [b5]
            · rcases List.mem_append.mp hf with hf | hf
              · exact vRngs_ok hat hra (by rw [vSlots_len]; show 0 + M.1.length ≤ M.1.length + c.2.length; omega) f hf
              · exact vRngs_ok b3 hrc (Nat.le_refl _) f hf
          · by_cases h9 : h = 0
            · rw [h9]
              exact b2
            · show hLw T _ _ (if h = 0 then lh0 else lh) lh
              rw [if_neg h9]
              exact hLw.refl _ _ _ _
          · show (as.map vI ++ ys).getD k 0 = (as.map vI).getD k 0
            rw [List.getD_eq_getElem?_getD, List.getElem?_append_left (by omega), List.getD_eq_getElem?_getD]
      · exact hand _ _ _ q hp' ih
  exact good
end VCUT
theorem eC_cut {e : vE} {L : List vE} {cs : List vC} {d : Nat} {A : Int → List Int → gH → gH → Prop} {μ : Int → List Int → gH → gH → Nat} {tp : Bool} (n : Nat) (hL : eAll L d) (hpre : Nat.beq e.2.1.2.2.1 1 = true ∨ ∀ xs h, e.2.2.1 xs h) (hrt : rtOk (gRt e.1) e.2.1.2.1 = true) (htp : tp = true → ∀ xs h0 h, e.2.2.2 xs h0 h) (hc : ∀ c ∈ cs, (∃ p, vCovO tp (eRc e L cs n c) p = true ∧ ∀ q, ∀ g ∈ p, vOkm T0 (eP e L A μ (some q)) e.2.1.1.length g) ∨ eHand e A μ cs d c) : ∀ (as : List Value) (lh0 : gH), WT T0 lh0 → vArgs T0 lh0 e.2.1.1 as → (e.2.1.2.2.1 = 1 → e.2.2.1 (as.map vI) lh0) → ∀ q, ∀ c ∈ cs, vGood T0 e.2.1.2.2.2.2 (Nat.beq e.2.1.2.2.2.1 0) A μ e.1 (d + 1) (fun o : gO => WT T0 o.1 ∧ hLw T0 e.2.1.2.2.2.2 (Nat.beq e.2.1.2.2.2.1 0) lh0 o.1 ∧ (if e.2.1.2.1.1 = 9 then o.2.2 = [] else ∃ v, o.2.2 = [v] ∧ vOK T0 o.1 e.2.1.2.1 v) ∧ e.2.2.2 (o.2.2.map vI ++ as.map vI) lh0 o.1) (as.map vI) lh0 q c := by
  refine gMeth_cut (cpre := ePre L) (cpost := ePost L) (cW := eW L) (Sg := eSg L) (n := n) T0_ok (eSg_ok hL) (fun z => ?_) hrt ?_
  · rcases hpre with h | h
    · exact absurd (Nat.eq_of_beq_eq_true h) z
    · exact h
  · intro c hcm
    rcases hc c hcm with ⟨p, h2, h3⟩ | h2
    · obtain ⟨l, h4, h5⟩ := vCovO_some h2
      exact .inl ⟨l, h4, fun q => vCov_ok htp h5 (h3 q)⟩
    · exact .inr h2
/-- the script stays where it is -/
def LNG (h : gH) : Prop := hK h 0 = 108 ∧ hN h 0 ≤ 3072
theorem LNG_N {a b : gH} (h : hLe T0 a b) (l : LNG a) : hN b 0 = hN a 0 := (h.2 0 (hK_lt l.1 (by decide))).2.1
theorem LNG_le {a b : gH} (h : hLe T0 a b) (l : LNG a) : LNG b := ⟨((h.2 0 (hK_lt l.1 (by decide))).1).trans l.1, by rw [LNG_N h l]; exact l.2⟩
