/-! FROM THE LAW'S FIRST STEP TO ITS LOOP (printed by wip/gen/gen73.py). -/
theorem st_0_0 {n d : Nat} {lv : gL} {st : List Value} {lh : gH} : gRun (n + 1) 0 d 0 lv st lh = gI_new (gRun n 0 d) 0 11 lv st lh := gs (e := (0, .new 7, 11, 0, 0, [1021, 1022, 1001])) rfl
theorem st_0_3 {n d : Nat} {lv : gL} {st : List Value} {lh : gH} : gRun (n + 1) 0 d 3 lv st lh = gI_dup (gRun n 0 d) 3 lv st lh := gs (e := (3, .dup, 0, 0, 0, [])) rfl
theorem st_0_4 {n d : Nat} {lv : gL} {st : List Value} {lh : gH} : gRun (n + 1) 0 d 4 lv st lh = gI_spec (gRun n 0 d) (gCall (gRun n) d) (Nat.ble 1 d) 4 154 0 lv st lh := gs (e := (4, .invokespecial 9, 154, 0, 0, [1023, 1024, 1001, 1025])) rfl
theorem st_0_7 {n d : Nat} {lv : gL} {st : List Value} {lh : gH} : gRun (n + 1) 0 d 7 lv st lh = gI_astore (gRun n 0 d) 7 lv st lh 1 1 := gs (e := (7, .astore_n 1, 0, 0, 0, [])) rfl
theorem st_0_8 {n d : Nat} {lv : gL} {st : List Value} {lh : gH} : gRun (n + 1) 0 d 8 lv st lh = gI_new (gRun n 0 d) 8 12 lv st lh := gs (e := (8, .new 10, 12, 0, 0, [7006, 7007, 1015])) rfl
theorem st_0_11 {n d : Nat} {lv : gL} {st : List Value} {lh : gH} : gRun (n + 1) 0 d 11 lv st lh = gI_dup (gRun n 0 d) 11 lv st lh := gs (e := (11, .dup, 0, 0, 0, [])) rfl
theorem st_0_12 {n d : Nat} {lv : gL} {st : List Value} {lh : gH} : gRun (n + 1) 0 d 12 lv st lh = gI_spec (gRun n 0 d) (gCall (gRun n) d) (Nat.ble 1 d) 12 204 0 lv st lh := gs (e := (12, .invokespecial 12, 204, 0, 0, [7008, 7009, 1015, 7010])) rfl
theorem st_0_15 {n d : Nat} {lv : gL} {st : List Value} {lh : gH} : gRun (n + 1) 0 d 15 lv st lh = gI_astore (gRun n 0 d) 15 lv st lh 2 1 := gs (e := (15, .astore_n 2, 0, 0, 0, [])) rfl
theorem st_0_16 {n d : Nat} {lv : gL} {st : List Value} {lh : gH} : gRun (n + 1) 0 d 16 lv st lh = gI_int (gRun n 0 d) 16 lv st lh (Int32.ofInt 0) 1 := gs (e := (16, .iconst 0, 0, 0, 0, [])) rfl
theorem st_0_17 {n d : Nat} {lv : gL} {st : List Value} {lh : gH} : gRun (n + 1) 0 d 17 lv st lh = gI_istore (gRun n 0 d) 17 lv st lh 3 1 := gs (e := (17, .istore_n 3, 0, 0, 0, [])) rfl
def lawLv : gL := gSt1 (gSt1 (gSt1 [(0, .ref 0)] 1 (.ref 7)) 2 (.ref 285)) 3 (.int (Int32.ofInt 0))
theorem z_int {K : Nat → gL → List Value → gH → Option gO} {pc n : Nat} {lv : gL} {st : List Value} {lh : gH} {x : Int32} (q : Nat) (hq : pc + n = q) : gI_int K pc lv st lh x n = K q lv (.int x :: st) lh := by
  subst hq
  rfl
theorem z_istore {K : Nat → gL → List Value → gH → Option gO} {pc i n : Nat} {lv : gL} {r : List Value} {lh : gH} {x : Int32} (q : Nat) (hq : pc + n = q) : gI_istore K pc lv (.int x :: r) lh i n = K q (gSt1 lv i (.int x)) r lh := by
  subst hq
  rfl
theorem go_0 {n p1 p2 : Nat} {h0 h1 h2 : gH} {o : gO} (l0 : h0.length = 7) (l1 : h1.length = 285) (r1 : gRun 60000 154 19 0 (lv_args 0 [.ref 7]) [] (h0 ++ [.inl (11, fun f => defaultValue (gYt 11 f))]) = some (h1, p1, [])) (r2 : gRun 60000 204 19 0 (lv_args 0 [.ref 285]) [] (h1 ++ [.inl (12, fun f => defaultValue (gYt 12 f))]) = some (h2, p2, [])) (e : gRun n 0 20 18 lawLv [] h2 = some o) : gRun (n + 60020) 0 20 0 [(0, .ref 0)] [] h0 = some o := by
  have q1 := gRun_le (n := 60000) (m := n + 60017) (Nat.le_trans (by decide) (Nat.le_add_left 60017 n)) _ _ _ _ _ _ _ r1
  have q2 := gRun_le (n := 60000) (m := n + 60013) (Nat.le_trans (by decide) (Nat.le_add_left 60013 n)) _ _ _ _ _ _ _ r2
  have q3 := gRun_le (n := n) (m := n + 60010) (Nat.le_add_right n 60010) _ _ _ _ _ _ _ e
  refine st_0_0.trans ?_
  refine (z_new 3 rfl).trans ?_
  rw [l0]
  refine st_0_3.trans ?_
  refine (z_dup 4 rfl).trans ?_
  refine st_0_4.trans ?_
  refine (z_spec0 rfl rfl).trans ?_
  refine (z_back q1 7 rfl).trans ?_
  refine st_0_7.trans ?_
  refine (z_astore 8 rfl).trans ?_
  refine st_0_8.trans ?_
  refine (z_new 11 rfl).trans ?_
  rw [l1]
  refine st_0_11.trans ?_
  refine (z_dup 12 rfl).trans ?_
  refine st_0_12.trans ?_
  refine (z_spec0 rfl rfl).trans ?_
  refine (z_back q2 15 rfl).trans ?_
  refine st_0_15.trans ?_
  refine (z_astore 16 rfl).trans ?_
  refine st_0_16.trans ?_
  refine (z_int 17 rfl).trans ?_
  refine st_0_17.trans ?_
  refine (z_istore 18 rfl).trans ?_
  exact q3
def lawRho (L : Nat) (xs : Nat → Int32) (k : Nat) : Int32 := if k = 100 then Int32.ofNat L else if 200 ≤ k then xs (k - 200) else 0
theorem lawRho_sg (L : Nat) (xs : Nat → Int32) : sSg (lawRho L xs) := by
  have h : ∀ k, k < 10 → lawRho L xs k = 0 := fun k hk => by
    unfold lawRho
    rw [if_neg (by omega), if_neg (by omega)]
  unfold sSg
  rw [h 6 (by decide), h 3 (by decide), h 4 (by decide), h 7 (by decide), h 2 (by decide)]
  decide
theorem lawRho_L {L : Nat} (xs : Nat → Int32) (hL : L ≤ 3072) : (lawRho L xs 100).toInt.toNat = L := by
  unfold lawRho
  rw [if_pos rfl, Int32.toInt_ofNat_of_lt (by omega), Int.toNat_natCast]
theorem sH19_ok {L : Nat} (xs : Nat → Int32) (hL : L ≤ 3072) : sRH (lawRho L xs) sH19 (gH0 L xs) := by
  refine ⟨⟨Nat.le_refl 100, rfl, ?_⟩, ⟨by show 13 < 100; decide, rfl, sStr_ok _ 2⟩, sRC_row (by show 100 ≤ 102; decide) rfl rfl (sTx_ok _ _ _) (by show 72 ≤ 65536; decide), ⟨by show 13 < 100; decide, rfl, sStr_ok _ 4⟩, sRC_row (by show 100 ≤ 102; decide) rfl rfl (sTx_ok _ _ _) (by show 58 ≤ 65536; decide), ⟨by show 13 < 100; decide, rfl, sStr_ok _ 6⟩, sRC_row (by show 100 ≤ 102; decide) rfl rfl (sTx_ok _ _ _) (by show 32 ≤ 65536; decide), trivial⟩
  rw [if_neg (by show ¬ (70000 : Nat) ≤ 65536; decide), lawRho_L xs hL]
  refine Prod.ext rfl ?_
  funext j
  show Value.int (xs j) = .int (lawRho L xs (200 + j))
  unfold lawRho
  rw [if_neg (by omega), if_pos (by omega), show 200 + j - 200 = j by omega]
theorem law_begin {L : Nat} (xs : Nat → Int32) (hL : L ≤ 3072) : ∃ lh : gH, sRH (lawRho L xs) sS2 lh ∧ ∀ (n : Nat) (o : gO), gRun n 0 20 18 lawLv [] lh = some o → gRun (n + 60020) 0 20 0 [(0, .ref 0)] [] (gH0 L xs) = some o := by
  have r0 := sH19_ok xs hL
  obtain ⟨h1, p1, e1, r1⟩ := sMade_ok (by decide) sMade1 (lawRho_sg L xs) r0
  obtain ⟨h2, p2, e2, r2⟩ := sMade_ok (by decide) sMade2 (lawRho_sg L xs) r1
  have l0 : (gH0 L xs).length = 7 := rfl
  have l1 : h1.length = 285 := (sRH_len r1).symm.trans sS1_len
  rw [l0] at e1
  rw [l1] at e2
  exact ⟨h2, r2, fun n o e => go_0 l0 l1 e1 e2 e⟩
/-- what the loop begins with -/
theorem law_heap {L : Nat} {xs : Nat → Int32} (hL : L ≤ 3072) {lh : gH} (h : sRH (lawRho L xs) sS2 lh) : WT T0 (hDum lh) ∧ hSw (hDum lh) lh ∧ (hDum lh).length = 358 ∧ gsz (hDum lh) ≤ 1000000 ∧ hK (hDum lh) 0 = 108 ∧ hN (hDum lh) 0 = L := by
  have hl : lh.length = 358 := (sRH_len h).symm.trans sS2_len
  have hg : gsz lh ≤ 1000000 := Nat.le_trans (sGsz h (by rw [lawRho_L xs hL]; omega)) sS2_sz
  have hobj : ∀ o, o = 1 ∨ o = 3 ∨ o = 5 → ∃ f, lh[o]? = some (.inl (13, f)) := by
    intro o ho
    have hc : ∃ l, sS2[o]? = some (13, 0, l) := by rcases ho with rfl | rfl | rfl <;> first | exact ⟨_, sS2_1⟩ | exact ⟨_, sS2_3⟩ | exact ⟨_, sS2_5⟩
    obtain ⟨l, hc⟩ := hc
    obtain ⟨c', e1, e2⟩ := sRH_at h hc
    obtain ⟨f, rfl, _⟩ := sObj e2 (by show 13 < 100; decide)
    exact ⟨f, e1⟩
  have hz : gsz (hDum lh) = gsz lh := by
    obtain ⟨f1, a1⟩ := hobj 1 (.inl rfl)
    obtain ⟨f3, a3⟩ := hobj 3 (.inr (.inl rfl))
    obtain ⟨f5, a5⟩ := hobj 5 (.inr (.inr rfl))
    have b3 : (lh.set 1 hDm)[3]? = some (.inl (13, f3)) := by
      rw [List.getElem?_set_ne (by decide)]
      exact a3
    have b5 : ((lh.set 1 hDm).set 3 hDm)[5]? = some (.inl (13, f5)) := by
      rw [List.getElem?_set_ne (by decide), List.getElem?_set_ne (by decide)]
      exact a5
    have z1 := gsz_set (d := hDm) a1 rfl
    have z3 := gsz_set (d := hDm) b3 rfl
    have z5 := gsz_set (d := hDm) b5 rfl
    exact z5.trans (z3.trans z1)
  obtain ⟨c', e1, e2⟩ := sRH_at h sS2_0
  have e1' : (hDum lh)[0]? = some c' := by rw [hDum_ne (by omega)]; exact e1
  refine ⟨WT_of h (by omega) (Nat.le_of_eq sS2_len) sS2_ks sS2_all, ⟨hDum_len lh, hz, fun i => ?_⟩, by rw [hDum_len]; exact hl, by rw [hz]; exact hg, hK_sKc e1' e2 (by decide), ?_⟩
  · by_cases h5 : i = 1 ∨ i = 3 ∨ i = 5
    · exact .inr (hDum_at (by omega) h5)
    · exact .inl (hDum_ne h5)
  · unfold hN
    rw [e1']
    cases c' with
    | inl ob => exact absurd e2.1 (by decide)
    | inr y =>
      obtain ⟨_, _, q⟩ := sRC_row2 e2
      rcases q with q | q
      · exact absurd q.1 (by show ¬ (70000 : Nat) ≤ 65536; decide)
      · show y.2.1 = L
        rw [q.2]
        exact lawRho_L xs hL
