/-! THE SHEETS OF BOTH PROGRAMS COUPLED (hand; behind sheet6 and mixl). -/
/-- one sheet, told by both -/
def SHT (h : gH) (s o : Nat) : Prop := ∃ (D : List (List CR)) (S : List CR) (T : Int → Int), KPT h s D S ∧ VL (drf D S) D.length ∧ ZT (drf D S) T D.length ∧ SHL h o (pU (drf D S) T 7 6 (-1) 0)
def SHC (h : gH) : Prop := CK h ∧ K79 h ∧ B16 h 7 ∧ ∀ s : Nat, (s : Int) < hV h 7 4 → ∃ o : Nat, hV h 9 s = (o : Int) ∧ hV h o 0 = hV h 293 s ∧ SHT h s o
theorem SHT_at {h : gH} {s o : Nat} (z : SHT h s o) : hK h o = 6 := by
  obtain ⟨D, S, T, z1, z2, z3, z4⟩ := z
  exact z4.1
theorem SHT_keep {a b : gH} {s o : Nat} {n : Int} (x : OLDs a b) (y : CRl a b (112 * n)) (e : ∀ k : Nat, (k : Int) < 7 * n → hV b 296 k = hV a 296 k) (h : (s : Int) < n) (z : SHT a s o) : SHT b s o := by
  obtain ⟨D, S, T, z1, z2, z3, z4⟩ := z
  exact ⟨D, S, T, KPT_same y e h z1, z2, z3, SHL_old x z4⟩
noncomputable def cSR (W : List (Nat × Nat)) : Bool := vFreeR W 293 && (vFreeR W 296 && cC8 W)
noncomputable def cSC (W : List (Nat × Nat)) : Bool := cOL W && (vFree W 7 4 && (vFreeR W 9 && (vFreeR W 45 && vFreeR W 46)))
theorem SHC_fr {W : List (Nat × Nat)} {a b : gH} (le : hLe T0 a b) (f : hFr W a b) (c : (cSC W && cSR W) = true) (z : SHC a) : SHC b := by
  unfold cSC cSR at c
  simp only [Bool.and_eq_true] at c
  obtain ⟨⟨c1, c2, c3, c4, c5⟩, c6, c7, c8⟩ := c
  obtain ⟨z1, z2, z3, z4⟩ := z
  have ol := OLDs_fr le f c1
  refine ⟨CK_fr le f c4 z1, K79_le le z2, B16_eq (fRow f 46 c5) z3, fun s hs => ?_⟩
  rw [f.1 7 4 c2] at hs
  obtain ⟨o, e1, e2, t⟩ := z4 s hs
  refine ⟨o, ?_, ?_, SHT_keep (n := (s : Int) + 1) ol (CRl_8 (CR8_fr f c8)) (fun k _ => by rw [fRow f 296 c7]) (by omega) t⟩
  · rw [fRow f 9 c3]
    exact e1
  · rw [(ol.1 o (SHT_at t)).2 (by omega) 0, fRow f 293 c6]
    exact e2
theorem fst_len {l : List (Nat × Int)} {m : List Nat} (h : l.map Prod.fst = m) : l.length = m.length := by
  rw [← h, List.length_map]
/-- no sheet that is kept has more than 40 CUES; both lists are as long -/
theorem SH_len {h : gH} {pg : Nat} {D : List (List CR)} {S : List CR} {T : Int → Int} (z : KPT h pg D S) (v : VL (drf D S) D.length) (t : ZT (drf D S) T D.length) (mk : Nat → Int) : (pU (drf D S) T 7 6 (-1) 0).map (nowC mk) = (flS (hV h 296) (hV h 298) (hV h 300) (hV h 301) (hV h 302) mk (7 * pg) 7 6 0).map (fun p => nowR mk (recR h p.1, p.2)) := by
  have e := pU_pV (mk := mk) v t (n := 6) (b := 6) (bm := -1) (bf := 0) (Nat.le_refl _) (.inr rfl) (by decide) (by decide)
  have p := pV_same (mk := mk) (fun b hb => (KPT_drf z hb).symm) (fun b hb r hr c => ⟨((v b hb r hr).1 c).1, ((v b hb r hr).1 c).2.1⟩) (n := 7) (b := 6) (s := 0) (.inr rfl)
  rw [show nw mk (-1) 0 = 0 from if_pos rfl, p, ← flS_pV, List.map_map] at e
  exact e
theorem SH_len2 {h : gH} {pg : Nat} {D : List (List CR)} {S : List CR} {T : Int → Int} (z : KPT h pg D S) (v : VL (drf D S) D.length) (t : ZT (drf D S) T D.length) (mk : Nat → Int) : (pU (drf D S) T 7 6 (-1) 0).length = (flS (hV h 296) (hV h 298) (hV h 300) (hV h 301) (hV h 302) mk (7 * pg) 7 6 0).length := by
  have e := congrArg List.length (SH_len z v t mk)
  rw [List.length_map, List.length_map] at e
  exact e
theorem SH_40 {h : gH} {pg : Nat} {D : List (List CR)} {S : List CR} {T : Int → Int} (z : KPT h pg D S) (v : VL (drf D S) D.length) (t : ZT (drf D S) T D.length) (g : PGs (hV h 294) (hV h 296) (hV h 298) (hV h 300) (hV h 301) (hV h 302) (hV h 303) (hV h 305) pg) : (pU (drf D S) T 7 6 (-1) 0).length ≤ 40 := by
  have e := SH_len2 z v t (fun _ => 0)
  have f := fst_len (flS_fst (pm := hV h 296) (cs := hV h 298) (cw := hV h 300) (cm := hV h 301) (ca := hV h 302) (mk := fun _ => 0) (base := 7 * pg) (n := 7) (b := 6) (s := 0))
  have l := fl_len (pm := hV h 296) (cs := hV h 298) (cw := hV h 300) (base := 7 * pg) 7 6
  have g3 := g.2.2
  omega
/-- a sheet just told by both -/
theorem SHT_new {v : Vw} {h : gH} {pg o : Nat} (hv : ∀ p : PS, 0 ≤ tvl v p ∧ tvl v p ≤ 9999) (fr : FIR v (0, 0) h pg) (zp : ZP h pg) (ep : hV h 285 32 = (pg : Int)) (g : PGs (hV h 294) (hV h 296) (hV h 298) (hV h 300) (hV h 301) (hV h 302) (hV h 303) (hV h 305) pg) (to : TOL v h o) : SHT h pg o := by
  have kp := FIR_KPT fr
  obtain ⟨f1, f2, f3, f4, f5, f6, f7, f8⟩ := fr
  obtain ⟨D, T, B, ⟨t1, t2, t3, t4, t5⟩, sl⟩ := to
  have ln : ((pDb v 6 (0, 0) []).length : Int) = hV h 294 pg := by
    rw [← f4, lsRB_len]
    omega
  have hb2 : ∀ b : Nat, (b < (pDb v 6 (0, 0) []).length ∨ b = 6) → ((b : Int) < hV h 294 pg ∨ b = 6) := fun b hb => by omega
  have use : ∀ b : Nat, (b < (pDb v 6 (0, 0) []).length ∨ b = 6) → ∀ r : CR, r ∈ drf (pDb v 6 (0, 0) []) (pDs v) b → (r.1 = 5 → 0 ≤ r.2.2.1 ∧ r.2.2.1 < hV h 294 pg ∧ -60 ≤ r.2.2.2.2.1 ∧ r.2.2.2.2.1 ≤ 60) ∧ (r.1 < 2 ∨ r.1 = 5 → r.2.2.2.1 ≤ 7) ∧ (r.1 = 1 → r.2.2.2.2.2.1 ≤ 7) := fun b hb r hr => by
    rw [← KPT_drf kp hb] at hr
    exact PGs_use g (hb2 b hb) hr
  have vl : VL (drf (pDb v 6 (0, 0) []) (pDs v)) (pDb v 6 (0, 0) []).length := fun b hb r hr => by
    have w := use b hb r hr
    have d := drf_bd hv hr
    exact ⟨fun c => by rw [ln]; exact w.1 c, d.1, d.2.1, d.2.2.1, d.2.2.2, w.2.1, w.2.2⟩
  have us5 : ∀ b : Nat, (b < (pDb v 6 (0, 0) []).length ∨ b = 6) → ∀ r : CR, r ∈ drf (pDb v 6 (0, 0) []) (pDs v) b → r.1 = 5 → 0 ≤ r.2.2.1 ∧ r.2.2.1 < ((pDb v 6 (0, 0) []).length : Int) := fun b hb r hr c => ⟨((vl b hb r hr).1 c).1, ((vl b hb r hr).1 c).2.1⟩
  have tb : ∀ b : Nat, b < (pDb v 6 (0, 0) []).length → tabT (pTable v 6 (0, 0) []) (b : Int) = hV h 297 (7 * pg + b) := fun b hb => by
    have w := BLg_at (f := fun k => hV h 295 ((6 * hV h 285 32).toNat + k)) (g := fun k => hV h 297 ((7 * hV h 285 32).toNat + k)) (n := (hV h 294 (hV h 285 32).toNat).toNat) (i := 0) (k := b) (by rw [ep, Int.toNat_natCast]; omega)
    have e : BLg (fun k => hV h 295 ((6 * hV h 285 32).toNat + k)) (fun k => hV h 297 ((7 * hV h 285 32).toNat + k)) 0 (hV h 294 (hV h 285 32).toNat).toNat = pTable v 6 (0, 0) [] := f3
    rw [e, Nat.zero_add] at w
    unfold tabT
    rw [Int.toNat_natCast, w, show 7 * pg + b = (7 * hV h 285 32).toNat + b by omega]
    all_goals exact rfl
  have zt : ZT (drf (pDb v 6 (0, 0) []) (pDs v)) (tabT (pTable v 6 (0, 0) [])) (pDb v 6 (0, 0) []).length := fun b hb h0 mk n s => by
    rw [tb b hb] at h0
    have w := ZP_V zp (b := b) (by omega) h0 mk n s
    rw [pV_same (mk := mk) (fun q hq => (KPT_drf kp hq).symm) us5 (n := n) (b := b) (s := s) (.inl hb)]
    exact w
  have eD : ∀ b : Nat, b < B → D b = drf (pDb v 6 (0, 0) []) (pDs v) b := fun b hb => by
    unfold drf
    rw [if_neg (by omega), t3 b hb]
    all_goals exact rfl
  have eR : D B = drf (pDb v 6 (0, 0) []) (pDs v) 6 := t4.trans (if_pos rfl).symm
  have eT : ∀ b : Nat, b < B → (0 < T (b : Int) ↔ 0 < tabT (pTable v 6 (0, 0) []) (b : Int)) := fun b hb => by
    rw [t5 b hb]
    exact pcap_pos.symm
  have eU : pU D T 7 B (-1) 0 = pU (drf (pDb v 6 (0, 0) []) (pDs v)) (tabT (pTable v 6 (0, 0) [])) 7 6 (-1) 0 := pU_root eD eR eT (fun b hb r hr c => by
    rw [t1]
    exact us5 b (.inl (by omega)) r (by rw [← eD b hb]; exact hr) c) (fun r hr c => by
    rw [t1]
    exact us5 6 (.inr rfl) r (by rw [← eR]; exact hr) c)
  rw [eU, List.take_of_length_le (SH_40 kp vl zt g)] at sl
  exact ⟨_, _, _, kp, vl, zt, sl⟩
/-- what the reference's reading leaves -/
def RDR (v : Vw) (r : Int) (b c : gH) : Prop := CRl b c (112 * hV b 285 18) ∧ (∀ k : Nat, (k : Int) < 7 * hV b 285 18 → hV c 296 k = hV b 296 k) ∧ (r = 0 → ¬ v.1 0 = 19 → FIR v (0, 0) c (hV b 285 18).toNat ∧ ZP c (hV b 285 18).toNat ∧ hV c 285 32 = hV b 285 18)
/-- both have read -/
theorem SHC_read {Wc Wr : List (Nat × Nat)} {a b c : gH} {v : Vw} {r : Int} (z : SHC a) (hv : ∀ p : PS, 0 ≤ tvl v p ∧ tvl v p ≤ 9999) (n0 : 0 ≤ hV a 7 4) (e18 : hV b 285 18 = hV a 7 4) (e60 : hV b 285 60 = hV a 19 3) (f1 : hFr Wc a b) (c1 : cSR Wc = true) (pa : RDT v r a b) (le : hLe T0 b c) (f2 : hFr Wr b c) (c2 : cSC Wr = true) (pb : RDR v r b c) (pg : ∀ s : Nat, (s : Int) < hV c 285 18 → PGs (hV c 294) (hV c 296) (hV c 298) (hV c 300) (hV c 301) (hV c 302) (hV c 303) (hV c 305) s) (p93 : (r = 0 ∧ ¬ v.1 0 = 19 ∧ hV c 285 18 = hV b 285 18 + 1 ∧ hV c 293 = uF (hV b 293) (hV b 285 18) (hV b 285 60 - 1)) ∨ (¬ (r = 0 ∧ ¬ v.1 0 = 19) ∧ hV c 293 = hV b 293)) : SHC c := by
  unfold cSR at c1
  unfold cSC at c2
  simp only [Bool.and_eq_true] at c1 c2
  obtain ⟨c11, c12, c13⟩ := c1
  obtain ⟨d1, d2, d3, d4, d5⟩ := c2
  obtain ⟨z1, z2, z3, z4⟩ := z
  obtain ⟨k1, k2, k3, k4, k5⟩ := pa
  obtain ⟨r1, r2, r3⟩ := pb
  have olb := OLDs_fr le f2 d1
  have ol := OLDs_tr k4 olb
  have e7 : hV c 7 4 = hV b 7 4 := f2.1 7 4 d2
  have e9 : hV c 9 = hV b 9 := fRow f2 9 d3
  have cr : CRl a c (112 * hV a 7 4) := CRl_tr (CRl_8 (CR8_fr f1 c13)) (by rw [← e18]; exact r1)
  have e296 : ∀ k : Nat, (k : Int) < 7 * hV a 7 4 → hV c 296 k = hV a 296 k := fun k hk => (r2 k (by omega)).trans (congrFun (fRow f1 296 c12) k)
  have e293 : hV b 293 = hV a 293 := fRow f1 293 c11
  have old : ∀ s : Nat, (s : Int) < hV a 7 4 → hV c 9 s = hV a 9 s → hV c 293 s = hV a 293 s → ∃ o : Nat, hV c 9 s = (o : Int) ∧ hV c o 0 = hV c 293 s ∧ SHT c s o := fun s hs q9 q3 => by
    obtain ⟨o, w1, w2, w3⟩ := z4 s hs
    refine ⟨o, q9.trans w1, ?_, SHT_keep ol cr e296 hs w3⟩
    rw [(ol.1 o (SHT_at w3)).2 (by omega) 0, q3]
    exact w2
  refine ⟨CK_fr le f2 d4 k1, K79_le le k2, B16_eq (fRow f2 46 d5) k3, fun s hs => ?_⟩
  rcases k5 with ⟨n1, n2, n3⟩ | ⟨t1, t2, t3, t4, o, t5, t6, t7, t8⟩
  · have q3 : hV c 293 = hV b 293 := by
      rcases p93 with w | w
      · exact absurd ⟨w.1, w.2.1⟩ n1
      · exact w.2
    exact old s (by omega) (by rw [e9, n3]) (by rw [q3, e293])
  · obtain ⟨m1, m2, m3, m4⟩ := p93.resolve_right (fun w => w.1 ⟨t1, t2⟩)
    obtain ⟨u1, u2, u3⟩ := r3 t1 t2
    by_cases hq : (s : Int) = hV a 7 4
    · have es : (hV b 285 18).toNat = s := by omega
      rw [es] at u1 u2
      have so : hV c o 0 = hV b o 0 := by
        obtain ⟨D, T, B, t, sl⟩ := t8
        exact (olb.1 o sl.1).2 (by omega) 0
      refine ⟨o, ?_, ?_, SHT_new hv u1 u2 (by omega) (pg s (by omega)) ?_⟩
      · rw [e9, t6, uF_at, if_pos hq]
      · rw [so, t7, m4, uF_at, if_pos (by omega), e60]
      · obtain ⟨D, T, B, t, sl⟩ := t8
        exact ⟨D, T, B, t, SHL_old olb sl⟩
    · exact old s (by omega) (by rw [e9, t6, uF_at, if_neg hq]) (by rw [m4, uF_at, if_neg (by omega), e293])
