/-! THE CLASS TELLS A SHEET (hand; behind sheet5). -/
/-- a sheet just made -/
def NSH (h0 h : gH) : Prop := ∃ x : Int32, x.toInt = hV h0 19 3 ∧ h = h0 ++ cs_new_114 (x - 1) h0.length
theorem app_hV {a cs : gH} {o : Nat} (h : o < a.length) : hV (a ++ cs) o = hV a o := funext fun s => by
  unfold hV hVal
  rw [app_lo h]
theorem i32_dec {x : Int32} (h : 1 ≤ x.toInt) : (x - 1).toInt = x.toInt - 1 := by
  have h2 := Int32.toInt_lt x
  rw [Int32.toInt_sub, bmod32, show (1 : Int32).toInt = 1 from rfl, w32_id (by omega) (by omega)]
theorem NSH_out {h0 h : gH} (z : NSH h0 h) (l3 : 358 ≤ h0.length) (e : 1 ≤ hV h0 19 3) : h.length = h0.length + 2 ∧ SHL h h0.length [] ∧ hV h h0.length 0 = hV h0 19 3 - 1 ∧ SHo h0 h (-1) ∧ RWo h0 h (-1) ∧ CUo h0 h (-1) ∧ ∀ o : Nat, o < h0.length → hV h o = hV h0 o ∧ hK h o = hK h0 o ∧ hN h o = hN h0 o := by
  obtain ⟨x, ex, rfl⟩ := z
  have o0 := hK_obj (h := h0) (cs := cs_new_114 (x - 1) h0.length) (i := 0) (k := 6) (F := F_114 (x - 1) h0.length) rfl (by decide)
  have o1 := hK_row (h := h0) (cs := cs_new_114 (x - 1) h0.length) (i := 1) (k := 6) (n := 40) (q := 106) (F := fun _ => defaultValue (gTy 6)) rfl rfl (by decide) l3
  have s0 : hV (h0 ++ cs_new_114 (x - 1) h0.length) h0.length 0 = (x - 1).toInt := congrArg vI (o0.2.2 0)
  have s1 : hV (h0 ++ cs_new_114 (x - 1) h0.length) h0.length 1 = ((h0.length + 1 : Nat) : Int) := congrArg vI (o0.2.2 1)
  have s2 : hV (h0 ++ cs_new_114 (x - 1) h0.length) h0.length 2 = 0 := congrArg vI (o0.2.2 2)
  have s3 : hV (h0 ++ cs_new_114 (x - 1) h0.length) h0.length 3 = 0 := congrArg vI (o0.2.2 3)
  refine ⟨by rw [List.length_append]; rfl, ⟨o0.1, by omega, o1.1, s2, by decide, s3, fun k r hk => ?_⟩, ?_, SHo_app, RWo_app, CUo_app, fun o ho => ?_⟩
  · rw [List.getElem?_nil] at hk
    cases hk
  · rw [s0, i32_dec (by omega), ex]
  · have w := (hLe.app (T := T0) h0 (cs_new_114 (x - 1) h0.length)).2 o ho
    exact ⟨app_hV ho, w.1, w.2.1⟩
theorem CK_pt {a b : gH} (k : ∀ o : Nat, o < 358 → hV b o = hV a o ∧ hK b o = hK a o ∧ hN b o = hN a o) (z : CK a) : CK b := ⟨fun i hi => by
  rw [(k 45 (by decide)).1]
  exact z.1 i hi, (k 46 (by decide)).2.1.trans z.2.1, (k 46 (by decide)).2.2.trans z.2.2⟩
theorem CU_pt {a b : gH} (k : ∀ o : Nat, o < 358 → hV b o = hV a o ∧ hK b o = hK a o ∧ hN b o = hN a o) (x : CUo a b (-1)) (z : CU a) : CU b := ⟨(k 45 (by decide)).2.1.trans z.1, (k 45 (by decide)).2.2.trans z.2.1, fun i hi => by
  rw [(k 45 (by decide)).1]
  exact ⟨(z.2.2 i hi).1, (x _ (z.2.2 i hi).2).1⟩⟩
/-- the cells of the stage and its row of sheets -/
def K79 (h : gH) : Prop := hK h 7 = 11 ∧ hK h 9 = 104 ∧ hN h 9 = 8 ∧ 358 ≤ h.length
theorem K79_le {a b : gH} (le : hLe T0 a b) (z : K79 a) : K79 b := by
  obtain ⟨z1, z2, z3, z4⟩ := z
  have l := le.1
  exact ⟨kLe le z1 rfl, kLe le z2 rfl, (le.2 _ (hK_lt z2 (by decide))).2.1.trans z3, by omega⟩
theorem K79_up {a b : gH} {o i w : Int} (u : hUpd b a o i w) (z : K79 a) : K79 b := by
  obtain ⟨z1, z2, z3, z4⟩ := z
  have l := u.2.1
  exact ⟨kUp u z1, kUp u z2, (u.2.2 _).2.trans z3, by omega⟩
/-- an object of the sheets that is not there yet is none of those that are -/
theorem SHo_new {a b : gH} {L : Nat} (h : a.length ≤ L) (x : SHo a b (L : Int)) : SHo a b (-1) := fun o ho => by
  have lt := hK_lt ho (by decide)
  exact ⟨(x o ho).1, fun _ => (x o ho).2 (by omega)⟩
theorem RWo_new {a b : gH} {L : Nat} (h : a.length ≤ L + 1) (x : RWo a b ((L : Int) + 1)) : RWo a b (-1) := fun o ho => by
  have lt := hK_lt ho (by decide)
  exact ⟨(x o ho).1, fun _ => (x o ho).2 (by omega)⟩
theorem SHo_tr2 {a b c : gH} {L : Nat} (h : a.length ≤ L) (x : SHo a b (-1)) (y : SHo b c (L : Int)) : SHo a c (-1) := SHo_new h (SHo_tr (fun o ho => ⟨(x o ho).1, fun _ => (x o ho).2 (by omega)⟩) y)
theorem RWo_tr2 {a b c : gH} {L : Nat} (h : a.length ≤ L + 1) (x : RWo a b (-1)) (y : RWo b c ((L : Int) + 1)) : RWo a c (-1) := RWo_new h (RWo_tr (fun o ho => ⟨(x o ho).1, fun _ => (x o ho).2 (by omega)⟩) y)
/-- what tellSheet leaves -/
def TSY (a b : gH) : Prop := hV b 7 4 = hV a 7 4 + 1 ∧ hV b 9 = uF (hV a 9) (hV a 7 4) (a.length : Int) ∧ hV b a.length 0 = hV a 19 3 - 1 ∧ SHL b a.length ((pU (HD a) (HT a) 7 (hV a 30 13).toNat (-1) 0).take 40) ∧ SHo a b (-1) ∧ RWo a b (-1) ∧ CUo a b (-1) ∧ hV b 46 = hV a 46
/-- what tellSheet wants -/
def TSW (a : gH) : Prop := CK a ∧ CU a ∧ hK a 47 = 740 ∧ hN a 47 = 7 ∧ B16 a 7 ∧ K79 a ∧ 0 ≤ hV a 30 13 ∧ hV a 30 13 ≤ 6 ∧ 1 ≤ hV a 19 3 ∧ 0 ≤ hV a 7 4 ∧ hV a 7 4 < 8
/-- the told text's parts, as the reader holds them -/
def TLD (v : Vw) (D : Nat → List CR) (T : Int → Int) (B : Nat) : Prop := B = (pDb v 6 (0, 0) []).length ∧ B ≤ 6 ∧ (∀ b : Nat, b < B → (pDb v 6 (0, 0) [])[b]? = some (D b)) ∧ D B = pDs v ∧ ∀ b : Nat, b < B → tabT (pTable v 6 (0, 0) []) (b : Int) = pcap (T (b : Int))
def TOL (v : Vw) (h : gH) (o : Nat) : Prop := ∃ (D : Nat → List CR) (T : Int → Int) (B : Nat), TLD v D T B ∧ SHL h o ((pU D T 7 B (-1) 0).take 40)
theorem FIN_TLD {v : Vw} {h : gH} (z : FIN v h) : TLD v (HD h) (HT h) (hV h 30 13).toNat := by
  obtain ⟨z1, z2, z3, z4, z5, z6⟩ := z
  refine ⟨?_, by omega, fun b hb => ?_, z3, fun b hb => ?_⟩
  · rw [← z2, lsB_len]
  · rw [← z2]
    exact lsB_at hb
  · have w := BLf_at (f := hV h 48) (g := hV h 47) (n := (hV h 30 13).toNat) (i := 0) hb
    have e : BLf (hV h 48) (hV h 47) 0 (hV h 30 13).toNat = pTable v 6 (0, 0) [] := z1
    rw [e, Nat.zero_add] at w
    unfold tabT HT
    rw [Int.toNat_natCast, w, if_pos ⟨by omega, by omega⟩]
    all_goals exact rfl
/-- the sheets that are there stay -/
def OLDs (a b : gH) : Prop := SHo a b (-1) ∧ RWo a b (-1) ∧ CUz a b
theorem OLDs_tr {a b c : gH} (x : OLDs a b) (y : OLDs b c) : OLDs a c := ⟨SHo_tr x.1 y.1, RWo_tr x.2.1 y.2.1, CUz_tr x.2.2 y.2.2⟩
noncomputable def cOL (W : List (Nat × Nat)) : Bool := cNoK 6 W && (cNoK 106 W && cNo1 W)
theorem OLDs_fr {W : List (Nat × Nat)} {a b : gH} (le : hLe T0 a b) (f : hFr W a b) (c : cOL W = true) : OLDs a b := by
  unfold cOL at c
  simp only [Bool.and_eq_true] at c
  exact ⟨SHo_fr le f c.1, RWo_fr le f c.2.1, CUz_of (CUo_fr le f c.2.2)⟩
theorem OLDs_7 {a b : gH} {i w : Int} {o : Int} (u : hUpd b a o i w) (e : o = 7) (z : K79 a) : OLDs a b := by
  subst e
  have k : hK a (7 : Int).toNat = 11 := z.1
  exact ⟨SHo_ne u (by rw [k]; decide), RWo_ne u (by rw [k]; decide), CUz_of (CUo_ne u (by rw [k]; decide))⟩
theorem SHL_old {a b : gH} {S : Nat} {D : List CR} (x : OLDs a b) (z : SHL a S D) : SHL b S D := SHL_same z x.1 x.2.1 x.2.2
/-- what a reading of the class leaves -/
def RDT (v : Vw) (r : Int) (a b : gH) : Prop := CK b ∧ K79 b ∧ B16 b 7 ∧ OLDs a b ∧ ((¬ (r = 0 ∧ ¬ v.1 0 = 19) ∧ hV b 7 4 = hV a 7 4 ∧ hV b 9 = hV a 9) ∨ (r = 0 ∧ ¬ v.1 0 = 19 ∧ hV a 7 4 < 8 ∧ hV b 7 4 = hV a 7 4 + 1 ∧ ∃ o : Nat, a.length ≤ o ∧ hV b 9 = uF (hV a 9) (hV a 7 4) (o : Int) ∧ hV b o 0 = hV a 19 3 - 1 ∧ TOL v b o))
/-- a call that makes nothing and writes no such object: as it was -/
theorem SAM {W : List (Nat × Nat)} {a b : gH} {o : Nat} (le : hLe T0 a b) (f : hFr W a b) (l : b.length = a.length) (h : hK b o = 6) (c : cNoK 6 W = true) : hV b o = hV a o := funext fun s => by
  have lt := hK_lt h (by decide)
  rw [l] at lt
  exact f.2.2 o 6 ((le.2 o lt).1.symm.trans h) rfl s (cNoK_ok c s)
theorem SAM1 {W : List (Nat × Nat)} {a b : gH} {o : Nat} (le : hLe T0 a b) (f : hFr W a b) (l : b.length = a.length) (h : hK b o = 1) (c : cNo1 W = true) : hV b o = hV a o := funext fun s => by
  have lt := hK_lt h (by decide)
  rw [l] at lt
  exact f.2.2 o 1 ((le.2 o lt).1.symm.trans h) rfl s (cNo1_ok c s)
/-- the row of the MARKS -/
def K25 (h : gH) : Prop := hK h 25 = 708 ∧ hN h 25 = 8
theorem K25_le {a b : gH} (le : hLe T0 a b) (z : K25 a) : K25 b := ⟨kLe le z.1 rfl, (le.2 _ (hK_lt z.1 (by decide))).2.1.trans z.2⟩
/-- a T as the class works it out -/
def nwW (mk : Nat → Int) (m f : Int) : Int := if m = -1 then f else w32 ((if 0 ≤ m ∧ m < 8 then mk m.toNat else 0) + f)
/-- what the class's cue answers -/
def cuC (mk : Nat → Int) (p : CR) (what : Int) : Int := if what = 0 then p.1 else if what = 1 then (if p.1 < 2 then nwW mk p.2.2.2.1 p.2.2.2.2.1 else -1) else if what = 2 then p.2.2.1 else if what = 3 then p.2.1 else -1
