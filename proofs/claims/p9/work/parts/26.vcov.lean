/-! THE TYPES OF ALL SLOTS (printed by wip/gen/gen26.py from tabs.py). -/
def T0F : List (List vT) := [[(2, 105, 20, 26), (0, 0, 20, 0), (0, -2147483648, 2147483647, 0), (2, 708, 8, 27), (2, 708, 8, 28), (2, 772, 8, 29), (2, 772, 20, 30), (2, 772, 20, 31)],
  [(0, -2147483648, 2147483647, 0), (0, -2147483648, 2147483647, 0), (0, -2147483648, 2147483647, 0), (0, -2147483648, 2147483647, 0), (0, -2147483648, 2147483647, 0), (0, -2147483648, 2147483647, 0), (0, -2147483648, 2147483647, 0), (0, -2147483648, 2147483647, 0), (0, -2147483648, 2147483647, 0), (0, -2147483648, 2147483647, 0), (0, -2147483648, 2147483647, 0), (0, -2147483648, 2147483647, 0), (0, -2147483648, 2147483647, 0), (0, -2147483648, 2147483647, 0), (0, -2147483648, 2147483647, 0), (0, -2147483648, 2147483647, 0), (0, -2147483648, 2147483647, 0), (2, 796, 4, 1), (0, -2147483648, 2147483647, 0)],
  [(2, 0, 23, 25), (2, 3, 19, 21), (2, 10, 275, 277), (2, 748, 9600, 278), (2, 748, 240, 279), (2, 748, 720, 280), (2, 757, 720, 281), (2, 748, 240, 282), (0, -2147483648, 2147483647, 0)],
  [(2, 700, 6, 22), (2, 700, 6, 23), (2, 700, 360, 24), (0, -2147483648, 2147483647, 0), (0, -2147483648, 2147483647, 0)],
  [(2, 8, 31, 33), (0, -2147483648, 2147483647, 0), (0, -2147483648, 2147483647, 0), (0, -2147483648, 2147483647, 0), (0, -2147483648, 2147483647, 0), (0, -2147483648, 2147483647, 0), (0, -2147483648, 2147483647, 0), (0, 0, 1, 0), (3, 5, -1, 0), (2, 810, 112, 47), (2, 740, 7, 48), (2, 740, 7, 49), (2, 733, 6, 50), (0, -2147483648, 2147483647, 0), (2, 740, 64, 51), (0, -2147483648, 2147483647, 0)],
  [(0, -2147483648, 2147483647, 0), (2, 100, 1000, 1), (0, -2147483648, 2147483647, 0), (2, 100, 12, 1), (2, 100, 12, 1), (2, 100, 12, 1), (2, 100, 12, 1), (2, 100, 12, 1), (2, 100, 5, 1), (2, 100, 64, 1), (0, -2147483648, 2147483647, 0), (0, 0, 1, 0)],
  [(0, -2147483648, 2147483647, 0), (2, 106, 40, 1), (0, 0, 40, 0), (0, -2147483648, 2147483647, 0), (0, -2147483648, 2147483647, 0)],
  [(0, -2147483648, 2147483647, 0), (0, -2147483648, 2147483647, 0), (0, -2147483648, 2147483647, 0), (0, -2147483648, 2147483647, 0), (2, 780, 240, 1), (2, 788, 8, 1), (0, -2147483648, 2147483647, 0), (0, -2147483648, 2147483647, 0), (0, -2147483648, 2147483647, 0), (0, -2147483648, 2147483647, 0), (2, 6, -1, 0), (0, -2147483648, 2147483647, 0), (0, -2147483648, 2147483647, 0)],
  [(2, 725, 34, 34), (2, 716, 502, 35), (2, 716, 502, 36), (2, 725, 502, 37), (0, -2147483648, 2147483647, 0)],
  [(2, 0, 23, 25), (2, 3, 19, 21), (2, 2, 274, 276), (2, 764, 60, 284), (2, 764, 60, 285), (0, -2147483648, 2147483647, 0), (0, -2147483648, 2147483647, 0), (0, -2147483648, 2147483647, 0)],
  [(2, 7, -1, 0), (0, -2147483648, 2147483647, 0), (0, -2147483648, 2147483647, 0)],
  [(2, 692, 2000, 10), (0, -2147483648, 2147483647, 0), (0, -2147483648, 2147483647, 0), (2, 104, 8, 11), (0, 0, 8, 0), (3, 5, -1, 0), (2, 3, 19, 21), (2, 0, 23, 25), (2, 4, 30, 32), (2, 2, 274, 276), (2, 9, 281, 283), (2, 10, 284, 286)],
  [(0, -2147483648, 2147483647, 0), (2, 118, 2000, 288), (0, 0, 2000, 0), (2, 126, 2000, 289), (0, 0, 2000, 0), (2, 132, 503, 290), (2, 140, 503, 291), (2, 148, 503, 292), (2, 157, 503, 293), (2, 165, 34, 294), (0, 0, 501, 0), (0, 0, 500, 0), (0, 0, 7, 0), (0, 0, 2, 0), (0, 0, 2000, 0), (0, 0, 6, 0), (0, 0, 2000, 0), (0, -1, 2000, 0), (0, 0, 8, 0), (2, 172, 9, 295), (2, 180, 9, 296), (2, 189, 54, 297), (2, 196, 63, 298), (2, 204, 63, 299), (2, 212, 1008, 300), (2, 220, 1008, 301), (2, 228, 1008, 302), (2, 236, 1008, 303), (2, 244, 1008, 304), (2, 252, 1008, 305), (2, 260, 1008, 306), (2, 268, 6048, 307), (0, 0, 7, 0), (0, 0, 62, 0), (0, 0, 1, 0), (0, 0, 1, 0), (2, 276, 2, 308), (2, 284, 24, 309), (2, 292, 24, 310), (2, 300, 24, 311), (2, 308, 24, 312), (2, 316, 24, 313), (2, 324, 24, 314), (2, 332, 24, 315), (0, 0, 400, 0), (2, 340, 400, 316), (2, 351, 400, 317), (2, 359, 400, 318), (2, 364, 400, 319), (2, 372, 400, 320), (2, 380, 400, 321), (0, 0, 1200, 0), (2, 388, 1200, 322), (2, 396, 1200, 323), (2, 404, 64, 324), (0, 0, 64, 0), (2, 412, 5, 325), (2, 420, 500, 326), (0, 0, 1, 0), (0, -2147483648, 2147483647, 0), (0, 1, 6, 0), (2, 428, 6, 327), (2, 436, 6, 328), (2, 444, 360, 329), (0, 0, 20, 0), (0, 0, 2147483647, 0), (2, 452, 20, 330), (2, 460, 20, 331), (2, 468, 20, 332), (2, 476, 20, 333), (2, 484, 20, 334), (2, 492, 20, 335), (2, 500, 20, 336), (2, 508, 20, 337), (2, 516, 20, 338), (2, 524, 4800, 339), (2, 532, 20, 340), (2, 540, 160, 341), (2, 548, 8, 342), (2, 556, 8, 343), (2, 564, 8, 344), (2, 572, 20, 345), (0, 0, 40, 0), (2, 580, 40, 346), (2, 588, 40, 347), (2, 596, 8, 348), (2, 604, 8, 349), (2, 612, 8, 350), (0, -2147483648, 2147483647, 0), (2, 621, 720, 351), (2, 631, 720, 352), (2, 637, 240, 353), (2, 644, 240, 354), (0, 0, 240, 0), (0, 0, 255, 0), (2, 652, 8, 355), (2, 663, 20, 356), (2, 668, 20, 357), (2, 679, 60, 358), (2, 684, 240, 359), (0, -2147483648, 2147483647, 0), (0, -2147483648, 2147483647, 0), (0, -2147483648, 2147483647, 0), (0, 0, 40, 0)]]
def T0B : List vT := [(0, -2147483648, 2147483647, 0), (0, -2147483648, 2147483647, 0), (0, -2147483648, 2147483647, 0), (0, -2147483648, 2147483647, 0), (0, 0, 53, 0), (0, 0, 2000, 0), (0, 0, 9999, 0), (0, -2147483648, 2147483647, 0), (0, -2147483648, 2147483647, 0), (0, 0, 5, 0), (0, 0, 6, 0), (0, -2147483648, 2147483647, 0), (0, 0, 16, 0), (0, 0, 2000, 0), (0, 0, 5, 0), (0, 0, 2000, 0), (0, -1, 9999, 0), (0, -1, 9999, 0), (0, -9999, 9999, 0), (0, -1, 9999, 0), (0, -9999, 9999, 0), (0, -1, 9999, 0), (0, 0, 12, 0), (0, 0, 1, 0), (0, 0, 1200, 0), (0, 0, 1200, 0), (0, 0, 400, 0), (0, 0, 400, 0), (0, 0, 9999, 0), (0, 0, 9999, 0), (0, 0, 3, 0), (0, -2147483648, 2147483647, 0), (0, -2147483648, 2147483647, 0), (0, 0, 1200, 0), (0, 0, 1200, 0), (0, 0, 1200, 0), (0, 0, 5, 0), (0, 0, 9999, 0), (0, 0, 53, 0), (0, -2147483648, 2147483647, 0), (0, -2147483648, 2147483647, 0), (0, 0, 60, 0), (0, 0, 10, 0), (0, -1, 59, 0), (0, 0, 6, 0), (0, -1, 240, 0), (0, -2147483648, 2147483647, 0), (0, -2147483648, 2147483647, 0), (0, -1, 19, 0), (0, 0, 2147483647, 0), (0, 0, 2147483647, 0), (0, -1, 7, 0), (0, -1, 5, 0), (0, -2147483648, 2147483647, 0), (0, 0, 8, 0), (0, 0, 59, 0), (0, 0, 60, 0), (0, 0, 2147483647, 0), (0, 0, 999, 0), (0, 0, 19, 0), (0, 0, 1007, 0), (0, -1000, 1000, 0), (0, 0, 62, 0), (0, 0, 16, 0), (0, -1000, 1000, 0), (0, -2147483648, 2147483647, 0), (0, -2147483648, 2147483647, 0), (0, -2147483648, 2147483647, 0), (0, -2147483648, 2147483647, 0), (0, -1, 7, 0), (0, -2147483648, 2147483647, 0), (0, -2147483648, 2147483647, 0), (0, -2147483648, 2147483647, 0), (0, -2147483648, 2147483647, 0), (0, -2147483648, 2147483647, 0), (0, -2147483648, 2147483647, 0), (0, -2147483648, 2147483647, 0), (0, -2147483648, 2147483647, 0), (0, -2147483648, 2147483647, 0), (0, -2147483648, 2147483647, 0), (0, -2147483648, 2147483647, 0), (0, -2147483648, 2147483647, 0), (0, -2147483648, 2147483647, 0), (0, -2147483648, 2147483647, 0), (0, -2147483648, 2147483647, 0), (0, -2147483648, 2147483647, 0), (0, -2147483648, 2147483647, 0), (0, -2147483648, 2147483647, 0), (0, -2147483648, 2147483647, 0), (0, -2147483648, 2147483647, 0)]
noncomputable def T0 (k i : Nat) : vT := bif Nat.blt k 100 then (match fNth T0F k with
  | some l => (match fNth l i with
    | some t => t
    | none => (0, 0, 0, 1))
  | none => (0, 0, 0, 1)) else bif Nat.beq (Nat.mod (k - 100) 8) 0 then (match fNth T0B (Nat.div (k - 100) 8) with
  | some t => t
  | none => (0, -2147483648, 2147483647, 0)) else bif Nat.beq (Nat.mod (k - 100) 8) 1 then (1, 0, 0, 0) else bif Nat.beq (Nat.mod (k - 100) 8) 2 then (0, -128, 127, 0) else bif Nat.beq (Nat.mod (k - 100) 8) 3 then (0, 0, 1, 0) else bif Nat.beq (Nat.mod (k - 100) 8) 4 then (2, 6, -1, 0) else bif Nat.beq (Nat.mod (k - 100) 8) 5 then (2, 7, -1, 0) else bif Nat.beq (Nat.mod (k - 100) 8) 6 then (2, 1, -1, 0) else (0, -2147483648, 2147483647, 0)
def tyOk (ty : FieldType) (t : vT) : Bool := match ty with
  | .int => Nat.beq t.1 0
  | .boolean => Nat.beq t.1 0 && (decide (0 ≤ t.2.1) && decide (t.2.2.1 ≤ 1))
  | .long => Nat.beq t.1 1
  | .object _ => Nat.beq t.1 2 || Nat.beq t.1 3
  | .array _ => Nat.beq t.1 2 || Nat.beq t.1 3
  | _ => false
theorem tyOk_fit {T : Nat → Nat → vT} {lh : gH} {ty : FieldType} {t : vT} {v : Value} (h : tyOk ty t = true) (hv : vOK T lh t v) : gFit ty v = true := by
  have ref : (t.1 = 2 ∨ t.1 = 3) → v = .null ∨ ∃ i, v = .ref i := fun e => by
    unfold vOK at hv
    rcases e with z | z
    · rw [z] at hv
      rcases hv with hv | ⟨i, hv, _⟩
      · exact .inl hv
      · exact .inr ⟨i, hv⟩
    · rw [z] at hv
      obtain ⟨i, hv, _⟩ := hv
      exact .inr ⟨i, hv⟩
  unfold tyOk at h
  unfold gFit
  split at h
  · unfold vOK at hv
    rw [Nat.eq_of_beq_eq_true h] at hv
    obtain ⟨x, rfl, _⟩ := hv
    rw [decide_eq_true (show narrow .int (.int x) = .int x from rfl)]
    rfl
  · rw [Bool.and_eq_true, Bool.and_eq_true, decide_eq_true_eq, decide_eq_true_eq] at h
    unfold vOK at hv
    rw [Nat.eq_of_beq_eq_true h.1] at hv
    obtain ⟨x, rfl, b1, b2⟩ := hv
    rw [decide_eq_true (nar_bool (by omega) (by omega))]
    have h3 : x.toInt = 0 ∨ x.toInt = 1 := by omega
    rcases h3 with z | z
    · have e : x = 0 := Int32.toInt_inj.mp z
      subst e
      rfl
    · have e : x = 1 := Int32.toInt_inj.mp z
      subst e
      rfl
  · unfold vOK at hv
    rw [Nat.eq_of_beq_eq_true h] at hv
    obtain ⟨x, rfl⟩ := hv
    rw [decide_eq_true (show narrow .long (.long x) = .long x from rfl)]
    rfl
  · rw [Bool.or_eq_true] at h
    rename_i s
    rcases ref (h.elim (fun z => .inl (Nat.eq_of_beq_eq_true z)) (fun z => .inr (Nat.eq_of_beq_eq_true z))) with rfl | ⟨i, rfl⟩
    · rw [decide_eq_true (show narrow (.object s) .null = .null from rfl)]
      rfl
    · rw [decide_eq_true (show narrow (.object s) (.ref i) = .ref i from rfl)]
      rfl
  · rw [Bool.or_eq_true] at h
    rename_i s
    rcases ref (h.elim (fun z => .inl (Nat.eq_of_beq_eq_true z)) (fun z => .inr (Nat.eq_of_beq_eq_true z))) with rfl | ⟨i, rfl⟩
    · rw [decide_eq_true (show narrow (.array s) .null = .null from rfl)]
      rfl
    · rw [decide_eq_true (show narrow (.array s) (.ref i) = .ref i from rfl)]
      rfl
  · cases h
theorem T0_chk : ((List.range 13).all fun a => (List.range (gN a)).all fun b => tyOk (gYt a b) (T0 a b)) = true := by decide +kernel
theorem T0F_len : T0F.length = 13 := rfl
theorem T0_ok : vTOK T0 := by
  refine ⟨fun a b v lh ha hb hn hv => ?_, fun k i hk => ?_, fun k hk => ⟨fun e => ?_, fun e => ?_⟩⟩
  · by_cases h13 : a < 13
    · have h1 := List.all_eq_true.mp T0_chk a (List.mem_range.mpr h13)
      have h2 := List.all_eq_true.mp h1 b (List.mem_range.mpr hb)
      exact tyOk_fit h2 hv
    · exfalso
      unfold T0 at hn
      rw [Nat.blt_eq.mpr ha, fNth_eq, List.getElem?_eq_none (by rw [T0F_len]; omega)] at hn
      exact absurd (show (1 : Nat) = 0 from hn) (by decide)
  · have hb : Nat.blt k 100 = false := by
      cases hq : Nat.blt k 100 with
      | false => rfl
      | true => have := Nat.blt_eq.mp hq; omega
    unfold T0
    rw [hb]
    rfl
  · have hb : Nat.blt k 100 = false := by
      cases hq : Nat.blt k 100 with
      | false => rfl
      | true => have := Nat.blt_eq.mp hq; omega
    unfold T0
    rw [hb, e]
    rfl
  · have hb : Nat.blt k 100 = false := by
      cases hq : Nat.blt k 100 with
      | false => rfl
      | true => have := Nat.blt_eq.mp hq; omega
    unfold T0
    rw [hb, e]
    rfl
/-! CONDITIONS, told with fewer facts: the kernel holds them against those of the run. -/
noncomputable def fEqL (a : List Nat) : List Nat → Bool := List.rec (motive := fun _ => List Nat → Bool) (fun b => match b with
  | [] => true
  | _ :: _ => false) (fun x _ ih b => match b with
  | [] => false
  | y :: t => bif Nat.beq x y then ih t else false) a
noncomputable def fEqI (a b : Int) : Bool := Int.rec (motive := fun _ => Int → Bool) (fun n b => match b with
  | .ofNat k => Nat.beq n k
  | .negSucc _ => false) (fun n b => match b with
  | .ofNat _ => false
  | .negSucc k => Nat.beq n k) a b
noncomputable def fEqF (f g : vF) : Bool := bif Nat.beq f.1 g.1 then (bif fEqL f.2.1 g.2.1 then (bif fEqL f.2.2.1 g.2.2.1 then fEqI f.2.2.2 g.2.2.2 else false) else false) else false
theorem fEqL_ok : ∀ {a b : List Nat}, fEqL a b = true → a = b := by
  intro a
  induction a with
  | nil => intro b h; cases b with
    | nil => rfl
    | cons y t => cases h
  | cons x t ih => intro b h; cases b with
    | nil => cases h
    | cons y u =>
      replace h : (bif Nat.beq x y then fEqL t u else false) = true := h
      cases hq : Nat.beq x y with
      | false => rw [hq] at h; cases h
      | true =>
        rw [hq] at h
        rw [Nat.eq_of_beq_eq_true hq, ih h]
theorem fEqI_ok {a b : Int} (h : fEqI a b = true) : a = b := by
  cases a with
  | ofNat n => cases b with
    | ofNat k => exact congrArg Int.ofNat (Nat.eq_of_beq_eq_true h)
    | negSucc k => cases h
  | negSucc n => cases b with
    | ofNat k => cases h
    | negSucc k => exact congrArg Int.negSucc (Nat.eq_of_beq_eq_true h)
theorem fEqF_ok {f g : vF} (h : fEqF f g = true) : f = g := by
  obtain ⟨a, b, c, e⟩ := f
  obtain ⟨a', b', c', e'⟩ := g
  unfold fEqF at h
  dsimp only at h
  cases h1 : Nat.beq a a' with
  | false => rw [h1] at h; cases h
  | true =>
    rw [h1] at h
    cases h2 : fEqL b b' with
    | false => rw [h2] at h; cases h
    | true =>
      rw [h2] at h
      cases h3 : fEqL c c' with
      | false => rw [h3] at h; cases h
      | true =>
        rw [h3] at h
        rw [Nat.eq_of_beq_eq_true h1, fEqL_ok h2, fEqL_ok h3, fEqI_ok h]
/-- the second list's facts stand in the first one, in its order -/
noncomputable def vSubF (big : List vF) : List vF → Bool := List.rec (motive := fun _ => List vF → Bool) (fun s => match s with
  | [] => true
  | _ :: _ => false) (fun f _ ih s => match s with
  | [] => true
  | g :: t => bif fEqF g f then ih t else ih s) big
theorem vSubF_ok : ∀ {big s : List vF}, vSubF big s = true → ∀ f ∈ s, f ∈ big := by
  intro big
  induction big with
  | nil => intro s h f hf; cases s with
    | nil => cases hf
    | cons g t => cases h
  | cons a big ih => intro s h f hf; cases s with
    | nil => cases hf
    | cons g t =>
      replace h : (bif fEqF g a then vSubF big t else vSubF big (g :: t)) = true := h
      cases hq : fEqF g a with
      | false =>
        rw [hq] at h
        exact List.mem_cons_of_mem _ (ih h f hf)
      | true =>
        rw [hq] at h
        rcases List.mem_cons.mp hf with rfl | hf
        · rw [fEqF_ok hq]
          exact List.mem_cons_self
        · exact List.mem_cons_of_mem _ (ih h f hf)
def vOne (k : Nat) (l : List Nat) : Bool := match l with
  | [j] => Nat.beq j k
  | _ => false
/-- c ≤ k stands among the facts -/
noncomputable def vLow (fs : List vF) (k : Nat) (c : Int) : Bool := fAny (fun f => vOne k f.2.1 && (bif Nat.beq f.1 0 then decide (c ≤ f.2.2.2) else bif Nat.beq f.1 90 then decide (c ≤ f.2.2.2) else bif Nat.beq f.1 33 then decide (c ≤ 0) else bif Nat.beq f.1 34 then decide (c ≤ 1) else false)) fs
noncomputable def vHigh (fs : List vF) (k : Nat) (c : Int) : Bool := fAny (fun f => vOne k f.2.1 && (bif Nat.beq f.1 0 then decide (f.2.2.2 ≤ c) else bif Nat.beq f.1 91 then decide (f.2.2.2 ≤ c) else bif Nat.beq f.1 35 then decide (0 ≤ c) else bif Nat.beq f.1 32 then decide (-1 ≤ c) else false)) fs
noncomputable def vNz (fs : List vF) (k : Nat) : Bool := fAny (fun f => vOne k f.2.1 && (bif Nat.beq f.1 0 then !(fEqI f.2.2.2 0) else bif Nat.beq f.1 31 then true else false)) fs
def vOn (ns : List Nat) (f : Nat → Bool) : Bool := match ns with
  | [k] => f k
  | _ => false
/-- conditions that need no words (tp: the method's post needs none) -/
noncomputable def vTriv (tp : Bool) (g : vG) : Bool := bif Nat.beq g.2.1 90 then vOn g.2.2.1 (fun k => vLow g.1 k g.2.2.2.2) else bif Nat.beq g.2.1 91 then vOn g.2.2.1 (fun k => vHigh g.1 k g.2.2.2.2) else bif Nat.beq g.2.1 70 then vOn g.2.2.1 (fun k => bif vLow g.1 k 0 then vHigh g.1 k (g.2.2.2.2 - 1) else false) else bif Nat.beq g.2.1 72 then vOn g.2.2.1 (fun k => vNz g.1 k) else bif Nat.beq g.2.1 3000 then vOn g.2.2.2.1 (fun _ => tp) else false
noncomputable def vCov (tp : Bool) (l : List vG) : List vG → Bool := List.rec (motive := fun _ => List vG → Bool) (fun p => match p with
  | [] => true
  | _ :: _ => false) (fun g _ ih p => bif vTriv tp g then ih p else (match p with
  | [] => false
  | q :: t => bif fEqF q.2 g.2 then (bif vSubF g.1 q.1 then ih t else false) else false)) l
noncomputable def vCovO (tp : Bool) (r : vR) (p : List vG) : Bool := match r with
  | some l => vCov tp l p
  | none => false
section VTRIV
variable {T : Nat → Nat → vT} {P : vP} {ρ : Nat → Int} {η : Nat → gH}
theorem vOne_ok {k : Nat} {l : List Nat} (h : vOne k l = true) : l = [k] := by
  unfold vOne at h
  split at h
  · rw [Nat.eq_of_beq_eq_true h]
  · cases h
theorem vLow_ok {fs : List vF} {k : Nat} {c : Int} (h : vLow fs k c = true) (hf : ∀ f ∈ fs, fD T P ρ η f) : c ≤ ρ k := by
  obtain ⟨⟨op, ns, hs, e⟩, h1, h2⟩ := fAny_ok h
  rw [Bool.and_eq_true] at h2
  have h3 := hf _ h1
  have e1 := vOne_ok h2.1
  dsimp only at e1
  subst e1
  have h4 := h2.2
  dsimp only at h4
  cases q0 : Nat.beq op 0 with
  | true =>
    rw [q0] at h4
    have := Nat.eq_of_beq_eq_true q0
    subst this
    have h5 : ρ k = e := h3
    have h6 := of_decide_eq_true h4
    omega
  | false =>
    rw [q0] at h4
    cases q1 : Nat.beq op 90 with
    | true =>
      rw [q1] at h4
      have := Nat.eq_of_beq_eq_true q1
      subst this
      have h5 : e ≤ ρ k := h3
      have h6 := of_decide_eq_true h4
      omega
    | false =>
      rw [q1] at h4
      cases q2 : Nat.beq op 33 with
      | true =>
        rw [q2] at h4
        have := Nat.eq_of_beq_eq_true q2
        subst this
        have h5 : 0 ≤ ρ k := h3
        have h6 := of_decide_eq_true h4
        omega
      | false =>
        rw [q2] at h4
        cases q3 : Nat.beq op 34 with
        | true =>
          rw [q3] at h4
          have := Nat.eq_of_beq_eq_true q3
          subst this
          have h5 : 0 < ρ k := h3
          have h6 := of_decide_eq_true h4
          omega
        | false => rw [q3] at h4; cases h4
theorem vHigh_ok {fs : List vF} {k : Nat} {c : Int} (h : vHigh fs k c = true) (hf : ∀ f ∈ fs, fD T P ρ η f) : ρ k ≤ c := by
  obtain ⟨⟨op, ns, hs, e⟩, h1, h2⟩ := fAny_ok h
  rw [Bool.and_eq_true] at h2
  have h3 := hf _ h1
  have e1 := vOne_ok h2.1
  dsimp only at e1
  subst e1
  have h4 := h2.2
  dsimp only at h4
  cases q0 : Nat.beq op 0 with
  | true =>
    rw [q0] at h4
    have := Nat.eq_of_beq_eq_true q0
    subst this
    have h5 : ρ k = e := h3
    have h6 := of_decide_eq_true h4
    omega
  | false =>
    rw [q0] at h4
    cases q1 : Nat.beq op 91 with
    | true =>
      rw [q1] at h4
      have := Nat.eq_of_beq_eq_true q1
      subst this
      have h5 : ρ k ≤ e := h3
      have h6 := of_decide_eq_true h4
      omega
    | false =>
      rw [q1] at h4
      cases q2 : Nat.beq op 35 with
      | true =>
        rw [q2] at h4
        have := Nat.eq_of_beq_eq_true q2
        subst this
        have h5 : ρ k ≤ 0 := h3
        have h6 := of_decide_eq_true h4
        omega
      | false =>
        rw [q2] at h4
        cases q3 : Nat.beq op 32 with
        | true =>
          rw [q3] at h4
          have := Nat.eq_of_beq_eq_true q3
          subst this
          have h5 : ρ k < 0 := h3
          have h6 := of_decide_eq_true h4
          omega
        | false => rw [q3] at h4; cases h4
theorem vNz_ok {fs : List vF} {k : Nat} (h : vNz fs k = true) (hf : ∀ f ∈ fs, fD T P ρ η f) : ρ k ≠ 0 := by
  obtain ⟨⟨op, ns, hs, e⟩, h1, h2⟩ := fAny_ok h
  rw [Bool.and_eq_true] at h2
  have h3 := hf _ h1
  have e1 := vOne_ok h2.1
  dsimp only at e1
  subst e1
  have h4 := h2.2
  dsimp only at h4
  cases q0 : Nat.beq op 0 with
  | true =>
    rw [q0] at h4
    have := Nat.eq_of_beq_eq_true q0
    subst this
    have h5 : ρ k = e := h3
    intro z
    rw [h5] at z
    subst z
    cases h4
  | false =>
    rw [q0] at h4
    cases q1 : Nat.beq op 31 with
    | true =>
      have := Nat.eq_of_beq_eq_true q1
      subst this
      exact h3
    | false => rw [q1] at h4; cases h4
theorem vOn_ok {ns : List Nat} {f : Nat → Bool} (h : vOn ns f = true) : ∃ k, ns = [k] ∧ f k = true := by
  unfold vOn at h
  split at h
  · exact ⟨_, rfl, h⟩
  · cases h
theorem vTriv_ok {tp : Bool} {m : Nat} {g : vG} (h : vTriv tp g = true) (hp : tp = true → ∀ xs h0 h, P.2.2.2.2.2.1 xs h0 h) : vOkm T P m g := by
  obtain ⟨fs, op, ns, hs, c⟩ := g
  unfold vTriv at h
  dsimp only at h
  intro ρ η
  cases q0 : Nat.beq op 90 with
  | true =>
    rw [q0] at h
    have := Nat.eq_of_beq_eq_true q0
    subst this
    intro hf
    obtain ⟨k, rfl, h9⟩ := vOn_ok h
    exact vLow_ok h9 hf
  | false =>
    rw [q0] at h
    cases q1 : Nat.beq op 91 with
    | true =>
      rw [q1] at h
      have := Nat.eq_of_beq_eq_true q1
      subst this
      intro hf
      obtain ⟨k, rfl, h9⟩ := vOn_ok h
      exact vHigh_ok h9 hf
    | false =>
      rw [q1] at h
      cases q2 : Nat.beq op 70 with
      | true =>
        rw [q2] at h
        have := Nat.eq_of_beq_eq_true q2
        subst this
        intro hf
        obtain ⟨k, rfl, h9⟩ := vOn_ok h
        cases q3 : vLow fs k 0 with
        | false => rw [q3] at h9; cases h9
        | true =>
          rw [q3] at h9
          have h1 := vLow_ok q3 hf
          have h2 := vHigh_ok (show vHigh fs k (c - 1) = true from h9) hf
          show 0 ≤ ρ k ∧ ρ k < c
          omega
      | false =>
        rw [q2] at h
        cases q3 : Nat.beq op 72 with
        | true =>
          rw [q3] at h
          have := Nat.eq_of_beq_eq_true q3
          subst this
          intro hf
          obtain ⟨k, rfl, h9⟩ := vOn_ok h
          exact vNz_ok h9 hf
        | false =>
          rw [q3] at h
          cases q4 : Nat.beq op 3000 with
          | false => rw [q4] at h; cases h
          | true =>
            rw [q4] at h
            have e := Nat.eq_of_beq_eq_true q4
            subst e
            obtain ⟨q, rfl, h9⟩ := vOn_ok h
            intro hf
            exact hp h9 _ _ _
theorem vCov_ok {tp : Bool} {m : Nat} (hp : tp = true → ∀ xs h0 h, P.2.2.2.2.2.1 xs h0 h) : ∀ {l p : List vG}, vCov tp l p = true → (∀ q ∈ p, vOkm T P m q) → ∀ g ∈ l, vOkm T P m g := by
  intro l
  induction l with
  | nil => intro p _ _ g hg; cases hg
  | cons a l ih =>
    intro p h hq g hg
    replace h : (bif vTriv tp a then vCov tp l p else (match (generalizing := false) p with
      | [] => false
      | q :: t => bif fEqF q.2 a.2 then (bif vSubF a.1 q.1 then vCov tp l t else false) else false)) = true := h
    cases h1 : vTriv tp a with
    | true =>
      rw [h1] at h
      rcases List.mem_cons.mp hg with rfl | hg
      · exact vTriv_ok h1 hp
      · exact ih h hq g hg
    | false =>
      rw [h1] at h
      cases p with
      | nil => cases h
      | cons q t =>
        dsimp only [cond_false] at h
        cases h2 : fEqF q.2 a.2 with
        | false => rw [h2] at h; cases h
        | true =>
          rw [h2] at h
          dsimp only [cond_true] at h
          cases h3 : vSubF a.1 q.1 with
          | false => rw [h3] at h; cases h
          | true =>
            rw [h3] at h
            rcases List.mem_cons.mp hg with rfl | hg
            · have h4 := hq q List.mem_cons_self
              have h5 := fEqF_ok h2
              intro ρ η hf
              obtain ⟨gf, gg⟩ := g
              obtain ⟨qf, qg⟩ := q
              dsimp only at h5 h3
              subst h5
              have hfin : ∀ fs : List vF, (vFin m (fs, qg)).1 = fs ∧ (vFin m (fs, qg)).2 = (vFin m ([], qg)).2 := fun fs => by
                unfold vFin
                dsimp only
                cases Nat.ble 3000 qg.1 <;> exact ⟨rfl, rfl⟩
              rw [(hfin gf).2, ← (hfin qf).2]
              refine h4 ρ η fun f hf2 => hf f ?_
              rw [(hfin qf).1] at hf2
              rw [(hfin gf).1]
              exact vSubF_ok h3 f hf2
            · exact ih h (fun q hq' => hq q (List.mem_cons_of_mem _ hq')) g hg
end VTRIV
