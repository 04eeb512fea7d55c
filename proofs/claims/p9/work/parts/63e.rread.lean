/-! WHAT A READING ANSWERS (behind rtok.lean.txt). -/
theorem rW_14 : vRg T0 285 14 0 2000 = true := by decide +kernel
theorem rW_16 : vRg T0 285 16 0 2000 = true := by decide +kernel
theorem rW_2 : vRg T0 285 2 0 2000 = true := by decide +kernel
theorem rW_18 : vRg T0 285 18 0 8 = true := by decide +kernel
def BT (h : gH) : Nat → Int := fun j => o32 (fun x y => x &&& y) (hV h 286 j) 255
theorem pLe_congr {B B' : Nat → Int} {n : Nat} (e : ∀ j, j < n → B j = B' j) : ∀ {f i : Nat}, pLe B n f i = pLe B' n f i := by
  intro f
  induction f with
  | zero => intro i; rfl
  | succ f ih =>
    intro i
    unfold pLe
    by_cases h : i < n
    · rw [e i h, ih]
    · rw [if_neg (fun c => h c.1), if_neg (fun c => h c.1)]
theorem pDi_congr {B B' : Nat → Int} {n : Nat} (e : ∀ j, j < n → B j = B' j) : ∀ {f i : Nat}, pDi B n f i = pDi B' n f i := by
  intro f
  induction f with
  | zero => intro i; rfl
  | succ f ih =>
    intro i
    unfold pDi
    by_cases h : i < n
    · rw [e i h, ih]
    · rw [if_neg (fun c => h c.1), if_neg (fun c => h c.1)]
theorem pLe_n {B : Nat → Int} {n : Nat} : ∀ {f i : Nat}, 0 < pLe B n f i → i + pLe B n f i ≤ n := by
  intro f
  induction f with
  | zero => intro i h; exact absurd h (by unfold pLe; omega)
  | succ f ih =>
    intro i h
    unfold pLe at h ⊢
    by_cases c : i < n ∧ 97 ≤ B i ∧ B i ≤ 122
    · rw [if_pos c] at h ⊢
      rcases Nat.eq_zero_or_pos (pLe B n f (i + 1)) with z | z
      · have := c.1
        omega
      · have := ih z
        omega
    · rw [if_neg c] at h
      omega
theorem pDi_n {B : Nat → Int} {n : Nat} : ∀ {f i : Nat}, 0 < pDi B n f i → i + pDi B n f i ≤ n := by
  intro f
  induction f with
  | zero => intro i h; exact absurd h (by unfold pDi; omega)
  | succ f ih =>
    intro i h
    unfold pDi at h ⊢
    by_cases c : i < n ∧ 48 ≤ B i ∧ B i ≤ 57
    · rw [if_pos c] at h ⊢
      rcases Nat.eq_zero_or_pos (pDi B n f (i + 1)) with z | z
      · have := c.1
        omega
      · have := ih z
        omega
    · rw [if_neg c] at h
      omega
theorem pCd_congr {b : Int} {B B' : Nat → Int} : ∀ {m i : Nat} {x : Int}, (∀ j, i ≤ j → j < i + m → B j = B' j) → pCd b B m i x = pCd b B' m i x := by
  intro m
  induction m with
  | zero => intro i x _; rfl
  | succ m ih =>
    intro i x h
    unfold pCd
    rw [h i (Nat.le_refl _) (by omega)]
    exact ih (fun j a b => h j (by omega) (by omega))
theorem pVa_congr {B B' : Nat → Int} : ∀ {m i : Nat} {x : Int}, (∀ j, i ≤ j → j < i + m → B j = B' j) → pVa B m i x = pVa B' m i x := by
  intro m
  induction m with
  | zero => intro i x _; rfl
  | succ m ih =>
    intro i x h
    unfold pVa
    rw [h i (Nat.le_refl _) (by omega)]
    exact ih (fun j a b => h j (by omega) (by omega))
theorem tkL_congr {B B' : Nat → Int} {n i : Nat} (e : ∀ j, j < n → B j = B' j) : tkL B n i = tkL B' n i := by
  have l := pLe_congr e (f := n - i) (i := i)
  have c : pCd 27 B (pLe B n (n - i) i) i 0 = pCd 27 B' (pLe B n (n - i) i) i 0 := by
    rcases Nat.eq_zero_or_pos (pLe B n (n - i) i) with z | z
    · rw [z]
      rfl
    · have := pLe_n z
      exact pCd_congr (fun j a b => e j (by omega))
  unfold tkL
  rw [c, l]
theorem tkD_congr {B B' : Nat → Int} {n i : Nat} (e : ∀ j, j < n → B j = B' j) : tkD B n i = tkD B' n i := by
  have l := pDi_congr e (f := n - i) (i := i)
  have c : pVa B (pDi B n (n - i) i) i 0 = pVa B' (pDi B n (n - i) i) i 0 := by
    rcases Nat.eq_zero_or_pos (pDi B n (n - i) i) with z | z
    · rw [z]
      rfl
    · have := pDi_n z
      exact pVa_congr (fun j a b => e j (by omega))
  unfold tkD
  rw [c, l]
theorem pTk_congr {B B' : Nat → Int} {n : Nat} (e : ∀ j, j < n → B j = B' j) : ∀ {f i : Nat}, pTk B n f i = pTk B' n f i := by
  intro f
  induction f with
  | zero => intro i; rfl
  | succ f ih =>
    intro i
    unfold pTk
    by_cases h : i < n
    · rw [if_pos h, if_pos h, e i h, tkL_congr e, tkD_congr e, pLe_congr e, pDi_congr e, ih, ih, ih, ih]
      by_cases h1 : i + 1 < n
      · rw [e (i + 1) h1]
      · rw [if_neg (fun c : i + 1 < n ∧ B (i + 1) = 61 ∧ ¬ sg2 (B' i) = 1 => h1 c.1), if_neg (fun c : i + 1 < n ∧ B' (i + 1) = 61 ∧ ¬ sg2 (B' i) = 1 => h1 c.1)]
    · rw [if_neg h, if_neg h]
theorem pTx_congr {B B' : Nat → Int} {n : Int} (e : ∀ j : Nat, (j : Int) < n → B j = B' j) : pTx B n = pTx B' n := by
  unfold pTx
  rw [pTk_congr (fun j hj => e j (by omega))]
/-- answers of a state -/
theorem resR_off {h : gH} (z : RI h) (hf : ¬ hV h 285 13 = 0) : pRes (absR h) = hV h 285 13 ∧ pPlc (absR h) = hV h 285 14 := by
  have n := absR_neg z hf
  have a := z.2.2.2.1
  have b := z.2.2.2.2.1
  have c := z.2.2.2.2.2.1
  unfold pRes pPlc
  rw [if_pos n, if_pos n, absR_off hf]
  show (if (-(2 * hV h 285 14 + hV h 285 13)) % 2 = 0 then (2 : Int) else 1) = _ ∧ (- -(2 * hV h 285 14 + hV h 285 13) - 1) / 2 = _
  constructor
  · split <;> omega
  · omega
theorem resR_on {h : gH} (z : RI h) (hf : hV h 285 13 = 0) : pRes (absR h) = hV h 285 15 ∧ (hV h 285 15 = 0 → pPlc (absR h) = -1) ∧ (¬ hV h 285 15 = 0 → pPlc (absR h) = hV h 285 16) := by
  have p := absR_pos z hf
  have n : ¬ (absR h).1 < 0 := by omega
  have e2 := absR_2 hf
  have a := z.2.2.2.2.2.2.1
  have b := z.2.2.2.2.2.2.2.1
  have c := z.2.2.2.2.2.2.2.2.1
  unfold pRes pPlc
  rw [if_neg n, if_neg n, e2]
  by_cases q : hV h 285 15 = 0
  · rw [if_pos q, if_pos rfl, q]
    exact ⟨by decide, fun _ => rfl, fun w => absurd rfl w⟩
  · rw [if_neg q, if_neg (by omega)]
    exact ⟨by omega, fun w => absurd w q, fun _ => by omega⟩
theorem RI_new {h : gH} (t : TR h) (t0 : hV h 285 11 = 0) (f0 : hV h 285 13 = 0) (w0 : hV h 285 15 = 0) (g : 0 ≤ hV h 285 14) (x : 0 ≤ hV h 285 16) : RI h ∧ absR h = (0, 0) := by
  refine ⟨⟨t, by omega, by omega, by omega, by omega, g, by omega, by omega, x, fun _ => by have := t.1; omega, fun _ c => absurd w0 c⟩, ?_⟩
  rw [absR_at f0, t0, w0]
  rfl
theorem o32_byte {x : Int} (h1 : -128 ≤ x) (h2 : x ≤ 127) : o32 (fun x _ => x.toInt8.toInt32) x 0 = x := by
  unfold o32
  show ((Int32.ofInt x).toInt8.toInt32).toInt = x
  rw [Int8.toInt_toInt32, Int32.toInt_toInt8, Int32.toInt_ofInt, bmod32]
  have e : w32 x = x := w32_id (by omega) (by omega)
  rw [e]
  show Int.bmod x 256 = x
  unfold Int.bmod
  dsimp only
  split <;> omega
