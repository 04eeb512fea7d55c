/-! THE KEY WORDS in both codes (behind tokens3). -/
def kw32 : List Int := [2505835, 5572, 20190388, 19574963, 12345, 197765, 4400, 656915, 110896, 22117, 52, 215533, 6642, 230702, 20452516, 643245, 655, 22483122, 89, 277892, 486, 427595, 19176724, 294, 409252, 302, 498, 1476, 14836, 20572518547, 16496818, 394692, 220247219, 8554052]
theorem kw_map : kw32.map (c27 9) = kwN := by decide +kernel
def nvB : Nat → Int → Bool
  | 0, x => decide (x = 0)
  | n + 1, x => decide (1 ≤ x % 32) && (decide (x % 32 ≤ 26) && nvB n (x / 32))
theorem nvB_ok : ∀ {n : Nat} {x : Int}, nvB n x = true → NVn n x := by
  intro n
  induction n with
  | zero => intro x h; exact (of_decide_eq_true (show decide (x = 0) = true from h) : x = 0)
  | succ n ih =>
    intro x h
    unfold nvB at h
    simp only [Bool.and_eq_true, decide_eq_true_eq] at h
    exact ⟨h.1, h.2.1, ih h.2.2⟩
theorem kw_nv : ∀ y ∈ kw32, NV y := by
  have z : kw32.all (fun y => (List.range 9).any (fun n => decide (1 ≤ n) && nvB n y)) = true := by decide +kernel
  intro y hy
  have a := List.all_eq_true.mp z y hy
  obtain ⟨n, hn, b⟩ := List.any_eq_true.mp a
  rw [Bool.and_eq_true, decide_eq_true_eq] at b
  exact ⟨n, by have := List.mem_range.mp hn; omega, b.1, nvB_ok b.2⟩
theorem kwL_map {x : Int} (hx : NV x) : ∀ {l : List Int} {k : Int}, (∀ y ∈ l, NV y) → kwL x k l = kwL (c27 9 x) k (l.map (c27 9)) := by
  intro l
  induction l with
  | nil => intro k _; rfl
  | cons y l ih =>
    intro k h
    have hy := h y (List.mem_cons_self ..)
    have i := ih (k := k + 1) (fun z hz => h z (List.mem_cons_of_mem _ hz))
    show (if y = x then k else kwL x (k + 1) l) = (if c27 9 y = c27 9 x then k else kwL (c27 9 x) (k + 1) (l.map (c27 9)))
    rw [i]
    by_cases c : y = x
    · rw [if_pos c, if_pos (by rw [c])]
    · rw [if_neg c, if_neg (fun e => c (NV_inj hy hx e))]
/-- a key word's kind, whichever code -/
theorem kw_both {x : Int} (hx : NV x) : kwL x 16 kw32 = kwK (c27 9 x) := by
  rw [kwL_map hx kw_nv, kw_map]
  rfl
theorem kw_cons : ∀ j : Fin 34, kw32.drop j.val = kw32.getD j.val 0 :: kw32.drop (j.val + 1) := by decide +kernel
theorem kw_step {x : Int} {j : Nat} (hj : j < 34) : kwL x (16 + (j : Int)) (kw32.drop j) = if kw32.getD j 0 = x then 16 + (j : Int) else kwL x (16 + ((j + 1 : Nat) : Int)) (kw32.drop (j + 1)) := by
  rw [kw_cons ⟨j, hj⟩]
  show (if kw32.getD j 0 = x then 16 + (j : Int) else kwL x (16 + (j : Int) + 1) (kw32.drop (j + 1))) = _
  rw [show 16 + (j : Int) + 1 = 16 + ((j + 1 : Nat) : Int) by omega]
theorem kw_in : ∀ j : Fin 34, 0 ≤ kw32.getD j.val 0 ∧ kw32.getD j.val 0 < 1099511627776 := by decide +kernel
theorem kw_end {x k : Int} : kwL x k (kw32.drop 34) = 2 := rfl
/-- the class's words -/
def WDS (h : gH) : Prop := hK h 32 = 725 ∧ hN h 32 = 34 ∧ ∀ j : Nat, j < 34 → hV h 32 j = kw32.getD j 0
theorem WDS_fr {W : List (Nat × Nat)} {a b : gH} (le : hLe T0 a b) (f : hFr W a b) (c : vFreeR W 32 = true) (z : WDS a) : WDS b := ⟨kLe le z.1 rfl, (le.2 _ (hK_lt z.1 (by decide))).2.1.trans z.2.1, fun j hj => by rw [fRow f 32 c]; exact z.2.2 j hj⟩
/-- letters read from i on: their codes, told both ways -/
theorem NVn_pCd {B : Nat → Int} {i : Nat} : ∀ {m : Nat}, (∀ j, i ≤ j → j < i + m → 97 ≤ B j ∧ B j ≤ 122) → NVn m (pCd 32 B m i 0) := by
  intro m
  induction m with
  | zero => intro _; rfl
  | succ m ih =>
    intro h
    have z := ih (fun j a b => h j a (by omega))
    have y := h (i + m) (by omega) (by omega)
    rw [pCd_add]
    refine ⟨by omega, by omega, ?_⟩
    rw [show (pCd 32 B m i 0 * 32 + (B (i + m) - 96)) / 32 = pCd 32 B m i 0 by omega]
    exact z
theorem c27_pCd {B : Nat → Int} {i : Nat} : ∀ {m f : Nat}, m < f → (∀ j, i ≤ j → j < i + m → 97 ≤ B j ∧ B j ≤ 122) → c27 f (pCd 32 B m i 0) = pCd 27 B m i 0 := by
  intro m
  induction m with
  | zero =>
    intro f hf _
    cases f with
    | zero => rfl
    | succ f => exact if_pos (Int.le_refl _)
  | succ m ih =>
    intro f hf h
    cases f with
    | zero => omega
    | succ f =>
      have z := ih (f := f) (by omega) (fun j a b => h j a (by omega))
      have y := h (i + m) (by omega) (by omega)
      have p := (pCd_in (B := B) (i := i) (m := m) (fun j a b => h j a (by omega))).1
      rw [pCd_add, pCd_add]
      show (if pCd 32 B m i 0 * 32 + (B (i + m) - 96) ≤ 0 then 0 else 27 * c27 f ((pCd 32 B m i 0 * 32 + (B (i + m) - 96)) / 32) + (pCd 32 B m i 0 * 32 + (B (i + m) - 96)) % 32) = _
      rw [if_neg (by omega), show (pCd 32 B m i 0 * 32 + (B (i + m) - 96)) / 32 = pCd 32 B m i 0 by omega, z]
      omega
