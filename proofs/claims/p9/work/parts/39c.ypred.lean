/-! PREDICATES over heaps of the reference. -/
def SOp (v_sounds v_sheets : Int) (r_kind r_first r_last r_of r_madeSheet r_madeEdition : Nat → Int) : Prop := ∀ s : Nat, (s : Int) < v_sounds → (r_kind s = 4 → 0 ≤ r_of s ∧ r_of s < s ∧ 0 ≤ r_first s ∧ r_first s < r_last s ∧ r_last s ≤ 240) ∧ (r_kind s = 5 → 0 ≤ r_of s ∧ r_of s < s) ∧ (r_kind s = 1 → 0 ≤ r_first s ∧ r_first s < r_last s ∧ r_last s ≤ 240) ∧ (0 ≤ r_madeSheet s → r_madeSheet s < v_sheets ∧ 0 ≤ r_madeEdition s ∧ r_kind s = 6)
def SO (h : gH) : Prop := SOp (hV h 285 64) (hV h 285 18) (hV h 328) (hV h 330) (hV h 331) (hV h 332) (hV h 335) (hV h 336)
theorem SO_fr {W : List (Nat × Nat)} {a b : gH} (f : hFr W a b) (c : (vFree W 285 64 && (vFree W 285 18 && (vFreeR W 328 && (vFreeR W 330 && (vFreeR W 331 && (vFreeR W 332 && (vFreeR W 335 && (vFreeR W 336 && (true))))))))) = true) : SO b = SO a := by
  simp only [Bool.and_eq_true] at c
  unfold SO
  rw [f.1 285 64 (c.1), f.1 285 18 (c.2.1), fRow f 328 (c.2.2.1), fRow f 330 (c.2.2.2.1), fRow f 331 (c.2.2.2.2.1), fRow f 332 (c.2.2.2.2.2.1), fRow f 335 (c.2.2.2.2.2.2.1), fRow f 336 (c.2.2.2.2.2.2.2.1)]
theorem SO_upR {a b : gH} {o i w : Int} {n : Nat} (f : hUpd b a o i w) (e : o = (n : Int)) (c : (!(Nat.beq 328 n) && (!(Nat.beq 330 n) && (!(Nat.beq 331 n) && (!(Nat.beq 332 n) && (!(Nat.beq 335 n) && (!(Nat.beq 336 n) && (!(Nat.beq 285 n) && (true)))))))) = true) : SO b = SO a := by
  simp only [Bool.and_eq_true] at c
  unfold SO
  rw [uPlace f 285 64 (iS e (by have z := c.2.2.2.2.2.2.1; simpa using z)), uPlace f 285 18 (iS e (by have z := c.2.2.2.2.2.2.1; simpa using z)), uRowNe f 328 (iS e (by have z := c.1; simpa using z)), uRowNe f 330 (iS e (by have z := c.2.1; simpa using z)), uRowNe f 331 (iS e (by have z := c.2.2.1; simpa using z)), uRowNe f 332 (iS e (by have z := c.2.2.2.1; simpa using z)), uRowNe f 335 (iS e (by have z := c.2.2.2.2.1; simpa using z)), uRowNe f 336 (iS e (by have z := c.2.2.2.2.2.1; simpa using z))]
theorem SO_upF {a b : gH} {o i w : Int} {n : Nat} (f : hUpd b a o i w) (e : o = 285) (e2 : i = (n : Int)) (c : (!(Nat.beq 64 n) && (!(Nat.beq 18 n) && (true))) = true) : SO b = SO a := by
  simp only [Bool.and_eq_true] at c
  unfold SO
  rw [uSlot f 285 64 (iS e2 (by have z := c.1; simpa using z)), uSlot f 285 18 (iS e2 (by have z := c.2.1; simpa using z)), uRowNe f 328 (iS (e : o = ((285 : Nat) : Int)) rfl), uRowNe f 330 (iS (e : o = ((285 : Nat) : Int)) rfl), uRowNe f 331 (iS (e : o = ((285 : Nat) : Int)) rfl), uRowNe f 332 (iS (e : o = ((285 : Nat) : Int)) rfl), uRowNe f 335 (iS (e : o = ((285 : Nat) : Int)) rfl), uRowNe f 336 (iS (e : o = ((285 : Nat) : Int)) rfl)]
theorem SO_at {h : gH} (z : SO h) (s : Nat) : (s : Int) < hV h 285 64 → ((hV h 328) s = 4 → 0 ≤ (hV h 332) s ∧ (hV h 332) s < s ∧ 0 ≤ (hV h 330) s ∧ (hV h 330) s < (hV h 331) s ∧ (hV h 331) s ≤ 240) ∧ ((hV h 328) s = 5 → 0 ≤ (hV h 332) s ∧ (hV h 332) s < s) ∧ ((hV h 328) s = 1 → 0 ≤ (hV h 330) s ∧ (hV h 330) s < (hV h 331) s ∧ (hV h 331) s ≤ 240) ∧ (0 ≤ (hV h 335) s → (hV h 335) s < hV h 285 18 ∧ 0 ≤ (hV h 336) s ∧ (hV h 328) s = 6) := z s
def SSp (v_stamps : Int) (r_stamp r_generation r_markStamp : Nat → Int) : Prop := (∀ s : Nat, (s : Int) < 20 → r_stamp s ≤ v_stamps ∧ r_generation s ≤ v_stamps) ∧ ∀ k : Nat, (k : Int) < 8 → r_markStamp k ≤ v_stamps
def SS (h : gH) : Prop := SSp (hV h 285 65) (hV h 333) (hV h 334) (hV h 341)
theorem SS_fr {W : List (Nat × Nat)} {a b : gH} (f : hFr W a b) (c : (vFree W 285 65 && (vFreeR W 333 && (vFreeR W 334 && (vFreeR W 341 && (true))))) = true) : SS b = SS a := by
  simp only [Bool.and_eq_true] at c
  unfold SS
  rw [f.1 285 65 (c.1), fRow f 333 (c.2.1), fRow f 334 (c.2.2.1), fRow f 341 (c.2.2.2.1)]
theorem SS_upR {a b : gH} {o i w : Int} {n : Nat} (f : hUpd b a o i w) (e : o = (n : Int)) (c : (!(Nat.beq 333 n) && (!(Nat.beq 334 n) && (!(Nat.beq 341 n) && (!(Nat.beq 285 n) && (true))))) = true) : SS b = SS a := by
  simp only [Bool.and_eq_true] at c
  unfold SS
  rw [uPlace f 285 65 (iS e (by have z := c.2.2.2.1; simpa using z)), uRowNe f 333 (iS e (by have z := c.1; simpa using z)), uRowNe f 334 (iS e (by have z := c.2.1; simpa using z)), uRowNe f 341 (iS e (by have z := c.2.2.1; simpa using z))]
theorem SS_upF {a b : gH} {o i w : Int} {n : Nat} (f : hUpd b a o i w) (e : o = 285) (e2 : i = (n : Int)) (c : (!(Nat.beq 65 n) && (true)) = true) : SS b = SS a := by
  simp only [Bool.and_eq_true] at c
  unfold SS
  rw [uSlot f 285 65 (iS e2 (by have z := c.1; simpa using z)), uRowNe f 333 (iS (e : o = ((285 : Nat) : Int)) rfl), uRowNe f 334 (iS (e : o = ((285 : Nat) : Int)) rfl), uRowNe f 341 (iS (e : o = ((285 : Nat) : Int)) rfl)]
def PGp (v_sheets : Int) (r_blocks r_partMany r_cSort r_cWhat r_cMark r_cAt r_cMarkTo r_cNumber : Nat → Int) : Prop := ∀ s : Nat, (s : Int) < v_sheets → PGs r_blocks r_partMany r_cSort r_cWhat r_cMark r_cAt r_cMarkTo r_cNumber s
def PG (h : gH) : Prop := PGp (hV h 285 18) (hV h 294) (hV h 296) (hV h 298) (hV h 300) (hV h 301) (hV h 302) (hV h 303) (hV h 305)
theorem PG_fr {W : List (Nat × Nat)} {a b : gH} (f : hFr W a b) (c : (vFree W 285 18 && (vFreeR W 294 && (vFreeR W 296 && (vFreeR W 298 && (vFreeR W 300 && (vFreeR W 301 && (vFreeR W 302 && (vFreeR W 303 && (vFreeR W 305 && (true)))))))))) = true) : PG b = PG a := by
  simp only [Bool.and_eq_true] at c
  unfold PG
  rw [f.1 285 18 (c.1), fRow f 294 (c.2.1), fRow f 296 (c.2.2.1), fRow f 298 (c.2.2.2.1), fRow f 300 (c.2.2.2.2.1), fRow f 301 (c.2.2.2.2.2.1), fRow f 302 (c.2.2.2.2.2.2.1), fRow f 303 (c.2.2.2.2.2.2.2.1), fRow f 305 (c.2.2.2.2.2.2.2.2.1)]
theorem PG_upR {a b : gH} {o i w : Int} {n : Nat} (f : hUpd b a o i w) (e : o = (n : Int)) (c : (!(Nat.beq 294 n) && (!(Nat.beq 296 n) && (!(Nat.beq 298 n) && (!(Nat.beq 300 n) && (!(Nat.beq 301 n) && (!(Nat.beq 302 n) && (!(Nat.beq 303 n) && (!(Nat.beq 305 n) && (!(Nat.beq 285 n) && (true)))))))))) = true) : PG b = PG a := by
  simp only [Bool.and_eq_true] at c
  unfold PG
  rw [uPlace f 285 18 (iS e (by have z := c.2.2.2.2.2.2.2.2.1; simpa using z)), uRowNe f 294 (iS e (by have z := c.1; simpa using z)), uRowNe f 296 (iS e (by have z := c.2.1; simpa using z)), uRowNe f 298 (iS e (by have z := c.2.2.1; simpa using z)), uRowNe f 300 (iS e (by have z := c.2.2.2.1; simpa using z)), uRowNe f 301 (iS e (by have z := c.2.2.2.2.1; simpa using z)), uRowNe f 302 (iS e (by have z := c.2.2.2.2.2.1; simpa using z)), uRowNe f 303 (iS e (by have z := c.2.2.2.2.2.2.1; simpa using z)), uRowNe f 305 (iS e (by have z := c.2.2.2.2.2.2.2.1; simpa using z))]
theorem PG_upF {a b : gH} {o i w : Int} {n : Nat} (f : hUpd b a o i w) (e : o = 285) (e2 : i = (n : Int)) (c : (!(Nat.beq 18 n) && (true)) = true) : PG b = PG a := by
  simp only [Bool.and_eq_true] at c
  unfold PG
  rw [uSlot f 285 18 (iS e2 (by have z := c.1; simpa using z)), uRowNe f 294 (iS (e : o = ((285 : Nat) : Int)) rfl), uRowNe f 296 (iS (e : o = ((285 : Nat) : Int)) rfl), uRowNe f 298 (iS (e : o = ((285 : Nat) : Int)) rfl), uRowNe f 300 (iS (e : o = ((285 : Nat) : Int)) rfl), uRowNe f 301 (iS (e : o = ((285 : Nat) : Int)) rfl), uRowNe f 302 (iS (e : o = ((285 : Nat) : Int)) rfl), uRowNe f 303 (iS (e : o = ((285 : Nat) : Int)) rfl), uRowNe f 305 (iS (e : o = ((285 : Nat) : Int)) rfl)]
theorem PG_at {h : gH} (z : PG h) (s : Nat) : (s : Int) < hV h 285 18 → PGs (hV h 294) (hV h 296) (hV h 298) (hV h 300) (hV h 301) (hV h 302) (hV h 303) (hV h 305) s := z s
def XQp (v_laid : Int) (r_xCue r_cSort r_cWhat r_cMark r_cAt r_cMarkTo r_cNumber : Nat → Int) : Prop := ∀ s : Nat, (s : Int) < v_laid → gCp r_cSort r_cWhat r_cMark r_cAt r_cMarkTo r_cNumber (r_xCue s).toNat
def XQ (h : gH) : Prop := XQp (hV h 285 82) (hV h 344) (hV h 298) (hV h 300) (hV h 301) (hV h 302) (hV h 303) (hV h 305)
theorem XQ_fr {W : List (Nat × Nat)} {a b : gH} (f : hFr W a b) (c : (vFree W 285 82 && (vFreeR W 344 && (vFreeR W 298 && (vFreeR W 300 && (vFreeR W 301 && (vFreeR W 302 && (vFreeR W 303 && (vFreeR W 305 && (true))))))))) = true) : XQ b = XQ a := by
  simp only [Bool.and_eq_true] at c
  unfold XQ
  rw [f.1 285 82 (c.1), fRow f 344 (c.2.1), fRow f 298 (c.2.2.1), fRow f 300 (c.2.2.2.1), fRow f 301 (c.2.2.2.2.1), fRow f 302 (c.2.2.2.2.2.1), fRow f 303 (c.2.2.2.2.2.2.1), fRow f 305 (c.2.2.2.2.2.2.2.1)]
theorem XQ_upR {a b : gH} {o i w : Int} {n : Nat} (f : hUpd b a o i w) (e : o = (n : Int)) (c : (!(Nat.beq 344 n) && (!(Nat.beq 298 n) && (!(Nat.beq 300 n) && (!(Nat.beq 301 n) && (!(Nat.beq 302 n) && (!(Nat.beq 303 n) && (!(Nat.beq 305 n) && (!(Nat.beq 285 n) && (true))))))))) = true) : XQ b = XQ a := by
  simp only [Bool.and_eq_true] at c
  unfold XQ
  rw [uPlace f 285 82 (iS e (by have z := c.2.2.2.2.2.2.2.1; simpa using z)), uRowNe f 344 (iS e (by have z := c.1; simpa using z)), uRowNe f 298 (iS e (by have z := c.2.1; simpa using z)), uRowNe f 300 (iS e (by have z := c.2.2.1; simpa using z)), uRowNe f 301 (iS e (by have z := c.2.2.2.1; simpa using z)), uRowNe f 302 (iS e (by have z := c.2.2.2.2.1; simpa using z)), uRowNe f 303 (iS e (by have z := c.2.2.2.2.2.1; simpa using z)), uRowNe f 305 (iS e (by have z := c.2.2.2.2.2.2.1; simpa using z))]
theorem XQ_upF {a b : gH} {o i w : Int} {n : Nat} (f : hUpd b a o i w) (e : o = 285) (e2 : i = (n : Int)) (c : (!(Nat.beq 82 n) && (true)) = true) : XQ b = XQ a := by
  simp only [Bool.and_eq_true] at c
  unfold XQ
  rw [uSlot f 285 82 (iS e2 (by have z := c.1; simpa using z)), uRowNe f 344 (iS (e : o = ((285 : Nat) : Int)) rfl), uRowNe f 298 (iS (e : o = ((285 : Nat) : Int)) rfl), uRowNe f 300 (iS (e : o = ((285 : Nat) : Int)) rfl), uRowNe f 301 (iS (e : o = ((285 : Nat) : Int)) rfl), uRowNe f 302 (iS (e : o = ((285 : Nat) : Int)) rfl), uRowNe f 303 (iS (e : o = ((285 : Nat) : Int)) rfl), uRowNe f 305 (iS (e : o = ((285 : Nat) : Int)) rfl)]
theorem XQ_at {h : gH} (z : XQ h) (s : Nat) : (s : Int) < hV h 285 82 → gCp (hV h 298) (hV h 300) (hV h 301) (hV h 302) (hV h 303) (hV h 305) ((hV h 344) s).toNat := z s
