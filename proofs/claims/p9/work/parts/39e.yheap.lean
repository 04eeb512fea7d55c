/-! LEMMAS over heaps. -/
theorem XQ_in {h : gH} (z : XQ h) {s : Nat} (hs : (s : Int) < hV h 285 82) : (¬ hV h 298 (hV h 344 s).toNat = 5) ∧ (hV h 298 (hV h 344 s).toNat = 0 → 0 ≤ hV h 300 (hV h 344 s).toNat ∧ hV h 300 (hV h 344 s).toNat ≤ 19) ∧ (hV h 298 (hV h 344 s).toNat = 2 → 0 ≤ hV h 300 (hV h 344 s).toNat ∧ hV h 300 (hV h 344 s).toNat ≤ 2) ∧ (hV h 298 (hV h 344 s).toNat = 3 → 0 ≤ hV h 300 (hV h 344 s).toNat ∧ hV h 300 (hV h 344 s).toNat ≤ 2) ∧ (hV h 298 (hV h 344 s).toNat < 2 → hV h 301 (hV h 344 s).toNat ≤ 7) ∧ (hV h 298 (hV h 344 s).toNat = 1 → hV h 303 (hV h 344 s).toNat ≤ 7) := by
  have g : gCp _ _ _ _ _ _ _ := z s hs
  exact ⟨g.1, fun q => ⟨(g.2.1 q).1, (g.2.1 q).2.1⟩, fun q => ⟨(g.2.2.1 q).1, (g.2.2.1 q).2.1⟩, fun q => ⟨(g.2.2.2.1 q).1, (g.2.2.2.1 q).2.1⟩, fun q => g.2.2.2.2.2.1 (.inl q), fun q => g.2.2.2.2.2.2 q⟩
theorem XQ_4 {h : gH} (z : XQ h) {s : Nat} (hs : (s : Int) < hV h 285 82) (h0 : hV h 298 (hV h 344 s).toNat = 0) {n : Int} (hx : 0 ≤ hV h 344 s) (hn : n = 6 * hV h 344 s + 4) : 1 ≤ hV h 305 n.toNat := by
  have g : gCp _ _ _ _ _ _ _ := z s hs
  have q := (g.2.1 h0).2.2.1
  rw [show n.toNat = 6 * (hV h 344 s).toNat + 4 by omega]
  exact q
theorem XQ_5 {h : gH} (z : XQ h) {s : Nat} (hs : (s : Int) < hV h 285 82) (h0 : hV h 298 (hV h 344 s).toNat = 0) {n : Int} (hx : 0 ≤ hV h 344 s) (hn : n = 6 * hV h 344 s + 5) : 0 ≤ hV h 305 n.toNat ∧ hV h 305 n.toNat ≤ 2 := by
  have g : gCp _ _ _ _ _ _ _ := z s hs
  have q := (g.2.1 h0).2.2.2
  rw [show n.toNat = 6 * (hV h 344 s).toNat + 5 by omega]
  exact q
theorem XQ_d {h : gH} (z : XQ h) {s : Nat} (hs : (s : Int) < hV h 285 82) (h0 : hV h 298 (hV h 344 s).toNat = 2) {n : Int} (hx : 0 ≤ hV h 344 s) (hn : n = 6 * hV h 344 s) : 0 ≤ hV h 305 n.toNat ∧ hV h 305 n.toNat ≤ 2 := by
  have g : gCp _ _ _ _ _ _ _ := z s hs
  have q := (g.2.2.1 h0).2.2
  rw [show n.toNat = 6 * (hV h 344 s).toNat by omega]
  exact q
theorem XQ_t {h : gH} (z : XQ h) {s : Nat} (hs : (s : Int) < hV h 285 82) (h0 : hV h 298 (hV h 344 s).toNat = 3) {n : Int} (hx : 0 ≤ hV h 344 s) (hn : n = 6 * hV h 344 s) : hV h 305 n.toNat ≤ 4 := by
  have g : gCp _ _ _ _ _ _ _ := z s hs
  have q := (g.2.2.2.1 h0).2.2
  rw [show n.toNat = 6 * (hV h 344 s).toNat by omega]
  exact q
theorem SO4 {h : gH} (z : SO h) {s : Nat} (hs : (s : Int) < hV h 285 64) (hk : hV h 328 s = 4) : 0 ≤ hV h 332 s ∧ hV h 332 s < s ∧ 0 ≤ hV h 330 s ∧ hV h 330 s < hV h 331 s ∧ hV h 331 s ≤ 240 := (z s hs).1 hk
theorem SO5 {h : gH} (z : SO h) {s : Nat} (hs : (s : Int) < hV h 285 64) (hk : hV h 328 s = 5) : 0 ≤ hV h 332 s ∧ hV h 332 s < s := (z s hs).2.1 hk
theorem SO1 {h : gH} (z : SO h) {s : Nat} (hs : (s : Int) < hV h 285 64) (hk : hV h 328 s = 1) : 0 ≤ hV h 330 s ∧ hV h 330 s < hV h 331 s ∧ hV h 331 s ≤ 240 := (z s hs).2.2.1 hk
theorem SOm {h : gH} (z : SO h) {s : Nat} (hs : (s : Int) < hV h 285 64) (hk : 0 ≤ hV h 335 s) : hV h 335 s < hV h 285 18 ∧ 0 ≤ hV h 336 s ∧ hV h 328 s = 6 := (z s hs).2.2.2 hk
