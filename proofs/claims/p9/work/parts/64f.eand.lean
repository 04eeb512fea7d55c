/-! TWO CONTRACTS of one method, told as one: a run is a run. -/
def eAnd (e e' : vE) : vE := (e.1, e'.2.1, e'.2.2.1, fun xs h0 h => e.2.2.2 xs h0 h ∧ e'.2.2.2 xs h0 h)
theorem eC_and {e e' : vE} {d : Nat} (z : eC e d) (z' : eC e' d) (h1 : e'.1 = e.1) (h2 : e'.2.1.1 = e.2.1.1) (h3 : e.2.1.2.2.1 = 0) : eC (eAnd e e') d := by
  obtain ⟨a1, a2, a3⟩ := z
  obtain ⟨b1, b2, b3⟩ := z'
  refine ⟨a1, b2, fun as lh hW hv hp => ?_⟩
  rw [h1] at b3
  obtain ⟨n, o, r, w, l, v, p⟩ := b3 as lh hW hv hp
  obtain ⟨n', o', r', w', l', v', p'⟩ := a3 as lh hW (by rw [← h2]; exact hv) (fun c => by rw [h3] at c; cases c)
  have q := gRun_le (Nat.le_max_left n n') _ _ _ _ _ _ _ r
  have q' := gRun_le (Nat.le_max_right n n') _ _ _ _ _ _ _ r'
  have e : o = o' := Option.some.inj (q.symm.trans q')
  subst e
  exact ⟨n, o, r, w, l, v, p', p⟩
theorem eC_post {e : vE} {P : List Int → gH → gH → Prop} {d : Nat} (z : eC e d) (h : ∀ xs h0 h, e.2.2.2 xs h0 h → P xs h0 h) : eC (e.1, e.2.1, e.2.2.1, P) d := by
  obtain ⟨a1, a2, a3⟩ := z
  refine ⟨a1, a2, fun as lh hW hv hp => ?_⟩
  obtain ⟨n, o, r, w, l, v, p⟩ := a3 as lh hW hv hp
  exact ⟨n, o, r, w, l, v, h _ _ _ p⟩
