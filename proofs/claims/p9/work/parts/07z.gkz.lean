/-! WHAT IS KNOWN OF THE CLASSES AND CONSTANTS through a run (in place of gKn, gKs of part 02: of String only its name and fields are known). -/
def gKm (G : gG) (U : State) : Prop := (∀ k, k < 14 → U.vm.findClass (gCn k) = some (G.2.2.2.1 k)) ∧ (∀ k, k < 13 → ClassAt U (gCn k) (G.2.2.2.1 k)) ∧ ∀ k, k < 14 → ∀ f, f < gN k → ∃ (cf : ClassId) (kf : Class) (fi : Nat) (fd : Field), U.fieldFound? (gT k f).1 (gT k f).2.1 (gT k f).2.2.1 = some (cf, kf, fi, fd) ∧ fd.isStatic = false ∧ fd.slot = G.2.2.2.2.1 k f
theorem gKm.moved {G : gG} {u U : State} (hvm : u.vm.Alike U.vm) (h : gKm G u) : gKm G U := by
  refine ⟨fun k hk => by rw [hvm.findClass]; exact h.1 k hk, fun k hk => classAt_moved hvm (h.2.1 k hk), fun k hk f hf => ?_⟩
  obtain ⟨cf, kf, fi, fd, h1, h2, h3⟩ := h.2.2 k hk f hf
  obtain ⟨kf', hi', -⟩ := State.fieldFound?_setVm (s := u) hvm h1
  exact ⟨cf, kf', fi, fd, by simpa only [State.fieldFound?, State.vm_setVm] using hi', h2, h3⟩
def gKz (G : gG) (U : State) (H : Heap) : Prop := gTb U ∧ gKm G U ∧ gCs G U H
theorem gKz.warm {G : gG} {s U : State} {H : Heap} (hW : s.WarmedH U.vm) (h : gKz G s H) : gKz G U H := ⟨h.1.warm hW, h.2.1.moved hW.alike, h.2.2.warm hW⟩
theorem gKz.kept {G : gG} {U : State} {H H1 : Heap} (h : gKz G U H) (hq : ∀ a : Nat, a < H.size → ¬ G.2.1 ≤ a → H1[a]? = H[a]?) : gKz G U H1 := ⟨h.1, h.2.1, h.2.2.kept hq⟩
