/-! THE TYPES OF THE START'S HEAP, by the kernel. -/
set_option maxRecDepth 100000 in
theorem sS2_all : sAllC sS2 sS2 0 = true := by decide +kernel
set_option maxRecDepth 100000 in
theorem sS2_ks : sKs sS2 = true := by decide +kernel
set_option maxRecDepth 100000 in
theorem sS2_sz : (sS2.map sNn).sum ≤ 1000000 := by decide +kernel
set_option maxRecDepth 100000 in
theorem sS2_len : sS2.length = 358 := by decide +kernel
set_option maxRecDepth 100000 in
theorem sS1_len : sS1.length = 285 := by decide +kernel
noncomputable def sAtIs (S : sH) (o : Nat) (d : sC) : Bool := match fNth S o with
  | some c => qC c d
  | none => false
theorem sAtIs_ok {S : sH} {o : Nat} {d : sC} (h : sAtIs S o d = true) : S[o]? = some d := by
  unfold sAtIs at h
  rw [fNth_eq] at h
  cases hc : S[o]? with
  | none => rw [hc] at h; cases h
  | some c =>
    rw [hc] at h
    rw [qC_ok h]
set_option maxRecDepth 100000 in
theorem sS2_0 : sS2[0]? = some (100, 70000, []) := sAtIs_ok (by decide +kernel)
set_option maxRecDepth 100000 in
theorem sS2_1 : sS2[1]? = some (13, 0, [(0, (3, 2, 0))]) := sAtIs_ok (by decide +kernel)
set_option maxRecDepth 100000 in
theorem sS2_3 : sS2[3]? = some (13, 0, [(0, (3, 4, 0))]) := sAtIs_ok (by decide +kernel)
set_option maxRecDepth 100000 in
theorem sS2_5 : sS2[5]? = some (13, 0, [(0, (3, 6, 0))]) := sAtIs_ok (by decide +kernel)
