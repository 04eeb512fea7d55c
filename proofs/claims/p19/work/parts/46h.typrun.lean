/-! THE TYPES OF THE START'S HEAP, by the kernel. -/
set_option maxRecDepth 100000 in
theorem sS2_all : sAllC sS2 sS2 0 = true := by decide +kernel
set_option maxRecDepth 100000 in
theorem sS2_ks : sKs sS2 = true := by decide +kernel
set_option maxRecDepth 100000 in
theorem sS2_sz : Nat.ble (sS2.map sNn).sum 1000000 = true := by decide +kernel
theorem sS2_len : sS2.length = 358 := rfl
