/-! THE KERNEL'S RUNS OF THE LAW (every script of that many ints at once). -/
set_option maxRecDepth 1000000 in
theorem g_run0 : sLaw 40000 0 = true := by decide +kernel
set_option maxRecDepth 1000000 in
theorem g_run1 : sLaw 40000 1 = true := by decide +kernel
set_option maxRecDepth 1000000 in
theorem g_run2 : sLaw 40000 2 = true := by decide +kernel
set_option maxRecDepth 1000000 in
theorem g_run3 : sLaw 40000 3 = true := by decide +kernel
