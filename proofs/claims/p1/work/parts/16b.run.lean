/-! THE KERNEL'S RUNS OF THE LAW (every script of that many ints at once). -/
set_option maxRecDepth 1000000 in
theorem g_run4 : sLaw 40000 4 = true := by decide +kernel
set_option maxRecDepth 1000000 in
theorem g_run5 : sLaw 40000 5 = true := by decide +kernel
