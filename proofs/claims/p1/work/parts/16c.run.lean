/-! THE KERNEL'S RUNS OF THE LAW (every script of that many ints at once). -/
set_option maxRecDepth 1000000 in
theorem g_run6 : sLaw 40000 6 = true := by decide +kernel
