/-! THE CONSTRUCTORS' RUNS, by the kernel. -/
set_option maxRecDepth 100000 in
theorem sMade1 : sMade 154 11 sH19 sS1 = true := by decide +kernel
set_option maxRecDepth 100000 in
theorem sMade2 : sMade 204 12 sS1 sS2 = true := by decide +kernel
