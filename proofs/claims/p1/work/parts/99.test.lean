theorem zz_t : tables_1.length = 0 := by decide +kernel
theorem zz_u : tables_1[1500]? = none := by decide +kernel
