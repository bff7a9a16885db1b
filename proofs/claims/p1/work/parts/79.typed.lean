set_option maxRecDepth 100000 in
theorem r_23_1 : z_lawS 23 2147483649 2147483649 = true := by decide +kernel
set_option maxRecDepth 100000 in
theorem r_24_1 : z_lawS 24 2147483649 2147483649 = true := by decide +kernel
