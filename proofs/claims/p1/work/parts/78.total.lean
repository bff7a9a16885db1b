set_option maxRecDepth 100000 in
theorem r_23_0 : z_lawS 23 2147483648 2147483648 = true := by decide +kernel
set_option maxRecDepth 100000 in
theorem r_24_0 : z_lawS 24 2147483648 2147483648 = true := by decide +kernel
