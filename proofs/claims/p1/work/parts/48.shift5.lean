set_option maxRecDepth 100000 in
theorem r_11_11 : z_lawB 11 2147483659 2147483659 = true := by decide +kernel
set_option maxRecDepth 100000 in
theorem r_11_12 : z_lawB 11 2147483660 2147483660 = true := by decide +kernel
