set_option maxRecDepth 100000 in
theorem r_11_1 : z_lawB 11 2147483649 2147483649 = true := by decide +kernel
set_option maxRecDepth 100000 in
theorem r_11_2 : z_lawB 11 2147483650 2147483650 = true := by decide +kernel
