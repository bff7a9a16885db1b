set_option maxRecDepth 100000 in
theorem r_11_5 : z_lawB 11 2147483653 2147483653 = true := by decide +kernel
set_option maxRecDepth 100000 in
theorem r_11_6 : z_lawB 11 2147483654 2147483654 = true := by decide +kernel
