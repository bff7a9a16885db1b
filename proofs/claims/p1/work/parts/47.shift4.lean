set_option maxRecDepth 100000 in
theorem r_11_9 : z_lawB 11 2147483657 2147483657 = true := by decide +kernel
set_option maxRecDepth 100000 in
theorem r_11_10 : z_lawB 11 2147483658 2147483658 = true := by decide +kernel
