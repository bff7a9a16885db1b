set_option maxRecDepth 100000 in
theorem r_11_3 : z_lawB 11 2147483651 2147483651 = true := by decide +kernel
set_option maxRecDepth 100000 in
theorem r_11_4 : z_lawB 11 2147483652 2147483652 = true := by decide +kernel
