set_option maxRecDepth 100000 in
theorem r_11_7 : z_lawB 11 2147483655 2147483655 = true := by decide +kernel
set_option maxRecDepth 100000 in
theorem r_11_8 : z_lawB 11 2147483656 2147483656 = true := by decide +kernel
