set_option maxRecDepth 100000 in
theorem r_11_1_0 : z_lawC 11 2147483649 2147483649 0 2147483652 = true := by decide +kernel
set_option maxRecDepth 100000 in
theorem r_11_1_1 : z_lawC 11 2147483649 2147483649 2147483653 2147483656 = true := by decide +kernel
set_option maxRecDepth 100000 in
theorem r_11_1_2 : z_lawC 11 2147483649 2147483649 2147483657 4294967295 = true := by decide +kernel
