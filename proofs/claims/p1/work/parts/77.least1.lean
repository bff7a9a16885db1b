set_option maxRecDepth 100000 in
theorem r_22_1 : z_lawT 22 2147483649 2147483649 = true := by decide +kernel
