set_option maxRecDepth 100000 in
theorem r_22_0 : z_lawT 22 2147483648 2147483648 = true := by decide +kernel
