set_option maxRecDepth 100000 in
theorem r_12 : z_law 12 = true := by decide +kernel
