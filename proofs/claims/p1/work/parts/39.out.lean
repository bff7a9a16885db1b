set_option maxRecDepth 100000 in
theorem r_16 : z_law 16 = true := by decide +kernel
