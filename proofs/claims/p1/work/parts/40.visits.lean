set_option maxRecDepth 100000 in
theorem r_20 : z_law 20 = true := by decide +kernel
