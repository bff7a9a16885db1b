set_option maxRecDepth 100000 in
theorem r_10 : z_law 10 = true := by decide +kernel
