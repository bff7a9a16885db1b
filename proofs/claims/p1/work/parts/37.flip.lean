set_option maxRecDepth 100000 in
theorem r_13 : z_law 13 = true := by decide +kernel
