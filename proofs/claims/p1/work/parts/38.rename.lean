set_option maxRecDepth 100000 in
theorem r_14 : z_law 14 = true := by decide +kernel
