set_option maxRecDepth 100000 in
theorem r_9 : z_law 9 = true := by decide +kernel
set_option maxRecDepth 100000 in
theorem r_17 : z_law 17 = true := by decide +kernel
set_option maxRecDepth 100000 in
theorem r_18 : z_law 18 = true := by decide +kernel
set_option maxRecDepth 100000 in
theorem r_19 : z_law 19 = true := by decide +kernel
set_option maxRecDepth 100000 in
theorem r_25 : z_law 25 = true := by decide +kernel
