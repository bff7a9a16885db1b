set_option maxRecDepth 100000 in
theorem r_0 : z_law 0 = true := by decide +kernel
set_option maxRecDepth 100000 in
theorem r_1 : z_law 1 = true := by decide +kernel
set_option maxRecDepth 100000 in
theorem r_2 : z_law 2 = true := by decide +kernel
set_option maxRecDepth 100000 in
theorem r_3 : z_law 3 = true := by decide +kernel
set_option maxRecDepth 100000 in
theorem r_4 : z_law 4 = true := by decide +kernel
set_option maxRecDepth 100000 in
theorem r_5 : z_law 5 = true := by decide +kernel
set_option maxRecDepth 100000 in
theorem r_6 : z_law 6 = true := by decide +kernel
set_option maxRecDepth 100000 in
theorem r_7 : z_law 7 = true := by decide +kernel
set_option maxRecDepth 100000 in
theorem r_8 : z_law 8 = true := by decide +kernel
set_option maxRecDepth 100000 in
theorem r_15 : z_law 15 = true := by decide +kernel
set_option maxRecDepth 100000 in
theorem r_26 : z_law 26 = true := by decide +kernel
set_option maxRecDepth 100000 in
theorem r_27 : z_law 27 = true := by decide +kernel
set_option maxRecDepth 100000 in
theorem r_28 : z_law 28 = true := by decide +kernel
set_option maxRecDepth 100000 in
theorem r_29 : z_law 29 = true := by decide +kernel
set_option maxRecDepth 100000 in
theorem r_30 : z_law 30 = true := by decide +kernel
set_option maxRecDepth 100000 in
theorem r_31 : z_law 31 = true := by decide +kernel
