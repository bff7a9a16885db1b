set_option maxRecDepth 100000 in
theorem r_m : q_go q_Pg 1000000 b_170 b_170_0 [] [(0, .inr (.inl 138))] [] 0 0 z_h1m (fun _ r h => and r.isNone (e_hEq h z_h2)) = true := by decide +kernel
