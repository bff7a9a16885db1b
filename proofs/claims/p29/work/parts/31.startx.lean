set_option maxRecDepth 100000 in
theorem r_x : q_go q_Pg 1000000 b_119 b_119_0 [] [(0, .inr (.inl 0))] [] 0 0 [[(13, 12, 0)]] (fun _ r h => and r.isNone (e_hEq h z_h1)) = true := by decide +kernel
