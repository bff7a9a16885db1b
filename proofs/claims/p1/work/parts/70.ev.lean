set_option maxRecDepth 100000 in
theorem v_l0_0 : q_gs q_Pg (s_one 118 0 y_c0 y_f0) 100000000 (y_bL (o_stop 11605 5 0 y_l0_0)) b_201_0 [] [(0, .inr (.inl 138)), (1, .inl 0)] [] 0 0 y_c0 y_no = true := by decide +kernel
set_option maxRecDepth 100000 in
theorem v_l0_1 : q_gs q_Pg (s_one 118 0 y_c0 y_f0) 100000000 (y_bL o_nop) b_201_6 [] [(3, .inl 11605), (2, .inl 5), (1, .inl 0), (0, .inr (.inl 138))] [] 0 0 y_l0_0 (y_kr y_l0) = true := by decide +kernel
