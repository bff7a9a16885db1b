set_option maxRecDepth 100000 in
theorem v_f0_0 : q_gs q_Pg (s_no) 100000000 (y_bF (o_stop 13974 0 0 y_f0_0)) b_118_0 [] [(0, .inr (.inl 138)), (1, .inl 0)] [] 0 0 y_c0 y_no = true := by decide +kernel
set_option maxRecDepth 100000 in
theorem v_f0_1 : q_gs q_Pg (s_no) 100000000 (y_bF (o_stop 11065 5 0 y_f0_1)) b_118_8 [] [(3, .inl 13974), (2, .inl 0), (1, .inl 0), (0, .inr (.inl 138))] [] 0 0 y_f0_0 y_no = true := by decide +kernel
