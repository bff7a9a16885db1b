set_option maxRecDepth 100000 in
theorem v_f1_0 : q_gs q_Pg (s_no) 100000000 (y_bF (o_stop 11446 0 1 y_f1_0)) b_118_0 [] [(0, .inr (.inl 138)), (1, .inl 1)] [] 0 0 y_c1 y_no = true := by decide +kernel
set_option maxRecDepth 100000 in
theorem v_f1_1 : q_gs q_Pg (s_no) 100000000 (y_bF (o_stop 11661 0 1 y_f1_1)) b_118_8 [] [(3, .inl 11446), (2, .inl 0), (1, .inl 1), (0, .inr (.inl 138))] [] 0 0 y_f1_0 y_no = true := by decide +kernel
