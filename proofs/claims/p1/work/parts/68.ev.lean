set_option maxRecDepth 100000 in
theorem v_f1_4 : q_gs q_Pg (s_no) 100000000 (y_bF (o_stop 11442 8 1 y_f1_4)) b_118_8 [] [(3, .inl 8478), (2, .inl 8), (1, .inl 1), (0, .inr (.inl 138))] [] 0 0 y_f1_3 y_no = true := by decide +kernel
set_option maxRecDepth 100000 in
theorem v_f1_5 : q_gs q_Pg (s_no) 100000000 (y_bF (o_stop 11653 8 1 y_f1_5)) b_118_8 [] [(3, .inl 11442), (2, .inl 8), (1, .inl 1), (0, .inr (.inl 138))] [] 0 0 y_f1_4 y_no = true := by decide +kernel
