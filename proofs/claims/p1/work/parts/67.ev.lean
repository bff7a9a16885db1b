set_option maxRecDepth 100000 in
theorem v_f1_2 : q_gs q_Pg (s_no) 100000000 (y_bF (o_stop 14407 0 1 y_f1_2)) b_118_8 [] [(3, .inl 11661), (2, .inl 0), (1, .inl 1), (0, .inr (.inl 138))] [] 0 0 y_f1_1 y_no = true := by decide +kernel
set_option maxRecDepth 100000 in
theorem v_f1_3 : q_gs q_Pg (s_no) 100000000 (y_bF (o_stop 8478 8 1 y_f1_3)) b_118_8 [] [(3, .inl 14407), (2, .inl 0), (1, .inl 1), (0, .inr (.inl 138))] [] 0 0 y_f1_2 y_no = true := by decide +kernel
