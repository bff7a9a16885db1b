set_option maxRecDepth 100000 in
theorem v_f1_6 : q_gs q_Pg (s_no) 100000000 (y_bF (o_stop 14361 8 1 y_f1_6)) b_118_8 [] [(3, .inl 11653), (2, .inl 8), (1, .inl 1), (0, .inr (.inl 138))] [] 0 0 y_f1_5 y_no = true := by decide +kernel
set_option maxRecDepth 100000 in
theorem v_f1_7 : q_gs q_Pg (s_no) 100000000 (y_bF o_nop) b_118_8 [] [(3, .inl 14361), (2, .inl 8), (1, .inl 1), (0, .inr (.inl 138))] [] 0 0 y_f1_6 (y_kr y_f1) = true := by decide +kernel
