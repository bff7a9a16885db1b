set_option maxRecDepth 100000 in
theorem v_f0_2 : q_gs q_Pg (s_no) 100000000 (y_bF (o_stop 14308 5 0 y_f0_2)) b_118_8 [] [(3, .inl 11065), (2, .inl 5), (1, .inl 0), (0, .inr (.inl 138))] [] 0 0 y_f0_1 y_no = true := by decide +kernel
set_option maxRecDepth 100000 in
theorem v_f0_3 : q_gs q_Pg (s_no) 100000000 (y_bF o_nop) b_118_8 [] [(3, .inl 14308), (2, .inl 5), (1, .inl 0), (0, .inr (.inl 138))] [] 0 0 y_f0_2 (y_kr y_f0) = true := by decide +kernel
