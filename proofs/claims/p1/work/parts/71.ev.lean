set_option maxRecDepth 100000 in
theorem v_l1_0 : q_gs q_Pg (s_one 118 1 y_c1 y_f1) 100000000 (y_bL (o_stop 8694 5 1 y_l1_0)) b_201_0 [] [(0, .inr (.inl 138)), (1, .inl 1)] [] 0 0 y_c1 y_no = true := by decide +kernel
set_option maxRecDepth 100000 in
theorem v_l1_1 : q_gs q_Pg (s_one 118 1 y_c1 y_f1) 100000000 (y_bL (o_stop 11123 6 1 y_l1_1)) b_201_6 [] [(3, .inl 8694), (2, .inl 5), (1, .inl 1), (0, .inr (.inl 138))] [] 0 0 y_l1_0 y_no = true := by decide +kernel
