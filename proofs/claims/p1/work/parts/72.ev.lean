set_option maxRecDepth 100000 in
theorem v_l1_2 : q_gs q_Pg (s_one 118 1 y_c1 y_f1) 100000000 (y_bL (o_stop 11392 7 1 y_l1_2)) b_201_6 [] [(3, .inl 11123), (2, .inl 6), (1, .inl 1), (0, .inr (.inl 138))] [] 0 0 y_l1_1 y_no = true := by decide +kernel
set_option maxRecDepth 100000 in
theorem v_l1_3 : q_gs q_Pg (s_one 118 1 y_c1 y_f1) 100000000 (y_bL (o_stop 14574 8 1 y_l1_3)) b_201_6 [] [(3, .inl 11392), (2, .inl 7), (1, .inl 1), (0, .inr (.inl 138))] [] 0 0 y_l1_2 y_no = true := by decide +kernel
