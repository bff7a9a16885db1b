set_option maxRecDepth 100000 in
theorem v_l1_4 : q_gs q_Pg (s_one 118 1 y_c1 y_f1) 100000000 (y_bL o_nop) b_201_6 [] [(3, .inl 14574), (2, .inl 8), (1, .inl 1), (0, .inr (.inl 138))] [] 0 0 y_l1_3 (y_kr y_l1) = true := by decide +kernel
