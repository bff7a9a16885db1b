-- f0
theorem x_f0_3 (E : q_E) : q_W E m_118 (fun r h => r = none ∧ h = y_f0) 51 [(3, .inl 14308), (2, .inl 5), (1, .inl 0), (0, .inr (.inl 138))] [] 0 0 y_f0_2 :=
  q_gs_ok q_Pg_all (s_no_ok) _ m_118 t_118 _ _ _ [] _ _ _ _ _ _ _ (y_okF E (o_nop_ok _)) (q_okCQ_of _ (k_118_8 E)) q_inB_nil y_kr_ok v_f0_3
theorem x_f0_2 (E : q_E) : q_W E m_118 (fun r h => r = none ∧ h = y_f0) 51 [(3, .inl 11065), (2, .inl 5), (1, .inl 0), (0, .inr (.inl 138))] [] 0 0 y_f0_1 :=
  q_gs_ok q_Pg_all (s_no_ok) _ m_118 t_118 _ _ _ [] _ _ _ _ _ _ _ (y_okF E (o_stop_ok (x_f0_3 E))) (q_okCQ_of _ (k_118_8 E)) q_inB_nil y_no_ok v_f0_2
theorem x_f0_1 (E : q_E) : q_W E m_118 (fun r h => r = none ∧ h = y_f0) 51 [(3, .inl 13974), (2, .inl 0), (1, .inl 0), (0, .inr (.inl 138))] [] 0 0 y_f0_0 :=
  q_gs_ok q_Pg_all (s_no_ok) _ m_118 t_118 _ _ _ [] _ _ _ _ _ _ _ (y_okF E (o_stop_ok (x_f0_2 E))) (q_okCQ_of _ (k_118_8 E)) q_inB_nil y_no_ok v_f0_1
theorem x_f0_0 (E : q_E) : q_W E m_118 (fun r h => r = none ∧ h = y_f0) 0 [(0, .inr (.inl 138)), (1, .inl 0)] [] 0 0 y_c0 :=
  q_gs_ok q_Pg_all (s_no_ok) _ m_118 t_118 _ _ _ [] _ _ _ _ _ _ _ (y_okF E (o_stop_ok (x_f0_1 E))) (q_okCQ_of _ (k_118_0 E)) q_inB_nil y_no_ok v_f0_0
theorem P_f0 (E : q_E) : q_P E m_118 [.inr (.inl 138), .inl 0] y_c0 (fun r h => r = none ∧ h = y_f0) := q_Pof (by decide +kernel) (Nat.le_of_ble_eq_true rfl) (x_f0_0 E)
-- f1
theorem x_f1_7 (E : q_E) : q_W E m_118 (fun r h => r = none ∧ h = y_f1) 51 [(3, .inl 14361), (2, .inl 8), (1, .inl 1), (0, .inr (.inl 138))] [] 0 0 y_f1_6 :=
  q_gs_ok q_Pg_all (s_no_ok) _ m_118 t_118 _ _ _ [] _ _ _ _ _ _ _ (y_okF E (o_nop_ok _)) (q_okCQ_of _ (k_118_8 E)) q_inB_nil y_kr_ok v_f1_7
theorem x_f1_6 (E : q_E) : q_W E m_118 (fun r h => r = none ∧ h = y_f1) 51 [(3, .inl 11653), (2, .inl 8), (1, .inl 1), (0, .inr (.inl 138))] [] 0 0 y_f1_5 :=
  q_gs_ok q_Pg_all (s_no_ok) _ m_118 t_118 _ _ _ [] _ _ _ _ _ _ _ (y_okF E (o_stop_ok (x_f1_7 E))) (q_okCQ_of _ (k_118_8 E)) q_inB_nil y_no_ok v_f1_6
theorem x_f1_5 (E : q_E) : q_W E m_118 (fun r h => r = none ∧ h = y_f1) 51 [(3, .inl 11442), (2, .inl 8), (1, .inl 1), (0, .inr (.inl 138))] [] 0 0 y_f1_4 :=
  q_gs_ok q_Pg_all (s_no_ok) _ m_118 t_118 _ _ _ [] _ _ _ _ _ _ _ (y_okF E (o_stop_ok (x_f1_6 E))) (q_okCQ_of _ (k_118_8 E)) q_inB_nil y_no_ok v_f1_5
theorem x_f1_4 (E : q_E) : q_W E m_118 (fun r h => r = none ∧ h = y_f1) 51 [(3, .inl 8478), (2, .inl 8), (1, .inl 1), (0, .inr (.inl 138))] [] 0 0 y_f1_3 :=
  q_gs_ok q_Pg_all (s_no_ok) _ m_118 t_118 _ _ _ [] _ _ _ _ _ _ _ (y_okF E (o_stop_ok (x_f1_5 E))) (q_okCQ_of _ (k_118_8 E)) q_inB_nil y_no_ok v_f1_4
theorem x_f1_3 (E : q_E) : q_W E m_118 (fun r h => r = none ∧ h = y_f1) 51 [(3, .inl 14407), (2, .inl 0), (1, .inl 1), (0, .inr (.inl 138))] [] 0 0 y_f1_2 :=
  q_gs_ok q_Pg_all (s_no_ok) _ m_118 t_118 _ _ _ [] _ _ _ _ _ _ _ (y_okF E (o_stop_ok (x_f1_4 E))) (q_okCQ_of _ (k_118_8 E)) q_inB_nil y_no_ok v_f1_3
theorem x_f1_2 (E : q_E) : q_W E m_118 (fun r h => r = none ∧ h = y_f1) 51 [(3, .inl 11661), (2, .inl 0), (1, .inl 1), (0, .inr (.inl 138))] [] 0 0 y_f1_1 :=
  q_gs_ok q_Pg_all (s_no_ok) _ m_118 t_118 _ _ _ [] _ _ _ _ _ _ _ (y_okF E (o_stop_ok (x_f1_3 E))) (q_okCQ_of _ (k_118_8 E)) q_inB_nil y_no_ok v_f1_2
theorem x_f1_1 (E : q_E) : q_W E m_118 (fun r h => r = none ∧ h = y_f1) 51 [(3, .inl 11446), (2, .inl 0), (1, .inl 1), (0, .inr (.inl 138))] [] 0 0 y_f1_0 :=
  q_gs_ok q_Pg_all (s_no_ok) _ m_118 t_118 _ _ _ [] _ _ _ _ _ _ _ (y_okF E (o_stop_ok (x_f1_2 E))) (q_okCQ_of _ (k_118_8 E)) q_inB_nil y_no_ok v_f1_1
theorem x_f1_0 (E : q_E) : q_W E m_118 (fun r h => r = none ∧ h = y_f1) 0 [(0, .inr (.inl 138)), (1, .inl 1)] [] 0 0 y_c1 :=
  q_gs_ok q_Pg_all (s_no_ok) _ m_118 t_118 _ _ _ [] _ _ _ _ _ _ _ (y_okF E (o_stop_ok (x_f1_1 E))) (q_okCQ_of _ (k_118_0 E)) q_inB_nil y_no_ok v_f1_0
theorem P_f1 (E : q_E) : q_P E m_118 [.inr (.inl 138), .inl 1] y_c1 (fun r h => r = none ∧ h = y_f1) := q_Pof (by decide +kernel) (Nat.le_of_ble_eq_true rfl) (x_f1_0 E)
-- l0
theorem x_l0_1 (E : q_E) : q_W E m_201 (fun r h => r = none ∧ h = y_l0) 15 [(3, .inl 11605), (2, .inl 5), (1, .inl 0), (0, .inr (.inl 138))] [] 0 0 y_l0_0 :=
  q_gs_ok q_Pg_all (s_one_ok (P_f0 E)) _ m_201 t_201 _ _ _ [] _ _ _ _ _ _ _ (y_okL E (o_nop_ok _)) (q_okCQ_of _ (k_201_6 E)) q_inB_nil y_kr_ok v_l0_1
theorem x_l0_0 (E : q_E) : q_W E m_201 (fun r h => r = none ∧ h = y_l0) 0 [(0, .inr (.inl 138)), (1, .inl 0)] [] 0 0 y_c0 :=
  q_gs_ok q_Pg_all (s_one_ok (P_f0 E)) _ m_201 t_201 _ _ _ [] _ _ _ _ _ _ _ (y_okL E (o_stop_ok (x_l0_1 E))) (q_okCQ_of _ (k_201_0 E)) q_inB_nil y_no_ok v_l0_0
theorem P_l0 (E : q_E) : q_P E m_201 [.inr (.inl 138), .inl 0] y_c0 (fun r h => r = none ∧ h = y_l0) := q_Pof (by decide +kernel) (Nat.le_of_ble_eq_true rfl) (x_l0_0 E)
-- l1
theorem x_l1_4 (E : q_E) : q_W E m_201 (fun r h => r = none ∧ h = y_l1) 15 [(3, .inl 14574), (2, .inl 8), (1, .inl 1), (0, .inr (.inl 138))] [] 0 0 y_l1_3 :=
  q_gs_ok q_Pg_all (s_one_ok (P_f1 E)) _ m_201 t_201 _ _ _ [] _ _ _ _ _ _ _ (y_okL E (o_nop_ok _)) (q_okCQ_of _ (k_201_6 E)) q_inB_nil y_kr_ok v_l1_4
theorem x_l1_3 (E : q_E) : q_W E m_201 (fun r h => r = none ∧ h = y_l1) 15 [(3, .inl 11392), (2, .inl 7), (1, .inl 1), (0, .inr (.inl 138))] [] 0 0 y_l1_2 :=
  q_gs_ok q_Pg_all (s_one_ok (P_f1 E)) _ m_201 t_201 _ _ _ [] _ _ _ _ _ _ _ (y_okL E (o_stop_ok (x_l1_4 E))) (q_okCQ_of _ (k_201_6 E)) q_inB_nil y_no_ok v_l1_3
theorem x_l1_2 (E : q_E) : q_W E m_201 (fun r h => r = none ∧ h = y_l1) 15 [(3, .inl 11123), (2, .inl 6), (1, .inl 1), (0, .inr (.inl 138))] [] 0 0 y_l1_1 :=
  q_gs_ok q_Pg_all (s_one_ok (P_f1 E)) _ m_201 t_201 _ _ _ [] _ _ _ _ _ _ _ (y_okL E (o_stop_ok (x_l1_3 E))) (q_okCQ_of _ (k_201_6 E)) q_inB_nil y_no_ok v_l1_2
theorem x_l1_1 (E : q_E) : q_W E m_201 (fun r h => r = none ∧ h = y_l1) 15 [(3, .inl 8694), (2, .inl 5), (1, .inl 1), (0, .inr (.inl 138))] [] 0 0 y_l1_0 :=
  q_gs_ok q_Pg_all (s_one_ok (P_f1 E)) _ m_201 t_201 _ _ _ [] _ _ _ _ _ _ _ (y_okL E (o_stop_ok (x_l1_2 E))) (q_okCQ_of _ (k_201_6 E)) q_inB_nil y_no_ok v_l1_1
theorem x_l1_0 (E : q_E) : q_W E m_201 (fun r h => r = none ∧ h = y_l1) 0 [(0, .inr (.inl 138)), (1, .inl 1)] [] 0 0 y_c1 :=
  q_gs_ok q_Pg_all (s_one_ok (P_f1 E)) _ m_201 t_201 _ _ _ [] _ _ _ _ _ _ _ (y_okL E (o_stop_ok (x_l1_1 E))) (q_okCQ_of _ (k_201_0 E)) q_inB_nil y_no_ok v_l1_0
theorem P_l1 (E : q_E) : q_P E m_201 [.inr (.inl 138), .inl 1] y_c1 (fun r h => r = none ∧ h = y_l1) := q_Pof (by decide +kernel) (Nat.le_of_ble_eq_true rfl) (x_l1_0 E)
