-- f0
theorem x_f0_3 (E : q_E) : q_W E m_118 (fun r h => r = none ∧ h = y_f0) 51 [(3, .inl 14308), (2, .inl 5), (1, .inl 0), (0, .inr (.inl 138))] [] 0 0 y_f0_2 :=
  q_gs_ok q_Pg_all (s_no_ok) _ m_118 t_118 _ _ _ [] _ _ _ _ _ _ _ (y_okF E (o_nop_ok _)) (q_okCQ_of _ (k_118_8 E)) q_inB_nil y_kr_ok v_f0_3
theorem x_f0_2 (E : q_E) : q_W E m_118 (fun r h => r = none ∧ h = y_f0) 51 [(3, .inl 11065), (2, .inl 5), (1, .inl 0), (0, .inr (.inl 138))] [] 0 0 y_f0_1 :=
  q_gs_ok q_Pg_all (s_no_ok) _ m_118 t_118 _ _ _ [] _ _ _ _ _ _ _ (y_okF E (s := o_stop 14308 5 0 y_f0_2) (o_stop_ok (pc := 51) (c1 := 14308) (n1 := 5) (p1 := 0) (h1 := y_f0_2) (x_f0_3 E))) (q_okCQ_of _ (k_118_8 E)) q_inB_nil y_no_ok v_f0_2
theorem x_f0_1 (E : q_E) : q_W E m_118 (fun r h => r = none ∧ h = y_f0) 51 [(3, .inl 13974), (2, .inl 0), (1, .inl 0), (0, .inr (.inl 138))] [] 0 0 y_f0_0 :=
  q_gs_ok q_Pg_all (s_no_ok) _ m_118 t_118 _ _ _ [] _ _ _ _ _ _ _ (y_okF E (s := o_stop 11065 5 0 y_f0_1) (o_stop_ok (pc := 51) (c1 := 11065) (n1 := 5) (p1 := 0) (h1 := y_f0_1) (x_f0_2 E))) (q_okCQ_of _ (k_118_8 E)) q_inB_nil y_no_ok v_f0_1
theorem x_f0_0 (E : q_E) : q_W E m_118 (fun r h => r = none ∧ h = y_f0) 0 [(0, .inr (.inl 138)), (1, .inl 0)] [] 0 0 y_c0 :=
  q_gs_ok q_Pg_all (s_no_ok) _ m_118 t_118 _ _ _ [] _ _ _ _ _ _ _ (y_okF E (s := o_stop 13974 0 0 y_f0_0) (o_stop_ok (pc := 51) (c1 := 13974) (n1 := 0) (p1 := 0) (h1 := y_f0_0) (x_f0_1 E))) (q_okCQ_of _ (k_118_0 E)) q_inB_nil y_no_ok v_f0_0
theorem P_f0 (E : q_E) : q_P E m_118 [.inr (.inl 138), .inl 0] y_c0 (fun r h => r = none ∧ h = y_f0) := q_Pof (by decide +kernel) (Nat.le_of_ble_eq_true rfl) (x_f0_0 E)
-- f1
theorem x_f1_7 (E : q_E) : q_W E m_118 (fun r h => r = none ∧ h = y_f1) 51 [(3, .inl 14361), (2, .inl 8), (1, .inl 1), (0, .inr (.inl 138))] [] 0 0 y_f1_6 :=
  q_gs_ok q_Pg_all (s_no_ok) _ m_118 t_118 _ _ _ [] _ _ _ _ _ _ _ (y_okF E (o_nop_ok _)) (q_okCQ_of _ (k_118_8 E)) q_inB_nil y_kr_ok v_f1_7
theorem x_f1_6 (E : q_E) : q_W E m_118 (fun r h => r = none ∧ h = y_f1) 51 [(3, .inl 11653), (2, .inl 8), (1, .inl 1), (0, .inr (.inl 138))] [] 0 0 y_f1_5 :=
  q_gs_ok q_Pg_all (s_no_ok) _ m_118 t_118 _ _ _ [] _ _ _ _ _ _ _ (y_okF E (s := o_stop 14361 8 1 y_f1_6) (o_stop_ok (pc := 51) (c1 := 14361) (n1 := 8) (p1 := 1) (h1 := y_f1_6) (x_f1_7 E))) (q_okCQ_of _ (k_118_8 E)) q_inB_nil y_no_ok v_f1_6
theorem x_f1_5 (E : q_E) : q_W E m_118 (fun r h => r = none ∧ h = y_f1) 51 [(3, .inl 11442), (2, .inl 8), (1, .inl 1), (0, .inr (.inl 138))] [] 0 0 y_f1_4 :=
  q_gs_ok q_Pg_all (s_no_ok) _ m_118 t_118 _ _ _ [] _ _ _ _ _ _ _ (y_okF E (s := o_stop 11653 8 1 y_f1_5) (o_stop_ok (pc := 51) (c1 := 11653) (n1 := 8) (p1 := 1) (h1 := y_f1_5) (x_f1_6 E))) (q_okCQ_of _ (k_118_8 E)) q_inB_nil y_no_ok v_f1_5
theorem x_f1_4 (E : q_E) : q_W E m_118 (fun r h => r = none ∧ h = y_f1) 51 [(3, .inl 8478), (2, .inl 8), (1, .inl 1), (0, .inr (.inl 138))] [] 0 0 y_f1_3 :=
  q_gs_ok q_Pg_all (s_no_ok) _ m_118 t_118 _ _ _ [] _ _ _ _ _ _ _ (y_okF E (s := o_stop 11442 8 1 y_f1_4) (o_stop_ok (pc := 51) (c1 := 11442) (n1 := 8) (p1 := 1) (h1 := y_f1_4) (x_f1_5 E))) (q_okCQ_of _ (k_118_8 E)) q_inB_nil y_no_ok v_f1_4
theorem x_f1_3 (E : q_E) : q_W E m_118 (fun r h => r = none ∧ h = y_f1) 51 [(3, .inl 14407), (2, .inl 0), (1, .inl 1), (0, .inr (.inl 138))] [] 0 0 y_f1_2 :=
  q_gs_ok q_Pg_all (s_no_ok) _ m_118 t_118 _ _ _ [] _ _ _ _ _ _ _ (y_okF E (s := o_stop 8478 8 1 y_f1_3) (o_stop_ok (pc := 51) (c1 := 8478) (n1 := 8) (p1 := 1) (h1 := y_f1_3) (x_f1_4 E))) (q_okCQ_of _ (k_118_8 E)) q_inB_nil y_no_ok v_f1_3
theorem x_f1_2 (E : q_E) : q_W E m_118 (fun r h => r = none ∧ h = y_f1) 51 [(3, .inl 11661), (2, .inl 0), (1, .inl 1), (0, .inr (.inl 138))] [] 0 0 y_f1_1 :=
  q_gs_ok q_Pg_all (s_no_ok) _ m_118 t_118 _ _ _ [] _ _ _ _ _ _ _ (y_okF E (s := o_stop 14407 0 1 y_f1_2) (o_stop_ok (pc := 51) (c1 := 14407) (n1 := 0) (p1 := 1) (h1 := y_f1_2) (x_f1_3 E))) (q_okCQ_of _ (k_118_8 E)) q_inB_nil y_no_ok v_f1_2
theorem x_f1_1 (E : q_E) : q_W E m_118 (fun r h => r = none ∧ h = y_f1) 51 [(3, .inl 11446), (2, .inl 0), (1, .inl 1), (0, .inr (.inl 138))] [] 0 0 y_f1_0 :=
  q_gs_ok q_Pg_all (s_no_ok) _ m_118 t_118 _ _ _ [] _ _ _ _ _ _ _ (y_okF E (s := o_stop 11661 0 1 y_f1_1) (o_stop_ok (pc := 51) (c1 := 11661) (n1 := 0) (p1 := 1) (h1 := y_f1_1) (x_f1_2 E))) (q_okCQ_of _ (k_118_8 E)) q_inB_nil y_no_ok v_f1_1
theorem x_f1_0 (E : q_E) : q_W E m_118 (fun r h => r = none ∧ h = y_f1) 0 [(0, .inr (.inl 138)), (1, .inl 1)] [] 0 0 y_c1 :=
  q_gs_ok q_Pg_all (s_no_ok) _ m_118 t_118 _ _ _ [] _ _ _ _ _ _ _ (y_okF E (s := o_stop 11446 0 1 y_f1_0) (o_stop_ok (pc := 51) (c1 := 11446) (n1 := 0) (p1 := 1) (h1 := y_f1_0) (x_f1_1 E))) (q_okCQ_of _ (k_118_0 E)) q_inB_nil y_no_ok v_f1_0
theorem P_f1 (E : q_E) : q_P E m_118 [.inr (.inl 138), .inl 1] y_c1 (fun r h => r = none ∧ h = y_f1) := q_Pof (by decide +kernel) (Nat.le_of_ble_eq_true rfl) (x_f1_0 E)
-- l0
theorem x_l0_1 (E : q_E) : q_W E m_201 (fun r h => r = none ∧ h = y_l0) 15 [(3, .inl 11605), (2, .inl 5), (1, .inl 0), (0, .inr (.inl 138))] [] 0 0 y_l0_0 :=
  q_gs_ok q_Pg_all (s_one_ok (P_f0 E)) _ m_201 t_201 _ _ _ [] _ _ _ _ _ _ _ (y_okL E (o_nop_ok _)) (q_okCQ_of _ (k_201_6 E)) q_inB_nil y_kr_ok v_l0_1
theorem x_l0_0 (E : q_E) : q_W E m_201 (fun r h => r = none ∧ h = y_l0) 0 [(0, .inr (.inl 138)), (1, .inl 0)] [] 0 0 y_c0 :=
  q_gs_ok q_Pg_all (s_one_ok (P_f0 E)) _ m_201 t_201 _ _ _ [] _ _ _ _ _ _ _ (y_okL E (s := o_stop 11605 5 0 y_l0_0) (o_stop_ok (pc := 15) (c1 := 11605) (n1 := 5) (p1 := 0) (h1 := y_l0_0) (x_l0_1 E))) (q_okCQ_of _ (k_201_0 E)) q_inB_nil y_no_ok v_l0_0
theorem P_l0 (E : q_E) : q_P E m_201 [.inr (.inl 138), .inl 0] y_c0 (fun r h => r = none ∧ h = y_l0) := q_Pof (by decide +kernel) (Nat.le_of_ble_eq_true rfl) (x_l0_0 E)
-- l1
theorem x_l1_4 (E : q_E) : q_W E m_201 (fun r h => r = none ∧ h = y_l1) 15 [(3, .inl 14574), (2, .inl 8), (1, .inl 1), (0, .inr (.inl 138))] [] 0 0 y_l1_3 :=
  q_gs_ok q_Pg_all (s_one_ok (P_f1 E)) _ m_201 t_201 _ _ _ [] _ _ _ _ _ _ _ (y_okL E (o_nop_ok _)) (q_okCQ_of _ (k_201_6 E)) q_inB_nil y_kr_ok v_l1_4
theorem x_l1_3 (E : q_E) : q_W E m_201 (fun r h => r = none ∧ h = y_l1) 15 [(3, .inl 11392), (2, .inl 7), (1, .inl 1), (0, .inr (.inl 138))] [] 0 0 y_l1_2 :=
  q_gs_ok q_Pg_all (s_one_ok (P_f1 E)) _ m_201 t_201 _ _ _ [] _ _ _ _ _ _ _ (y_okL E (s := o_stop 14574 8 1 y_l1_3) (o_stop_ok (pc := 15) (c1 := 14574) (n1 := 8) (p1 := 1) (h1 := y_l1_3) (x_l1_4 E))) (q_okCQ_of _ (k_201_6 E)) q_inB_nil y_no_ok v_l1_3
theorem x_l1_2 (E : q_E) : q_W E m_201 (fun r h => r = none ∧ h = y_l1) 15 [(3, .inl 11123), (2, .inl 6), (1, .inl 1), (0, .inr (.inl 138))] [] 0 0 y_l1_1 :=
  q_gs_ok q_Pg_all (s_one_ok (P_f1 E)) _ m_201 t_201 _ _ _ [] _ _ _ _ _ _ _ (y_okL E (s := o_stop 11392 7 1 y_l1_2) (o_stop_ok (pc := 15) (c1 := 11392) (n1 := 7) (p1 := 1) (h1 := y_l1_2) (x_l1_3 E))) (q_okCQ_of _ (k_201_6 E)) q_inB_nil y_no_ok v_l1_2
theorem x_l1_1 (E : q_E) : q_W E m_201 (fun r h => r = none ∧ h = y_l1) 15 [(3, .inl 8694), (2, .inl 5), (1, .inl 1), (0, .inr (.inl 138))] [] 0 0 y_l1_0 :=
  q_gs_ok q_Pg_all (s_one_ok (P_f1 E)) _ m_201 t_201 _ _ _ [] _ _ _ _ _ _ _ (y_okL E (s := o_stop 11123 6 1 y_l1_1) (o_stop_ok (pc := 15) (c1 := 11123) (n1 := 6) (p1 := 1) (h1 := y_l1_1) (x_l1_2 E))) (q_okCQ_of _ (k_201_6 E)) q_inB_nil y_no_ok v_l1_1
theorem x_l1_0 (E : q_E) : q_W E m_201 (fun r h => r = none ∧ h = y_l1) 0 [(0, .inr (.inl 138)), (1, .inl 1)] [] 0 0 y_c1 :=
  q_gs_ok q_Pg_all (s_one_ok (P_f1 E)) _ m_201 t_201 _ _ _ [] _ _ _ _ _ _ _ (y_okL E (s := o_stop 8694 5 1 y_l1_0) (o_stop_ok (pc := 15) (c1 := 8694) (n1 := 5) (p1 := 1) (h1 := y_l1_0) (x_l1_1 E))) (q_okCQ_of _ (k_201_0 E)) q_inB_nil y_no_ok v_l1_0
theorem P_l1 (E : q_E) : q_P E m_201 [.inr (.inl 138), .inl 1] y_c1 (fun r h => r = none ∧ h = y_l1) := q_Pof (by decide +kernel) (Nat.le_of_ble_eq_true rfl) (x_l1_0 E)
