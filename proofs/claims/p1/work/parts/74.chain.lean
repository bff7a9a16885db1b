-- f0
theorem x_f0_3 (E : q_E) : q_W E m_118 (fun r h => r = none ∧ h = y_f0) 51 [(3, .inl 14308), (2, .inl 5), (1, .inl 0), (0, .inr (.inl 138))] [] 0 0 y_f0_2 :=
  q_gs_ok q_Pg_all (s_no_ok) _ m_118 t_118 _ _ _ [] _ _ _ _ _ _ _ (y_okF E (o_nop_ok _)) (q_okCQ_of _ (k_118_8 E)) q_inB_nil y_kr_ok v_f0_3
theorem x_f0_2 (E : q_E) : q_W E m_118 (fun r h => r = none ∧ h = y_f0) 51 [(3, .inl 11065), (2, .inl 5), (1, .inl 0), (0, .inr (.inl 138))] [] 0 0 y_f0_1 :=
  q_gs_ok q_Pg_all (s_no_ok) _ m_118 t_118 _ _ _ [] _ _ _ _ _ _ _ (y_okF E (s := o_stop 14308 5 0 y_f0_2) (o_stop_ok (pc := 51) (c1 := 14308) (n1 := 5) (p1 := 0) (h1 := y_f0_2) (x_f0_3 E))) (q_okCQ_of _ (k_118_8 E)) q_inB_nil y_no_ok v_f0_2
theorem x_f0_1 (E : q_E) : q_W E m_118 (fun r h => r = none ∧ h = y_f0) 51 [(3, .inl 13974), (2, .inl 0), (1, .inl 0), (0, .inr (.inl 138))] [] 0 0 y_f0_0 :=
  q_gs_ok q_Pg_all (s_no_ok) _ m_118 t_118 _ _ _ [] _ _ _ _ _ _ _ (y_okF E (s := o_stop 11065 5 0 y_f0_1) (o_stop_ok (pc := 51) (c1 := 11065) (n1 := 5) (p1 := 0) (h1 := y_f0_1) (x_f0_2 E))) (q_okCQ_of _ (k_118_8 E)) q_inB_nil y_no_ok v_f0_1
theorem x_f0_0 (E : q_E) : q_W E m_118 (fun r h => r = none ∧ h = y_f0) 0 [(0, .inr (.inl 138)), (1, .inl 0)] [] 0 0 y_c0 :=
  q_gs_ok q_Pg_all (s_no_ok) _ m_118 t_118 _ _ _ [] _ _ _ _ _ _ _ (y_okF E (s := o_stop 13974 0 0 y_f0_0) (o_stop_ok (pc := 51) (c1 := 13974) (n1 := 0) (p1 := 0) (h1 := y_f0_0) (x_f0_1 E))) (q_okCQ_of _ (k_118_0 E)) q_inB_nil y_no_ok v_f0_0
theorem P_f0 (E : q_E) : q_P E m_118 [.inr (.inl 138), .inl 0] y_c0 (fun r h => r = none ∧ h = y_f0) := q_Pof (by decide +kernel) (Nat.le_of_ble_eq_true rfl) (x_f0_0 E)
-- f1
theorem x_f1_7 (E : q_E) : q_W E m_118 (fun r h => r = none ∧ h = y_f1) 51 [(3, .inl 14361), (2, .inl 8), (1, .inl 1), (0, .inr (.inl 138))] [] 0 0 y_f1_6 :=
  q_gs_ok q_Pg_all (s_no_ok) _ m_118 t_118 _ _ _ [] _ _ _ _ _ _ _ (y_okF E (o_nop_ok _)) (q_okCQ_of _ (k_118_8 E)) q_inB_nil y_kr_ok v_f1_7
theorem x_f1_6 (E : q_E) : q_W E m_118 (fun r h => r = none ∧ h = y_f1) 51 [(3, .inl 11653), (2, .inl 8), (1, .inl 1), (0, .inr (.inl 138))] [] 0 0 y_f1_5 :=
  q_gs_ok q_Pg_all (s_no_ok) _ m_118 t_118 _ _ _ [] _ _ _ _ _ _ _ (y_okF E (s := o_stop 14361 8 1 y_f1_6) (o_stop_ok (pc := 51) (c1 := 14361) (n1 := 8) (p1 := 1) (h1 := y_f1_6) (x_f1_7 E))) (q_okCQ_of _ (k_118_8 E)) q_inB_nil y_no_ok v_f1_6
theorem x_f1_5 (E : q_E) : q_W E m_118 (fun r h => r = none ∧ h = y_f1) 51 [(3, .inl 11442), (2, .inl 8), (1, .inl 1), (0, .inr (.inl 138))] [] 0 0 y_f1_4 :=
  q_gs_ok q_Pg_all (s_no_ok) _ m_118 t_118 _ _ _ [] _ _ _ _ _ _ _ (y_okF E (s := o_stop 11653 8 1 y_f1_5) (o_stop_ok (pc := 51) (c1 := 11653) (n1 := 8) (p1 := 1) (h1 := y_f1_5) (x_f1_6 E))) (q_okCQ_of _ (k_118_8 E)) q_inB_nil y_no_ok v_f1_5
theorem x_f1_4 (E : q_E) : q_W E m_118 (fun r h => r = none ∧ h = y_f1) 51 [(3, .inl 8478), (2, .inl 8), (1, .inl 1), (0, .inr (.inl 138))] [] 0 0 y_f1_3 :=
  q_gs_ok q_Pg_all (s_no_ok) _ m_118 t_118 _ _ _ [] _ _ _ _ _ _ _ (y_okF E (s := o_stop 11442 8 1 y_f1_4) (o_stop_ok (pc := 51) (c1 := 11442) (n1 := 8) (p1 := 1) (h1 := y_f1_4) (x_f1_5 E))) (q_okCQ_of _ (k_118_8 E)) q_inB_nil y_no_ok v_f1_4
theorem x_f1_3 (E : q_E) : q_W E m_118 (fun r h => r = none ∧ h = y_f1) 51 [(3, .inl 14407), (2, .inl 0), (1, .inl 1), (0, .inr (.inl 138))] [] 0 0 y_f1_2 :=
  q_gs_ok q_Pg_all (s_no_ok) _ m_118 t_118 _ _ _ [] _ _ _ _ _ _ _ (y_okF E (s := o_stop 8478 8 1 y_f1_3) (o_stop_ok (pc := 51) (c1 := 8478) (n1 := 8) (p1 := 1) (h1 := y_f1_3) (x_f1_4 E))) (q_okCQ_of _ (k_118_8 E)) q_inB_nil y_no_ok v_f1_3
theorem x_f1_2 (E : q_E) : q_W E m_118 (fun r h => r = none ∧ h = y_f1) 51 [(3, .inl 11661), (2, .inl 0), (1, .inl 1), (0, .inr (.inl 138))] [] 0 0 y_f1_1 :=
  q_gs_ok q_Pg_all (s_no_ok) _ m_118 t_118 _ _ _ [] _ _ _ _ _ _ _ (y_okF E (s := o_stop 14407 0 1 y_f1_2) (o_stop_ok (pc := 51) (c1 := 14407) (n1 := 0) (p1 := 1) (h1 := y_f1_2) (x_f1_3 E))) (q_okCQ_of _ (k_118_8 E)) q_inB_nil y_no_ok v_f1_2
theorem x_f1_1 (E : q_E) : q_W E m_118 (fun r h => r = none ∧ h = y_f1) 51 [(3, .inl 11446), (2, .inl 0), (1, .inl 1), (0, .inr (.inl 138))] [] 0 0 y_f1_0 :=
  q_gs_ok q_Pg_all (s_no_ok) _ m_118 t_118 _ _ _ [] _ _ _ _ _ _ _ (y_okF E (s := o_stop 11661 0 1 y_f1_1) (o_stop_ok (pc := 51) (c1 := 11661) (n1 := 0) (p1 := 1) (h1 := y_f1_1) (x_f1_2 E))) (q_okCQ_of _ (k_118_8 E)) q_inB_nil y_no_ok v_f1_1
theorem x_f1_0 (E : q_E) : q_W E m_118 (fun r h => r = none ∧ h = y_f1) 0 [(0, .inr (.inl 138)), (1, .inl 1)] [] 0 0 y_c1 :=
  q_gs_ok q_Pg_all (s_no_ok) _ m_118 t_118 _ _ _ [] _ _ _ _ _ _ _ (y_okF E (s := o_stop 11446 0 1 y_f1_0) (o_stop_ok (pc := 51) (c1 := 11446) (n1 := 0) (p1 := 1) (h1 := y_f1_0) (x_f1_1 E))) (q_okCQ_of _ (k_118_0 E)) q_inB_nil y_no_ok v_f1_0
theorem P_f1 (E : q_E) : q_P E m_118 [.inr (.inl 138), .inl 1] y_c1 (fun r h => r = none ∧ h = y_f1) := q_Pof (by decide +kernel) (Nat.le_of_ble_eq_true rfl) (x_f1_0 E)
theorem y_sf0 (E : q_E) : ∀ j B as h kc, q_inB E B → s_one 118 0 y_c0 y_f0 j B as h kc = true → q_P E (q_mt j) as h (fun r h' => ∃ B', q_inB E B' ∧ kc B' r h' = true) := s_one_ok (mt := q_mt) (j0 := 118) (p0 := 0) (hi := y_c0) (ho := y_f0) (by rw [e_118]; exact P_f0 E)
theorem y_sf1 (E : q_E) : ∀ j B as h kc, q_inB E B → s_one 118 1 y_c1 y_f1 j B as h kc = true → q_P E (q_mt j) as h (fun r h' => ∃ B', q_inB E B' ∧ kc B' r h' = true) := s_one_ok (mt := q_mt) (j0 := 118) (p0 := 1) (hi := y_c1) (ho := y_f1) (by rw [e_118]; exact P_f1 E)
