-- l0
theorem x_l0_1 (E : q_E) : q_W E m_201 (fun r h => r = none ∧ h = y_l0) 15 [(3, .inl 11605), (2, .inl 5), (1, .inl 0), (0, .inr (.inl 138))] [] 0 0 y_l0_0 :=
  q_gs_ok q_Pg_all (S := s_one 118 0 y_c0 y_f0) (y_sf0 E) _ m_201 t_201 _ _ _ [] _ _ _ _ _ _ _ (y_okL E (o_nop_ok _)) (q_okCQ_of _ (k_201_6 E)) q_inB_nil y_kr_ok v_l0_1
theorem x_l0_0 (E : q_E) : q_W E m_201 (fun r h => r = none ∧ h = y_l0) 0 [(0, .inr (.inl 138)), (1, .inl 0)] [] 0 0 y_c0 :=
  q_gs_ok q_Pg_all (S := s_one 118 0 y_c0 y_f0) (y_sf0 E) _ m_201 t_201 _ _ _ [] _ _ _ _ _ _ _ (y_okL E (s := o_stop 11605 5 0 y_l0_0) (o_stop_ok (pc := 15) (c1 := 11605) (n1 := 5) (p1 := 0) (h1 := y_l0_0) (x_l0_1 E))) (q_okCQ_of _ (k_201_0 E)) q_inB_nil y_no_ok v_l0_0
theorem P_l0 (E : q_E) : q_P E m_201 [.inr (.inl 138), .inl 0] y_c0 (fun r h => r = none ∧ h = y_l0) := q_Pof (by decide +kernel) (Nat.le_of_ble_eq_true rfl) (x_l0_0 E)
-- l1
theorem x_l1_4 (E : q_E) : q_W E m_201 (fun r h => r = none ∧ h = y_l1) 15 [(3, .inl 14574), (2, .inl 8), (1, .inl 1), (0, .inr (.inl 138))] [] 0 0 y_l1_3 :=
  q_gs_ok q_Pg_all (S := s_one 118 1 y_c1 y_f1) (y_sf1 E) _ m_201 t_201 _ _ _ [] _ _ _ _ _ _ _ (y_okL E (o_nop_ok _)) (q_okCQ_of _ (k_201_6 E)) q_inB_nil y_kr_ok v_l1_4
theorem x_l1_3 (E : q_E) : q_W E m_201 (fun r h => r = none ∧ h = y_l1) 15 [(3, .inl 11392), (2, .inl 7), (1, .inl 1), (0, .inr (.inl 138))] [] 0 0 y_l1_2 :=
  q_gs_ok q_Pg_all (S := s_one 118 1 y_c1 y_f1) (y_sf1 E) _ m_201 t_201 _ _ _ [] _ _ _ _ _ _ _ (y_okL E (s := o_stop 14574 8 1 y_l1_3) (o_stop_ok (pc := 15) (c1 := 14574) (n1 := 8) (p1 := 1) (h1 := y_l1_3) (x_l1_4 E))) (q_okCQ_of _ (k_201_6 E)) q_inB_nil y_no_ok v_l1_3
theorem x_l1_2 (E : q_E) : q_W E m_201 (fun r h => r = none ∧ h = y_l1) 15 [(3, .inl 11123), (2, .inl 6), (1, .inl 1), (0, .inr (.inl 138))] [] 0 0 y_l1_1 :=
  q_gs_ok q_Pg_all (S := s_one 118 1 y_c1 y_f1) (y_sf1 E) _ m_201 t_201 _ _ _ [] _ _ _ _ _ _ _ (y_okL E (s := o_stop 11392 7 1 y_l1_2) (o_stop_ok (pc := 15) (c1 := 11392) (n1 := 7) (p1 := 1) (h1 := y_l1_2) (x_l1_3 E))) (q_okCQ_of _ (k_201_6 E)) q_inB_nil y_no_ok v_l1_2
theorem x_l1_1 (E : q_E) : q_W E m_201 (fun r h => r = none ∧ h = y_l1) 15 [(3, .inl 8694), (2, .inl 5), (1, .inl 1), (0, .inr (.inl 138))] [] 0 0 y_l1_0 :=
  q_gs_ok q_Pg_all (S := s_one 118 1 y_c1 y_f1) (y_sf1 E) _ m_201 t_201 _ _ _ [] _ _ _ _ _ _ _ (y_okL E (s := o_stop 11123 6 1 y_l1_1) (o_stop_ok (pc := 15) (c1 := 11123) (n1 := 6) (p1 := 1) (h1 := y_l1_1) (x_l1_2 E))) (q_okCQ_of _ (k_201_6 E)) q_inB_nil y_no_ok v_l1_1
theorem x_l1_0 (E : q_E) : q_W E m_201 (fun r h => r = none ∧ h = y_l1) 0 [(0, .inr (.inl 138)), (1, .inl 1)] [] 0 0 y_c1 :=
  q_gs_ok q_Pg_all (S := s_one 118 1 y_c1 y_f1) (y_sf1 E) _ m_201 t_201 _ _ _ [] _ _ _ _ _ _ _ (y_okL E (s := o_stop 8694 5 1 y_l1_0) (o_stop_ok (pc := 15) (c1 := 8694) (n1 := 5) (p1 := 1) (h1 := y_l1_0) (x_l1_1 E))) (q_okCQ_of _ (k_201_0 E)) q_inB_nil y_no_ok v_l1_0
theorem P_l1 (E : q_E) : q_P E m_201 [.inr (.inl 138), .inl 1] y_c1 (fun r h => r = none ∧ h = y_l1) := q_Pof (by decide +kernel) (Nat.le_of_ble_eq_true rfl) (x_l1_0 E)

theorem y_sl0 (E : q_E) : ∀ j B as h kc, q_inB E B → s_one 201 0 y_c0 y_l0 j B as h kc = true → q_P E (q_mt j) as h (fun r h' => ∃ B', q_inB E B' ∧ kc B' r h' = true) := s_one_ok (mt := q_mt) (j0 := 201) (p0 := 0) (hi := y_c0) (ho := y_l0) (by rw [e_201]; exact P_l0 E)
theorem y_sl1 (E : q_E) : ∀ j B as h kc, q_inB E B → s_one 201 1 y_c1 y_l1 j B as h kc = true → q_P E (q_mt j) as h (fun r h' => ∃ B', q_inB E B' ∧ kc B' r h' = true) := s_one_ok (mt := q_mt) (j0 := 201) (p0 := 1) (hi := y_c1) (ho := y_l1) (by rw [e_201]; exact P_l1 E)
