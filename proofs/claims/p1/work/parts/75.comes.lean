noncomputable def y_S : q_S := s_or (s_one 118 0 y_c0 y_f0) (s_or (s_one 118 1 y_c1 y_f1) (s_or (s_one 201 0 y_c0 y_l0) (s_one 201 1 y_c1 y_l1)))
theorem y_S_ok (E : q_E) : ∀ j B as h kc, q_inB E B → y_S j B as h kc = true → q_P E (q_mt j) as h (fun r h' => ∃ B', q_inB E B' ∧ kc B' r h' = true) :=
  s_or_ok (y_sf0 E) (s_or_ok (y_sf1 E) (s_or_ok (y_sl0 E) (y_sl1 E)))
/-- the law from its switch on, with the summaries -/
noncomputable def z_lawS (o lo hi : Nat) : Bool := q_gs q_Pg y_S 100000000 b_L b_L_33 [(0, 4294967295), (lo, hi), (0, 4294967295), (0, 4294967295), (0, 4294967295)] [(3, .inl 0), (2, .inr (.inl 138)), (1, .inr (.inl 0)), (0, .inr (.inr (.inr (.inr (.inr (.inl 0))))))] [.inl o] 1000 50000 z_h2 (fun _ r _ => e_one r)
set_option maxRecDepth 100000 in
theorem r_21_a : z_lawS 21 0 2147483647 = true := by decide +kernel
set_option maxRecDepth 100000 in
theorem r_21_b : z_lawS 21 2147483650 4294967295 = true := by decide +kernel
set_option maxRecDepth 100000 in
theorem r_22_a : z_lawS 22 0 2147483647 = true := by decide +kernel
set_option maxRecDepth 100000 in
theorem r_22_b : z_lawS 22 2147483650 4294967295 = true := by decide +kernel
set_option maxRecDepth 100000 in
theorem r_23_a : z_lawS 23 0 2147483647 = true := by decide +kernel
set_option maxRecDepth 100000 in
theorem r_23_b : z_lawS 23 2147483650 4294967295 = true := by decide +kernel
set_option maxRecDepth 100000 in
theorem r_24_a : z_lawS 24 0 2147483647 = true := by decide +kernel
set_option maxRecDepth 100000 in
theorem r_24_b : z_lawS 24 2147483650 4294967295 = true := by decide +kernel
set_option maxRecDepth 100000 in
theorem r_21_0 : z_lawS 21 2147483648 2147483648 = true := by decide +kernel
set_option maxRecDepth 100000 in
theorem r_21_1 : z_lawS 21 2147483649 2147483649 = true := by decide +kernel
