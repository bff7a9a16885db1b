/-- the law from its switch on, with this number, the second int of the script in this interval -/
noncomputable def z_lawB (o lo hi : Nat) : Bool := q_go q_Pg 100000000 b_L b_L_33 [(0, 4294967295), (lo, hi), (0, 4294967295), (0, 4294967295), (0, 4294967295)] [(3, .inl 0), (2, .inr (.inl 138)), (1, .inr (.inl 0)), (0, .inr (.inr (.inr (.inr (.inr (.inl 0))))))] [.inl o] 1000 50000 z_h2 (fun _ r _ => e_one r)
/-- the same, the third int too -/
noncomputable def z_lawC (o lo hi lo2 hi2 : Nat) : Bool := q_go q_Pg 100000000 b_L b_L_33 [(0, 4294967295), (lo, hi), (lo2, hi2), (0, 4294967295), (0, 4294967295)] [(3, .inl 0), (2, .inr (.inl 138)), (1, .inr (.inl 0)), (0, .inr (.inr (.inr (.inr (.inr (.inl 0))))))] [.inl o] 1000 50000 z_h2 (fun _ r _ => e_one r)
set_option maxRecDepth 100000 in
theorem r_11_a : z_lawB 11 0 2147483647 = true := by decide +kernel
set_option maxRecDepth 100000 in
theorem r_11_b : z_lawB 11 2147483661 4294967295 = true := by decide +kernel
