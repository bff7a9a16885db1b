noncomputable def e_one (r : Option q_V) : Bool := Option.rec (motive := fun _ => Bool) false (fun v => Sum.rec (motive := fun _ => Bool) (fun n => Nat.beq n 1) (fun _ => false) v) r
def z_B : q_B := [(0, 4294967295), (0, 4294967295), (0, 4294967295), (0, 4294967295), (0, 4294967295)]
/-- the law from its switch on, with this number *)-/
noncomputable def z_law (o : Nat) : Bool := q_go q_Pg 100000000 b_L b_L_33 z_B [(3, .inl 0), (2, .inr (.inl 138)), (1, .inr (.inl 0)), (0, .inr (.inr (.inr (.inr (.inr (.inl 0))))))] [.inl o] 1000 50000 z_h2 (fun _ r _ => e_one r)
