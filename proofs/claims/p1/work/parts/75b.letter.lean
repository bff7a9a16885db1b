/-- the letter of a least tree, the script's ints told as numbers first -/
theorem q_P_conv3 {E : q_E} {M : q_M} {r x x' y y' : q_V} {h : q_H} {Q : Option q_V → q_H → Prop} (hx : ∀ ad w, q_vr E ad x w → q_vr E ad x' w) (hy : ∀ ad w, q_vr E ad y w → q_vr E ad y' w) (k : q_P E M [r, x', y'] h Q) : q_P E M [r, x, y] h Q := by
  intro ad0 sz p e a1 a2 a3 s m args below f1 f2 hP hK
  refine k ad0 sz p e a1 a2 a3 s m args below f1 f2 ?_ hK
  obtain ⟨vs, tys, ws, z1, z2, z3⟩ := hP
  refine ⟨vs, tys, ws, z1, ?_, z3⟩
  match vs, z2 with
  | [v, w, u], z2 => exact ⟨z2.1, hx _ _ z2.2.1, hy _ _ z2.2.2.1, trivial⟩
noncomputable def s_let : q_S := fun j B as h kc => cond (Nat.beq j 161) (e_pop as (fun v0 t => e_isR v0 (fun r => e_pop t (fun v1 t1 => e_pop t1 (fun v2 t2 => e_nil t2 (e_int B v1 (fun B p => e_int B v2 (fun B i => q_go q_Pg 100000 b_161 b_161_0 B (q_args 0 [.inr (.inl r), .inl p, .inl i]) [] 0 0 h kc)))))))) false
theorem s_let_ok (E : q_E) : ∀ j B as h kc, q_inB E B → s_let j B as h kc = true → q_P E (q_mt j) as h (fun r h' => ∃ B', q_inB E B' ∧ kc B' r h' = true) := by
  intro j B as h kc hB e
  replace e := e_cnd e
  obtain ⟨e0, e⟩ := e
  rw [e_eq e0]
  replace e := e_pop_ok e
  obtain ⟨v0, t, rfl, e⟩ := e
  replace e := e_isR_ok e
  obtain ⟨r, rfl, e⟩ := e
  replace e := e_pop_ok e
  obtain ⟨v1, t1, rfl, e⟩ := e
  replace e := e_pop_ok e
  obtain ⟨v2, t2, rfl, e⟩ := e
  replace e := e_nil_ok e
  obtain ⟨rfl, e⟩ := e
  obtain ⟨p, B1, hB1, e, hv1⟩ := e_int_ok hB e
  obtain ⟨i, B2, hB2, e, hv2⟩ := e_int_ok hB1 e
  refine q_P_conv3 hv1 hv2 ?_
  exact q_run (j := 161) (n := 100000) (ml := m_161.2.2.1) (bl := b_161) (cs := b_161_0) (B := B2) (kr := kc) rfl rfl (Nat.le_of_ble_eq_true rfl) hB2 (fun B r h z1 z2 => ⟨B, z1, z2⟩) e
noncomputable def y_S2 : q_S := s_or s_let y_S
theorem y_S2_ok (E : q_E) : ∀ j B as h kc, q_inB E B → y_S2 j B as h kc = true → q_P E (q_mt j) as h (fun r h' => ∃ B', q_inB E B' ∧ kc B' r h' = true) := s_or_ok (s_let_ok E) (y_S_ok E)
noncomputable def z_lawT (o lo hi : Nat) : Bool := q_gs q_Pg y_S2 100000000 b_L b_L_33 [(0, 4294967295), (lo, hi), (0, 4294967295), (0, 4294967295), (0, 4294967295)] [(3, .inl 0), (2, .inr (.inl 138)), (1, .inr (.inl 0)), (0, .inr (.inr (.inr (.inr (.inr (.inl 0))))))] [.inl o] 1000 50000 z_h2 (fun _ r _ => e_one r)
