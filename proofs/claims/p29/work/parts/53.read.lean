theorem c_54_b {E : q_E} {σ : x_S} {Q : Option q_V → x_S → Prop} (k : ∀ τ, y_sm [141] [] σ τ → (∀ m : Nat, m < 256 → τ 141 m = if 2 ≤ m ∧ m < 5 then 1 else 0) → Q none τ) : ∀ (N : Nat) (i : Int) (τ : x_S), 0 ≤ i → i ≤ 3 → (3 - i).toNat = N → y_sm [141] [] σ τ → (∀ m : Nat, m < 256 → τ 141 m = if 2 ≤ m ∧ (m : Int) < 2 + i then 1 else 0) → x_G E m_54 Q (t_54 4) [(0, x_R 138), (1, x_I i)] [] τ := by
  intro N
  induction N using Nat.strongRecOn with
  | ind N ih =>
    intro i τ h1 h2 hN hsm hz
    refine x_blk (b := 4) (a_54 E) rfl ?_
    unfold b_54_4
    refine x_iload rfl ?_
    refine x_push 3 rfl ?_
    refine x_icmp_ge (by omega) (by omega) (by omega) (by omega) (fun z1 => ?_) (fun z1 => ?_)
    · skip
      refine x_aload rfl ?_
      refine x_getR (r := 138) rfl (by decide) (by decide) rfl ?_
      refine x_push 2 rfl ?_
      refine x_iload rfl ?_
      refine x_iadd ?_
      refine x_push 1 rfl ?_
      refine x_ast (r := 141) (n := 256)  rfl rfl (by decide) (fun _ => rfl) rfl (by omega) (by omega) (by omega) (by omega) (fun S2 e2 => ?_)
      have w2 := x_up_at e2
      refine x_iinc 1 rfl rfl ?_
      refine x_goto ?_
      refine x_G_lo (lo' := [(0, x_R 138), (1, x_I (i + 1))]) ⟨rfl, rfl, trivial⟩ ?_
      refine ih _ (by omega) (i + 1) _ (by omega) (by omega) rfl (y_sm_tr hsm (y_sm_e e2 (Or.inl (by decide)))) (fun m hm => ?_)
      by_cases c : m = (2 + i).toNat
      · rw [c, if_pos (by omega)]; exact w2
      · rw [x_up_ne e2 (fun z => c z.2), hz m hm]
        by_cases d : 2 ≤ m ∧ (m : Int) < 2 + i
        · rw [if_pos d, if_pos (by omega)]
        · rw [if_neg d, if_neg (by omega)]
    · skip
      refine x_blk (b := 3) (a_54 E) rfl ?_
      unfold b_54_3
      refine x_vret ?_
      refine k τ hsm (fun m hm => ?_)
      rw [hz m hm]
      by_cases d : 2 ≤ m ∧ m < 5
      · rw [if_pos d, if_pos (by omega)]
      · rw [if_neg d, if_neg (by omega)]
theorem c_54_a {E : q_E} {σ : x_S} {Q : Option q_V → x_S → Prop} (k : ∀ τ, y_sm [141] [] σ τ → (∀ m : Nat, m < 256 → τ 141 m = if 2 ≤ m ∧ m < 5 then 1 else 0) → Q none τ) : ∀ (N : Nat) (i : Int) (τ : x_S), 0 ≤ i → i ≤ 256 → (256 - i).toNat = N → y_sm [141] [] σ τ → (∀ m : Nat, (m : Int) < i → τ 141 m = 0) → x_G E m_54 Q (t_54 2) [(0, x_R 138), (1, x_I i)] [] τ := by
  intro N
  induction N using Nat.strongRecOn with
  | ind N ih =>
    intro i τ h1 h2 hN hsm hz
    refine x_blk (b := 2) (a_54 E) rfl ?_
    unfold b_54_2
    refine x_iload rfl ?_
    refine x_push 256 rfl ?_
    refine x_icmp_ge (by omega) (by omega) (by omega) (by omega) (fun z1 => ?_) (fun z1 => ?_)
    · skip
      refine x_aload rfl ?_
      refine x_getR (r := 138) rfl (by decide) (by decide) rfl ?_
      refine x_iload rfl ?_
      refine x_push 0 rfl ?_
      refine x_ast (r := 141) (n := 256)  rfl rfl (by decide) (fun _ => rfl) rfl (by omega) (by omega) (by omega) (by omega) (fun S2 e2 => ?_)
      have w2 := x_up_at e2
      refine x_iinc 1 rfl rfl ?_
      refine x_goto ?_
      refine x_G_lo (lo' := [(0, x_R 138), (1, x_I (i + 1))]) ⟨rfl, rfl, trivial⟩ ?_
      refine ih _ (by omega) (i + 1) _ (by omega) (by omega) rfl (y_sm_tr hsm (y_sm_e e2 (Or.inl (by decide)))) (fun m hm => ?_)
      by_cases c : m = i.toNat
      · rw [c]; exact w2
      · rw [x_up_ne e2 (fun z => c z.2)]; exact hz m (by omega)
    · skip
      refine x_blk (b := 1) (a_54 E) rfl ?_
      unfold b_54_1
      refine x_push 0 rfl ?_
      refine x_istore ?_
      refine x_fall ?_
      refine x_G_lo (lo' := [(0, x_R 138), (1, x_I 0)]) ⟨rfl, rfl, trivial⟩ ?_
      refine c_54_b k _ 0 τ (by omega) (by omega) rfl hsm (fun m hm => ?_)
      rw [if_neg (by omega)]
      exact hz m (by omega)
theorem c_54 {E : q_E} {σ : x_S} {Q : Option q_V → x_S → Prop} (k : ∀ τ, y_sm [141] [] σ τ → (∀ m : Nat, m < 256 → τ 141 m = if 2 ≤ m ∧ m < 5 then 1 else 0) → Q none τ) : x_P E 54 [x_R 138] σ Q := by
  refine x_Mt e_54 (h_54 E) (Nat.le_of_ble_eq_true rfl) t_54 rfl ?_
  refine x_blk (b := 0) (a_54 E) rfl ?_
  unfold b_54_0
  refine x_push 0 rfl ?_
  refine x_istore ?_
  refine x_fall ?_
  refine x_G_lo (lo' := [(0, x_R 138), (1, x_I 0)]) ⟨rfl, rfl, trivial⟩ ?_
  exact c_54_a k _ 0 σ (by omega) (by omega) rfl y_sm_rf (fun m hm => absurd hm (by omega))
theorem c_59_a {E : q_E} {σ : x_S} {Q : Option q_V → x_S → Prop} (k : ∀ τ, y_sm [140] [5, 7] σ τ → (∀ m : Nat, m < 256 → τ 140 m = σ 141 m) → τ 138 5 = 0 → τ 138 7 = 0 → Q none τ) : ∀ (N : Nat) (i : Int) (τ : x_S), 0 ≤ i → i ≤ 256 → (256 - i).toNat = N → y_sm [140] [5, 7] σ τ → (∀ m : Nat, (m : Int) < i → τ 140 m = σ 141 m) → x_G E m_59 Q (t_59 2) [(0, x_R 138), (1, x_I i)] [] τ := by
  intro N
  induction N using Nat.strongRecOn with
  | ind N ih =>
    intro i τ h1 h2 hN hsm hz
    refine x_blk (b := 2) (a_59 E) rfl ?_
    unfold b_59_2
    refine x_iload rfl ?_
    refine x_push 256 rfl ?_
    refine x_icmp_ge (by omega) (by omega) (by omega) (by omega) (fun z1 => ?_) (fun z1 => ?_)
    · skip
      refine x_aload rfl ?_
      refine x_getR (r := 138) rfl (by decide) (by decide) rfl ?_
      refine x_iload rfl ?_
      refine x_aload rfl ?_
      refine x_getR (r := 138) rfl (by decide) (by decide) rfl ?_
      refine x_iload rfl ?_
      refine x_iald (r := 141) (n := 256)  rfl rfl (by decide) (fun _ => rfl) rfl (by omega) (by omega) ?_
      intro g2a g2b
      refine x_ast (r := 140) (n := 256)  rfl rfl (by decide) (fun _ => rfl) rfl (by omega) (by omega) (by omega) (by omega) (fun S3 e3 => ?_)
      have w3 := x_up_at e3
      refine x_iinc 1 rfl rfl ?_
      refine x_goto ?_
      refine x_G_lo (lo' := [(0, x_R 138), (1, x_I (i + 1))]) ⟨rfl, rfl, trivial⟩ ?_
      refine ih _ (by omega) (i + 1) _ (by omega) (by omega) rfl (y_sm_tr hsm (y_sm_e e3 (Or.inl (by decide)))) (fun m hm => ?_)
      by_cases c : m = i.toNat
      · rw [c, w3]; exact y_sm_a hsm 141 (by decide) (by decide) _
      · rw [x_up_ne e3 (fun z => c z.2)]; exact hz m (by omega)
    · skip
      refine x_blk (b := 1) (a_59 E) rfl ?_
      unfold b_59_1
      refine x_aload rfl ?_
      refine x_push 0 rfl ?_
      refine x_putI (r := 138) rfl (by decide) (by decide) (by decide) rfl ⟨by decide, rfl⟩ (by omega) (by omega) (fun S4 e4 => ?_)
      have w4 := x_up_at e4
      refine x_aload rfl ?_
      refine x_push 0 rfl ?_
      refine x_putI (r := 138) rfl (by decide) (by decide) (by decide) rfl ⟨by decide, rfl⟩ (by omega) (by omega) (fun S5 e5 => ?_)
      have w5 := x_up_at e5
      refine x_vret ?_
      have q1 := x_up_ne e5 (r' := 138) (k' := 5) (by decide)
      exact k _ (y_sm_tr (y_sm_tr hsm (y_sm_e e4 (Or.inr ⟨rfl, by decide⟩))) (y_sm_e e5 (Or.inr ⟨rfl, by decide⟩))) (fun m hm => by rw [x_up_nr e5 (by decide), x_up_nr e4 (by decide)]; exact hz m (by omega)) (q1.trans w4) w5
theorem c_59 {E : q_E} {σ : x_S} {Q : Option q_V → x_S → Prop} (k : ∀ τ, y_sm [140] [5, 7] σ τ → (∀ m : Nat, m < 256 → τ 140 m = σ 141 m) → τ 138 5 = 0 → τ 138 7 = 0 → Q none τ) : x_P E 59 [x_R 138] σ Q := by
  refine x_Mt e_59 (h_59 E) (Nat.le_of_ble_eq_true rfl) t_59 rfl ?_
  refine x_blk (b := 0) (a_59 E) rfl ?_
  unfold b_59_0
  refine x_push 0 rfl ?_
  refine x_istore ?_
  refine x_fall ?_
  refine x_G_lo (lo' := [(0, x_R 138), (1, x_I 0)]) ⟨rfl, rfl, trivial⟩ ?_
  exact c_59_a k _ 0 σ (by omega) (by omega) rfl y_sm_rf (fun m hm => absurd hm (by omega))
