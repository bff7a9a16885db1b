theorem c_115_a {E : q_E} {σ : x_S} {Q : Option q_V → x_S → Prop} {r : Int} (r1 : 0 ≤ r) (r2 : r ≤ 15) (k : ∀ τ, y_sm [140] [] σ τ → (∀ m : Nat, ¬ (63 + 12 * r.toNat ≤ m ∧ m < 75 + 12 * r.toNat) → τ 140 m = σ 140 m) → (∀ m : Nat, m < 12 → τ 140 (63 + 12 * r.toNat + m) = σ 144 m) → Q none τ) : ∀ (N : Nat) (i : Int) (τ : x_S), 0 ≤ i → i ≤ 12 → (12 - i).toNat = N → y_sm [140] [] σ τ → (∀ m : Nat, ¬ (63 + 12 * r.toNat ≤ m ∧ m < 75 + 12 * r.toNat) → τ 140 m = σ 140 m) → (∀ m : Nat, (m : Int) < i → τ 140 (63 + 12 * r.toNat + m) = σ 144 m) → x_G E m_115 Q (t_115 2) [(0, x_R 138), (1, x_I r), (2, x_I i)] [] τ := by
  intro N
  induction N using Nat.strongRecOn with
  | ind N ih =>
    intro i τ i1 i2 hN hsm hu hv
    refine x_blk (b := 2) (a_115 E) rfl ?_
    unfold b_115_2
    refine x_iload rfl ?_
    refine x_push 12 rfl ?_
    refine x_icmp_ge (by omega) (by omega) (by omega) (by omega) (fun z1 => ?_) (fun z1 => ?_)
    · skip
      refine x_aload rfl ?_
      refine x_getR (r := 138) rfl (by decide) (by decide) rfl ?_
      refine x_push 63 rfl ?_
      refine x_push 12 rfl ?_
      refine x_iload rfl ?_
      refine x_imul ?_
      refine x_iadd ?_
      refine x_iload rfl ?_
      refine x_iadd ?_
      refine x_aload rfl ?_
      refine x_getR (r := 138) rfl (by decide) (by decide) rfl ?_
      refine x_iload rfl ?_
      refine x_iald (r := 144) (n := 12)  rfl rfl (by decide) (fun _ => rfl) rfl (by omega) (by omega) ?_
      intro g2a g2b
      refine x_ast (r := 140) (n := 256)  rfl rfl (by decide) (fun _ => rfl) rfl (by omega) (by omega) (by omega) (by omega) (fun S3 e3 => ?_)
      have w3 := x_up_at e3
      refine x_iinc 1 rfl rfl ?_
      refine x_goto ?_
      refine x_G_lo (lo' := [(0, x_R 138), (1, x_I r), (2, x_I (i + 1))]) ⟨rfl, rfl, rfl, trivial⟩ ?_
      refine ih _ (by omega) (i + 1) S3 (by omega) (by omega) rfl (y_sm_tr hsm (y_sm_e e3 (Or.inl (by decide)))) (fun m h1 => ?_) (fun m hm => ?_)
      · rw [x_up_ne e3 (fun z => absurd z.2 (by omega))]; exact hu m h1
      · by_cases c : m = i.toNat
        · rw [c, ← show (63 + 12 * r + i).toNat = 63 + 12 * r.toNat + i.toNat by omega, w3]
          exact y_sm_a hsm 144 (by decide) (by decide) _
        · rw [x_up_ne e3 (fun z => absurd z.2 (by omega))]; exact hv m (by omega)
    · skip
      refine x_blk (b := 1) (a_115 E) rfl ?_
      unfold b_115_1
      refine x_vret ?_
      exact k τ hsm hu (fun m hm => hv m (by omega))
theorem c_115 {E : q_E} {σ : x_S} {Q : Option q_V → x_S → Prop} {r : Int} (r1 : 0 ≤ r) (r2 : r ≤ 15) (k : ∀ τ, y_sm [140] [] σ τ → (∀ m : Nat, ¬ (63 + 12 * r.toNat ≤ m ∧ m < 75 + 12 * r.toNat) → τ 140 m = σ 140 m) → (∀ m : Nat, m < 12 → τ 140 (63 + 12 * r.toNat + m) = σ 144 m) → Q none τ) : x_P E 115 [x_R 138, x_I r] σ Q := by
  refine x_Mt e_115 (h_115 E) (Nat.le_of_ble_eq_true rfl) t_115 rfl ?_
  refine x_blk (b := 0) (a_115 E) rfl ?_
  unfold b_115_0
  refine x_push 0 rfl ?_
  refine x_istore ?_
  refine x_fall ?_
  refine x_G_lo (lo' := [(0, x_R 138), (1, x_I r), (2, x_I 0)]) ⟨rfl, rfl, rfl, trivial⟩ ?_
  exact c_115_a r1 r2 k _ 0 σ (by omega) (by omega) rfl y_sm_rf (fun m _ => rfl) (fun m hm => absurd hm (by omega))
theorem c_190_a {E : q_E} {σ : x_S} {Q : Option q_V → x_S → Prop} (n1 : 0 ≤ σ 138 5) (n2 : σ 138 5 ≤ 7) (k : ∀ τ, y_sm [140] [] σ τ → (∀ m : Nat, m < 256 → τ 140 m = σ 142 (256 * (σ 138 5).toNat + m)) → x_G E m_190 Q (t_190 2) [(0, x_R 138)] [] τ) : ∀ (N : Nat) (i : Int) (τ : x_S), 0 ≤ i → i ≤ 256 → (256 - i).toNat = N → y_sm [140] [] σ τ → (∀ m : Nat, (m : Int) < i → τ 140 m = σ 142 (256 * (σ 138 5).toNat + m)) → x_G E m_190 Q (t_190 3) [(0, x_R 138), (1, x_I i)] [] τ := by
  intro N
  induction N using Nat.strongRecOn with
  | ind N ih =>
    intro i τ i1 i2 hN hsm hv
    have q5 : τ 138 5 = σ 138 5 := hsm 138 5 (by decide) (by decide)
    refine x_blk (b := 3) (a_190 E) rfl ?_
    unfold b_190_3
    refine x_iload rfl ?_
    refine x_push 256 rfl ?_
    refine x_icmp_ge (by omega) (by omega) (by omega) (by omega) (fun z1 => ?_) (fun z1 => ?_)
    · skip
      refine x_aload rfl ?_
      refine x_getR (r := 138) rfl (by decide) (by decide) rfl ?_
      refine x_iload rfl ?_
      refine x_aload rfl ?_
      refine x_getR (r := 138) rfl (by decide) (by decide) rfl ?_
      refine x_push 256 rfl ?_
      refine x_aload rfl ?_
      refine x_getI (r := 138) rfl (by decide) (by decide) (by decide) rfl ?_
      intro g2a g2b
      refine x_imul ?_
      refine x_iload rfl ?_
      refine x_iadd ?_
      refine x_iald (r := 142) (n := 2048)  rfl rfl (by decide) (fun _ => rfl) rfl (by omega) (by omega) ?_
      intro g3a g3b
      refine x_ast (r := 140) (n := 256)  rfl rfl (by decide) (fun _ => rfl) rfl (by omega) (by omega) (by omega) (by omega) (fun S4 e4 => ?_)
      have w4 := x_up_at e4
      refine x_iinc 1 rfl rfl ?_
      refine x_goto ?_
      refine x_G_lo (lo' := [(0, x_R 138), (1, x_I (i + 1))]) ⟨rfl, rfl, trivial⟩ ?_
      refine ih _ (by omega) (i + 1) S4 (by omega) (by omega) rfl (y_sm_tr hsm (y_sm_e e4 (Or.inl (by decide)))) (fun m hm => ?_)
      by_cases c : m = i.toNat
      · rw [c, w4, q5, show (256 * σ 138 5 + i).toNat = 256 * (σ 138 5).toNat + i.toNat by omega]
        exact y_sm_a hsm 142 (by decide) (by decide) _
      · rw [x_up_ne e4 (fun z => c z.2)]; exact hv m (by omega)
    · skip
      refine x_G_lo (lo' := [(0, x_R 138)]) ⟨rfl, trivial⟩ ?_
      exact k τ hsm (fun m hm => hv m (by omega))
theorem c_210_a {E : q_E} {σ : x_S} {Q : Option q_V → x_S → Prop} (n1 : 0 ≤ σ 138 7) (n2 : σ 138 7 ≤ 1) (k : ∀ τ, y_sm [140] [] σ τ → (∀ m : Nat, m < 256 → τ 140 m = σ 143 (256 * (σ 138 7).toNat + m)) → x_G E m_210 Q (t_210 2) [(0, x_R 138)] [] τ) : ∀ (N : Nat) (i : Int) (τ : x_S), 0 ≤ i → i ≤ 256 → (256 - i).toNat = N → y_sm [140] [] σ τ → (∀ m : Nat, (m : Int) < i → τ 140 m = σ 143 (256 * (σ 138 7).toNat + m)) → x_G E m_210 Q (t_210 3) [(0, x_R 138), (1, x_I i)] [] τ := by
  intro N
  induction N using Nat.strongRecOn with
  | ind N ih =>
    intro i τ i1 i2 hN hsm hv
    have q5 : τ 138 7 = σ 138 7 := hsm 138 7 (by decide) (by decide)
    refine x_blk (b := 3) (a_210 E) rfl ?_
    unfold b_210_3
    refine x_iload rfl ?_
    refine x_push 256 rfl ?_
    refine x_icmp_ge (by omega) (by omega) (by omega) (by omega) (fun z1 => ?_) (fun z1 => ?_)
    · skip
      refine x_aload rfl ?_
      refine x_getR (r := 138) rfl (by decide) (by decide) rfl ?_
      refine x_iload rfl ?_
      refine x_aload rfl ?_
      refine x_getR (r := 138) rfl (by decide) (by decide) rfl ?_
      refine x_push 256 rfl ?_
      refine x_aload rfl ?_
      refine x_getI (r := 138) rfl (by decide) (by decide) (by decide) rfl ?_
      intro g2a g2b
      refine x_imul ?_
      refine x_iload rfl ?_
      refine x_iadd ?_
      refine x_iald (r := 143) (n := 512)  rfl rfl (by decide) (fun _ => rfl) rfl (by omega) (by omega) ?_
      intro g3a g3b
      refine x_ast (r := 140) (n := 256)  rfl rfl (by decide) (fun _ => rfl) rfl (by omega) (by omega) (by omega) (by omega) (fun S4 e4 => ?_)
      have w4 := x_up_at e4
      refine x_iinc 1 rfl rfl ?_
      refine x_goto ?_
      refine x_G_lo (lo' := [(0, x_R 138), (1, x_I (i + 1))]) ⟨rfl, rfl, trivial⟩ ?_
      refine ih _ (by omega) (i + 1) S4 (by omega) (by omega) rfl (y_sm_tr hsm (y_sm_e e4 (Or.inl (by decide)))) (fun m hm => ?_)
      by_cases c : m = i.toNat
      · rw [c, w4, q5, show (256 * σ 138 7 + i).toNat = 256 * (σ 138 7).toNat + i.toNat by omega]
        exact y_sm_a hsm 143 (by decide) (by decide) _
      · rw [x_up_ne e4 (fun z => c z.2)]; exact hv m (by omega)
    · skip
      refine x_G_lo (lo' := [(0, x_R 138)]) ⟨rfl, trivial⟩ ?_
      exact k τ hsm (fun m hm => hv m (by omega))
