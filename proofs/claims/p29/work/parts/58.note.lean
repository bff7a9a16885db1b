theorem c_88_b {E : q_E} {σ : x_S} {Q : Option q_V → x_S → Prop} (n1 : 0 ≤ σ 138 5) (n2 : σ 138 5 ≤ 7) (k : ∀ τ, y_sm [142] [5] σ τ → τ 138 5 = σ 138 5 + 1 → (∀ m : Nat, ¬ (256 * (σ 138 5).toNat ≤ m ∧ m < 256 * (σ 138 5).toNat + 256) → τ 142 m = σ 142 m) → (∀ m : Nat, m < 256 → τ 142 (256 * (σ 138 5).toNat + m) = σ 140 m) → Q none τ) : ∀ (N : Nat) (i : Int) (τ : x_S), 0 ≤ i → i ≤ 256 → (256 - i).toNat = N → y_sm [142] [5] σ τ → τ 138 5 = σ 138 5 → (∀ m : Nat, ¬ (256 * (σ 138 5).toNat ≤ m ∧ m < 256 * (σ 138 5).toNat + 256) → τ 142 m = σ 142 m) → (∀ m : Nat, (m : Int) < i → τ 142 (256 * (σ 138 5).toNat + m) = σ 140 m) → x_G E m_88 Q (t_88 5) [(0, x_R 138), (1, x_I i)] [] τ := by
  intro N
  induction N using Nat.strongRecOn with
  | ind N ih =>
    intro i τ i1 i2 hN hsm q5 hu hv
    refine x_blk (b := 5) (a_88 E) rfl ?_
    unfold b_88_5
    refine x_iload rfl ?_
    refine x_push 256 rfl ?_
    refine x_icmp_ge (by omega) (by omega) (by omega) (by omega) (fun z1 => ?_) (fun z1 => ?_)
    · skip
      refine x_aload rfl ?_
      refine x_getR (r := 138) rfl (by decide) (by decide) rfl ?_
      refine x_push 256 rfl ?_
      refine x_aload rfl ?_
      refine x_getI (r := 138) rfl (by decide) (by decide) (by decide) rfl ?_
      intro g2a g2b
      refine x_imul ?_
      refine x_iload rfl ?_
      refine x_iadd ?_
      refine x_aload rfl ?_
      refine x_getR (r := 138) rfl (by decide) (by decide) rfl ?_
      refine x_iload rfl ?_
      refine x_iald (r := 140) (n := 256)  rfl rfl (by decide) (fun _ => rfl) rfl (by omega) (by omega) ?_
      intro g3a g3b
      refine x_ast (r := 142) (n := 2048)  rfl rfl (by decide) (fun _ => rfl) rfl (by omega) (by omega) (by omega) (by omega) (fun S4 e4 => ?_)
      have w4 := x_up_at e4
      refine x_iinc 1 rfl rfl ?_
      refine x_goto ?_
      rw [q5] at w4 e4
      refine x_G_lo (lo' := [(0, x_R 138), (1, x_I (i + 1))]) ⟨rfl, rfl, trivial⟩ ?_
      refine ih _ (by omega) (i + 1) S4 (by omega) (by omega) rfl (y_sm_tr hsm (y_sm_e e4 (Or.inl (by decide)))) (by rw [x_up_nr e4 (by decide)]; exact q5) (fun m h1 => ?_) (fun m hm => ?_)
      · rw [x_up_ne e4 (fun z => absurd z.2 (by omega))]; exact hu m h1
      · by_cases c : m = i.toNat
        · rw [c, ← show (256 * σ 138 5 + i).toNat = 256 * (σ 138 5).toNat + i.toNat by omega, w4]
          exact y_sm_a hsm 140 (by decide) (by decide) _
        · rw [x_up_ne e4 (fun z => absurd z.2 (by omega))]; exact hv m (by omega)
    · skip
      refine x_blk (b := 4) (a_88 E) rfl ?_
      unfold b_88_4
      refine x_aload rfl ?_
      refine x_dup rfl ?_
      refine x_getI (r := 138) rfl (by decide) (by decide) (by decide) rfl ?_
      intro g5a g5b
      refine x_push 1 rfl ?_
      refine x_iadd ?_
      refine x_putI (r := 138) rfl (by decide) (by decide) (by decide) rfl ⟨by decide, rfl⟩ (by omega) (by omega) (fun S6 e6 => ?_)
      have w6 := x_up_at e6
      refine x_vret ?_
      exact k _ (y_sm_tr hsm (y_sm_e e6 (Or.inr ⟨rfl, by decide⟩))) (by omega) (fun m h1 => (x_up_nr e6 (by decide)).trans (hu m h1)) (fun m hm => (x_up_nr e6 (by decide)).trans (hv m (by omega)))
theorem c_88_a {E : q_E} {σ : x_S} {Q : Option q_V → x_S → Prop} (n8 : σ 138 5 = 8) (k : ∀ τ, y_sm [142] [5] σ τ → τ 138 5 = 8 → (∀ m : Nat, m < 1792 → τ 142 m = σ 142 (256 + m)) → (∀ m : Nat, m < 256 → τ 142 (1792 + m) = σ 140 m) → Q none τ) : ∀ (N : Nat) (i : Int) (τ : x_S), 0 ≤ i → i ≤ 1792 → (1792 - i).toNat = N → y_sm [142] [5] σ τ → τ 138 5 = 8 → (∀ m : Nat, i ≤ (m : Int) → τ 142 m = σ 142 m) → (∀ m : Nat, (m : Int) < i → τ 142 m = σ 142 (256 + m)) → x_G E m_88 Q (t_88 3) [(0, x_R 138), (1, x_I i)] [] τ := by
  intro N
  induction N using Nat.strongRecOn with
  | ind N ih =>
    intro i τ i1 i2 hN hsm q5 hu hv
    refine x_blk (b := 3) (a_88 E) rfl ?_
    unfold b_88_3
    refine x_iload rfl ?_
    refine x_push 1792 rfl ?_
    refine x_icmp_ge (by omega) (by omega) (by omega) (by omega) (fun z1 => ?_) (fun z1 => ?_)
    · skip
      refine x_aload rfl ?_
      refine x_getR (r := 138) rfl (by decide) (by decide) rfl ?_
      refine x_iload rfl ?_
      refine x_aload rfl ?_
      refine x_getR (r := 138) rfl (by decide) (by decide) rfl ?_
      refine x_push 256 rfl ?_
      refine x_iload rfl ?_
      refine x_iadd ?_
      refine x_iald (r := 142) (n := 2048)  rfl rfl (by decide) (fun _ => rfl) rfl (by omega) (by omega) ?_
      intro g2a g2b
      refine x_ast (r := 142) (n := 2048)  rfl rfl (by decide) (fun _ => rfl) rfl (by omega) (by omega) (by omega) (by omega) (fun S3 e3 => ?_)
      have w3 := x_up_at e3
      refine x_iinc 1 rfl rfl ?_
      refine x_goto ?_
      refine x_G_lo (lo' := [(0, x_R 138), (1, x_I (i + 1))]) ⟨rfl, rfl, trivial⟩ ?_
      refine ih _ (by omega) (i + 1) S3 (by omega) (by omega) rfl (y_sm_tr hsm (y_sm_e e3 (Or.inl (by decide)))) (by rw [x_up_nr e3 (by decide)]; exact q5) (fun m h1 => ?_) (fun m hm => ?_)
      · rw [x_up_ne e3 (fun z => absurd z.2 (by omega))]; exact hu m (by omega)
      · by_cases c : m = i.toNat
        · rw [c, w3, hu _ (by omega), show (256 + i).toNat = 256 + i.toNat by omega]
        · rw [x_up_ne e3 (fun z => c z.2)]; exact hv m (by omega)
    · skip
      refine x_blk (b := 2) (a_88 E) rfl ?_
      unfold b_88_2
      refine x_aload rfl ?_
      refine x_dup rfl ?_
      refine x_getI (r := 138) rfl (by decide) (by decide) (by decide) rfl ?_
      intro g4a g4b
      refine x_push 1 rfl ?_
      refine x_isub ?_
      refine x_putI (r := 138) rfl (by decide) (by decide) (by decide) rfl ⟨by decide, rfl⟩ (by omega) (by omega) (fun S5 e5 => ?_)
      have w5 := x_up_at e5
      refine x_fall ?_
      refine x_blk (b := 1) (a_88 E) rfl ?_
      unfold b_88_1
      refine x_push 0 rfl ?_
      refine x_istore ?_
      refine x_fall ?_
      have q5' : S5 138 5 = 7 := by omega
      have hB : (S5 138 5).toNat = 7 := by omega
      refine x_G_lo (lo' := [(0, x_R 138), (1, x_I 0)]) ⟨rfl, rfl, trivial⟩ ?_
      refine c_88_b (σ := S5) (by omega) (by omega) (fun τ' a1 a2 a3 a4 => ?_) _ 0 S5 (by omega) (by omega) rfl y_sm_rf rfl (fun m _ => rfl) (fun m hm => absurd hm (by omega))
      rw [hB] at a3 a4
      refine k τ' (y_sm_tr (y_sm_tr hsm (y_sm_e e5 (Or.inr ⟨rfl, by decide⟩))) a1) (by omega) (fun m hm => ?_) (fun m hm => ?_)
      · rw [a3 m (by omega), x_up_nr e5 (by decide)]; exact hv m (by omega)
      · rw [show 1792 + m = 256 * 7 + m by omega, a4 m hm, x_up_nr e5 (by decide)]; exact y_sm_a hsm 140 (by decide) (by decide) _
theorem c_88 {E : q_E} {σ : x_S} {Q : Option q_V → x_S → Prop} (n1 : 0 ≤ σ 138 5) (n2 : σ 138 5 ≤ 8) (kA : σ 138 5 = 8 → ∀ τ, y_sm [142] [5] σ τ → τ 138 5 = 8 → (∀ m : Nat, m < 1792 → τ 142 m = σ 142 (256 + m)) → (∀ m : Nat, m < 256 → τ 142 (1792 + m) = σ 140 m) → Q none τ) (kB : σ 138 5 < 8 → ∀ τ, y_sm [142] [5] σ τ → τ 138 5 = σ 138 5 + 1 → (∀ m : Nat, ¬ (256 * (σ 138 5).toNat ≤ m ∧ m < 256 * (σ 138 5).toNat + 256) → τ 142 m = σ 142 m) → (∀ m : Nat, m < 256 → τ 142 (256 * (σ 138 5).toNat + m) = σ 140 m) → Q none τ) : x_P E 88 [x_R 138] σ Q := by
  refine x_Mt e_88 (h_88 E) (Nat.le_of_ble_eq_true rfl) t_88 rfl ?_
  refine x_blk (b := 0) (a_88 E) rfl ?_
  unfold b_88_0
  refine x_aload rfl ?_
  refine x_getI (r := 138) rfl (by decide) (by decide) (by decide) rfl ?_
  intro g1a g1b
  refine x_push 8 rfl ?_
  refine x_icmp_ne (by omega) (by omega) (by omega) (by omega) (fun z2 => ?_) (fun z2 => ?_)
  · skip
    refine x_push 0 rfl ?_
    refine x_istore ?_
    refine x_fall ?_
    refine x_G_lo (lo' := [(0, x_R 138), (1, x_I 0)]) ⟨rfl, rfl, trivial⟩ ?_
    exact c_88_a (by omega) (kA (by omega)) _ 0 σ (by omega) (by omega) rfl y_sm_rf (by omega) (fun m _ => rfl) (fun m hm => absurd hm (by omega))
  · skip
    refine x_blk (b := 1) (a_88 E) rfl ?_
    unfold b_88_1
    refine x_push 0 rfl ?_
    refine x_istore ?_
    refine x_fall ?_
    refine x_G_lo (lo' := [(0, x_R 138), (1, x_I 0)]) ⟨rfl, rfl, trivial⟩ ?_
    exact c_88_b (by omega) (by omega) (kB (by omega)) _ 0 σ (by omega) (by omega) rfl y_sm_rf rfl (fun m _ => rfl) (fun m hm => absurd hm (by omega))
