theorem c_209_a {E : q_E} {σ : x_S} {Q : Option q_V → x_S → Prop} (hR : y_RI σ) (h2 : σ 138 7 < 2) (k : y_K Q σ) : ∀ (N : Nat) (i : Int) (τ : x_S), 0 ≤ i → i ≤ 256 → (256 - i).toNat = N → y_sm [143] [] σ τ → (∀ m : Nat, m < 256 * (σ 138 7).toNat → τ 143 m = σ 143 m) → (∀ m : Nat, (m : Int) < i → τ 143 (256 * (σ 138 7).toNat + m) = σ 140 m) → x_G E m_209 Q (t_209 3) [(0, x_R 138), (1, x_I i)] [] τ := by
  intro N
  induction N using Nat.strongRecOn with
  | ind N ih =>
    intro i τ i1 i2 hN hsm hu hv
    obtain ⟨rl, rp, ru, rb, rk, rc⟩ := id hR
    have q0 := hsm 138 0 (by decide) (by decide)
    have q5 := hsm 138 5 (by decide) (by decide)
    have q7 : τ 138 7 = σ 138 7 := hsm 138 7 (by decide) (by decide)
    refine x_blk (b := 3) (a_209 E) rfl ?_
    unfold b_209_3
    refine x_iload rfl ?_
    refine x_push 256 rfl ?_
    refine x_icmp_ge (by omega) (by omega) (by omega) (by omega) (fun z1 => ?_) (fun z1 => ?_)
    · skip
      refine x_aload rfl ?_
      refine x_getR (r := 138) rfl (by decide) (by decide) rfl ?_
      refine x_push 256 rfl ?_
      refine x_aload rfl ?_
      refine x_getI (r := 138) rfl (by decide) (by decide) (by decide) rfl ?_
      intro g2a g2b
      refine x_imul ?_
      refine x_iload rfl ?_
      refine x_iadd ?_
      refine x_aload rfl ?_
      refine x_getR (r := 138) rfl (by decide) (by decide) rfl ?_
      refine x_iload rfl ?_
      refine x_iald (r := 140) (n := 256)  rfl rfl (by decide) (fun _ => rfl) rfl (by omega) (by omega) ?_
      intro g3a g3b
      refine x_ast (r := 143) (n := 512)  rfl rfl (by decide) (fun _ => rfl) rfl (by omega) (by omega) (by omega) (by omega) (fun S4 e4 => ?_)
      have w4 := x_up_at e4
      refine x_iinc 1 rfl rfl ?_
      refine x_goto ?_
      rw [q7] at w4 e4
      refine x_G_lo (lo' := [(0, x_R 138), (1, x_I (i + 1))]) ⟨rfl, rfl, trivial⟩ ?_
      refine ih _ (by omega) (i + 1) S4 (by omega) (by omega) rfl (y_sm_tr hsm (y_sm_e e4 (Or.inl (by decide)))) (fun m h1 => ?_) (fun m hm => ?_)
      · rw [x_up_ne e4 (fun z => absurd z.2 (by omega))]; exact hu m h1
      · by_cases c : m = i.toNat
        · rw [c, ← show (256 * σ 138 7 + i).toNat = 256 * (σ 138 7).toNat + i.toNat by omega, w4]
          exact y_sm_a hsm 140 (by decide) (by decide) _
        · rw [x_up_ne e4 (fun z => absurd z.2 (by omega))]; exact hv m (by omega)
    · skip
      refine x_blk (b := 2) (a_209 E) rfl ?_
      unfold b_209_2
      refine x_aload rfl ?_
      refine x_dup rfl ?_
      refine x_getI (r := 138) rfl (by decide) (by decide) (by decide) rfl ?_
      intro g5a g5b
      refine x_push 1 rfl ?_
      refine x_iadd ?_
      refine x_putI (r := 138) rfl (by decide) (by decide) (by decide) rfl ⟨by decide, rfl⟩ (by omega) (by omega) (fun S6 e6 => ?_)
      have w6 := x_up_at e6
      refine x_aload rfl ?_
      refine x_getI (r := 138) rfl (by decide) (by decide) (by decide) rfl ?_
      intro g7a g7b
      refine x_iret ?_
      have t0 : S6 138 0 = τ 138 0 := x_up_ne e6 (by decide)
      have t5 : S6 138 5 = τ 138 5 := x_up_ne e6 (by decide)
      refine k _ _ ⟨by omega, ?_, by omega, fun q hq => ?_, by omega, fun q hq => ?_⟩ (fun r q hr => ?_) (by omega) (by omega) (by omega)
      · refine y_PI_ext (fun q hq => ?_) rp
        rw [x_up_nr e6 (by decide)]; exact (y_sm_a hsm 140 (by decide) (by decide) _).symm
      · refine y_PI_ext (fun m _ => ?_) (rb q (by omega))
        rw [x_up_nr e6 (by decide)]; exact (y_sm_a hsm 142 (by decide) (by decide) _).symm
      · by_cases c : q = (σ 138 7).toNat
        · refine y_PI_ext (fun m hm => ?_) rp
          rw [x_up_nr e6 (by decide), c]; exact (hv m (by omega)).symm
        · refine y_PI_ext (fun m hm => ?_) (rc q (by omega))
          rw [x_up_nr e6 (by decide)]; exact (hu _ (by omega)).symm
      · rw [x_up_nr e6 (by omega)]; exact y_sm_out hsm (by decide) r q hr
theorem c_209 {E : q_E} {σ : x_S} {Q : Option q_V → x_S → Prop} (hR : y_RI σ) (k : y_K Q σ) : x_P E 209 [x_R 138] σ Q := by
  obtain ⟨rl, rp, ru, rb, rk, rc⟩ := id hR
  refine x_Mt e_209 (h_209 E) (Nat.le_of_ble_eq_true rfl) t_209 rfl ?_
  refine x_blk (b := 0) (a_209 E) rfl ?_
  unfold b_209_0
  refine x_aload rfl ?_
  refine x_getI (r := 138) rfl (by decide) (by decide) (by decide) rfl ?_
  intro g1a g1b
  refine x_push 2 rfl ?_
  refine x_icmp_ne (by omega) (by omega) (by omega) (by omega) (fun z2 => ?_) (fun z2 => ?_)
  · skip
    refine x_push (-3) rfl ?_
    refine x_iret ?_
    exact k _ _ hR (fun _ _ _ => rfl) rfl (by omega) (by omega)
  · skip
    refine x_blk (b := 1) (a_209 E) rfl ?_
    unfold b_209_1
    refine x_push 0 rfl ?_
    refine x_istore ?_
    refine x_fall ?_
    refine x_G_lo (lo' := [(0, x_R 138), (1, x_I 0)]) ⟨rfl, rfl, trivial⟩ ?_
    exact c_209_a hR (by omega) k _ 0 σ (by omega) (by omega) rfl y_sm_rf (fun m _ => rfl) (fun m hm => absurd hm (by omega))

