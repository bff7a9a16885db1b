theorem c_210 {E : q_E} {σ : x_S} {Q : Option q_V → x_S → Prop} (hR : y_RI σ) (k : y_K Q σ) : x_P E 210 [x_R 138] σ Q := by
  obtain ⟨rl, rp, ru, rb, rk, rc⟩ := id hR
  refine x_Mt e_210 (h_210 E) (Nat.le_of_ble_eq_true rfl) t_210 rfl ?_
  refine x_blk (b := 0) (a_210 E) rfl ?_
  unfold b_210_0
  refine x_aload rfl ?_
  refine x_getI (r := 138) rfl (by decide) (by decide) (by decide) rfl ?_
  intro g1a g1b
  refine x_if_ne (by omega) (by omega) (fun z2 => ?_) (fun z2 => ?_)
  · skip
    refine x_push (-2) rfl ?_
    refine x_iret ?_
    exact k _ _ hR (fun _ _ _ => rfl) rfl (by omega) (by omega)
  · skip
    refine x_blk (b := 1) (a_210 E) rfl ?_
    unfold b_210_1
    refine x_aload rfl ?_
    refine x_dup rfl ?_
    refine x_getI (r := 138) rfl (by decide) (by decide) (by decide) rfl ?_
    intro g3a g3b
    refine x_push 1 rfl ?_
    refine x_isub ?_
    refine x_putI (r := 138) rfl (by decide) (by decide) (by decide) rfl ⟨by decide, rfl⟩ (by omega) (by omega) (fun S4 e4 => ?_)
    have w4 := x_up_at e4
    refine x_push 0 rfl ?_
    refine x_istore ?_
    refine x_fall ?_
    have q0 : S4 138 0 = σ 138 0 := x_up_ne e4 (by decide)
    refine x_G_lo (lo' := [(0, x_R 138), (1, x_I 0)]) ⟨rfl, rfl, trivial⟩ ?_
    refine c_210_a (σ := S4) (by omega) (by omega) (fun τ' a b => ?_) _ 0 S4 (by omega) (by omega) rfl y_sm_rf (fun m hm => absurd hm (by omega))
    have p0 := a 138 0 (by decide) (by decide)
    have p7 := a 138 7 (by decide) (by decide)
    refine x_blk (b := 2) (a_210 E) rfl ?_
    unfold b_210_2
    refine x_aload rfl ?_
    refine x_push 0 rfl ?_
    refine x_putI (r := 138) rfl (by decide) (by decide) (by decide) rfl ⟨by decide, rfl⟩ (by omega) (by omega) (fun T e => ?_)
    have w := x_up_at e
    have t0 : T 138 0 = τ' 138 0 := x_up_ne e (by decide)
    have t7 : T 138 7 = τ' 138 7 := x_up_ne e (by decide)
    refine x_aload rfl ?_
    refine x_getI (r := 138) rfl (by decide) (by decide) (by decide) rfl ?_
    intro g1 g2
    refine x_iret ?_
    refine k _ _ ⟨by omega, ?_, by omega, fun q hq => absurd hq (by omega), by omega, fun q hq => ?_⟩ (fun r q hr => ?_) (by omega) (by omega) (by omega)
    · refine y_PI_ext (fun q hq => ?_) (rc (S4 138 7).toNat (by omega))
      rw [x_up_nr e (by decide), b q (by omega)]; exact (x_up_nr e4 (by decide)).symm
    · refine y_PI_ext (fun m _ => ?_) (rc q (by omega))
      rw [x_up_nr e (by decide), y_sm_a a 143 (by decide) (by decide)]; exact (x_up_nr e4 (by decide)).symm
    · rw [x_up_nr e (by omega), y_sm_out a (by decide) r q hr]; exact x_up_nr e4 (by omega)

