theorem sf_52_11 {E : q_E} {σ : x_S} {Q : Option q_V → x_S → Prop} (C0 : y_CI σ) (k : ∀ τ, y_CI τ → y_fq 11 16 σ τ → Q none τ) : x_P E 52 [x_R 11] σ Q := by
  refine x_Mt e_52 (h_52 E) (Nat.le_of_ble_eq_true rfl) t_52 rfl ?_
  refine x_blk (b := 0) (a_52 E) rfl ?_
  unfold b_52_0
  refine x_aload rfl ?_
  refine x_getR (r := 11) rfl (by decide) (by decide) rfl ?_
  refine x_push 0 rfl ?_
  refine x_cS (fun _ => rfl) (Nat.le_of_ble_eq_true rfl) ?_
  refine sf_27_12 (by omega) (by omega) C0 (fun S1 C1 f1 => ?_)
  have F1 := y_fq_tr (by decide) (y_fr_rf (lo := 11) (hi := 16)) f1
  refine x_aload rfl ?_
  refine x_getR (r := 11) rfl (by decide) (by decide) rfl ?_
  refine x_push 1 rfl ?_
  refine x_cS (fun _ => rfl) (Nat.le_of_ble_eq_true rfl) ?_
  refine sf_27_13 (by omega) (by omega) C1 (fun S2 C2 f2 => ?_)
  have F2 := y_fq_tr (by decide) F1 f2
  refine x_aload rfl ?_
  refine x_getR (r := 11) rfl (by decide) (by decide) rfl ?_
  refine x_push 0 rfl ?_
  refine x_cS (fun _ => rfl) (Nat.le_of_ble_eq_true rfl) ?_
  refine sf_27_14 (by omega) (by omega) C2 (fun S3 C3 f3 => ?_)
  have F3 := y_fq_tr (by decide) F2 f3
  refine x_aload rfl ?_
  refine x_getR (r := 11) rfl (by decide) (by decide) rfl ?_
  refine x_push 0 rfl ?_
  refine x_cS (fun _ => rfl) (Nat.le_of_ble_eq_true rfl) ?_
  refine sf_27_15 (by omega) (by omega) C3 (fun S4 C4 f4 => ?_)
  have F4 := y_fq_tr (by decide) F3 f4
  refine x_aload rfl ?_
  refine x_push 0 rfl ?_
  refine x_putIG y_f11_6 ⟨by decide, rfl⟩ (by decide) C4 (by decide) F4 (by omega) (by omega) (fun S5 e5 C5 F5 => ?_)
  refine x_vret ?_
  exact k _ C5 F5 
theorem sf_49_1 {E : q_E} {σ : x_S} {Q : Option q_V → x_S → Prop} (C0 : y_CI σ) (k : ∀ τ, y_CI τ → y_fq 1 2 σ τ → Q none τ) : x_P E 49 [x_R 1] σ Q := by
  refine x_Mt e_49 (h_49 E) (Nat.le_of_ble_eq_true rfl) t_49 rfl ?_
  refine x_blk (b := 0) (a_49 E) rfl ?_
  unfold b_49_0
  refine x_aload rfl ?_
  refine x_push 0 rfl ?_
  refine x_putIG y_f1_3 ⟨by decide, rfl⟩ (by decide) C0 (by decide) (y_fr_rf (lo := 1) (hi := 2)) (by omega) (by omega) (fun S1 e1 C1 F1 => ?_)
  refine x_aload rfl ?_
  refine x_push 0 rfl ?_
  refine x_putZG y_f1_4 rfl (by decide) C1 (by decide) F1 (by omega) (fun S2 e2 C2 F2 => ?_)
  refine x_vret ?_
  exact k _ C2 F2 
theorem sf_51_1_11_b3 {E : q_E} {σ : x_S} {Q : Option q_V → x_S → Prop} (C0 : y_CI σ) (k : ∀ τ v, y_CI τ → y_fq 1 18 σ τ → (-4) ≤ v → v ≤ 200 → Q (some (x_I v)) τ) : ∀ (N : Nat) (n : Int) (τ : x_S), (200 - n).toNat = N → 0 ≤ n → n ≤ 200 → y_CI τ → y_fq 1 18 σ τ → x_G E m_51 Q (t_51 3) [(0, x_R 1), (1, x_R 11), (2, x_I n)] [] τ := by
  intro N
  induction N using Nat.strongRecOn with
  | ind N ih =>
    intro n τ hN nL nH C F
    refine x_blk (b := 3) (a_51 E) rfl ?_
    unfold b_51_3
    refine x_iload rfl ?_
    refine x_push 200 rfl ?_
    refine x_icmp_ge (by omega) (by omega) (by omega) (by omega) (fun z1 => ?_) (fun z1 => ?_)
    · skip
      refine x_aload rfl ?_
      refine x_getIG y_f1_3 C ?_
      intro g2a g2b
      refine x_aload rfl ?_
      refine x_getIG y_f1_2 C ?_
      intro g3a g3b
      refine x_icmp_ge (by omega) (by omega) (by omega) (by omega) (fun z4 => ?_) (fun z4 => ?_)
      · skip
        refine x_aload rfl ?_
        refine x_getIG y_f1_3 C ?_
        intro g5a g5b
        refine x_istore ?_
        refine x_aload rfl ?_
        refine x_aload rfl ?_
        refine x_cV (fun _ => rfl) rfl (by decide) (Nat.le_of_ble_eq_true rfl) ?_
        refine sf_14_1_11  C (fun S6 C6 f6 => ?_)
        have F6 := y_fq_tr (by decide) F f6
        refine x_aload rfl ?_
        refine x_push 59 rfl ?_
        refine x_cV (fun _ => rfl) rfl (by decide) (Nat.le_of_ble_eq_true rfl) ?_
        refine sf_9_1 (by omega) (by omega) C6 (fun S7 C7 f7 => ?_)
        have F7 := y_fq_tr (by decide) F6 f7
        refine x_aload rfl ?_
        refine x_getIG y_f1_4 C7 ?_
        intro g8a g8b
        refine x_if_eq (by omega) (by omega) (fun z9 => ?_) (fun z9 => ?_)
        · skip
          refine x_blk (b := 2) (a_51 E) rfl ?_
          unfold b_51_2
          refine x_iinc 1 rfl rfl ?_
          refine x_X_lo (lo' := [(0, x_R 1), (1, x_R 11), (2, x_I _), (3, x_I _)]) ⟨rfl, rfl, rfl, rfl, trivial⟩ ?_
          refine x_goto ?_
          refine x_G_lo (lo' := [(0, x_R 1), (1, x_R 11), (2, x_I _)]) ⟨rfl, rfl, rfl, trivial⟩ ?_
          exact ih _ (by omega) _ _ rfl (by omega) (by omega)  C7 F7
        · skip
          refine x_iload rfl ?_
          refine x_iret ?_
          exact k _ _ C7 F7 (by omega) (by omega) 
      · skip
        refine x_blk (b := 1) (a_51 E) rfl ?_
        unfold b_51_1
        refine x_aload rfl ?_
        refine x_cV (fun _ => rfl) rfl (by decide) (Nat.le_of_ble_eq_true rfl) ?_
        refine sf_48_11  C (fun S10 C10 f10 => ?_)
        have F10 := y_fq_tr (by decide) F f10
        refine x_push (-4) rfl ?_
        refine x_iret ?_
        exact k _ _ C10 F10 (by omega) (by omega) 
    · skip
      refine x_blk (b := 1) (a_51 E) rfl ?_
      unfold b_51_1
      refine x_aload rfl ?_
      refine x_cV (fun _ => rfl) rfl (by decide) (Nat.le_of_ble_eq_true rfl) ?_
      refine sf_48_11  C (fun S11 C11 f11 => ?_)
      have F11 := y_fq_tr (by decide) F f11
      refine x_push (-4) rfl ?_
      refine x_iret ?_
      exact k _ _ C11 F11 (by omega) (by omega) 
theorem sf_51_1_11 {E : q_E} {σ : x_S} {Q : Option q_V → x_S → Prop} (C0 : y_CI σ) (k : ∀ τ v, y_CI τ → y_fq 1 18 σ τ → (-4) ≤ v → v ≤ 200 → Q (some (x_I v)) τ) : x_P E 51 [x_R 1, x_R 11] σ Q := by
  refine x_Mt e_51 (h_51 E) (Nat.le_of_ble_eq_true rfl) t_51 rfl ?_
  refine x_blk (b := 0) (a_51 E) rfl ?_
  unfold b_51_0
  refine x_aload rfl ?_
  refine x_cV (fun _ => rfl) rfl (by decide) (Nat.le_of_ble_eq_true rfl) ?_
  refine sf_52_11  C0 (fun S1 C1 f1 => ?_)
  have F1 := y_fq_tr (by decide) (y_fr_rf (lo := 1) (hi := 18)) f1
  refine x_aload rfl ?_
  refine x_cV (fun _ => rfl) rfl (by decide) (Nat.le_of_ble_eq_true rfl) ?_
  refine sf_49_1  C1 (fun S2 C2 f2 => ?_)
  have F2 := y_fq_tr (by decide) F1 f2
  refine x_push 0 rfl ?_
  refine x_istore ?_
  refine x_fall ?_
  refine x_G_lo (lo' := [(0, x_R 1), (1, x_R 11), (2, x_I _)]) ⟨rfl, rfl, rfl, trivial⟩ ?_
  exact sf_51_1_11_b3 C0 k  _ _ _ rfl (by omega) (by omega)  C2 F2
theorem sf_123_0 {E : q_E} {σ : x_S} {Q : Option q_V → x_S → Prop} (C0 : y_CI σ) (k : ∀ τ v, y_CI τ → y_fq 1 18 σ τ → (-2147483648) ≤ v → v ≤ 2147483647 → Q (some (x_I v)) τ) : x_P E 123 [x_R 0] σ Q := by
  refine x_Mt e_123 (h_123 E) (Nat.le_of_ble_eq_true rfl) t_123 rfl ?_
  refine x_blk (b := 0) (a_123 E) rfl ?_
  unfold b_123_0
  refine x_aload rfl ?_
  refine x_getR (r := 0) rfl (by decide) (by decide) rfl ?_
  refine x_aload rfl ?_
  refine x_getR (r := 0) rfl (by decide) (by decide) rfl ?_
  refine x_cV (fun _ => rfl) rfl (by decide) (Nat.le_of_ble_eq_true rfl) ?_
  refine sf_51_1_11  C0 (fun S1 v1 C1 f1 v1a v1b => ?_)
  have F1 := y_fq_tr (by decide) (y_fr_rf (lo := 1) (hi := 18)) f1
  refine x_iret ?_
  exact k _ _ C1 F1 (by omega) (by omega) 
theorem sf_71_4_11 {E : q_E} {σ : x_S} {Q : Option q_V → x_S → Prop} (C0 : y_CI σ) (k : ∀ τ, y_CI τ → y_fq 4 11 σ τ → Q none τ) : x_P E 71 [x_R 4, x_R 11] σ Q := by
  refine x_Mt e_71 (h_71 E) (Nat.le_of_ble_eq_true rfl) t_71 rfl ?_
  refine x_blk (b := 0) (a_71 E) rfl ?_
  unfold b_71_0
  refine x_aload rfl ?_
  refine x_getR (r := 11) rfl (by decide) (by decide) rfl ?_
  refine x_push 0 rfl ?_
  refine x_aload rfl ?_
  refine x_getR (r := 4) rfl (by decide) (by decide) rfl ?_
  refine x_push 0 rfl ?_
  refine x_push 33 rfl ?_
  refine x_copyG y_a12 y_a5 (by decide) (by decide) C0 (by decide) (y_fr_rf (lo := 4) (hi := 11)) (by omega) (by omega) (by omega) (by omega) (by omega) (Nat.le_of_ble_eq_true rfl) (fun S1 e1 C1 F1 => ?_)
  refine x_aload rfl ?_
  refine x_getR (r := 11) rfl (by decide) (by decide) rfl ?_
  refine x_push 0 rfl ?_
  refine x_aload rfl ?_
  refine x_getR (r := 4) rfl (by decide) (by decide) rfl ?_
  refine x_push 0 rfl ?_
  refine x_push 3 rfl ?_
  refine x_copyG y_a13 y_a6 (by decide) (by decide) C1 (by decide) F1 (by omega) (by omega) (by omega) (by omega) (by omega) (Nat.le_of_ble_eq_true rfl) (fun S2 e2 C2 F2 => ?_)
  refine x_aload rfl ?_
  refine x_getR (r := 11) rfl (by decide) (by decide) rfl ?_
  refine x_push 0 rfl ?_
  refine x_aload rfl ?_
  refine x_getR (r := 4) rfl (by decide) (by decide) rfl ?_
  refine x_push 0 rfl ?_
  refine x_push 2 rfl ?_
  refine x_copyG y_a14 y_a7 (by decide) (by decide) C2 (by decide) F2 (by omega) (by omega) (by omega) (by omega) (by omega) (Nat.le_of_ble_eq_true rfl) (fun S3 e3 C3 F3 => ?_)
  refine x_aload rfl ?_
  refine x_getR (r := 11) rfl (by decide) (by decide) rfl ?_
  refine x_push 0 rfl ?_
  refine x_aload rfl ?_
  refine x_getR (r := 4) rfl (by decide) (by decide) rfl ?_
  refine x_push 0 rfl ?_
  refine x_push 40 rfl ?_
  refine x_copyG y_a15 y_a8 (by decide) (by decide) C3 (by decide) F3 (by omega) (by omega) (by omega) (by omega) (by omega) (Nat.le_of_ble_eq_true rfl) (fun S4 e4 C4 F4 => ?_)
  refine x_aload rfl ?_
  refine x_getR (r := 11) rfl (by decide) (by decide) rfl ?_
  refine x_push 0 rfl ?_
  refine x_aload rfl ?_
  refine x_getR (r := 4) rfl (by decide) (by decide) rfl ?_
  refine x_push 0 rfl ?_
  refine x_push 192 rfl ?_
  refine x_copyG y_a16 y_a9 (by decide) (by decide) C4 (by decide) F4 (by omega) (by omega) (by omega) (by omega) (by omega) (Nat.le_of_ble_eq_true rfl) (fun S5 e5 C5 F5 => ?_)
  refine x_aload rfl ?_
  refine x_getR (r := 11) rfl (by decide) (by decide) rfl ?_
  refine x_push 0 rfl ?_
  refine x_aload rfl ?_
  refine x_getR (r := 4) rfl (by decide) (by decide) rfl ?_
  refine x_push 0 rfl ?_
  refine x_push 90 rfl ?_
  refine x_copyG y_a17 y_a10 (by decide) (by decide) C5 (by decide) F5 (by omega) (by omega) (by omega) (by omega) (by omega) (Nat.le_of_ble_eq_true rfl) (fun S6 e6 C6 F6 => ?_)
  refine x_aload rfl ?_
  refine x_aload rfl ?_
  refine x_fall ?_
  refine x_blk (b := 1) (a_71 E) rfl ?_
  unfold b_71_1
  refine x_getIG y_f11_6 C6 ?_
  have q7_0 : S6 11 6 = S5 11 6 := x_cp_nr e6 (by decide)
  have q7_1 : S5 11 6 = S4 11 6 := x_cp_nr e5 (by decide)
  have q7_2 : S4 11 6 = S3 11 6 := x_cp_nr e4 (by decide)
  have q7_3 : S3 11 6 = S2 11 6 := x_cp_nr e3 (by decide)
  have q7_4 : S2 11 6 = S1 11 6 := x_cp_nr e2 (by decide)
  have q7_5 : S1 11 6 = σ 11 6 := x_cp_nr e1 (by decide)
  simp only [q7_0, q7_1, q7_2, q7_3, q7_4, q7_5]
  intro g7a g7b
  refine x_putIG y_f4_6 ⟨by decide, rfl⟩ (by decide) C6 (by decide) F6 (by omega) (by omega) (fun S8 e8 C8 F8 => ?_)
  refine x_vret ?_
  exact k _ C8 F8 
theorem sf_125_18 {E : q_E} {σ : x_S} {Q : Option q_V → x_S → Prop} (C0 : y_CI σ) (k : ∀ τ, y_CI τ → y_fq 18 19 σ τ → Q none τ) : x_P E 125 [x_R 18] σ Q := by
  refine x_Mt e_125 (h_125 E) (Nat.le_of_ble_eq_true rfl) t_125 rfl ?_
  refine x_blk (b := 0) (a_125 E) rfl ?_
  unfold b_125_0
  refine x_aload rfl ?_
  refine x_push 0 rfl ?_
  refine x_putIG y_f18_2 ⟨by decide, rfl⟩ (by decide) C0 (by decide) (y_fr_rf (lo := 18) (hi := 19)) (by omega) (by omega) (fun S1 e1 C1 F1 => ?_)
  refine x_vret ?_
  exact k _ C1 F1 
theorem sf_125_76 {E : q_E} {σ : x_S} {Q : Option q_V → x_S → Prop} (C0 : y_CI σ) (k : ∀ τ, y_CI τ → y_fq 76 77 σ τ → Q none τ) : x_P E 125 [x_R 76] σ Q := by
  refine x_Mt e_125 (h_125 E) (Nat.le_of_ble_eq_true rfl) t_125 rfl ?_
  refine x_blk (b := 0) (a_125 E) rfl ?_
  unfold b_125_0
  refine x_aload rfl ?_
  refine x_push 0 rfl ?_
  refine x_putIG y_f76_2 ⟨by decide, rfl⟩ (by decide) C0 (by decide) (y_fr_rf (lo := 76) (hi := 77)) (by omega) (by omega) (fun S1 e1 C1 F1 => ?_)
  refine x_vret ?_
  exact k _ C1 F1 
theorem sf_62_111 {E : q_E} {σ : x_S} {Q : Option q_V → x_S → Prop} (C0 : y_CI σ) (k : ∀ τ, y_CI τ → y_fq 111 112 σ τ → Q none τ) : x_P E 62 [x_R 111] σ Q := by
  refine x_Mt e_62 (h_62 E) (Nat.le_of_ble_eq_true rfl) t_62 rfl ?_
  refine x_blk (b := 0) (a_62 E) rfl ?_
  unfold b_62_0
  refine x_aload rfl ?_
  refine x_push 0 rfl ?_
  refine x_putZG y_f111_14 rfl (by decide) C0 (by decide) (y_fr_rf (lo := 111) (hi := 112)) (by omega) (fun S1 e1 C1 F1 => ?_)
  refine x_vret ?_
  exact k _ C1 F1 
theorem sf_62_124 {E : q_E} {σ : x_S} {Q : Option q_V → x_S → Prop} (C0 : y_CI σ) (k : ∀ τ, y_CI τ → y_fq 124 125 σ τ → Q none τ) : x_P E 62 [x_R 124] σ Q := by
  refine x_Mt e_62 (h_62 E) (Nat.le_of_ble_eq_true rfl) t_62 rfl ?_
  refine x_blk (b := 0) (a_62 E) rfl ?_
  unfold b_62_0
  refine x_aload rfl ?_
  refine x_push 0 rfl ?_
  refine x_putZG y_f124_14 rfl (by decide) C0 (by decide) (y_fr_rf (lo := 124) (hi := 125)) (by omega) (fun S1 e1 C1 F1 => ?_)
  refine x_vret ?_
  exact k _ C1 F1 
theorem sf_83_0 {E : q_E} {σ : x_S} {Q : Option q_V → x_S → Prop} (C0 : y_CI σ) (k : ∀ τ, y_CI τ → y_fq 111 125 σ τ → Q none τ) : x_P E 83 [x_R 0] σ Q := by
  refine x_Mt e_83 (h_83 E) (Nat.le_of_ble_eq_true rfl) t_83 rfl ?_
  refine x_blk (b := 0) (a_83 E) rfl ?_
  unfold b_83_0
  refine x_aload rfl ?_
  refine x_getR (r := 0) rfl (by decide) (by decide) rfl ?_
  refine x_cV (fun _ => rfl) rfl (by decide) (Nat.le_of_ble_eq_true rfl) ?_
  refine sf_62_111  C0 (fun S1 C1 f1 => ?_)
  have F1 := y_fq_tr (by decide) (y_fr_rf (lo := 111) (hi := 125)) f1
  refine x_aload rfl ?_
  refine x_getR (r := 0) rfl (by decide) (by decide) rfl ?_
  refine x_cV (fun _ => rfl) rfl (by decide) (Nat.le_of_ble_eq_true rfl) ?_
  refine sf_62_124  C1 (fun S2 C2 f2 => ?_)
  have F2 := y_fq_tr (by decide) F1 f2
  refine x_vret ?_
  exact k _ C2 F2 
theorem sf_124_0 {E : q_E} {σ : x_S} {Q : Option q_V → x_S → Prop} (C0 : y_CI σ) (k : ∀ τ v, y_CI τ → y_fq 1 125 σ τ → (-2147483648) ≤ v → v ≤ 2147483647 → Q (some (x_I v)) τ) : x_P E 124 [x_R 0] σ Q := by
  refine x_Mt e_124 (h_124 E) (Nat.le_of_ble_eq_true rfl) t_124 rfl ?_
  refine x_blk (b := 0) (a_124 E) rfl ?_
  unfold b_124_0
  refine x_aload rfl ?_
  refine x_getR (r := 0) rfl (by decide) (by decide) rfl ?_
  refine x_aload rfl ?_
  refine x_getR (r := 0) rfl (by decide) (by decide) rfl ?_
  refine x_cV (fun _ => rfl) rfl (by decide) (Nat.le_of_ble_eq_true rfl) ?_
  refine sf_51_1_11  C0 (fun S1 v1 C1 f1 v1a v1b => ?_)
  have F1 := y_fq_tr (by decide) (y_fr_rf (lo := 1) (hi := 125)) f1
  refine x_push (-4) rfl ?_
  refine x_icmp_ne (by omega) (by omega) (by omega) (by omega) (fun z2 => ?_) (fun z2 => ?_)
  · skip
    refine x_aload rfl ?_
    refine x_getR (r := 0) rfl (by decide) (by decide) rfl ?_
    refine x_getIG y_f11_6 C1 ?_
    intro g3a g3b
    refine x_if_ne (by omega) (by omega) (fun z4 => ?_) (fun z4 => ?_)
    · skip
      refine x_fall ?_
      refine x_blk (b := 1) (a_124 E) rfl ?_
      unfold b_124_1
      refine x_push (-2) rfl ?_
      refine x_iret ?_
      exact k _ _ C1 F1 (by omega) (by omega) 
    · skip
      refine x_blk (b := 2) (a_124 E) rfl ?_
      unfold b_124_2
      refine x_aload rfl ?_
      refine x_getR (r := 0) rfl (by decide) (by decide) rfl ?_
      refine x_aload rfl ?_
      refine x_getR (r := 0) rfl (by decide) (by decide) rfl ?_
      refine x_cV (fun _ => rfl) rfl (by decide) (Nat.le_of_ble_eq_true rfl) ?_
      refine sf_71_4_11  C1 (fun S5 C5 f5 => ?_)
      have F5 := y_fq_tr (by decide) F1 f5
      refine x_aload rfl ?_
      refine x_getR (r := 0) rfl (by decide) (by decide) rfl ?_
      refine x_cV (fun _ => rfl) rfl (by decide) (Nat.le_of_ble_eq_true rfl) ?_
      refine sf_125_18  C5 (fun S6 C6 f6 => ?_)
      have F6 := y_fq_tr (by decide) F5 f6
      refine x_aload rfl ?_
      refine x_getR (r := 0) rfl (by decide) (by decide) rfl ?_
      refine x_cV (fun _ => rfl) rfl (by decide) (Nat.le_of_ble_eq_true rfl) ?_
      refine sf_125_76  C6 (fun S7 C7 f7 => ?_)
      have F7 := y_fq_tr (by decide) F6 f7
      refine x_aload rfl ?_
      refine x_cV (fun _ => rfl) rfl (by decide) (Nat.le_of_ble_eq_true rfl) ?_
      refine sf_83_0  C7 (fun S8 C8 f8 => ?_)
      have F8 := y_fq_tr (by decide) F7 f8
      refine x_aload rfl ?_
      refine x_getR (r := 0) rfl (by decide) (by decide) rfl ?_
      refine x_getIG y_f4_6 C8 ?_
      intro g9a g9b
      refine x_iret ?_
      exact k _ _ C8 F8 (by omega) (by omega) 
  · skip
    refine x_blk (b := 1) (a_124 E) rfl ?_
    unfold b_124_1
    refine x_push (-2) rfl ?_
    refine x_iret ?_
    exact k _ _ C1 F1 (by omega) (by omega) 
theorem sf_63_4 {E : q_E} {σ : x_S} {Q : Option q_V → x_S → Prop} {a1 : Int} (a1l : (-2147483648) ≤ a1) (a1h : a1 ≤ 2147483647) (C0 : y_CI σ) (k : ∀ v, 0 ≤ v → v ≤ 11 → Q (some (x_I v)) σ) : x_P E 63 [x_R 4, x_I a1] σ Q := by
  refine x_Mt e_63 (h_63 E) (Nat.le_of_ble_eq_true rfl) t_63 rfl ?_
  refine x_blk (b := 0) (a_63 E) rfl ?_
  unfold b_63_0
  refine x_iload rfl ?_
  refine x_push 3 rfl ?_
  refine x_cS (fun _ => rfl) (Nat.le_of_ble_eq_true rfl) ?_
  refine sf_2 (by omega) (by omega) (by omega) (by omega) C0 (fun y1 => ?_) (fun y1 => ?_)
  · skip
    refine x_if_eq (by omega) (by omega) (fun z => absurd z (by omega)) (fun z2 => ?_)
    refine x_aload rfl ?_
    refine x_getR (r := 4) rfl (by decide) (by decide) rfl ?_
    refine x_iload rfl ?_
    refine x_ialdG y_a6 C0 (by omega) (by omega) (fun v3 v3a v3b => ?_)
    refine x_goto ?_
    refine x_blk (b := 2) (a_63 E) rfl ?_
    unfold b_63_2
    refine x_iret ?_
    exact k _ (by omega) (by omega) 
  · skip
    refine x_if_eq (by omega) (by omega) (fun z4 => ?_) (fun z => absurd (by omega) z)
    refine x_blk (b := 1) (a_63 E) rfl ?_
    unfold b_63_1
    refine x_push 0 rfl ?_
    refine x_fall ?_
    refine x_blk (b := 2) (a_63 E) rfl ?_
    unfold b_63_2
    refine x_iret ?_
    exact k _ (by omega) (by omega) 
theorem sf_44_4 {E : q_E} {σ : x_S} {Q : Option q_V → x_S → Prop} {a1 a2 : Int} (a1l : (-2147483648) ≤ a1) (a1h : a1 ≤ 2147483647) (a2l : (-2147483648) ≤ a2) (a2h : a2 ≤ 2147483647) (C0 : y_CI σ) (k1 : 0 ≤ a1 ∧ a1 ≤ 2 ∧ 0 ≤ a2 ∧ a2 ≤ 10 → Q (some (x_I 1)) σ) (k0 : 0 ≤ (0 : Int) → Q (some (x_I 0)) σ) : x_P E 44 [x_R 4, x_I a1, x_I a2] σ Q := by
  refine x_Mt e_44 (h_44 E) (Nat.le_of_ble_eq_true rfl) t_44 rfl ?_
  refine x_blk (b := 0) (a_44 E) rfl ?_
  unfold b_44_0
  refine x_iload rfl ?_
  refine x_push 3 rfl ?_
  refine x_cS (fun _ => rfl) (Nat.le_of_ble_eq_true rfl) ?_
  refine sf_2 (by omega) (by omega) (by omega) (by omega) C0 (fun y1 => ?_) (fun y1 => ?_)
  · skip
    refine x_if_eq (by omega) (by omega) (fun z => absurd z (by omega)) (fun z2 => ?_)
    refine x_iload rfl ?_
    refine x_push 11 rfl ?_
    refine x_cS (fun _ => rfl) (Nat.le_of_ble_eq_true rfl) ?_
    refine sf_2 (by omega) (by omega) (by omega) (by omega) C0 (fun y3 => ?_) (fun y3 => ?_)
    · skip
      refine x_if_eq (by omega) (by omega) (fun z => absurd z (by omega)) (fun z4 => ?_)
      refine x_iload rfl ?_
      refine x_aload rfl ?_
      refine x_getR (r := 4) rfl (by decide) (by decide) rfl ?_
      refine x_iload rfl ?_
      refine x_ialdG y_a6 C0 (by omega) (by omega) (fun v5 v5a v5b => ?_)
      refine x_icmp_ge (by omega) (by omega) (by omega) (by omega) (fun z6 => ?_) (fun z6 => ?_)
      · skip
        refine x_push 1 rfl ?_
        refine x_goto ?_
        refine x_blk (b := 2) (a_44 E) rfl ?_
        unfold b_44_2
        refine x_zret (by decide) ?_
        exact k1 (by omega)
      · skip
        refine x_blk (b := 1) (a_44 E) rfl ?_
        unfold b_44_1
        refine x_push 0 rfl ?_
        refine x_fall ?_
        refine x_blk (b := 2) (a_44 E) rfl ?_
        unfold b_44_2
        refine x_zret (by decide) ?_
        exact k0 (by omega)
    · skip
      refine x_if_eq (by omega) (by omega) (fun z7 => ?_) (fun z => absurd (by omega) z)
      refine x_blk (b := 1) (a_44 E) rfl ?_
      unfold b_44_1
      refine x_push 0 rfl ?_
      refine x_fall ?_
      refine x_blk (b := 2) (a_44 E) rfl ?_
      unfold b_44_2
      refine x_zret (by decide) ?_
      exact k0 (by omega)
  · skip
    refine x_if_eq (by omega) (by omega) (fun z8 => ?_) (fun z => absurd (by omega) z)
    refine x_blk (b := 1) (a_44 E) rfl ?_
    unfold b_44_1
    refine x_push 0 rfl ?_
    refine x_fall ?_
    refine x_blk (b := 2) (a_44 E) rfl ?_
    unfold b_44_2
    refine x_zret (by decide) ?_
    exact k0 (by omega)
theorem sf_47_4 {E : q_E} {σ : x_S} {Q : Option q_V → x_S → Prop} {a1 a2 : Int} (a1l : (-2147483648) ≤ a1) (a1h : a1 ≤ 2147483647) (a2l : (-2147483648) ≤ a2) (a2h : a2 ≤ 2147483647) (C0 : y_CI σ) (k : ∀ v, (-4) ≤ v → v ≤ 15 → Q (some (x_I v)) σ) : x_P E 47 [x_R 4, x_I a1, x_I a2] σ Q := by
  refine x_Mt e_47 (h_47 E) (Nat.le_of_ble_eq_true rfl) t_47 rfl ?_
  refine x_blk (b := 0) (a_47 E) rfl ?_
  unfold b_47_0
  refine x_aload rfl ?_
  refine x_iload rfl ?_
  refine x_iload rfl ?_
  refine x_cV (fun _ => rfl) rfl (by decide) (Nat.le_of_ble_eq_true rfl) ?_
  refine sf_44_4 (by omega) (by omega) (by omega) (by omega) C0 (fun y1 => ?_) (fun y1 => ?_)
  · skip
    refine x_if_eq (by omega) (by omega) (fun z => absurd z (by omega)) (fun z2 => ?_)
    refine x_aload rfl ?_
    refine x_getR (r := 4) rfl (by decide) (by decide) rfl ?_
    refine x_iload rfl ?_
    refine x_push 11 rfl ?_
    refine x_imul ?_
    refine x_iload rfl ?_
    refine x_iadd ?_
    refine x_ialdG y_a5 C0 (by omega) (by omega) (fun v3 v3a v3b => ?_)
    refine x_goto ?_
    refine x_blk (b := 2) (a_47 E) rfl ?_
    unfold b_47_2
    refine x_iret ?_
    exact k _ (by omega) (by omega) 
  · skip
    refine x_if_eq (by omega) (by omega) (fun z4 => ?_) (fun z => absurd (by omega) z)
    refine x_blk (b := 1) (a_47 E) rfl ?_
    unfold b_47_1
    refine x_push (-4) rfl ?_
    refine x_fall ?_
    refine x_blk (b := 2) (a_47 E) rfl ?_
    unfold b_47_2
    refine x_iret ?_
    exact k _ (by omega) (by omega) 
theorem sf_126_0 {E : q_E} {σ : x_S} {Q : Option q_V → x_S → Prop} {a1 a2 : Int} (a1l : (-2147483648) ≤ a1) (a1h : a1 ≤ 2147483647) (a2l : (-2147483648) ≤ a2) (a2h : a2 ≤ 2147483647) (C0 : y_CI σ) (k : ∀ v, (-2147483648) ≤ v → v ≤ 2147483647 → Q (some (x_I v)) σ) : x_P E 126 [x_R 0, x_I a1, x_I a2] σ Q := by
  refine x_Mt e_126 (h_126 E) (Nat.le_of_ble_eq_true rfl) t_126 rfl ?_
  refine x_blk (b := 0) (a_126 E) rfl ?_
  unfold b_126_0
  refine x_iload rfl ?_
  refine x_push 3 rfl ?_
  refine x_cS (fun _ => rfl) (Nat.le_of_ble_eq_true rfl) ?_
  refine sf_2 (by omega) (by omega) (by omega) (by omega) C0 (fun y1 => ?_) (fun y1 => ?_)
  · skip
    refine x_if_eq (by omega) (by omega) (fun z => absurd z (by omega)) (fun z2 => ?_)
    refine x_iload rfl ?_
    refine x_push (-1) rfl ?_
    refine x_icmp_ge (by omega) (by omega) (by omega) (by omega) (fun z3 => ?_) (fun z3 => ?_)
    · skip
      refine x_fall ?_
      refine x_blk (b := 1) (a_126 E) rfl ?_
      unfold b_126_1
      refine x_push (-1) rfl ?_
      refine x_iret ?_
      exact k _ (by omega) (by omega) 
    · skip
      refine x_blk (b := 2) (a_126 E) rfl ?_
      unfold b_126_2
      refine x_iload rfl ?_
      refine x_push (-1) rfl ?_
      refine x_icmp_ne (by omega) (by omega) (by omega) (by omega) (fun z4 => ?_) (fun z4 => ?_)
      · skip
        refine x_aload rfl ?_
        refine x_getR (r := 0) rfl (by decide) (by decide) rfl ?_
        refine x_iload rfl ?_
        refine x_cV (fun _ => rfl) rfl (by decide) (Nat.le_of_ble_eq_true rfl) ?_
        refine sf_63_4 (by omega) (by omega) C0 (fun v5 v5a v5b => ?_)
        refine x_iret ?_
        exact k _ (by omega) (by omega) 
      · skip
        refine x_blk (b := 3) (a_126 E) rfl ?_
        unfold b_126_3
        refine x_aload rfl ?_
        refine x_getR (r := 0) rfl (by decide) (by decide) rfl ?_
        refine x_iload rfl ?_
        refine x_iload rfl ?_
        refine x_cV (fun _ => rfl) rfl (by decide) (Nat.le_of_ble_eq_true rfl) ?_
        refine sf_44_4 (by omega) (by omega) (by omega) (by omega) C0 (fun y6 => ?_) (fun y6 => ?_)
        · skip
          refine x_if_eq (by omega) (by omega) (fun z => absurd z (by omega)) (fun z7 => ?_)
          refine x_aload rfl ?_
          refine x_getR (r := 0) rfl (by decide) (by decide) rfl ?_
          refine x_iload rfl ?_
          refine x_iload rfl ?_
          refine x_cV (fun _ => rfl) rfl (by decide) (Nat.le_of_ble_eq_true rfl) ?_
          refine sf_47_4 (by omega) (by omega) (by omega) (by omega) C0 (fun v8 v8a v8b => ?_)
          refine x_goto ?_
          refine x_blk (b := 5) (a_126 E) rfl ?_
          unfold b_126_5
          refine x_iret ?_
          exact k _ (by omega) (by omega) 
        · skip
          refine x_if_eq (by omega) (by omega) (fun z9 => ?_) (fun z => absurd (by omega) z)
          refine x_blk (b := 4) (a_126 E) rfl ?_
          unfold b_126_4
          refine x_push (-4) rfl ?_
          refine x_fall ?_
          refine x_blk (b := 5) (a_126 E) rfl ?_
          unfold b_126_5
          refine x_iret ?_
          exact k _ (by omega) (by omega) 
  · skip
    refine x_if_eq (by omega) (by omega) (fun z10 => ?_) (fun z => absurd (by omega) z)
    refine x_blk (b := 1) (a_126 E) rfl ?_
    unfold b_126_1
    refine x_push (-1) rfl ?_
    refine x_iret ?_
    exact k _ (by omega) (by omega) 
theorem sf_30_4 {E : q_E} {σ : x_S} {Q : Option q_V → x_S → Prop} {a1 a2 a3 : Int} (a1l : (-2147483648) ≤ a1) (a1h : a1 ≤ 2147483647) (a2l : (-2147483648) ≤ a2) (a2h : a2 ≤ 2147483647) (a3l : (-2147483648) ≤ a3) (a3h : a3 ≤ 2147483647) (C0 : y_CI σ) (k : ∀ v, 0 ≤ v → v ≤ 1 → Q (some (x_I v)) σ) : x_P E 30 [x_R 4, x_I a1, x_I a2, x_I a3] σ Q := by
  refine x_Mt e_30 (h_30 E) (Nat.le_of_ble_eq_true rfl) t_30 rfl ?_
  refine x_blk (b := 0) (a_30 E) rfl ?_
  unfold b_30_0
  refine x_iload rfl ?_
  refine x_push 2 rfl ?_
  refine x_cS (fun _ => rfl) (Nat.le_of_ble_eq_true rfl) ?_
  refine sf_2 (by omega) (by omega) (by omega) (by omega) C0 (fun y1 => ?_) (fun y1 => ?_)
  · skip
    refine x_if_eq (by omega) (by omega) (fun z => absurd z (by omega)) (fun z2 => ?_)
    refine x_iload rfl ?_
    refine x_push 5 rfl ?_
    refine x_cS (fun _ => rfl) (Nat.le_of_ble_eq_true rfl) ?_
    refine sf_2 (by omega) (by omega) (by omega) (by omega) C0 (fun y3 => ?_) (fun y3 => ?_)
    · skip
      refine x_if_eq (by omega) (by omega) (fun z => absurd z (by omega)) (fun z4 => ?_)
      refine x_iload rfl ?_
      refine x_push 4 rfl ?_
      refine x_cS (fun _ => rfl) (Nat.le_of_ble_eq_true rfl) ?_
      refine sf_2 (by omega) (by omega) (by omega) (by omega) C0 (fun y5 => ?_) (fun y5 => ?_)
      · skip
        refine x_if_ne (by omega) (by omega) (fun z => absurd z (by omega)) (fun z6 => ?_)
        refine x_blk (b := 2) (a_30 E) rfl ?_
        unfold b_30_2
        refine x_aload rfl ?_
        refine x_getR (r := 4) rfl (by decide) (by decide) rfl ?_
        refine x_iload rfl ?_
        refine x_push 5 rfl ?_
        refine x_imul ?_
        refine x_iload rfl ?_
        refine x_iadd ?_
        refine x_push 4 rfl ?_
        refine x_imul ?_
        refine x_iload rfl ?_
        refine x_iadd ?_
        refine x_ialdG y_a8 C0 (by omega) (by omega) (fun v7 v7a v7b => ?_)
        refine x_iret ?_
        exact k _ (by omega) (by omega) 
      · skip
        refine x_if_ne (by omega) (by omega) (fun z8 => ?_) (fun z => absurd (by omega) z)
        refine x_fall ?_
        refine x_blk (b := 1) (a_30 E) rfl ?_
        unfold b_30_1
        refine x_push 0 rfl ?_
        refine x_iret ?_
        exact k _ (by omega) (by omega) 
    · skip
      refine x_if_eq (by omega) (by omega) (fun z9 => ?_) (fun z => absurd (by omega) z)
      refine x_blk (b := 1) (a_30 E) rfl ?_
      unfold b_30_1
      refine x_push 0 rfl ?_
      refine x_iret ?_
      exact k _ (by omega) (by omega) 
  · skip
    refine x_if_eq (by omega) (by omega) (fun z10 => ?_) (fun z => absurd (by omega) z)
    refine x_blk (b := 1) (a_30 E) rfl ?_
    unfold b_30_1
    refine x_push 0 rfl ?_
    refine x_iret ?_
    exact k _ (by omega) (by omega) 
theorem sf_73_92_4_b4 {E : q_E} {σ : x_S} {Q : Option q_V → x_S → Prop} {a2 : Int} (a2l : (-2147483648) ≤ a2) (a2h : a2 ≤ 2147483647) (C0 : y_CI σ) (k : ∀ τ, y_CI τ → y_fq 94 96 σ τ → Q none τ) {w : Int} (wL : 0 ≤ w) (wH : w ≤ 39) (ho : ∀ (w' : Int) (τ' : x_S), (w' + 1).toNat < (w + 1).toNat → (-1) ≤ w' → w' ≤ 39 → y_CI τ' → y_fq 94 96 σ τ' → x_G E m_73 Q (t_73 5) [(0, x_R 92), (1, x_R 4), (2, x_I a2), (3, x_I w')] [] τ') : ∀ (N : Nat) (s kq h : Int) (τ : x_S), (2 - h).toNat = N → (-2147483648) ≤ s → s ≤ 2147483647 → (-2147483648) ≤ kq → kq ≤ 2147483647 → 0 ≤ h → h ≤ 2 → y_CI τ → y_fq 94 96 σ τ → x_G E m_73 Q (t_73 4) [(0, x_R 92), (1, x_R 4), (2, x_I a2), (3, x_I w), (4, x_I s), (5, x_I kq), (6, x_I h)] [] τ := by
  intro N
  induction N using Nat.strongRecOn with
  | ind N ih =>
    intro s kq h τ hN sL sH kqL kqH hL hH C F
    refine x_blk (b := 4) (a_73 E) rfl ?_
    unfold b_73_4
    refine x_iload rfl ?_
    refine x_aload rfl ?_
    refine x_getR (r := 92) rfl (by decide) (by decide) rfl ?_
    refine x_iload rfl ?_
    refine x_ialdG y_a93 C (by omega) (by omega) (fun v1 v1a v1b => ?_)
    refine x_cS (fun _ => rfl) (Nat.le_of_ble_eq_true rfl) ?_
    refine sf_7 (by omega) (by omega) C (fun v2 v2a v2b => ?_)
    refine x_icmp_ge (by omega) (by omega) (by omega) (by omega) (fun z3 => ?_) (fun z3 => ?_)
    · skip
      refine x_iload rfl ?_
      refine x_iload rfl ?_
      refine x_iadd ?_
      refine x_wrp (fun v4 v4a v4b => ?_)
      refine x_istore ?_
      refine x_iload rfl ?_
      refine x_aload rfl ?_
      refine x_getIG y_f92_3 C ?_
      intro g5a g5b
      refine x_cS (fun _ => rfl) (Nat.le_of_ble_eq_true rfl) ?_
      refine sf_2 (by omega) (by omega) (by omega) (by omega) C (fun y6 => ?_) (fun y6 => ?_)
      · skip
        refine x_if_eq (by omega) (by omega) (fun z => absurd z (by omega)) (fun z7 => ?_)
        refine x_push 2 rfl ?_
        refine x_iload rfl ?_
        refine x_imul ?_
        refine x_wrp (fun v8 v8a v8b => ?_)
        refine x_aload rfl ?_
        refine x_getR (r := 92) rfl (by decide) (by decide) rfl ?_
        refine x_iload rfl ?_
        refine x_ialdG y_a95 C (by omega) (by omega) (fun v9 v9a v9b => ?_)
        refine x_iadd ?_
        refine x_wrp (fun v10 v10a v10b => ?_)
        refine x_istore ?_
        refine x_X_lo (lo' := [(0, x_R 92), (1, x_R 4), (2, x_I _), (3, x_I _), (4, x_I _), (5, x_I _), (6, x_I _), (7, x_I _)]) ⟨rfl, rfl, rfl, rfl, rfl, rfl, rfl, rfl, trivial⟩ ?_
        refine x_iload rfl ?_
        refine x_aload rfl ?_
        refine x_getR (r := 92) rfl (by decide) (by decide) rfl ?_
        refine x_iload rfl ?_
        refine x_ialdG y_a94 C (by omega) (by omega) (fun v11 v11a v11b => ?_)
        refine x_iadd ?_
        refine x_wrp (fun v12 v12a v12b => ?_)
        refine x_istore ?_
        refine x_fall ?_
        refine x_blk (b := 3) (a_73 E) rfl ?_
        unfold b_73_3
        refine x_iinc 1 rfl rfl ?_
        refine x_X_lo (lo' := [(0, x_R 92), (1, x_R 4), (2, x_I _), (3, x_I _), (4, x_I _), (5, x_I _), (6, x_I _), (7, x_I _)]) ⟨rfl, rfl, rfl, rfl, rfl, rfl, rfl, rfl, trivial⟩ ?_
        refine x_goto ?_
        refine x_G_lo (lo' := [(0, x_R 92), (1, x_R 4), (2, x_I _), (3, x_I _), (4, x_I _), (5, x_I _), (6, x_I _)]) ⟨rfl, rfl, rfl, rfl, rfl, rfl, rfl, trivial⟩ ?_
        exact ih _ (by omega) _ _ _ _ rfl (by omega) (by omega) (by omega) (by omega) (by omega) (by omega)  C F
      · skip
        refine x_if_eq (by omega) (by omega) (fun z13 => ?_) (fun z => absurd (by omega) z)
        refine x_blk (b := 3) (a_73 E) rfl ?_
        unfold b_73_3
        refine x_iinc 1 rfl rfl ?_
        refine x_X_lo (lo' := [(0, x_R 92), (1, x_R 4), (2, x_I _), (3, x_I _), (4, x_I _), (5, x_I _), (6, x_I _), (7, x_I _)]) ⟨rfl, rfl, rfl, rfl, rfl, rfl, rfl, rfl, trivial⟩ ?_
        refine x_goto ?_
        refine x_G_lo (lo' := [(0, x_R 92), (1, x_R 4), (2, x_I _), (3, x_I _), (4, x_I _), (5, x_I _), (6, x_I _)]) ⟨rfl, rfl, rfl, rfl, rfl, rfl, rfl, trivial⟩ ?_
        exact ih _ (by omega) _ _ _ _ rfl (by omega) (by omega) (by omega) (by omega) (by omega) (by omega)  C F
    · skip
      refine x_blk (b := 2) (a_73 E) rfl ?_
      unfold b_73_2
      refine x_aload rfl ?_
      refine x_getR (r := 92) rfl (by decide) (by decide) rfl ?_
      refine x_iload rfl ?_
      refine x_iload rfl ?_
      refine x_astG y_a94 C (by decide) F (by omega) (by omega) (by omega) (by omega) (fun S14 e14 C14 F14 => ?_)
      refine x_aload rfl ?_
      refine x_getR (r := 92) rfl (by decide) (by decide) rfl ?_
      refine x_iload rfl ?_
      refine x_aload rfl ?_
      refine x_iload rfl ?_
      refine x_aload rfl ?_
      refine x_getR (r := 92) rfl (by decide) (by decide) rfl ?_
      refine x_iload rfl ?_
      refine x_ialdG y_a93 C14 (by omega) (by omega) (fun v15 v15a v15b => ?_)
      refine x_iload rfl ?_
      refine x_cV (fun _ => rfl) rfl (by decide) (Nat.le_of_ble_eq_true rfl) ?_
      refine sf_30_4 (by omega) (by omega) (by omega) (by omega) (by omega) (by omega) C14 (fun v16 v16a v16b => ?_)
      refine x_astG y_a95 C14 (by decide) F14 (by omega) (by omega) (by omega) (by omega) (fun S17 e17 C17 F17 => ?_)
      refine x_iinc (-1) rfl rfl ?_
      refine x_goto ?_
      refine x_G_lo (lo' := [(0, x_R 92), (1, x_R 4), (2, x_I _), (3, x_I _)]) ⟨rfl, rfl, rfl, rfl, trivial⟩ ?_
      exact ho _ _ (by omega) (by omega) (by omega)  C17 F17
theorem sf_73_92_4_b5 {E : q_E} {σ : x_S} {Q : Option q_V → x_S → Prop} {a2 : Int} (a2l : (-2147483648) ≤ a2) (a2h : a2 ≤ 2147483647) (C0 : y_CI σ) (k : ∀ τ, y_CI τ → y_fq 94 96 σ τ → Q none τ) : ∀ (N : Nat) (w : Int) (τ : x_S), (w + 1).toNat = N → (-1) ≤ w → w ≤ 39 → y_CI τ → y_fq 94 96 σ τ → x_G E m_73 Q (t_73 5) [(0, x_R 92), (1, x_R 4), (2, x_I a2), (3, x_I w)] [] τ := by
  intro N
  induction N using Nat.strongRecOn with
  | ind N ih =>
    intro w τ hN wL wH C F
    refine x_blk (b := 5) (a_73 E) rfl ?_
    unfold b_73_5
    refine x_iload rfl ?_
    refine x_if_lt (by omega) (by omega) (fun z1 => ?_) (fun z1 => ?_)
    · skip
      refine x_blk (b := 1) (a_73 E) rfl ?_
      unfold b_73_1
      refine x_vret ?_
      exact k _ C F 
    · skip
      refine x_push 1 rfl ?_
      refine x_istore ?_
      refine x_push 0 rfl ?_
      refine x_istore ?_
      refine x_X_lo (lo' := [(0, x_R 92), (1, x_R 4), (2, x_I _), (3, x_I _), (4, x_I _), (5, x_I _)]) ⟨rfl, rfl, rfl, rfl, rfl, rfl, trivial⟩ ?_
      refine x_push 0 rfl ?_
      refine x_istore ?_
      refine x_fall ?_
      refine x_G_lo (lo' := [(0, x_R 92), (1, x_R 4), (2, x_I _), (3, x_I _), (4, x_I _), (5, x_I _), (6, x_I _)]) ⟨rfl, rfl, rfl, rfl, rfl, rfl, rfl, trivial⟩ ?_
      exact sf_73_92_4_b4 a2l a2h C0 k (by omega) (by omega) (fun x0 t z h0 h1 c f => ih _ (by omega) x0 t rfl h0 h1 c f) _ _ _ _ _ rfl (by omega) (by omega) (by omega) (by omega) (by omega) (by omega)  C F
theorem sf_73_92_4 {E : q_E} {σ : x_S} {Q : Option q_V → x_S → Prop} {a2 : Int} (a2l : (-2147483648) ≤ a2) (a2h : a2 ≤ 2147483647) (C0 : y_CI σ) (k : ∀ τ, y_CI τ → y_fq 94 96 σ τ → Q none τ) : x_P E 73 [x_R 92, x_R 4, x_I a2] σ Q := by
  refine x_Mt e_73 (h_73 E) (Nat.le_of_ble_eq_true rfl) t_73 rfl ?_
  refine x_blk (b := 0) (a_73 E) rfl ?_
  unfold b_73_0
  refine x_aload rfl ?_
  refine x_getIG y_f92_3 C0 ?_
  intro g1a g1b
  refine x_push 1 rfl ?_
  refine x_isub ?_
  refine x_istore ?_
  refine x_fall ?_
  refine x_G_lo (lo' := [(0, x_R 92), (1, x_R 4), (2, x_I _), (3, x_I _)]) ⟨rfl, rfl, rfl, rfl, trivial⟩ ?_
  exact sf_73_92_4_b5 a2l a2h C0 k  _ _ _ rfl (by omega) (by omega)  C0 (y_fr_rf (lo := 94) (hi := 96))
theorem sf_72_92_4_b2 {E : q_E} {σ : x_S} {Q : Option q_V → x_S → Prop} {a2 a3 : Int} (a2l : (-2147483648) ≤ a2) (a2h : a2 ≤ 2147483647) (a3l : (-2147483648) ≤ a3) (a3h : a3 ≤ 2147483647) (C0 : y_CI σ) (k : ∀ τ, y_CI τ → y_fq 92 96 σ τ → Q none τ) : ∀ (N : Nat) (w : Int) (τ : x_S), (40 - w).toNat = N → 0 ≤ w → w ≤ 40 → y_CI τ → y_fq 92 96 σ τ → x_G E m_72 Q (t_72 2) [(0, x_R 92), (1, x_R 4), (2, x_I a2), (3, x_I a3), (4, x_I w)] [] τ := by
  intro N
  induction N using Nat.strongRecOn with
  | ind N ih =>
    intro w τ hN wL wH C F
    refine x_blk (b := 2) (a_72 E) rfl ?_
    unfold b_72_2
    refine x_iload rfl ?_
    refine x_aload rfl ?_
    refine x_getIG y_f92_3 C ?_
    intro g1a g1b
    refine x_icmp_ge (by omega) (by omega) (by omega) (by omega) (fun z2 => ?_) (fun z2 => ?_)
    · skip
      refine x_aload rfl ?_
      refine x_getR (r := 92) rfl (by decide) (by decide) rfl ?_
      refine x_iload rfl ?_
      refine x_aload rfl ?_
      refine x_iload rfl ?_
      refine x_iload rfl ?_
      refine x_cV (fun _ => rfl) rfl (by decide) (Nat.le_of_ble_eq_true rfl) ?_
      refine sf_47_4 (by omega) (by omega) (by omega) (by omega) C (fun v3 v3a v3b => ?_)
      refine x_astG y_a93 C (by decide) F (by omega) (by omega) (by omega) (by omega) (fun S4 e4 C4 F4 => ?_)
      refine x_iinc 1 rfl rfl ?_
      refine x_goto ?_
      refine x_G_lo (lo' := [(0, x_R 92), (1, x_R 4), (2, x_I _), (3, x_I _), (4, x_I _)]) ⟨rfl, rfl, rfl, rfl, rfl, trivial⟩ ?_
      exact ih _ (by omega) _ _ rfl (by omega) (by omega)  C4 F4
    · skip
      refine x_blk (b := 1) (a_72 E) rfl ?_
      unfold b_72_1
      refine x_aload rfl ?_
      refine x_aload rfl ?_
      refine x_iload rfl ?_
      refine x_cV (fun _ => rfl) rfl (by decide) (Nat.le_of_ble_eq_true rfl) ?_
      refine sf_73_92_4 (by omega) (by omega) C (fun S5 C5 f5 => ?_)
      have F5 := y_fq_tr (by decide) F f5
      refine x_vret ?_
      exact k _ C5 F5 
theorem sf_72_92_4 {E : q_E} {σ : x_S} {Q : Option q_V → x_S → Prop} {a2 a3 : Int} (a2l : (-2147483648) ≤ a2) (a2h : a2 ≤ 2147483647) (a3l : (-2147483648) ≤ a3) (a3h : a3 ≤ 2147483647) (C0 : y_CI σ) (k : ∀ τ, y_CI τ → y_fq 92 96 σ τ → Q none τ) : x_P E 72 [x_R 92, x_R 4, x_I a2, x_I a3] σ Q := by
  refine x_Mt e_72 (h_72 E) (Nat.le_of_ble_eq_true rfl) t_72 rfl ?_
  refine x_blk (b := 0) (a_72 E) rfl ?_
  unfold b_72_0
  refine x_aload rfl ?_
  refine x_aload rfl ?_
  refine x_iload rfl ?_
  refine x_cV (fun _ => rfl) rfl (by decide) (Nat.le_of_ble_eq_true rfl) ?_
  refine sf_63_4 (by omega) (by omega) C0 (fun v1 v1a v1b => ?_)
  refine x_push 40 rfl ?_
  refine x_min (by omega) (by omega) (by omega) (by omega) (Nat.le_of_ble_eq_true rfl) (fun v2 v2a v2b v2c => ?_)
  refine x_putIG y_f92_3 ⟨by decide, rfl⟩ (by decide) C0 (by decide) (y_fr_rf (lo := 92) (hi := 96)) (by omega) (by omega) (fun S3 e3 C3 F3 => ?_)
  refine x_push 0 rfl ?_
  refine x_istore ?_
  refine x_fall ?_
  refine x_G_lo (lo' := [(0, x_R 92), (1, x_R 4), (2, x_I _), (3, x_I _), (4, x_I _)]) ⟨rfl, rfl, rfl, rfl, rfl, trivial⟩ ?_
  exact sf_72_92_4_b2 a2l a2h a3l a3h C0 k  _ _ _ rfl (by omega) (by omega)  C3 F3
theorem sf_74_92 {E : q_E} {σ : x_S} {Q : Option q_V → x_S → Prop} {a1 : Int} (a1l : (-2147483648) ≤ a1) (a1h : a1 ≤ 2147483647) (C0 : y_CI σ) (k : ∀ v, 0 ≤ v → v ≤ 1 → Q (some (x_I v)) σ) : x_P E 74 [x_R 92, x_I a1] σ Q := by
  refine x_Mt e_74 (h_74 E) (Nat.le_of_ble_eq_true rfl) t_74 rfl ?_
  refine x_blk (b := 0) (a_74 E) rfl ?_
  unfold b_74_0
  refine x_iload rfl ?_
  refine x_aload rfl ?_
  refine x_getIG y_f92_3 C0 ?_
  intro g1a g1b
  refine x_cS (fun _ => rfl) (Nat.le_of_ble_eq_true rfl) ?_
  refine sf_2 (by omega) (by omega) (by omega) (by omega) C0 (fun y2 => ?_) (fun y2 => ?_)
  · skip
    refine x_if_eq (by omega) (by omega) (fun z => absurd z (by omega)) (fun z3 => ?_)
    refine x_aload rfl ?_
    refine x_getR (r := 92) rfl (by decide) (by decide) rfl ?_
    refine x_iload rfl ?_
    refine x_ialdG y_a95 C0 (by omega) (by omega) (fun v4 v4a v4b => ?_)
    refine x_goto ?_
    refine x_blk (b := 2) (a_74 E) rfl ?_
    unfold b_74_2
    refine x_iret ?_
    exact k _ (by omega) (by omega) 
  · skip
    refine x_if_eq (by omega) (by omega) (fun z5 => ?_) (fun z => absurd (by omega) z)
    refine x_blk (b := 1) (a_74 E) rfl ?_
    unfold b_74_1
    refine x_push 0 rfl ?_
    refine x_fall ?_
    refine x_blk (b := 2) (a_74 E) rfl ?_
    unfold b_74_2
    refine x_iret ?_
    exact k _ (by omega) (by omega) 
theorem sf_127_0 {E : q_E} {σ : x_S} {Q : Option q_V → x_S → Prop} {a1 a2 a3 : Int} (a1l : (-2147483648) ≤ a1) (a1h : a1 ≤ 2147483647) (a2l : (-2147483648) ≤ a2) (a2h : a2 ≤ 2147483647) (a3l : (-2147483648) ≤ a3) (a3h : a3 ≤ 2147483647) (C0 : y_CI σ) (k : ∀ τ v, y_CI τ → y_fq 92 96 σ τ → (-2147483648) ≤ v → v ≤ 2147483647 → Q (some (x_I v)) τ) : x_P E 127 [x_R 0, x_I a1, x_I a2, x_I a3] σ Q := by
  refine x_Mt e_127 (h_127 E) (Nat.le_of_ble_eq_true rfl) t_127 rfl ?_
  refine x_blk (b := 0) (a_127 E) rfl ?_
  unfold b_127_0
  refine x_iload rfl ?_
  refine x_push 2 rfl ?_
  refine x_cS (fun _ => rfl) (Nat.le_of_ble_eq_true rfl) ?_
  refine sf_2 (by omega) (by omega) (by omega) (by omega) C0 (fun y1 => ?_) (fun y1 => ?_)
  · skip
    refine x_if_eq (by omega) (by omega) (fun z => absurd z (by omega)) (fun z2 => ?_)
    refine x_aload rfl ?_
    refine x_getR (r := 0) rfl (by decide) (by decide) rfl ?_
    refine x_iload rfl ?_
    refine x_iload rfl ?_
    refine x_cV (fun _ => rfl) rfl (by decide) (Nat.le_of_ble_eq_true rfl) ?_
    refine sf_44_4 (by omega) (by omega) (by omega) (by omega) C0 (fun y3 => ?_) (fun y3 => ?_)
    · skip
      refine x_if_ne (by omega) (by omega) (fun z => absurd z (by omega)) (fun z4 => ?_)
      refine x_blk (b := 2) (a_127 E) rfl ?_
      unfold b_127_2
      refine x_aload rfl ?_
      refine x_getR (r := 0) rfl (by decide) (by decide) rfl ?_
      refine x_aload rfl ?_
      refine x_getR (r := 0) rfl (by decide) (by decide) rfl ?_
      refine x_iload rfl ?_
      refine x_iload rfl ?_
      refine x_cV (fun _ => rfl) rfl (by decide) (Nat.le_of_ble_eq_true rfl) ?_
      refine sf_72_92_4 (by omega) (by omega) (by omega) (by omega) C0 (fun S5 C5 f5 => ?_)
      have F5 := y_fq_tr (by decide) (y_fr_rf (lo := 92) (hi := 96)) f5
      refine x_aload rfl ?_
      refine x_getR (r := 0) rfl (by decide) (by decide) rfl ?_
      refine x_iload rfl ?_
      refine x_cV (fun _ => rfl) rfl (by decide) (Nat.le_of_ble_eq_true rfl) ?_
      refine sf_74_92 (by omega) (by omega) C5 (fun v6 v6a v6b => ?_)
      refine x_iret ?_
      exact k _ _ C5 F5 (by omega) (by omega) 
    · skip
      refine x_if_ne (by omega) (by omega) (fun z7 => ?_) (fun z => absurd (by omega) z)
      refine x_fall ?_
      refine x_blk (b := 1) (a_127 E) rfl ?_
      unfold b_127_1
      refine x_push (-1) rfl ?_
      refine x_iret ?_
      exact k _ _ C0 (y_fr_rf (lo := 92) (hi := 96)) (by omega) (by omega) 
  · skip
    refine x_if_eq (by omega) (by omega) (fun z8 => ?_) (fun z => absurd (by omega) z)
    refine x_blk (b := 1) (a_127 E) rfl ?_
    unfold b_127_1
    refine x_push (-1) rfl ?_
    refine x_iret ?_
    exact k _ _ C0 (y_fr_rf (lo := 92) (hi := 96)) (by omega) (by omega) 
theorem sf_128_0 {E : q_E} {σ : x_S} {Q : Option q_V → x_S → Prop} {a1 a2 a3 : Int} (a1l : (-2147483648) ≤ a1) (a1h : a1 ≤ 2147483647) (a2l : (-2147483648) ≤ a2) (a2h : a2 ≤ 2147483647) (a3l : (-2147483648) ≤ a3) (a3h : a3 ≤ 2147483647) (C0 : y_CI σ) (k : ∀ v, (-2147483648) ≤ v → v ≤ 2147483647 → Q (some (x_I v)) σ) : x_P E 128 [x_R 0, x_I a1, x_I a2, x_I a3] σ Q := by
  refine x_Mt e_128 (h_128 E) (Nat.le_of_ble_eq_true rfl) t_128 rfl ?_
  refine x_blk (b := 0) (a_128 E) rfl ?_
  unfold b_128_0
  refine x_iload rfl ?_
  refine x_iload rfl ?_
  refine x_iload rfl ?_
  refine x_cS (fun _ => rfl) (Nat.le_of_ble_eq_true rfl) ?_
  refine sf_23 (by omega) (by omega) (by omega) (by omega) (by omega) (by omega) C0 (fun y1 => ?_) (fun y1 => ?_)
  · skip
    refine x_if_eq (by omega) (by omega) (fun z => absurd z (by omega)) (fun z2 => ?_)
    refine x_aload rfl ?_
    refine x_getR (r := 0) rfl (by decide) (by decide) rfl ?_
    refine x_iload rfl ?_
    refine x_iload rfl ?_
    refine x_iload rfl ?_
    refine x_cV (fun _ => rfl) rfl (by decide) (Nat.le_of_ble_eq_true rfl) ?_
    refine sf_30_4 (by omega) (by omega) (by omega) (by omega) (by omega) (by omega) C0 (fun v3 v3a v3b => ?_)
    refine x_goto ?_
    refine x_blk (b := 2) (a_128 E) rfl ?_
    unfold b_128_2
    refine x_iret ?_
    exact k _ (by omega) (by omega) 
  · skip
    refine x_if_eq (by omega) (by omega) (fun z4 => ?_) (fun z => absurd (by omega) z)
    refine x_blk (b := 1) (a_128 E) rfl ?_
    unfold b_128_1
    refine x_push (-1) rfl ?_
    refine x_fall ?_
    refine x_blk (b := 2) (a_128 E) rfl ?_
    unfold b_128_2
    refine x_iret ?_
    exact k _ (by omega) (by omega) 
theorem sf_60_4 {E : q_E} {σ : x_S} {Q : Option q_V → x_S → Prop} {a1 : Int} (a1l : (-2147483648) ≤ a1) (a1h : a1 ≤ 2147483647) (C0 : y_CI σ) (k1 : 0 ≤ a1 ∧ a1 ≤ 15 ∧ a1 < σ 4 6 → Q (some (x_I 1)) σ) (k0 : 0 ≤ (0 : Int) → Q (some (x_I 0)) σ) : x_P E 60 [x_R 4, x_I a1] σ Q := by
  refine x_Mt e_60 (h_60 E) (Nat.le_of_ble_eq_true rfl) t_60 rfl ?_
  refine x_blk (b := 0) (a_60 E) rfl ?_
  unfold b_60_0
  refine x_iload rfl ?_
  refine x_push 16 rfl ?_
  refine x_cS (fun _ => rfl) (Nat.le_of_ble_eq_true rfl) ?_
  refine sf_2 (by omega) (by omega) (by omega) (by omega) C0 (fun y1 => ?_) (fun y1 => ?_)
  · skip
    refine x_if_eq (by omega) (by omega) (fun z => absurd z (by omega)) (fun z2 => ?_)
    refine x_iload rfl ?_
    refine x_aload rfl ?_
    refine x_getIG y_f4_6 C0 ?_
    intro g3a g3b
    refine x_icmp_ge (by omega) (by omega) (by omega) (by omega) (fun z4 => ?_) (fun z4 => ?_)
    · skip
      refine x_push 1 rfl ?_
      refine x_goto ?_
      refine x_blk (b := 2) (a_60 E) rfl ?_
      unfold b_60_2
      refine x_zret (by decide) ?_
      exact k1 (by omega)
    · skip
      refine x_blk (b := 1) (a_60 E) rfl ?_
      unfold b_60_1
      refine x_push 0 rfl ?_
      refine x_fall ?_
      refine x_blk (b := 2) (a_60 E) rfl ?_
      unfold b_60_2
      refine x_zret (by decide) ?_
      exact k0 (by omega)
  · skip
    refine x_if_eq (by omega) (by omega) (fun z5 => ?_) (fun z => absurd (by omega) z)
    refine x_blk (b := 1) (a_60 E) rfl ?_
    unfold b_60_1
    refine x_push 0 rfl ?_
    refine x_fall ?_
    refine x_blk (b := 2) (a_60 E) rfl ?_
    unfold b_60_2
    refine x_zret (by decide) ?_
    exact k0 (by omega)
theorem sf_6_4 {E : q_E} {σ : x_S} {Q : Option q_V → x_S → Prop} {a1 a2 : Int} (a1l : (-2147483648) ≤ a1) (a1h : a1 ≤ 2147483647) (a2l : (-2147483648) ≤ a2) (a2h : a2 ≤ 2147483647) (C0 : y_CI σ) (k : ∀ v, 0 ≤ v → v ≤ 15 → Q (some (x_I v)) σ) : x_P E 6 [x_R 4, x_I a1, x_I a2] σ Q := by
  refine x_Mt e_6 (h_6 E) (Nat.le_of_ble_eq_true rfl) t_6 rfl ?_
  refine x_blk (b := 0) (a_6 E) rfl ?_
  unfold b_6_0
  refine x_iload rfl ?_
  refine x_push 16 rfl ?_
  refine x_cS (fun _ => rfl) (Nat.le_of_ble_eq_true rfl) ?_
  refine sf_2 (by omega) (by omega) (by omega) (by omega) C0 (fun y1 => ?_) (fun y1 => ?_)
  · skip
    refine x_if_eq (by omega) (by omega) (fun z => absurd z (by omega)) (fun z2 => ?_)
    refine x_iload rfl ?_
    refine x_push 12 rfl ?_
    refine x_cS (fun _ => rfl) (Nat.le_of_ble_eq_true rfl) ?_
    refine sf_2 (by omega) (by omega) (by omega) (by omega) C0 (fun y3 => ?_) (fun y3 => ?_)
    · skip
      refine x_if_eq (by omega) (by omega) (fun z => absurd z (by omega)) (fun z4 => ?_)
      refine x_aload rfl ?_
      refine x_getR (r := 4) rfl (by decide) (by decide) rfl ?_
      refine x_iload rfl ?_
      refine x_push 12 rfl ?_
      refine x_imul ?_
      refine x_iload rfl ?_
      refine x_iadd ?_
      refine x_ialdG y_a9 C0 (by omega) (by omega) (fun v5 v5a v5b => ?_)
      refine x_goto ?_
      refine x_blk (b := 2) (a_6 E) rfl ?_
      unfold b_6_2
      refine x_iret ?_
      exact k _ (by omega) (by omega) 
    · skip
      refine x_if_eq (by omega) (by omega) (fun z6 => ?_) (fun z => absurd (by omega) z)
      refine x_blk (b := 1) (a_6 E) rfl ?_
      unfold b_6_1
      refine x_push 0 rfl ?_
      refine x_fall ?_
      refine x_blk (b := 2) (a_6 E) rfl ?_
      unfold b_6_2
      refine x_iret ?_
      exact k _ (by omega) (by omega) 
  · skip
    refine x_if_eq (by omega) (by omega) (fun z7 => ?_) (fun z => absurd (by omega) z)
    refine x_blk (b := 1) (a_6 E) rfl ?_
    unfold b_6_1
    refine x_push 0 rfl ?_
    refine x_fall ?_
    refine x_blk (b := 2) (a_6 E) rfl ?_
    unfold b_6_2
    refine x_iret ?_
    exact k _ (by omega) (by omega) 
theorem sf_129_0 {E : q_E} {σ : x_S} {Q : Option q_V → x_S → Prop} {a1 a2 : Int} (a1l : (-2147483648) ≤ a1) (a1h : a1 ≤ 2147483647) (a2l : (-2147483648) ≤ a2) (a2h : a2 ≤ 2147483647) (C0 : y_CI σ) (k : ∀ v, (-2147483648) ≤ v → v ≤ 2147483647 → Q (some (x_I v)) σ) : x_P E 129 [x_R 0, x_I a1, x_I a2] σ Q := by
  refine x_Mt e_129 (h_129 E) (Nat.le_of_ble_eq_true rfl) t_129 rfl ?_
  refine x_blk (b := 0) (a_129 E) rfl ?_
  unfold b_129_0
  refine x_aload rfl ?_
  refine x_getR (r := 0) rfl (by decide) (by decide) rfl ?_
  refine x_iload rfl ?_
  refine x_cV (fun _ => rfl) rfl (by decide) (Nat.le_of_ble_eq_true rfl) ?_
  refine sf_60_4 (by omega) (by omega) C0 (fun y1 => ?_) (fun y1 => ?_)
  · skip
    refine x_if_eq (by omega) (by omega) (fun z => absurd z (by omega)) (fun z2 => ?_)
    refine x_iload rfl ?_
    refine x_push 5 rfl ?_
    refine x_cS (fun _ => rfl) (Nat.le_of_ble_eq_true rfl) ?_
    refine sf_2 (by omega) (by omega) (by omega) (by omega) C0 (fun y3 => ?_) (fun y3 => ?_)
    · skip
      refine x_if_ne (by omega) (by omega) (fun z => absurd z (by omega)) (fun z4 => ?_)
      refine x_blk (b := 2) (a_129 E) rfl ?_
      unfold b_129_2
      refine x_aload rfl ?_
      refine x_getR (r := 0) rfl (by decide) (by decide) rfl ?_
      refine x_iload rfl ?_
      refine x_iload rfl ?_
      refine x_cV (fun _ => rfl) rfl (by decide) (Nat.le_of_ble_eq_true rfl) ?_
      refine sf_6_4 (by omega) (by omega) (by omega) (by omega) C0 (fun v5 v5a v5b => ?_)
      refine x_iret ?_
      exact k _ (by omega) (by omega) 
    · skip
      refine x_if_ne (by omega) (by omega) (fun z6 => ?_) (fun z => absurd (by omega) z)
      refine x_fall ?_
      refine x_blk (b := 1) (a_129 E) rfl ?_
      unfold b_129_1
      refine x_push (-1) rfl ?_
      refine x_iret ?_
      exact k _ (by omega) (by omega) 
  · skip
    refine x_if_eq (by omega) (by omega) (fun z7 => ?_) (fun z => absurd (by omega) z)
    refine x_blk (b := 1) (a_129 E) rfl ?_
    unfold b_129_1
    refine x_push (-1) rfl ?_
    refine x_iret ?_
    exact k _ (by omega) (by omega) 
theorem sf_53_4 {E : q_E} {σ : x_S} {Q : Option q_V → x_S → Prop} {a1 a2 : Int} (a1l : (-2147483648) ≤ a1) (a1h : a1 ≤ 2147483647) (a2l : (-2147483648) ≤ a2) (a2h : a2 ≤ 2147483647) (C0 : y_CI σ) (k : ∀ v, (-4) ≤ v → v ≤ 15 → Q (some (x_I v)) σ) : x_P E 53 [x_R 4, x_I a1, x_I a2] σ Q := by
  refine x_Mt e_53 (h_53 E) (Nat.le_of_ble_eq_true rfl) t_53 rfl ?_
  refine x_blk (b := 0) (a_53 E) rfl ?_
  unfold b_53_0
  refine x_iload rfl ?_
  refine x_push 16 rfl ?_
  refine x_cS (fun _ => rfl) (Nat.le_of_ble_eq_true rfl) ?_
  refine sf_2 (by omega) (by omega) (by omega) (by omega) C0 (fun y1 => ?_) (fun y1 => ?_)
  · skip
    refine x_if_eq (by omega) (by omega) (fun z => absurd z (by omega)) (fun z2 => ?_)
    refine x_iload rfl ?_
    refine x_push 7 rfl ?_
    refine x_cS (fun _ => rfl) (Nat.le_of_ble_eq_true rfl) ?_
    refine sf_2 (by omega) (by omega) (by omega) (by omega) C0 (fun y3 => ?_) (fun y3 => ?_)
    · skip
      refine x_if_ne (by omega) (by omega) (fun z => absurd z (by omega)) (fun z4 => ?_)
      refine x_blk (b := 2) (a_53 E) rfl ?_
      unfold b_53_2
      refine x_iload rfl ?_
      refine x_push 12 rfl ?_
      refine x_imul ?_
      refine x_istore ?_
      refine x_iload rfl ?_
      refine x_aload rfl ?_
      refine x_getR (r := 4) rfl (by decide) (by decide) rfl ?_
      refine x_iload rfl ?_
      refine x_push 4 rfl ?_
      refine x_iadd ?_
      refine x_ialdG y_a9 C0 (by omega) (by omega) (fun v5 v5a v5b => ?_)
      refine x_icmp_ge (by omega) (by omega) (by omega) (by omega) (fun z6 => ?_) (fun z6 => ?_)
      · skip
        refine x_aload rfl ?_
        refine x_getR (r := 4) rfl (by decide) (by decide) rfl ?_
        refine x_iload rfl ?_
        refine x_push 5 rfl ?_
        refine x_iadd ?_
        refine x_iload rfl ?_
        refine x_iadd ?_
        refine x_ialdG y_a9 C0 (by omega) (by omega) (fun v7 v7a v7b => ?_)
        refine x_goto ?_
        refine x_blk (b := 4) (a_53 E) rfl ?_
        unfold b_53_4
        refine x_iret ?_
        exact k _ (by omega) (by omega) 
      · skip
        refine x_blk (b := 3) (a_53 E) rfl ?_
        unfold b_53_3
        refine x_push (-4) rfl ?_
        refine x_fall ?_
        refine x_blk (b := 4) (a_53 E) rfl ?_
        unfold b_53_4
        refine x_iret ?_
        exact k _ (by omega) (by omega) 
    · skip
      refine x_if_ne (by omega) (by omega) (fun z8 => ?_) (fun z => absurd (by omega) z)
      refine x_fall ?_
      refine x_blk (b := 1) (a_53 E) rfl ?_
      unfold b_53_1
      refine x_push (-4) rfl ?_
      refine x_iret ?_
      exact k _ (by omega) (by omega) 
  · skip
    refine x_if_eq (by omega) (by omega) (fun z9 => ?_) (fun z => absurd (by omega) z)
    refine x_blk (b := 1) (a_53 E) rfl ?_
    unfold b_53_1
    refine x_push (-4) rfl ?_
    refine x_iret ?_
    exact k _ (by omega) (by omega) 
theorem sf_130_0 {E : q_E} {σ : x_S} {Q : Option q_V → x_S → Prop} {a1 a2 : Int} (a1l : (-2147483648) ≤ a1) (a1h : a1 ≤ 2147483647) (a2l : (-2147483648) ≤ a2) (a2h : a2 ≤ 2147483647) (C0 : y_CI σ) (k : ∀ v, (-2147483648) ≤ v → v ≤ 2147483647 → Q (some (x_I v)) σ) : x_P E 130 [x_R 0, x_I a1, x_I a2] σ Q := by
  refine x_Mt e_130 (h_130 E) (Nat.le_of_ble_eq_true rfl) t_130 rfl ?_
  refine x_blk (b := 0) (a_130 E) rfl ?_
  unfold b_130_0
  refine x_aload rfl ?_
  refine x_getR (r := 0) rfl (by decide) (by decide) rfl ?_
  refine x_iload rfl ?_
  refine x_cV (fun _ => rfl) rfl (by decide) (Nat.le_of_ble_eq_true rfl) ?_
  refine sf_60_4 (by omega) (by omega) C0 (fun y1 => ?_) (fun y1 => ?_)
  · skip
    refine x_if_eq (by omega) (by omega) (fun z => absurd z (by omega)) (fun z2 => ?_)
    refine x_iload rfl ?_
    refine x_if_ge (by omega) (by omega) (fun z3 => ?_) (fun z3 => ?_)
    · skip
      refine x_fall ?_
      refine x_blk (b := 1) (a_130 E) rfl ?_
      unfold b_130_1
      refine x_push (-1) rfl ?_
      refine x_iret ?_
      exact k _ (by omega) (by omega) 
    · skip
      refine x_blk (b := 2) (a_130 E) rfl ?_
      unfold b_130_2
      refine x_aload rfl ?_
      refine x_getR (r := 0) rfl (by decide) (by decide) rfl ?_
      refine x_iload rfl ?_
      refine x_iload rfl ?_
      refine x_cV (fun _ => rfl) rfl (by decide) (Nat.le_of_ble_eq_true rfl) ?_
      refine sf_53_4 (by omega) (by omega) (by omega) (by omega) C0 (fun v4 v4a v4b => ?_)
      refine x_iret ?_
      exact k _ (by omega) (by omega) 
  · skip
    refine x_if_eq (by omega) (by omega) (fun z5 => ?_) (fun z => absurd (by omega) z)
    refine x_blk (b := 1) (a_130 E) rfl ?_
    unfold b_130_1
    refine x_push (-1) rfl ?_
    refine x_iret ?_
    exact k _ (by omega) (by omega) 
theorem sf_16_1_137_b2 {E : q_E} {σ : x_S} {Q : Option q_V → x_S → Prop} {a2 a3 a4 : Int} (a2l : 0 ≤ a2) (a2h : a2 ≤ 5) (a3l : 7 ≤ a3) (a3h : a3 ≤ 11) (a4l : (-1) ≤ a4) (a4h : a4 ≤ 15) (C0 : y_CI σ) (k : ∀ τ v, y_CI τ → y_fq 1 138 σ τ → 0 ≤ v → v ≤ 11 → Q (some (x_I v)) τ) : ∀ (N : Nat) (p d : Int) (τ : x_S), (11 - p).toNat = N → 0 ≤ p → p ≤ 11 → 0 ≤ d → d ≤ 12 → d ≤ p + 1 → y_CI τ → y_fq 1 138 σ τ → x_G E m_16 Q (t_16 2) [(0, x_R 1), (1, x_R 137), (2, x_I a2), (3, x_I a3), (4, x_I a4), (5, x_I p), (6, x_I d)] [] τ := by
  intro N
  induction N using Nat.strongRecOn with
  | ind N ih =>
    intro p d τ hN pL pH dL dH ex0 C F
    refine x_blk (b := 2) (a_16 E) rfl ?_
    unfold b_16_2
    refine x_iload rfl ?_
    refine x_if_le (by omega) (by omega) (fun z1 => ?_) (fun z1 => ?_)
    · skip
      refine x_blk (b := 1) (a_16 E) rfl ?_
      unfold b_16_1
      refine x_iload rfl ?_
      refine x_iret ?_
      exact k _ _ C F (by omega) (by omega) 
    · skip
      refine x_iload rfl ?_
      refine x_iload rfl ?_
      refine x_icmp_ge (by omega) (by omega) (by omega) (by omega) (fun z2 => ?_) (fun z2 => ?_)
      · skip
        refine x_iload rfl ?_
        refine x_iload rfl ?_
        refine x_iadd ?_
        refine x_aload rfl ?_
        refine x_lenG (n := 12) (L := 12) rfl (by decide) rfl (by decide) rfl ?_
        refine x_icmp_ge (by omega) (by omega) (by omega) (by omega) (fun z3 => ?_) (fun z3 => ?_)
        · skip
          refine x_aload rfl ?_
          refine x_getIG y_f1_4 C ?_
          intro g4a g4b
          refine x_if_ne (by omega) (by omega) (fun z5 => ?_) (fun z5 => ?_)
          · skip
            refine x_aload rfl ?_
            refine x_iload rfl ?_
            refine x_iload rfl ?_
            refine x_iload rfl ?_
            refine x_isub ?_
            refine x_iload rfl ?_
            refine x_isub ?_
            refine x_cV (fun _ => rfl) rfl (by decide) (Nat.le_of_ble_eq_true rfl) ?_
            refine sf_13_1 (by omega) (by omega) (by omega) (by omega) C (fun S6 v6 C6 f6 v6a v6b => ?_)
            have F6 := y_fq_tr (by decide) F f6
            refine x_istore ?_
            refine x_aload rfl ?_
            refine x_iload rfl ?_
            refine x_iload rfl ?_
            refine x_iadd ?_
            refine x_iload rfl ?_
            refine x_astG y_a137 C6 (by decide) F6 (by omega) (by omega) (by omega) (by omega) (fun S7 e7 C7 F7 => ?_)
            refine x_iload rfl ?_
            refine x_iload rfl ?_
            refine x_cS (fun _ => rfl) (Nat.le_of_ble_eq_true rfl) ?_
            refine sf_7 (by omega) (by omega) C7 (fun v8 v8a v8b => ?_)
            refine x_push 1 rfl ?_
            refine x_isub ?_
            refine x_iadd ?_
            refine x_istore ?_
            refine x_X_lo (lo' := [(0, x_R 1), (1, x_R 137), (2, x_I _), (3, x_I _), (4, x_I _), (5, x_I _), (6, x_I _), (7, x_I _)]) ⟨rfl, rfl, rfl, rfl, rfl, rfl, rfl, rfl, trivial⟩ ?_
            refine x_iinc 1 rfl rfl ?_
            refine x_goto ?_
            refine x_G_lo (lo' := [(0, x_R 1), (1, x_R 137), (2, x_I _), (3, x_I _), (4, x_I _), (5, x_I _), (6, x_I _)]) ⟨rfl, rfl, rfl, rfl, rfl, rfl, rfl, trivial⟩ ?_
            exact ih _ (by omega) _ _ _ rfl (by omega) (by omega) (by omega) (by omega) (by omega) C7 F7
          · skip
            refine x_blk (b := 1) (a_16 E) rfl ?_
            unfold b_16_1
            refine x_iload rfl ?_
            refine x_iret ?_
            exact k _ _ C F (by omega) (by omega) 
        · skip
          refine x_blk (b := 1) (a_16 E) rfl ?_
          unfold b_16_1
          refine x_iload rfl ?_
          refine x_iret ?_
          exact k _ _ C F (by omega) (by omega) 
      · skip
        refine x_blk (b := 1) (a_16 E) rfl ?_
        unfold b_16_1
        refine x_iload rfl ?_
        refine x_iret ?_
        exact k _ _ C F (by omega) (by omega) 
theorem sf_16_1_137 {E : q_E} {σ : x_S} {Q : Option q_V → x_S → Prop} {a2 a3 a4 : Int} (a2l : 0 ≤ a2) (a2h : a2 ≤ 5) (a3l : 7 ≤ a3) (a3h : a3 ≤ 11) (a4l : (-1) ≤ a4) (a4h : a4 ≤ 15) (C0 : y_CI σ) (k : ∀ τ v, y_CI τ → y_fq 1 138 σ τ → 0 ≤ v → v ≤ 11 → Q (some (x_I v)) τ) : x_P E 16 [x_R 1, x_R 137, x_I a2, x_I a3, x_I a4] σ Q := by
  refine x_Mt e_16 (h_16 E) (Nat.le_of_ble_eq_true rfl) t_16 rfl ?_
  refine x_blk (b := 0) (a_16 E) rfl ?_
  unfold b_16_0
  refine x_push 0 rfl ?_
  refine x_istore ?_
  refine x_push 1 rfl ?_
  refine x_istore ?_
  refine x_X_lo (lo' := [(0, x_R 1), (1, x_R 137), (2, x_I _), (3, x_I _), (4, x_I _), (5, x_I _), (6, x_I _)]) ⟨rfl, rfl, rfl, rfl, rfl, rfl, rfl, trivial⟩ ?_
  refine x_fall ?_
  refine x_G_lo (lo' := [(0, x_R 1), (1, x_R 137), (2, x_I _), (3, x_I _), (4, x_I _), (5, x_I _), (6, x_I _)]) ⟨rfl, rfl, rfl, rfl, rfl, rfl, rfl, trivial⟩ ?_
  exact sf_16_1_137_b2 a2l a2h a3l a3h a4l a4h C0 k  _ _ _ _ rfl (by omega) (by omega) (by omega) (by omega) (by omega) C0 (y_fr_rf (lo := 1) (hi := 138))
theorem sf_19_1_137 {E : q_E} {σ : x_S} {Q : Option q_V → x_S → Prop} (C0 : y_CI σ) (k : ∀ τ, y_CI τ → y_fq 1 138 σ τ → Q none τ) : x_P E 19 [x_R 1, x_R 137] σ Q := by
  refine x_Mt e_19 (h_19 E) (Nat.le_of_ble_eq_true rfl) t_19 rfl ?_
  refine x_blk (b := 0) (a_19 E) rfl ?_
  unfold b_19_0
  refine x_aload rfl ?_
  refine x_lenG (n := 12) (L := 12) rfl (by decide) rfl (by decide) rfl ?_
  refine x_push 12 rfl ?_
  refine x_icmp_ge (by omega) (by omega) (by omega) (by omega) (fun z => absurd z (by omega)) (fun z1 => ?_)
  refine x_blk (b := 1) (a_19 E) rfl ?_
  unfold b_19_1
  refine x_aload rfl ?_
  refine x_push 0 rfl ?_
  refine x_aload rfl ?_
  refine x_push 2 rfl ?_
  refine x_cV (fun _ => rfl) rfl (by decide) (Nat.le_of_ble_eq_true rfl) ?_
  refine sf_8_1 (by omega) (by omega) C0 (fun S2 v2 C2 f2 v2a v2b k2_0 => ?_)
  have F2 := y_fq_tr (by decide) (y_fr_rf (lo := 1) (hi := 138)) f2
  refine x_astG y_a137 C2 (by decide) F2 (by omega) (by omega) (by omega) (by omega) (fun S3 e3 C3 F3 => ?_)
  refine x_aload rfl ?_
  refine x_push 1 rfl ?_
  refine x_aload rfl ?_
  refine x_push 3 rfl ?_
  refine x_cV (fun _ => rfl) rfl (by decide) (Nat.le_of_ble_eq_true rfl) ?_
  refine sf_8_1 (by omega) (by omega) C3 (fun S4 v4 C4 f4 v4a v4b k4_0 => ?_)
  have F4 := y_fq_tr (by decide) F3 f4
  refine x_astG y_a137 C4 (by decide) F4 (by omega) (by omega) (by omega) (by omega) (fun S5 e5 C5 F5 => ?_)
  refine x_aload rfl ?_
  refine x_push 2 rfl ?_
  refine x_aload rfl ?_
  refine x_cV (fun _ => rfl) rfl (by decide) (Nat.le_of_ble_eq_true rfl) ?_
  refine sf_15_1  C5 (fun S6 v6 C6 f6 v6a v6b => ?_)
  have F6 := y_fq_tr (by decide) F5 f6
  refine x_astG y_a137 C6 (by decide) F6 (by omega) (by omega) (by omega) (by omega) (fun S7 e7 C7 F7 => ?_)
  refine x_aload rfl ?_
  refine x_push 3 rfl ?_
  refine x_aload rfl ?_
  refine x_cV (fun _ => rfl) rfl (by decide) (Nat.le_of_ble_eq_true rfl) ?_
  refine sf_20_1  C7 (fun S8 v8 C8 f8 v8a v8b => ?_)
  have F8 := y_fq_tr (by decide) F7 f8
  refine x_astG y_a137 C8 (by decide) F8 (by omega) (by omega) (by omega) (by omega) (fun S9 e9 C9 F9 => ?_)
  refine x_aload rfl ?_
  refine x_push 61 rfl ?_
  refine x_cV (fun _ => rfl) rfl (by decide) (Nat.le_of_ble_eq_true rfl) ?_
  refine sf_9_1 (by omega) (by omega) C9 (fun S10 C10 f10 => ?_)
  have F10 := y_fq_tr (by decide) F9 f10
  refine x_aload rfl ?_
  refine x_push 4 rfl ?_
  refine x_aload rfl ?_
  refine x_aload rfl ?_
  refine x_push 5 rfl ?_
  refine x_push 7 rfl ?_
  refine x_aload rfl ?_
  refine x_push 2 rfl ?_
  refine x_ialdG y_a137 C10 (by omega) (by omega) (fun v11 v11a v11b => ?_)
  refine x_cV (fun _ => rfl) rfl (by decide) (Nat.le_of_ble_eq_true rfl) ?_
  refine sf_16_1_137 (by omega) (by omega) (by omega) (by omega) (by omega) (by omega) C10 (fun S12 v12 C12 f12 v12a v12b => ?_)
  have F12 := y_fq_tr (by decide) F10 f12
  refine x_astG y_a137 C12 (by decide) F12 (by omega) (by omega) (by omega) (by omega) (fun S13 e13 C13 F13 => ?_)
  refine x_vret ?_
  exact k _ C13 F13 
theorem sf_101_1_137 {E : q_E} {σ : x_S} {Q : Option q_V → x_S → Prop} (C0 : y_CI σ) (k : ∀ τ v, y_CI τ → y_fq 1 138 σ τ → (-4) ≤ v → v ≤ 200 → Q (some (x_I v)) τ) : x_P E 101 [x_R 1, x_R 137] σ Q := by
  refine x_Mt e_101 (h_101 E) (Nat.le_of_ble_eq_true rfl) t_101 rfl ?_
  refine x_blk (b := 0) (a_101 E) rfl ?_
  unfold b_101_0
  refine x_aload rfl ?_
  refine x_cV (fun _ => rfl) rfl (by decide) (Nat.le_of_ble_eq_true rfl) ?_
  refine sf_49_1  C0 (fun S1 C1 f1 => ?_)
  have F1 := y_fq_tr (by decide) (y_fr_rf (lo := 1) (hi := 138)) f1
  refine x_aload rfl ?_
  refine x_aload rfl ?_
  refine x_cV (fun _ => rfl) rfl (by decide) (Nat.le_of_ble_eq_true rfl) ?_
  refine sf_19_1_137  C1 (fun S2 C2 f2 => ?_)
  have F2 := y_fq_tr (by decide) F1 f2
  refine x_aload rfl ?_
  refine x_getIG y_f1_4 C2 ?_
  intro g3a g3b
  refine x_if_ne (by omega) (by omega) (fun z4 => ?_) (fun z4 => ?_)
  · skip
    refine x_aload rfl ?_
    refine x_getIG y_f1_3 C2 ?_
    intro g5a g5b
    refine x_aload rfl ?_
    refine x_getIG y_f1_2 C2 ?_
    intro g6a g6b
    refine x_icmp_ge (by omega) (by omega) (by omega) (by omega) (fun z7 => ?_) (fun z7 => ?_)
    · skip
      refine x_fall ?_
      refine x_blk (b := 1) (a_101 E) rfl ?_
      unfold b_101_1
      refine x_aload rfl ?_
      refine x_getIG y_f1_3 C2 ?_
      intro g8a g8b
      refine x_goto ?_
      refine x_blk (b := 3) (a_101 E) rfl ?_
      unfold b_101_3
      refine x_iret ?_
      exact k _ _ C2 F2 (by omega) (by omega) 
    · skip
      refine x_blk (b := 2) (a_101 E) rfl ?_
      unfold b_101_2
      refine x_push (-4) rfl ?_
      refine x_fall ?_
      refine x_blk (b := 3) (a_101 E) rfl ?_
      unfold b_101_3
      refine x_iret ?_
      exact k _ _ C2 F2 (by omega) (by omega) 
  · skip
    refine x_blk (b := 1) (a_101 E) rfl ?_
    unfold b_101_1
    refine x_aload rfl ?_
    refine x_getIG y_f1_3 C2 ?_
    intro g9a g9b
    refine x_goto ?_
    refine x_blk (b := 3) (a_101 E) rfl ?_
    unfold b_101_3
    refine x_iret ?_
    exact k _ _ C2 F2 (by omega) (by omega) 
theorem sf_76_18 {E : q_E} {σ : x_S} {Q : Option q_V → x_S → Prop} {a1 : Int} (a1l : (-1) ≤ a1) (a1h : a1 ≤ 8) (C0 : y_CI σ) (k : ∀ v, (-1) ≤ v → v ≤ 15 → (0 ≤ a1 → a1 ≤ 8 → 0 ≤ v ∧ v ≤ 8 - 1) → Q (some (x_I v)) σ) : x_P E 76 [x_R 18, x_I a1] σ Q := by
  refine x_Mt e_76 (h_76 E) (Nat.le_of_ble_eq_true rfl) t_76 rfl ?_
  refine x_blk (b := 0) (a_76 E) rfl ?_
  unfold b_76_0
  refine x_aload rfl ?_
  refine x_getIG y_f18_1 C0 ?_
  intro g1a g1b
  refine x_iload rfl ?_
  refine x_iadd ?_
  refine x_istore ?_
  refine x_iload rfl ?_
  refine x_aload rfl ?_
  refine x_getR (r := 18) rfl (by decide) (by decide) rfl ?_
  refine x_lenG (n := 8) (L := 8) rfl (by decide) rfl (by decide) rfl ?_
  refine x_icmp_ge (by omega) (by omega) (by omega) (by omega) (fun z2 => ?_) (fun z2 => ?_)
  · skip
    refine x_iload rfl ?_
    refine x_goto ?_
    refine x_blk (b := 2) (a_76 E) rfl ?_
    unfold b_76_2
    refine x_iret ?_
    exact k _ (by omega) (by omega) (by omega)
  · skip
    refine x_blk (b := 1) (a_76 E) rfl ?_
    unfold b_76_1
    refine x_iload rfl ?_
    refine x_aload rfl ?_
    refine x_getR (r := 18) rfl (by decide) (by decide) rfl ?_
    refine x_lenG (n := 8) (L := 8) rfl (by decide) rfl (by decide) rfl ?_
    refine x_isub ?_
    refine x_fall ?_
    refine x_blk (b := 2) (a_76 E) rfl ?_
    unfold b_76_2
    refine x_iret ?_
    exact k _ (by omega) (by omega) (by omega)
theorem sf_71_20_4 {E : q_E} {σ : x_S} {Q : Option q_V → x_S → Prop} (C0 : y_CI σ) (k : ∀ τ, y_CI τ → y_fq 20 27 σ τ → Q none τ) : x_P E 71 [x_R 20, x_R 4] σ Q := by
  refine x_Mt e_71 (h_71 E) (Nat.le_of_ble_eq_true rfl) t_71 rfl ?_
  refine x_blk (b := 0) (a_71 E) rfl ?_
  unfold b_71_0
  refine x_aload rfl ?_
  refine x_getR (r := 4) rfl (by decide) (by decide) rfl ?_
  refine x_push 0 rfl ?_
  refine x_aload rfl ?_
  refine x_getR (r := 20) rfl (by decide) (by decide) rfl ?_
  refine x_push 0 rfl ?_
  refine x_push 33 rfl ?_
  refine x_copyG y_a5 y_a21 (by decide) (by decide) C0 (by decide) (y_fr_rf (lo := 20) (hi := 27)) (by omega) (by omega) (by omega) (by omega) (by omega) (Nat.le_of_ble_eq_true rfl) (fun S1 e1 C1 F1 => ?_)
  refine x_aload rfl ?_
  refine x_getR (r := 4) rfl (by decide) (by decide) rfl ?_
  refine x_push 0 rfl ?_
  refine x_aload rfl ?_
  refine x_getR (r := 20) rfl (by decide) (by decide) rfl ?_
  refine x_push 0 rfl ?_
  refine x_push 3 rfl ?_
  refine x_copyG y_a6 y_a22 (by decide) (by decide) C1 (by decide) F1 (by omega) (by omega) (by omega) (by omega) (by omega) (Nat.le_of_ble_eq_true rfl) (fun S2 e2 C2 F2 => ?_)
  refine x_aload rfl ?_
  refine x_getR (r := 4) rfl (by decide) (by decide) rfl ?_
  refine x_push 0 rfl ?_
  refine x_aload rfl ?_
  refine x_getR (r := 20) rfl (by decide) (by decide) rfl ?_
  refine x_push 0 rfl ?_
  refine x_push 2 rfl ?_
  refine x_copyG y_a7 y_a23 (by decide) (by decide) C2 (by decide) F2 (by omega) (by omega) (by omega) (by omega) (by omega) (Nat.le_of_ble_eq_true rfl) (fun S3 e3 C3 F3 => ?_)
  refine x_aload rfl ?_
  refine x_getR (r := 4) rfl (by decide) (by decide) rfl ?_
  refine x_push 0 rfl ?_
  refine x_aload rfl ?_
  refine x_getR (r := 20) rfl (by decide) (by decide) rfl ?_
  refine x_push 0 rfl ?_
  refine x_push 40 rfl ?_
  refine x_copyG y_a8 y_a24 (by decide) (by decide) C3 (by decide) F3 (by omega) (by omega) (by omega) (by omega) (by omega) (Nat.le_of_ble_eq_true rfl) (fun S4 e4 C4 F4 => ?_)
  refine x_aload rfl ?_
  refine x_getR (r := 4) rfl (by decide) (by decide) rfl ?_
  refine x_push 0 rfl ?_
  refine x_aload rfl ?_
  refine x_getR (r := 20) rfl (by decide) (by decide) rfl ?_
  refine x_push 0 rfl ?_
  refine x_push 192 rfl ?_
  refine x_copyG y_a9 y_a25 (by decide) (by decide) C4 (by decide) F4 (by omega) (by omega) (by omega) (by omega) (by omega) (Nat.le_of_ble_eq_true rfl) (fun S5 e5 C5 F5 => ?_)
  refine x_aload rfl ?_
  refine x_getR (r := 4) rfl (by decide) (by decide) rfl ?_
  refine x_push 0 rfl ?_
  refine x_aload rfl ?_
  refine x_getR (r := 20) rfl (by decide) (by decide) rfl ?_
  refine x_push 0 rfl ?_
  refine x_push 90 rfl ?_
  refine x_copyG y_a10 y_a26 (by decide) (by decide) C5 (by decide) F5 (by omega) (by omega) (by omega) (by omega) (by omega) (Nat.le_of_ble_eq_true rfl) (fun S6 e6 C6 F6 => ?_)
  refine x_aload rfl ?_
  refine x_aload rfl ?_
  refine x_fall ?_
  refine x_blk (b := 1) (a_71 E) rfl ?_
  unfold b_71_1
  refine x_getIG y_f4_6 C6 ?_
  have q7_0 : S6 4 6 = S5 4 6 := x_cp_nr e6 (by decide)
  have q7_1 : S5 4 6 = S4 4 6 := x_cp_nr e5 (by decide)
  have q7_2 : S4 4 6 = S3 4 6 := x_cp_nr e4 (by decide)
  have q7_3 : S3 4 6 = S2 4 6 := x_cp_nr e3 (by decide)
  have q7_4 : S2 4 6 = S1 4 6 := x_cp_nr e2 (by decide)
  have q7_5 : S1 4 6 = σ 4 6 := x_cp_nr e1 (by decide)
  simp only [q7_0, q7_1, q7_2, q7_3, q7_4, q7_5]
  intro g7a g7b
  refine x_putIG y_f20_6 ⟨by decide, rfl⟩ (by decide) C6 (by decide) F6 (by omega) (by omega) (fun S8 e8 C8 F8 => ?_)
  refine x_vret ?_
  exact k _ C8 F8 
theorem sf_71_27_4 {E : q_E} {σ : x_S} {Q : Option q_V → x_S → Prop} (C0 : y_CI σ) (k : ∀ τ, y_CI τ → y_fq 27 34 σ τ → Q none τ) : x_P E 71 [x_R 27, x_R 4] σ Q := by
  refine x_Mt e_71 (h_71 E) (Nat.le_of_ble_eq_true rfl) t_71 rfl ?_
  refine x_blk (b := 0) (a_71 E) rfl ?_
  unfold b_71_0
  refine x_aload rfl ?_
  refine x_getR (r := 4) rfl (by decide) (by decide) rfl ?_
  refine x_push 0 rfl ?_
  refine x_aload rfl ?_
  refine x_getR (r := 27) rfl (by decide) (by decide) rfl ?_
  refine x_push 0 rfl ?_
  refine x_push 33 rfl ?_
  refine x_copyG y_a5 y_a28 (by decide) (by decide) C0 (by decide) (y_fr_rf (lo := 27) (hi := 34)) (by omega) (by omega) (by omega) (by omega) (by omega) (Nat.le_of_ble_eq_true rfl) (fun S1 e1 C1 F1 => ?_)
  refine x_aload rfl ?_
  refine x_getR (r := 4) rfl (by decide) (by decide) rfl ?_
  refine x_push 0 rfl ?_
  refine x_aload rfl ?_
  refine x_getR (r := 27) rfl (by decide) (by decide) rfl ?_
  refine x_push 0 rfl ?_
  refine x_push 3 rfl ?_
  refine x_copyG y_a6 y_a29 (by decide) (by decide) C1 (by decide) F1 (by omega) (by omega) (by omega) (by omega) (by omega) (Nat.le_of_ble_eq_true rfl) (fun S2 e2 C2 F2 => ?_)
  refine x_aload rfl ?_
  refine x_getR (r := 4) rfl (by decide) (by decide) rfl ?_
  refine x_push 0 rfl ?_
  refine x_aload rfl ?_
  refine x_getR (r := 27) rfl (by decide) (by decide) rfl ?_
  refine x_push 0 rfl ?_
  refine x_push 2 rfl ?_
  refine x_copyG y_a7 y_a30 (by decide) (by decide) C2 (by decide) F2 (by omega) (by omega) (by omega) (by omega) (by omega) (Nat.le_of_ble_eq_true rfl) (fun S3 e3 C3 F3 => ?_)
  refine x_aload rfl ?_
  refine x_getR (r := 4) rfl (by decide) (by decide) rfl ?_
  refine x_push 0 rfl ?_
  refine x_aload rfl ?_
  refine x_getR (r := 27) rfl (by decide) (by decide) rfl ?_
  refine x_push 0 rfl ?_
  refine x_push 40 rfl ?_
  refine x_copyG y_a8 y_a31 (by decide) (by decide) C3 (by decide) F3 (by omega) (by omega) (by omega) (by omega) (by omega) (Nat.le_of_ble_eq_true rfl) (fun S4 e4 C4 F4 => ?_)
  refine x_aload rfl ?_
  refine x_getR (r := 4) rfl (by decide) (by decide) rfl ?_
  refine x_push 0 rfl ?_
  refine x_aload rfl ?_
  refine x_getR (r := 27) rfl (by decide) (by decide) rfl ?_
  refine x_push 0 rfl ?_
  refine x_push 192 rfl ?_
  refine x_copyG y_a9 y_a32 (by decide) (by decide) C4 (by decide) F4 (by omega) (by omega) (by omega) (by omega) (by omega) (Nat.le_of_ble_eq_true rfl) (fun S5 e5 C5 F5 => ?_)
  refine x_aload rfl ?_
  refine x_getR (r := 4) rfl (by decide) (by decide) rfl ?_
  refine x_push 0 rfl ?_
  refine x_aload rfl ?_
  refine x_getR (r := 27) rfl (by decide) (by decide) rfl ?_
  refine x_push 0 rfl ?_
  refine x_push 90 rfl ?_
  refine x_copyG y_a10 y_a33 (by decide) (by decide) C5 (by decide) F5 (by omega) (by omega) (by omega) (by omega) (by omega) (Nat.le_of_ble_eq_true rfl) (fun S6 e6 C6 F6 => ?_)
  refine x_aload rfl ?_
  refine x_aload rfl ?_
  refine x_fall ?_
  refine x_blk (b := 1) (a_71 E) rfl ?_
  unfold b_71_1
  refine x_getIG y_f4_6 C6 ?_
  have q7_0 : S6 4 6 = S5 4 6 := x_cp_nr e6 (by decide)
  have q7_1 : S5 4 6 = S4 4 6 := x_cp_nr e5 (by decide)
  have q7_2 : S4 4 6 = S3 4 6 := x_cp_nr e4 (by decide)
  have q7_3 : S3 4 6 = S2 4 6 := x_cp_nr e3 (by decide)
  have q7_4 : S2 4 6 = S1 4 6 := x_cp_nr e2 (by decide)
  have q7_5 : S1 4 6 = σ 4 6 := x_cp_nr e1 (by decide)
  simp only [q7_0, q7_1, q7_2, q7_3, q7_4, q7_5]
  intro g7a g7b
  refine x_putIG y_f27_6 ⟨by decide, rfl⟩ (by decide) C6 (by decide) F6 (by omega) (by omega) (fun S8 e8 C8 F8 => ?_)
  refine x_vret ?_
  exact k _ C8 F8 
theorem sf_71_34_4 {E : q_E} {σ : x_S} {Q : Option q_V → x_S → Prop} (C0 : y_CI σ) (k : ∀ τ, y_CI τ → y_fq 34 41 σ τ → Q none τ) : x_P E 71 [x_R 34, x_R 4] σ Q := by
  refine x_Mt e_71 (h_71 E) (Nat.le_of_ble_eq_true rfl) t_71 rfl ?_
  refine x_blk (b := 0) (a_71 E) rfl ?_
  unfold b_71_0
  refine x_aload rfl ?_
  refine x_getR (r := 4) rfl (by decide) (by decide) rfl ?_
  refine x_push 0 rfl ?_
  refine x_aload rfl ?_
  refine x_getR (r := 34) rfl (by decide) (by decide) rfl ?_
  refine x_push 0 rfl ?_
  refine x_push 33 rfl ?_
  refine x_copyG y_a5 y_a35 (by decide) (by decide) C0 (by decide) (y_fr_rf (lo := 34) (hi := 41)) (by omega) (by omega) (by omega) (by omega) (by omega) (Nat.le_of_ble_eq_true rfl) (fun S1 e1 C1 F1 => ?_)
  refine x_aload rfl ?_
  refine x_getR (r := 4) rfl (by decide) (by decide) rfl ?_
  refine x_push 0 rfl ?_
  refine x_aload rfl ?_
  refine x_getR (r := 34) rfl (by decide) (by decide) rfl ?_
  refine x_push 0 rfl ?_
  refine x_push 3 rfl ?_
  refine x_copyG y_a6 y_a36 (by decide) (by decide) C1 (by decide) F1 (by omega) (by omega) (by omega) (by omega) (by omega) (Nat.le_of_ble_eq_true rfl) (fun S2 e2 C2 F2 => ?_)
  refine x_aload rfl ?_
  refine x_getR (r := 4) rfl (by decide) (by decide) rfl ?_
  refine x_push 0 rfl ?_
  refine x_aload rfl ?_
  refine x_getR (r := 34) rfl (by decide) (by decide) rfl ?_
  refine x_push 0 rfl ?_
  refine x_push 2 rfl ?_
  refine x_copyG y_a7 y_a37 (by decide) (by decide) C2 (by decide) F2 (by omega) (by omega) (by omega) (by omega) (by omega) (Nat.le_of_ble_eq_true rfl) (fun S3 e3 C3 F3 => ?_)
  refine x_aload rfl ?_
  refine x_getR (r := 4) rfl (by decide) (by decide) rfl ?_
  refine x_push 0 rfl ?_
  refine x_aload rfl ?_
  refine x_getR (r := 34) rfl (by decide) (by decide) rfl ?_
  refine x_push 0 rfl ?_
  refine x_push 40 rfl ?_
  refine x_copyG y_a8 y_a38 (by decide) (by decide) C3 (by decide) F3 (by omega) (by omega) (by omega) (by omega) (by omega) (Nat.le_of_ble_eq_true rfl) (fun S4 e4 C4 F4 => ?_)
  refine x_aload rfl ?_
  refine x_getR (r := 4) rfl (by decide) (by decide) rfl ?_
  refine x_push 0 rfl ?_
  refine x_aload rfl ?_
  refine x_getR (r := 34) rfl (by decide) (by decide) rfl ?_
  refine x_push 0 rfl ?_
  refine x_push 192 rfl ?_
  refine x_copyG y_a9 y_a39 (by decide) (by decide) C4 (by decide) F4 (by omega) (by omega) (by omega) (by omega) (by omega) (Nat.le_of_ble_eq_true rfl) (fun S5 e5 C5 F5 => ?_)
  refine x_aload rfl ?_
  refine x_getR (r := 4) rfl (by decide) (by decide) rfl ?_
  refine x_push 0 rfl ?_
  refine x_aload rfl ?_
  refine x_getR (r := 34) rfl (by decide) (by decide) rfl ?_
  refine x_push 0 rfl ?_
  refine x_push 90 rfl ?_
  refine x_copyG y_a10 y_a40 (by decide) (by decide) C5 (by decide) F5 (by omega) (by omega) (by omega) (by omega) (by omega) (Nat.le_of_ble_eq_true rfl) (fun S6 e6 C6 F6 => ?_)
  refine x_aload rfl ?_
  refine x_aload rfl ?_
  refine x_fall ?_
  refine x_blk (b := 1) (a_71 E) rfl ?_
  unfold b_71_1
  refine x_getIG y_f4_6 C6 ?_
  have q7_0 : S6 4 6 = S5 4 6 := x_cp_nr e6 (by decide)
  have q7_1 : S5 4 6 = S4 4 6 := x_cp_nr e5 (by decide)
  have q7_2 : S4 4 6 = S3 4 6 := x_cp_nr e4 (by decide)
  have q7_3 : S3 4 6 = S2 4 6 := x_cp_nr e3 (by decide)
  have q7_4 : S2 4 6 = S1 4 6 := x_cp_nr e2 (by decide)
  have q7_5 : S1 4 6 = σ 4 6 := x_cp_nr e1 (by decide)
  simp only [q7_0, q7_1, q7_2, q7_3, q7_4, q7_5]
  intro g7a g7b
  refine x_putIG y_f34_6 ⟨by decide, rfl⟩ (by decide) C6 (by decide) F6 (by omega) (by omega) (fun S8 e8 C8 F8 => ?_)
  refine x_vret ?_
  exact k _ C8 F8 
theorem sf_71_41_4 {E : q_E} {σ : x_S} {Q : Option q_V → x_S → Prop} (C0 : y_CI σ) (k : ∀ τ, y_CI τ → y_fq 41 48 σ τ → Q none τ) : x_P E 71 [x_R 41, x_R 4] σ Q := by
  refine x_Mt e_71 (h_71 E) (Nat.le_of_ble_eq_true rfl) t_71 rfl ?_
  refine x_blk (b := 0) (a_71 E) rfl ?_
  unfold b_71_0
  refine x_aload rfl ?_
  refine x_getR (r := 4) rfl (by decide) (by decide) rfl ?_
  refine x_push 0 rfl ?_
  refine x_aload rfl ?_
  refine x_getR (r := 41) rfl (by decide) (by decide) rfl ?_
  refine x_push 0 rfl ?_
  refine x_push 33 rfl ?_
  refine x_copyG y_a5 y_a42 (by decide) (by decide) C0 (by decide) (y_fr_rf (lo := 41) (hi := 48)) (by omega) (by omega) (by omega) (by omega) (by omega) (Nat.le_of_ble_eq_true rfl) (fun S1 e1 C1 F1 => ?_)
  refine x_aload rfl ?_
  refine x_getR (r := 4) rfl (by decide) (by decide) rfl ?_
  refine x_push 0 rfl ?_
  refine x_aload rfl ?_
  refine x_getR (r := 41) rfl (by decide) (by decide) rfl ?_
  refine x_push 0 rfl ?_
  refine x_push 3 rfl ?_
  refine x_copyG y_a6 y_a43 (by decide) (by decide) C1 (by decide) F1 (by omega) (by omega) (by omega) (by omega) (by omega) (Nat.le_of_ble_eq_true rfl) (fun S2 e2 C2 F2 => ?_)
  refine x_aload rfl ?_
  refine x_getR (r := 4) rfl (by decide) (by decide) rfl ?_
  refine x_push 0 rfl ?_
  refine x_aload rfl ?_
  refine x_getR (r := 41) rfl (by decide) (by decide) rfl ?_
  refine x_push 0 rfl ?_
  refine x_push 2 rfl ?_
  refine x_copyG y_a7 y_a44 (by decide) (by decide) C2 (by decide) F2 (by omega) (by omega) (by omega) (by omega) (by omega) (Nat.le_of_ble_eq_true rfl) (fun S3 e3 C3 F3 => ?_)
  refine x_aload rfl ?_
  refine x_getR (r := 4) rfl (by decide) (by decide) rfl ?_
  refine x_push 0 rfl ?_
  refine x_aload rfl ?_
  refine x_getR (r := 41) rfl (by decide) (by decide) rfl ?_
  refine x_push 0 rfl ?_
  refine x_push 40 rfl ?_
  refine x_copyG y_a8 y_a45 (by decide) (by decide) C3 (by decide) F3 (by omega) (by omega) (by omega) (by omega) (by omega) (Nat.le_of_ble_eq_true rfl) (fun S4 e4 C4 F4 => ?_)
  refine x_aload rfl ?_
  refine x_getR (r := 4) rfl (by decide) (by decide) rfl ?_
  refine x_push 0 rfl ?_
  refine x_aload rfl ?_
  refine x_getR (r := 41) rfl (by decide) (by decide) rfl ?_
  refine x_push 0 rfl ?_
  refine x_push 192 rfl ?_
  refine x_copyG y_a9 y_a46 (by decide) (by decide) C4 (by decide) F4 (by omega) (by omega) (by omega) (by omega) (by omega) (Nat.le_of_ble_eq_true rfl) (fun S5 e5 C5 F5 => ?_)
  refine x_aload rfl ?_
  refine x_getR (r := 4) rfl (by decide) (by decide) rfl ?_
  refine x_push 0 rfl ?_
  refine x_aload rfl ?_
  refine x_getR (r := 41) rfl (by decide) (by decide) rfl ?_
  refine x_push 0 rfl ?_
  refine x_push 90 rfl ?_
  refine x_copyG y_a10 y_a47 (by decide) (by decide) C5 (by decide) F5 (by omega) (by omega) (by omega) (by omega) (by omega) (Nat.le_of_ble_eq_true rfl) (fun S6 e6 C6 F6 => ?_)
  refine x_aload rfl ?_
  refine x_aload rfl ?_
  refine x_fall ?_
  refine x_blk (b := 1) (a_71 E) rfl ?_
  unfold b_71_1
  refine x_getIG y_f4_6 C6 ?_
  have q7_0 : S6 4 6 = S5 4 6 := x_cp_nr e6 (by decide)
  have q7_1 : S5 4 6 = S4 4 6 := x_cp_nr e5 (by decide)
  have q7_2 : S4 4 6 = S3 4 6 := x_cp_nr e4 (by decide)
  have q7_3 : S3 4 6 = S2 4 6 := x_cp_nr e3 (by decide)
  have q7_4 : S2 4 6 = S1 4 6 := x_cp_nr e2 (by decide)
  have q7_5 : S1 4 6 = σ 4 6 := x_cp_nr e1 (by decide)
  simp only [q7_0, q7_1, q7_2, q7_3, q7_4, q7_5]
  intro g7a g7b
  refine x_putIG y_f41_6 ⟨by decide, rfl⟩ (by decide) C6 (by decide) F6 (by omega) (by omega) (fun S8 e8 C8 F8 => ?_)
  refine x_vret ?_
  exact k _ C8 F8 
theorem sf_71_48_4 {E : q_E} {σ : x_S} {Q : Option q_V → x_S → Prop} (C0 : y_CI σ) (k : ∀ τ, y_CI τ → y_fq 48 55 σ τ → Q none τ) : x_P E 71 [x_R 48, x_R 4] σ Q := by
  refine x_Mt e_71 (h_71 E) (Nat.le_of_ble_eq_true rfl) t_71 rfl ?_
  refine x_blk (b := 0) (a_71 E) rfl ?_
  unfold b_71_0
  refine x_aload rfl ?_
  refine x_getR (r := 4) rfl (by decide) (by decide) rfl ?_
  refine x_push 0 rfl ?_
  refine x_aload rfl ?_
  refine x_getR (r := 48) rfl (by decide) (by decide) rfl ?_
  refine x_push 0 rfl ?_
  refine x_push 33 rfl ?_
  refine x_copyG y_a5 y_a49 (by decide) (by decide) C0 (by decide) (y_fr_rf (lo := 48) (hi := 55)) (by omega) (by omega) (by omega) (by omega) (by omega) (Nat.le_of_ble_eq_true rfl) (fun S1 e1 C1 F1 => ?_)
  refine x_aload rfl ?_
  refine x_getR (r := 4) rfl (by decide) (by decide) rfl ?_
  refine x_push 0 rfl ?_
  refine x_aload rfl ?_
  refine x_getR (r := 48) rfl (by decide) (by decide) rfl ?_
  refine x_push 0 rfl ?_
  refine x_push 3 rfl ?_
  refine x_copyG y_a6 y_a50 (by decide) (by decide) C1 (by decide) F1 (by omega) (by omega) (by omega) (by omega) (by omega) (Nat.le_of_ble_eq_true rfl) (fun S2 e2 C2 F2 => ?_)
  refine x_aload rfl ?_
  refine x_getR (r := 4) rfl (by decide) (by decide) rfl ?_
  refine x_push 0 rfl ?_
  refine x_aload rfl ?_
  refine x_getR (r := 48) rfl (by decide) (by decide) rfl ?_
  refine x_push 0 rfl ?_
  refine x_push 2 rfl ?_
  refine x_copyG y_a7 y_a51 (by decide) (by decide) C2 (by decide) F2 (by omega) (by omega) (by omega) (by omega) (by omega) (Nat.le_of_ble_eq_true rfl) (fun S3 e3 C3 F3 => ?_)
  refine x_aload rfl ?_
  refine x_getR (r := 4) rfl (by decide) (by decide) rfl ?_
  refine x_push 0 rfl ?_
  refine x_aload rfl ?_
  refine x_getR (r := 48) rfl (by decide) (by decide) rfl ?_
  refine x_push 0 rfl ?_
  refine x_push 40 rfl ?_
  refine x_copyG y_a8 y_a52 (by decide) (by decide) C3 (by decide) F3 (by omega) (by omega) (by omega) (by omega) (by omega) (Nat.le_of_ble_eq_true rfl) (fun S4 e4 C4 F4 => ?_)
  refine x_aload rfl ?_
  refine x_getR (r := 4) rfl (by decide) (by decide) rfl ?_
  refine x_push 0 rfl ?_
  refine x_aload rfl ?_
  refine x_getR (r := 48) rfl (by decide) (by decide) rfl ?_
  refine x_push 0 rfl ?_
  refine x_push 192 rfl ?_
  refine x_copyG y_a9 y_a53 (by decide) (by decide) C4 (by decide) F4 (by omega) (by omega) (by omega) (by omega) (by omega) (Nat.le_of_ble_eq_true rfl) (fun S5 e5 C5 F5 => ?_)
  refine x_aload rfl ?_
  refine x_getR (r := 4) rfl (by decide) (by decide) rfl ?_
  refine x_push 0 rfl ?_
  refine x_aload rfl ?_
  refine x_getR (r := 48) rfl (by decide) (by decide) rfl ?_
  refine x_push 0 rfl ?_
  refine x_push 90 rfl ?_
  refine x_copyG y_a10 y_a54 (by decide) (by decide) C5 (by decide) F5 (by omega) (by omega) (by omega) (by omega) (by omega) (Nat.le_of_ble_eq_true rfl) (fun S6 e6 C6 F6 => ?_)
  refine x_aload rfl ?_
  refine x_aload rfl ?_
  refine x_fall ?_
  refine x_blk (b := 1) (a_71 E) rfl ?_
  unfold b_71_1
  refine x_getIG y_f4_6 C6 ?_
  have q7_0 : S6 4 6 = S5 4 6 := x_cp_nr e6 (by decide)
  have q7_1 : S5 4 6 = S4 4 6 := x_cp_nr e5 (by decide)
  have q7_2 : S4 4 6 = S3 4 6 := x_cp_nr e4 (by decide)
  have q7_3 : S3 4 6 = S2 4 6 := x_cp_nr e3 (by decide)
  have q7_4 : S2 4 6 = S1 4 6 := x_cp_nr e2 (by decide)
  have q7_5 : S1 4 6 = σ 4 6 := x_cp_nr e1 (by decide)
  simp only [q7_0, q7_1, q7_2, q7_3, q7_4, q7_5]
  intro g7a g7b
  refine x_putIG y_f48_6 ⟨by decide, rfl⟩ (by decide) C6 (by decide) F6 (by omega) (by omega) (fun S8 e8 C8 F8 => ?_)
  refine x_vret ?_
  exact k _ C8 F8 
theorem sf_71_55_4 {E : q_E} {σ : x_S} {Q : Option q_V → x_S → Prop} (C0 : y_CI σ) (k : ∀ τ, y_CI τ → y_fq 55 62 σ τ → Q none τ) : x_P E 71 [x_R 55, x_R 4] σ Q := by
  refine x_Mt e_71 (h_71 E) (Nat.le_of_ble_eq_true rfl) t_71 rfl ?_
  refine x_blk (b := 0) (a_71 E) rfl ?_
  unfold b_71_0
  refine x_aload rfl ?_
  refine x_getR (r := 4) rfl (by decide) (by decide) rfl ?_
  refine x_push 0 rfl ?_
  refine x_aload rfl ?_
  refine x_getR (r := 55) rfl (by decide) (by decide) rfl ?_
  refine x_push 0 rfl ?_
  refine x_push 33 rfl ?_
  refine x_copyG y_a5 y_a56 (by decide) (by decide) C0 (by decide) (y_fr_rf (lo := 55) (hi := 62)) (by omega) (by omega) (by omega) (by omega) (by omega) (Nat.le_of_ble_eq_true rfl) (fun S1 e1 C1 F1 => ?_)
  refine x_aload rfl ?_
  refine x_getR (r := 4) rfl (by decide) (by decide) rfl ?_
  refine x_push 0 rfl ?_
  refine x_aload rfl ?_
  refine x_getR (r := 55) rfl (by decide) (by decide) rfl ?_
  refine x_push 0 rfl ?_
  refine x_push 3 rfl ?_
  refine x_copyG y_a6 y_a57 (by decide) (by decide) C1 (by decide) F1 (by omega) (by omega) (by omega) (by omega) (by omega) (Nat.le_of_ble_eq_true rfl) (fun S2 e2 C2 F2 => ?_)
  refine x_aload rfl ?_
  refine x_getR (r := 4) rfl (by decide) (by decide) rfl ?_
  refine x_push 0 rfl ?_
  refine x_aload rfl ?_
  refine x_getR (r := 55) rfl (by decide) (by decide) rfl ?_
  refine x_push 0 rfl ?_
  refine x_push 2 rfl ?_
  refine x_copyG y_a7 y_a58 (by decide) (by decide) C2 (by decide) F2 (by omega) (by omega) (by omega) (by omega) (by omega) (Nat.le_of_ble_eq_true rfl) (fun S3 e3 C3 F3 => ?_)
  refine x_aload rfl ?_
  refine x_getR (r := 4) rfl (by decide) (by decide) rfl ?_
  refine x_push 0 rfl ?_
  refine x_aload rfl ?_
  refine x_getR (r := 55) rfl (by decide) (by decide) rfl ?_
  refine x_push 0 rfl ?_
  refine x_push 40 rfl ?_
  refine x_copyG y_a8 y_a59 (by decide) (by decide) C3 (by decide) F3 (by omega) (by omega) (by omega) (by omega) (by omega) (Nat.le_of_ble_eq_true rfl) (fun S4 e4 C4 F4 => ?_)
  refine x_aload rfl ?_
  refine x_getR (r := 4) rfl (by decide) (by decide) rfl ?_
  refine x_push 0 rfl ?_
  refine x_aload rfl ?_
  refine x_getR (r := 55) rfl (by decide) (by decide) rfl ?_
  refine x_push 0 rfl ?_
  refine x_push 192 rfl ?_
  refine x_copyG y_a9 y_a60 (by decide) (by decide) C4 (by decide) F4 (by omega) (by omega) (by omega) (by omega) (by omega) (Nat.le_of_ble_eq_true rfl) (fun S5 e5 C5 F5 => ?_)
  refine x_aload rfl ?_
  refine x_getR (r := 4) rfl (by decide) (by decide) rfl ?_
  refine x_push 0 rfl ?_
  refine x_aload rfl ?_
  refine x_getR (r := 55) rfl (by decide) (by decide) rfl ?_
  refine x_push 0 rfl ?_
  refine x_push 90 rfl ?_
  refine x_copyG y_a10 y_a61 (by decide) (by decide) C5 (by decide) F5 (by omega) (by omega) (by omega) (by omega) (by omega) (Nat.le_of_ble_eq_true rfl) (fun S6 e6 C6 F6 => ?_)
  refine x_aload rfl ?_
  refine x_aload rfl ?_
  refine x_fall ?_
  refine x_blk (b := 1) (a_71 E) rfl ?_
  unfold b_71_1
  refine x_getIG y_f4_6 C6 ?_
  have q7_0 : S6 4 6 = S5 4 6 := x_cp_nr e6 (by decide)
  have q7_1 : S5 4 6 = S4 4 6 := x_cp_nr e5 (by decide)
  have q7_2 : S4 4 6 = S3 4 6 := x_cp_nr e4 (by decide)
  have q7_3 : S3 4 6 = S2 4 6 := x_cp_nr e3 (by decide)
  have q7_4 : S2 4 6 = S1 4 6 := x_cp_nr e2 (by decide)
  have q7_5 : S1 4 6 = σ 4 6 := x_cp_nr e1 (by decide)
  simp only [q7_0, q7_1, q7_2, q7_3, q7_4, q7_5]
  intro g7a g7b
  refine x_putIG y_f55_6 ⟨by decide, rfl⟩ (by decide) C6 (by decide) F6 (by omega) (by omega) (fun S8 e8 C8 F8 => ?_)
  refine x_vret ?_
  exact k _ C8 F8 
theorem sf_71_62_4 {E : q_E} {σ : x_S} {Q : Option q_V → x_S → Prop} (C0 : y_CI σ) (k : ∀ τ, y_CI τ → y_fq 62 69 σ τ → Q none τ) : x_P E 71 [x_R 62, x_R 4] σ Q := by
  refine x_Mt e_71 (h_71 E) (Nat.le_of_ble_eq_true rfl) t_71 rfl ?_
  refine x_blk (b := 0) (a_71 E) rfl ?_
  unfold b_71_0
  refine x_aload rfl ?_
  refine x_getR (r := 4) rfl (by decide) (by decide) rfl ?_
  refine x_push 0 rfl ?_
  refine x_aload rfl ?_
  refine x_getR (r := 62) rfl (by decide) (by decide) rfl ?_
  refine x_push 0 rfl ?_
  refine x_push 33 rfl ?_
  refine x_copyG y_a5 y_a63 (by decide) (by decide) C0 (by decide) (y_fr_rf (lo := 62) (hi := 69)) (by omega) (by omega) (by omega) (by omega) (by omega) (Nat.le_of_ble_eq_true rfl) (fun S1 e1 C1 F1 => ?_)
  refine x_aload rfl ?_
  refine x_getR (r := 4) rfl (by decide) (by decide) rfl ?_
  refine x_push 0 rfl ?_
  refine x_aload rfl ?_
  refine x_getR (r := 62) rfl (by decide) (by decide) rfl ?_
  refine x_push 0 rfl ?_
  refine x_push 3 rfl ?_
  refine x_copyG y_a6 y_a64 (by decide) (by decide) C1 (by decide) F1 (by omega) (by omega) (by omega) (by omega) (by omega) (Nat.le_of_ble_eq_true rfl) (fun S2 e2 C2 F2 => ?_)
  refine x_aload rfl ?_
  refine x_getR (r := 4) rfl (by decide) (by decide) rfl ?_
  refine x_push 0 rfl ?_
  refine x_aload rfl ?_
  refine x_getR (r := 62) rfl (by decide) (by decide) rfl ?_
  refine x_push 0 rfl ?_
  refine x_push 2 rfl ?_
  refine x_copyG y_a7 y_a65 (by decide) (by decide) C2 (by decide) F2 (by omega) (by omega) (by omega) (by omega) (by omega) (Nat.le_of_ble_eq_true rfl) (fun S3 e3 C3 F3 => ?_)
  refine x_aload rfl ?_
  refine x_getR (r := 4) rfl (by decide) (by decide) rfl ?_
  refine x_push 0 rfl ?_
  refine x_aload rfl ?_
  refine x_getR (r := 62) rfl (by decide) (by decide) rfl ?_
  refine x_push 0 rfl ?_
  refine x_push 40 rfl ?_
  refine x_copyG y_a8 y_a66 (by decide) (by decide) C3 (by decide) F3 (by omega) (by omega) (by omega) (by omega) (by omega) (Nat.le_of_ble_eq_true rfl) (fun S4 e4 C4 F4 => ?_)
  refine x_aload rfl ?_
  refine x_getR (r := 4) rfl (by decide) (by decide) rfl ?_
  refine x_push 0 rfl ?_
  refine x_aload rfl ?_
  refine x_getR (r := 62) rfl (by decide) (by decide) rfl ?_
  refine x_push 0 rfl ?_
  refine x_push 192 rfl ?_
  refine x_copyG y_a9 y_a67 (by decide) (by decide) C4 (by decide) F4 (by omega) (by omega) (by omega) (by omega) (by omega) (Nat.le_of_ble_eq_true rfl) (fun S5 e5 C5 F5 => ?_)
  refine x_aload rfl ?_
  refine x_getR (r := 4) rfl (by decide) (by decide) rfl ?_
  refine x_push 0 rfl ?_
  refine x_aload rfl ?_
  refine x_getR (r := 62) rfl (by decide) (by decide) rfl ?_
  refine x_push 0 rfl ?_
  refine x_push 90 rfl ?_
  refine x_copyG y_a10 y_a68 (by decide) (by decide) C5 (by decide) F5 (by omega) (by omega) (by omega) (by omega) (by omega) (Nat.le_of_ble_eq_true rfl) (fun S6 e6 C6 F6 => ?_)
  refine x_aload rfl ?_
  refine x_aload rfl ?_
  refine x_fall ?_
  refine x_blk (b := 1) (a_71 E) rfl ?_
  unfold b_71_1
  refine x_getIG y_f4_6 C6 ?_
  have q7_0 : S6 4 6 = S5 4 6 := x_cp_nr e6 (by decide)
  have q7_1 : S5 4 6 = S4 4 6 := x_cp_nr e5 (by decide)
  have q7_2 : S4 4 6 = S3 4 6 := x_cp_nr e4 (by decide)
  have q7_3 : S3 4 6 = S2 4 6 := x_cp_nr e3 (by decide)
  have q7_4 : S2 4 6 = S1 4 6 := x_cp_nr e2 (by decide)
  have q7_5 : S1 4 6 = σ 4 6 := x_cp_nr e1 (by decide)
  simp only [q7_0, q7_1, q7_2, q7_3, q7_4, q7_5]
  intro g7a g7b
  refine x_putIG y_f62_6 ⟨by decide, rfl⟩ (by decide) C6 (by decide) F6 (by omega) (by omega) (fun S8 e8 C8 F8 => ?_)
  refine x_vret ?_
  exact k _ C8 F8 
