theorem sf_4_1 {E : q_E} {σ : x_S} {Q : Option q_V → x_S → Prop} (C0 : y_CI σ) (k : ∀ v, (-4) ≤ v → v ≤ 65535 → (v = -4 ∨ σ 1 3 < 200) → Q (some (x_I v)) σ) : x_P E 4 [x_R 1] σ Q := by
  refine x_Mt e_4 (h_4 E) (Nat.le_of_ble_eq_true rfl) t_4 rfl ?_
  refine x_blk (b := 0) (a_4 E) rfl ?_
  unfold b_4_0
  refine x_aload rfl ?_
  refine x_getIG y_f1_3 C0 ?_
  intro g1a g1b
  refine x_if_lt (by omega) (by omega) (fun z => absurd z (by omega)) (fun z2 => ?_)
  refine x_aload rfl ?_
  refine x_getIG y_f1_3 C0 ?_
  intro g3a g3b
  refine x_aload rfl ?_
  refine x_getIG y_f1_2 C0 ?_
  intro g4a g4b
  refine x_icmp_ge (by omega) (by omega) (by omega) (by omega) (fun z5 => ?_) (fun z5 => ?_)
  · skip
    refine x_aload rfl ?_
    refine x_getIG y_f1_3 C0 ?_
    intro g6a g6b
    refine x_push 200 rfl ?_
    refine x_icmp_ge (by omega) (by omega) (by omega) (by omega) (fun z7 => ?_) (fun z => absurd (by omega) z)
    refine x_aload rfl ?_
    refine x_getR (r := 1) rfl (by decide) (by decide) rfl ?_
    refine x_aload rfl ?_
    refine x_getIG y_f1_3 C0 ?_
    intro g8a g8b
    refine x_aldC2 C0 (by omega) (by omega) (fun v9 v9a v9b => ?_)
    refine x_goto ?_
    refine x_blk (b := 2) (a_4 E) rfl ?_
    unfold b_4_2
    refine x_iret ?_
    exact k _ (by omega) (by omega) (by omega)
  · skip
    refine x_blk (b := 1) (a_4 E) rfl ?_
    unfold b_4_1
    refine x_push (-4) rfl ?_
    refine x_fall ?_
    refine x_blk (b := 2) (a_4 E) rfl ?_
    unfold b_4_2
    refine x_iret ?_
    exact k _ (by omega) (by omega) (by omega)
theorem sf_2 {E : q_E} {σ : x_S} {Q : Option q_V → x_S → Prop} {a0 a1 : Int} (a0l : (-2147483648) ≤ a0) (a0h : a0 ≤ 2147483647) (a1l : (-2147483648) ≤ a1) (a1h : a1 ≤ 2147483647) (C0 : y_CI σ) (k1 : 0 ≤ a0 ∧ a0 < a1 → Q (some (x_I 1)) σ) (k0 : ¬ (0 ≤ a0 ∧ a0 < a1) → Q (some (x_I 0)) σ) : x_P E 2 [x_I a0, x_I a1] σ Q := by
  refine x_Mt e_2 (h_2 E) (Nat.le_of_ble_eq_true rfl) t_2 rfl ?_
  refine x_blk (b := 0) (a_2 E) rfl ?_
  unfold b_2_0
  refine x_iload rfl ?_
  refine x_if_lt (by omega) (by omega) (fun z1 => ?_) (fun z1 => ?_)
  · skip
    refine x_blk (b := 1) (a_2 E) rfl ?_
    unfold b_2_1
    refine x_push 0 rfl ?_
    refine x_fall ?_
    refine x_blk (b := 2) (a_2 E) rfl ?_
    unfold b_2_2
    refine x_zret (by decide) ?_
    exact k0 (by omega)
  · skip
    refine x_iload rfl ?_
    refine x_iload rfl ?_
    refine x_icmp_ge (by omega) (by omega) (by omega) (by omega) (fun z2 => ?_) (fun z2 => ?_)
    · skip
      refine x_push 1 rfl ?_
      refine x_goto ?_
      refine x_blk (b := 2) (a_2 E) rfl ?_
      unfold b_2_2
      refine x_zret (by decide) ?_
      exact k1 (by omega)
    · skip
      refine x_blk (b := 1) (a_2 E) rfl ?_
      unfold b_2_1
      refine x_push 0 rfl ?_
      refine x_fall ?_
      refine x_blk (b := 2) (a_2 E) rfl ?_
      unfold b_2_2
      refine x_zret (by decide) ?_
      exact k0 (by omega)
theorem sf_8_1 {E : q_E} {σ : x_S} {Q : Option q_V → x_S → Prop} {a1 : Int} (a1l : 1 ≤ a1) (a1h : a1 ≤ 4) (C0 : y_CI σ) (k : ∀ τ v, y_CI τ → y_fq 1 2 σ τ → 0 ≤ v → v ≤ 3 → v < a1 → Q (some (x_I v)) τ) : x_P E 8 [x_R 1, x_I a1] σ Q := by
  refine x_Mt e_8 (h_8 E) (Nat.le_of_ble_eq_true rfl) t_8 rfl ?_
  refine x_blk (b := 0) (a_8 E) rfl ?_
  unfold b_8_0
  refine x_aload rfl ?_
  refine x_cV (fun _ => rfl) rfl (by decide) (Nat.le_of_ble_eq_true rfl) ?_
  refine sf_4_1  C0 (fun v1 v1a v1b k1_0 => ?_)
  refine x_push 48 rfl ?_
  refine x_isub ?_
  refine x_istore ?_
  refine x_aload rfl ?_
  refine x_getIG y_f1_4 C0 ?_
  intro g2a g2b
  refine x_if_ne (by omega) (by omega) (fun z3 => ?_) (fun z3 => ?_)
  · skip
    refine x_iload rfl ?_
    refine x_iload rfl ?_
    refine x_cS (fun _ => rfl) (Nat.le_of_ble_eq_true rfl) ?_
    refine sf_2 (by omega) (by omega) (by omega) (by omega) C0 (fun y4 => ?_) (fun y4 => ?_)
    · skip
      refine x_if_ne (by omega) (by omega) (fun z => absurd z (by omega)) (fun z5 => ?_)
      refine x_blk (b := 2) (a_8 E) rfl ?_
      unfold b_8_2
      refine x_aload rfl ?_
      refine x_dup rfl ?_
      refine x_getIG y_f1_3 C0 ?_
      intro g6a g6b
      refine x_push 1 rfl ?_
      refine x_iadd ?_
      refine x_putIG y_f1_3 ⟨by decide, rfl⟩ (by decide) C0 (by decide) (y_fr_rf (lo := 1) (hi := 2)) (by omega) (by omega) (fun S7 e7 C7 F7 => ?_)
      refine x_iload rfl ?_
      refine x_iret ?_
      exact k _ _ C7 F7 (by omega) (by omega) (by omega)
    · skip
      refine x_if_ne (by omega) (by omega) (fun z8 => ?_) (fun z => absurd (by omega) z)
      refine x_fall ?_
      refine x_blk (b := 1) (a_8 E) rfl ?_
      unfold b_8_1
      refine x_aload rfl ?_
      refine x_push 1 rfl ?_
      refine x_putZG y_f1_4 rfl (by decide) C0 (by decide) (y_fr_rf (lo := 1) (hi := 2)) (by omega) (fun S9 e9 C9 F9 => ?_)
      refine x_push 0 rfl ?_
      refine x_iret ?_
      exact k _ _ C9 F9 (by omega) (by omega) (by omega)
  · skip
    refine x_blk (b := 1) (a_8 E) rfl ?_
    unfold b_8_1
    refine x_aload rfl ?_
    refine x_push 1 rfl ?_
    refine x_putZG y_f1_4 rfl (by decide) C0 (by decide) (y_fr_rf (lo := 1) (hi := 2)) (by omega) (fun S10 e10 C10 F10 => ?_)
    refine x_push 0 rfl ?_
    refine x_iret ?_
    exact k _ _ C10 F10 (by omega) (by omega) (by omega)
theorem sf_7 {E : q_E} {σ : x_S} {Q : Option q_V → x_S → Prop} {a0 : Int} (a0l : (-2147483648) ≤ a0) (a0h : a0 ≤ 2147483647) (C0 : y_CI σ) (k : ∀ v, 0 ≤ v → v ≤ 2 → Q (some (x_I v)) σ) : x_P E 7 [x_I a0] σ Q := by
  refine x_Mt e_7 (h_7 E) (Nat.le_of_ble_eq_true rfl) t_7 rfl ?_
  refine x_blk (b := 0) (a_7 E) rfl ?_
  unfold b_7_0
  refine x_iload rfl ?_
  refine x_if_lt (by omega) (by omega) (fun z1 => ?_) (fun z1 => ?_)
  · skip
    refine x_blk (b := 1) (a_7 E) rfl ?_
    unfold b_7_1
    refine x_push 0 rfl ?_
    refine x_fall ?_
    refine x_blk (b := 2) (a_7 E) rfl ?_
    unfold b_7_2
    refine x_iret ?_
    exact k _ (by omega) (by omega) 
  · skip
    refine x_iload rfl ?_
    refine x_push 5 rfl ?_
    refine x_icmp_ge (by omega) (by omega) (by omega) (by omega) (fun z2 => ?_) (fun z2 => ?_)
    · skip
      refine x_pushv ?_
      refine x_iload rfl ?_
      refine x_chiG (by omega) (by omega) (fun v3 v3a v3b => ?_)
      refine x_goto ?_
      refine x_blk (b := 2) (a_7 E) rfl ?_
      unfold b_7_2
      refine x_iret ?_
      exact k _ (by omega) (by omega) 
    · skip
      refine x_blk (b := 1) (a_7 E) rfl ?_
      unfold b_7_1
      refine x_push 0 rfl ?_
      refine x_fall ?_
      refine x_blk (b := 2) (a_7 E) rfl ?_
      unfold b_7_2
      refine x_iret ?_
      exact k _ (by omega) (by omega) 
theorem sf_23 {E : q_E} {σ : x_S} {Q : Option q_V → x_S → Prop} {a0 a1 a2 : Int} (a0l : (-2147483648) ≤ a0) (a0h : a0 ≤ 2147483647) (a1l : (-2147483648) ≤ a1) (a1h : a1 ≤ 2147483647) (a2l : (-2147483648) ≤ a2) (a2h : a2 ≤ 2147483647) (C0 : y_CI σ) (k1 : 0 ≤ a0 ∧ a0 ≤ 1 ∧ 0 ≤ a1 ∧ a1 ≤ 4 ∧ 0 ≤ a2 ∧ a2 ≤ 3 → Q (some (x_I 1)) σ) (k0 : 0 ≤ (0 : Int) → Q (some (x_I 0)) σ) : x_P E 23 [x_I a0, x_I a1, x_I a2] σ Q := by
  refine x_Mt e_23 (h_23 E) (Nat.le_of_ble_eq_true rfl) t_23 rfl ?_
  refine x_blk (b := 0) (a_23 E) rfl ?_
  unfold b_23_0
  refine x_iload rfl ?_
  refine x_push 2 rfl ?_
  refine x_cS (fun _ => rfl) (Nat.le_of_ble_eq_true rfl) ?_
  refine sf_2 (by omega) (by omega) (by omega) (by omega) C0 (fun y1 => ?_) (fun y1 => ?_)
  · skip
    refine x_if_eq (by omega) (by omega) (fun z => absurd z (by omega)) (fun z2 => ?_)
    refine x_iload rfl ?_
    refine x_push 5 rfl ?_
    refine x_cS (fun _ => rfl) (Nat.le_of_ble_eq_true rfl) ?_
    refine sf_2 (by omega) (by omega) (by omega) (by omega) C0 (fun y3 => ?_) (fun y3 => ?_)
    · skip
      refine x_if_eq (by omega) (by omega) (fun z => absurd z (by omega)) (fun z4 => ?_)
      refine x_iload rfl ?_
      refine x_push 1 rfl ?_
      refine x_iload rfl ?_
      refine x_cS (fun _ => rfl) (Nat.le_of_ble_eq_true rfl) ?_
      refine sf_7 (by omega) (by omega) C0 (fun v5 v5a v5b => ?_)
      refine x_shl1G (by omega) (by omega) (fun v6 v6a v6b => ?_)
      refine x_cS (fun _ => rfl) (Nat.le_of_ble_eq_true rfl) ?_
      refine sf_2 (by omega) (by omega) (by omega) (by omega) C0 (fun y7 => ?_) (fun y7 => ?_)
      · skip
        refine x_if_eq (by omega) (by omega) (fun z => absurd z (by omega)) (fun z8 => ?_)
        refine x_push 1 rfl ?_
        refine x_goto ?_
        refine x_blk (b := 2) (a_23 E) rfl ?_
        unfold b_23_2
        refine x_zret (by decide) ?_
        exact k1 (by omega)
      · skip
        refine x_if_eq (by omega) (by omega) (fun z9 => ?_) (fun z => absurd (by omega) z)
        refine x_blk (b := 1) (a_23 E) rfl ?_
        unfold b_23_1
        refine x_push 0 rfl ?_
        refine x_fall ?_
        refine x_blk (b := 2) (a_23 E) rfl ?_
        unfold b_23_2
        refine x_zret (by decide) ?_
        exact k0 (by omega)
    · skip
      refine x_if_eq (by omega) (by omega) (fun z10 => ?_) (fun z => absurd (by omega) z)
      refine x_blk (b := 1) (a_23 E) rfl ?_
      unfold b_23_1
      refine x_push 0 rfl ?_
      refine x_fall ?_
      refine x_blk (b := 2) (a_23 E) rfl ?_
      unfold b_23_2
      refine x_zret (by decide) ?_
      exact k0 (by omega)
  · skip
    refine x_if_eq (by omega) (by omega) (fun z11 => ?_) (fun z => absurd (by omega) z)
    refine x_blk (b := 1) (a_23 E) rfl ?_
    unfold b_23_1
    refine x_push 0 rfl ?_
    refine x_fall ?_
    refine x_blk (b := 2) (a_23 E) rfl ?_
    unfold b_23_2
    refine x_zret (by decide) ?_
    exact k0 (by omega)
theorem sf_24_11 {E : q_E} {σ : x_S} {Q : Option q_V → x_S → Prop} {a1 a2 a3 a4 : Int} (a1l : (-2147483648) ≤ a1) (a1h : a1 ≤ 2147483647) (a2l : (-2147483648) ≤ a2) (a2h : a2 ≤ 2147483647) (a3l : (-2147483648) ≤ a3) (a3h : a3 ≤ 2147483647) (a4l : 0 ≤ a4) (a4h : a4 ≤ 1) (C0 : y_CI σ) (k : ∀ τ, y_CI τ → y_fq 15 16 σ τ → Q none τ) : x_P E 24 [x_R 11, x_I a1, x_I a2, x_I a3, x_I a4] σ Q := by
  refine x_Mt e_24 (h_24 E) (Nat.le_of_ble_eq_true rfl) t_24 rfl ?_
  refine x_blk (b := 0) (a_24 E) rfl ?_
  unfold b_24_0
  refine x_iload rfl ?_
  refine x_iload rfl ?_
  refine x_iload rfl ?_
  refine x_cS (fun _ => rfl) (Nat.le_of_ble_eq_true rfl) ?_
  refine sf_23 (by omega) (by omega) (by omega) (by omega) (by omega) (by omega) C0 (fun y1 => ?_) (fun y1 => ?_)
  · skip
    refine x_if_eq (by omega) (by omega) (fun z => absurd z (by omega)) (fun z2 => ?_)
    refine x_aload rfl ?_
    refine x_getR (r := 11) rfl (by decide) (by decide) rfl ?_
    refine x_iload rfl ?_
    refine x_push 5 rfl ?_
    refine x_imul ?_
    refine x_iload rfl ?_
    refine x_iadd ?_
    refine x_push 4 rfl ?_
    refine x_imul ?_
    refine x_iload rfl ?_
    refine x_iadd ?_
    refine x_iload rfl ?_
    refine x_astG y_a15 C0 (by decide) (y_fr_rf (lo := 15) (hi := 16)) (by omega) (by omega) (by omega) (by omega) (fun S3 e3 C3 F3 => ?_)
    refine x_fall ?_
    refine x_blk (b := 1) (a_24 E) rfl ?_
    unfold b_24_1
    refine x_vret ?_
    exact k _ C3 F3 
  · skip
    refine x_if_eq (by omega) (by omega) (fun z4 => ?_) (fun z => absurd (by omega) z)
    refine x_blk (b := 1) (a_24 E) rfl ?_
    unfold b_24_1
    refine x_vret ?_
    exact k _ C0 (y_fr_rf (lo := 15) (hi := 16)) 
theorem sf_15_1 {E : q_E} {σ : x_S} {Q : Option q_V → x_S → Prop} (C0 : y_CI σ) (k : ∀ τ v, y_CI τ → y_fq 1 2 σ τ → 0 ≤ v → v ≤ 4 → Q (some (x_I v)) τ) : x_P E 15 [x_R 1] σ Q := by
  refine x_Mt e_15 (h_15 E) (Nat.le_of_ble_eq_true rfl) t_15 rfl ?_
  refine x_blk (b := 0) (a_15 E) rfl ?_
  unfold b_15_0
  refine x_aload rfl ?_
  refine x_cV (fun _ => rfl) rfl (by decide) (Nat.le_of_ble_eq_true rfl) ?_
  refine sf_4_1  C0 (fun v1 v1a v1b k1_0 => ?_)
  refine x_push 97 rfl ?_
  refine x_isub ?_
  refine x_istore ?_
  refine x_aload rfl ?_
  refine x_getIG y_f1_4 C0 ?_
  intro g2a g2b
  refine x_if_ne (by omega) (by omega) (fun z3 => ?_) (fun z3 => ?_)
  · skip
    refine x_iload rfl ?_
    refine x_push 5 rfl ?_
    refine x_cS (fun _ => rfl) (Nat.le_of_ble_eq_true rfl) ?_
    refine sf_2 (by omega) (by omega) (by omega) (by omega) C0 (fun y4 => ?_) (fun y4 => ?_)
    · skip
      refine x_if_ne (by omega) (by omega) (fun z => absurd z (by omega)) (fun z5 => ?_)
      refine x_blk (b := 2) (a_15 E) rfl ?_
      unfold b_15_2
      refine x_aload rfl ?_
      refine x_dup rfl ?_
      refine x_getIG y_f1_3 C0 ?_
      intro g6a g6b
      refine x_push 1 rfl ?_
      refine x_iadd ?_
      refine x_putIG y_f1_3 ⟨by decide, rfl⟩ (by decide) C0 (by decide) (y_fr_rf (lo := 1) (hi := 2)) (by omega) (by omega) (fun S7 e7 C7 F7 => ?_)
      refine x_iload rfl ?_
      refine x_iret ?_
      exact k _ _ C7 F7 (by omega) (by omega) 
    · skip
      refine x_if_ne (by omega) (by omega) (fun z8 => ?_) (fun z => absurd (by omega) z)
      refine x_fall ?_
      refine x_blk (b := 1) (a_15 E) rfl ?_
      unfold b_15_1
      refine x_aload rfl ?_
      refine x_push 1 rfl ?_
      refine x_putZG y_f1_4 rfl (by decide) C0 (by decide) (y_fr_rf (lo := 1) (hi := 2)) (by omega) (fun S9 e9 C9 F9 => ?_)
      refine x_push 0 rfl ?_
      refine x_iret ?_
      exact k _ _ C9 F9 (by omega) (by omega) 
  · skip
    refine x_blk (b := 1) (a_15 E) rfl ?_
    unfold b_15_1
    refine x_aload rfl ?_
    refine x_push 1 rfl ?_
    refine x_putZG y_f1_4 rfl (by decide) C0 (by decide) (y_fr_rf (lo := 1) (hi := 2)) (by omega) (fun S10 e10 C10 F10 => ?_)
    refine x_push 0 rfl ?_
    refine x_iret ?_
    exact k _ _ C10 F10 (by omega) (by omega) 
theorem sf_9_1 {E : q_E} {σ : x_S} {Q : Option q_V → x_S → Prop} {a1 : Int} (a1l : 0 ≤ a1) (a1h : a1 ≤ 65535) (C0 : y_CI σ) (k : ∀ τ, y_CI τ → y_fq 1 2 σ τ → Q none τ) : x_P E 9 [x_R 1, x_I a1] σ Q := by
  refine x_Mt e_9 (h_9 E) (Nat.le_of_ble_eq_true rfl) t_9 rfl ?_
  refine x_blk (b := 0) (a_9 E) rfl ?_
  unfold b_9_0
  refine x_aload rfl ?_
  refine x_getIG y_f1_4 C0 ?_
  intro g1a g1b
  refine x_if_ne (by omega) (by omega) (fun z2 => ?_) (fun z2 => ?_)
  · skip
    refine x_aload rfl ?_
    refine x_cV (fun _ => rfl) rfl (by decide) (Nat.le_of_ble_eq_true rfl) ?_
    refine sf_4_1  C0 (fun v3 v3a v3b k3_0 => ?_)
    refine x_iload rfl ?_
    refine x_icmp_eq (by omega) (by omega) (by omega) (by omega) (fun z4 => ?_) (fun z4 => ?_)
    · skip
      refine x_blk (b := 2) (a_9 E) rfl ?_
      unfold b_9_2
      refine x_aload rfl ?_
      refine x_dup rfl ?_
      refine x_getIG y_f1_3 C0 ?_
      intro g5a g5b
      refine x_push 1 rfl ?_
      refine x_iadd ?_
      refine x_putIG y_f1_3 ⟨by decide, rfl⟩ (by decide) C0 (by decide) (y_fr_rf (lo := 1) (hi := 2)) (by omega) (by omega) (fun S6 e6 C6 F6 => ?_)
      refine x_vret ?_
      exact k _ C6 F6 
    · skip
      refine x_fall ?_
      refine x_blk (b := 1) (a_9 E) rfl ?_
      unfold b_9_1
      refine x_aload rfl ?_
      refine x_push 1 rfl ?_
      refine x_putZG y_f1_4 rfl (by decide) C0 (by decide) (y_fr_rf (lo := 1) (hi := 2)) (by omega) (fun S7 e7 C7 F7 => ?_)
      refine x_vret ?_
      exact k _ C7 F7 
  · skip
    refine x_blk (b := 1) (a_9 E) rfl ?_
    unfold b_9_1
    refine x_aload rfl ?_
    refine x_push 1 rfl ?_
    refine x_putZG y_f1_4 rfl (by decide) C0 (by decide) (y_fr_rf (lo := 1) (hi := 2)) (by omega) (fun S8 e8 C8 F8 => ?_)
    refine x_vret ?_
    exact k _ C8 F8 
theorem sf_28_1_11_b3 {E : q_E} {σ : x_S} {Q : Option q_V → x_S → Prop} (C0 : y_CI σ) (k : ∀ τ, y_CI τ → y_fq 1 16 σ τ → Q none τ) : ∀ (N : Nat) (m f n kq : Int) (τ : x_S), (4 - kq).toNat = N → 0 ≤ m → m ≤ 3 → 0 ≤ f → f ≤ 4 → 1 ≤ n → n ≤ 4 → 0 ≤ kq → kq ≤ 4 → y_CI τ → y_fq 1 16 σ τ → x_G E m_28 Q (t_28 3) [(0, x_R 1), (1, x_R 11), (2, x_I m), (3, x_I f), (4, x_I n), (5, x_I kq)] [] τ := by
  intro N
  induction N using Nat.strongRecOn with
  | ind N ih =>
    intro m f n kq τ hN mL mH fL fH nL nH kqL kqH C F
    refine x_blk (b := 3) (a_28 E) rfl ?_
    unfold b_28_3
    refine x_iload rfl ?_
    refine x_iload rfl ?_
    refine x_icmp_ge (by omega) (by omega) (by omega) (by omega) (fun z1 => ?_) (fun z1 => ?_)
    · skip
      refine x_aload rfl ?_
      refine x_getIG y_f1_4 C ?_
      intro g2a g2b
      refine x_if_ne (by omega) (by omega) (fun z3 => ?_) (fun z3 => ?_)
      · skip
        refine x_aload rfl ?_
        refine x_push 2 rfl ?_
        refine x_cV (fun _ => rfl) rfl (by decide) (Nat.le_of_ble_eq_true rfl) ?_
        refine sf_8_1 (by omega) (by omega) C (fun S4 v4 C4 f4 v4a v4b k4_0 => ?_)
        have F4 := y_fq_tr (by decide) F f4
        refine x_istore ?_
        refine x_aload rfl ?_
        refine x_getIG y_f1_4 C4 ?_
        intro g5a g5b
        refine x_if_ne (by omega) (by omega) (fun z6 => ?_) (fun z6 => ?_)
        · skip
          refine x_aload rfl ?_
          refine x_iload rfl ?_
          refine x_iload rfl ?_
          refine x_iload rfl ?_
          refine x_iload rfl ?_
          refine x_cV (fun _ => rfl) rfl (by decide) (Nat.le_of_ble_eq_true rfl) ?_
          refine sf_24_11 (by omega) (by omega) (by omega) (by omega) (by omega) (by omega) (by omega) (by omega) C4 (fun S7 C7 f7 => ?_)
          have F7 := y_fq_tr (by decide) F4 f7
          refine x_fall ?_
          refine x_blk (b := 2) (a_28 E) rfl ?_
          unfold b_28_2
          refine x_iinc 1 rfl rfl ?_
          refine x_X_lo (lo' := [(0, x_R 1), (1, x_R 11), (2, x_I _), (3, x_I _), (4, x_I _), (5, x_I _), (6, x_I _)]) ⟨rfl, rfl, rfl, rfl, rfl, rfl, rfl, trivial⟩ ?_
          refine x_goto ?_
          refine x_G_lo (lo' := [(0, x_R 1), (1, x_R 11), (2, x_I _), (3, x_I _), (4, x_I _), (5, x_I _)]) ⟨rfl, rfl, rfl, rfl, rfl, rfl, trivial⟩ ?_
          exact ih _ (by omega) _ _ _ _ _ rfl (by omega) (by omega) (by omega) (by omega) (by omega) (by omega) (by omega) (by omega)  C7 F7
        · skip
          refine x_blk (b := 2) (a_28 E) rfl ?_
          unfold b_28_2
          refine x_iinc 1 rfl rfl ?_
          refine x_X_lo (lo' := [(0, x_R 1), (1, x_R 11), (2, x_I _), (3, x_I _), (4, x_I _), (5, x_I _), (6, x_I _)]) ⟨rfl, rfl, rfl, rfl, rfl, rfl, rfl, trivial⟩ ?_
          refine x_goto ?_
          refine x_G_lo (lo' := [(0, x_R 1), (1, x_R 11), (2, x_I _), (3, x_I _), (4, x_I _), (5, x_I _)]) ⟨rfl, rfl, rfl, rfl, rfl, rfl, trivial⟩ ?_
          exact ih _ (by omega) _ _ _ _ _ rfl (by omega) (by omega) (by omega) (by omega) (by omega) (by omega) (by omega) (by omega)  C4 F4
      · skip
        refine x_blk (b := 1) (a_28 E) rfl ?_
        unfold b_28_1
        refine x_vret ?_
        exact k _ C F 
    · skip
      refine x_blk (b := 1) (a_28 E) rfl ?_
      unfold b_28_1
      refine x_vret ?_
      exact k _ C F 
theorem sf_28_1_11 {E : q_E} {σ : x_S} {Q : Option q_V → x_S → Prop} (C0 : y_CI σ) (k : ∀ τ, y_CI τ → y_fq 1 16 σ τ → Q none τ) : x_P E 28 [x_R 1, x_R 11] σ Q := by
  refine x_Mt e_28 (h_28 E) (Nat.le_of_ble_eq_true rfl) t_28 rfl ?_
  refine x_blk (b := 0) (a_28 E) rfl ?_
  unfold b_28_0
  refine x_aload rfl ?_
  refine x_push 2 rfl ?_
  refine x_cV (fun _ => rfl) rfl (by decide) (Nat.le_of_ble_eq_true rfl) ?_
  refine sf_8_1 (by omega) (by omega) C0 (fun S1 v1 C1 f1 v1a v1b k1_0 => ?_)
  have F1 := y_fq_tr (by decide) (y_fr_rf (lo := 1) (hi := 16)) f1
  refine x_istore ?_
  refine x_aload rfl ?_
  refine x_cV (fun _ => rfl) rfl (by decide) (Nat.le_of_ble_eq_true rfl) ?_
  refine sf_15_1  C1 (fun S2 v2 C2 f2 v2a v2b => ?_)
  have F2 := y_fq_tr (by decide) F1 f2
  refine x_istore ?_
  refine x_X_lo (lo' := [(0, x_R 1), (1, x_R 11), (2, x_I _), (3, x_I _)]) ⟨rfl, rfl, rfl, rfl, trivial⟩ ?_
  refine x_aload rfl ?_
  refine x_push 61 rfl ?_
  refine x_cV (fun _ => rfl) rfl (by decide) (Nat.le_of_ble_eq_true rfl) ?_
  refine sf_9_1 (by omega) (by omega) C2 (fun S3 C3 f3 => ?_)
  have F3 := y_fq_tr (by decide) F2 f3
  refine x_push 1 rfl ?_
  refine x_iload rfl ?_
  refine x_cS (fun _ => rfl) (Nat.le_of_ble_eq_true rfl) ?_
  refine sf_7 (by omega) (by omega) C3 (fun v4 v4a v4b => ?_)
  refine x_shl1G (by omega) (by omega) (fun v5 v5a v5b => ?_)
  refine x_istore ?_
  refine x_push 0 rfl ?_
  refine x_istore ?_
  refine x_X_lo (lo' := [(0, x_R 1), (1, x_R 11), (2, x_I _), (3, x_I _), (4, x_I _), (5, x_I _)]) ⟨rfl, rfl, rfl, rfl, rfl, rfl, trivial⟩ ?_
  refine x_fall ?_
  refine x_G_lo (lo' := [(0, x_R 1), (1, x_R 11), (2, x_I _), (3, x_I _), (4, x_I _), (5, x_I _)]) ⟨rfl, rfl, rfl, rfl, rfl, rfl, trivial⟩ ?_
  exact sf_28_1_11_b3 C0 k  _ _ _ _ _ _ rfl (by omega) (by omega) (by omega) (by omega) (by omega) (by omega) (by omega) (by omega)  C3 F3
theorem sf_100_11 {E : q_E} {σ : x_S} {Q : Option q_V → x_S → Prop} {a1 a2 : Int} (a1l : (-2147483648) ≤ a1) (a1h : a1 ≤ 2147483647) (a2l : 0 ≤ a2) (a2h : a2 ≤ 3) (C0 : y_CI σ) (k : ∀ τ, y_CI τ → y_fq 14 15 σ τ → Q none τ) : x_P E 100 [x_R 11, x_I a1, x_I a2] σ Q := by
  refine x_Mt e_100 (h_100 E) (Nat.le_of_ble_eq_true rfl) t_100 rfl ?_
  refine x_blk (b := 0) (a_100 E) rfl ?_
  unfold b_100_0
  refine x_iload rfl ?_
  refine x_push 2 rfl ?_
  refine x_cS (fun _ => rfl) (Nat.le_of_ble_eq_true rfl) ?_
  refine sf_2 (by omega) (by omega) (by omega) (by omega) C0 (fun y1 => ?_) (fun y1 => ?_)
  · skip
    refine x_if_eq (by omega) (by omega) (fun z => absurd z (by omega)) (fun z2 => ?_)
    refine x_aload rfl ?_
    refine x_getR (r := 11) rfl (by decide) (by decide) rfl ?_
    refine x_iload rfl ?_
    refine x_iload rfl ?_
    refine x_astG y_a14 C0 (by decide) (y_fr_rf (lo := 14) (hi := 15)) (by omega) (by omega) (by omega) (by omega) (fun S3 e3 C3 F3 => ?_)
    refine x_fall ?_
    refine x_blk (b := 1) (a_100 E) rfl ?_
    unfold b_100_1
    refine x_vret ?_
    exact k _ C3 F3 
  · skip
    refine x_if_eq (by omega) (by omega) (fun z4 => ?_) (fun z => absurd (by omega) z)
    refine x_blk (b := 1) (a_100 E) rfl ?_
    unfold b_100_1
    refine x_vret ?_
    exact k _ C0 (y_fr_rf (lo := 14) (hi := 15)) 
theorem sf_120_1_11 {E : q_E} {σ : x_S} {Q : Option q_V → x_S → Prop} (C0 : y_CI σ) (k : ∀ τ, y_CI τ → y_fq 1 15 σ τ → Q none τ) : x_P E 120 [x_R 1, x_R 11] σ Q := by
  refine x_Mt e_120 (h_120 E) (Nat.le_of_ble_eq_true rfl) t_120 rfl ?_
  refine x_blk (b := 0) (a_120 E) rfl ?_
  unfold b_120_0
  refine x_aload rfl ?_
  refine x_push 2 rfl ?_
  refine x_cV (fun _ => rfl) rfl (by decide) (Nat.le_of_ble_eq_true rfl) ?_
  refine sf_8_1 (by omega) (by omega) C0 (fun S1 v1 C1 f1 v1a v1b k1_0 => ?_)
  have F1 := y_fq_tr (by decide) (y_fr_rf (lo := 1) (hi := 15)) f1
  refine x_istore ?_
  refine x_aload rfl ?_
  refine x_push 4 rfl ?_
  refine x_cV (fun _ => rfl) rfl (by decide) (Nat.le_of_ble_eq_true rfl) ?_
  refine sf_8_1 (by omega) (by omega) C1 (fun S2 v2 C2 f2 v2a v2b k2_0 => ?_)
  have F2 := y_fq_tr (by decide) F1 f2
  refine x_istore ?_
  refine x_X_lo (lo' := [(0, x_R 1), (1, x_R 11), (2, x_I _), (3, x_I _)]) ⟨rfl, rfl, rfl, rfl, trivial⟩ ?_
  refine x_aload rfl ?_
  refine x_getIG y_f1_4 C2 ?_
  intro g3a g3b
  refine x_if_ne (by omega) (by omega) (fun z4 => ?_) (fun z4 => ?_)
  · skip
    refine x_aload rfl ?_
    refine x_iload rfl ?_
    refine x_iload rfl ?_
    refine x_cV (fun _ => rfl) rfl (by decide) (Nat.le_of_ble_eq_true rfl) ?_
    refine sf_100_11 (by omega) (by omega) (by omega) (by omega) C2 (fun S5 C5 f5 => ?_)
    have F5 := y_fq_tr (by decide) F2 f5
    refine x_fall ?_
    refine x_blk (b := 1) (a_120 E) rfl ?_
    unfold b_120_1
    refine x_vret ?_
    exact k _ C5 F5 
  · skip
    refine x_blk (b := 1) (a_120 E) rfl ?_
    unfold b_120_1
    refine x_vret ?_
    exact k _ C2 F2 
theorem sf_20_1 {E : q_E} {σ : x_S} {Q : Option q_V → x_S → Prop} (C0 : y_CI σ) (k : ∀ τ v, y_CI τ → y_fq 1 2 σ τ → 0 ≤ v → v ≤ 2 → Q (some (x_I v)) τ) : x_P E 20 [x_R 1] σ Q := by
  refine x_Mt e_20 (h_20 E) (Nat.le_of_ble_eq_true rfl) t_20 rfl ?_
  refine x_blk (b := 0) (a_20 E) rfl ?_
  unfold b_20_0
  refine x_aload rfl ?_
  refine x_getIG y_f1_4 C0 ?_
  intro g1a g1b
  refine x_if_ne (by omega) (by omega) (fun z2 => ?_) (fun z2 => ?_)
  · skip
    refine x_aload rfl ?_
    refine x_cV (fun _ => rfl) rfl (by decide) (Nat.le_of_ble_eq_true rfl) ?_
    refine sf_4_1  C0 (fun v3 v3a v3b k3_0 => ?_)
    refine x_push 42 rfl ?_
    refine x_icmp_ne (by omega) (by omega) (by omega) (by omega) (fun z4 => ?_) (fun z4 => ?_)
    · skip
      refine x_aload rfl ?_
      refine x_dup rfl ?_
      refine x_getIG y_f1_3 C0 ?_
      intro g5a g5b
      refine x_push 1 rfl ?_
      refine x_iadd ?_
      refine x_putIG y_f1_3 ⟨by decide, rfl⟩ (by decide) C0 (by decide) (y_fr_rf (lo := 1) (hi := 2)) (by omega) (by omega) (fun S6 e6 C6 F6 => ?_)
      refine x_push 2 rfl ?_
      refine x_iret ?_
      exact k _ _ C6 F6 (by omega) (by omega) 
    · skip
      refine x_blk (b := 1) (a_20 E) rfl ?_
      unfold b_20_1
      refine x_aload rfl ?_
      refine x_push 2 rfl ?_
      refine x_cV (fun _ => rfl) rfl (by decide) (Nat.le_of_ble_eq_true rfl) ?_
      refine sf_8_1 (by omega) (by omega) C0 (fun S7 v7 C7 f7 v7a v7b k7_0 => ?_)
      have F7 := y_fq_tr (by decide) (y_fr_rf (lo := 1) (hi := 2)) f7
      refine x_iret ?_
      exact k _ _ C7 F7 (by omega) (by omega) 
  · skip
    refine x_blk (b := 1) (a_20 E) rfl ?_
    unfold b_20_1
    refine x_aload rfl ?_
    refine x_push 2 rfl ?_
    refine x_cV (fun _ => rfl) rfl (by decide) (Nat.le_of_ble_eq_true rfl) ?_
    refine sf_8_1 (by omega) (by omega) C0 (fun S8 v8 C8 f8 v8a v8b k8_0 => ?_)
    have F8 := y_fq_tr (by decide) (y_fr_rf (lo := 1) (hi := 2)) f8
    refine x_iret ?_
    exact k _ _ C8 F8 (by omega) (by omega) 
theorem sf_26_1 {E : q_E} {σ : x_S} {Q : Option q_V → x_S → Prop} {a1 : Int} (a1l : (-1) ≤ a1) (a1h : a1 ≤ 15) (C0 : y_CI σ) (k : ∀ τ v, y_CI τ → y_fq 1 2 σ τ → 0 ≤ v → v ≤ 1 → Q (some (x_I v)) τ) : x_P E 26 [x_R 1, x_I a1] σ Q := by
  refine x_Mt e_26 (h_26 E) (Nat.le_of_ble_eq_true rfl) t_26 rfl ?_
  refine x_blk (b := 0) (a_26 E) rfl ?_
  unfold b_26_0
  refine x_aload rfl ?_
  refine x_cV (fun _ => rfl) rfl (by decide) (Nat.le_of_ble_eq_true rfl) ?_
  refine sf_4_1  C0 (fun v1 v1a v1b k1_0 => ?_)
  refine x_push 120 rfl ?_
  refine x_isub ?_
  refine x_istore ?_
  refine x_aload rfl ?_
  refine x_getIG y_f1_4 C0 ?_
  intro g2a g2b
  refine x_if_ne (by omega) (by omega) (fun z3 => ?_) (fun z3 => ?_)
  · skip
    refine x_iload rfl ?_
    refine x_iload rfl ?_
    refine x_cS (fun _ => rfl) (Nat.le_of_ble_eq_true rfl) ?_
    refine sf_7 (by omega) (by omega) C0 (fun v4 v4a v4b => ?_)
    refine x_cS (fun _ => rfl) (Nat.le_of_ble_eq_true rfl) ?_
    refine sf_2 (by omega) (by omega) (by omega) (by omega) C0 (fun y5 => ?_) (fun y5 => ?_)
    · skip
      refine x_if_ne (by omega) (by omega) (fun z => absurd z (by omega)) (fun z6 => ?_)
      refine x_blk (b := 2) (a_26 E) rfl ?_
      unfold b_26_2
      refine x_aload rfl ?_
      refine x_dup rfl ?_
      refine x_getIG y_f1_3 C0 ?_
      intro g7a g7b
      refine x_push 1 rfl ?_
      refine x_iadd ?_
      refine x_putIG y_f1_3 ⟨by decide, rfl⟩ (by decide) C0 (by decide) (y_fr_rf (lo := 1) (hi := 2)) (by omega) (by omega) (fun S8 e8 C8 F8 => ?_)
      refine x_iload rfl ?_
      refine x_iret ?_
      exact k _ _ C8 F8 (by omega) (by omega) 
    · skip
      refine x_if_ne (by omega) (by omega) (fun z9 => ?_) (fun z => absurd (by omega) z)
      refine x_fall ?_
      refine x_blk (b := 1) (a_26 E) rfl ?_
      unfold b_26_1
      refine x_aload rfl ?_
      refine x_push 1 rfl ?_
      refine x_putZG y_f1_4 rfl (by decide) C0 (by decide) (y_fr_rf (lo := 1) (hi := 2)) (by omega) (fun S10 e10 C10 F10 => ?_)
      refine x_push 0 rfl ?_
      refine x_iret ?_
      exact k _ _ C10 F10 (by omega) (by omega) 
  · skip
    refine x_blk (b := 1) (a_26 E) rfl ?_
    unfold b_26_1
    refine x_aload rfl ?_
    refine x_push 1 rfl ?_
    refine x_putZG y_f1_4 rfl (by decide) C0 (by decide) (y_fr_rf (lo := 1) (hi := 2)) (by omega) (fun S11 e11 C11 F11 => ?_)
    refine x_push 0 rfl ?_
    refine x_iret ?_
    exact k _ _ C11 F11 (by omega) (by omega) 
theorem sf_13_1 {E : q_E} {σ : x_S} {Q : Option q_V → x_S → Prop} {a1 a2 : Int} (a1l : (-1) ≤ a1) (a1h : a1 ≤ 15) (a2l : (-2147483648) ≤ a2) (a2h : a2 ≤ 2147483647) (C0 : y_CI σ) (k : ∀ τ v, y_CI τ → y_fq 1 2 σ τ → 0 ≤ v → v ≤ 15 → Q (some (x_I v)) τ) : x_P E 13 [x_R 1, x_I a1, x_I a2] σ Q := by
  refine x_Mt e_13 (h_13 E) (Nat.le_of_ble_eq_true rfl) t_13 rfl ?_
  refine x_blk (b := 0) (a_13 E) rfl ?_
  unfold b_13_0
  refine x_aload rfl ?_
  refine x_cV (fun _ => rfl) rfl (by decide) (Nat.le_of_ble_eq_true rfl) ?_
  refine sf_4_1  C0 (fun v1 v1a v1b k1_0 => ?_)
  refine x_istore ?_
  refine x_iload rfl ?_
  refine x_push 48 rfl ?_
  refine x_icmp_lt (by omega) (by omega) (by omega) (by omega) (fun z2 => ?_) (fun z2 => ?_)
  · skip
    refine x_blk (b := 1) (a_13 E) rfl ?_
    unfold b_13_1
    refine x_iload rfl ?_
    refine x_push 97 rfl ?_
    refine x_isub ?_
    refine x_istore ?_
    refine x_X_lo (lo' := [(0, x_R 1), (1, x_I _), (2, x_I _), (3, x_I _), (4, x_I _)]) ⟨rfl, rfl, rfl, rfl, rfl, trivial⟩ ?_
    refine x_aload rfl ?_
    refine x_getIG y_f1_4 C0 ?_
    intro g3a g3b
    refine x_if_ne (by omega) (by omega) (fun z4 => ?_) (fun z4 => ?_)
    · skip
      refine x_iload rfl ?_
      refine x_push 5 rfl ?_
      refine x_cS (fun _ => rfl) (Nat.le_of_ble_eq_true rfl) ?_
      refine sf_2 (by omega) (by omega) (by omega) (by omega) C0 (fun y5 => ?_) (fun y5 => ?_)
      · skip
        refine x_if_eq (by omega) (by omega) (fun z => absurd z (by omega)) (fun z6 => ?_)
        refine x_iload rfl ?_
        refine x_cS (fun _ => rfl) (Nat.le_of_ble_eq_true rfl) ?_
        refine sf_7 (by omega) (by omega) C0 (fun v7 v7a v7b => ?_)
        refine x_iload rfl ?_
        refine x_icmp_le (by omega) (by omega) (by omega) (by omega) (fun z8 => ?_) (fun z8 => ?_)
        · skip
          refine x_blk (b := 3) (a_13 E) rfl ?_
          unfold b_13_3
          refine x_aload rfl ?_
          refine x_dup rfl ?_
          refine x_getIG y_f1_3 C0 ?_
          intro g9a g9b
          refine x_push 1 rfl ?_
          refine x_iadd ?_
          refine x_putIG y_f1_3 ⟨by decide, rfl⟩ (by decide) C0 (by decide) (y_fr_rf (lo := 1) (hi := 2)) (by omega) (by omega) (fun S10 e10 C10 F10 => ?_)
          refine x_iload rfl ?_
          refine x_iret ?_
          exact k _ _ C10 F10 (by omega) (by omega) 
        · skip
          refine x_fall ?_
          refine x_blk (b := 2) (a_13 E) rfl ?_
          unfold b_13_2
          refine x_aload rfl ?_
          refine x_push 1 rfl ?_
          refine x_putZG y_f1_4 rfl (by decide) C0 (by decide) (y_fr_rf (lo := 1) (hi := 2)) (by omega) (fun S11 e11 C11 F11 => ?_)
          refine x_push 0 rfl ?_
          refine x_iret ?_
          exact k _ _ C11 F11 (by omega) (by omega) 
      · skip
        refine x_if_eq (by omega) (by omega) (fun z12 => ?_) (fun z => absurd (by omega) z)
        refine x_blk (b := 2) (a_13 E) rfl ?_
        unfold b_13_2
        refine x_aload rfl ?_
        refine x_push 1 rfl ?_
        refine x_putZG y_f1_4 rfl (by decide) C0 (by decide) (y_fr_rf (lo := 1) (hi := 2)) (by omega) (fun S13 e13 C13 F13 => ?_)
        refine x_push 0 rfl ?_
        refine x_iret ?_
        exact k _ _ C13 F13 (by omega) (by omega) 
    · skip
      refine x_blk (b := 2) (a_13 E) rfl ?_
      unfold b_13_2
      refine x_aload rfl ?_
      refine x_push 1 rfl ?_
      refine x_putZG y_f1_4 rfl (by decide) C0 (by decide) (y_fr_rf (lo := 1) (hi := 2)) (by omega) (fun S14 e14 C14 F14 => ?_)
      refine x_push 0 rfl ?_
      refine x_iret ?_
      exact k _ _ C14 F14 (by omega) (by omega) 
  · skip
    refine x_iload rfl ?_
    refine x_push 57 rfl ?_
    refine x_icmp_gt (by omega) (by omega) (by omega) (by omega) (fun z15 => ?_) (fun z15 => ?_)
    · skip
      refine x_iload rfl ?_
      refine x_cS (fun _ => rfl) (Nat.le_of_ble_eq_true rfl) ?_
      refine sf_7 (by omega) (by omega) C0 (fun v16 v16a v16b => ?_)
      refine x_if_le (by omega) (by omega) (fun z17 => ?_) (fun z17 => ?_)
      · skip
        refine x_blk (b := 1) (a_13 E) rfl ?_
        unfold b_13_1
        refine x_iload rfl ?_
        refine x_push 97 rfl ?_
        refine x_isub ?_
        refine x_istore ?_
        refine x_X_lo (lo' := [(0, x_R 1), (1, x_I _), (2, x_I _), (3, x_I _), (4, x_I _)]) ⟨rfl, rfl, rfl, rfl, rfl, trivial⟩ ?_
        refine x_aload rfl ?_
        refine x_getIG y_f1_4 C0 ?_
        intro g18a g18b
        refine x_if_ne (by omega) (by omega) (fun z19 => ?_) (fun z19 => ?_)
        · skip
          refine x_iload rfl ?_
          refine x_push 5 rfl ?_
          refine x_cS (fun _ => rfl) (Nat.le_of_ble_eq_true rfl) ?_
          refine sf_2 (by omega) (by omega) (by omega) (by omega) C0 (fun y20 => ?_) (fun y20 => ?_)
          · skip
            refine x_if_eq (by omega) (by omega) (fun z => absurd z (by omega)) (fun z21 => ?_)
            refine x_iload rfl ?_
            refine x_cS (fun _ => rfl) (Nat.le_of_ble_eq_true rfl) ?_
            refine sf_7 (by omega) (by omega) C0 (fun v22 v22a v22b => ?_)
            refine x_iload rfl ?_
            refine x_icmp_le (by omega) (by omega) (by omega) (by omega) (fun z23 => ?_) (fun z23 => ?_)
            · skip
              refine x_blk (b := 3) (a_13 E) rfl ?_
              unfold b_13_3
              refine x_aload rfl ?_
              refine x_dup rfl ?_
              refine x_getIG y_f1_3 C0 ?_
              intro g24a g24b
              refine x_push 1 rfl ?_
              refine x_iadd ?_
              refine x_putIG y_f1_3 ⟨by decide, rfl⟩ (by decide) C0 (by decide) (y_fr_rf (lo := 1) (hi := 2)) (by omega) (by omega) (fun S25 e25 C25 F25 => ?_)
              refine x_iload rfl ?_
              refine x_iret ?_
              exact k _ _ C25 F25 (by omega) (by omega) 
            · skip
              refine x_fall ?_
              refine x_blk (b := 2) (a_13 E) rfl ?_
              unfold b_13_2
              refine x_aload rfl ?_
              refine x_push 1 rfl ?_
              refine x_putZG y_f1_4 rfl (by decide) C0 (by decide) (y_fr_rf (lo := 1) (hi := 2)) (by omega) (fun S26 e26 C26 F26 => ?_)
              refine x_push 0 rfl ?_
              refine x_iret ?_
              exact k _ _ C26 F26 (by omega) (by omega) 
          · skip
            refine x_if_eq (by omega) (by omega) (fun z27 => ?_) (fun z => absurd (by omega) z)
            refine x_blk (b := 2) (a_13 E) rfl ?_
            unfold b_13_2
            refine x_aload rfl ?_
            refine x_push 1 rfl ?_
            refine x_putZG y_f1_4 rfl (by decide) C0 (by decide) (y_fr_rf (lo := 1) (hi := 2)) (by omega) (fun S28 e28 C28 F28 => ?_)
            refine x_push 0 rfl ?_
            refine x_iret ?_
            exact k _ _ C28 F28 (by omega) (by omega) 
        · skip
          refine x_blk (b := 2) (a_13 E) rfl ?_
          unfold b_13_2
          refine x_aload rfl ?_
          refine x_push 1 rfl ?_
          refine x_putZG y_f1_4 rfl (by decide) C0 (by decide) (y_fr_rf (lo := 1) (hi := 2)) (by omega) (fun S29 e29 C29 F29 => ?_)
          refine x_push 0 rfl ?_
          refine x_iret ?_
          exact k _ _ C29 F29 (by omega) (by omega) 
      · skip
        refine x_aload rfl ?_
        refine x_push 3 rfl ?_
        refine x_cV (fun _ => rfl) rfl (by decide) (Nat.le_of_ble_eq_true rfl) ?_
        refine sf_8_1 (by omega) (by omega) C0 (fun S30 v30 C30 f30 v30a v30b k30_0 => ?_)
        have F30 := y_fq_tr (by decide) (y_fr_rf (lo := 1) (hi := 2)) f30
        refine x_istore ?_
        refine x_X_lo (lo' := [(0, x_R 1), (1, x_I _), (2, x_I _), (3, x_I _), (4, x_I _)]) ⟨rfl, rfl, rfl, rfl, rfl, trivial⟩ ?_
        refine x_push 10 rfl ?_
        refine x_push 2 rfl ?_
        refine x_iload rfl ?_
        refine x_imul ?_
        refine x_iadd ?_
        refine x_aload rfl ?_
        refine x_iload rfl ?_
        refine x_cV (fun _ => rfl) rfl (by decide) (Nat.le_of_ble_eq_true rfl) ?_
        refine sf_26_1 (by omega) (by omega) C30 (fun S31 v31 C31 f31 v31a v31b => ?_)
        have F31 := y_fq_tr (by decide) F30 f31
        refine x_iadd ?_
        refine x_iret ?_
        exact k _ _ C31 F31 (by omega) (by omega) 
    · skip
      refine x_blk (b := 1) (a_13 E) rfl ?_
      unfold b_13_1
      refine x_iload rfl ?_
      refine x_push 97 rfl ?_
      refine x_isub ?_
      refine x_istore ?_
      refine x_X_lo (lo' := [(0, x_R 1), (1, x_I _), (2, x_I _), (3, x_I _), (4, x_I _)]) ⟨rfl, rfl, rfl, rfl, rfl, trivial⟩ ?_
      refine x_aload rfl ?_
      refine x_getIG y_f1_4 C0 ?_
      intro g32a g32b
      refine x_if_ne (by omega) (by omega) (fun z33 => ?_) (fun z33 => ?_)
      · skip
        refine x_iload rfl ?_
        refine x_push 5 rfl ?_
        refine x_cS (fun _ => rfl) (Nat.le_of_ble_eq_true rfl) ?_
        refine sf_2 (by omega) (by omega) (by omega) (by omega) C0 (fun y34 => ?_) (fun y34 => ?_)
        · skip
          refine x_if_eq (by omega) (by omega) (fun z => absurd z (by omega)) (fun z35 => ?_)
          refine x_iload rfl ?_
          refine x_cS (fun _ => rfl) (Nat.le_of_ble_eq_true rfl) ?_
          refine sf_7 (by omega) (by omega) C0 (fun v36 v36a v36b => ?_)
          refine x_iload rfl ?_
          refine x_icmp_le (by omega) (by omega) (by omega) (by omega) (fun z37 => ?_) (fun z37 => ?_)
          · skip
            refine x_blk (b := 3) (a_13 E) rfl ?_
            unfold b_13_3
            refine x_aload rfl ?_
            refine x_dup rfl ?_
            refine x_getIG y_f1_3 C0 ?_
            intro g38a g38b
            refine x_push 1 rfl ?_
            refine x_iadd ?_
            refine x_putIG y_f1_3 ⟨by decide, rfl⟩ (by decide) C0 (by decide) (y_fr_rf (lo := 1) (hi := 2)) (by omega) (by omega) (fun S39 e39 C39 F39 => ?_)
            refine x_iload rfl ?_
            refine x_iret ?_
            exact k _ _ C39 F39 (by omega) (by omega) 
          · skip
            refine x_fall ?_
            refine x_blk (b := 2) (a_13 E) rfl ?_
            unfold b_13_2
            refine x_aload rfl ?_
            refine x_push 1 rfl ?_
            refine x_putZG y_f1_4 rfl (by decide) C0 (by decide) (y_fr_rf (lo := 1) (hi := 2)) (by omega) (fun S40 e40 C40 F40 => ?_)
            refine x_push 0 rfl ?_
            refine x_iret ?_
            exact k _ _ C40 F40 (by omega) (by omega) 
        · skip
          refine x_if_eq (by omega) (by omega) (fun z41 => ?_) (fun z => absurd (by omega) z)
          refine x_blk (b := 2) (a_13 E) rfl ?_
          unfold b_13_2
          refine x_aload rfl ?_
          refine x_push 1 rfl ?_
          refine x_putZG y_f1_4 rfl (by decide) C0 (by decide) (y_fr_rf (lo := 1) (hi := 2)) (by omega) (fun S42 e42 C42 F42 => ?_)
          refine x_push 0 rfl ?_
          refine x_iret ?_
          exact k _ _ C42 F42 (by omega) (by omega) 
      · skip
        refine x_blk (b := 2) (a_13 E) rfl ?_
        unfold b_13_2
        refine x_aload rfl ?_
        refine x_push 1 rfl ?_
        refine x_putZG y_f1_4 rfl (by decide) C0 (by decide) (y_fr_rf (lo := 1) (hi := 2)) (by omega) (fun S43 e43 C43 F43 => ?_)
        refine x_push 0 rfl ?_
        refine x_iret ?_
        exact k _ _ C43 F43 (by omega) (by omega) 
theorem sf_16_1_3_b2 {E : q_E} {σ : x_S} {Q : Option q_V → x_S → Prop} {a2 a3 a4 : Int} (a2l : 0 ≤ a2) (a2h : a2 ≤ 5) (a3l : 7 ≤ a3) (a3h : a3 ≤ 11) (a4l : (-1) ≤ a4) (a4h : a4 ≤ 15) (C0 : y_CI σ) (k : ∀ τ v, y_CI τ → y_fq 1 4 σ τ → 0 ≤ v → v ≤ 11 → Q (some (x_I v)) τ) : ∀ (N : Nat) (p d : Int) (τ : x_S), (11 - p).toNat = N → 0 ≤ p → p ≤ 11 → 0 ≤ d → d ≤ 12 → d ≤ p + 1 → y_CI τ → y_fq 1 4 σ τ → x_G E m_16 Q (t_16 2) [(0, x_R 1), (1, x_R 3), (2, x_I a2), (3, x_I a3), (4, x_I a4), (5, x_I p), (6, x_I d)] [] τ := by
  intro N
  induction N using Nat.strongRecOn with
  | ind N ih =>
    intro p d τ hN pL pH dL dH ex0 C F
    refine x_blk (b := 2) (a_16 E) rfl ?_
    unfold b_16_2
    refine x_iload rfl ?_
    refine x_if_le (by omega) (by omega) (fun z1 => ?_) (fun z1 => ?_)
    · skip
      refine x_blk (b := 1) (a_16 E) rfl ?_
      unfold b_16_1
      refine x_iload rfl ?_
      refine x_iret ?_
      exact k _ _ C F (by omega) (by omega) 
    · skip
      refine x_iload rfl ?_
      refine x_iload rfl ?_
      refine x_icmp_ge (by omega) (by omega) (by omega) (by omega) (fun z2 => ?_) (fun z2 => ?_)
      · skip
        refine x_iload rfl ?_
        refine x_iload rfl ?_
        refine x_iadd ?_
        refine x_aload rfl ?_
        refine x_lenG (n := 12) (L := 12) rfl (by decide) rfl (by decide) rfl ?_
        refine x_icmp_ge (by omega) (by omega) (by omega) (by omega) (fun z3 => ?_) (fun z3 => ?_)
        · skip
          refine x_aload rfl ?_
          refine x_getIG y_f1_4 C ?_
          intro g4a g4b
          refine x_if_ne (by omega) (by omega) (fun z5 => ?_) (fun z5 => ?_)
          · skip
            refine x_aload rfl ?_
            refine x_iload rfl ?_
            refine x_iload rfl ?_
            refine x_iload rfl ?_
            refine x_isub ?_
            refine x_iload rfl ?_
            refine x_isub ?_
            refine x_cV (fun _ => rfl) rfl (by decide) (Nat.le_of_ble_eq_true rfl) ?_
            refine sf_13_1 (by omega) (by omega) (by omega) (by omega) C (fun S6 v6 C6 f6 v6a v6b => ?_)
            have F6 := y_fq_tr (by decide) F f6
            refine x_istore ?_
            refine x_aload rfl ?_
            refine x_iload rfl ?_
            refine x_iload rfl ?_
            refine x_iadd ?_
            refine x_iload rfl ?_
            refine x_astG y_a3 C6 (by decide) F6 (by omega) (by omega) (by omega) (by omega) (fun S7 e7 C7 F7 => ?_)
            refine x_iload rfl ?_
            refine x_iload rfl ?_
            refine x_cS (fun _ => rfl) (Nat.le_of_ble_eq_true rfl) ?_
            refine sf_7 (by omega) (by omega) C7 (fun v8 v8a v8b => ?_)
            refine x_push 1 rfl ?_
            refine x_isub ?_
            refine x_iadd ?_
            refine x_istore ?_
            refine x_X_lo (lo' := [(0, x_R 1), (1, x_R 3), (2, x_I _), (3, x_I _), (4, x_I _), (5, x_I _), (6, x_I _), (7, x_I _)]) ⟨rfl, rfl, rfl, rfl, rfl, rfl, rfl, rfl, trivial⟩ ?_
            refine x_iinc 1 rfl rfl ?_
            refine x_goto ?_
            refine x_G_lo (lo' := [(0, x_R 1), (1, x_R 3), (2, x_I _), (3, x_I _), (4, x_I _), (5, x_I _), (6, x_I _)]) ⟨rfl, rfl, rfl, rfl, rfl, rfl, rfl, trivial⟩ ?_
            exact ih _ (by omega) _ _ _ rfl (by omega) (by omega) (by omega) (by omega) (by omega) C7 F7
          · skip
            refine x_blk (b := 1) (a_16 E) rfl ?_
            unfold b_16_1
            refine x_iload rfl ?_
            refine x_iret ?_
            exact k _ _ C F (by omega) (by omega) 
        · skip
          refine x_blk (b := 1) (a_16 E) rfl ?_
          unfold b_16_1
          refine x_iload rfl ?_
          refine x_iret ?_
          exact k _ _ C F (by omega) (by omega) 
      · skip
        refine x_blk (b := 1) (a_16 E) rfl ?_
        unfold b_16_1
        refine x_iload rfl ?_
        refine x_iret ?_
        exact k _ _ C F (by omega) (by omega) 
theorem sf_16_1_3 {E : q_E} {σ : x_S} {Q : Option q_V → x_S → Prop} {a2 a3 a4 : Int} (a2l : 0 ≤ a2) (a2h : a2 ≤ 5) (a3l : 7 ≤ a3) (a3h : a3 ≤ 11) (a4l : (-1) ≤ a4) (a4h : a4 ≤ 15) (C0 : y_CI σ) (k : ∀ τ v, y_CI τ → y_fq 1 4 σ τ → 0 ≤ v → v ≤ 11 → Q (some (x_I v)) τ) : x_P E 16 [x_R 1, x_R 3, x_I a2, x_I a3, x_I a4] σ Q := by
  refine x_Mt e_16 (h_16 E) (Nat.le_of_ble_eq_true rfl) t_16 rfl ?_
  refine x_blk (b := 0) (a_16 E) rfl ?_
  unfold b_16_0
  refine x_push 0 rfl ?_
  refine x_istore ?_
  refine x_push 1 rfl ?_
  refine x_istore ?_
  refine x_X_lo (lo' := [(0, x_R 1), (1, x_R 3), (2, x_I _), (3, x_I _), (4, x_I _), (5, x_I _), (6, x_I _)]) ⟨rfl, rfl, rfl, rfl, rfl, rfl, rfl, trivial⟩ ?_
  refine x_fall ?_
  refine x_G_lo (lo' := [(0, x_R 1), (1, x_R 3), (2, x_I _), (3, x_I _), (4, x_I _), (5, x_I _), (6, x_I _)]) ⟨rfl, rfl, rfl, rfl, rfl, rfl, rfl, trivial⟩ ?_
  exact sf_16_1_3_b2 a2l a2h a3l a3h a4l a4h C0 k  _ _ _ _ rfl (by omega) (by omega) (by omega) (by omega) (by omega) C0 (y_fr_rf (lo := 1) (hi := 4))
theorem sf_19_1_3 {E : q_E} {σ : x_S} {Q : Option q_V → x_S → Prop} (C0 : y_CI σ) (k : ∀ τ, y_CI τ → y_fq 1 4 σ τ → Q none τ) : x_P E 19 [x_R 1, x_R 3] σ Q := by
  refine x_Mt e_19 (h_19 E) (Nat.le_of_ble_eq_true rfl) t_19 rfl ?_
  refine x_blk (b := 0) (a_19 E) rfl ?_
  unfold b_19_0
  refine x_aload rfl ?_
  refine x_lenG (n := 12) (L := 12) rfl (by decide) rfl (by decide) rfl ?_
  refine x_push 12 rfl ?_
  refine x_icmp_ge (by omega) (by omega) (by omega) (by omega) (fun z => absurd z (by omega)) (fun z1 => ?_)
  refine x_blk (b := 1) (a_19 E) rfl ?_
  unfold b_19_1
  refine x_aload rfl ?_
  refine x_push 0 rfl ?_
  refine x_aload rfl ?_
  refine x_push 2 rfl ?_
  refine x_cV (fun _ => rfl) rfl (by decide) (Nat.le_of_ble_eq_true rfl) ?_
  refine sf_8_1 (by omega) (by omega) C0 (fun S2 v2 C2 f2 v2a v2b k2_0 => ?_)
  have F2 := y_fq_tr (by decide) (y_fr_rf (lo := 1) (hi := 4)) f2
  refine x_astG y_a3 C2 (by decide) F2 (by omega) (by omega) (by omega) (by omega) (fun S3 e3 C3 F3 => ?_)
  refine x_aload rfl ?_
  refine x_push 1 rfl ?_
  refine x_aload rfl ?_
  refine x_push 3 rfl ?_
  refine x_cV (fun _ => rfl) rfl (by decide) (Nat.le_of_ble_eq_true rfl) ?_
  refine sf_8_1 (by omega) (by omega) C3 (fun S4 v4 C4 f4 v4a v4b k4_0 => ?_)
  have F4 := y_fq_tr (by decide) F3 f4
  refine x_astG y_a3 C4 (by decide) F4 (by omega) (by omega) (by omega) (by omega) (fun S5 e5 C5 F5 => ?_)
  refine x_aload rfl ?_
  refine x_push 2 rfl ?_
  refine x_aload rfl ?_
  refine x_cV (fun _ => rfl) rfl (by decide) (Nat.le_of_ble_eq_true rfl) ?_
  refine sf_15_1  C5 (fun S6 v6 C6 f6 v6a v6b => ?_)
  have F6 := y_fq_tr (by decide) F5 f6
  refine x_astG y_a3 C6 (by decide) F6 (by omega) (by omega) (by omega) (by omega) (fun S7 e7 C7 F7 => ?_)
  refine x_aload rfl ?_
  refine x_push 3 rfl ?_
  refine x_aload rfl ?_
  refine x_cV (fun _ => rfl) rfl (by decide) (Nat.le_of_ble_eq_true rfl) ?_
  refine sf_20_1  C7 (fun S8 v8 C8 f8 v8a v8b => ?_)
  have F8 := y_fq_tr (by decide) F7 f8
  refine x_astG y_a3 C8 (by decide) F8 (by omega) (by omega) (by omega) (by omega) (fun S9 e9 C9 F9 => ?_)
  refine x_aload rfl ?_
  refine x_push 61 rfl ?_
  refine x_cV (fun _ => rfl) rfl (by decide) (Nat.le_of_ble_eq_true rfl) ?_
  refine sf_9_1 (by omega) (by omega) C9 (fun S10 C10 f10 => ?_)
  have F10 := y_fq_tr (by decide) F9 f10
  refine x_aload rfl ?_
  refine x_push 4 rfl ?_
  refine x_aload rfl ?_
  refine x_aload rfl ?_
  refine x_push 5 rfl ?_
  refine x_push 7 rfl ?_
  refine x_aload rfl ?_
  refine x_push 2 rfl ?_
  refine x_ialdG y_a3 C10 (by omega) (by omega) (fun v11 v11a v11b => ?_)
  refine x_cV (fun _ => rfl) rfl (by decide) (Nat.le_of_ble_eq_true rfl) ?_
  refine sf_16_1_3 (by omega) (by omega) (by omega) (by omega) (by omega) (by omega) C10 (fun S12 v12 C12 f12 v12a v12b => ?_)
  have F12 := y_fq_tr (by decide) F10 f12
  refine x_astG y_a3 C12 (by decide) F12 (by omega) (by omega) (by omega) (by omega) (fun S13 e13 C13 F13 => ?_)
  refine x_vret ?_
  exact k _ C13 F13 
theorem sf_21_11_3 {E : q_E} {σ : x_S} {Q : Option q_V → x_S → Prop} {a1 : Int} (a1l : (-2147483648) ≤ a1) (a1h : a1 ≤ 2147483647) (C0 : y_CI σ) (k : ∀ τ, y_CI τ → y_fq 11 17 σ τ → Q none τ) : x_P E 21 [x_R 11, x_I a1, x_R 3] σ Q := by
  refine x_Mt e_21 (h_21 E) (Nat.le_of_ble_eq_true rfl) t_21 rfl ?_
  refine x_blk (b := 0) (a_21 E) rfl ?_
  unfold b_21_0
  refine x_iload rfl ?_
  refine x_if_lt (by omega) (by omega) (fun z1 => ?_) (fun z1 => ?_)
  · skip
    refine x_blk (b := 1) (a_21 E) rfl ?_
    unfold b_21_1
    refine x_vret ?_
    exact k _ C0 (y_fr_rf (lo := 11) (hi := 17)) 
  · skip
    refine x_iload rfl ?_
    refine x_aload rfl ?_
    refine x_getIG y_f11_6 C0 ?_
    intro g2a g2b
    refine x_icmp_gt (by omega) (by omega) (by omega) (by omega) (fun z3 => ?_) (fun z3 => ?_)
    · skip
      refine x_iload rfl ?_
      refine x_push 16 rfl ?_
      refine x_icmp_ge (by omega) (by omega) (by omega) (by omega) (fun z4 => ?_) (fun z4 => ?_)
      · skip
        refine x_aload rfl ?_
        refine x_lenG (n := 12) (L := 12) rfl (by decide) rfl (by decide) rfl ?_
        refine x_push 12 rfl ?_
        refine x_icmp_ge (by omega) (by omega) (by omega) (by omega) (fun z => absurd z (by omega)) (fun z5 => ?_)
        refine x_blk (b := 2) (a_21 E) rfl ?_
        unfold b_21_2
        refine x_aload rfl ?_
        refine x_push 0 rfl ?_
        refine x_aload rfl ?_
        refine x_getR (r := 11) rfl (by decide) (by decide) rfl ?_
        refine x_iload rfl ?_
        refine x_push 12 rfl ?_
        refine x_imul ?_
        refine x_push 12 rfl ?_
        refine x_copyG y_a3 y_a16 (by decide) (by decide) C0 (by decide) (y_fr_rf (lo := 11) (hi := 17)) (by omega) (by omega) (by omega) (by omega) (by omega) (Nat.le_of_ble_eq_true rfl) (fun S6 e6 C6 F6 => ?_)
        refine x_iload rfl ?_
        refine x_aload rfl ?_
        refine x_getIG y_f11_6 C6 ?_
        have q7_0 : S6 11 6 = σ 11 6 := x_cp_nr e6 (by decide)
        simp only [q7_0]
        intro g7a g7b
        refine x_icmp_ne (by omega) (by omega) (by omega) (by omega) (fun z8 => ?_) (fun z8 => ?_)
        · skip
          refine x_aload rfl ?_
          refine x_dup rfl ?_
          refine x_getIG y_f11_6 C6 ?_
          have q9_0 : S6 11 6 = σ 11 6 := x_cp_nr e6 (by decide)
          simp only [q9_0]
          intro g9a g9b
          refine x_push 1 rfl ?_
          refine x_iadd ?_
          refine x_putIG y_f11_6 ⟨by decide, rfl⟩ (by decide) C6 (by decide) F6 (by omega) (by omega) (fun S10 e10 C10 F10 => ?_)
          refine x_fall ?_
          refine x_blk (b := 3) (a_21 E) rfl ?_
          unfold b_21_3
          refine x_vret ?_
          exact k _ C10 F10 
        · skip
          refine x_blk (b := 3) (a_21 E) rfl ?_
          unfold b_21_3
          refine x_vret ?_
          exact k _ C6 F6 
      · skip
        refine x_blk (b := 1) (a_21 E) rfl ?_
        unfold b_21_1
        refine x_vret ?_
        exact k _ C0 (y_fr_rf (lo := 11) (hi := 17)) 
    · skip
      refine x_blk (b := 1) (a_21 E) rfl ?_
      unfold b_21_1
      refine x_vret ?_
      exact k _ C0 (y_fr_rf (lo := 11) (hi := 17)) 
theorem sf_36_11_3 {E : q_E} {σ : x_S} {Q : Option q_V → x_S → Prop} {a1 a3 : Int} (a1l : (-2147483648) ≤ a1) (a1h : a1 ≤ 2147483647) (a3l : (-2147483648) ≤ a3) (a3h : a3 ≤ 2147483647) (C0 : y_CI σ) (k : ∀ τ, y_CI τ → y_fq 12 14 σ τ → Q none τ) : x_P E 36 [x_R 11, x_I a1, x_R 3, x_I a3] σ Q := by
  refine x_Mt e_36 (h_36 E) (Nat.le_of_ble_eq_true rfl) t_36 rfl ?_
  refine x_blk (b := 0) (a_36 E) rfl ?_
  unfold b_36_0
  refine x_iload rfl ?_
  refine x_push 3 rfl ?_
  refine x_cS (fun _ => rfl) (Nat.le_of_ble_eq_true rfl) ?_
  refine sf_2 (by omega) (by omega) (by omega) (by omega) C0 (fun y1 => ?_) (fun y1 => ?_)
  · skip
    refine x_if_eq (by omega) (by omega) (fun z => absurd z (by omega)) (fun z2 => ?_)
    refine x_iload rfl ?_
    refine x_if_le (by omega) (by omega) (fun z3 => ?_) (fun z3 => ?_)
    · skip
      refine x_blk (b := 1) (a_36 E) rfl ?_
      unfold b_36_1
      refine x_vret ?_
      exact k _ C0 (y_fr_rf (lo := 12) (hi := 14)) 
    · skip
      refine x_iload rfl ?_
      refine x_push 11 rfl ?_
      refine x_icmp_gt (by omega) (by omega) (by omega) (by omega) (fun z4 => ?_) (fun z4 => ?_)
      · skip
        refine x_iload rfl ?_
        refine x_aload rfl ?_
        refine x_lenG (n := 12) (L := 12) rfl (by decide) rfl (by decide) rfl ?_
        refine x_icmp_gt (by omega) (by omega) (by omega) (by omega) (fun z5 => ?_) (fun z => absurd (by omega) z)
        refine x_aload rfl ?_
        refine x_push 0 rfl ?_
        refine x_aload rfl ?_
        refine x_getR (r := 11) rfl (by decide) (by decide) rfl ?_
        refine x_iload rfl ?_
        refine x_push 11 rfl ?_
        refine x_imul ?_
        refine x_iload rfl ?_
        refine x_copyG y_a3 y_a12 (by decide) (by decide) C0 (by decide) (y_fr_rf (lo := 12) (hi := 14)) (by omega) (by omega) (by omega) (by omega) (by omega) (Nat.le_of_ble_eq_true rfl) (fun S6 e6 C6 F6 => ?_)
        refine x_aload rfl ?_
        refine x_getR (r := 11) rfl (by decide) (by decide) rfl ?_
        refine x_iload rfl ?_
        refine x_iload rfl ?_
        refine x_astG y_a13 C6 (by decide) F6 (by omega) (by omega) (by omega) (by omega) (fun S7 e7 C7 F7 => ?_)
        refine x_fall ?_
        refine x_blk (b := 1) (a_36 E) rfl ?_
        unfold b_36_1
        refine x_vret ?_
        exact k _ C7 F7 
      · skip
        refine x_blk (b := 1) (a_36 E) rfl ?_
        unfold b_36_1
        refine x_vret ?_
        exact k _ C0 (y_fr_rf (lo := 12) (hi := 14)) 
  · skip
    refine x_if_eq (by omega) (by omega) (fun z8 => ?_) (fun z => absurd (by omega) z)
    refine x_blk (b := 1) (a_36 E) rfl ?_
    unfold b_36_1
    refine x_vret ?_
    exact k _ C0 (y_fr_rf (lo := 12) (hi := 14)) 
theorem sf_35_1_11 {E : q_E} {σ : x_S} {Q : Option q_V → x_S → Prop} (C0 : y_CI σ) (k : ∀ τ, y_CI τ → y_fq 1 14 σ τ → Q none τ) : x_P E 35 [x_R 1, x_R 11] σ Q := by
  refine x_Mt e_35 (h_35 E) (Nat.le_of_ble_eq_true rfl) t_35 rfl ?_
  refine x_blk (b := 0) (a_35 E) rfl ?_
  unfold b_35_0
  refine x_aload rfl ?_
  refine x_push 3 rfl ?_
  refine x_cV (fun _ => rfl) rfl (by decide) (Nat.le_of_ble_eq_true rfl) ?_
  refine sf_8_1 (by omega) (by omega) C0 (fun S1 v1 C1 f1 v1a v1b k1_0 => ?_)
  have F1 := y_fq_tr (by decide) (y_fr_rf (lo := 1) (hi := 14)) f1
  refine x_istore ?_
  refine x_aload rfl ?_
  refine x_push 61 rfl ?_
  refine x_cV (fun _ => rfl) rfl (by decide) (Nat.le_of_ble_eq_true rfl) ?_
  refine sf_9_1 (by omega) (by omega) C1 (fun S2 C2 f2 => ?_)
  have F2 := y_fq_tr (by decide) F1 f2
  refine x_aload rfl ?_
  refine x_aload rfl ?_
  refine x_getR (r := 1) rfl (by decide) (by decide) rfl ?_
  refine x_push 0 rfl ?_
  refine x_push 11 rfl ?_
  refine x_push (-1) rfl ?_
  refine x_cV (fun _ => rfl) rfl (by decide) (Nat.le_of_ble_eq_true rfl) ?_
  refine sf_16_1_3 (by omega) (by omega) (by omega) (by omega) (by omega) (by omega) C2 (fun S3 v3 C3 f3 v3a v3b => ?_)
  have F3 := y_fq_tr (by decide) F2 f3
  refine x_istore ?_
  refine x_X_lo (lo' := [(0, x_R 1), (1, x_R 11), (2, x_I _), (3, x_I _)]) ⟨rfl, rfl, rfl, rfl, trivial⟩ ?_
  refine x_aload rfl ?_
  refine x_getIG y_f1_4 C3 ?_
  intro g4a g4b
  refine x_if_ne (by omega) (by omega) (fun z5 => ?_) (fun z5 => ?_)
  · skip
    refine x_aload rfl ?_
    refine x_iload rfl ?_
    refine x_aload rfl ?_
    refine x_getR (r := 1) rfl (by decide) (by decide) rfl ?_
    refine x_iload rfl ?_
    refine x_cV (fun _ => rfl) rfl (by decide) (Nat.le_of_ble_eq_true rfl) ?_
    refine sf_36_11_3 (by omega) (by omega) (by omega) (by omega) C3 (fun S6 C6 f6 => ?_)
    have F6 := y_fq_tr (by decide) F3 f6
    refine x_fall ?_
    refine x_blk (b := 1) (a_35 E) rfl ?_
    unfold b_35_1
    refine x_vret ?_
    exact k _ C6 F6 
  · skip
    refine x_blk (b := 1) (a_35 E) rfl ?_
    unfold b_35_1
    refine x_vret ?_
    exact k _ C3 F3 
theorem sf_14_1_11 {E : q_E} {σ : x_S} {Q : Option q_V → x_S → Prop} (C0 : y_CI σ) (k : ∀ τ, y_CI τ → y_fq 1 17 σ τ → Q none τ) : x_P E 14 [x_R 1, x_R 11] σ Q := by
  refine x_Mt e_14 (h_14 E) (Nat.le_of_ble_eq_true rfl) t_14 rfl ?_
  refine x_blk (b := 0) (a_14 E) rfl ?_
  unfold b_14_0
  refine x_aload rfl ?_
  refine x_cV (fun _ => rfl) rfl (by decide) (Nat.le_of_ble_eq_true rfl) ?_
  refine sf_4_1  C0 (fun v1 v1a v1b k1_0 => ?_)
  refine x_tsw (109) rfl rfl (by omega) (by omega) (fun z2 => ?_) (fun i2 b2 hb2 z2 => ?_) (fun z2 => ?_)
  · skip
    refine x_blk (b := 2) (a_14 E) rfl ?_
    unfold b_14_2
    refine x_aload rfl ?_
    refine x_push 1 rfl ?_
    refine x_putZG y_f1_4 rfl (by decide) C0 (by decide) (y_fr_rf (lo := 1) (hi := 17)) (by omega) (fun S3 e3 C3 F3 => ?_)
    refine x_fall ?_
    refine x_blk (b := 6) (a_14 E) rfl ?_
    unfold b_14_6
    refine x_vret ?_
    exact k _ C3 F3 
  · match i2, hb2 with
    | 0, hb2 =>
      cases hb2
      refine x_blk (b := 1) (a_14 E) rfl ?_
      unfold b_14_1
      refine x_aload rfl ?_
      refine x_dup rfl ?_
      refine x_getIG y_f1_3 C0 ?_
      intro g4a g4b
      refine x_push 1 rfl ?_
      refine x_iadd ?_
      refine x_putIG y_f1_3 ⟨by decide, rfl⟩ (by decide) C0 (by decide) (y_fr_rf (lo := 1) (hi := 17)) (by omega) (by omega) (fun S5 e5 C5 F5 => ?_)
      refine x_aload rfl ?_
      refine x_aload rfl ?_
      refine x_cV (fun _ => rfl) rfl (by decide) (Nat.le_of_ble_eq_true rfl) ?_
      refine sf_28_1_11  C5 (fun S6 C6 f6 => ?_)
      have F6 := y_fq_tr (by decide) F5 f6
      refine x_goto ?_
      refine x_blk (b := 6) (a_14 E) rfl ?_
      unfold b_14_6
      refine x_vret ?_
      exact k _ C6 F6 
    | 1, hb2 =>
      cases hb2
      refine x_blk (b := 2) (a_14 E) rfl ?_
      unfold b_14_2
      refine x_aload rfl ?_
      refine x_push 1 rfl ?_
      refine x_putZG y_f1_4 rfl (by decide) C0 (by decide) (y_fr_rf (lo := 1) (hi := 17)) (by omega) (fun S7 e7 C7 F7 => ?_)
      refine x_fall ?_
      refine x_blk (b := 6) (a_14 E) rfl ?_
      unfold b_14_6
      refine x_vret ?_
      exact k _ C7 F7 
    | 2, hb2 =>
      cases hb2
      refine x_blk (b := 2) (a_14 E) rfl ?_
      unfold b_14_2
      refine x_aload rfl ?_
      refine x_push 1 rfl ?_
      refine x_putZG y_f1_4 rfl (by decide) C0 (by decide) (y_fr_rf (lo := 1) (hi := 17)) (by omega) (fun S8 e8 C8 F8 => ?_)
      refine x_fall ?_
      refine x_blk (b := 6) (a_14 E) rfl ?_
      unfold b_14_6
      refine x_vret ?_
      exact k _ C8 F8 
    | 3, hb2 =>
      cases hb2
      refine x_blk (b := 3) (a_14 E) rfl ?_
      unfold b_14_3
      refine x_aload rfl ?_
      refine x_dup rfl ?_
      refine x_getIG y_f1_3 C0 ?_
      intro g9a g9b
      refine x_push 1 rfl ?_
      refine x_iadd ?_
      refine x_putIG y_f1_3 ⟨by decide, rfl⟩ (by decide) C0 (by decide) (y_fr_rf (lo := 1) (hi := 17)) (by omega) (by omega) (fun S10 e10 C10 F10 => ?_)
      refine x_aload rfl ?_
      refine x_aload rfl ?_
      refine x_cV (fun _ => rfl) rfl (by decide) (Nat.le_of_ble_eq_true rfl) ?_
      refine sf_120_1_11  C10 (fun S11 C11 f11 => ?_)
      have F11 := y_fq_tr (by decide) F10 f11
      refine x_goto ?_
      refine x_blk (b := 6) (a_14 E) rfl ?_
      unfold b_14_6
      refine x_vret ?_
      exact k _ C11 F11 
    | 4, hb2 =>
      cases hb2
      refine x_blk (b := 2) (a_14 E) rfl ?_
      unfold b_14_2
      refine x_aload rfl ?_
      refine x_push 1 rfl ?_
      refine x_putZG y_f1_4 rfl (by decide) C0 (by decide) (y_fr_rf (lo := 1) (hi := 17)) (by omega) (fun S12 e12 C12 F12 => ?_)
      refine x_fall ?_
      refine x_blk (b := 6) (a_14 E) rfl ?_
      unfold b_14_6
      refine x_vret ?_
      exact k _ C12 F12 
    | 5, hb2 =>
      cases hb2
      refine x_blk (b := 4) (a_14 E) rfl ?_
      unfold b_14_4
      refine x_aload rfl ?_
      refine x_dup rfl ?_
      refine x_getIG y_f1_3 C0 ?_
      intro g13a g13b
      refine x_push 1 rfl ?_
      refine x_iadd ?_
      refine x_putIG y_f1_3 ⟨by decide, rfl⟩ (by decide) C0 (by decide) (y_fr_rf (lo := 1) (hi := 17)) (by omega) (by omega) (fun S14 e14 C14 F14 => ?_)
      refine x_aload rfl ?_
      refine x_aload rfl ?_
      refine x_getR (r := 1) rfl (by decide) (by decide) rfl ?_
      refine x_cV (fun _ => rfl) rfl (by decide) (Nat.le_of_ble_eq_true rfl) ?_
      refine sf_19_1_3  C14 (fun S15 C15 f15 => ?_)
      have F15 := y_fq_tr (by decide) F14 f15
      refine x_aload rfl ?_
      refine x_aload rfl ?_
      refine x_getIG y_f1_4 C15 ?_
      intro g16a g16b
      refine x_if_ne (by omega) (by omega) (fun z17 => ?_) (fun z17 => ?_)
      · skip
        refine x_aload rfl ?_
        refine x_getIG y_f11_6 C15 ?_
        intro g18a g18b
        refine x_push 16 rfl ?_
        refine x_icmp_lt (by omega) (by omega) (by omega) (by omega) (fun z19 => ?_) (fun z19 => ?_)
        · skip
          refine x_blk (b := 8) (a_14 E) rfl ?_
          unfold b_14_8
          refine x_push 0 rfl ?_
          refine x_fall ?_
          refine x_blk (b := 9) (a_14 E) rfl ?_
          unfold b_14_9
          refine x_putZG y_f1_4 rfl (by decide) C15 (by decide) F15 (by omega) (fun S20 e20 C20 F20 => ?_)
          refine x_aload rfl ?_
          refine x_getIG y_f1_4 C20 ?_
          intro g21a g21b
          have w21 := x_up_at e20
          refine x_if_ne (by omega) (by omega) (fun z22 => ?_) (fun z22 => ?_)
          · skip
            refine x_aload rfl ?_
            refine x_aload rfl ?_
            refine x_getIG y_f11_6 C20 ?_
            have q23_0 : S20 11 6 = S15 11 6 := x_up_nr e20 (by decide)
            simp only [q23_0]
            intro g23a g23b
            refine x_aload rfl ?_
            refine x_getR (r := 1) rfl (by decide) (by decide) rfl ?_
            refine x_cV (fun _ => rfl) rfl (by decide) (Nat.le_of_ble_eq_true rfl) ?_
            refine sf_21_11_3 (by omega) (by omega) C20 (fun S24 C24 f24 => ?_)
            have F24 := y_fq_tr (by decide) F20 f24
            refine x_goto ?_
            refine x_blk (b := 6) (a_14 E) rfl ?_
            unfold b_14_6
            refine x_vret ?_
            exact k _ C24 F24 
          · skip
            refine x_blk (b := 6) (a_14 E) rfl ?_
            unfold b_14_6
            refine x_vret ?_
            exact k _ C20 F20 
        · skip
          refine x_fall ?_
          refine x_blk (b := 7) (a_14 E) rfl ?_
          unfold b_14_7
          refine x_push 1 rfl ?_
          refine x_goto ?_
          refine x_blk (b := 9) (a_14 E) rfl ?_
          unfold b_14_9
          refine x_putZG y_f1_4 rfl (by decide) C15 (by decide) F15 (by omega) (fun S25 e25 C25 F25 => ?_)
          refine x_aload rfl ?_
          refine x_getIG y_f1_4 C25 ?_
          intro g26a g26b
          have w26 := x_up_at e25
          refine x_if_ne (by omega) (by omega) (fun z27 => ?_) (fun z27 => ?_)
          · skip
            refine x_aload rfl ?_
            refine x_aload rfl ?_
            refine x_getIG y_f11_6 C25 ?_
            have q28_0 : S25 11 6 = S15 11 6 := x_up_nr e25 (by decide)
            simp only [q28_0]
            intro g28a g28b
            refine x_aload rfl ?_
            refine x_getR (r := 1) rfl (by decide) (by decide) rfl ?_
            refine x_cV (fun _ => rfl) rfl (by decide) (Nat.le_of_ble_eq_true rfl) ?_
            refine sf_21_11_3 (by omega) (by omega) C25 (fun S29 C29 f29 => ?_)
            have F29 := y_fq_tr (by decide) F25 f29
            refine x_goto ?_
            refine x_blk (b := 6) (a_14 E) rfl ?_
            unfold b_14_6
            refine x_vret ?_
            exact k _ C29 F29 
          · skip
            refine x_blk (b := 6) (a_14 E) rfl ?_
            unfold b_14_6
            refine x_vret ?_
            exact k _ C25 F25 
      · skip
        refine x_blk (b := 7) (a_14 E) rfl ?_
        unfold b_14_7
        refine x_push 1 rfl ?_
        refine x_goto ?_
        refine x_blk (b := 9) (a_14 E) rfl ?_
        unfold b_14_9
        refine x_putZG y_f1_4 rfl (by decide) C15 (by decide) F15 (by omega) (fun S30 e30 C30 F30 => ?_)
        refine x_aload rfl ?_
        refine x_getIG y_f1_4 C30 ?_
        intro g31a g31b
        have w31 := x_up_at e30
        refine x_if_ne (by omega) (by omega) (fun z32 => ?_) (fun z32 => ?_)
        · skip
          refine x_aload rfl ?_
          refine x_aload rfl ?_
          refine x_getIG y_f11_6 C30 ?_
          have q33_0 : S30 11 6 = S15 11 6 := x_up_nr e30 (by decide)
          simp only [q33_0]
          intro g33a g33b
          refine x_aload rfl ?_
          refine x_getR (r := 1) rfl (by decide) (by decide) rfl ?_
          refine x_cV (fun _ => rfl) rfl (by decide) (Nat.le_of_ble_eq_true rfl) ?_
          refine sf_21_11_3 (by omega) (by omega) C30 (fun S34 C34 f34 => ?_)
          have F34 := y_fq_tr (by decide) F30 f34
          refine x_goto ?_
          refine x_blk (b := 6) (a_14 E) rfl ?_
          unfold b_14_6
          refine x_vret ?_
          exact k _ C34 F34 
        · skip
          refine x_blk (b := 6) (a_14 E) rfl ?_
          unfold b_14_6
          refine x_vret ?_
          exact k _ C30 F30 
    | 6, hb2 =>
      cases hb2
      refine x_blk (b := 2) (a_14 E) rfl ?_
      unfold b_14_2
      refine x_aload rfl ?_
      refine x_push 1 rfl ?_
      refine x_putZG y_f1_4 rfl (by decide) C0 (by decide) (y_fr_rf (lo := 1) (hi := 17)) (by omega) (fun S35 e35 C35 F35 => ?_)
      refine x_fall ?_
      refine x_blk (b := 6) (a_14 E) rfl ?_
      unfold b_14_6
      refine x_vret ?_
      exact k _ C35 F35 
    | 7, hb2 =>
      cases hb2
      refine x_blk (b := 5) (a_14 E) rfl ?_
      unfold b_14_5
      refine x_aload rfl ?_
      refine x_dup rfl ?_
      refine x_getIG y_f1_3 C0 ?_
      intro g36a g36b
      refine x_push 1 rfl ?_
      refine x_iadd ?_
      refine x_putIG y_f1_3 ⟨by decide, rfl⟩ (by decide) C0 (by decide) (y_fr_rf (lo := 1) (hi := 17)) (by omega) (by omega) (fun S37 e37 C37 F37 => ?_)
      refine x_aload rfl ?_
      refine x_aload rfl ?_
      refine x_cV (fun _ => rfl) rfl (by decide) (Nat.le_of_ble_eq_true rfl) ?_
      refine sf_35_1_11  C37 (fun S38 C38 f38 => ?_)
      have F38 := y_fq_tr (by decide) F37 f38
      refine x_goto ?_
      refine x_blk (b := 6) (a_14 E) rfl ?_
      unfold b_14_6
      refine x_vret ?_
      exact k _ C38 F38 
    | (n + 8), hb2 => simp at hb2
  · skip
    refine x_blk (b := 2) (a_14 E) rfl ?_
    unfold b_14_2
    refine x_aload rfl ?_
    refine x_push 1 rfl ?_
    refine x_putZG y_f1_4 rfl (by decide) C0 (by decide) (y_fr_rf (lo := 1) (hi := 17)) (by omega) (fun S39 e39 C39 F39 => ?_)
    refine x_fall ?_
    refine x_blk (b := 6) (a_14 E) rfl ?_
    unfold b_14_6
    refine x_vret ?_
    exact k _ C39 F39 
theorem sf_6_11 {E : q_E} {σ : x_S} {Q : Option q_V → x_S → Prop} {a1 a2 : Int} (a1l : (-2147483648) ≤ a1) (a1h : a1 ≤ 2147483647) (a2l : (-2147483648) ≤ a2) (a2h : a2 ≤ 2147483647) (C0 : y_CI σ) (k : ∀ v, 0 ≤ v → v ≤ 15 → Q (some (x_I v)) σ) : x_P E 6 [x_R 11, x_I a1, x_I a2] σ Q := by
  refine x_Mt e_6 (h_6 E) (Nat.le_of_ble_eq_true rfl) t_6 rfl ?_
  refine x_blk (b := 0) (a_6 E) rfl ?_
  unfold b_6_0
  refine x_iload rfl ?_
  refine x_push 16 rfl ?_
  refine x_cS (fun _ => rfl) (Nat.le_of_ble_eq_true rfl) ?_
  refine sf_2 (by omega) (by omega) (by omega) (by omega) C0 (fun y1 => ?_) (fun y1 => ?_)
  · skip
    refine x_if_eq (by omega) (by omega) (fun z => absurd z (by omega)) (fun z2 => ?_)
    refine x_iload rfl ?_
    refine x_push 12 rfl ?_
    refine x_cS (fun _ => rfl) (Nat.le_of_ble_eq_true rfl) ?_
    refine sf_2 (by omega) (by omega) (by omega) (by omega) C0 (fun y3 => ?_) (fun y3 => ?_)
    · skip
      refine x_if_eq (by omega) (by omega) (fun z => absurd z (by omega)) (fun z4 => ?_)
      refine x_aload rfl ?_
      refine x_getR (r := 11) rfl (by decide) (by decide) rfl ?_
      refine x_iload rfl ?_
      refine x_push 12 rfl ?_
      refine x_imul ?_
      refine x_iload rfl ?_
      refine x_iadd ?_
      refine x_ialdG y_a16 C0 (by omega) (by omega) (fun v5 v5a v5b => ?_)
      refine x_goto ?_
      refine x_blk (b := 2) (a_6 E) rfl ?_
      unfold b_6_2
      refine x_iret ?_
      exact k _ (by omega) (by omega) 
    · skip
      refine x_if_eq (by omega) (by omega) (fun z6 => ?_) (fun z => absurd (by omega) z)
      refine x_blk (b := 1) (a_6 E) rfl ?_
      unfold b_6_1
      refine x_push 0 rfl ?_
      refine x_fall ?_
      refine x_blk (b := 2) (a_6 E) rfl ?_
      unfold b_6_2
      refine x_iret ?_
      exact k _ (by omega) (by omega) 
  · skip
    refine x_if_eq (by omega) (by omega) (fun z7 => ?_) (fun z => absurd (by omega) z)
    refine x_blk (b := 1) (a_6 E) rfl ?_
    unfold b_6_1
    refine x_push 0 rfl ?_
    refine x_fall ?_
    refine x_blk (b := 2) (a_6 E) rfl ?_
    unfold b_6_2
    refine x_iret ?_
    exact k _ (by omega) (by omega) 
theorem sf_10 {E : q_E} {σ : x_S} {Q : Option q_V → x_S → Prop} {a0 a1 a2 a3 : Int} (a0l : 0 ≤ a0) (a0h : a0 ≤ 15) (a1l : 0 ≤ a1) (a1h : a1 ≤ 15) (a2l : 0 ≤ a2) (a2h : a2 ≤ 15) (a3l : 0 ≤ a3) (a3h : a3 ≤ 2) (C0 : y_CI σ) (k : ∀ v, 0 ≤ v → v ≤ 947 → v = ((a0 * 3 + a1) * 5 + a2) * 3 + a3 → Q (some (x_I v)) σ) : x_P E 10 [x_I a0, x_I a1, x_I a2, x_I a3] σ Q := by
  refine x_Mt e_10 (h_10 E) (Nat.le_of_ble_eq_true rfl) t_10 rfl ?_
  refine x_blk (b := 0) (a_10 E) rfl ?_
  unfold b_10_0
  refine x_iload rfl ?_
  refine x_push 3 rfl ?_
  refine x_imul ?_
  refine x_iload rfl ?_
  refine x_iadd ?_
  refine x_push 5 rfl ?_
  refine x_imul ?_
  refine x_iload rfl ?_
  refine x_iadd ?_
  refine x_push 3 rfl ?_
  refine x_imul ?_
  refine x_iload rfl ?_
  refine x_iadd ?_
  refine x_iret ?_
  exact k _ (by omega) (by omega) (by omega)
theorem sf_11_11 {E : q_E} {σ : x_S} {Q : Option q_V → x_S → Prop} {a1 : Int} (a1l : (-2147483648) ≤ a1) (a1h : a1 ≤ 2147483647) (C0 : y_CI σ) (k : ∀ v, 0 ≤ v → v ≤ 3 → Q (some (x_I v)) σ) : x_P E 11 [x_R 11, x_I a1] σ Q := by
  refine x_Mt e_11 (h_11 E) (Nat.le_of_ble_eq_true rfl) t_11 rfl ?_
  refine x_blk (b := 0) (a_11 E) rfl ?_
  unfold b_11_0
  refine x_iload rfl ?_
  refine x_push 2 rfl ?_
  refine x_cS (fun _ => rfl) (Nat.le_of_ble_eq_true rfl) ?_
  refine sf_2 (by omega) (by omega) (by omega) (by omega) C0 (fun y1 => ?_) (fun y1 => ?_)
  · skip
    refine x_if_eq (by omega) (by omega) (fun z => absurd z (by omega)) (fun z2 => ?_)
    refine x_aload rfl ?_
    refine x_getR (r := 11) rfl (by decide) (by decide) rfl ?_
    refine x_iload rfl ?_
    refine x_ialdG y_a14 C0 (by omega) (by omega) (fun v3 v3a v3b => ?_)
    refine x_goto ?_
    refine x_blk (b := 2) (a_11 E) rfl ?_
    unfold b_11_2
    refine x_iret ?_
    exact k _ (by omega) (by omega) 
  · skip
    refine x_if_eq (by omega) (by omega) (fun z4 => ?_) (fun z => absurd (by omega) z)
    refine x_blk (b := 1) (a_11 E) rfl ?_
    unfold b_11_1
    refine x_push 0 rfl ?_
    refine x_fall ?_
    refine x_blk (b := 2) (a_11 E) rfl ?_
    unfold b_11_2
    refine x_iret ?_
    exact k _ (by omega) (by omega) 
theorem sf_12_11 {E : q_E} {σ : x_S} {Q : Option q_V → x_S → Prop} {a1 a2 : Int} (a1l : 0 ≤ a1) (a1h : a1 ≤ 15) (a2l : 0 ≤ a2) (a2h : a2 ≤ 2) (C0 : y_CI σ) (k : ∀ τ, y_CI τ → y_fq 17 18 σ τ → Q none τ) : x_P E 12 [x_R 11, x_I a1, x_I a2] σ Q := by
  refine x_Mt e_12 (h_12 E) (Nat.le_of_ble_eq_true rfl) t_12 rfl ?_
  refine x_blk (b := 0) (a_12 E) rfl ?_
  unfold b_12_0
  refine x_aload rfl ?_
  refine x_iload rfl ?_
  refine x_push 0 rfl ?_
  refine x_cV (fun _ => rfl) rfl (by decide) (Nat.le_of_ble_eq_true rfl) ?_
  refine sf_6_11 (by omega) (by omega) (by omega) (by omega) C0 (fun v1 v1a v1b => ?_)
  refine x_istore ?_
  refine x_iload rfl ?_
  refine x_aload rfl ?_
  refine x_iload rfl ?_
  refine x_push 1 rfl ?_
  refine x_cV (fun _ => rfl) rfl (by decide) (Nat.le_of_ble_eq_true rfl) ?_
  refine sf_6_11 (by omega) (by omega) (by omega) (by omega) C0 (fun v2 v2a v2b => ?_)
  refine x_aload rfl ?_
  refine x_iload rfl ?_
  refine x_push 2 rfl ?_
  refine x_cV (fun _ => rfl) rfl (by decide) (Nat.le_of_ble_eq_true rfl) ?_
  refine sf_6_11 (by omega) (by omega) (by omega) (by omega) C0 (fun v3 v3a v3b => ?_)
  refine x_iload rfl ?_
  refine x_cS (fun _ => rfl) (Nat.le_of_ble_eq_true rfl) ?_
  refine sf_10 (by omega) (by omega) (by omega) (by omega) (by omega) (by omega) (by omega) (by omega) C0 (fun v4 v4a v4b k4_0 => ?_)
  refine x_istore ?_
  refine x_X_lo (lo' := [(0, x_R 11), (1, x_I _), (2, x_I _), (3, x_I _), (4, x_I _)]) ⟨rfl, rfl, rfl, rfl, rfl, trivial⟩ ?_
  refine x_aload rfl ?_
  refine x_iload rfl ?_
  refine x_cV (fun _ => rfl) rfl (by decide) (Nat.le_of_ble_eq_true rfl) ?_
  refine sf_11_11 (by omega) (by omega) C0 (fun v5 v5a v5b => ?_)
  refine x_push 1 rfl ?_
  refine x_iandM (by omega) (by omega) (fun v6 v6a v6b => ?_)
  refine x_if_eq (by omega) (by omega) (fun z7 => ?_) (fun z7 => ?_)
  · skip
    refine x_blk (b := 1) (a_12 E) rfl ?_
    unfold b_12_1
    refine x_push 0 rfl ?_
    refine x_fall ?_
    refine x_blk (b := 2) (a_12 E) rfl ?_
    unfold b_12_2
    refine x_istore ?_
    refine x_iload rfl ?_
    refine x_aload rfl ?_
    refine x_getR (r := 11) rfl (by decide) (by decide) rfl ?_
    refine x_lenG (n := 90) (L := 90) rfl (by decide) rfl (by decide) rfl ?_
    refine x_cS (fun _ => rfl) (Nat.le_of_ble_eq_true rfl) ?_
    refine sf_2 (by omega) (by omega) (by omega) (by omega) C0 (fun y8 => ?_) (fun y8 => ?_)
    · skip
      refine x_if_eq (by omega) (by omega) (fun z => absurd z (by omega)) (fun z9 => ?_)
      refine x_aload rfl ?_
      refine x_getR (r := 11) rfl (by decide) (by decide) rfl ?_
      refine x_iload rfl ?_
      refine x_ialdG y_a17 C0 (by omega) (by omega) (fun v10 v10a v10b => ?_)
      refine x_if_lt (by omega) (by omega) (fun z11 => ?_) (fun z11 => ?_)
      · skip
        refine x_blk (b := 4) (a_12 E) rfl ?_
        unfold b_12_4
        refine x_aload rfl ?_
        refine x_getR (r := 11) rfl (by decide) (by decide) rfl ?_
        refine x_iload rfl ?_
        refine x_iload rfl ?_
        refine x_astG y_a17 C0 (by decide) (y_fr_rf (lo := 17) (hi := 18)) (by omega) (by omega) (by omega) (by omega) (fun S12 e12 C12 F12 => ?_)
        refine x_fall ?_
        refine x_blk (b := 3) (a_12 E) rfl ?_
        unfold b_12_3
        refine x_vret ?_
        exact k _ C12 F12 
      · skip
        refine x_iload rfl ?_
        refine x_if_eq (by omega) (by omega) (fun z13 => ?_) (fun z => absurd (by omega) z)
        refine x_blk (b := 3) (a_12 E) rfl ?_
        unfold b_12_3
        refine x_vret ?_
        exact k _ C0 (y_fr_rf (lo := 17) (hi := 18)) 
    · skip
      refine x_if_eq (by omega) (by omega) (fun z14 => ?_) (fun z => absurd (by omega) z)
      refine x_blk (b := 3) (a_12 E) rfl ?_
      unfold b_12_3
      refine x_vret ?_
      exact k _ C0 (y_fr_rf (lo := 17) (hi := 18)) 
  · skip
    refine x_push 1 rfl ?_
    refine x_goto ?_
    refine x_blk (b := 2) (a_12 E) rfl ?_
    unfold b_12_2
    refine x_istore ?_
    refine x_iload rfl ?_
    refine x_aload rfl ?_
    refine x_getR (r := 11) rfl (by decide) (by decide) rfl ?_
    refine x_lenG (n := 90) (L := 90) rfl (by decide) rfl (by decide) rfl ?_
    refine x_cS (fun _ => rfl) (Nat.le_of_ble_eq_true rfl) ?_
    refine sf_2 (by omega) (by omega) (by omega) (by omega) C0 (fun y15 => ?_) (fun y15 => ?_)
    · skip
      refine x_if_eq (by omega) (by omega) (fun z => absurd z (by omega)) (fun z16 => ?_)
      refine x_aload rfl ?_
      refine x_getR (r := 11) rfl (by decide) (by decide) rfl ?_
      refine x_iload rfl ?_
      refine x_ialdG y_a17 C0 (by omega) (by omega) (fun v17 v17a v17b => ?_)
      refine x_if_lt (by omega) (by omega) (fun z18 => ?_) (fun z18 => ?_)
      · skip
        refine x_blk (b := 4) (a_12 E) rfl ?_
        unfold b_12_4
        refine x_aload rfl ?_
        refine x_getR (r := 11) rfl (by decide) (by decide) rfl ?_
        refine x_iload rfl ?_
        refine x_iload rfl ?_
        refine x_astG y_a17 C0 (by decide) (y_fr_rf (lo := 17) (hi := 18)) (by omega) (by omega) (by omega) (by omega) (fun S19 e19 C19 F19 => ?_)
        refine x_fall ?_
        refine x_blk (b := 3) (a_12 E) rfl ?_
        unfold b_12_3
        refine x_vret ?_
        exact k _ C19 F19 
      · skip
        refine x_iload rfl ?_
        refine x_if_eq (by omega) (by omega) (fun z => absurd z (by omega)) (fun z20 => ?_)
        refine x_fall ?_
        refine x_blk (b := 4) (a_12 E) rfl ?_
        unfold b_12_4
        refine x_aload rfl ?_
        refine x_getR (r := 11) rfl (by decide) (by decide) rfl ?_
        refine x_iload rfl ?_
        refine x_iload rfl ?_
        refine x_astG y_a17 C0 (by decide) (y_fr_rf (lo := 17) (hi := 18)) (by omega) (by omega) (by omega) (by omega) (fun S21 e21 C21 F21 => ?_)
        refine x_fall ?_
        refine x_blk (b := 3) (a_12 E) rfl ?_
        unfold b_12_3
        refine x_vret ?_
        exact k _ C21 F21 
    · skip
      refine x_if_eq (by omega) (by omega) (fun z22 => ?_) (fun z => absurd (by omega) z)
      refine x_blk (b := 3) (a_12 E) rfl ?_
      unfold b_12_3
      refine x_vret ?_
      exact k _ C0 (y_fr_rf (lo := 17) (hi := 18)) 
theorem sf_27_17_b2 {E : q_E} {σ : x_S} {Q : Option q_V → x_S → Prop} {a1 : Int} (a1l : (-4) ≤ a1) (a1h : a1 ≤ 15) (C0 : y_CI σ) (k : ∀ τ, y_CI τ → y_fq 17 18 σ τ → Q none τ) : ∀ (N : Nat) (i : Int) (τ : x_S), (100 - i).toNat = N → 0 ≤ i → i ≤ 100 → y_CI τ → y_fq 17 18 σ τ → x_G E m_27 Q (t_27 2) [(0, x_R 17), (1, x_I a1), (2, x_I i), (3, x_I 90)] [] τ := by
  intro N
  induction N using Nat.strongRecOn with
  | ind N ih =>
    intro i τ hN iL iH C F
    refine x_blk (b := 2) (a_27 E) rfl ?_
    unfold b_27_2
    refine x_iload rfl ?_
    refine x_iload rfl ?_
    refine x_icmp_ge (by omega) (by omega) (by omega) (by omega) (fun z1 => ?_) (fun z1 => ?_)
    · skip
      refine x_aload rfl ?_
      refine x_iload rfl ?_
      refine x_iload rfl ?_
      refine x_astG y_a17 C (by decide) F (by omega) (by omega) (by omega) (by omega) (fun S2 e2 C2 F2 => ?_)
      refine x_iinc 1 rfl rfl ?_
      refine x_goto ?_
      refine x_G_lo (lo' := [(0, x_R 17), (1, x_I _), (2, x_I _), (3, x_I _)]) ⟨rfl, rfl, rfl, rfl, trivial⟩ ?_
      exact ih _ (by omega) _ _ rfl (by omega) (by omega)  C2 F2
    · skip
      refine x_blk (b := 1) (a_27 E) rfl ?_
      unfold b_27_1
      refine x_vret ?_
      exact k _ C F 
theorem sf_27_17 {E : q_E} {σ : x_S} {Q : Option q_V → x_S → Prop} {a1 : Int} (a1l : (-4) ≤ a1) (a1h : a1 ≤ 15) (C0 : y_CI σ) (k : ∀ τ, y_CI τ → y_fq 17 18 σ τ → Q none τ) : x_P E 27 [x_R 17, x_I a1] σ Q := by
  refine x_Mt e_27 (h_27 E) (Nat.le_of_ble_eq_true rfl) t_27 rfl ?_
  refine x_blk (b := 0) (a_27 E) rfl ?_
  unfold b_27_0
  refine x_push 0 rfl ?_
  refine x_istore ?_
  refine x_aload rfl ?_
  refine x_lenG (n := 90) (L := 90) rfl (by decide) rfl (by decide) rfl ?_
  refine x_istore ?_
  refine x_X_lo (lo' := [(0, x_R 17), (1, x_I _), (2, x_I _), (3, x_I _)]) ⟨rfl, rfl, rfl, rfl, trivial⟩ ?_
  refine x_fall ?_
  refine x_G_lo (lo' := [(0, x_R 17), (1, x_I _), (2, x_I _), (3, x_I _)]) ⟨rfl, rfl, rfl, rfl, trivial⟩ ?_
  exact sf_27_17_b2 a1l a1h C0 k  _ _ _ rfl (by omega) (by omega)  C0 (y_fr_rf (lo := 17) (hi := 18))
theorem sf_48_11_b5 {E : q_E} {σ : x_S} {Q : Option q_V → x_S → Prop} (C0 : y_CI σ) (k : ∀ τ, y_CI τ → y_fq 17 18 σ τ → Q none τ) {r : Int} (rL : 0 ≤ r) (rH : r ≤ 15) (ho : ∀ (r' : Int) (τ' : x_S), (16 - r').toNat < (16 - r).toNat → 0 ≤ r' → r' ≤ 16 → y_CI τ' → y_fq 17 18 σ τ' → x_G E m_48 Q (t_48 6) [(0, x_R 11), (1, x_I r')] [] τ') : ∀ (N : Nat) (s l : Int) (τ : x_S), (3 - l).toNat = N → 0 ≤ s → s ≤ 15 → 0 ≤ l → l ≤ 3 → y_CI τ → y_fq 17 18 σ τ → x_G E m_48 Q (t_48 5) [(0, x_R 11), (1, x_I r), (2, x_I s), (3, x_I l)] [] τ := by
  intro N
  induction N using Nat.strongRecOn with
  | ind N ih =>
    intro s l τ hN sL sH lL lH C F
    refine x_blk (b := 5) (a_48 E) rfl ?_
    unfold b_48_5
    refine x_iload rfl ?_
    refine x_push 3 rfl ?_
    refine x_icmp_ge (by omega) (by omega) (by omega) (by omega) (fun z1 => ?_) (fun z1 => ?_)
    · skip
      refine x_iload rfl ?_
      refine x_push 2 rfl ?_
      refine x_icmp_eq (by omega) (by omega) (by omega) (by omega) (fun z2 => ?_) (fun z2 => ?_)
      · skip
        refine x_blk (b := 3) (a_48 E) rfl ?_
        unfold b_48_3
        refine x_aload rfl ?_
        refine x_iload rfl ?_
        refine x_iload rfl ?_
        refine x_cV (fun _ => rfl) rfl (by decide) (Nat.le_of_ble_eq_true rfl) ?_
        refine sf_12_11 (by omega) (by omega) (by omega) (by omega) C (fun S3 C3 f3 => ?_)
        have F3 := y_fq_tr (by decide) F f3
        refine x_fall ?_
        refine x_blk (b := 4) (a_48 E) rfl ?_
        unfold b_48_4
        refine x_iinc 1 rfl rfl ?_
        refine x_goto ?_
        refine x_G_lo (lo' := [(0, x_R 11), (1, x_I _), (2, x_I _), (3, x_I _)]) ⟨rfl, rfl, rfl, rfl, trivial⟩ ?_
        exact ih _ (by omega) _ _ _ rfl (by omega) (by omega) (by omega) (by omega)  C3 F3
      · skip
        refine x_iload rfl ?_
        refine x_iload rfl ?_
        refine x_icmp_ne (by omega) (by omega) (by omega) (by omega) (fun z4 => ?_) (fun z4 => ?_)
        · skip
          refine x_fall ?_
          refine x_blk (b := 3) (a_48 E) rfl ?_
          unfold b_48_3
          refine x_aload rfl ?_
          refine x_iload rfl ?_
          refine x_iload rfl ?_
          refine x_cV (fun _ => rfl) rfl (by decide) (Nat.le_of_ble_eq_true rfl) ?_
          refine sf_12_11 (by omega) (by omega) (by omega) (by omega) C (fun S5 C5 f5 => ?_)
          have F5 := y_fq_tr (by decide) F f5
          refine x_fall ?_
          refine x_blk (b := 4) (a_48 E) rfl ?_
          unfold b_48_4
          refine x_iinc 1 rfl rfl ?_
          refine x_goto ?_
          refine x_G_lo (lo' := [(0, x_R 11), (1, x_I _), (2, x_I _), (3, x_I _)]) ⟨rfl, rfl, rfl, rfl, trivial⟩ ?_
          exact ih _ (by omega) _ _ _ rfl (by omega) (by omega) (by omega) (by omega)  C5 F5
        · skip
          refine x_blk (b := 4) (a_48 E) rfl ?_
          unfold b_48_4
          refine x_iinc 1 rfl rfl ?_
          refine x_goto ?_
          refine x_G_lo (lo' := [(0, x_R 11), (1, x_I _), (2, x_I _), (3, x_I _)]) ⟨rfl, rfl, rfl, rfl, trivial⟩ ?_
          exact ih _ (by omega) _ _ _ rfl (by omega) (by omega) (by omega) (by omega)  C F
    · skip
      refine x_blk (b := 2) (a_48 E) rfl ?_
      unfold b_48_2
      refine x_iinc 1 rfl rfl ?_
      refine x_goto ?_
      refine x_G_lo (lo' := [(0, x_R 11), (1, x_I _)]) ⟨rfl, rfl, trivial⟩ ?_
      exact ho _ _ (by omega) (by omega) (by omega)  C F
theorem sf_48_11_b6 {E : q_E} {σ : x_S} {Q : Option q_V → x_S → Prop} (C0 : y_CI σ) (k : ∀ τ, y_CI τ → y_fq 17 18 σ τ → Q none τ) : ∀ (N : Nat) (r : Int) (τ : x_S), (16 - r).toNat = N → 0 ≤ r → r ≤ 16 → y_CI τ → y_fq 17 18 σ τ → x_G E m_48 Q (t_48 6) [(0, x_R 11), (1, x_I r)] [] τ := by
  intro N
  induction N using Nat.strongRecOn with
  | ind N ih =>
    intro r τ hN rL rH C F
    refine x_blk (b := 6) (a_48 E) rfl ?_
    unfold b_48_6
    refine x_iload rfl ?_
    refine x_aload rfl ?_
    refine x_getIG y_f11_6 C ?_
    intro g1a g1b
    refine x_icmp_ge (by omega) (by omega) (by omega) (by omega) (fun z2 => ?_) (fun z2 => ?_)
    · skip
      refine x_aload rfl ?_
      refine x_iload rfl ?_
      refine x_push 3 rfl ?_
      refine x_cV (fun _ => rfl) rfl (by decide) (Nat.le_of_ble_eq_true rfl) ?_
      refine sf_6_11 (by omega) (by omega) (by omega) (by omega) C (fun v3 v3a v3b => ?_)
      refine x_istore ?_
      refine x_push 0 rfl ?_
      refine x_istore ?_
      refine x_X_lo (lo' := [(0, x_R 11), (1, x_I _), (2, x_I _), (3, x_I _)]) ⟨rfl, rfl, rfl, rfl, trivial⟩ ?_
      refine x_fall ?_
      refine x_G_lo (lo' := [(0, x_R 11), (1, x_I _), (2, x_I _), (3, x_I _)]) ⟨rfl, rfl, rfl, rfl, trivial⟩ ?_
      exact sf_48_11_b5 C0 k (by omega) (by omega) (fun x0 t z h0 h1 c f => ih _ (by omega) x0 t rfl h0 h1 c f) _ _ _ _ rfl (by omega) (by omega) (by omega) (by omega)  C F
    · skip
      refine x_blk (b := 1) (a_48 E) rfl ?_
      unfold b_48_1
      refine x_vret ?_
      exact k _ C F 
theorem sf_48_11 {E : q_E} {σ : x_S} {Q : Option q_V → x_S → Prop} (C0 : y_CI σ) (k : ∀ τ, y_CI τ → y_fq 17 18 σ τ → Q none τ) : x_P E 48 [x_R 11] σ Q := by
  refine x_Mt e_48 (h_48 E) (Nat.le_of_ble_eq_true rfl) t_48 rfl ?_
  refine x_blk (b := 0) (a_48 E) rfl ?_
  unfold b_48_0
  refine x_aload rfl ?_
  refine x_getR (r := 11) rfl (by decide) (by decide) rfl ?_
  refine x_push (-4) rfl ?_
  refine x_cS (fun _ => rfl) (Nat.le_of_ble_eq_true rfl) ?_
  refine sf_27_17 (by omega) (by omega) C0 (fun S1 C1 f1 => ?_)
  have F1 := y_fq_tr (by decide) (y_fr_rf (lo := 17) (hi := 18)) f1
  refine x_push 0 rfl ?_
  refine x_istore ?_
  refine x_fall ?_
  refine x_G_lo (lo' := [(0, x_R 11), (1, x_I _)]) ⟨rfl, rfl, trivial⟩ ?_
  exact sf_48_11_b6 C0 k  _ _ _ rfl (by omega) (by omega)  C1 F1
theorem sf_27_12_b2 {E : q_E} {σ : x_S} {Q : Option q_V → x_S → Prop} {a1 : Int} (a1l : 0 ≤ a1) (a1h : a1 ≤ 15) (C0 : y_CI σ) (k : ∀ τ, y_CI τ → y_fq 12 13 σ τ → Q none τ) : ∀ (N : Nat) (i : Int) (τ : x_S), (100 - i).toNat = N → 0 ≤ i → i ≤ 100 → y_CI τ → y_fq 12 13 σ τ → x_G E m_27 Q (t_27 2) [(0, x_R 12), (1, x_I a1), (2, x_I i), (3, x_I 33)] [] τ := by
  intro N
  induction N using Nat.strongRecOn with
  | ind N ih =>
    intro i τ hN iL iH C F
    refine x_blk (b := 2) (a_27 E) rfl ?_
    unfold b_27_2
    refine x_iload rfl ?_
    refine x_iload rfl ?_
    refine x_icmp_ge (by omega) (by omega) (by omega) (by omega) (fun z1 => ?_) (fun z1 => ?_)
    · skip
      refine x_aload rfl ?_
      refine x_iload rfl ?_
      refine x_iload rfl ?_
      refine x_astG y_a12 C (by decide) F (by omega) (by omega) (by omega) (by omega) (fun S2 e2 C2 F2 => ?_)
      refine x_iinc 1 rfl rfl ?_
      refine x_goto ?_
      refine x_G_lo (lo' := [(0, x_R 12), (1, x_I _), (2, x_I _), (3, x_I _)]) ⟨rfl, rfl, rfl, rfl, trivial⟩ ?_
      exact ih _ (by omega) _ _ rfl (by omega) (by omega)  C2 F2
    · skip
      refine x_blk (b := 1) (a_27 E) rfl ?_
      unfold b_27_1
      refine x_vret ?_
      exact k _ C F 
theorem sf_27_12 {E : q_E} {σ : x_S} {Q : Option q_V → x_S → Prop} {a1 : Int} (a1l : 0 ≤ a1) (a1h : a1 ≤ 15) (C0 : y_CI σ) (k : ∀ τ, y_CI τ → y_fq 12 13 σ τ → Q none τ) : x_P E 27 [x_R 12, x_I a1] σ Q := by
  refine x_Mt e_27 (h_27 E) (Nat.le_of_ble_eq_true rfl) t_27 rfl ?_
  refine x_blk (b := 0) (a_27 E) rfl ?_
  unfold b_27_0
  refine x_push 0 rfl ?_
  refine x_istore ?_
  refine x_aload rfl ?_
  refine x_lenG (n := 33) (L := 33) rfl (by decide) rfl (by decide) rfl ?_
  refine x_istore ?_
  refine x_X_lo (lo' := [(0, x_R 12), (1, x_I _), (2, x_I _), (3, x_I _)]) ⟨rfl, rfl, rfl, rfl, trivial⟩ ?_
  refine x_fall ?_
  refine x_G_lo (lo' := [(0, x_R 12), (1, x_I _), (2, x_I _), (3, x_I _)]) ⟨rfl, rfl, rfl, rfl, trivial⟩ ?_
  exact sf_27_12_b2 a1l a1h C0 k  _ _ _ rfl (by omega) (by omega)  C0 (y_fr_rf (lo := 12) (hi := 13))
theorem sf_27_13_b2 {E : q_E} {σ : x_S} {Q : Option q_V → x_S → Prop} {a1 : Int} (a1l : 0 ≤ a1) (a1h : a1 ≤ 11) (C0 : y_CI σ) (k : ∀ τ, y_CI τ → y_fq 13 14 σ τ → Q none τ) : ∀ (N : Nat) (i : Int) (τ : x_S), (100 - i).toNat = N → 0 ≤ i → i ≤ 100 → y_CI τ → y_fq 13 14 σ τ → x_G E m_27 Q (t_27 2) [(0, x_R 13), (1, x_I a1), (2, x_I i), (3, x_I 3)] [] τ := by
  intro N
  induction N using Nat.strongRecOn with
  | ind N ih =>
    intro i τ hN iL iH C F
    refine x_blk (b := 2) (a_27 E) rfl ?_
    unfold b_27_2
    refine x_iload rfl ?_
    refine x_iload rfl ?_
    refine x_icmp_ge (by omega) (by omega) (by omega) (by omega) (fun z1 => ?_) (fun z1 => ?_)
    · skip
      refine x_aload rfl ?_
      refine x_iload rfl ?_
      refine x_iload rfl ?_
      refine x_astG y_a13 C (by decide) F (by omega) (by omega) (by omega) (by omega) (fun S2 e2 C2 F2 => ?_)
      refine x_iinc 1 rfl rfl ?_
      refine x_goto ?_
      refine x_G_lo (lo' := [(0, x_R 13), (1, x_I _), (2, x_I _), (3, x_I _)]) ⟨rfl, rfl, rfl, rfl, trivial⟩ ?_
      exact ih _ (by omega) _ _ rfl (by omega) (by omega)  C2 F2
    · skip
      refine x_blk (b := 1) (a_27 E) rfl ?_
      unfold b_27_1
      refine x_vret ?_
      exact k _ C F 
theorem sf_27_13 {E : q_E} {σ : x_S} {Q : Option q_V → x_S → Prop} {a1 : Int} (a1l : 0 ≤ a1) (a1h : a1 ≤ 11) (C0 : y_CI σ) (k : ∀ τ, y_CI τ → y_fq 13 14 σ τ → Q none τ) : x_P E 27 [x_R 13, x_I a1] σ Q := by
  refine x_Mt e_27 (h_27 E) (Nat.le_of_ble_eq_true rfl) t_27 rfl ?_
  refine x_blk (b := 0) (a_27 E) rfl ?_
  unfold b_27_0
  refine x_push 0 rfl ?_
  refine x_istore ?_
  refine x_aload rfl ?_
  refine x_lenG (n := 3) (L := 3) rfl (by decide) rfl (by decide) rfl ?_
  refine x_istore ?_
  refine x_X_lo (lo' := [(0, x_R 13), (1, x_I _), (2, x_I _), (3, x_I _)]) ⟨rfl, rfl, rfl, rfl, trivial⟩ ?_
  refine x_fall ?_
  refine x_G_lo (lo' := [(0, x_R 13), (1, x_I _), (2, x_I _), (3, x_I _)]) ⟨rfl, rfl, rfl, rfl, trivial⟩ ?_
  exact sf_27_13_b2 a1l a1h C0 k  _ _ _ rfl (by omega) (by omega)  C0 (y_fr_rf (lo := 13) (hi := 14))
theorem sf_27_14_b2 {E : q_E} {σ : x_S} {Q : Option q_V → x_S → Prop} {a1 : Int} (a1l : 0 ≤ a1) (a1h : a1 ≤ 3) (C0 : y_CI σ) (k : ∀ τ, y_CI τ → y_fq 14 15 σ τ → Q none τ) : ∀ (N : Nat) (i : Int) (τ : x_S), (100 - i).toNat = N → 0 ≤ i → i ≤ 100 → y_CI τ → y_fq 14 15 σ τ → x_G E m_27 Q (t_27 2) [(0, x_R 14), (1, x_I a1), (2, x_I i), (3, x_I 2)] [] τ := by
  intro N
  induction N using Nat.strongRecOn with
  | ind N ih =>
    intro i τ hN iL iH C F
    refine x_blk (b := 2) (a_27 E) rfl ?_
    unfold b_27_2
    refine x_iload rfl ?_
    refine x_iload rfl ?_
    refine x_icmp_ge (by omega) (by omega) (by omega) (by omega) (fun z1 => ?_) (fun z1 => ?_)
    · skip
      refine x_aload rfl ?_
      refine x_iload rfl ?_
      refine x_iload rfl ?_
      refine x_astG y_a14 C (by decide) F (by omega) (by omega) (by omega) (by omega) (fun S2 e2 C2 F2 => ?_)
      refine x_iinc 1 rfl rfl ?_
      refine x_goto ?_
      refine x_G_lo (lo' := [(0, x_R 14), (1, x_I _), (2, x_I _), (3, x_I _)]) ⟨rfl, rfl, rfl, rfl, trivial⟩ ?_
      exact ih _ (by omega) _ _ rfl (by omega) (by omega)  C2 F2
    · skip
      refine x_blk (b := 1) (a_27 E) rfl ?_
      unfold b_27_1
      refine x_vret ?_
      exact k _ C F 
theorem sf_27_14 {E : q_E} {σ : x_S} {Q : Option q_V → x_S → Prop} {a1 : Int} (a1l : 0 ≤ a1) (a1h : a1 ≤ 3) (C0 : y_CI σ) (k : ∀ τ, y_CI τ → y_fq 14 15 σ τ → Q none τ) : x_P E 27 [x_R 14, x_I a1] σ Q := by
  refine x_Mt e_27 (h_27 E) (Nat.le_of_ble_eq_true rfl) t_27 rfl ?_
  refine x_blk (b := 0) (a_27 E) rfl ?_
  unfold b_27_0
  refine x_push 0 rfl ?_
  refine x_istore ?_
  refine x_aload rfl ?_
  refine x_lenG (n := 2) (L := 2) rfl (by decide) rfl (by decide) rfl ?_
  refine x_istore ?_
  refine x_X_lo (lo' := [(0, x_R 14), (1, x_I _), (2, x_I _), (3, x_I _)]) ⟨rfl, rfl, rfl, rfl, trivial⟩ ?_
  refine x_fall ?_
  refine x_G_lo (lo' := [(0, x_R 14), (1, x_I _), (2, x_I _), (3, x_I _)]) ⟨rfl, rfl, rfl, rfl, trivial⟩ ?_
  exact sf_27_14_b2 a1l a1h C0 k  _ _ _ rfl (by omega) (by omega)  C0 (y_fr_rf (lo := 14) (hi := 15))
theorem sf_27_15_b2 {E : q_E} {σ : x_S} {Q : Option q_V → x_S → Prop} {a1 : Int} (a1l : 0 ≤ a1) (a1h : a1 ≤ 1) (C0 : y_CI σ) (k : ∀ τ, y_CI τ → y_fq 15 16 σ τ → Q none τ) : ∀ (N : Nat) (i : Int) (τ : x_S), (100 - i).toNat = N → 0 ≤ i → i ≤ 100 → y_CI τ → y_fq 15 16 σ τ → x_G E m_27 Q (t_27 2) [(0, x_R 15), (1, x_I a1), (2, x_I i), (3, x_I 40)] [] τ := by
  intro N
  induction N using Nat.strongRecOn with
  | ind N ih =>
    intro i τ hN iL iH C F
    refine x_blk (b := 2) (a_27 E) rfl ?_
    unfold b_27_2
    refine x_iload rfl ?_
    refine x_iload rfl ?_
    refine x_icmp_ge (by omega) (by omega) (by omega) (by omega) (fun z1 => ?_) (fun z1 => ?_)
    · skip
      refine x_aload rfl ?_
      refine x_iload rfl ?_
      refine x_iload rfl ?_
      refine x_astG y_a15 C (by decide) F (by omega) (by omega) (by omega) (by omega) (fun S2 e2 C2 F2 => ?_)
      refine x_iinc 1 rfl rfl ?_
      refine x_goto ?_
      refine x_G_lo (lo' := [(0, x_R 15), (1, x_I _), (2, x_I _), (3, x_I _)]) ⟨rfl, rfl, rfl, rfl, trivial⟩ ?_
      exact ih _ (by omega) _ _ rfl (by omega) (by omega)  C2 F2
    · skip
      refine x_blk (b := 1) (a_27 E) rfl ?_
      unfold b_27_1
      refine x_vret ?_
      exact k _ C F 
theorem sf_27_15 {E : q_E} {σ : x_S} {Q : Option q_V → x_S → Prop} {a1 : Int} (a1l : 0 ≤ a1) (a1h : a1 ≤ 1) (C0 : y_CI σ) (k : ∀ τ, y_CI τ → y_fq 15 16 σ τ → Q none τ) : x_P E 27 [x_R 15, x_I a1] σ Q := by
  refine x_Mt e_27 (h_27 E) (Nat.le_of_ble_eq_true rfl) t_27 rfl ?_
  refine x_blk (b := 0) (a_27 E) rfl ?_
  unfold b_27_0
  refine x_push 0 rfl ?_
  refine x_istore ?_
  refine x_aload rfl ?_
  refine x_lenG (n := 40) (L := 40) rfl (by decide) rfl (by decide) rfl ?_
  refine x_istore ?_
  refine x_X_lo (lo' := [(0, x_R 15), (1, x_I _), (2, x_I _), (3, x_I _)]) ⟨rfl, rfl, rfl, rfl, trivial⟩ ?_
  refine x_fall ?_
  refine x_G_lo (lo' := [(0, x_R 15), (1, x_I _), (2, x_I _), (3, x_I _)]) ⟨rfl, rfl, rfl, rfl, trivial⟩ ?_
  exact sf_27_15_b2 a1l a1h C0 k  _ _ _ rfl (by omega) (by omega)  C0 (y_fr_rf (lo := 15) (hi := 16))
