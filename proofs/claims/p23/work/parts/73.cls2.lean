theorem sf_71_69_4 {E : q_E} {σ : x_S} {Q : Option q_V → x_S → Prop} (C0 : y_CI σ) (k : ∀ τ, y_CI τ → y_fq 69 76 σ τ → Q none τ) : x_P E 71 [x_R 69, x_R 4] σ Q := by
  refine x_Mt e_71 (h_71 E) (Nat.le_of_ble_eq_true rfl) t_71 rfl ?_
  refine x_blk (b := 0) (a_71 E) rfl ?_
  unfold b_71_0
  refine x_aload rfl ?_
  refine x_getR (r := 4) rfl (by decide) (by decide) rfl ?_
  refine x_push 0 rfl ?_
  refine x_aload rfl ?_
  refine x_getR (r := 69) rfl (by decide) (by decide) rfl ?_
  refine x_push 0 rfl ?_
  refine x_push 33 rfl ?_
  refine x_copyG y_a5 y_a70 (by decide) (by decide) C0 (by decide) (y_fr_rf (lo := 69) (hi := 76)) (by omega) (by omega) (by omega) (by omega) (by omega) (Nat.le_of_ble_eq_true rfl) (fun S1 e1 C1 F1 => ?_)
  refine x_aload rfl ?_
  refine x_getR (r := 4) rfl (by decide) (by decide) rfl ?_
  refine x_push 0 rfl ?_
  refine x_aload rfl ?_
  refine x_getR (r := 69) rfl (by decide) (by decide) rfl ?_
  refine x_push 0 rfl ?_
  refine x_push 3 rfl ?_
  refine x_copyG y_a6 y_a71 (by decide) (by decide) C1 (by decide) F1 (by omega) (by omega) (by omega) (by omega) (by omega) (Nat.le_of_ble_eq_true rfl) (fun S2 e2 C2 F2 => ?_)
  refine x_aload rfl ?_
  refine x_getR (r := 4) rfl (by decide) (by decide) rfl ?_
  refine x_push 0 rfl ?_
  refine x_aload rfl ?_
  refine x_getR (r := 69) rfl (by decide) (by decide) rfl ?_
  refine x_push 0 rfl ?_
  refine x_push 2 rfl ?_
  refine x_copyG y_a7 y_a72 (by decide) (by decide) C2 (by decide) F2 (by omega) (by omega) (by omega) (by omega) (by omega) (Nat.le_of_ble_eq_true rfl) (fun S3 e3 C3 F3 => ?_)
  refine x_aload rfl ?_
  refine x_getR (r := 4) rfl (by decide) (by decide) rfl ?_
  refine x_push 0 rfl ?_
  refine x_aload rfl ?_
  refine x_getR (r := 69) rfl (by decide) (by decide) rfl ?_
  refine x_push 0 rfl ?_
  refine x_push 40 rfl ?_
  refine x_copyG y_a8 y_a73 (by decide) (by decide) C3 (by decide) F3 (by omega) (by omega) (by omega) (by omega) (by omega) (Nat.le_of_ble_eq_true rfl) (fun S4 e4 C4 F4 => ?_)
  refine x_aload rfl ?_
  refine x_getR (r := 4) rfl (by decide) (by decide) rfl ?_
  refine x_push 0 rfl ?_
  refine x_aload rfl ?_
  refine x_getR (r := 69) rfl (by decide) (by decide) rfl ?_
  refine x_push 0 rfl ?_
  refine x_push 192 rfl ?_
  refine x_copyG y_a9 y_a74 (by decide) (by decide) C4 (by decide) F4 (by omega) (by omega) (by omega) (by omega) (by omega) (Nat.le_of_ble_eq_true rfl) (fun S5 e5 C5 F5 => ?_)
  refine x_aload rfl ?_
  refine x_getR (r := 4) rfl (by decide) (by decide) rfl ?_
  refine x_push 0 rfl ?_
  refine x_aload rfl ?_
  refine x_getR (r := 69) rfl (by decide) (by decide) rfl ?_
  refine x_push 0 rfl ?_
  refine x_push 90 rfl ?_
  refine x_copyG y_a10 y_a75 (by decide) (by decide) C5 (by decide) F5 (by omega) (by omega) (by omega) (by omega) (by omega) (Nat.le_of_ble_eq_true rfl) (fun S6 e6 C6 F6 => ?_)
  refine x_aload rfl ?_
  refine x_aload rfl ?_
  refine x_fall ?_
  refine x_blk (b := 1) (a_71 E) rfl ?_
  unfold b_71_1
  refine x_getIG y_f4_6 C6 ?_
  have q7_0 : S6 4 6 = S5 4 6 := x_cp_nr e6 (by decide)
  have q7_1 : S5 4 6 = S4 4 6 := x_cp_nr e5 (by decide)
  have q7_2 : S4 4 6 = S3 4 6 := x_cp_nr e4 (by decide)
  have q7_3 : S3 4 6 = S2 4 6 := x_cp_nr e3 (by decide)
  have q7_4 : S2 4 6 = S1 4 6 := x_cp_nr e2 (by decide)
  have q7_5 : S1 4 6 = σ 4 6 := x_cp_nr e1 (by decide)
  simp only [q7_0, q7_1, q7_2, q7_3, q7_4, q7_5]
  intro g7a g7b
  refine x_putIG y_f69_6 ⟨by decide, rfl⟩ (by decide) C6 (by decide) F6 (by omega) (by omega) (fun S8 e8 C8 F8 => ?_)
  refine x_vret ?_
  exact k _ C8 F8 
theorem sf_75_18_4 {E : q_E} {σ : x_S} {Q : Option q_V → x_S → Prop} (C0 : y_CI σ) (k : ∀ τ, y_CI τ → y_fq 18 76 σ τ → Q none τ) : x_P E 75 [x_R 18, x_R 4] σ Q := by
  refine x_Mt e_75 (h_75 E) (Nat.le_of_ble_eq_true rfl) t_75 rfl ?_
  refine x_blk (b := 0) (a_75 E) rfl ?_
  unfold b_75_0
  refine x_aload rfl ?_
  refine x_aload rfl ?_
  refine x_getIG y_f18_2 C0 ?_
  intro g1a g1b
  refine x_cV (fun _ => rfl) rfl (by decide) (Nat.le_of_ble_eq_true rfl) ?_
  refine sf_76_18 (by omega) (by omega) C0 (fun v2 v2a v2b k2_0 => ?_)
  refine x_istore ?_
  refine x_aload rfl ?_
  refine x_getIG y_f18_2 C0 ?_
  intro g3a g3b
  refine x_aload rfl ?_
  refine x_getR (r := 18) rfl (by decide) (by decide) rfl ?_
  refine x_lenG (n := 8) (L := 8) rfl (by decide) rfl (by decide) rfl ?_
  refine x_icmp_ge (by omega) (by omega) (by omega) (by omega) (fun z4 => ?_) (fun z4 => ?_)
  · skip
    refine x_aload rfl ?_
    refine x_dup rfl ?_
    refine x_getIG y_f18_2 C0 ?_
    intro g5a g5b
    refine x_push 1 rfl ?_
    refine x_iadd ?_
    refine x_putIG y_f18_2 ⟨by decide, rfl⟩ (by decide) C0 (by decide) (y_fr_rf (lo := 18) (hi := 76)) (by omega) (by omega) (fun S6 e6 C6 F6 => ?_)
    refine x_goto ?_
    refine x_blk (b := 2) (a_75 E) rfl ?_
    unfold b_75_2
    refine x_iload rfl ?_
    refine x_aload rfl ?_
    refine x_getR (r := 18) rfl (by decide) (by decide) rfl ?_
    refine x_lenG (n := 8) (L := 8) rfl (by decide) rfl (by decide) rfl ?_
    refine x_cS (fun _ => rfl) (Nat.le_of_ble_eq_true rfl) ?_
    refine sf_2 (by omega) (by omega) (by omega) (by omega) C6 (fun y7 => ?_) (fun y7 => ?_)
    · skip
      refine x_if_eq (by omega) (by omega) (fun z => absurd z (by omega)) (fun z8 => ?_)
      refine x_aload rfl ?_
      refine x_getR (r := 18) rfl (by decide) (by decide) rfl ?_
      refine x_iload rfl ?_
      refine x_aaldG (r := 19) (n := 8) rfl rfl (by decide) (by omega) (by omega) (fun i9 j9 => ?_)
      match i9, j9 with
      | 0, j9 =>
        refine x_aald (r := 19) (n := 8) (q := 20) rfl rfl (by decide) (by omega) (by omega) (by rw [show _ = (0 : Nat) from j9.1]; rfl) ?_
        refine x_aload rfl ?_
        refine x_cV (fun _ => rfl) rfl (by decide) (Nat.le_of_ble_eq_true rfl) ?_
        refine sf_71_20_4  C6 (fun S10 C10 f10 => ?_)
        have F10 := y_fq_tr (by decide) F6 f10
        refine x_fall ?_
        refine x_blk (b := 3) (a_75 E) rfl ?_
        unfold b_75_3
        refine x_vret ?_
        exact k _ C10 F10 
      | 1, j9 =>
        refine x_aald (r := 19) (n := 8) (q := 27) rfl rfl (by decide) (by omega) (by omega) (by rw [show _ = (1 : Nat) from j9.1]; rfl) ?_
        refine x_aload rfl ?_
        refine x_cV (fun _ => rfl) rfl (by decide) (Nat.le_of_ble_eq_true rfl) ?_
        refine sf_71_27_4  C6 (fun S11 C11 f11 => ?_)
        have F11 := y_fq_tr (by decide) F6 f11
        refine x_fall ?_
        refine x_blk (b := 3) (a_75 E) rfl ?_
        unfold b_75_3
        refine x_vret ?_
        exact k _ C11 F11 
      | 2, j9 =>
        refine x_aald (r := 19) (n := 8) (q := 34) rfl rfl (by decide) (by omega) (by omega) (by rw [show _ = (2 : Nat) from j9.1]; rfl) ?_
        refine x_aload rfl ?_
        refine x_cV (fun _ => rfl) rfl (by decide) (Nat.le_of_ble_eq_true rfl) ?_
        refine sf_71_34_4  C6 (fun S12 C12 f12 => ?_)
        have F12 := y_fq_tr (by decide) F6 f12
        refine x_fall ?_
        refine x_blk (b := 3) (a_75 E) rfl ?_
        unfold b_75_3
        refine x_vret ?_
        exact k _ C12 F12 
      | 3, j9 =>
        refine x_aald (r := 19) (n := 8) (q := 41) rfl rfl (by decide) (by omega) (by omega) (by rw [show _ = (3 : Nat) from j9.1]; rfl) ?_
        refine x_aload rfl ?_
        refine x_cV (fun _ => rfl) rfl (by decide) (Nat.le_of_ble_eq_true rfl) ?_
        refine sf_71_41_4  C6 (fun S13 C13 f13 => ?_)
        have F13 := y_fq_tr (by decide) F6 f13
        refine x_fall ?_
        refine x_blk (b := 3) (a_75 E) rfl ?_
        unfold b_75_3
        refine x_vret ?_
        exact k _ C13 F13 
      | 4, j9 =>
        refine x_aald (r := 19) (n := 8) (q := 48) rfl rfl (by decide) (by omega) (by omega) (by rw [show _ = (4 : Nat) from j9.1]; rfl) ?_
        refine x_aload rfl ?_
        refine x_cV (fun _ => rfl) rfl (by decide) (Nat.le_of_ble_eq_true rfl) ?_
        refine sf_71_48_4  C6 (fun S14 C14 f14 => ?_)
        have F14 := y_fq_tr (by decide) F6 f14
        refine x_fall ?_
        refine x_blk (b := 3) (a_75 E) rfl ?_
        unfold b_75_3
        refine x_vret ?_
        exact k _ C14 F14 
      | 5, j9 =>
        refine x_aald (r := 19) (n := 8) (q := 55) rfl rfl (by decide) (by omega) (by omega) (by rw [show _ = (5 : Nat) from j9.1]; rfl) ?_
        refine x_aload rfl ?_
        refine x_cV (fun _ => rfl) rfl (by decide) (Nat.le_of_ble_eq_true rfl) ?_
        refine sf_71_55_4  C6 (fun S15 C15 f15 => ?_)
        have F15 := y_fq_tr (by decide) F6 f15
        refine x_fall ?_
        refine x_blk (b := 3) (a_75 E) rfl ?_
        unfold b_75_3
        refine x_vret ?_
        exact k _ C15 F15 
      | 6, j9 =>
        refine x_aald (r := 19) (n := 8) (q := 62) rfl rfl (by decide) (by omega) (by omega) (by rw [show _ = (6 : Nat) from j9.1]; rfl) ?_
        refine x_aload rfl ?_
        refine x_cV (fun _ => rfl) rfl (by decide) (Nat.le_of_ble_eq_true rfl) ?_
        refine sf_71_62_4  C6 (fun S16 C16 f16 => ?_)
        have F16 := y_fq_tr (by decide) F6 f16
        refine x_fall ?_
        refine x_blk (b := 3) (a_75 E) rfl ?_
        unfold b_75_3
        refine x_vret ?_
        exact k _ C16 F16 
      | 7, j9 =>
        refine x_aald (r := 19) (n := 8) (q := 69) rfl rfl (by decide) (by omega) (by omega) (by rw [show _ = (7 : Nat) from j9.1]; rfl) ?_
        refine x_aload rfl ?_
        refine x_cV (fun _ => rfl) rfl (by decide) (Nat.le_of_ble_eq_true rfl) ?_
        refine sf_71_69_4  C6 (fun S17 C17 f17 => ?_)
        have F17 := y_fq_tr (by decide) F6 f17
        refine x_fall ?_
        refine x_blk (b := 3) (a_75 E) rfl ?_
        unfold b_75_3
        refine x_vret ?_
        exact k _ C17 F17 
      | (m + 8), j9 => exact absurd j9.2 (by omega)
    · skip
      refine x_if_eq (by omega) (by omega) (fun z18 => ?_) (fun z => absurd (by omega) z)
      refine x_blk (b := 3) (a_75 E) rfl ?_
      unfold b_75_3
      refine x_vret ?_
      exact k _ C6 F6 
  · skip
    refine x_blk (b := 1) (a_75 E) rfl ?_
    unfold b_75_1
    refine x_aload rfl ?_
    refine x_aload rfl ?_
    refine x_push 1 rfl ?_
    refine x_cV (fun _ => rfl) rfl (by decide) (Nat.le_of_ble_eq_true rfl) ?_
    refine sf_76_18 (by omega) (by omega) C0 (fun v19 v19a v19b k19_0 => ?_)
    refine x_putIG y_f18_1 ⟨by decide, rfl⟩ (by decide) C0 (by decide) (y_fr_rf (lo := 18) (hi := 76)) (by omega) (by omega) (fun S20 e20 C20 F20 => ?_)
    refine x_fall ?_
    refine x_blk (b := 2) (a_75 E) rfl ?_
    unfold b_75_2
    refine x_iload rfl ?_
    refine x_aload rfl ?_
    refine x_getR (r := 18) rfl (by decide) (by decide) rfl ?_
    refine x_lenG (n := 8) (L := 8) rfl (by decide) rfl (by decide) rfl ?_
    refine x_cS (fun _ => rfl) (Nat.le_of_ble_eq_true rfl) ?_
    refine sf_2 (by omega) (by omega) (by omega) (by omega) C20 (fun y21 => ?_) (fun y21 => ?_)
    · skip
      refine x_if_eq (by omega) (by omega) (fun z => absurd z (by omega)) (fun z22 => ?_)
      refine x_aload rfl ?_
      refine x_getR (r := 18) rfl (by decide) (by decide) rfl ?_
      refine x_iload rfl ?_
      refine x_aaldG (r := 19) (n := 8) rfl rfl (by decide) (by omega) (by omega) (fun i23 j23 => ?_)
      match i23, j23 with
      | 0, j23 =>
        refine x_aald (r := 19) (n := 8) (q := 20) rfl rfl (by decide) (by omega) (by omega) (by rw [show _ = (0 : Nat) from j23.1]; rfl) ?_
        refine x_aload rfl ?_
        refine x_cV (fun _ => rfl) rfl (by decide) (Nat.le_of_ble_eq_true rfl) ?_
        refine sf_71_20_4  C20 (fun S24 C24 f24 => ?_)
        have F24 := y_fq_tr (by decide) F20 f24
        refine x_fall ?_
        refine x_blk (b := 3) (a_75 E) rfl ?_
        unfold b_75_3
        refine x_vret ?_
        exact k _ C24 F24 
      | 1, j23 =>
        refine x_aald (r := 19) (n := 8) (q := 27) rfl rfl (by decide) (by omega) (by omega) (by rw [show _ = (1 : Nat) from j23.1]; rfl) ?_
        refine x_aload rfl ?_
        refine x_cV (fun _ => rfl) rfl (by decide) (Nat.le_of_ble_eq_true rfl) ?_
        refine sf_71_27_4  C20 (fun S25 C25 f25 => ?_)
        have F25 := y_fq_tr (by decide) F20 f25
        refine x_fall ?_
        refine x_blk (b := 3) (a_75 E) rfl ?_
        unfold b_75_3
        refine x_vret ?_
        exact k _ C25 F25 
      | 2, j23 =>
        refine x_aald (r := 19) (n := 8) (q := 34) rfl rfl (by decide) (by omega) (by omega) (by rw [show _ = (2 : Nat) from j23.1]; rfl) ?_
        refine x_aload rfl ?_
        refine x_cV (fun _ => rfl) rfl (by decide) (Nat.le_of_ble_eq_true rfl) ?_
        refine sf_71_34_4  C20 (fun S26 C26 f26 => ?_)
        have F26 := y_fq_tr (by decide) F20 f26
        refine x_fall ?_
        refine x_blk (b := 3) (a_75 E) rfl ?_
        unfold b_75_3
        refine x_vret ?_
        exact k _ C26 F26 
      | 3, j23 =>
        refine x_aald (r := 19) (n := 8) (q := 41) rfl rfl (by decide) (by omega) (by omega) (by rw [show _ = (3 : Nat) from j23.1]; rfl) ?_
        refine x_aload rfl ?_
        refine x_cV (fun _ => rfl) rfl (by decide) (Nat.le_of_ble_eq_true rfl) ?_
        refine sf_71_41_4  C20 (fun S27 C27 f27 => ?_)
        have F27 := y_fq_tr (by decide) F20 f27
        refine x_fall ?_
        refine x_blk (b := 3) (a_75 E) rfl ?_
        unfold b_75_3
        refine x_vret ?_
        exact k _ C27 F27 
      | 4, j23 =>
        refine x_aald (r := 19) (n := 8) (q := 48) rfl rfl (by decide) (by omega) (by omega) (by rw [show _ = (4 : Nat) from j23.1]; rfl) ?_
        refine x_aload rfl ?_
        refine x_cV (fun _ => rfl) rfl (by decide) (Nat.le_of_ble_eq_true rfl) ?_
        refine sf_71_48_4  C20 (fun S28 C28 f28 => ?_)
        have F28 := y_fq_tr (by decide) F20 f28
        refine x_fall ?_
        refine x_blk (b := 3) (a_75 E) rfl ?_
        unfold b_75_3
        refine x_vret ?_
        exact k _ C28 F28 
      | 5, j23 =>
        refine x_aald (r := 19) (n := 8) (q := 55) rfl rfl (by decide) (by omega) (by omega) (by rw [show _ = (5 : Nat) from j23.1]; rfl) ?_
        refine x_aload rfl ?_
        refine x_cV (fun _ => rfl) rfl (by decide) (Nat.le_of_ble_eq_true rfl) ?_
        refine sf_71_55_4  C20 (fun S29 C29 f29 => ?_)
        have F29 := y_fq_tr (by decide) F20 f29
        refine x_fall ?_
        refine x_blk (b := 3) (a_75 E) rfl ?_
        unfold b_75_3
        refine x_vret ?_
        exact k _ C29 F29 
      | 6, j23 =>
        refine x_aald (r := 19) (n := 8) (q := 62) rfl rfl (by decide) (by omega) (by omega) (by rw [show _ = (6 : Nat) from j23.1]; rfl) ?_
        refine x_aload rfl ?_
        refine x_cV (fun _ => rfl) rfl (by decide) (Nat.le_of_ble_eq_true rfl) ?_
        refine sf_71_62_4  C20 (fun S30 C30 f30 => ?_)
        have F30 := y_fq_tr (by decide) F20 f30
        refine x_fall ?_
        refine x_blk (b := 3) (a_75 E) rfl ?_
        unfold b_75_3
        refine x_vret ?_
        exact k _ C30 F30 
      | 7, j23 =>
        refine x_aald (r := 19) (n := 8) (q := 69) rfl rfl (by decide) (by omega) (by omega) (by rw [show _ = (7 : Nat) from j23.1]; rfl) ?_
        refine x_aload rfl ?_
        refine x_cV (fun _ => rfl) rfl (by decide) (Nat.le_of_ble_eq_true rfl) ?_
        refine sf_71_69_4  C20 (fun S31 C31 f31 => ?_)
        have F31 := y_fq_tr (by decide) F20 f31
        refine x_fall ?_
        refine x_blk (b := 3) (a_75 E) rfl ?_
        unfold b_75_3
        refine x_vret ?_
        exact k _ C31 F31 
      | (m + 8), j23 => exact absurd j23.2 (by omega)
    · skip
      refine x_if_eq (by omega) (by omega) (fun z32 => ?_) (fun z => absurd (by omega) z)
      refine x_blk (b := 3) (a_75 E) rfl ?_
      unfold b_75_3
      refine x_vret ?_
      exact k _ C20 F20 
theorem sf_21_4_137 {E : q_E} {σ : x_S} {Q : Option q_V → x_S → Prop} {a1 : Int} (a1l : (-2147483648) ≤ a1) (a1h : a1 ≤ 2147483647) (C0 : y_CI σ) (k : ∀ τ, y_CI τ → y_fq 4 10 σ τ → Q none τ) : x_P E 21 [x_R 4, x_I a1, x_R 137] σ Q := by
  refine x_Mt e_21 (h_21 E) (Nat.le_of_ble_eq_true rfl) t_21 rfl ?_
  refine x_blk (b := 0) (a_21 E) rfl ?_
  unfold b_21_0
  refine x_iload rfl ?_
  refine x_if_lt (by omega) (by omega) (fun z1 => ?_) (fun z1 => ?_)
  · skip
    refine x_blk (b := 1) (a_21 E) rfl ?_
    unfold b_21_1
    refine x_vret ?_
    exact k _ C0 (y_fr_rf (lo := 4) (hi := 10)) 
  · skip
    refine x_iload rfl ?_
    refine x_aload rfl ?_
    refine x_getIG y_f4_6 C0 ?_
    intro g2a g2b
    refine x_icmp_gt (by omega) (by omega) (by omega) (by omega) (fun z3 => ?_) (fun z3 => ?_)
    · skip
      refine x_iload rfl ?_
      refine x_push 16 rfl ?_
      refine x_icmp_ge (by omega) (by omega) (by omega) (by omega) (fun z4 => ?_) (fun z4 => ?_)
      · skip
        refine x_aload rfl ?_
        refine x_lenG (n := 12) (L := 12) rfl (by decide) rfl (by decide) rfl ?_
        refine x_push 12 rfl ?_
        refine x_icmp_ge (by omega) (by omega) (by omega) (by omega) (fun z => absurd z (by omega)) (fun z5 => ?_)
        refine x_blk (b := 2) (a_21 E) rfl ?_
        unfold b_21_2
        refine x_aload rfl ?_
        refine x_push 0 rfl ?_
        refine x_aload rfl ?_
        refine x_getR (r := 4) rfl (by decide) (by decide) rfl ?_
        refine x_iload rfl ?_
        refine x_push 12 rfl ?_
        refine x_imul ?_
        refine x_push 12 rfl ?_
        refine x_copyG y_a137 y_a9 (by decide) (by decide) C0 (by decide) (y_fr_rf (lo := 4) (hi := 10)) (by omega) (by omega) (by omega) (by omega) (by omega) (Nat.le_of_ble_eq_true rfl) (fun S6 e6 C6 F6 => ?_)
        refine x_iload rfl ?_
        refine x_aload rfl ?_
        refine x_getIG y_f4_6 C6 ?_
        have q7_0 : S6 4 6 = σ 4 6 := x_cp_nr e6 (by decide)
        simp only [q7_0]
        intro g7a g7b
        refine x_icmp_ne (by omega) (by omega) (by omega) (by omega) (fun z8 => ?_) (fun z8 => ?_)
        · skip
          refine x_aload rfl ?_
          refine x_dup rfl ?_
          refine x_getIG y_f4_6 C6 ?_
          have q9_0 : S6 4 6 = σ 4 6 := x_cp_nr e6 (by decide)
          simp only [q9_0]
          intro g9a g9b
          refine x_push 1 rfl ?_
          refine x_iadd ?_
          refine x_putIG y_f4_6 ⟨by decide, rfl⟩ (by decide) C6 (by decide) F6 (by omega) (by omega) (fun S10 e10 C10 F10 => ?_)
          refine x_fall ?_
          refine x_blk (b := 3) (a_21 E) rfl ?_
          unfold b_21_3
          refine x_vret ?_
          exact k _ C10 F10 
        · skip
          refine x_blk (b := 3) (a_21 E) rfl ?_
          unfold b_21_3
          refine x_vret ?_
          exact k _ C6 F6 
      · skip
        refine x_blk (b := 1) (a_21 E) rfl ?_
        unfold b_21_1
        refine x_vret ?_
        exact k _ C0 (y_fr_rf (lo := 4) (hi := 10)) 
    · skip
      refine x_blk (b := 1) (a_21 E) rfl ?_
      unfold b_21_1
      refine x_vret ?_
      exact k _ C0 (y_fr_rf (lo := 4) (hi := 10)) 
theorem sf_11_4 {E : q_E} {σ : x_S} {Q : Option q_V → x_S → Prop} {a1 : Int} (a1l : (-2147483648) ≤ a1) (a1h : a1 ≤ 2147483647) (C0 : y_CI σ) (k : ∀ v, 0 ≤ v → v ≤ 3 → Q (some (x_I v)) σ) : x_P E 11 [x_R 4, x_I a1] σ Q := by
  refine x_Mt e_11 (h_11 E) (Nat.le_of_ble_eq_true rfl) t_11 rfl ?_
  refine x_blk (b := 0) (a_11 E) rfl ?_
  unfold b_11_0
  refine x_iload rfl ?_
  refine x_push 2 rfl ?_
  refine x_cS (fun _ => rfl) (Nat.le_of_ble_eq_true rfl) ?_
  refine sf_2 (by omega) (by omega) (by omega) (by omega) C0 (fun y1 => ?_) (fun y1 => ?_)
  · skip
    refine x_if_eq (by omega) (by omega) (fun z => absurd z (by omega)) (fun z2 => ?_)
    refine x_aload rfl ?_
    refine x_getR (r := 4) rfl (by decide) (by decide) rfl ?_
    refine x_iload rfl ?_
    refine x_ialdG y_a7 C0 (by omega) (by omega) (fun v3 v3a v3b => ?_)
    refine x_goto ?_
    refine x_blk (b := 2) (a_11 E) rfl ?_
    unfold b_11_2
    refine x_iret ?_
    exact k _ (by omega) (by omega) 
  · skip
    refine x_if_eq (by omega) (by omega) (fun z4 => ?_) (fun z => absurd (by omega) z)
    refine x_blk (b := 1) (a_11 E) rfl ?_
    unfold b_11_1
    refine x_push 0 rfl ?_
    refine x_fall ?_
    refine x_blk (b := 2) (a_11 E) rfl ?_
    unfold b_11_2
    refine x_iret ?_
    exact k _ (by omega) (by omega) 
theorem sf_12_4 {E : q_E} {σ : x_S} {Q : Option q_V → x_S → Prop} {a1 a2 : Int} (a1l : 0 ≤ a1) (a1h : a1 ≤ 15) (a2l : 0 ≤ a2) (a2h : a2 ≤ 2) (C0 : y_CI σ) (k : ∀ τ, y_CI τ → y_fq 10 11 σ τ → Q none τ) : x_P E 12 [x_R 4, x_I a1, x_I a2] σ Q := by
  refine x_Mt e_12 (h_12 E) (Nat.le_of_ble_eq_true rfl) t_12 rfl ?_
  refine x_blk (b := 0) (a_12 E) rfl ?_
  unfold b_12_0
  refine x_aload rfl ?_
  refine x_iload rfl ?_
  refine x_push 0 rfl ?_
  refine x_cV (fun _ => rfl) rfl (by decide) (Nat.le_of_ble_eq_true rfl) ?_
  refine sf_6_4 (by omega) (by omega) (by omega) (by omega) C0 (fun v1 v1a v1b => ?_)
  refine x_istore ?_
  refine x_iload rfl ?_
  refine x_aload rfl ?_
  refine x_iload rfl ?_
  refine x_push 1 rfl ?_
  refine x_cV (fun _ => rfl) rfl (by decide) (Nat.le_of_ble_eq_true rfl) ?_
  refine sf_6_4 (by omega) (by omega) (by omega) (by omega) C0 (fun v2 v2a v2b => ?_)
  refine x_aload rfl ?_
  refine x_iload rfl ?_
  refine x_push 2 rfl ?_
  refine x_cV (fun _ => rfl) rfl (by decide) (Nat.le_of_ble_eq_true rfl) ?_
  refine sf_6_4 (by omega) (by omega) (by omega) (by omega) C0 (fun v3 v3a v3b => ?_)
  refine x_iload rfl ?_
  refine x_cS (fun _ => rfl) (Nat.le_of_ble_eq_true rfl) ?_
  refine sf_10 (by omega) (by omega) (by omega) (by omega) (by omega) (by omega) (by omega) (by omega) C0 (fun v4 v4a v4b k4_0 => ?_)
  refine x_istore ?_
  refine x_X_lo (lo' := [(0, x_R 4), (1, x_I _), (2, x_I _), (3, x_I _), (4, x_I _)]) ⟨rfl, rfl, rfl, rfl, rfl, trivial⟩ ?_
  refine x_aload rfl ?_
  refine x_iload rfl ?_
  refine x_cV (fun _ => rfl) rfl (by decide) (Nat.le_of_ble_eq_true rfl) ?_
  refine sf_11_4 (by omega) (by omega) C0 (fun v5 v5a v5b => ?_)
  refine x_push 1 rfl ?_
  refine x_iandM (by omega) (by omega) (fun v6 v6a v6b => ?_)
  refine x_if_eq (by omega) (by omega) (fun z7 => ?_) (fun z7 => ?_)
  · skip
    refine x_blk (b := 1) (a_12 E) rfl ?_
    unfold b_12_1
    refine x_push 0 rfl ?_
    refine x_fall ?_
    refine x_blk (b := 2) (a_12 E) rfl ?_
    unfold b_12_2
    refine x_istore ?_
    refine x_iload rfl ?_
    refine x_aload rfl ?_
    refine x_getR (r := 4) rfl (by decide) (by decide) rfl ?_
    refine x_lenG (n := 90) (L := 90) rfl (by decide) rfl (by decide) rfl ?_
    refine x_cS (fun _ => rfl) (Nat.le_of_ble_eq_true rfl) ?_
    refine sf_2 (by omega) (by omega) (by omega) (by omega) C0 (fun y8 => ?_) (fun y8 => ?_)
    · skip
      refine x_if_eq (by omega) (by omega) (fun z => absurd z (by omega)) (fun z9 => ?_)
      refine x_aload rfl ?_
      refine x_getR (r := 4) rfl (by decide) (by decide) rfl ?_
      refine x_iload rfl ?_
      refine x_ialdG y_a10 C0 (by omega) (by omega) (fun v10 v10a v10b => ?_)
      refine x_if_lt (by omega) (by omega) (fun z11 => ?_) (fun z11 => ?_)
      · skip
        refine x_blk (b := 4) (a_12 E) rfl ?_
        unfold b_12_4
        refine x_aload rfl ?_
        refine x_getR (r := 4) rfl (by decide) (by decide) rfl ?_
        refine x_iload rfl ?_
        refine x_iload rfl ?_
        refine x_astG y_a10 C0 (by decide) (y_fr_rf (lo := 10) (hi := 11)) (by omega) (by omega) (by omega) (by omega) (fun S12 e12 C12 F12 => ?_)
        refine x_fall ?_
        refine x_blk (b := 3) (a_12 E) rfl ?_
        unfold b_12_3
        refine x_vret ?_
        exact k _ C12 F12 
      · skip
        refine x_iload rfl ?_
        refine x_if_eq (by omega) (by omega) (fun z13 => ?_) (fun z => absurd (by omega) z)
        refine x_blk (b := 3) (a_12 E) rfl ?_
        unfold b_12_3
        refine x_vret ?_
        exact k _ C0 (y_fr_rf (lo := 10) (hi := 11)) 
    · skip
      refine x_if_eq (by omega) (by omega) (fun z14 => ?_) (fun z => absurd (by omega) z)
      refine x_blk (b := 3) (a_12 E) rfl ?_
      unfold b_12_3
      refine x_vret ?_
      exact k _ C0 (y_fr_rf (lo := 10) (hi := 11)) 
  · skip
    refine x_push 1 rfl ?_
    refine x_goto ?_
    refine x_blk (b := 2) (a_12 E) rfl ?_
    unfold b_12_2
    refine x_istore ?_
    refine x_iload rfl ?_
    refine x_aload rfl ?_
    refine x_getR (r := 4) rfl (by decide) (by decide) rfl ?_
    refine x_lenG (n := 90) (L := 90) rfl (by decide) rfl (by decide) rfl ?_
    refine x_cS (fun _ => rfl) (Nat.le_of_ble_eq_true rfl) ?_
    refine sf_2 (by omega) (by omega) (by omega) (by omega) C0 (fun y15 => ?_) (fun y15 => ?_)
    · skip
      refine x_if_eq (by omega) (by omega) (fun z => absurd z (by omega)) (fun z16 => ?_)
      refine x_aload rfl ?_
      refine x_getR (r := 4) rfl (by decide) (by decide) rfl ?_
      refine x_iload rfl ?_
      refine x_ialdG y_a10 C0 (by omega) (by omega) (fun v17 v17a v17b => ?_)
      refine x_if_lt (by omega) (by omega) (fun z18 => ?_) (fun z18 => ?_)
      · skip
        refine x_blk (b := 4) (a_12 E) rfl ?_
        unfold b_12_4
        refine x_aload rfl ?_
        refine x_getR (r := 4) rfl (by decide) (by decide) rfl ?_
        refine x_iload rfl ?_
        refine x_iload rfl ?_
        refine x_astG y_a10 C0 (by decide) (y_fr_rf (lo := 10) (hi := 11)) (by omega) (by omega) (by omega) (by omega) (fun S19 e19 C19 F19 => ?_)
        refine x_fall ?_
        refine x_blk (b := 3) (a_12 E) rfl ?_
        unfold b_12_3
        refine x_vret ?_
        exact k _ C19 F19 
      · skip
        refine x_iload rfl ?_
        refine x_if_eq (by omega) (by omega) (fun z => absurd z (by omega)) (fun z20 => ?_)
        refine x_fall ?_
        refine x_blk (b := 4) (a_12 E) rfl ?_
        unfold b_12_4
        refine x_aload rfl ?_
        refine x_getR (r := 4) rfl (by decide) (by decide) rfl ?_
        refine x_iload rfl ?_
        refine x_iload rfl ?_
        refine x_astG y_a10 C0 (by decide) (y_fr_rf (lo := 10) (hi := 11)) (by omega) (by omega) (by omega) (by omega) (fun S21 e21 C21 F21 => ?_)
        refine x_fall ?_
        refine x_blk (b := 3) (a_12 E) rfl ?_
        unfold b_12_3
        refine x_vret ?_
        exact k _ C21 F21 
    · skip
      refine x_if_eq (by omega) (by omega) (fun z22 => ?_) (fun z => absurd (by omega) z)
      refine x_blk (b := 3) (a_12 E) rfl ?_
      unfold b_12_3
      refine x_vret ?_
      exact k _ C0 (y_fr_rf (lo := 10) (hi := 11)) 
theorem sf_27_10_b2 {E : q_E} {σ : x_S} {Q : Option q_V → x_S → Prop} {a1 : Int} (a1l : (-4) ≤ a1) (a1h : a1 ≤ 15) (C0 : y_CI σ) (k : ∀ τ, y_CI τ → y_fq 10 11 σ τ → Q none τ) : ∀ (N : Nat) (i : Int) (τ : x_S), (100 - i).toNat = N → 0 ≤ i → i ≤ 100 → y_CI τ → y_fq 10 11 σ τ → x_G E m_27 Q (t_27 2) [(0, x_R 10), (1, x_I a1), (2, x_I i), (3, x_I 90)] [] τ := by
  intro N
  induction N using Nat.strongRecOn with
  | ind N ih =>
    intro i τ hN iL iH C F
    refine x_blk (b := 2) (a_27 E) rfl ?_
    unfold b_27_2
    refine x_iload rfl ?_
    refine x_iload rfl ?_
    refine x_icmp_ge (by omega) (by omega) (by omega) (by omega) (fun z1 => ?_) (fun z1 => ?_)
    · skip
      refine x_aload rfl ?_
      refine x_iload rfl ?_
      refine x_iload rfl ?_
      refine x_astG y_a10 C (by decide) F (by omega) (by omega) (by omega) (by omega) (fun S2 e2 C2 F2 => ?_)
      refine x_iinc 1 rfl rfl ?_
      refine x_goto ?_
      refine x_G_lo (lo' := [(0, x_R 10), (1, x_I _), (2, x_I _), (3, x_I _)]) ⟨rfl, rfl, rfl, rfl, trivial⟩ ?_
      exact ih _ (by omega) _ _ rfl (by omega) (by omega)  C2 F2
    · skip
      refine x_blk (b := 1) (a_27 E) rfl ?_
      unfold b_27_1
      refine x_vret ?_
      exact k _ C F 
theorem sf_27_10 {E : q_E} {σ : x_S} {Q : Option q_V → x_S → Prop} {a1 : Int} (a1l : (-4) ≤ a1) (a1h : a1 ≤ 15) (C0 : y_CI σ) (k : ∀ τ, y_CI τ → y_fq 10 11 σ τ → Q none τ) : x_P E 27 [x_R 10, x_I a1] σ Q := by
  refine x_Mt e_27 (h_27 E) (Nat.le_of_ble_eq_true rfl) t_27 rfl ?_
  refine x_blk (b := 0) (a_27 E) rfl ?_
  unfold b_27_0
  refine x_push 0 rfl ?_
  refine x_istore ?_
  refine x_aload rfl ?_
  refine x_lenG (n := 90) (L := 90) rfl (by decide) rfl (by decide) rfl ?_
  refine x_istore ?_
  refine x_X_lo (lo' := [(0, x_R 10), (1, x_I _), (2, x_I _), (3, x_I _)]) ⟨rfl, rfl, rfl, rfl, trivial⟩ ?_
  refine x_fall ?_
  refine x_G_lo (lo' := [(0, x_R 10), (1, x_I _), (2, x_I _), (3, x_I _)]) ⟨rfl, rfl, rfl, rfl, trivial⟩ ?_
  exact sf_27_10_b2 a1l a1h C0 k  _ _ _ rfl (by omega) (by omega)  C0 (y_fr_rf (lo := 10) (hi := 11))
theorem sf_48_4_b5 {E : q_E} {σ : x_S} {Q : Option q_V → x_S → Prop} (C0 : y_CI σ) (k : ∀ τ, y_CI τ → y_fq 10 11 σ τ → Q none τ) {r : Int} (rL : 0 ≤ r) (rH : r ≤ 15) (ho : ∀ (r' : Int) (τ' : x_S), (16 - r').toNat < (16 - r).toNat → 0 ≤ r' → r' ≤ 16 → y_CI τ' → y_fq 10 11 σ τ' → x_G E m_48 Q (t_48 6) [(0, x_R 4), (1, x_I r')] [] τ') : ∀ (N : Nat) (s l : Int) (τ : x_S), (3 - l).toNat = N → 0 ≤ s → s ≤ 15 → 0 ≤ l → l ≤ 3 → y_CI τ → y_fq 10 11 σ τ → x_G E m_48 Q (t_48 5) [(0, x_R 4), (1, x_I r), (2, x_I s), (3, x_I l)] [] τ := by
  intro N
  induction N using Nat.strongRecOn with
  | ind N ih =>
    intro s l τ hN sL sH lL lH C F
    refine x_blk (b := 5) (a_48 E) rfl ?_
    unfold b_48_5
    refine x_iload rfl ?_
    refine x_push 3 rfl ?_
    refine x_icmp_ge (by omega) (by omega) (by omega) (by omega) (fun z1 => ?_) (fun z1 => ?_)
    · skip
      refine x_iload rfl ?_
      refine x_push 2 rfl ?_
      refine x_icmp_eq (by omega) (by omega) (by omega) (by omega) (fun z2 => ?_) (fun z2 => ?_)
      · skip
        refine x_blk (b := 3) (a_48 E) rfl ?_
        unfold b_48_3
        refine x_aload rfl ?_
        refine x_iload rfl ?_
        refine x_iload rfl ?_
        refine x_cV (fun _ => rfl) rfl (by decide) (Nat.le_of_ble_eq_true rfl) ?_
        refine sf_12_4 (by omega) (by omega) (by omega) (by omega) C (fun S3 C3 f3 => ?_)
        have F3 := y_fq_tr (by decide) F f3
        refine x_fall ?_
        refine x_blk (b := 4) (a_48 E) rfl ?_
        unfold b_48_4
        refine x_iinc 1 rfl rfl ?_
        refine x_goto ?_
        refine x_G_lo (lo' := [(0, x_R 4), (1, x_I _), (2, x_I _), (3, x_I _)]) ⟨rfl, rfl, rfl, rfl, trivial⟩ ?_
        exact ih _ (by omega) _ _ _ rfl (by omega) (by omega) (by omega) (by omega)  C3 F3
      · skip
        refine x_iload rfl ?_
        refine x_iload rfl ?_
        refine x_icmp_ne (by omega) (by omega) (by omega) (by omega) (fun z4 => ?_) (fun z4 => ?_)
        · skip
          refine x_fall ?_
          refine x_blk (b := 3) (a_48 E) rfl ?_
          unfold b_48_3
          refine x_aload rfl ?_
          refine x_iload rfl ?_
          refine x_iload rfl ?_
          refine x_cV (fun _ => rfl) rfl (by decide) (Nat.le_of_ble_eq_true rfl) ?_
          refine sf_12_4 (by omega) (by omega) (by omega) (by omega) C (fun S5 C5 f5 => ?_)
          have F5 := y_fq_tr (by decide) F f5
          refine x_fall ?_
          refine x_blk (b := 4) (a_48 E) rfl ?_
          unfold b_48_4
          refine x_iinc 1 rfl rfl ?_
          refine x_goto ?_
          refine x_G_lo (lo' := [(0, x_R 4), (1, x_I _), (2, x_I _), (3, x_I _)]) ⟨rfl, rfl, rfl, rfl, trivial⟩ ?_
          exact ih _ (by omega) _ _ _ rfl (by omega) (by omega) (by omega) (by omega)  C5 F5
        · skip
          refine x_blk (b := 4) (a_48 E) rfl ?_
          unfold b_48_4
          refine x_iinc 1 rfl rfl ?_
          refine x_goto ?_
          refine x_G_lo (lo' := [(0, x_R 4), (1, x_I _), (2, x_I _), (3, x_I _)]) ⟨rfl, rfl, rfl, rfl, trivial⟩ ?_
          exact ih _ (by omega) _ _ _ rfl (by omega) (by omega) (by omega) (by omega)  C F
    · skip
      refine x_blk (b := 2) (a_48 E) rfl ?_
      unfold b_48_2
      refine x_iinc 1 rfl rfl ?_
      refine x_goto ?_
      refine x_G_lo (lo' := [(0, x_R 4), (1, x_I _)]) ⟨rfl, rfl, trivial⟩ ?_
      exact ho _ _ (by omega) (by omega) (by omega)  C F
theorem sf_48_4_b6 {E : q_E} {σ : x_S} {Q : Option q_V → x_S → Prop} (C0 : y_CI σ) (k : ∀ τ, y_CI τ → y_fq 10 11 σ τ → Q none τ) : ∀ (N : Nat) (r : Int) (τ : x_S), (16 - r).toNat = N → 0 ≤ r → r ≤ 16 → y_CI τ → y_fq 10 11 σ τ → x_G E m_48 Q (t_48 6) [(0, x_R 4), (1, x_I r)] [] τ := by
  intro N
  induction N using Nat.strongRecOn with
  | ind N ih =>
    intro r τ hN rL rH C F
    refine x_blk (b := 6) (a_48 E) rfl ?_
    unfold b_48_6
    refine x_iload rfl ?_
    refine x_aload rfl ?_
    refine x_getIG y_f4_6 C ?_
    intro g1a g1b
    refine x_icmp_ge (by omega) (by omega) (by omega) (by omega) (fun z2 => ?_) (fun z2 => ?_)
    · skip
      refine x_aload rfl ?_
      refine x_iload rfl ?_
      refine x_push 3 rfl ?_
      refine x_cV (fun _ => rfl) rfl (by decide) (Nat.le_of_ble_eq_true rfl) ?_
      refine sf_6_4 (by omega) (by omega) (by omega) (by omega) C (fun v3 v3a v3b => ?_)
      refine x_istore ?_
      refine x_push 0 rfl ?_
      refine x_istore ?_
      refine x_X_lo (lo' := [(0, x_R 4), (1, x_I _), (2, x_I _), (3, x_I _)]) ⟨rfl, rfl, rfl, rfl, trivial⟩ ?_
      refine x_fall ?_
      refine x_G_lo (lo' := [(0, x_R 4), (1, x_I _), (2, x_I _), (3, x_I _)]) ⟨rfl, rfl, rfl, rfl, trivial⟩ ?_
      exact sf_48_4_b5 C0 k (by omega) (by omega) (fun x0 t z h0 h1 c f => ih _ (by omega) x0 t rfl h0 h1 c f) _ _ _ _ rfl (by omega) (by omega) (by omega) (by omega)  C F
    · skip
      refine x_blk (b := 1) (a_48 E) rfl ?_
      unfold b_48_1
      refine x_vret ?_
      exact k _ C F 
theorem sf_48_4 {E : q_E} {σ : x_S} {Q : Option q_V → x_S → Prop} (C0 : y_CI σ) (k : ∀ τ, y_CI τ → y_fq 10 11 σ τ → Q none τ) : x_P E 48 [x_R 4] σ Q := by
  refine x_Mt e_48 (h_48 E) (Nat.le_of_ble_eq_true rfl) t_48 rfl ?_
  refine x_blk (b := 0) (a_48 E) rfl ?_
  unfold b_48_0
  refine x_aload rfl ?_
  refine x_getR (r := 4) rfl (by decide) (by decide) rfl ?_
  refine x_push (-4) rfl ?_
  refine x_cS (fun _ => rfl) (Nat.le_of_ble_eq_true rfl) ?_
  refine sf_27_10 (by omega) (by omega) C0 (fun S1 C1 f1 => ?_)
  have F1 := y_fq_tr (by decide) (y_fr_rf (lo := 10) (hi := 11)) f1
  refine x_push 0 rfl ?_
  refine x_istore ?_
  refine x_fall ?_
  refine x_G_lo (lo' := [(0, x_R 4), (1, x_I _)]) ⟨rfl, rfl, trivial⟩ ?_
  exact sf_48_4_b6 C0 k  _ _ _ rfl (by omega) (by omega)  C1 F1
theorem sf_89_0 {E : q_E} {σ : x_S} {Q : Option q_V → x_S → Prop} (C0 : y_CI σ) (k : ∀ τ, y_CI τ → y_fq 10 125 σ τ → Q none τ) : x_P E 89 [x_R 0] σ Q := by
  refine x_Mt e_89 (h_89 E) (Nat.le_of_ble_eq_true rfl) t_89 rfl ?_
  refine x_blk (b := 0) (a_89 E) rfl ?_
  unfold b_89_0
  refine x_aload rfl ?_
  refine x_getR (r := 0) rfl (by decide) (by decide) rfl ?_
  refine x_cV (fun _ => rfl) rfl (by decide) (Nat.le_of_ble_eq_true rfl) ?_
  refine sf_48_4  C0 (fun S1 C1 f1 => ?_)
  have F1 := y_fq_tr (by decide) (y_fr_rf (lo := 10) (hi := 125)) f1
  refine x_aload rfl ?_
  refine x_cV (fun _ => rfl) rfl (by decide) (Nat.le_of_ble_eq_true rfl) ?_
  refine sf_83_0  C1 (fun S2 C2 f2 => ?_)
  have F2 := y_fq_tr (by decide) F1 f2
  refine x_vret ?_
  exact k _ C2 F2 
theorem sf_131_0 {E : q_E} {σ : x_S} {Q : Option q_V → x_S → Prop} {a1 : Int} (a1l : (-2147483648) ≤ a1) (a1h : a1 ≤ 2147483647) (C0 : y_CI σ) (k : ∀ τ v, y_CI τ → y_fq 1 138 σ τ → (-2147483648) ≤ v → v ≤ 2147483647 → Q (some (x_I v)) τ) : x_P E 131 [x_R 0, x_I a1] σ Q := by
  refine x_Mt e_131 (h_131 E) (Nat.le_of_ble_eq_true rfl) t_131 rfl ?_
  refine x_blk (b := 0) (a_131 E) rfl ?_
  unfold b_131_0
  refine x_iload rfl ?_
  refine x_if_lt (by omega) (by omega) (fun z1 => ?_) (fun z1 => ?_)
  · skip
    refine x_blk (b := 1) (a_131 E) rfl ?_
    unfold b_131_1
    refine x_push (-1) rfl ?_
    refine x_iret ?_
    exact k _ _ C0 (y_fr_rf (lo := 1) (hi := 138)) (by omega) (by omega) 
  · skip
    refine x_iload rfl ?_
    refine x_aload rfl ?_
    refine x_getR (r := 0) rfl (by decide) (by decide) rfl ?_
    refine x_getIG y_f4_6 C0 ?_
    intro g2a g2b
    refine x_icmp_le (by omega) (by omega) (by omega) (by omega) (fun z3 => ?_) (fun z3 => ?_)
    · skip
      refine x_blk (b := 2) (a_131 E) rfl ?_
      unfold b_131_2
      refine x_iload rfl ?_
      refine x_push 16 rfl ?_
      refine x_icmp_lt (by omega) (by omega) (by omega) (by omega) (fun z4 => ?_) (fun z4 => ?_)
      · skip
        refine x_blk (b := 3) (a_131 E) rfl ?_
        unfold b_131_3
        refine x_aload rfl ?_
        refine x_getR (r := 0) rfl (by decide) (by decide) rfl ?_
        refine x_aload rfl ?_
        refine x_getR (r := 0) rfl (by decide) (by decide) rfl ?_
        refine x_cV (fun _ => rfl) rfl (by decide) (Nat.le_of_ble_eq_true rfl) ?_
        refine sf_101_1_137  C0 (fun S5 v5 C5 f5 v5a v5b => ?_)
        have F5 := y_fq_tr (by decide) (y_fr_rf (lo := 1) (hi := 138)) f5
        refine x_istore ?_
        refine x_iload rfl ?_
        refine x_push (-4) rfl ?_
        refine x_icmp_eq (by omega) (by omega) (by omega) (by omega) (fun z6 => ?_) (fun z6 => ?_)
        · skip
          refine x_blk (b := 4) (a_131 E) rfl ?_
          unfold b_131_4
          refine x_aload rfl ?_
          refine x_getR (r := 0) rfl (by decide) (by decide) rfl ?_
          refine x_aload rfl ?_
          refine x_getR (r := 0) rfl (by decide) (by decide) rfl ?_
          refine x_cV (fun _ => rfl) rfl (by decide) (Nat.le_of_ble_eq_true rfl) ?_
          refine sf_75_18_4  C5 (fun S7 C7 f7 => ?_)
          have F7 := y_fq_tr (by decide) F5 f7
          refine x_aload rfl ?_
          refine x_getR (r := 0) rfl (by decide) (by decide) rfl ?_
          refine x_iload rfl ?_
          refine x_aload rfl ?_
          refine x_getR (r := 0) rfl (by decide) (by decide) rfl ?_
          refine x_cV (fun _ => rfl) rfl (by decide) (Nat.le_of_ble_eq_true rfl) ?_
          refine sf_21_4_137 (by omega) (by omega) C7 (fun S8 C8 f8 => ?_)
          have F8 := y_fq_tr (by decide) F7 f8
          refine x_aload rfl ?_
          refine x_cV (fun _ => rfl) rfl (by decide) (Nat.le_of_ble_eq_true rfl) ?_
          refine sf_89_0  C8 (fun S9 C9 f9 => ?_)
          have F9 := y_fq_tr (by decide) F8 f9
          refine x_aload rfl ?_
          refine x_getR (r := 0) rfl (by decide) (by decide) rfl ?_
          refine x_getIG y_f4_6 C9 ?_
          intro g10a g10b
          refine x_iret ?_
          exact k _ _ C9 F9 (by omega) (by omega) 
        · skip
          refine x_push (-10) rfl ?_
          refine x_iload rfl ?_
          refine x_isub ?_
          refine x_iret ?_
          exact k _ _ C5 F5 (by omega) (by omega) 
      · skip
        refine x_push (-3) rfl ?_
        refine x_iret ?_
        exact k _ _ C0 (y_fr_rf (lo := 1) (hi := 138)) (by omega) (by omega) 
    · skip
      refine x_fall ?_
      refine x_blk (b := 1) (a_131 E) rfl ?_
      unfold b_131_1
      refine x_push (-1) rfl ?_
      refine x_iret ?_
      exact k _ _ C0 (y_fr_rf (lo := 1) (hi := 138)) (by omega) (by omega) 
theorem sf_102_4 {E : q_E} {σ : x_S} {Q : Option q_V → x_S → Prop} {a1 : Int} (a1l : (-2147483648) ≤ a1) (a1h : a1 ≤ 2147483647) (C0 : y_CI σ) (k : ∀ τ, y_CI τ → y_fq 4 10 σ τ → Q none τ) : x_P E 102 [x_R 4, x_I a1] σ Q := by
  refine x_Mt e_102 (h_102 E) (Nat.le_of_ble_eq_true rfl) t_102 rfl ?_
  refine x_blk (b := 0) (a_102 E) rfl ?_
  unfold b_102_0
  refine x_aload rfl ?_
  refine x_iload rfl ?_
  refine x_cV (fun _ => rfl) rfl (by decide) (Nat.le_of_ble_eq_true rfl) ?_
  refine sf_60_4 (by omega) (by omega) C0 (fun y1 => ?_) (fun y1 => ?_)
  · skip
    refine x_if_eq (by omega) (by omega) (fun z => absurd z (by omega)) (fun z2 => ?_)
    refine x_aload rfl ?_
    refine x_dup rfl ?_
    refine x_getIG y_f4_6 C0 ?_
    intro g3a g3b
    refine x_push 1 rfl ?_
    refine x_isub ?_
    refine x_putIG y_f4_6 ⟨by decide, rfl⟩ (by decide) C0 (by decide) (y_fr_rf (lo := 4) (hi := 10)) (by omega) (by omega) (fun S4 e4 C4 F4 => ?_)
    refine x_aload rfl ?_
    refine x_getR (r := 4) rfl (by decide) (by decide) rfl ?_
    refine x_iload rfl ?_
    refine x_push 1 rfl ?_
    refine x_iadd ?_
    refine x_push 12 rfl ?_
    refine x_imul ?_
    refine x_aload rfl ?_
    refine x_getR (r := 4) rfl (by decide) (by decide) rfl ?_
    refine x_iload rfl ?_
    refine x_push 12 rfl ?_
    refine x_imul ?_
    refine x_aload rfl ?_
    refine x_getIG y_f4_6 C4 ?_
    intro g5a g5b
    have w5 := x_up_at e4
    refine x_iload rfl ?_
    refine x_isub ?_
    refine x_push 12 rfl ?_
    refine x_imul ?_
    refine x_copyG y_a9 y_a9 (by decide) (by decide) C4 (by decide) F4 (by omega) (by omega) (by omega) (by omega) (by omega) (Nat.le_of_ble_eq_true rfl) (fun S6 e6 C6 F6 => ?_)
    refine x_fall ?_
    refine x_blk (b := 1) (a_102 E) rfl ?_
    unfold b_102_1
    refine x_vret ?_
    exact k _ C6 F6 
  · skip
    refine x_if_eq (by omega) (by omega) (fun z7 => ?_) (fun z => absurd (by omega) z)
    refine x_blk (b := 1) (a_102 E) rfl ?_
    unfold b_102_1
    refine x_vret ?_
    exact k _ C0 (y_fr_rf (lo := 4) (hi := 10)) 
theorem sf_132_0 {E : q_E} {σ : x_S} {Q : Option q_V → x_S → Prop} {a1 : Int} (a1l : (-2147483648) ≤ a1) (a1h : a1 ≤ 2147483647) (C0 : y_CI σ) (k : ∀ τ v, y_CI τ → y_fq 4 125 σ τ → (-2147483648) ≤ v → v ≤ 2147483647 → Q (some (x_I v)) τ) : x_P E 132 [x_R 0, x_I a1] σ Q := by
  refine x_Mt e_132 (h_132 E) (Nat.le_of_ble_eq_true rfl) t_132 rfl ?_
  refine x_blk (b := 0) (a_132 E) rfl ?_
  unfold b_132_0
  refine x_aload rfl ?_
  refine x_getR (r := 0) rfl (by decide) (by decide) rfl ?_
  refine x_iload rfl ?_
  refine x_cV (fun _ => rfl) rfl (by decide) (Nat.le_of_ble_eq_true rfl) ?_
  refine sf_60_4 (by omega) (by omega) C0 (fun y1 => ?_) (fun y1 => ?_)
  · skip
    refine x_if_ne (by omega) (by omega) (fun z => absurd z (by omega)) (fun z2 => ?_)
    refine x_blk (b := 1) (a_132 E) rfl ?_
    unfold b_132_1
    refine x_aload rfl ?_
    refine x_getR (r := 0) rfl (by decide) (by decide) rfl ?_
    refine x_aload rfl ?_
    refine x_getR (r := 0) rfl (by decide) (by decide) rfl ?_
    refine x_cV (fun _ => rfl) rfl (by decide) (Nat.le_of_ble_eq_true rfl) ?_
    refine sf_75_18_4  C0 (fun S3 C3 f3 => ?_)
    have F3 := y_fq_tr (by decide) (y_fr_rf (lo := 4) (hi := 125)) f3
    refine x_aload rfl ?_
    refine x_getR (r := 0) rfl (by decide) (by decide) rfl ?_
    refine x_iload rfl ?_
    refine x_cV (fun _ => rfl) rfl (by decide) (Nat.le_of_ble_eq_true rfl) ?_
    refine sf_102_4 (by omega) (by omega) C3 (fun S4 C4 f4 => ?_)
    have F4 := y_fq_tr (by decide) F3 f4
    refine x_aload rfl ?_
    refine x_cV (fun _ => rfl) rfl (by decide) (Nat.le_of_ble_eq_true rfl) ?_
    refine sf_89_0  C4 (fun S5 C5 f5 => ?_)
    have F5 := y_fq_tr (by decide) F4 f5
    refine x_aload rfl ?_
    refine x_getR (r := 0) rfl (by decide) (by decide) rfl ?_
    refine x_getIG y_f4_6 C5 ?_
    intro g6a g6b
    refine x_iret ?_
    exact k _ _ C5 F5 (by omega) (by omega) 
  · skip
    refine x_if_ne (by omega) (by omega) (fun z7 => ?_) (fun z => absurd (by omega) z)
    refine x_push (-1) rfl ?_
    refine x_iret ?_
    exact k _ _ C0 (y_fr_rf (lo := 4) (hi := 125)) (by omega) (by omega) 
theorem sf_103_4_137 {E : q_E} {σ : x_S} {Q : Option q_V → x_S → Prop} {a1 a2 : Int} (a1l : (-2147483648) ≤ a1) (a1h : a1 ≤ 2147483647) (a2l : (-2147483648) ≤ a2) (a2h : a2 ≤ 2147483647) (C0 : y_CI σ) (k : ∀ τ, y_CI τ → y_fq 9 138 σ τ → Q none τ) : x_P E 103 [x_R 4, x_I a1, x_I a2, x_R 137] σ Q := by
  refine x_Mt e_103 (h_103 E) (Nat.le_of_ble_eq_true rfl) t_103 rfl ?_
  refine x_blk (b := 0) (a_103 E) rfl ?_
  unfold b_103_0
  refine x_aload rfl ?_
  refine x_iload rfl ?_
  refine x_cV (fun _ => rfl) rfl (by decide) (Nat.le_of_ble_eq_true rfl) ?_
  refine sf_60_4 (by omega) (by omega) C0 (fun y1 => ?_) (fun y1 => ?_)
  · skip
    refine x_if_eq (by omega) (by omega) (fun z => absurd z (by omega)) (fun z2 => ?_)
    refine x_aload rfl ?_
    refine x_iload rfl ?_
    refine x_cV (fun _ => rfl) rfl (by decide) (Nat.le_of_ble_eq_true rfl) ?_
    refine sf_60_4 (by omega) (by omega) C0 (fun y3 => ?_) (fun y3 => ?_)
    · skip
      refine x_if_eq (by omega) (by omega) (fun z => absurd z (by omega)) (fun z4 => ?_)
      refine x_aload rfl ?_
      refine x_lenG (n := 12) (L := 12) rfl (by decide) rfl (by decide) rfl ?_
      refine x_push 12 rfl ?_
      refine x_icmp_ge (by omega) (by omega) (by omega) (by omega) (fun z => absurd z (by omega)) (fun z5 => ?_)
      refine x_blk (b := 2) (a_103 E) rfl ?_
      unfold b_103_2
      refine x_aload rfl ?_
      refine x_getR (r := 4) rfl (by decide) (by decide) rfl ?_
      refine x_iload rfl ?_
      refine x_push 12 rfl ?_
      refine x_imul ?_
      refine x_aload rfl ?_
      refine x_push 0 rfl ?_
      refine x_push 12 rfl ?_
      refine x_copyG y_a9 y_a137 (by decide) (by decide) C0 (by decide) (y_fr_rf (lo := 9) (hi := 138)) (by omega) (by omega) (by omega) (by omega) (by omega) (Nat.le_of_ble_eq_true rfl) (fun S6 e6 C6 F6 => ?_)
      refine x_iload rfl ?_
      refine x_iload rfl ?_
      refine x_icmp_ge (by omega) (by omega) (by omega) (by omega) (fun z7 => ?_) (fun z7 => ?_)
      · skip
        refine x_aload rfl ?_
        refine x_getR (r := 4) rfl (by decide) (by decide) rfl ?_
        refine x_iload rfl ?_
        refine x_push 1 rfl ?_
        refine x_iadd ?_
        refine x_push 12 rfl ?_
        refine x_imul ?_
        refine x_aload rfl ?_
        refine x_getR (r := 4) rfl (by decide) (by decide) rfl ?_
        refine x_iload rfl ?_
        refine x_push 12 rfl ?_
        refine x_imul ?_
        refine x_iload rfl ?_
        refine x_iload rfl ?_
        refine x_isub ?_
        refine x_push 12 rfl ?_
        refine x_imul ?_
        refine x_copyG y_a9 y_a9 (by decide) (by decide) C6 (by decide) F6 (by omega) (by omega) (by omega) (by omega) (by omega) (Nat.le_of_ble_eq_true rfl) (fun S8 e8 C8 F8 => ?_)
        refine x_goto ?_
        refine x_blk (b := 4) (a_103 E) rfl ?_
        unfold b_103_4
        refine x_aload rfl ?_
        refine x_push 0 rfl ?_
        refine x_aload rfl ?_
        refine x_getR (r := 4) rfl (by decide) (by decide) rfl ?_
        refine x_iload rfl ?_
        refine x_push 12 rfl ?_
        refine x_imul ?_
        refine x_push 12 rfl ?_
        refine x_copyG y_a137 y_a9 (by decide) (by decide) C8 (by decide) F8 (by omega) (by omega) (by omega) (by omega) (by omega) (Nat.le_of_ble_eq_true rfl) (fun S9 e9 C9 F9 => ?_)
        refine x_vret ?_
        exact k _ C9 F9 
      · skip
        refine x_blk (b := 3) (a_103 E) rfl ?_
        unfold b_103_3
        refine x_aload rfl ?_
        refine x_getR (r := 4) rfl (by decide) (by decide) rfl ?_
        refine x_iload rfl ?_
        refine x_push 12 rfl ?_
        refine x_imul ?_
        refine x_aload rfl ?_
        refine x_getR (r := 4) rfl (by decide) (by decide) rfl ?_
        refine x_iload rfl ?_
        refine x_push 1 rfl ?_
        refine x_iadd ?_
        refine x_push 12 rfl ?_
        refine x_imul ?_
        refine x_iload rfl ?_
        refine x_iload rfl ?_
        refine x_isub ?_
        refine x_push 12 rfl ?_
        refine x_imul ?_
        refine x_copyG y_a9 y_a9 (by decide) (by decide) C6 (by decide) F6 (by omega) (by omega) (by omega) (by omega) (by omega) (Nat.le_of_ble_eq_true rfl) (fun S10 e10 C10 F10 => ?_)
        refine x_fall ?_
        refine x_blk (b := 4) (a_103 E) rfl ?_
        unfold b_103_4
        refine x_aload rfl ?_
        refine x_push 0 rfl ?_
        refine x_aload rfl ?_
        refine x_getR (r := 4) rfl (by decide) (by decide) rfl ?_
        refine x_iload rfl ?_
        refine x_push 12 rfl ?_
        refine x_imul ?_
        refine x_push 12 rfl ?_
        refine x_copyG y_a137 y_a9 (by decide) (by decide) C10 (by decide) F10 (by omega) (by omega) (by omega) (by omega) (by omega) (Nat.le_of_ble_eq_true rfl) (fun S11 e11 C11 F11 => ?_)
        refine x_vret ?_
        exact k _ C11 F11 
    · skip
      refine x_if_eq (by omega) (by omega) (fun z12 => ?_) (fun z => absurd (by omega) z)
      refine x_blk (b := 1) (a_103 E) rfl ?_
      unfold b_103_1
      refine x_vret ?_
      exact k _ C0 (y_fr_rf (lo := 9) (hi := 138)) 
  · skip
    refine x_if_eq (by omega) (by omega) (fun z13 => ?_) (fun z => absurd (by omega) z)
    refine x_blk (b := 1) (a_103 E) rfl ?_
    unfold b_103_1
    refine x_vret ?_
    exact k _ C0 (y_fr_rf (lo := 9) (hi := 138)) 
theorem sf_133_0 {E : q_E} {σ : x_S} {Q : Option q_V → x_S → Prop} {a1 a2 : Int} (a1l : (-2147483648) ≤ a1) (a1h : a1 ≤ 2147483647) (a2l : (-2147483648) ≤ a2) (a2h : a2 ≤ 2147483647) (C0 : y_CI σ) (k : ∀ τ v, y_CI τ → y_fq 9 138 σ τ → (-2147483648) ≤ v → v ≤ 2147483647 → Q (some (x_I v)) τ) : x_P E 133 [x_R 0, x_I a1, x_I a2] σ Q := by
  refine x_Mt e_133 (h_133 E) (Nat.le_of_ble_eq_true rfl) t_133 rfl ?_
  refine x_blk (b := 0) (a_133 E) rfl ?_
  unfold b_133_0
  refine x_aload rfl ?_
  refine x_getR (r := 0) rfl (by decide) (by decide) rfl ?_
  refine x_iload rfl ?_
  refine x_cV (fun _ => rfl) rfl (by decide) (Nat.le_of_ble_eq_true rfl) ?_
  refine sf_60_4 (by omega) (by omega) C0 (fun y1 => ?_) (fun y1 => ?_)
  · skip
    refine x_if_eq (by omega) (by omega) (fun z => absurd z (by omega)) (fun z2 => ?_)
    refine x_aload rfl ?_
    refine x_getR (r := 0) rfl (by decide) (by decide) rfl ?_
    refine x_iload rfl ?_
    refine x_cV (fun _ => rfl) rfl (by decide) (Nat.le_of_ble_eq_true rfl) ?_
    refine sf_60_4 (by omega) (by omega) C0 (fun y3 => ?_) (fun y3 => ?_)
    · skip
      refine x_if_ne (by omega) (by omega) (fun z => absurd z (by omega)) (fun z4 => ?_)
      refine x_blk (b := 2) (a_133 E) rfl ?_
      unfold b_133_2
      refine x_iload rfl ?_
      refine x_iload rfl ?_
      refine x_icmp_ne (by omega) (by omega) (by omega) (by omega) (fun z5 => ?_) (fun z5 => ?_)
      · skip
        refine x_push (-2) rfl ?_
        refine x_iret ?_
        exact k _ _ C0 (y_fr_rf (lo := 9) (hi := 138)) (by omega) (by omega) 
      · skip
        refine x_blk (b := 3) (a_133 E) rfl ?_
        unfold b_133_3
        refine x_aload rfl ?_
        refine x_getR (r := 0) rfl (by decide) (by decide) rfl ?_
        refine x_aload rfl ?_
        refine x_getR (r := 0) rfl (by decide) (by decide) rfl ?_
        refine x_cV (fun _ => rfl) rfl (by decide) (Nat.le_of_ble_eq_true rfl) ?_
        refine sf_75_18_4  C0 (fun S6 C6 f6 => ?_)
        have F6 := y_fq_tr (by decide) (y_fr_rf (lo := 9) (hi := 138)) f6
        refine x_aload rfl ?_
        refine x_getR (r := 0) rfl (by decide) (by decide) rfl ?_
        refine x_iload rfl ?_
        refine x_iload rfl ?_
        refine x_aload rfl ?_
        refine x_getR (r := 0) rfl (by decide) (by decide) rfl ?_
        refine x_cV (fun _ => rfl) rfl (by decide) (Nat.le_of_ble_eq_true rfl) ?_
        refine sf_103_4_137 (by omega) (by omega) (by omega) (by omega) C6 (fun S7 C7 f7 => ?_)
        have F7 := y_fq_tr (by decide) F6 f7
        refine x_aload rfl ?_
        refine x_cV (fun _ => rfl) rfl (by decide) (Nat.le_of_ble_eq_true rfl) ?_
        refine sf_89_0  C7 (fun S8 C8 f8 => ?_)
        have F8 := y_fq_tr (by decide) F7 f8
        refine x_iload rfl ?_
        refine x_iload rfl ?_
        refine x_isub ?_
        refine x_abs (by omega) (by omega) (Nat.le_of_ble_eq_true rfl) (fun v9 v9a v9b => ?_)
        refine x_iret ?_
        exact k _ _ C8 F8 (by omega) (by omega) 
    · skip
      refine x_if_ne (by omega) (by omega) (fun z10 => ?_) (fun z => absurd (by omega) z)
      refine x_fall ?_
      refine x_blk (b := 1) (a_133 E) rfl ?_
      unfold b_133_1
      refine x_push (-1) rfl ?_
      refine x_iret ?_
      exact k _ _ C0 (y_fr_rf (lo := 9) (hi := 138)) (by omega) (by omega) 
  · skip
    refine x_if_eq (by omega) (by omega) (fun z11 => ?_) (fun z => absurd (by omega) z)
    refine x_blk (b := 1) (a_133 E) rfl ?_
    unfold b_133_1
    refine x_push (-1) rfl ?_
    refine x_iret ?_
    exact k _ _ C0 (y_fr_rf (lo := 9) (hi := 138)) (by omega) (by omega) 
theorem sf_135_4 {E : q_E} {σ : x_S} {Q : Option q_V → x_S → Prop} {a1 a2 a3 : Int} (a1l : (-2147483648) ≤ a1) (a1h : a1 ≤ 2147483647) (a2l : (-2147483648) ≤ a2) (a2h : a2 ≤ 2147483647) (a3l : 0 ≤ a3) (a3h : a3 ≤ 15) (C0 : y_CI σ) (k : ∀ τ, y_CI τ → y_fq 5 6 σ τ → Q none τ) : x_P E 135 [x_R 4, x_I a1, x_I a2, x_I a3] σ Q := by
  refine x_Mt e_135 (h_135 E) (Nat.le_of_ble_eq_true rfl) t_135 rfl ?_
  refine x_blk (b := 0) (a_135 E) rfl ?_
  unfold b_135_0
  refine x_aload rfl ?_
  refine x_iload rfl ?_
  refine x_iload rfl ?_
  refine x_cV (fun _ => rfl) rfl (by decide) (Nat.le_of_ble_eq_true rfl) ?_
  refine sf_44_4 (by omega) (by omega) (by omega) (by omega) C0 (fun y1 => ?_) (fun y1 => ?_)
  · skip
    refine x_if_eq (by omega) (by omega) (fun z => absurd z (by omega)) (fun z2 => ?_)
    refine x_aload rfl ?_
    refine x_getR (r := 4) rfl (by decide) (by decide) rfl ?_
    refine x_iload rfl ?_
    refine x_push 11 rfl ?_
    refine x_imul ?_
    refine x_iload rfl ?_
    refine x_iadd ?_
    refine x_iload rfl ?_
    refine x_astG y_a5 C0 (by decide) (y_fr_rf (lo := 5) (hi := 6)) (by omega) (by omega) (by omega) (by omega) (fun S3 e3 C3 F3 => ?_)
    refine x_fall ?_
    refine x_blk (b := 1) (a_135 E) rfl ?_
    unfold b_135_1
    refine x_vret ?_
    exact k _ C3 F3 
  · skip
    refine x_if_eq (by omega) (by omega) (fun z4 => ?_) (fun z => absurd (by omega) z)
    refine x_blk (b := 1) (a_135 E) rfl ?_
    unfold b_135_1
    refine x_vret ?_
    exact k _ C0 (y_fr_rf (lo := 5) (hi := 6)) 
theorem sf_134_0 {E : q_E} {σ : x_S} {Q : Option q_V → x_S → Prop} {a1 a2 a3 : Int} (a1l : (-2147483648) ≤ a1) (a1h : a1 ≤ 2147483647) (a2l : (-2147483648) ≤ a2) (a2h : a2 ≤ 2147483647) (a3l : (-2147483648) ≤ a3) (a3h : a3 ≤ 2147483647) (C0 : y_CI σ) (k : ∀ τ v, y_CI τ → y_fq 5 76 σ τ → (-2147483648) ≤ v → v ≤ 2147483647 → Q (some (x_I v)) τ) : x_P E 134 [x_R 0, x_I a1, x_I a2, x_I a3] σ Q := by
  refine x_Mt e_134 (h_134 E) (Nat.le_of_ble_eq_true rfl) t_134 rfl ?_
  refine x_blk (b := 0) (a_134 E) rfl ?_
  unfold b_134_0
  refine x_aload rfl ?_
  refine x_getR (r := 0) rfl (by decide) (by decide) rfl ?_
  refine x_iload rfl ?_
  refine x_iload rfl ?_
  refine x_cV (fun _ => rfl) rfl (by decide) (Nat.le_of_ble_eq_true rfl) ?_
  refine sf_44_4 (by omega) (by omega) (by omega) (by omega) C0 (fun y1 => ?_) (fun y1 => ?_)
  · skip
    refine x_if_eq (by omega) (by omega) (fun z => absurd z (by omega)) (fun z2 => ?_)
    refine x_iload rfl ?_
    refine x_push 5 rfl ?_
    refine x_cS (fun _ => rfl) (Nat.le_of_ble_eq_true rfl) ?_
    refine sf_2 (by omega) (by omega) (by omega) (by omega) C0 (fun y3 => ?_) (fun y3 => ?_)
    · skip
      refine x_if_ne (by omega) (by omega) (fun z => absurd z (by omega)) (fun z4 => ?_)
      refine x_blk (b := 2) (a_134 E) rfl ?_
      unfold b_134_2
      refine x_aload rfl ?_
      refine x_getR (r := 0) rfl (by decide) (by decide) rfl ?_
      refine x_iload rfl ?_
      refine x_iload rfl ?_
      refine x_cV (fun _ => rfl) rfl (by decide) (Nat.le_of_ble_eq_true rfl) ?_
      refine sf_47_4 (by omega) (by omega) (by omega) (by omega) C0 (fun v5 v5a v5b => ?_)
      refine x_istore ?_
      refine x_iload rfl ?_
      refine x_cS (fun _ => rfl) (Nat.le_of_ble_eq_true rfl) ?_
      refine sf_7 (by omega) (by omega) C0 (fun v6 v6a v6b => ?_)
      refine x_iload rfl ?_
      refine x_cS (fun _ => rfl) (Nat.le_of_ble_eq_true rfl) ?_
      refine sf_7 (by omega) (by omega) C0 (fun v7 v7a v7b => ?_)
      refine x_icmp_eq (by omega) (by omega) (by omega) (by omega) (fun z8 => ?_) (fun z8 => ?_)
      · skip
        refine x_blk (b := 3) (a_134 E) rfl ?_
        unfold b_134_3
        refine x_iload rfl ?_
        refine x_iload rfl ?_
        refine x_icmp_ne (by omega) (by omega) (by omega) (by omega) (fun z9 => ?_) (fun z9 => ?_)
        · skip
          refine x_push (-2) rfl ?_
          refine x_iret ?_
          exact k _ _ C0 (y_fr_rf (lo := 5) (hi := 76)) (by omega) (by omega) 
        · skip
          refine x_blk (b := 4) (a_134 E) rfl ?_
          unfold b_134_4
          refine x_aload rfl ?_
          refine x_getR (r := 0) rfl (by decide) (by decide) rfl ?_
          refine x_aload rfl ?_
          refine x_getR (r := 0) rfl (by decide) (by decide) rfl ?_
          refine x_cV (fun _ => rfl) rfl (by decide) (Nat.le_of_ble_eq_true rfl) ?_
          refine sf_75_18_4  C0 (fun S10 C10 f10 => ?_)
          have F10 := y_fq_tr (by decide) (y_fr_rf (lo := 5) (hi := 76)) f10
          refine x_aload rfl ?_
          refine x_getR (r := 0) rfl (by decide) (by decide) rfl ?_
          refine x_iload rfl ?_
          refine x_iload rfl ?_
          refine x_iload rfl ?_
          refine x_cV (fun _ => rfl) rfl (by decide) (Nat.le_of_ble_eq_true rfl) ?_
          refine sf_135_4 (by omega) (by omega) (by omega) (by omega) (by omega) (by omega) C10 (fun S11 C11 f11 => ?_)
          have F11 := y_fq_tr (by decide) F10 f11
          refine x_iload rfl ?_
          refine x_iret ?_
          exact k _ _ C11 F11 (by omega) (by omega) 
      · skip
        refine x_push (-1) rfl ?_
        refine x_iret ?_
        exact k _ _ C0 (y_fr_rf (lo := 5) (hi := 76)) (by omega) (by omega) 
    · skip
      refine x_if_ne (by omega) (by omega) (fun z12 => ?_) (fun z => absurd (by omega) z)
      refine x_fall ?_
      refine x_blk (b := 1) (a_134 E) rfl ?_
      unfold b_134_1
      refine x_push (-1) rfl ?_
      refine x_iret ?_
      exact k _ _ C0 (y_fr_rf (lo := 5) (hi := 76)) (by omega) (by omega) 
  · skip
    refine x_if_eq (by omega) (by omega) (fun z13 => ?_) (fun z => absurd (by omega) z)
    refine x_blk (b := 1) (a_134 E) rfl ?_
    unfold b_134_1
    refine x_push (-1) rfl ?_
    refine x_iret ?_
    exact k _ _ C0 (y_fr_rf (lo := 5) (hi := 76)) (by omega) (by omega) 
theorem sf_24_4 {E : q_E} {σ : x_S} {Q : Option q_V → x_S → Prop} {a1 a2 a3 a4 : Int} (a1l : (-2147483648) ≤ a1) (a1h : a1 ≤ 2147483647) (a2l : (-2147483648) ≤ a2) (a2h : a2 ≤ 2147483647) (a3l : (-2147483648) ≤ a3) (a3h : a3 ≤ 2147483647) (a4l : 0 ≤ a4) (a4h : a4 ≤ 1) (C0 : y_CI σ) (k : ∀ τ, y_CI τ → y_fq 8 9 σ τ → Q none τ) : x_P E 24 [x_R 4, x_I a1, x_I a2, x_I a3, x_I a4] σ Q := by
  refine x_Mt e_24 (h_24 E) (Nat.le_of_ble_eq_true rfl) t_24 rfl ?_
  refine x_blk (b := 0) (a_24 E) rfl ?_
  unfold b_24_0
  refine x_iload rfl ?_
  refine x_iload rfl ?_
  refine x_iload rfl ?_
  refine x_cS (fun _ => rfl) (Nat.le_of_ble_eq_true rfl) ?_
  refine sf_23 (by omega) (by omega) (by omega) (by omega) (by omega) (by omega) C0 (fun y1 => ?_) (fun y1 => ?_)
  · skip
    refine x_if_eq (by omega) (by omega) (fun z => absurd z (by omega)) (fun z2 => ?_)
    refine x_aload rfl ?_
    refine x_getR (r := 4) rfl (by decide) (by decide) rfl ?_
    refine x_iload rfl ?_
    refine x_push 5 rfl ?_
    refine x_imul ?_
    refine x_iload rfl ?_
    refine x_iadd ?_
    refine x_push 4 rfl ?_
    refine x_imul ?_
    refine x_iload rfl ?_
    refine x_iadd ?_
    refine x_iload rfl ?_
    refine x_astG y_a8 C0 (by decide) (y_fr_rf (lo := 8) (hi := 9)) (by omega) (by omega) (by omega) (by omega) (fun S3 e3 C3 F3 => ?_)
    refine x_fall ?_
    refine x_blk (b := 1) (a_24 E) rfl ?_
    unfold b_24_1
    refine x_vret ?_
    exact k _ C3 F3 
  · skip
    refine x_if_eq (by omega) (by omega) (fun z4 => ?_) (fun z => absurd (by omega) z)
    refine x_blk (b := 1) (a_24 E) rfl ?_
    unfold b_24_1
    refine x_vret ?_
    exact k _ C0 (y_fr_rf (lo := 8) (hi := 9)) 
theorem sf_136_0 {E : q_E} {σ : x_S} {Q : Option q_V → x_S → Prop} {a1 a2 a3 : Int} (a1l : (-2147483648) ≤ a1) (a1h : a1 ≤ 2147483647) (a2l : (-2147483648) ≤ a2) (a2h : a2 ≤ 2147483647) (a3l : (-2147483648) ≤ a3) (a3h : a3 ≤ 2147483647) (C0 : y_CI σ) (k : ∀ τ v, y_CI τ → y_fq 8 125 σ τ → (-2147483648) ≤ v → v ≤ 2147483647 → Q (some (x_I v)) τ) : x_P E 136 [x_R 0, x_I a1, x_I a2, x_I a3] σ Q := by
  refine x_Mt e_136 (h_136 E) (Nat.le_of_ble_eq_true rfl) t_136 rfl ?_
  refine x_blk (b := 0) (a_136 E) rfl ?_
  unfold b_136_0
  refine x_iload rfl ?_
  refine x_iload rfl ?_
  refine x_iload rfl ?_
  refine x_cS (fun _ => rfl) (Nat.le_of_ble_eq_true rfl) ?_
  refine sf_23 (by omega) (by omega) (by omega) (by omega) (by omega) (by omega) C0 (fun y1 => ?_) (fun y1 => ?_)
  · skip
    refine x_if_ne (by omega) (by omega) (fun z => absurd z (by omega)) (fun z2 => ?_)
    refine x_blk (b := 1) (a_136 E) rfl ?_
    unfold b_136_1
    refine x_aload rfl ?_
    refine x_getR (r := 0) rfl (by decide) (by decide) rfl ?_
    refine x_aload rfl ?_
    refine x_getR (r := 0) rfl (by decide) (by decide) rfl ?_
    refine x_cV (fun _ => rfl) rfl (by decide) (Nat.le_of_ble_eq_true rfl) ?_
    refine sf_75_18_4  C0 (fun S3 C3 f3 => ?_)
    have F3 := y_fq_tr (by decide) (y_fr_rf (lo := 8) (hi := 125)) f3
    refine x_aload rfl ?_
    refine x_getR (r := 0) rfl (by decide) (by decide) rfl ?_
    refine x_iload rfl ?_
    refine x_iload rfl ?_
    refine x_iload rfl ?_
    refine x_push 1 rfl ?_
    refine x_aload rfl ?_
    refine x_getR (r := 0) rfl (by decide) (by decide) rfl ?_
    refine x_iload rfl ?_
    refine x_iload rfl ?_
    refine x_iload rfl ?_
    refine x_cV (fun _ => rfl) rfl (by decide) (Nat.le_of_ble_eq_true rfl) ?_
    refine sf_30_4 (by omega) (by omega) (by omega) (by omega) (by omega) (by omega) C3 (fun v4 v4a v4b => ?_)
    refine x_isub ?_
    refine x_cV (fun _ => rfl) rfl (by decide) (Nat.le_of_ble_eq_true rfl) ?_
    refine sf_24_4 (by omega) (by omega) (by omega) (by omega) (by omega) (by omega) (by omega) (by omega) C3 (fun S5 C5 f5 => ?_)
    have F5 := y_fq_tr (by decide) F3 f5
    refine x_aload rfl ?_
    refine x_cV (fun _ => rfl) rfl (by decide) (Nat.le_of_ble_eq_true rfl) ?_
    refine sf_83_0  C5 (fun S6 C6 f6 => ?_)
    have F6 := y_fq_tr (by decide) F5 f6
    refine x_aload rfl ?_
    refine x_getR (r := 0) rfl (by decide) (by decide) rfl ?_
    refine x_iload rfl ?_
    refine x_iload rfl ?_
    refine x_iload rfl ?_
    refine x_cV (fun _ => rfl) rfl (by decide) (Nat.le_of_ble_eq_true rfl) ?_
    refine sf_30_4 (by omega) (by omega) (by omega) (by omega) (by omega) (by omega) C6 (fun v7 v7a v7b => ?_)
    refine x_iret ?_
    exact k _ _ C6 F6 (by omega) (by omega) 
  · skip
    refine x_if_ne (by omega) (by omega) (fun z8 => ?_) (fun z => absurd (by omega) z)
    refine x_push (-1) rfl ?_
    refine x_iret ?_
    exact k _ _ C0 (y_fr_rf (lo := 8) (hi := 125)) (by omega) (by omega) 
theorem sf_100_4 {E : q_E} {σ : x_S} {Q : Option q_V → x_S → Prop} {a1 a2 : Int} (a1l : (-2147483648) ≤ a1) (a1h : a1 ≤ 2147483647) (a2l : 0 ≤ a2) (a2h : a2 ≤ 3) (C0 : y_CI σ) (k : ∀ τ, y_CI τ → y_fq 7 8 σ τ → Q none τ) : x_P E 100 [x_R 4, x_I a1, x_I a2] σ Q := by
  refine x_Mt e_100 (h_100 E) (Nat.le_of_ble_eq_true rfl) t_100 rfl ?_
  refine x_blk (b := 0) (a_100 E) rfl ?_
  unfold b_100_0
  refine x_iload rfl ?_
  refine x_push 2 rfl ?_
  refine x_cS (fun _ => rfl) (Nat.le_of_ble_eq_true rfl) ?_
  refine sf_2 (by omega) (by omega) (by omega) (by omega) C0 (fun y1 => ?_) (fun y1 => ?_)
  · skip
    refine x_if_eq (by omega) (by omega) (fun z => absurd z (by omega)) (fun z2 => ?_)
    refine x_aload rfl ?_
    refine x_getR (r := 4) rfl (by decide) (by decide) rfl ?_
    refine x_iload rfl ?_
    refine x_iload rfl ?_
    refine x_astG y_a7 C0 (by decide) (y_fr_rf (lo := 7) (hi := 8)) (by omega) (by omega) (by omega) (by omega) (fun S3 e3 C3 F3 => ?_)
    refine x_fall ?_
    refine x_blk (b := 1) (a_100 E) rfl ?_
    unfold b_100_1
    refine x_vret ?_
    exact k _ C3 F3 
  · skip
    refine x_if_eq (by omega) (by omega) (fun z4 => ?_) (fun z => absurd (by omega) z)
    refine x_blk (b := 1) (a_100 E) rfl ?_
    unfold b_100_1
    refine x_vret ?_
    exact k _ C0 (y_fr_rf (lo := 7) (hi := 8)) 
theorem sf_137_0 {E : q_E} {σ : x_S} {Q : Option q_V → x_S → Prop} {a1 a2 : Int} (a1l : (-2147483648) ≤ a1) (a1h : a1 ≤ 2147483647) (a2l : (-2147483648) ≤ a2) (a2h : a2 ≤ 2147483647) (C0 : y_CI σ) (k : ∀ τ v, y_CI τ → y_fq 7 125 σ τ → (-2147483648) ≤ v → v ≤ 2147483647 → Q (some (x_I v)) τ) : x_P E 137 [x_R 0, x_I a1, x_I a2] σ Q := by
  refine x_Mt e_137 (h_137 E) (Nat.le_of_ble_eq_true rfl) t_137 rfl ?_
  refine x_blk (b := 0) (a_137 E) rfl ?_
  unfold b_137_0
  refine x_iload rfl ?_
  refine x_push 2 rfl ?_
  refine x_cS (fun _ => rfl) (Nat.le_of_ble_eq_true rfl) ?_
  refine sf_2 (by omega) (by omega) (by omega) (by omega) C0 (fun y1 => ?_) (fun y1 => ?_)
  · skip
    refine x_if_eq (by omega) (by omega) (fun z => absurd z (by omega)) (fun z2 => ?_)
    refine x_iload rfl ?_
    refine x_push 4 rfl ?_
    refine x_cS (fun _ => rfl) (Nat.le_of_ble_eq_true rfl) ?_
    refine sf_2 (by omega) (by omega) (by omega) (by omega) C0 (fun y3 => ?_) (fun y3 => ?_)
    · skip
      refine x_if_ne (by omega) (by omega) (fun z => absurd z (by omega)) (fun z4 => ?_)
      refine x_blk (b := 2) (a_137 E) rfl ?_
      unfold b_137_2
      refine x_aload rfl ?_
      refine x_getR (r := 0) rfl (by decide) (by decide) rfl ?_
      refine x_iload rfl ?_
      refine x_cV (fun _ => rfl) rfl (by decide) (Nat.le_of_ble_eq_true rfl) ?_
      refine sf_11_4 (by omega) (by omega) C0 (fun v5 v5a v5b => ?_)
      refine x_istore ?_
      refine x_iload rfl ?_
      refine x_iload rfl ?_
      refine x_icmp_ne (by omega) (by omega) (by omega) (by omega) (fun z6 => ?_) (fun z6 => ?_)
      · skip
        refine x_push (-2) rfl ?_
        refine x_iret ?_
        exact k _ _ C0 (y_fr_rf (lo := 7) (hi := 125)) (by omega) (by omega) 
      · skip
        refine x_blk (b := 3) (a_137 E) rfl ?_
        unfold b_137_3
        refine x_aload rfl ?_
        refine x_getR (r := 0) rfl (by decide) (by decide) rfl ?_
        refine x_aload rfl ?_
        refine x_getR (r := 0) rfl (by decide) (by decide) rfl ?_
        refine x_cV (fun _ => rfl) rfl (by decide) (Nat.le_of_ble_eq_true rfl) ?_
        refine sf_75_18_4  C0 (fun S7 C7 f7 => ?_)
        have F7 := y_fq_tr (by decide) (y_fr_rf (lo := 7) (hi := 125)) f7
        refine x_aload rfl ?_
        refine x_getR (r := 0) rfl (by decide) (by decide) rfl ?_
        refine x_iload rfl ?_
        refine x_iload rfl ?_
        refine x_cV (fun _ => rfl) rfl (by decide) (Nat.le_of_ble_eq_true rfl) ?_
        refine sf_100_4 (by omega) (by omega) (by omega) (by omega) C7 (fun S8 C8 f8 => ?_)
        have F8 := y_fq_tr (by decide) F7 f8
        refine x_aload rfl ?_
        refine x_cV (fun _ => rfl) rfl (by decide) (Nat.le_of_ble_eq_true rfl) ?_
        refine sf_89_0  C8 (fun S9 C9 f9 => ?_)
        have F9 := y_fq_tr (by decide) F8 f9
        refine x_iload rfl ?_
        refine x_iret ?_
        exact k _ _ C9 F9 (by omega) (by omega) 
    · skip
      refine x_if_ne (by omega) (by omega) (fun z10 => ?_) (fun z => absurd (by omega) z)
      refine x_fall ?_
      refine x_blk (b := 1) (a_137 E) rfl ?_
      unfold b_137_1
      refine x_push (-1) rfl ?_
      refine x_iret ?_
      exact k _ _ C0 (y_fr_rf (lo := 7) (hi := 125)) (by omega) (by omega) 
  · skip
    refine x_if_eq (by omega) (by omega) (fun z11 => ?_) (fun z => absurd (by omega) z)
    refine x_blk (b := 1) (a_137 E) rfl ?_
    unfold b_137_1
    refine x_push (-1) rfl ?_
    refine x_iret ?_
    exact k _ _ C0 (y_fr_rf (lo := 7) (hi := 125)) (by omega) (by omega) 
theorem sf_71_4_20 {E : q_E} {σ : x_S} {Q : Option q_V → x_S → Prop} (C0 : y_CI σ) (k : ∀ τ, y_CI τ → y_fq 4 11 σ τ → Q none τ) : x_P E 71 [x_R 4, x_R 20] σ Q := by
  refine x_Mt e_71 (h_71 E) (Nat.le_of_ble_eq_true rfl) t_71 rfl ?_
  refine x_blk (b := 0) (a_71 E) rfl ?_
  unfold b_71_0
  refine x_aload rfl ?_
  refine x_getR (r := 20) rfl (by decide) (by decide) rfl ?_
  refine x_push 0 rfl ?_
  refine x_aload rfl ?_
  refine x_getR (r := 4) rfl (by decide) (by decide) rfl ?_
  refine x_push 0 rfl ?_
  refine x_push 33 rfl ?_
  refine x_copyG y_a21 y_a5 (by decide) (by decide) C0 (by decide) (y_fr_rf (lo := 4) (hi := 11)) (by omega) (by omega) (by omega) (by omega) (by omega) (Nat.le_of_ble_eq_true rfl) (fun S1 e1 C1 F1 => ?_)
  refine x_aload rfl ?_
  refine x_getR (r := 20) rfl (by decide) (by decide) rfl ?_
  refine x_push 0 rfl ?_
  refine x_aload rfl ?_
  refine x_getR (r := 4) rfl (by decide) (by decide) rfl ?_
  refine x_push 0 rfl ?_
  refine x_push 3 rfl ?_
  refine x_copyG y_a22 y_a6 (by decide) (by decide) C1 (by decide) F1 (by omega) (by omega) (by omega) (by omega) (by omega) (Nat.le_of_ble_eq_true rfl) (fun S2 e2 C2 F2 => ?_)
  refine x_aload rfl ?_
  refine x_getR (r := 20) rfl (by decide) (by decide) rfl ?_
  refine x_push 0 rfl ?_
  refine x_aload rfl ?_
  refine x_getR (r := 4) rfl (by decide) (by decide) rfl ?_
  refine x_push 0 rfl ?_
  refine x_push 2 rfl ?_
  refine x_copyG y_a23 y_a7 (by decide) (by decide) C2 (by decide) F2 (by omega) (by omega) (by omega) (by omega) (by omega) (Nat.le_of_ble_eq_true rfl) (fun S3 e3 C3 F3 => ?_)
  refine x_aload rfl ?_
  refine x_getR (r := 20) rfl (by decide) (by decide) rfl ?_
  refine x_push 0 rfl ?_
  refine x_aload rfl ?_
  refine x_getR (r := 4) rfl (by decide) (by decide) rfl ?_
  refine x_push 0 rfl ?_
  refine x_push 40 rfl ?_
  refine x_copyG y_a24 y_a8 (by decide) (by decide) C3 (by decide) F3 (by omega) (by omega) (by omega) (by omega) (by omega) (Nat.le_of_ble_eq_true rfl) (fun S4 e4 C4 F4 => ?_)
  refine x_aload rfl ?_
  refine x_getR (r := 20) rfl (by decide) (by decide) rfl ?_
  refine x_push 0 rfl ?_
  refine x_aload rfl ?_
  refine x_getR (r := 4) rfl (by decide) (by decide) rfl ?_
  refine x_push 0 rfl ?_
  refine x_push 192 rfl ?_
  refine x_copyG y_a25 y_a9 (by decide) (by decide) C4 (by decide) F4 (by omega) (by omega) (by omega) (by omega) (by omega) (Nat.le_of_ble_eq_true rfl) (fun S5 e5 C5 F5 => ?_)
  refine x_aload rfl ?_
  refine x_getR (r := 20) rfl (by decide) (by decide) rfl ?_
  refine x_push 0 rfl ?_
  refine x_aload rfl ?_
  refine x_getR (r := 4) rfl (by decide) (by decide) rfl ?_
  refine x_push 0 rfl ?_
  refine x_push 90 rfl ?_
  refine x_copyG y_a26 y_a10 (by decide) (by decide) C5 (by decide) F5 (by omega) (by omega) (by omega) (by omega) (by omega) (Nat.le_of_ble_eq_true rfl) (fun S6 e6 C6 F6 => ?_)
  refine x_aload rfl ?_
  refine x_aload rfl ?_
  refine x_fall ?_
  refine x_blk (b := 1) (a_71 E) rfl ?_
  unfold b_71_1
  refine x_getIG y_f20_6 C6 ?_
  have q7_0 : S6 20 6 = S5 20 6 := x_cp_nr e6 (by decide)
  have q7_1 : S5 20 6 = S4 20 6 := x_cp_nr e5 (by decide)
  have q7_2 : S4 20 6 = S3 20 6 := x_cp_nr e4 (by decide)
  have q7_3 : S3 20 6 = S2 20 6 := x_cp_nr e3 (by decide)
  have q7_4 : S2 20 6 = S1 20 6 := x_cp_nr e2 (by decide)
  have q7_5 : S1 20 6 = σ 20 6 := x_cp_nr e1 (by decide)
  simp only [q7_0, q7_1, q7_2, q7_3, q7_4, q7_5]
  intro g7a g7b
  refine x_putIG y_f4_6 ⟨by decide, rfl⟩ (by decide) C6 (by decide) F6 (by omega) (by omega) (fun S8 e8 C8 F8 => ?_)
  refine x_vret ?_
  exact k _ C8 F8 
theorem sf_71_4_27 {E : q_E} {σ : x_S} {Q : Option q_V → x_S → Prop} (C0 : y_CI σ) (k : ∀ τ, y_CI τ → y_fq 4 11 σ τ → Q none τ) : x_P E 71 [x_R 4, x_R 27] σ Q := by
  refine x_Mt e_71 (h_71 E) (Nat.le_of_ble_eq_true rfl) t_71 rfl ?_
  refine x_blk (b := 0) (a_71 E) rfl ?_
  unfold b_71_0
  refine x_aload rfl ?_
  refine x_getR (r := 27) rfl (by decide) (by decide) rfl ?_
  refine x_push 0 rfl ?_
  refine x_aload rfl ?_
  refine x_getR (r := 4) rfl (by decide) (by decide) rfl ?_
  refine x_push 0 rfl ?_
  refine x_push 33 rfl ?_
  refine x_copyG y_a28 y_a5 (by decide) (by decide) C0 (by decide) (y_fr_rf (lo := 4) (hi := 11)) (by omega) (by omega) (by omega) (by omega) (by omega) (Nat.le_of_ble_eq_true rfl) (fun S1 e1 C1 F1 => ?_)
  refine x_aload rfl ?_
  refine x_getR (r := 27) rfl (by decide) (by decide) rfl ?_
  refine x_push 0 rfl ?_
  refine x_aload rfl ?_
  refine x_getR (r := 4) rfl (by decide) (by decide) rfl ?_
  refine x_push 0 rfl ?_
  refine x_push 3 rfl ?_
  refine x_copyG y_a29 y_a6 (by decide) (by decide) C1 (by decide) F1 (by omega) (by omega) (by omega) (by omega) (by omega) (Nat.le_of_ble_eq_true rfl) (fun S2 e2 C2 F2 => ?_)
  refine x_aload rfl ?_
  refine x_getR (r := 27) rfl (by decide) (by decide) rfl ?_
  refine x_push 0 rfl ?_
  refine x_aload rfl ?_
  refine x_getR (r := 4) rfl (by decide) (by decide) rfl ?_
  refine x_push 0 rfl ?_
  refine x_push 2 rfl ?_
  refine x_copyG y_a30 y_a7 (by decide) (by decide) C2 (by decide) F2 (by omega) (by omega) (by omega) (by omega) (by omega) (Nat.le_of_ble_eq_true rfl) (fun S3 e3 C3 F3 => ?_)
  refine x_aload rfl ?_
  refine x_getR (r := 27) rfl (by decide) (by decide) rfl ?_
  refine x_push 0 rfl ?_
  refine x_aload rfl ?_
  refine x_getR (r := 4) rfl (by decide) (by decide) rfl ?_
  refine x_push 0 rfl ?_
  refine x_push 40 rfl ?_
  refine x_copyG y_a31 y_a8 (by decide) (by decide) C3 (by decide) F3 (by omega) (by omega) (by omega) (by omega) (by omega) (Nat.le_of_ble_eq_true rfl) (fun S4 e4 C4 F4 => ?_)
  refine x_aload rfl ?_
  refine x_getR (r := 27) rfl (by decide) (by decide) rfl ?_
  refine x_push 0 rfl ?_
  refine x_aload rfl ?_
  refine x_getR (r := 4) rfl (by decide) (by decide) rfl ?_
  refine x_push 0 rfl ?_
  refine x_push 192 rfl ?_
  refine x_copyG y_a32 y_a9 (by decide) (by decide) C4 (by decide) F4 (by omega) (by omega) (by omega) (by omega) (by omega) (Nat.le_of_ble_eq_true rfl) (fun S5 e5 C5 F5 => ?_)
  refine x_aload rfl ?_
  refine x_getR (r := 27) rfl (by decide) (by decide) rfl ?_
  refine x_push 0 rfl ?_
  refine x_aload rfl ?_
  refine x_getR (r := 4) rfl (by decide) (by decide) rfl ?_
  refine x_push 0 rfl ?_
  refine x_push 90 rfl ?_
  refine x_copyG y_a33 y_a10 (by decide) (by decide) C5 (by decide) F5 (by omega) (by omega) (by omega) (by omega) (by omega) (Nat.le_of_ble_eq_true rfl) (fun S6 e6 C6 F6 => ?_)
  refine x_aload rfl ?_
  refine x_aload rfl ?_
  refine x_fall ?_
  refine x_blk (b := 1) (a_71 E) rfl ?_
  unfold b_71_1
  refine x_getIG y_f27_6 C6 ?_
  have q7_0 : S6 27 6 = S5 27 6 := x_cp_nr e6 (by decide)
  have q7_1 : S5 27 6 = S4 27 6 := x_cp_nr e5 (by decide)
  have q7_2 : S4 27 6 = S3 27 6 := x_cp_nr e4 (by decide)
  have q7_3 : S3 27 6 = S2 27 6 := x_cp_nr e3 (by decide)
  have q7_4 : S2 27 6 = S1 27 6 := x_cp_nr e2 (by decide)
  have q7_5 : S1 27 6 = σ 27 6 := x_cp_nr e1 (by decide)
  simp only [q7_0, q7_1, q7_2, q7_3, q7_4, q7_5]
  intro g7a g7b
  refine x_putIG y_f4_6 ⟨by decide, rfl⟩ (by decide) C6 (by decide) F6 (by omega) (by omega) (fun S8 e8 C8 F8 => ?_)
  refine x_vret ?_
  exact k _ C8 F8 
theorem sf_71_4_34 {E : q_E} {σ : x_S} {Q : Option q_V → x_S → Prop} (C0 : y_CI σ) (k : ∀ τ, y_CI τ → y_fq 4 11 σ τ → Q none τ) : x_P E 71 [x_R 4, x_R 34] σ Q := by
  refine x_Mt e_71 (h_71 E) (Nat.le_of_ble_eq_true rfl) t_71 rfl ?_
  refine x_blk (b := 0) (a_71 E) rfl ?_
  unfold b_71_0
  refine x_aload rfl ?_
  refine x_getR (r := 34) rfl (by decide) (by decide) rfl ?_
  refine x_push 0 rfl ?_
  refine x_aload rfl ?_
  refine x_getR (r := 4) rfl (by decide) (by decide) rfl ?_
  refine x_push 0 rfl ?_
  refine x_push 33 rfl ?_
  refine x_copyG y_a35 y_a5 (by decide) (by decide) C0 (by decide) (y_fr_rf (lo := 4) (hi := 11)) (by omega) (by omega) (by omega) (by omega) (by omega) (Nat.le_of_ble_eq_true rfl) (fun S1 e1 C1 F1 => ?_)
  refine x_aload rfl ?_
  refine x_getR (r := 34) rfl (by decide) (by decide) rfl ?_
  refine x_push 0 rfl ?_
  refine x_aload rfl ?_
  refine x_getR (r := 4) rfl (by decide) (by decide) rfl ?_
  refine x_push 0 rfl ?_
  refine x_push 3 rfl ?_
  refine x_copyG y_a36 y_a6 (by decide) (by decide) C1 (by decide) F1 (by omega) (by omega) (by omega) (by omega) (by omega) (Nat.le_of_ble_eq_true rfl) (fun S2 e2 C2 F2 => ?_)
  refine x_aload rfl ?_
  refine x_getR (r := 34) rfl (by decide) (by decide) rfl ?_
  refine x_push 0 rfl ?_
  refine x_aload rfl ?_
  refine x_getR (r := 4) rfl (by decide) (by decide) rfl ?_
  refine x_push 0 rfl ?_
  refine x_push 2 rfl ?_
  refine x_copyG y_a37 y_a7 (by decide) (by decide) C2 (by decide) F2 (by omega) (by omega) (by omega) (by omega) (by omega) (Nat.le_of_ble_eq_true rfl) (fun S3 e3 C3 F3 => ?_)
  refine x_aload rfl ?_
  refine x_getR (r := 34) rfl (by decide) (by decide) rfl ?_
  refine x_push 0 rfl ?_
  refine x_aload rfl ?_
  refine x_getR (r := 4) rfl (by decide) (by decide) rfl ?_
  refine x_push 0 rfl ?_
  refine x_push 40 rfl ?_
  refine x_copyG y_a38 y_a8 (by decide) (by decide) C3 (by decide) F3 (by omega) (by omega) (by omega) (by omega) (by omega) (Nat.le_of_ble_eq_true rfl) (fun S4 e4 C4 F4 => ?_)
  refine x_aload rfl ?_
  refine x_getR (r := 34) rfl (by decide) (by decide) rfl ?_
  refine x_push 0 rfl ?_
  refine x_aload rfl ?_
  refine x_getR (r := 4) rfl (by decide) (by decide) rfl ?_
  refine x_push 0 rfl ?_
  refine x_push 192 rfl ?_
  refine x_copyG y_a39 y_a9 (by decide) (by decide) C4 (by decide) F4 (by omega) (by omega) (by omega) (by omega) (by omega) (Nat.le_of_ble_eq_true rfl) (fun S5 e5 C5 F5 => ?_)
  refine x_aload rfl ?_
  refine x_getR (r := 34) rfl (by decide) (by decide) rfl ?_
  refine x_push 0 rfl ?_
  refine x_aload rfl ?_
  refine x_getR (r := 4) rfl (by decide) (by decide) rfl ?_
  refine x_push 0 rfl ?_
  refine x_push 90 rfl ?_
  refine x_copyG y_a40 y_a10 (by decide) (by decide) C5 (by decide) F5 (by omega) (by omega) (by omega) (by omega) (by omega) (Nat.le_of_ble_eq_true rfl) (fun S6 e6 C6 F6 => ?_)
  refine x_aload rfl ?_
  refine x_aload rfl ?_
  refine x_fall ?_
  refine x_blk (b := 1) (a_71 E) rfl ?_
  unfold b_71_1
  refine x_getIG y_f34_6 C6 ?_
  have q7_0 : S6 34 6 = S5 34 6 := x_cp_nr e6 (by decide)
  have q7_1 : S5 34 6 = S4 34 6 := x_cp_nr e5 (by decide)
  have q7_2 : S4 34 6 = S3 34 6 := x_cp_nr e4 (by decide)
  have q7_3 : S3 34 6 = S2 34 6 := x_cp_nr e3 (by decide)
  have q7_4 : S2 34 6 = S1 34 6 := x_cp_nr e2 (by decide)
  have q7_5 : S1 34 6 = σ 34 6 := x_cp_nr e1 (by decide)
  simp only [q7_0, q7_1, q7_2, q7_3, q7_4, q7_5]
  intro g7a g7b
  refine x_putIG y_f4_6 ⟨by decide, rfl⟩ (by decide) C6 (by decide) F6 (by omega) (by omega) (fun S8 e8 C8 F8 => ?_)
  refine x_vret ?_
  exact k _ C8 F8 
theorem sf_71_4_41 {E : q_E} {σ : x_S} {Q : Option q_V → x_S → Prop} (C0 : y_CI σ) (k : ∀ τ, y_CI τ → y_fq 4 11 σ τ → Q none τ) : x_P E 71 [x_R 4, x_R 41] σ Q := by
  refine x_Mt e_71 (h_71 E) (Nat.le_of_ble_eq_true rfl) t_71 rfl ?_
  refine x_blk (b := 0) (a_71 E) rfl ?_
  unfold b_71_0
  refine x_aload rfl ?_
  refine x_getR (r := 41) rfl (by decide) (by decide) rfl ?_
  refine x_push 0 rfl ?_
  refine x_aload rfl ?_
  refine x_getR (r := 4) rfl (by decide) (by decide) rfl ?_
  refine x_push 0 rfl ?_
  refine x_push 33 rfl ?_
  refine x_copyG y_a42 y_a5 (by decide) (by decide) C0 (by decide) (y_fr_rf (lo := 4) (hi := 11)) (by omega) (by omega) (by omega) (by omega) (by omega) (Nat.le_of_ble_eq_true rfl) (fun S1 e1 C1 F1 => ?_)
  refine x_aload rfl ?_
  refine x_getR (r := 41) rfl (by decide) (by decide) rfl ?_
  refine x_push 0 rfl ?_
  refine x_aload rfl ?_
  refine x_getR (r := 4) rfl (by decide) (by decide) rfl ?_
  refine x_push 0 rfl ?_
  refine x_push 3 rfl ?_
  refine x_copyG y_a43 y_a6 (by decide) (by decide) C1 (by decide) F1 (by omega) (by omega) (by omega) (by omega) (by omega) (Nat.le_of_ble_eq_true rfl) (fun S2 e2 C2 F2 => ?_)
  refine x_aload rfl ?_
  refine x_getR (r := 41) rfl (by decide) (by decide) rfl ?_
  refine x_push 0 rfl ?_
  refine x_aload rfl ?_
  refine x_getR (r := 4) rfl (by decide) (by decide) rfl ?_
  refine x_push 0 rfl ?_
  refine x_push 2 rfl ?_
  refine x_copyG y_a44 y_a7 (by decide) (by decide) C2 (by decide) F2 (by omega) (by omega) (by omega) (by omega) (by omega) (Nat.le_of_ble_eq_true rfl) (fun S3 e3 C3 F3 => ?_)
  refine x_aload rfl ?_
  refine x_getR (r := 41) rfl (by decide) (by decide) rfl ?_
  refine x_push 0 rfl ?_
  refine x_aload rfl ?_
  refine x_getR (r := 4) rfl (by decide) (by decide) rfl ?_
  refine x_push 0 rfl ?_
  refine x_push 40 rfl ?_
  refine x_copyG y_a45 y_a8 (by decide) (by decide) C3 (by decide) F3 (by omega) (by omega) (by omega) (by omega) (by omega) (Nat.le_of_ble_eq_true rfl) (fun S4 e4 C4 F4 => ?_)
  refine x_aload rfl ?_
  refine x_getR (r := 41) rfl (by decide) (by decide) rfl ?_
  refine x_push 0 rfl ?_
  refine x_aload rfl ?_
  refine x_getR (r := 4) rfl (by decide) (by decide) rfl ?_
  refine x_push 0 rfl ?_
  refine x_push 192 rfl ?_
  refine x_copyG y_a46 y_a9 (by decide) (by decide) C4 (by decide) F4 (by omega) (by omega) (by omega) (by omega) (by omega) (Nat.le_of_ble_eq_true rfl) (fun S5 e5 C5 F5 => ?_)
  refine x_aload rfl ?_
  refine x_getR (r := 41) rfl (by decide) (by decide) rfl ?_
  refine x_push 0 rfl ?_
  refine x_aload rfl ?_
  refine x_getR (r := 4) rfl (by decide) (by decide) rfl ?_
  refine x_push 0 rfl ?_
  refine x_push 90 rfl ?_
  refine x_copyG y_a47 y_a10 (by decide) (by decide) C5 (by decide) F5 (by omega) (by omega) (by omega) (by omega) (by omega) (Nat.le_of_ble_eq_true rfl) (fun S6 e6 C6 F6 => ?_)
  refine x_aload rfl ?_
  refine x_aload rfl ?_
  refine x_fall ?_
  refine x_blk (b := 1) (a_71 E) rfl ?_
  unfold b_71_1
  refine x_getIG y_f41_6 C6 ?_
  have q7_0 : S6 41 6 = S5 41 6 := x_cp_nr e6 (by decide)
  have q7_1 : S5 41 6 = S4 41 6 := x_cp_nr e5 (by decide)
  have q7_2 : S4 41 6 = S3 41 6 := x_cp_nr e4 (by decide)
  have q7_3 : S3 41 6 = S2 41 6 := x_cp_nr e3 (by decide)
  have q7_4 : S2 41 6 = S1 41 6 := x_cp_nr e2 (by decide)
  have q7_5 : S1 41 6 = σ 41 6 := x_cp_nr e1 (by decide)
  simp only [q7_0, q7_1, q7_2, q7_3, q7_4, q7_5]
  intro g7a g7b
  refine x_putIG y_f4_6 ⟨by decide, rfl⟩ (by decide) C6 (by decide) F6 (by omega) (by omega) (fun S8 e8 C8 F8 => ?_)
  refine x_vret ?_
  exact k _ C8 F8 
theorem sf_71_4_48 {E : q_E} {σ : x_S} {Q : Option q_V → x_S → Prop} (C0 : y_CI σ) (k : ∀ τ, y_CI τ → y_fq 4 11 σ τ → Q none τ) : x_P E 71 [x_R 4, x_R 48] σ Q := by
  refine x_Mt e_71 (h_71 E) (Nat.le_of_ble_eq_true rfl) t_71 rfl ?_
  refine x_blk (b := 0) (a_71 E) rfl ?_
  unfold b_71_0
  refine x_aload rfl ?_
  refine x_getR (r := 48) rfl (by decide) (by decide) rfl ?_
  refine x_push 0 rfl ?_
  refine x_aload rfl ?_
  refine x_getR (r := 4) rfl (by decide) (by decide) rfl ?_
  refine x_push 0 rfl ?_
  refine x_push 33 rfl ?_
  refine x_copyG y_a49 y_a5 (by decide) (by decide) C0 (by decide) (y_fr_rf (lo := 4) (hi := 11)) (by omega) (by omega) (by omega) (by omega) (by omega) (Nat.le_of_ble_eq_true rfl) (fun S1 e1 C1 F1 => ?_)
  refine x_aload rfl ?_
  refine x_getR (r := 48) rfl (by decide) (by decide) rfl ?_
  refine x_push 0 rfl ?_
  refine x_aload rfl ?_
  refine x_getR (r := 4) rfl (by decide) (by decide) rfl ?_
  refine x_push 0 rfl ?_
  refine x_push 3 rfl ?_
  refine x_copyG y_a50 y_a6 (by decide) (by decide) C1 (by decide) F1 (by omega) (by omega) (by omega) (by omega) (by omega) (Nat.le_of_ble_eq_true rfl) (fun S2 e2 C2 F2 => ?_)
  refine x_aload rfl ?_
  refine x_getR (r := 48) rfl (by decide) (by decide) rfl ?_
  refine x_push 0 rfl ?_
  refine x_aload rfl ?_
  refine x_getR (r := 4) rfl (by decide) (by decide) rfl ?_
  refine x_push 0 rfl ?_
  refine x_push 2 rfl ?_
  refine x_copyG y_a51 y_a7 (by decide) (by decide) C2 (by decide) F2 (by omega) (by omega) (by omega) (by omega) (by omega) (Nat.le_of_ble_eq_true rfl) (fun S3 e3 C3 F3 => ?_)
  refine x_aload rfl ?_
  refine x_getR (r := 48) rfl (by decide) (by decide) rfl ?_
  refine x_push 0 rfl ?_
  refine x_aload rfl ?_
  refine x_getR (r := 4) rfl (by decide) (by decide) rfl ?_
  refine x_push 0 rfl ?_
  refine x_push 40 rfl ?_
  refine x_copyG y_a52 y_a8 (by decide) (by decide) C3 (by decide) F3 (by omega) (by omega) (by omega) (by omega) (by omega) (Nat.le_of_ble_eq_true rfl) (fun S4 e4 C4 F4 => ?_)
  refine x_aload rfl ?_
  refine x_getR (r := 48) rfl (by decide) (by decide) rfl ?_
  refine x_push 0 rfl ?_
  refine x_aload rfl ?_
  refine x_getR (r := 4) rfl (by decide) (by decide) rfl ?_
  refine x_push 0 rfl ?_
  refine x_push 192 rfl ?_
  refine x_copyG y_a53 y_a9 (by decide) (by decide) C4 (by decide) F4 (by omega) (by omega) (by omega) (by omega) (by omega) (Nat.le_of_ble_eq_true rfl) (fun S5 e5 C5 F5 => ?_)
  refine x_aload rfl ?_
  refine x_getR (r := 48) rfl (by decide) (by decide) rfl ?_
  refine x_push 0 rfl ?_
  refine x_aload rfl ?_
  refine x_getR (r := 4) rfl (by decide) (by decide) rfl ?_
  refine x_push 0 rfl ?_
  refine x_push 90 rfl ?_
  refine x_copyG y_a54 y_a10 (by decide) (by decide) C5 (by decide) F5 (by omega) (by omega) (by omega) (by omega) (by omega) (Nat.le_of_ble_eq_true rfl) (fun S6 e6 C6 F6 => ?_)
  refine x_aload rfl ?_
  refine x_aload rfl ?_
  refine x_fall ?_
  refine x_blk (b := 1) (a_71 E) rfl ?_
  unfold b_71_1
  refine x_getIG y_f48_6 C6 ?_
  have q7_0 : S6 48 6 = S5 48 6 := x_cp_nr e6 (by decide)
  have q7_1 : S5 48 6 = S4 48 6 := x_cp_nr e5 (by decide)
  have q7_2 : S4 48 6 = S3 48 6 := x_cp_nr e4 (by decide)
  have q7_3 : S3 48 6 = S2 48 6 := x_cp_nr e3 (by decide)
  have q7_4 : S2 48 6 = S1 48 6 := x_cp_nr e2 (by decide)
  have q7_5 : S1 48 6 = σ 48 6 := x_cp_nr e1 (by decide)
  simp only [q7_0, q7_1, q7_2, q7_3, q7_4, q7_5]
  intro g7a g7b
  refine x_putIG y_f4_6 ⟨by decide, rfl⟩ (by decide) C6 (by decide) F6 (by omega) (by omega) (fun S8 e8 C8 F8 => ?_)
  refine x_vret ?_
  exact k _ C8 F8 
theorem sf_71_4_55 {E : q_E} {σ : x_S} {Q : Option q_V → x_S → Prop} (C0 : y_CI σ) (k : ∀ τ, y_CI τ → y_fq 4 11 σ τ → Q none τ) : x_P E 71 [x_R 4, x_R 55] σ Q := by
  refine x_Mt e_71 (h_71 E) (Nat.le_of_ble_eq_true rfl) t_71 rfl ?_
  refine x_blk (b := 0) (a_71 E) rfl ?_
  unfold b_71_0
  refine x_aload rfl ?_
  refine x_getR (r := 55) rfl (by decide) (by decide) rfl ?_
  refine x_push 0 rfl ?_
  refine x_aload rfl ?_
  refine x_getR (r := 4) rfl (by decide) (by decide) rfl ?_
  refine x_push 0 rfl ?_
  refine x_push 33 rfl ?_
  refine x_copyG y_a56 y_a5 (by decide) (by decide) C0 (by decide) (y_fr_rf (lo := 4) (hi := 11)) (by omega) (by omega) (by omega) (by omega) (by omega) (Nat.le_of_ble_eq_true rfl) (fun S1 e1 C1 F1 => ?_)
  refine x_aload rfl ?_
  refine x_getR (r := 55) rfl (by decide) (by decide) rfl ?_
  refine x_push 0 rfl ?_
  refine x_aload rfl ?_
  refine x_getR (r := 4) rfl (by decide) (by decide) rfl ?_
  refine x_push 0 rfl ?_
  refine x_push 3 rfl ?_
  refine x_copyG y_a57 y_a6 (by decide) (by decide) C1 (by decide) F1 (by omega) (by omega) (by omega) (by omega) (by omega) (Nat.le_of_ble_eq_true rfl) (fun S2 e2 C2 F2 => ?_)
  refine x_aload rfl ?_
  refine x_getR (r := 55) rfl (by decide) (by decide) rfl ?_
  refine x_push 0 rfl ?_
  refine x_aload rfl ?_
  refine x_getR (r := 4) rfl (by decide) (by decide) rfl ?_
  refine x_push 0 rfl ?_
  refine x_push 2 rfl ?_
  refine x_copyG y_a58 y_a7 (by decide) (by decide) C2 (by decide) F2 (by omega) (by omega) (by omega) (by omega) (by omega) (Nat.le_of_ble_eq_true rfl) (fun S3 e3 C3 F3 => ?_)
  refine x_aload rfl ?_
  refine x_getR (r := 55) rfl (by decide) (by decide) rfl ?_
  refine x_push 0 rfl ?_
  refine x_aload rfl ?_
  refine x_getR (r := 4) rfl (by decide) (by decide) rfl ?_
  refine x_push 0 rfl ?_
  refine x_push 40 rfl ?_
  refine x_copyG y_a59 y_a8 (by decide) (by decide) C3 (by decide) F3 (by omega) (by omega) (by omega) (by omega) (by omega) (Nat.le_of_ble_eq_true rfl) (fun S4 e4 C4 F4 => ?_)
  refine x_aload rfl ?_
  refine x_getR (r := 55) rfl (by decide) (by decide) rfl ?_
  refine x_push 0 rfl ?_
  refine x_aload rfl ?_
  refine x_getR (r := 4) rfl (by decide) (by decide) rfl ?_
  refine x_push 0 rfl ?_
  refine x_push 192 rfl ?_
  refine x_copyG y_a60 y_a9 (by decide) (by decide) C4 (by decide) F4 (by omega) (by omega) (by omega) (by omega) (by omega) (Nat.le_of_ble_eq_true rfl) (fun S5 e5 C5 F5 => ?_)
  refine x_aload rfl ?_
  refine x_getR (r := 55) rfl (by decide) (by decide) rfl ?_
  refine x_push 0 rfl ?_
  refine x_aload rfl ?_
  refine x_getR (r := 4) rfl (by decide) (by decide) rfl ?_
  refine x_push 0 rfl ?_
  refine x_push 90 rfl ?_
  refine x_copyG y_a61 y_a10 (by decide) (by decide) C5 (by decide) F5 (by omega) (by omega) (by omega) (by omega) (by omega) (Nat.le_of_ble_eq_true rfl) (fun S6 e6 C6 F6 => ?_)
  refine x_aload rfl ?_
  refine x_aload rfl ?_
  refine x_fall ?_
  refine x_blk (b := 1) (a_71 E) rfl ?_
  unfold b_71_1
  refine x_getIG y_f55_6 C6 ?_
  have q7_0 : S6 55 6 = S5 55 6 := x_cp_nr e6 (by decide)
  have q7_1 : S5 55 6 = S4 55 6 := x_cp_nr e5 (by decide)
  have q7_2 : S4 55 6 = S3 55 6 := x_cp_nr e4 (by decide)
  have q7_3 : S3 55 6 = S2 55 6 := x_cp_nr e3 (by decide)
  have q7_4 : S2 55 6 = S1 55 6 := x_cp_nr e2 (by decide)
  have q7_5 : S1 55 6 = σ 55 6 := x_cp_nr e1 (by decide)
  simp only [q7_0, q7_1, q7_2, q7_3, q7_4, q7_5]
  intro g7a g7b
  refine x_putIG y_f4_6 ⟨by decide, rfl⟩ (by decide) C6 (by decide) F6 (by omega) (by omega) (fun S8 e8 C8 F8 => ?_)
  refine x_vret ?_
  exact k _ C8 F8 
theorem sf_71_4_62 {E : q_E} {σ : x_S} {Q : Option q_V → x_S → Prop} (C0 : y_CI σ) (k : ∀ τ, y_CI τ → y_fq 4 11 σ τ → Q none τ) : x_P E 71 [x_R 4, x_R 62] σ Q := by
  refine x_Mt e_71 (h_71 E) (Nat.le_of_ble_eq_true rfl) t_71 rfl ?_
  refine x_blk (b := 0) (a_71 E) rfl ?_
  unfold b_71_0
  refine x_aload rfl ?_
  refine x_getR (r := 62) rfl (by decide) (by decide) rfl ?_
  refine x_push 0 rfl ?_
  refine x_aload rfl ?_
  refine x_getR (r := 4) rfl (by decide) (by decide) rfl ?_
  refine x_push 0 rfl ?_
  refine x_push 33 rfl ?_
  refine x_copyG y_a63 y_a5 (by decide) (by decide) C0 (by decide) (y_fr_rf (lo := 4) (hi := 11)) (by omega) (by omega) (by omega) (by omega) (by omega) (Nat.le_of_ble_eq_true rfl) (fun S1 e1 C1 F1 => ?_)
  refine x_aload rfl ?_
  refine x_getR (r := 62) rfl (by decide) (by decide) rfl ?_
  refine x_push 0 rfl ?_
  refine x_aload rfl ?_
  refine x_getR (r := 4) rfl (by decide) (by decide) rfl ?_
  refine x_push 0 rfl ?_
  refine x_push 3 rfl ?_
  refine x_copyG y_a64 y_a6 (by decide) (by decide) C1 (by decide) F1 (by omega) (by omega) (by omega) (by omega) (by omega) (Nat.le_of_ble_eq_true rfl) (fun S2 e2 C2 F2 => ?_)
  refine x_aload rfl ?_
  refine x_getR (r := 62) rfl (by decide) (by decide) rfl ?_
  refine x_push 0 rfl ?_
  refine x_aload rfl ?_
  refine x_getR (r := 4) rfl (by decide) (by decide) rfl ?_
  refine x_push 0 rfl ?_
  refine x_push 2 rfl ?_
  refine x_copyG y_a65 y_a7 (by decide) (by decide) C2 (by decide) F2 (by omega) (by omega) (by omega) (by omega) (by omega) (Nat.le_of_ble_eq_true rfl) (fun S3 e3 C3 F3 => ?_)
  refine x_aload rfl ?_
  refine x_getR (r := 62) rfl (by decide) (by decide) rfl ?_
  refine x_push 0 rfl ?_
  refine x_aload rfl ?_
  refine x_getR (r := 4) rfl (by decide) (by decide) rfl ?_
  refine x_push 0 rfl ?_
  refine x_push 40 rfl ?_
  refine x_copyG y_a66 y_a8 (by decide) (by decide) C3 (by decide) F3 (by omega) (by omega) (by omega) (by omega) (by omega) (Nat.le_of_ble_eq_true rfl) (fun S4 e4 C4 F4 => ?_)
  refine x_aload rfl ?_
  refine x_getR (r := 62) rfl (by decide) (by decide) rfl ?_
  refine x_push 0 rfl ?_
  refine x_aload rfl ?_
  refine x_getR (r := 4) rfl (by decide) (by decide) rfl ?_
  refine x_push 0 rfl ?_
  refine x_push 192 rfl ?_
  refine x_copyG y_a67 y_a9 (by decide) (by decide) C4 (by decide) F4 (by omega) (by omega) (by omega) (by omega) (by omega) (Nat.le_of_ble_eq_true rfl) (fun S5 e5 C5 F5 => ?_)
  refine x_aload rfl ?_
  refine x_getR (r := 62) rfl (by decide) (by decide) rfl ?_
  refine x_push 0 rfl ?_
  refine x_aload rfl ?_
  refine x_getR (r := 4) rfl (by decide) (by decide) rfl ?_
  refine x_push 0 rfl ?_
  refine x_push 90 rfl ?_
  refine x_copyG y_a68 y_a10 (by decide) (by decide) C5 (by decide) F5 (by omega) (by omega) (by omega) (by omega) (by omega) (Nat.le_of_ble_eq_true rfl) (fun S6 e6 C6 F6 => ?_)
  refine x_aload rfl ?_
  refine x_aload rfl ?_
  refine x_fall ?_
  refine x_blk (b := 1) (a_71 E) rfl ?_
  unfold b_71_1
  refine x_getIG y_f62_6 C6 ?_
  have q7_0 : S6 62 6 = S5 62 6 := x_cp_nr e6 (by decide)
  have q7_1 : S5 62 6 = S4 62 6 := x_cp_nr e5 (by decide)
  have q7_2 : S4 62 6 = S3 62 6 := x_cp_nr e4 (by decide)
  have q7_3 : S3 62 6 = S2 62 6 := x_cp_nr e3 (by decide)
  have q7_4 : S2 62 6 = S1 62 6 := x_cp_nr e2 (by decide)
  have q7_5 : S1 62 6 = σ 62 6 := x_cp_nr e1 (by decide)
  simp only [q7_0, q7_1, q7_2, q7_3, q7_4, q7_5]
  intro g7a g7b
  refine x_putIG y_f4_6 ⟨by decide, rfl⟩ (by decide) C6 (by decide) F6 (by omega) (by omega) (fun S8 e8 C8 F8 => ?_)
  refine x_vret ?_
  exact k _ C8 F8 
