theorem sf_149_105 {E : q_E} {σ : x_S} {Q : Option q_V → x_S → Prop} {a1 : Int} (a1l : (-4) ≤ a1) (a1h : a1 ≤ 9) (C0 : y_CI σ) (k : ∀ τ v, y_CI τ → y_fq 105 107 σ τ → (-2147483648) ≤ v → v ≤ 2147483647 → Q (some (x_I v)) τ) : x_P E 149 [x_R 105, x_I a1] σ Q := by
  refine x_Mt e_149 (h_149 E) (Nat.le_of_ble_eq_true rfl) t_149 rfl ?_
  refine x_blk (b := 0) (a_149 E) rfl ?_
  unfold b_149_0
  refine x_aload rfl ?_
  refine x_getIG y_f105_5 C0 ?_
  intro g1a g1b
  refine x_push 40 rfl ?_
  refine x_icmp_lt (by omega) (by omega) (by omega) (by omega) (fun z2 => ?_) (fun z2 => ?_)
  · skip
    refine x_blk (b := 1) (a_149 E) rfl ?_
    unfold b_149_1
    refine x_aload rfl ?_
    refine x_getR (r := 105) rfl (by decide) (by decide) rfl ?_
    refine x_aload rfl ?_
    refine x_getIG y_f105_5 C0 ?_
    intro g3a g3b
    refine x_iload rfl ?_
    refine x_astG y_a106 C0 (by decide) (y_fr_rf (lo := 105) (hi := 107)) (by omega) (by omega) (by omega) (by omega) (fun S4 e4 C4 F4 => ?_)
    refine x_aload rfl ?_
    refine x_dup rfl ?_
    refine x_getIG y_f105_5 C4 ?_
    have q5_0 : S4 105 5 = σ 105 5 := x_up_nr e4 (by decide)
    simp only [q5_0]
    intro g5a g5b
    refine x_push 1 rfl ?_
    refine x_iadd ?_
    refine x_putIG y_f105_5 ⟨by decide, rfl⟩ (by decide) C4 (by decide) F4 (by omega) (by omega) (fun S6 e6 C6 F6 => ?_)
    refine x_push 0 rfl ?_
    refine x_iret ?_
    exact k _ _ C6 F6 (by omega) (by omega) 
  · skip
    refine x_push (-3) rfl ?_
    refine x_iret ?_
    exact k _ _ C0 (y_fr_rf (lo := 105) (hi := 107)) (by omega) (by omega) 
theorem sf_85_92_4 {E : q_E} {σ : x_S} {Q : Option q_V → x_S → Prop} {a2 : Int} (a2l : (-2147483648) ≤ a2) (a2h : a2 ≤ 2147483647) (C0 : y_CI σ) (k : ∀ v, (-4) ≤ v → v ≤ 15 → Q (some (x_I v)) σ) : x_P E 85 [x_R 92, x_R 4, x_I a2] σ Q := by
  refine x_Mt e_85 (h_85 E) (Nat.le_of_ble_eq_true rfl) t_85 rfl ?_
  refine x_blk (b := 0) (a_85 E) rfl ?_
  unfold b_85_0
  refine x_iload rfl ?_
  refine x_aload rfl ?_
  refine x_getIG y_f92_3 C0 ?_
  intro g1a g1b
  refine x_cS (fun _ => rfl) (Nat.le_of_ble_eq_true rfl) ?_
  refine sf_2 (by omega) (by omega) (by omega) (by omega) C0 (fun y2 => ?_) (fun y2 => ?_)
  · skip
    refine x_if_eq (by omega) (by omega) (fun z => absurd z (by omega)) (fun z3 => ?_)
    refine x_aload rfl ?_
    refine x_getR (r := 92) rfl (by decide) (by decide) rfl ?_
    refine x_iload rfl ?_
    refine x_ialdG y_a93 C0 (by omega) (by omega) (fun v4 v4a v4b => ?_)
    refine x_goto ?_
    refine x_blk (b := 2) (a_85 E) rfl ?_
    unfold b_85_2
    refine x_iret ?_
    exact k _ (by omega) (by omega) 
  · skip
    refine x_if_eq (by omega) (by omega) (fun z5 => ?_) (fun z => absurd (by omega) z)
    refine x_blk (b := 1) (a_85 E) rfl ?_
    unfold b_85_1
    refine x_push (-4) rfl ?_
    refine x_fall ?_
    refine x_blk (b := 2) (a_85 E) rfl ?_
    unfold b_85_2
    refine x_iret ?_
    exact k _ (by omega) (by omega) 
theorem sf_69_4 {E : q_E} {σ : x_S} {Q : Option q_V → x_S → Prop} {a1 a2 a3 : Int} (a1l : (-2147483648) ≤ a1) (a1h : a1 ≤ 2147483647) (a2l : (-2147483648) ≤ a2) (a2h : a2 ≤ 2147483647) (a3l : (-4) ≤ a3) (a3h : a3 ≤ 15) (C0 : y_CI σ) (k : ∀ v, 0 ≤ v → v ≤ 1 → Q (some (x_I v)) σ) : x_P E 69 [x_R 4, x_I a1, x_I a2, x_I a3] σ Q := by
  refine x_Mt e_69 (h_69 E) (Nat.le_of_ble_eq_true rfl) t_69 rfl ?_
  refine x_blk (b := 0) (a_69 E) rfl ?_
  unfold b_69_0
  refine x_iload rfl ?_
  refine x_push 10 rfl ?_
  refine x_isub ?_
  refine x_push 1 rfl ?_
  refine x_iandM (by omega) (by omega) (fun v1 v1a v1b => ?_)
  refine x_istore ?_
  refine x_iload rfl ?_
  refine x_push 2 rfl ?_
  refine x_cS (fun _ => rfl) (Nat.le_of_ble_eq_true rfl) ?_
  refine sf_2 (by omega) (by omega) (by omega) (by omega) C0 (fun y2 => ?_) (fun y2 => ?_)
  · skip
    refine x_if_eq (by omega) (by omega) (fun z => absurd z (by omega)) (fun z3 => ?_)
    refine x_aload rfl ?_
    refine x_getR (r := 4) rfl (by decide) (by decide) rfl ?_
    refine x_iload rfl ?_
    refine x_ialdG y_a7 C0 (by omega) (by omega) (fun v4 v4a v4b => ?_)
    refine x_push 2 rfl ?_
    refine x_iandM (by omega) (by omega) (fun v5 v5a v5b => ?_)
    refine x_if_eq (by omega) (by omega) (fun z6 => ?_) (fun z6 => ?_)
    · skip
      refine x_blk (b := 1) (a_69 E) rfl ?_
      unfold b_69_1
      refine x_push 0 rfl ?_
      refine x_fall ?_
      refine x_blk (b := 2) (a_69 E) rfl ?_
      unfold b_69_2
      refine x_istore ?_
      refine x_X_lo (lo' := [(0, x_R 4), (1, x_I _), (2, x_I _), (3, x_I _), (4, x_I _), (5, x_I _)]) ⟨rfl, rfl, rfl, rfl, rfl, rfl, trivial⟩ ?_
      refine x_iload rfl ?_
      refine x_if_eq (by omega) (by omega) (fun z7 => ?_) (fun z => absurd (by omega) z)
      refine x_blk (b := 3) (a_69 E) rfl ?_
      unfold b_69_3
      refine x_iload rfl ?_
      refine x_fall ?_
      refine x_blk (b := 4) (a_69 E) rfl ?_
      unfold b_69_4
      refine x_iret ?_
      exact k _ (by omega) (by omega) 
    · skip
      refine x_push 1 rfl ?_
      refine x_goto ?_
      refine x_blk (b := 2) (a_69 E) rfl ?_
      unfold b_69_2
      refine x_istore ?_
      refine x_X_lo (lo' := [(0, x_R 4), (1, x_I _), (2, x_I _), (3, x_I _), (4, x_I _), (5, x_I _)]) ⟨rfl, rfl, rfl, rfl, rfl, rfl, trivial⟩ ?_
      refine x_iload rfl ?_
      refine x_if_eq (by omega) (by omega) (fun z => absurd z (by omega)) (fun z8 => ?_)
      refine x_iload rfl ?_
      refine x_cS (fun _ => rfl) (Nat.le_of_ble_eq_true rfl) ?_
      refine sf_7 (by omega) (by omega) C0 (fun v9 v9a v9b => ?_)
      refine x_push 2 rfl ?_
      refine x_icmp_ne (by omega) (by omega) (by omega) (by omega) (fun z10 => ?_) (fun z10 => ?_)
      · skip
        refine x_push 1 rfl ?_
        refine x_iload rfl ?_
        refine x_isub ?_
        refine x_goto ?_
        refine x_blk (b := 4) (a_69 E) rfl ?_
        unfold b_69_4
        refine x_iret ?_
        exact k _ (by omega) (by omega) 
      · skip
        refine x_blk (b := 3) (a_69 E) rfl ?_
        unfold b_69_3
        refine x_iload rfl ?_
        refine x_fall ?_
        refine x_blk (b := 4) (a_69 E) rfl ?_
        unfold b_69_4
        refine x_iret ?_
        exact k _ (by omega) (by omega) 
  · skip
    refine x_if_eq (by omega) (by omega) (fun z11 => ?_) (fun z => absurd (by omega) z)
    refine x_blk (b := 1) (a_69 E) rfl ?_
    unfold b_69_1
    refine x_push 0 rfl ?_
    refine x_fall ?_
    refine x_blk (b := 2) (a_69 E) rfl ?_
    unfold b_69_2
    refine x_istore ?_
    refine x_X_lo (lo' := [(0, x_R 4), (1, x_I _), (2, x_I _), (3, x_I _), (4, x_I _), (5, x_I _)]) ⟨rfl, rfl, rfl, rfl, rfl, rfl, trivial⟩ ?_
    refine x_iload rfl ?_
    refine x_if_eq (by omega) (by omega) (fun z12 => ?_) (fun z => absurd (by omega) z)
    refine x_blk (b := 3) (a_69 E) rfl ?_
    unfold b_69_3
    refine x_iload rfl ?_
    refine x_fall ?_
    refine x_blk (b := 4) (a_69 E) rfl ?_
    unfold b_69_4
    refine x_iret ?_
    exact k _ (by omega) (by omega) 
theorem sf_68 {E : q_E} {σ : x_S} {Q : Option q_V → x_S → Prop} {a0 : Int} (a0l : 10 ≤ a0) (a0h : a0 ≤ 15) (C0 : y_CI σ) (k : ∀ v, 0 ≤ v → v ≤ 2 → Q (some (x_I v)) σ) : x_P E 68 [x_I a0] σ Q := by
  refine x_Mt e_68 (h_68 E) (Nat.le_of_ble_eq_true rfl) t_68 rfl ?_
  refine x_blk (b := 0) (a_68 E) rfl ?_
  unfold b_68_0
  refine x_iload rfl ?_
  refine x_push 10 rfl ?_
  refine x_isub ?_
  refine x_push 2 rfl ?_
  refine x_idiv (by omega) (by omega) (by omega) (by omega) ?_
  refine x_iret ?_
  exact k _ (by omega) (by omega) 
theorem sf_142_92_4 {E : q_E} {σ : x_S} {Q : Option q_V → x_S → Prop} {a2 a3 : Int} (a2l : (-2147483648) ≤ a2) (a2h : a2 ≤ 2147483647) (a3l : (-2147483648) ≤ a3) (a3h : a3 ≤ 2147483647) (C0 : y_CI σ) (k : ∀ v, (-2147483648) ≤ v → v ≤ 2147483647 → Q (some (x_I v)) σ) : x_P E 142 [x_R 92, x_R 4, x_I a2, x_I a3] σ Q := by
  refine x_Mt e_142 (h_142 E) (Nat.le_of_ble_eq_true rfl) t_142 rfl ?_
  refine x_blk (b := 0) (a_142 E) rfl ?_
  unfold b_142_0
  refine x_iload rfl ?_
  refine x_push 1 rfl ?_
  refine x_iadd ?_
  refine x_wrp (fun v1 v1a v1b => ?_)
  refine x_istore ?_
  refine x_iload rfl ?_
  refine x_if_eq (by omega) (by omega) (fun z2 => ?_) (fun z2 => ?_)
  · skip
    refine x_blk (b := 1) (a_142 E) rfl ?_
    unfold b_142_1
    refine x_iload rfl ?_
    refine x_goto ?_
    refine x_blk (b := 3) (a_142 E) rfl ?_
    unfold b_142_3
    refine x_iret ?_
    exact k _ (by omega) (by omega) 
  · skip
    refine x_iload rfl ?_
    refine x_aload rfl ?_
    refine x_getIG y_f92_3 C0 ?_
    intro g3a g3b
    refine x_cS (fun _ => rfl) (Nat.le_of_ble_eq_true rfl) ?_
    refine sf_2 (by omega) (by omega) (by omega) (by omega) C0 (fun y4 => ?_) (fun y4 => ?_)
    · skip
      refine x_if_ne (by omega) (by omega) (fun z => absurd z (by omega)) (fun z5 => ?_)
      refine x_blk (b := 2) (a_142 E) rfl ?_
      unfold b_142_2
      refine x_iload rfl ?_
      refine x_aload rfl ?_
      refine x_getR (r := 92) rfl (by decide) (by decide) rfl ?_
      refine x_iload rfl ?_
      refine x_ialdG y_a94 C0 (by omega) (by omega) (fun v6 v6a v6b => ?_)
      refine x_iadd ?_
      refine x_wrp (fun v7 v7a v7b => ?_)
      refine x_fall ?_
      refine x_blk (b := 3) (a_142 E) rfl ?_
      unfold b_142_3
      refine x_iret ?_
      exact k _ (by omega) (by omega) 
    · skip
      refine x_if_ne (by omega) (by omega) (fun z8 => ?_) (fun z => absurd (by omega) z)
      refine x_fall ?_
      refine x_blk (b := 1) (a_142 E) rfl ?_
      unfold b_142_1
      refine x_iload rfl ?_
      refine x_goto ?_
      refine x_blk (b := 3) (a_142 E) rfl ?_
      unfold b_142_3
      refine x_iret ?_
      exact k _ (by omega) (by omega) 
theorem sf_91_92 {E : q_E} {σ : x_S} {Q : Option q_V → x_S → Prop} {a1 : Int} (a1l : (-2147483648) ≤ a1) (a1h : a1 ≤ 2147483647) (C0 : y_CI σ) (k : ∀ v, (-2147483648) ≤ v → v ≤ 2147483647 → Q (some (x_I v)) σ) : x_P E 91 [x_R 92, x_I a1] σ Q := by
  refine x_Mt e_91 (h_91 E) (Nat.le_of_ble_eq_true rfl) t_91 rfl ?_
  refine x_blk (b := 0) (a_91 E) rfl ?_
  unfold b_91_0
  refine x_iload rfl ?_
  refine x_iret ?_
  exact k _ (by omega) (by omega) 
theorem sf_46_4 {E : q_E} {σ : x_S} {Q : Option q_V → x_S → Prop} {a1 a2 a3 a4 : Int} (a1l : (-2147483648) ≤ a1) (a1h : a1 ≤ 2147483647) (a2l : (-2147483648) ≤ a2) (a2h : a2 ≤ 2147483647) (a3l : (-2147483648) ≤ a3) (a3h : a3 ≤ 2147483647) (a4l : (-2147483648) ≤ a4) (a4h : a4 ≤ 2147483647) (C0 : y_CI σ) (k : ∀ v, (-4) ≤ v → v ≤ 15 → Q (some (x_I v)) σ) : x_P E 46 [x_R 4, x_I a1, x_I a2, x_I a3, x_I a4] σ Q := by
  refine x_Mt e_46 (h_46 E) (Nat.le_of_ble_eq_true rfl) t_46 rfl ?_
  refine x_blk (b := 0) (a_46 E) rfl ?_
  unfold b_46_0
  refine x_iload rfl ?_
  refine x_push 2 rfl ?_
  refine x_cS (fun _ => rfl) (Nat.le_of_ble_eq_true rfl) ?_
  refine sf_2 (by omega) (by omega) (by omega) (by omega) C0 (fun y1 => ?_) (fun y1 => ?_)
  · skip
    refine x_if_eq (by omega) (by omega) (fun z => absurd z (by omega)) (fun z2 => ?_)
    refine x_iload rfl ?_
    refine x_push 3 rfl ?_
    refine x_cS (fun _ => rfl) (Nat.le_of_ble_eq_true rfl) ?_
    refine sf_2 (by omega) (by omega) (by omega) (by omega) C0 (fun y3 => ?_) (fun y3 => ?_)
    · skip
      refine x_if_eq (by omega) (by omega) (fun z => absurd z (by omega)) (fun z4 => ?_)
      refine x_iload rfl ?_
      refine x_push 5 rfl ?_
      refine x_cS (fun _ => rfl) (Nat.le_of_ble_eq_true rfl) ?_
      refine sf_2 (by omega) (by omega) (by omega) (by omega) C0 (fun y5 => ?_) (fun y5 => ?_)
      · skip
        refine x_if_eq (by omega) (by omega) (fun z => absurd z (by omega)) (fun z6 => ?_)
        refine x_iload rfl ?_
        refine x_push 3 rfl ?_
        refine x_cS (fun _ => rfl) (Nat.le_of_ble_eq_true rfl) ?_
        refine sf_2 (by omega) (by omega) (by omega) (by omega) C0 (fun y7 => ?_) (fun y7 => ?_)
        · skip
          refine x_if_ne (by omega) (by omega) (fun z => absurd z (by omega)) (fun z8 => ?_)
          refine x_blk (b := 2) (a_46 E) rfl ?_
          unfold b_46_2
          refine x_aload rfl ?_
          refine x_getR (r := 4) rfl (by decide) (by decide) rfl ?_
          refine x_iload rfl ?_
          refine x_iload rfl ?_
          refine x_iload rfl ?_
          refine x_iload rfl ?_
          refine x_cS (fun _ => rfl) (Nat.le_of_ble_eq_true rfl) ?_
          refine sf_10 (by omega) (by omega) (by omega) (by omega) (by omega) (by omega) (by omega) (by omega) C0 (fun v9 v9a v9b k9_0 => ?_)
          refine x_ialdG y_a10 C0 (by omega) (by omega) (fun v10 v10a v10b => ?_)
          refine x_iret ?_
          exact k _ (by omega) (by omega) 
        · skip
          refine x_if_ne (by omega) (by omega) (fun z11 => ?_) (fun z => absurd (by omega) z)
          refine x_fall ?_
          refine x_blk (b := 1) (a_46 E) rfl ?_
          unfold b_46_1
          refine x_push (-4) rfl ?_
          refine x_iret ?_
          exact k _ (by omega) (by omega) 
      · skip
        refine x_if_eq (by omega) (by omega) (fun z12 => ?_) (fun z => absurd (by omega) z)
        refine x_blk (b := 1) (a_46 E) rfl ?_
        unfold b_46_1
        refine x_push (-4) rfl ?_
        refine x_iret ?_
        exact k _ (by omega) (by omega) 
    · skip
      refine x_if_eq (by omega) (by omega) (fun z13 => ?_) (fun z => absurd (by omega) z)
      refine x_blk (b := 1) (a_46 E) rfl ?_
      unfold b_46_1
      refine x_push (-4) rfl ?_
      refine x_iret ?_
      exact k _ (by omega) (by omega) 
  · skip
    refine x_if_eq (by omega) (by omega) (fun z14 => ?_) (fun z => absurd (by omega) z)
    refine x_blk (b := 1) (a_46 E) rfl ?_
    unfold b_46_1
    refine x_push (-4) rfl ?_
    refine x_iret ?_
    exact k _ (by omega) (by omega) 
theorem sf_86_105_4_92 {E : q_E} {σ : x_S} {Q : Option q_V → x_S → Prop} {a3 a4 a5 : Int} (a3l : (-2147483648) ≤ a3) (a3h : a3 ≤ 2147483647) (a4l : (-2147483648) ≤ a4) (a4h : a4 ≤ 2147483647) (a5l : (-2147483648) ≤ a5) (a5h : a5 ≤ 2147483647) (C0 : y_CI σ) (k : ∀ τ v, y_CI τ → y_fq 105 111 σ τ → (-2147483648) ≤ v → v ≤ 2147483647 → Q (some (x_I v)) τ) : x_P E 86 [x_R 105, x_R 4, x_R 92, x_I a3, x_I a4, x_I a5] σ Q := by
  refine x_Mt e_86 (h_86 E) (Nat.le_of_ble_eq_true rfl) t_86 rfl ?_
  refine x_blk (b := 0) (a_86 E) rfl ?_
  unfold b_86_0
  refine x_iload rfl ?_
  refine x_if_ge (by omega) (by omega) (fun z1 => ?_) (fun z1 => ?_)
  · skip
    refine x_iload rfl ?_
    refine x_iret ?_
    exact k _ _ C0 (y_fr_rf (lo := 105) (hi := 111)) (by omega) (by omega) 
  · skip
    refine x_blk (b := 1) (a_86 E) rfl ?_
    unfold b_86_1
    refine x_aload rfl ?_
    refine x_iload rfl ?_
    refine x_cU1 (fun _ => rfl) rfl (by decide) (Nat.le_of_ble_eq_true rfl) ?_
    refine sf_91_92 (by omega) (by omega) C0 (fun v2 v2a v2b => ?_)
    refine x_istore ?_
    refine x_iload rfl ?_
    refine x_push 40 rfl ?_
    refine x_cS (fun _ => rfl) (Nat.le_of_ble_eq_true rfl) ?_
    refine sf_2 (by omega) (by omega) (by omega) (by omega) C0 (fun y3 => ?_) (fun y3 => ?_)
    · skip
      refine x_if_eq (by omega) (by omega) (fun z => absurd z (by omega)) (fun z4 => ?_)
      refine x_aload rfl ?_
      refine x_getR (r := 105) rfl (by decide) (by decide) rfl ?_
      refine x_iload rfl ?_
      refine x_dup2 rfl rfl ?_
      refine x_ialdG y_a107 C0 (by omega) (by omega) (fun v5 v5a v5b => ?_)
      refine x_push 1 rfl ?_
      refine x_iadd ?_
      refine x_wrp (fun v6 v6a v6b => ?_)
      refine x_astG y_a107 C0 (by decide) (y_fr_rf (lo := 105) (hi := 111)) (by omega) (by omega) (by omega) (by omega) (fun S7 e7 C7 F7 => ?_)
      refine x_fall ?_
      refine x_blk (b := 2) (a_86 E) rfl ?_
      unfold b_86_2
      refine x_aload rfl ?_
      refine x_iload rfl ?_
      refine x_iload rfl ?_
      refine x_aload rfl ?_
      refine x_aload rfl ?_
      refine x_iload rfl ?_
      refine x_cU1 (fun _ => rfl) rfl (by decide) (Nat.le_of_ble_eq_true rfl) ?_
      refine sf_85_92_4 (by omega) (by omega) C7 (fun v8 v8a v8b => ?_)
      refine x_aload rfl ?_
      refine x_iload rfl ?_
      refine x_cU1 (fun _ => rfl) rfl (by decide) (Nat.le_of_ble_eq_true rfl) ?_
      refine sf_74_92 (by omega) (by omega) C7 (fun v9 v9a v9b => ?_)
      refine x_cV (fun _ => rfl) rfl (by decide) (Nat.le_of_ble_eq_true rfl) ?_
      refine sf_46_4 (by omega) (by omega) (by omega) (by omega) (by omega) (by omega) (by omega) (by omega) C7 (fun v10 v10a v10b => ?_)
      refine x_istore ?_
      refine x_X_lo (lo' := [(0, x_R 105), (1, x_R 4), (2, x_R 92), (3, x_I _), (4, x_I _), (5, x_I _), (6, x_I _), (7, x_I _)]) ⟨rfl, rfl, rfl, rfl, rfl, rfl, rfl, rfl, trivial⟩ ?_
      refine x_iload rfl ?_
      refine x_if_ge (by omega) (by omega) (fun z11 => ?_) (fun z11 => ?_)
      · skip
        refine x_push (-10) rfl ?_
        refine x_iload rfl ?_
        refine x_isub ?_
        refine x_iret ?_
        exact k _ _ C7 F7 (by omega) (by omega) 
      · skip
        refine x_blk (b := 3) (a_86 E) rfl ?_
        unfold b_86_3
        refine x_aload rfl ?_
        refine x_getIG y_f105_6 C7 ?_
        have q12_0 : S7 105 6 = σ 105 6 := x_up_nr e7 (by decide)
        simp only [q12_0]
        intro g12a g12b
        refine x_push 80 rfl ?_
        refine x_cS (fun _ => rfl) (Nat.le_of_ble_eq_true rfl) ?_
        refine sf_2 (by omega) (by omega) (by omega) (by omega) C7 (fun y13 => ?_) (fun y13 => ?_)
        · skip
          refine x_if_ne (by omega) (by omega) (fun z => absurd z (by omega)) (fun z14 => ?_)
          refine x_blk (b := 4) (a_86 E) rfl ?_
          unfold b_86_4
          refine x_aload rfl ?_
          refine x_getR (r := 105) rfl (by decide) (by decide) rfl ?_
          refine x_aload rfl ?_
          refine x_getIG y_f105_6 C7 ?_
          have q15_0 : S7 105 6 = σ 105 6 := x_up_nr e7 (by decide)
          simp only [q15_0]
          intro g15a g15b
          refine x_iload rfl ?_
          refine x_astG y_a108 C7 (by decide) F7 (by omega) (by omega) (by omega) (by omega) (fun S16 e16 C16 F16 => ?_)
          refine x_aload rfl ?_
          refine x_getR (r := 105) rfl (by decide) (by decide) rfl ?_
          refine x_aload rfl ?_
          refine x_getIG y_f105_6 C16 ?_
          have q17_0 : S16 105 6 = S7 105 6 := x_up_nr e16 (by decide)
          have q17_1 : S7 105 6 = σ 105 6 := x_up_nr e7 (by decide)
          simp only [q17_0, q17_1]
          intro g17a g17b
          refine x_iload rfl ?_
          refine x_astG y_a109 C16 (by decide) F16 (by omega) (by omega) (by omega) (by omega) (fun S18 e18 C18 F18 => ?_)
          refine x_aload rfl ?_
          refine x_getR (r := 105) rfl (by decide) (by decide) rfl ?_
          refine x_aload rfl ?_
          refine x_getIG y_f105_6 C18 ?_
          have q19_0 : S18 105 6 = S16 105 6 := x_up_nr e18 (by decide)
          have q19_1 : S16 105 6 = S7 105 6 := x_up_nr e16 (by decide)
          have q19_2 : S7 105 6 = σ 105 6 := x_up_nr e7 (by decide)
          simp only [q19_0, q19_1, q19_2]
          intro g19a g19b
          refine x_push 0 rfl ?_
          refine x_astG y_a110 C18 (by decide) F18 (by omega) (by omega) (by omega) (by omega) (fun S20 e20 C20 F20 => ?_)
          refine x_aload rfl ?_
          refine x_dup rfl ?_
          refine x_getIG y_f105_6 C20 ?_
          have q21_0 : S20 105 6 = S18 105 6 := x_up_nr e20 (by decide)
          have q21_1 : S18 105 6 = S16 105 6 := x_up_nr e18 (by decide)
          have q21_2 : S16 105 6 = S7 105 6 := x_up_nr e16 (by decide)
          have q21_3 : S7 105 6 = σ 105 6 := x_up_nr e7 (by decide)
          simp only [q21_0, q21_1, q21_2, q21_3]
          intro g21a g21b
          refine x_push 1 rfl ?_
          refine x_iadd ?_
          refine x_putIG y_f105_6 ⟨by decide, rfl⟩ (by decide) C20 (by decide) F20 (by omega) (by omega) (fun S22 e22 C22 F22 => ?_)
          refine x_push 0 rfl ?_
          refine x_iret ?_
          exact k _ _ C22 F22 (by omega) (by omega) 
        · skip
          refine x_if_ne (by omega) (by omega) (fun z23 => ?_) (fun z => absurd (by omega) z)
          refine x_push (-3) rfl ?_
          refine x_iret ?_
          exact k _ _ C7 F7 (by omega) (by omega) 
    · skip
      refine x_if_eq (by omega) (by omega) (fun z24 => ?_) (fun z => absurd (by omega) z)
      refine x_blk (b := 2) (a_86 E) rfl ?_
      unfold b_86_2
      refine x_aload rfl ?_
      refine x_iload rfl ?_
      refine x_iload rfl ?_
      refine x_aload rfl ?_
      refine x_aload rfl ?_
      refine x_iload rfl ?_
      refine x_cU1 (fun _ => rfl) rfl (by decide) (Nat.le_of_ble_eq_true rfl) ?_
      refine sf_85_92_4 (by omega) (by omega) C0 (fun v25 v25a v25b => ?_)
      refine x_aload rfl ?_
      refine x_iload rfl ?_
      refine x_cU1 (fun _ => rfl) rfl (by decide) (Nat.le_of_ble_eq_true rfl) ?_
      refine sf_74_92 (by omega) (by omega) C0 (fun v26 v26a v26b => ?_)
      refine x_cV (fun _ => rfl) rfl (by decide) (Nat.le_of_ble_eq_true rfl) ?_
      refine sf_46_4 (by omega) (by omega) (by omega) (by omega) (by omega) (by omega) (by omega) (by omega) C0 (fun v27 v27a v27b => ?_)
      refine x_istore ?_
      refine x_X_lo (lo' := [(0, x_R 105), (1, x_R 4), (2, x_R 92), (3, x_I _), (4, x_I _), (5, x_I _), (6, x_I _), (7, x_I _)]) ⟨rfl, rfl, rfl, rfl, rfl, rfl, rfl, rfl, trivial⟩ ?_
      refine x_iload rfl ?_
      refine x_if_ge (by omega) (by omega) (fun z28 => ?_) (fun z28 => ?_)
      · skip
        refine x_push (-10) rfl ?_
        refine x_iload rfl ?_
        refine x_isub ?_
        refine x_wrp (fun v29 v29a v29b => ?_)
        refine x_iret ?_
        exact k _ _ C0 (y_fr_rf (lo := 105) (hi := 111)) (by omega) (by omega) 
      · skip
        refine x_blk (b := 3) (a_86 E) rfl ?_
        unfold b_86_3
        refine x_aload rfl ?_
        refine x_getIG y_f105_6 C0 ?_
        intro g30a g30b
        refine x_push 80 rfl ?_
        refine x_cS (fun _ => rfl) (Nat.le_of_ble_eq_true rfl) ?_
        refine sf_2 (by omega) (by omega) (by omega) (by omega) C0 (fun y31 => ?_) (fun y31 => ?_)
        · skip
          refine x_if_ne (by omega) (by omega) (fun z => absurd z (by omega)) (fun z32 => ?_)
          refine x_blk (b := 4) (a_86 E) rfl ?_
          unfold b_86_4
          refine x_aload rfl ?_
          refine x_getR (r := 105) rfl (by decide) (by decide) rfl ?_
          refine x_aload rfl ?_
          refine x_getIG y_f105_6 C0 ?_
          intro g33a g33b
          refine x_iload rfl ?_
          refine x_astG y_a108 C0 (by decide) (y_fr_rf (lo := 105) (hi := 111)) (by omega) (by omega) (by omega) (by omega) (fun S34 e34 C34 F34 => ?_)
          refine x_aload rfl ?_
          refine x_getR (r := 105) rfl (by decide) (by decide) rfl ?_
          refine x_aload rfl ?_
          refine x_getIG y_f105_6 C34 ?_
          have q35_0 : S34 105 6 = σ 105 6 := x_up_nr e34 (by decide)
          simp only [q35_0]
          intro g35a g35b
          refine x_iload rfl ?_
          refine x_astG y_a109 C34 (by decide) F34 (by omega) (by omega) (by omega) (by omega) (fun S36 e36 C36 F36 => ?_)
          refine x_aload rfl ?_
          refine x_getR (r := 105) rfl (by decide) (by decide) rfl ?_
          refine x_aload rfl ?_
          refine x_getIG y_f105_6 C36 ?_
          have q37_0 : S36 105 6 = S34 105 6 := x_up_nr e36 (by decide)
          have q37_1 : S34 105 6 = σ 105 6 := x_up_nr e34 (by decide)
          simp only [q37_0, q37_1]
          intro g37a g37b
          refine x_push 0 rfl ?_
          refine x_astG y_a110 C36 (by decide) F36 (by omega) (by omega) (by omega) (by omega) (fun S38 e38 C38 F38 => ?_)
          refine x_aload rfl ?_
          refine x_dup rfl ?_
          refine x_getIG y_f105_6 C38 ?_
          have q39_0 : S38 105 6 = S36 105 6 := x_up_nr e38 (by decide)
          have q39_1 : S36 105 6 = S34 105 6 := x_up_nr e36 (by decide)
          have q39_2 : S34 105 6 = σ 105 6 := x_up_nr e34 (by decide)
          simp only [q39_0, q39_1, q39_2]
          intro g39a g39b
          refine x_push 1 rfl ?_
          refine x_iadd ?_
          refine x_putIG y_f105_6 ⟨by decide, rfl⟩ (by decide) C38 (by decide) F38 (by omega) (by omega) (fun S40 e40 C40 F40 => ?_)
          refine x_push 0 rfl ?_
          refine x_iret ?_
          exact k _ _ C40 F40 (by omega) (by omega) 
        · skip
          refine x_if_ne (by omega) (by omega) (fun z41 => ?_) (fun z => absurd (by omega) z)
          refine x_push (-3) rfl ?_
          refine x_iret ?_
          exact k _ _ C0 (y_fr_rf (lo := 105) (hi := 111)) (by omega) (by omega) 
theorem sf_148_105_4_92 {E : q_E} {σ : x_S} {Q : Option q_V → x_S → Prop} {a3 : Int} (a3l : (-2147483648) ≤ a3) (a3h : a3 ≤ 2147483647) (C0 : y_CI σ) (k : ∀ τ v, y_CI τ → y_fq 105 111 σ τ → (-2147483648) ≤ v → v ≤ 2147483647 → Q (some (x_I v)) τ) : x_P E 148 [x_R 105, x_R 4, x_R 92, x_I a3] σ Q := by
  refine x_Mt e_148 (h_148 E) (Nat.le_of_ble_eq_true rfl) t_148 rfl ?_
  refine x_blk (b := 0) (a_148 E) rfl ?_
  unfold b_148_0
  refine x_aload rfl ?_
  refine x_getIG y_f105_6 C0 ?_
  intro g1a g1b
  refine x_push 1 rfl ?_
  refine x_isub ?_
  refine x_istore ?_
  refine x_iload rfl ?_
  refine x_push 80 rfl ?_
  refine x_cS (fun _ => rfl) (Nat.le_of_ble_eq_true rfl) ?_
  refine sf_2 (by omega) (by omega) (by omega) (by omega) C0 (fun y2 => ?_) (fun y2 => ?_)
  · skip
    refine x_if_ne (by omega) (by omega) (fun z => absurd z (by omega)) (fun z3 => ?_)
    refine x_blk (b := 1) (a_148 E) rfl ?_
    unfold b_148_1
    refine x_aload rfl ?_
    refine x_aload rfl ?_
    refine x_getR (r := 105) rfl (by decide) (by decide) rfl ?_
    refine x_iload rfl ?_
    refine x_ialdG y_a109 C0 (by omega) (by omega) (fun v4 v4a v4b => ?_)
    refine x_aload rfl ?_
    refine x_getR (r := 105) rfl (by decide) (by decide) rfl ?_
    refine x_iload rfl ?_
    refine x_ialdG y_a110 C0 (by omega) (by omega) (fun v5 v5a v5b => ?_)
    refine x_cV (fun _ => rfl) rfl (by decide) (Nat.le_of_ble_eq_true rfl) ?_
    refine sf_53_4 (by omega) (by omega) (by omega) (by omega) C0 (fun v6 v6a v6b => ?_)
    refine x_istore ?_
    refine x_X_lo (lo' := [(0, x_R 105), (1, x_R 4), (2, x_R 92), (3, x_I _), (4, x_I _), (5, x_I _)]) ⟨rfl, rfl, rfl, rfl, rfl, rfl, trivial⟩ ?_
    refine x_iload rfl ?_
    refine x_push (-4) rfl ?_
    refine x_icmp_ne (by omega) (by omega) (by omega) (by omega) (fun z7 => ?_) (fun z7 => ?_)
    · skip
      refine x_aload rfl ?_
      refine x_dup rfl ?_
      refine x_getIG y_f105_6 C0 ?_
      intro g8a g8b
      refine x_push 1 rfl ?_
      refine x_isub ?_
      refine x_putIG y_f105_6 ⟨by decide, rfl⟩ (by decide) C0 (by decide) (y_fr_rf (lo := 105) (hi := 111)) (by omega) (by omega) (fun S9 e9 C9 F9 => ?_)
      refine x_push 0 rfl ?_
      refine x_iret ?_
      exact k _ _ C9 F9 (by omega) (by omega) 
    · skip
      refine x_blk (b := 2) (a_148 E) rfl ?_
      unfold b_148_2
      refine x_aload rfl ?_
      refine x_getR (r := 105) rfl (by decide) (by decide) rfl ?_
      refine x_iload rfl ?_
      refine x_dup2 rfl rfl ?_
      refine x_ialdG y_a110 C0 (by omega) (by omega) (fun v10 v10a v10b => ?_)
      refine x_push 1 rfl ?_
      refine x_iadd ?_
      refine x_wrp (fun v11 v11a v11b => ?_)
      refine x_astG y_a110 C0 (by decide) (y_fr_rf (lo := 105) (hi := 111)) (by omega) (by omega) (by omega) (by omega) (fun S12 e12 C12 F12 => ?_)
      refine x_iload rfl ?_
      refine x_push 10 rfl ?_
      refine x_icmp_ge (by omega) (by omega) (by omega) (by omega) (fun z13 => ?_) (fun z13 => ?_)
      · skip
        refine x_aload rfl ?_
        refine x_iload rfl ?_
        refine x_cV (fun _ => rfl) rfl (by decide) (Nat.le_of_ble_eq_true rfl) ?_
        refine sf_149_105 (by omega) (by omega) C12 (fun S14 v14 C14 f14 v14a v14b => ?_)
        have F14 := y_fq_tr (by decide) F12 f14
        refine x_iret ?_
        exact k _ _ C14 F14 (by omega) (by omega) 
      · skip
        refine x_blk (b := 3) (a_148 E) rfl ?_
        unfold b_148_3
        refine x_aload rfl ?_
        refine x_getR (r := 105) rfl (by decide) (by decide) rfl ?_
        refine x_iload rfl ?_
        refine x_ialdG y_a108 C12 (by omega) (by omega) (fun v15 v15a v15b => ?_)
        refine x_istore ?_
        refine x_aload rfl ?_
        refine x_iload rfl ?_
        refine x_aload rfl ?_
        refine x_aload rfl ?_
        refine x_iload rfl ?_
        refine x_cU1 (fun _ => rfl) rfl (by decide) (Nat.le_of_ble_eq_true rfl) ?_
        refine sf_85_92_4 (by omega) (by omega) C12 (fun v16 v16a v16b => ?_)
        refine x_iload rfl ?_
        refine x_cV (fun _ => rfl) rfl (by decide) (Nat.le_of_ble_eq_true rfl) ?_
        refine sf_69_4 (by omega) (by omega) (by omega) (by omega) (by omega) (by omega) C12 (fun v17 v17a v17b => ?_)
        refine x_istore ?_
        refine x_X_lo (lo' := [(0, x_R 105), (1, x_R 4), (2, x_R 92), (3, x_I _), (4, x_I _), (5, x_I _), (6, x_I _), (7, x_I _)]) ⟨rfl, rfl, rfl, rfl, rfl, rfl, rfl, rfl, trivial⟩ ?_
        refine x_aload rfl ?_
        refine x_aload rfl ?_
        refine x_aload rfl ?_
        refine x_iload rfl ?_
        refine x_iload rfl ?_
        refine x_cS (fun _ => rfl) (Nat.le_of_ble_eq_true rfl) ?_
        refine sf_68 (by omega) (by omega) C12 (fun v18 v18a v18b => ?_)
        refine x_aload rfl ?_
        refine x_aload rfl ?_
        refine x_iload rfl ?_
        refine x_iload rfl ?_
        refine x_cU1 (fun _ => rfl) rfl (by decide) (Nat.le_of_ble_eq_true rfl) ?_
        refine sf_142_92_4 (by omega) (by omega) (by omega) (by omega) C12 (fun v19 v19a v19b => ?_)
        refine x_cV (fun _ => rfl) rfl (by decide) (Nat.le_of_ble_eq_true rfl) ?_
        refine sf_86_105_4_92 (by omega) (by omega) (by omega) (by omega) (by omega) (by omega) C12 (fun S20 v20 C20 f20 v20a v20b => ?_)
        have F20 := y_fq_tr (by decide) F12 f20
        refine x_iret ?_
        exact k _ _ C20 F20 (by omega) (by omega) 
  · skip
    refine x_if_ne (by omega) (by omega) (fun z21 => ?_) (fun z => absurd (by omega) z)
    refine x_push (-3) rfl ?_
    refine x_iret ?_
    exact k _ _ C0 (y_fr_rf (lo := 105) (hi := 111)) (by omega) (by omega) 
theorem sf_27_107_b2 {E : q_E} {σ : x_S} {Q : Option q_V → x_S → Prop} {a1 : Int} (a1l : (-2147483648) ≤ a1) (a1h : a1 ≤ 2147483647) (C0 : y_CI σ) (k : ∀ τ, y_CI τ → y_fq 107 108 σ τ → Q none τ) : ∀ (N : Nat) (i : Int) (τ : x_S), (100 - i).toNat = N → 0 ≤ i → i ≤ 100 → y_CI τ → y_fq 107 108 σ τ → x_G E m_27 Q (t_27 2) [(0, x_R 107), (1, x_I a1), (2, x_I i), (3, x_I 40)] [] τ := by
  intro N
  induction N using Nat.strongRecOn with
  | ind N ih =>
    intro i τ hN iL iH C F
    refine x_blk (b := 2) (a_27 E) rfl ?_
    unfold b_27_2
    refine x_iload rfl ?_
    refine x_iload rfl ?_
    refine x_icmp_ge (by omega) (by omega) (by omega) (by omega) (fun z1 => ?_) (fun z1 => ?_)
    · skip
      refine x_aload rfl ?_
      refine x_iload rfl ?_
      refine x_iload rfl ?_
      refine x_astG y_a107 C (by decide) F (by omega) (by omega) (by omega) (by omega) (fun S2 e2 C2 F2 => ?_)
      refine x_iinc 1 rfl rfl ?_
      refine x_goto ?_
      refine x_G_lo (lo' := [(0, x_R 107), (1, x_I _), (2, x_I _), (3, x_I _)]) ⟨rfl, rfl, rfl, rfl, trivial⟩ ?_
      exact ih _ (by omega) _ _ rfl (by omega) (by omega)  C2 F2
    · skip
      refine x_blk (b := 1) (a_27 E) rfl ?_
      unfold b_27_1
      refine x_vret ?_
      exact k _ C F 
theorem sf_27_107 {E : q_E} {σ : x_S} {Q : Option q_V → x_S → Prop} {a1 : Int} (a1l : (-2147483648) ≤ a1) (a1h : a1 ≤ 2147483647) (C0 : y_CI σ) (k : ∀ τ, y_CI τ → y_fq 107 108 σ τ → Q none τ) : x_P E 27 [x_R 107, x_I a1] σ Q := by
  refine x_Mt e_27 (h_27 E) (Nat.le_of_ble_eq_true rfl) t_27 rfl ?_
  refine x_blk (b := 0) (a_27 E) rfl ?_
  unfold b_27_0
  refine x_push 0 rfl ?_
  refine x_istore ?_
  refine x_aload rfl ?_
  refine x_lenG (n := 40) (L := 40) rfl (by decide) rfl (by decide) rfl ?_
  refine x_istore ?_
  refine x_X_lo (lo' := [(0, x_R 107), (1, x_I _), (2, x_I _), (3, x_I _)]) ⟨rfl, rfl, rfl, rfl, trivial⟩ ?_
  refine x_fall ?_
  refine x_G_lo (lo' := [(0, x_R 107), (1, x_I _), (2, x_I _), (3, x_I _)]) ⟨rfl, rfl, rfl, rfl, trivial⟩ ?_
  exact sf_27_107_b2 a1l a1h C0 k  _ _ _ rfl (by omega) (by omega)  C0 (y_fr_rf (lo := 107) (hi := 108))
theorem sf_90_92_4 {E : q_E} {σ : x_S} {Q : Option q_V → x_S → Prop} (C0 : y_CI σ) (k : ∀ v, 0 ≤ v → v ≤ 0 → Q (some (x_I v)) σ) : x_P E 90 [x_R 92, x_R 4] σ Q := by
  refine x_Mt e_90 (h_90 E) (Nat.le_of_ble_eq_true rfl) t_90 rfl ?_
  refine x_blk (b := 0) (a_90 E) rfl ?_
  unfold b_90_0
  refine x_push 0 rfl ?_
  refine x_iret ?_
  exact k _ (by omega) (by omega) 
theorem sf_84_105_4_92_b2 {E : q_E} {σ : x_S} {Q : Option q_V → x_S → Prop} {a3 a4 : Int} (a3l : (-2147483648) ≤ a3) (a3h : a3 ≤ 2147483647) (a4l : (-2147483648) ≤ a4) (a4h : a4 ≤ 2147483647) (C0 : y_CI σ) (k : ∀ τ v, y_CI τ → y_fq 105 111 σ τ → (-2147483648) ≤ v → v ≤ 2147483647 → Q (some (x_I v)) τ) : ∀ (N : Nat) (s n : Int) (τ : x_S), (100000 - n).toNat = N → (-2147483648) ≤ s → s ≤ 2147483647 → 0 ≤ n → n ≤ 100000 → y_CI τ → y_fq 105 111 σ τ → x_G E m_84 Q (t_84 2) [(0, x_R 105), (1, x_R 4), (2, x_R 92), (3, x_I a3), (4, x_I a4), (5, x_I s), (6, x_I n)] [] τ := by
  intro N
  induction N using Nat.strongRecOn with
  | ind N ih =>
    intro s n τ hN sL sH nL nH C F
    refine x_blk (b := 2) (a_84 E) rfl ?_
    unfold b_84_2
    refine x_iload rfl ?_
    refine x_push 100000 rfl ?_
    refine x_icmp_ge (by omega) (by omega) (by omega) (by omega) (fun z1 => ?_) (fun z1 => ?_)
    · skip
      refine x_iload rfl ?_
      refine x_if_ne (by omega) (by omega) (fun z2 => ?_) (fun z2 => ?_)
      · skip
        refine x_aload rfl ?_
        refine x_getIG y_f105_6 C ?_
        intro g3a g3b
        refine x_if_le (by omega) (by omega) (fun z4 => ?_) (fun z4 => ?_)
        · skip
          refine x_blk (b := 1) (a_84 E) rfl ?_
          unfold b_84_1
          refine x_iload rfl ?_
          refine x_if_ge (by omega) (by omega) (fun z => absurd z (by omega)) (fun z5 => ?_)
          refine x_blk (b := 3) (a_84 E) rfl ?_
          unfold b_84_3
          refine x_aload rfl ?_
          refine x_getIG y_f105_5 C ?_
          intro g6a g6b
          refine x_fall ?_
          refine x_blk (b := 4) (a_84 E) rfl ?_
          unfold b_84_4
          refine x_iret ?_
          exact k _ _ C F (by omega) (by omega) 
        · skip
          refine x_aload rfl ?_
          refine x_aload rfl ?_
          refine x_aload rfl ?_
          refine x_iload rfl ?_
          refine x_cV (fun _ => rfl) rfl (by decide) (Nat.le_of_ble_eq_true rfl) ?_
          refine sf_148_105_4_92 (by omega) (by omega) C (fun S7 v7 C7 f7 v7a v7b => ?_)
          have F7 := y_fq_tr (by decide) F f7
          refine x_istore ?_
          refine x_iinc 1 rfl rfl ?_
          refine x_X_lo (lo' := [(0, x_R 105), (1, x_R 4), (2, x_R 92), (3, x_I _), (4, x_I _), (5, x_I _), (6, x_I _)]) ⟨rfl, rfl, rfl, rfl, rfl, rfl, rfl, trivial⟩ ?_
          refine x_goto ?_
          refine x_G_lo (lo' := [(0, x_R 105), (1, x_R 4), (2, x_R 92), (3, x_I _), (4, x_I _), (5, x_I _), (6, x_I _)]) ⟨rfl, rfl, rfl, rfl, rfl, rfl, rfl, trivial⟩ ?_
          exact ih _ (by omega) _ _ _ rfl (by omega) (by omega) (by omega) (by omega)  C7 F7
      · skip
        refine x_blk (b := 1) (a_84 E) rfl ?_
        unfold b_84_1
        refine x_iload rfl ?_
        refine x_if_ge (by omega) (by omega) (fun z8 => ?_) (fun z8 => ?_)
        · skip
          refine x_iload rfl ?_
          refine x_goto ?_
          refine x_blk (b := 4) (a_84 E) rfl ?_
          unfold b_84_4
          refine x_iret ?_
          exact k _ _ C F (by omega) (by omega) 
        · skip
          refine x_blk (b := 3) (a_84 E) rfl ?_
          unfold b_84_3
          refine x_aload rfl ?_
          refine x_getIG y_f105_5 C ?_
          intro g9a g9b
          refine x_fall ?_
          refine x_blk (b := 4) (a_84 E) rfl ?_
          unfold b_84_4
          refine x_iret ?_
          exact k _ _ C F (by omega) (by omega) 
    · skip
      refine x_blk (b := 1) (a_84 E) rfl ?_
      unfold b_84_1
      refine x_iload rfl ?_
      refine x_if_ge (by omega) (by omega) (fun z10 => ?_) (fun z10 => ?_)
      · skip
        refine x_iload rfl ?_
        refine x_goto ?_
        refine x_blk (b := 4) (a_84 E) rfl ?_
        unfold b_84_4
        refine x_iret ?_
        exact k _ _ C F (by omega) (by omega) 
      · skip
        refine x_blk (b := 3) (a_84 E) rfl ?_
        unfold b_84_3
        refine x_aload rfl ?_
        refine x_getIG y_f105_5 C ?_
        intro g11a g11b
        refine x_fall ?_
        refine x_blk (b := 4) (a_84 E) rfl ?_
        unfold b_84_4
        refine x_iret ?_
        exact k _ _ C F (by omega) (by omega) 
theorem sf_84_105_4_92 {E : q_E} {σ : x_S} {Q : Option q_V → x_S → Prop} {a3 a4 : Int} (a3l : (-2147483648) ≤ a3) (a3h : a3 ≤ 2147483647) (a4l : (-2147483648) ≤ a4) (a4h : a4 ≤ 2147483647) (C0 : y_CI σ) (k : ∀ τ v, y_CI τ → y_fq 105 111 σ τ → (-2147483648) ≤ v → v ≤ 2147483647 → Q (some (x_I v)) τ) : x_P E 84 [x_R 105, x_R 4, x_R 92, x_I a3, x_I a4] σ Q := by
  refine x_Mt e_84 (h_84 E) (Nat.le_of_ble_eq_true rfl) t_84 rfl ?_
  refine x_blk (b := 0) (a_84 E) rfl ?_
  unfold b_84_0
  refine x_aload rfl ?_
  refine x_getR (r := 105) rfl (by decide) (by decide) rfl ?_
  refine x_push 0 rfl ?_
  refine x_cS (fun _ => rfl) (Nat.le_of_ble_eq_true rfl) ?_
  refine sf_27_107 (by omega) (by omega) C0 (fun S1 C1 f1 => ?_)
  have F1 := y_fq_tr (by decide) (y_fr_rf (lo := 105) (hi := 111)) f1
  refine x_aload rfl ?_
  refine x_push 0 rfl ?_
  refine x_putIG y_f105_5 ⟨by decide, rfl⟩ (by decide) C1 (by decide) F1 (by omega) (by omega) (fun S2 e2 C2 F2 => ?_)
  refine x_aload rfl ?_
  refine x_push 0 rfl ?_
  refine x_putIG y_f105_6 ⟨by decide, rfl⟩ (by decide) C2 (by decide) F2 (by omega) (by omega) (fun S3 e3 C3 F3 => ?_)
  refine x_aload rfl ?_
  refine x_aload rfl ?_
  refine x_aload rfl ?_
  refine x_iload rfl ?_
  refine x_iload rfl ?_
  refine x_aload rfl ?_
  refine x_aload rfl ?_
  refine x_cU1 (fun _ => rfl) rfl (by decide) (Nat.le_of_ble_eq_true rfl) ?_
  refine sf_90_92_4  C3 (fun v4 v4a v4b => ?_)
  refine x_cV (fun _ => rfl) rfl (by decide) (Nat.le_of_ble_eq_true rfl) ?_
  refine sf_86_105_4_92 (by omega) (by omega) (by omega) (by omega) (by omega) (by omega) C3 (fun S5 v5 C5 f5 v5a v5b => ?_)
  have F5 := y_fq_tr (by decide) F3 f5
  refine x_istore ?_
  refine x_push 0 rfl ?_
  refine x_istore ?_
  refine x_X_lo (lo' := [(0, x_R 105), (1, x_R 4), (2, x_R 92), (3, x_I _), (4, x_I _), (5, x_I _), (6, x_I _)]) ⟨rfl, rfl, rfl, rfl, rfl, rfl, rfl, trivial⟩ ?_
  refine x_fall ?_
  refine x_G_lo (lo' := [(0, x_R 105), (1, x_R 4), (2, x_R 92), (3, x_I _), (4, x_I _), (5, x_I _), (6, x_I _)]) ⟨rfl, rfl, rfl, rfl, rfl, rfl, rfl, trivial⟩ ?_
  exact sf_84_105_4_92_b2 a3l a3h a4l a4h C0 k  _ _ _ _ rfl (by omega) (by omega) (by omega) (by omega)  C5 F5
theorem sf_152_105 {E : q_E} {σ : x_S} {Q : Option q_V → x_S → Prop} {a1 : Int} (a1l : (-2147483648) ≤ a1) (a1h : a1 ≤ 2147483647) (C0 : y_CI σ) (k : ∀ v, (-4) ≤ v → v ≤ 15 → Q (some (x_I v)) σ) : x_P E 152 [x_R 105, x_I a1] σ Q := by
  refine x_Mt e_152 (h_152 E) (Nat.le_of_ble_eq_true rfl) t_152 rfl ?_
  refine x_blk (b := 0) (a_152 E) rfl ?_
  unfold b_152_0
  refine x_iload rfl ?_
  refine x_aload rfl ?_
  refine x_getIG y_f105_5 C0 ?_
  intro g1a g1b
  refine x_cS (fun _ => rfl) (Nat.le_of_ble_eq_true rfl) ?_
  refine sf_2 (by omega) (by omega) (by omega) (by omega) C0 (fun y2 => ?_) (fun y2 => ?_)
  · skip
    refine x_if_eq (by omega) (by omega) (fun z => absurd z (by omega)) (fun z3 => ?_)
    refine x_iload rfl ?_
    refine x_push 40 rfl ?_
    refine x_icmp_ge (by omega) (by omega) (by omega) (by omega) (fun z4 => ?_) (fun z => absurd (by omega) z)
    refine x_aload rfl ?_
    refine x_getR (r := 105) rfl (by decide) (by decide) rfl ?_
    refine x_iload rfl ?_
    refine x_ialdG y_a106 C0 (by omega) (by omega) (fun v5 v5a v5b => ?_)
    refine x_goto ?_
    refine x_blk (b := 2) (a_152 E) rfl ?_
    unfold b_152_2
    refine x_iret ?_
    exact k _ (by omega) (by omega) 
  · skip
    refine x_if_eq (by omega) (by omega) (fun z6 => ?_) (fun z => absurd (by omega) z)
    refine x_blk (b := 1) (a_152 E) rfl ?_
    unfold b_152_1
    refine x_push (-4) rfl ?_
    refine x_fall ?_
    refine x_blk (b := 2) (a_152 E) rfl ?_
    unfold b_152_2
    refine x_iret ?_
    exact k _ (by omega) (by omega) 
theorem sf_98_0 {E : q_E} {σ : x_S} {Q : Option q_V → x_S → Prop} {a1 a2 : Int} (a1l : (-2147483648) ≤ a1) (a1h : a1 ≤ 2147483647) (a2l : (-2147483648) ≤ a2) (a2h : a2 ≤ 2147483647) (C0 : y_CI σ) (k : ∀ v, (-2147483648) ≤ v → v ≤ 2147483647 → Q (some (x_I v)) σ) : x_P E 98 [x_R 0, x_I a1, x_I a2] σ Q := by
  refine x_Mt e_98 (h_98 E) (Nat.le_of_ble_eq_true rfl) t_98 rfl ?_
  refine x_blk (b := 0) (a_98 E) rfl ?_
  unfold b_98_0
  refine x_iload rfl ?_
  refine x_if_lt (by omega) (by omega) (fun z1 => ?_) (fun z1 => ?_)
  · skip
    refine x_blk (b := 1) (a_98 E) rfl ?_
    unfold b_98_1
    refine x_iload rfl ?_
    refine x_goto ?_
    refine x_blk (b := 3) (a_98 E) rfl ?_
    unfold b_98_3
    refine x_iret ?_
    exact k _ (by omega) (by omega) 
  · skip
    refine x_iload rfl ?_
    refine x_push (-1) rfl ?_
    refine x_icmp_ne (by omega) (by omega) (by omega) (by omega) (fun z2 => ?_) (fun z2 => ?_)
    · skip
      refine x_fall ?_
      refine x_blk (b := 1) (a_98 E) rfl ?_
      unfold b_98_1
      refine x_iload rfl ?_
      refine x_goto ?_
      refine x_blk (b := 3) (a_98 E) rfl ?_
      unfold b_98_3
      refine x_iret ?_
      exact k _ (by omega) (by omega) 
    · skip
      refine x_blk (b := 2) (a_98 E) rfl ?_
      unfold b_98_2
      refine x_aload rfl ?_
      refine x_getR (r := 0) rfl (by decide) (by decide) rfl ?_
      refine x_iload rfl ?_
      refine x_cV (fun _ => rfl) rfl (by decide) (Nat.le_of_ble_eq_true rfl) ?_
      refine sf_152_105 (by omega) (by omega) C0 (fun v3 v3a v3b => ?_)
      refine x_fall ?_
      refine x_blk (b := 3) (a_98 E) rfl ?_
      unfold b_98_3
      refine x_iret ?_
      exact k _ (by omega) (by omega) 
theorem sf_140_0 {E : q_E} {σ : x_S} {Q : Option q_V → x_S → Prop} {a1 a2 a3 a4 : Int} (a1l : (-2147483648) ≤ a1) (a1h : a1 ≤ 2147483647) (a2l : (-2147483648) ≤ a2) (a2h : a2 ≤ 2147483647) (a3l : (-2147483648) ≤ a3) (a3h : a3 ≤ 2147483647) (a4l : (-2147483648) ≤ a4) (a4h : a4 ≤ 2147483647) (C0 : y_CI σ) (k : ∀ τ v, y_CI τ → y_fq 92 111 σ τ → (-2147483648) ≤ v → v ≤ 2147483647 → Q (some (x_I v)) τ) : x_P E 140 [x_R 0, x_I a1, x_I a2, x_I a3, x_I a4] σ Q := by
  refine x_Mt e_140 (h_140 E) (Nat.le_of_ble_eq_true rfl) t_140 rfl ?_
  refine x_blk (b := 0) (a_140 E) rfl ?_
  unfold b_140_0
  refine x_iload rfl ?_
  refine x_push 2 rfl ?_
  refine x_cS (fun _ => rfl) (Nat.le_of_ble_eq_true rfl) ?_
  refine sf_2 (by omega) (by omega) (by omega) (by omega) C0 (fun y1 => ?_) (fun y1 => ?_)
  · skip
    refine x_if_eq (by omega) (by omega) (fun z => absurd z (by omega)) (fun z2 => ?_)
    refine x_iload rfl ?_
    refine x_push 3 rfl ?_
    refine x_cS (fun _ => rfl) (Nat.le_of_ble_eq_true rfl) ?_
    refine sf_2 (by omega) (by omega) (by omega) (by omega) C0 (fun y3 => ?_) (fun y3 => ?_)
    · skip
      refine x_if_eq (by omega) (by omega) (fun z => absurd z (by omega)) (fun z4 => ?_)
      refine x_iload rfl ?_
      refine x_push 3 rfl ?_
      refine x_cS (fun _ => rfl) (Nat.le_of_ble_eq_true rfl) ?_
      refine sf_2 (by omega) (by omega) (by omega) (by omega) C0 (fun y5 => ?_) (fun y5 => ?_)
      · skip
        refine x_if_eq (by omega) (by omega) (fun z => absurd z (by omega)) (fun z6 => ?_)
        refine x_iload rfl ?_
        refine x_push (-1) rfl ?_
        refine x_icmp_ge (by omega) (by omega) (by omega) (by omega) (fun z7 => ?_) (fun z7 => ?_)
        · skip
          refine x_fall ?_
          refine x_blk (b := 1) (a_140 E) rfl ?_
          unfold b_140_1
          refine x_push (-1) rfl ?_
          refine x_iret ?_
          exact k _ _ C0 (y_fr_rf (lo := 92) (hi := 111)) (by omega) (by omega) 
        · skip
          refine x_blk (b := 2) (a_140 E) rfl ?_
          unfold b_140_2
          refine x_aload rfl ?_
          refine x_getR (r := 0) rfl (by decide) (by decide) rfl ?_
          refine x_aload rfl ?_
          refine x_getR (r := 0) rfl (by decide) (by decide) rfl ?_
          refine x_iload rfl ?_
          refine x_push 0 rfl ?_
          refine x_cV (fun _ => rfl) rfl (by decide) (Nat.le_of_ble_eq_true rfl) ?_
          refine sf_72_92_4 (by omega) (by omega) (by omega) (by omega) C0 (fun S8 C8 f8 => ?_)
          have F8 := y_fq_tr (by decide) (y_fr_rf (lo := 92) (hi := 111)) f8
          refine x_aload rfl ?_
          refine x_aload rfl ?_
          refine x_getR (r := 0) rfl (by decide) (by decide) rfl ?_
          refine x_aload rfl ?_
          refine x_getR (r := 0) rfl (by decide) (by decide) rfl ?_
          refine x_aload rfl ?_
          refine x_getR (r := 0) rfl (by decide) (by decide) rfl ?_
          refine x_iload rfl ?_
          refine x_iload rfl ?_
          refine x_cV (fun _ => rfl) rfl (by decide) (Nat.le_of_ble_eq_true rfl) ?_
          refine sf_84_105_4_92 (by omega) (by omega) (by omega) (by omega) C8 (fun S9 v9 C9 f9 v9a v9b => ?_)
          have F9 := y_fq_tr (by decide) F8 f9
          refine x_iload rfl ?_
          refine x_cV (fun _ => rfl) rfl (by decide) (Nat.le_of_ble_eq_true rfl) ?_
          refine sf_98_0 (by omega) (by omega) (by omega) (by omega) C9 (fun v10 v10a v10b => ?_)
          refine x_iret ?_
          exact k _ _ C9 F9 (by omega) (by omega) 
      · skip
        refine x_if_eq (by omega) (by omega) (fun z11 => ?_) (fun z => absurd (by omega) z)
        refine x_blk (b := 1) (a_140 E) rfl ?_
        unfold b_140_1
        refine x_push (-1) rfl ?_
        refine x_iret ?_
        exact k _ _ C0 (y_fr_rf (lo := 92) (hi := 111)) (by omega) (by omega) 
    · skip
      refine x_if_eq (by omega) (by omega) (fun z12 => ?_) (fun z => absurd (by omega) z)
      refine x_blk (b := 1) (a_140 E) rfl ?_
      unfold b_140_1
      refine x_push (-1) rfl ?_
      refine x_iret ?_
      exact k _ _ C0 (y_fr_rf (lo := 92) (hi := 111)) (by omega) (by omega) 
  · skip
    refine x_if_eq (by omega) (by omega) (fun z13 => ?_) (fun z => absurd (by omega) z)
    refine x_blk (b := 1) (a_140 E) rfl ?_
    unfold b_140_1
    refine x_push (-1) rfl ?_
    refine x_iret ?_
    exact k _ _ C0 (y_fr_rf (lo := 92) (hi := 111)) (by omega) (by omega) 
theorem sf_73_96_4_b4 {E : q_E} {σ : x_S} {Q : Option q_V → x_S → Prop} {a2 : Int} (a2l : (-2147483648) ≤ a2) (a2h : a2 ≤ 2147483647) (C0 : y_CI σ) (k : ∀ τ, y_CI τ → y_fq 98 100 σ τ → Q none τ) {w : Int} (wL : 0 ≤ w) (wH : w ≤ 39) (ho : ∀ (w' : Int) (τ' : x_S), (w' + 1).toNat < (w + 1).toNat → (-1) ≤ w' → w' ≤ 39 → y_CI τ' → y_fq 98 100 σ τ' → x_G E m_73 Q (t_73 5) [(0, x_R 96), (1, x_R 4), (2, x_I a2), (3, x_I w')] [] τ') : ∀ (N : Nat) (s kq h : Int) (τ : x_S), (2 - h).toNat = N → (-2147483648) ≤ s → s ≤ 2147483647 → (-2147483648) ≤ kq → kq ≤ 2147483647 → 0 ≤ h → h ≤ 2 → y_CI τ → y_fq 98 100 σ τ → x_G E m_73 Q (t_73 4) [(0, x_R 96), (1, x_R 4), (2, x_I a2), (3, x_I w), (4, x_I s), (5, x_I kq), (6, x_I h)] [] τ := by
  intro N
  induction N using Nat.strongRecOn with
  | ind N ih =>
    intro s kq h τ hN sL sH kqL kqH hL hH C F
    refine x_blk (b := 4) (a_73 E) rfl ?_
    unfold b_73_4
    refine x_iload rfl ?_
    refine x_aload rfl ?_
    refine x_getR (r := 96) rfl (by decide) (by decide) rfl ?_
    refine x_iload rfl ?_
    refine x_ialdG y_a97 C (by omega) (by omega) (fun v1 v1a v1b => ?_)
    refine x_cS (fun _ => rfl) (Nat.le_of_ble_eq_true rfl) ?_
    refine sf_7 (by omega) (by omega) C (fun v2 v2a v2b => ?_)
    refine x_icmp_ge (by omega) (by omega) (by omega) (by omega) (fun z3 => ?_) (fun z3 => ?_)
    · skip
      refine x_iload rfl ?_
      refine x_iload rfl ?_
      refine x_iadd ?_
      refine x_wrp (fun v4 v4a v4b => ?_)
      refine x_istore ?_
      refine x_iload rfl ?_
      refine x_aload rfl ?_
      refine x_getIG y_f96_3 C ?_
      intro g5a g5b
      refine x_cS (fun _ => rfl) (Nat.le_of_ble_eq_true rfl) ?_
      refine sf_2 (by omega) (by omega) (by omega) (by omega) C (fun y6 => ?_) (fun y6 => ?_)
      · skip
        refine x_if_eq (by omega) (by omega) (fun z => absurd z (by omega)) (fun z7 => ?_)
        refine x_push 2 rfl ?_
        refine x_iload rfl ?_
        refine x_imul ?_
        refine x_wrp (fun v8 v8a v8b => ?_)
        refine x_aload rfl ?_
        refine x_getR (r := 96) rfl (by decide) (by decide) rfl ?_
        refine x_iload rfl ?_
        refine x_ialdG y_a99 C (by omega) (by omega) (fun v9 v9a v9b => ?_)
        refine x_iadd ?_
        refine x_wrp (fun v10 v10a v10b => ?_)
        refine x_istore ?_
        refine x_X_lo (lo' := [(0, x_R 96), (1, x_R 4), (2, x_I _), (3, x_I _), (4, x_I _), (5, x_I _), (6, x_I _), (7, x_I _)]) ⟨rfl, rfl, rfl, rfl, rfl, rfl, rfl, rfl, trivial⟩ ?_
        refine x_iload rfl ?_
        refine x_aload rfl ?_
        refine x_getR (r := 96) rfl (by decide) (by decide) rfl ?_
        refine x_iload rfl ?_
        refine x_ialdG y_a98 C (by omega) (by omega) (fun v11 v11a v11b => ?_)
        refine x_iadd ?_
        refine x_wrp (fun v12 v12a v12b => ?_)
        refine x_istore ?_
        refine x_fall ?_
        refine x_blk (b := 3) (a_73 E) rfl ?_
        unfold b_73_3
        refine x_iinc 1 rfl rfl ?_
        refine x_X_lo (lo' := [(0, x_R 96), (1, x_R 4), (2, x_I _), (3, x_I _), (4, x_I _), (5, x_I _), (6, x_I _), (7, x_I _)]) ⟨rfl, rfl, rfl, rfl, rfl, rfl, rfl, rfl, trivial⟩ ?_
        refine x_goto ?_
        refine x_G_lo (lo' := [(0, x_R 96), (1, x_R 4), (2, x_I _), (3, x_I _), (4, x_I _), (5, x_I _), (6, x_I _)]) ⟨rfl, rfl, rfl, rfl, rfl, rfl, rfl, trivial⟩ ?_
        exact ih _ (by omega) _ _ _ _ rfl (by omega) (by omega) (by omega) (by omega) (by omega) (by omega)  C F
      · skip
        refine x_if_eq (by omega) (by omega) (fun z13 => ?_) (fun z => absurd (by omega) z)
        refine x_blk (b := 3) (a_73 E) rfl ?_
        unfold b_73_3
        refine x_iinc 1 rfl rfl ?_
        refine x_X_lo (lo' := [(0, x_R 96), (1, x_R 4), (2, x_I _), (3, x_I _), (4, x_I _), (5, x_I _), (6, x_I _), (7, x_I _)]) ⟨rfl, rfl, rfl, rfl, rfl, rfl, rfl, rfl, trivial⟩ ?_
        refine x_goto ?_
        refine x_G_lo (lo' := [(0, x_R 96), (1, x_R 4), (2, x_I _), (3, x_I _), (4, x_I _), (5, x_I _), (6, x_I _)]) ⟨rfl, rfl, rfl, rfl, rfl, rfl, rfl, trivial⟩ ?_
        exact ih _ (by omega) _ _ _ _ rfl (by omega) (by omega) (by omega) (by omega) (by omega) (by omega)  C F
    · skip
      refine x_blk (b := 2) (a_73 E) rfl ?_
      unfold b_73_2
      refine x_aload rfl ?_
      refine x_getR (r := 96) rfl (by decide) (by decide) rfl ?_
      refine x_iload rfl ?_
      refine x_iload rfl ?_
      refine x_astG y_a98 C (by decide) F (by omega) (by omega) (by omega) (by omega) (fun S14 e14 C14 F14 => ?_)
      refine x_aload rfl ?_
      refine x_getR (r := 96) rfl (by decide) (by decide) rfl ?_
      refine x_iload rfl ?_
      refine x_aload rfl ?_
      refine x_iload rfl ?_
      refine x_aload rfl ?_
      refine x_getR (r := 96) rfl (by decide) (by decide) rfl ?_
      refine x_iload rfl ?_
      refine x_ialdG y_a97 C14 (by omega) (by omega) (fun v15 v15a v15b => ?_)
      refine x_iload rfl ?_
      refine x_cV (fun _ => rfl) rfl (by decide) (Nat.le_of_ble_eq_true rfl) ?_
      refine sf_30_4 (by omega) (by omega) (by omega) (by omega) (by omega) (by omega) C14 (fun v16 v16a v16b => ?_)
      refine x_astG y_a99 C14 (by decide) F14 (by omega) (by omega) (by omega) (by omega) (fun S17 e17 C17 F17 => ?_)
      refine x_iinc (-1) rfl rfl ?_
      refine x_goto ?_
      refine x_G_lo (lo' := [(0, x_R 96), (1, x_R 4), (2, x_I _), (3, x_I _)]) ⟨rfl, rfl, rfl, rfl, trivial⟩ ?_
      exact ho _ _ (by omega) (by omega) (by omega)  C17 F17
theorem sf_73_96_4_b5 {E : q_E} {σ : x_S} {Q : Option q_V → x_S → Prop} {a2 : Int} (a2l : (-2147483648) ≤ a2) (a2h : a2 ≤ 2147483647) (C0 : y_CI σ) (k : ∀ τ, y_CI τ → y_fq 98 100 σ τ → Q none τ) : ∀ (N : Nat) (w : Int) (τ : x_S), (w + 1).toNat = N → (-1) ≤ w → w ≤ 39 → y_CI τ → y_fq 98 100 σ τ → x_G E m_73 Q (t_73 5) [(0, x_R 96), (1, x_R 4), (2, x_I a2), (3, x_I w)] [] τ := by
  intro N
  induction N using Nat.strongRecOn with
  | ind N ih =>
    intro w τ hN wL wH C F
    refine x_blk (b := 5) (a_73 E) rfl ?_
    unfold b_73_5
    refine x_iload rfl ?_
    refine x_if_lt (by omega) (by omega) (fun z1 => ?_) (fun z1 => ?_)
    · skip
      refine x_blk (b := 1) (a_73 E) rfl ?_
      unfold b_73_1
      refine x_vret ?_
      exact k _ C F 
    · skip
      refine x_push 1 rfl ?_
      refine x_istore ?_
      refine x_push 0 rfl ?_
      refine x_istore ?_
      refine x_X_lo (lo' := [(0, x_R 96), (1, x_R 4), (2, x_I _), (3, x_I _), (4, x_I _), (5, x_I _)]) ⟨rfl, rfl, rfl, rfl, rfl, rfl, trivial⟩ ?_
      refine x_push 0 rfl ?_
      refine x_istore ?_
      refine x_fall ?_
      refine x_G_lo (lo' := [(0, x_R 96), (1, x_R 4), (2, x_I _), (3, x_I _), (4, x_I _), (5, x_I _), (6, x_I _)]) ⟨rfl, rfl, rfl, rfl, rfl, rfl, rfl, trivial⟩ ?_
      exact sf_73_96_4_b4 a2l a2h C0 k (by omega) (by omega) (fun x0 t z h0 h1 c f => ih _ (by omega) x0 t rfl h0 h1 c f) _ _ _ _ _ rfl (by omega) (by omega) (by omega) (by omega) (by omega) (by omega)  C F
theorem sf_73_96_4 {E : q_E} {σ : x_S} {Q : Option q_V → x_S → Prop} {a2 : Int} (a2l : (-2147483648) ≤ a2) (a2h : a2 ≤ 2147483647) (C0 : y_CI σ) (k : ∀ τ, y_CI τ → y_fq 98 100 σ τ → Q none τ) : x_P E 73 [x_R 96, x_R 4, x_I a2] σ Q := by
  refine x_Mt e_73 (h_73 E) (Nat.le_of_ble_eq_true rfl) t_73 rfl ?_
  refine x_blk (b := 0) (a_73 E) rfl ?_
  unfold b_73_0
  refine x_aload rfl ?_
  refine x_getIG y_f96_3 C0 ?_
  intro g1a g1b
  refine x_push 1 rfl ?_
  refine x_isub ?_
  refine x_istore ?_
  refine x_fall ?_
  refine x_G_lo (lo' := [(0, x_R 96), (1, x_R 4), (2, x_I _), (3, x_I _)]) ⟨rfl, rfl, rfl, rfl, trivial⟩ ?_
  exact sf_73_96_4_b5 a2l a2h C0 k  _ _ _ rfl (by omega) (by omega)  C0 (y_fr_rf (lo := 98) (hi := 100))
theorem sf_154_96_4_106 {E : q_E} {σ : x_S} {Q : Option q_V → x_S → Prop} {a3 : Int} (a3l : (-2147483648) ≤ a3) (a3h : a3 ≤ 2147483647) (C0 : y_CI σ) (k : ∀ τ, y_CI τ → y_fq 96 100 σ τ → Q none τ) : x_P E 154 [x_R 96, x_R 4, x_R 106, x_I a3] σ Q := by
  refine x_Mt e_154 (h_154 E) (Nat.le_of_ble_eq_true rfl) t_154 rfl ?_
  refine x_blk (b := 0) (a_154 E) rfl ?_
  unfold b_154_0
  refine x_aload rfl ?_
  refine x_push 0 rfl ?_
  refine x_iload rfl ?_
  refine x_aload rfl ?_
  refine x_lenG (n := 40) (L := 40) rfl (by decide) rfl (by decide) rfl ?_
  refine x_min (by omega) (by omega) (by omega) (by omega) (Nat.le_of_ble_eq_true rfl) (fun v1 v1a v1b v1c => ?_)
  refine x_push 40 rfl ?_
  refine x_min (by omega) (by omega) (by omega) (by omega) (Nat.le_of_ble_eq_true rfl) (fun v2 v2a v2b v2c => ?_)
  refine x_max (by omega) (by omega) (by omega) (by omega) (Nat.le_of_ble_eq_true rfl) (fun v3 v3a v3b v3c => ?_)
  refine x_putIG y_f96_3 ⟨by decide, rfl⟩ (by decide) C0 (by decide) (y_fr_rf (lo := 96) (hi := 100)) (by omega) (by omega) (fun S4 e4 C4 F4 => ?_)
  refine x_aload rfl ?_
  refine x_push 0 rfl ?_
  refine x_aload rfl ?_
  refine x_getR (r := 96) rfl (by decide) (by decide) rfl ?_
  refine x_push 0 rfl ?_
  refine x_aload rfl ?_
  refine x_getIG y_f96_3 C4 ?_
  intro g5a g5b
  have w5 := x_up_at e4
  refine x_copyG y_a106 y_a97 (by decide) (by decide) C4 (by decide) F4 (by omega) (by omega) (by omega) (by omega) (by omega) (Nat.le_of_ble_eq_true rfl) (fun S6 e6 C6 F6 => ?_)
  refine x_aload rfl ?_
  refine x_aload rfl ?_
  refine x_push 0 rfl ?_
  refine x_cV (fun _ => rfl) rfl (by decide) (Nat.le_of_ble_eq_true rfl) ?_
  refine sf_73_96_4 (by omega) (by omega) C6 (fun S7 C7 f7 => ?_)
  have F7 := y_fq_tr (by decide) F6 f7
  refine x_vret ?_
  exact k _ C7 F7 
theorem sf_85_96_4 {E : q_E} {σ : x_S} {Q : Option q_V → x_S → Prop} {a2 : Int} (a2l : (-2147483648) ≤ a2) (a2h : a2 ≤ 2147483647) (C0 : y_CI σ) (k : ∀ v, (-4) ≤ v → v ≤ 15 → Q (some (x_I v)) σ) : x_P E 85 [x_R 96, x_R 4, x_I a2] σ Q := by
  refine x_Mt e_85 (h_85 E) (Nat.le_of_ble_eq_true rfl) t_85 rfl ?_
  refine x_blk (b := 0) (a_85 E) rfl ?_
  unfold b_85_0
  refine x_iload rfl ?_
  refine x_aload rfl ?_
  refine x_getIG y_f96_3 C0 ?_
  intro g1a g1b
  refine x_cS (fun _ => rfl) (Nat.le_of_ble_eq_true rfl) ?_
  refine sf_2 (by omega) (by omega) (by omega) (by omega) C0 (fun y2 => ?_) (fun y2 => ?_)
  · skip
    refine x_if_eq (by omega) (by omega) (fun z => absurd z (by omega)) (fun z3 => ?_)
    refine x_aload rfl ?_
    refine x_getR (r := 96) rfl (by decide) (by decide) rfl ?_
    refine x_iload rfl ?_
    refine x_ialdG y_a97 C0 (by omega) (by omega) (fun v4 v4a v4b => ?_)
    refine x_goto ?_
    refine x_blk (b := 2) (a_85 E) rfl ?_
    unfold b_85_2
    refine x_iret ?_
    exact k _ (by omega) (by omega) 
  · skip
    refine x_if_eq (by omega) (by omega) (fun z5 => ?_) (fun z => absurd (by omega) z)
    refine x_blk (b := 1) (a_85 E) rfl ?_
    unfold b_85_1
    refine x_push (-4) rfl ?_
    refine x_fall ?_
    refine x_blk (b := 2) (a_85 E) rfl ?_
    unfold b_85_2
    refine x_iret ?_
    exact k _ (by omega) (by omega) 
theorem sf_142_96_4 {E : q_E} {σ : x_S} {Q : Option q_V → x_S → Prop} {a2 a3 : Int} (a2l : (-2147483648) ≤ a2) (a2h : a2 ≤ 2147483647) (a3l : (-2147483648) ≤ a3) (a3h : a3 ≤ 2147483647) (C0 : y_CI σ) (k : ∀ v, (-2147483648) ≤ v → v ≤ 2147483647 → Q (some (x_I v)) σ) : x_P E 142 [x_R 96, x_R 4, x_I a2, x_I a3] σ Q := by
  refine x_Mt e_142 (h_142 E) (Nat.le_of_ble_eq_true rfl) t_142 rfl ?_
  refine x_blk (b := 0) (a_142 E) rfl ?_
  unfold b_142_0
  refine x_iload rfl ?_
  refine x_push 1 rfl ?_
  refine x_iadd ?_
  refine x_wrp (fun v1 v1a v1b => ?_)
  refine x_istore ?_
  refine x_iload rfl ?_
  refine x_if_eq (by omega) (by omega) (fun z2 => ?_) (fun z2 => ?_)
  · skip
    refine x_blk (b := 1) (a_142 E) rfl ?_
    unfold b_142_1
    refine x_iload rfl ?_
    refine x_goto ?_
    refine x_blk (b := 3) (a_142 E) rfl ?_
    unfold b_142_3
    refine x_iret ?_
    exact k _ (by omega) (by omega) 
  · skip
    refine x_iload rfl ?_
    refine x_aload rfl ?_
    refine x_getIG y_f96_3 C0 ?_
    intro g3a g3b
    refine x_cS (fun _ => rfl) (Nat.le_of_ble_eq_true rfl) ?_
    refine sf_2 (by omega) (by omega) (by omega) (by omega) C0 (fun y4 => ?_) (fun y4 => ?_)
    · skip
      refine x_if_ne (by omega) (by omega) (fun z => absurd z (by omega)) (fun z5 => ?_)
      refine x_blk (b := 2) (a_142 E) rfl ?_
      unfold b_142_2
      refine x_iload rfl ?_
      refine x_aload rfl ?_
      refine x_getR (r := 96) rfl (by decide) (by decide) rfl ?_
      refine x_iload rfl ?_
      refine x_ialdG y_a98 C0 (by omega) (by omega) (fun v6 v6a v6b => ?_)
      refine x_iadd ?_
      refine x_wrp (fun v7 v7a v7b => ?_)
      refine x_fall ?_
      refine x_blk (b := 3) (a_142 E) rfl ?_
      unfold b_142_3
      refine x_iret ?_
      exact k _ (by omega) (by omega) 
    · skip
      refine x_if_ne (by omega) (by omega) (fun z8 => ?_) (fun z => absurd (by omega) z)
      refine x_fall ?_
      refine x_blk (b := 1) (a_142 E) rfl ?_
      unfold b_142_1
      refine x_iload rfl ?_
      refine x_goto ?_
      refine x_blk (b := 3) (a_142 E) rfl ?_
      unfold b_142_3
      refine x_iret ?_
      exact k _ (by omega) (by omega) 
theorem sf_91_96 {E : q_E} {σ : x_S} {Q : Option q_V → x_S → Prop} {a1 : Int} (a1l : (-2147483648) ≤ a1) (a1h : a1 ≤ 2147483647) (C0 : y_CI σ) (k : ∀ v, (-2147483648) ≤ v → v ≤ 2147483647 → Q (some (x_I v)) σ) : x_P E 91 [x_R 96, x_I a1] σ Q := by
  refine x_Mt e_91 (h_91 E) (Nat.le_of_ble_eq_true rfl) t_91 rfl ?_
  refine x_blk (b := 0) (a_91 E) rfl ?_
  unfold b_91_0
  refine x_iload rfl ?_
  refine x_iret ?_
  exact k _ (by omega) (by omega) 
theorem sf_74_96 {E : q_E} {σ : x_S} {Q : Option q_V → x_S → Prop} {a1 : Int} (a1l : (-2147483648) ≤ a1) (a1h : a1 ≤ 2147483647) (C0 : y_CI σ) (k : ∀ v, 0 ≤ v → v ≤ 1 → Q (some (x_I v)) σ) : x_P E 74 [x_R 96, x_I a1] σ Q := by
  refine x_Mt e_74 (h_74 E) (Nat.le_of_ble_eq_true rfl) t_74 rfl ?_
  refine x_blk (b := 0) (a_74 E) rfl ?_
  unfold b_74_0
  refine x_iload rfl ?_
  refine x_aload rfl ?_
  refine x_getIG y_f96_3 C0 ?_
  intro g1a g1b
  refine x_cS (fun _ => rfl) (Nat.le_of_ble_eq_true rfl) ?_
  refine sf_2 (by omega) (by omega) (by omega) (by omega) C0 (fun y2 => ?_) (fun y2 => ?_)
  · skip
    refine x_if_eq (by omega) (by omega) (fun z => absurd z (by omega)) (fun z3 => ?_)
    refine x_aload rfl ?_
    refine x_getR (r := 96) rfl (by decide) (by decide) rfl ?_
    refine x_iload rfl ?_
    refine x_ialdG y_a99 C0 (by omega) (by omega) (fun v4 v4a v4b => ?_)
    refine x_goto ?_
    refine x_blk (b := 2) (a_74 E) rfl ?_
    unfold b_74_2
    refine x_iret ?_
    exact k _ (by omega) (by omega) 
  · skip
    refine x_if_eq (by omega) (by omega) (fun z5 => ?_) (fun z => absurd (by omega) z)
    refine x_blk (b := 1) (a_74 E) rfl ?_
    unfold b_74_1
    refine x_push 0 rfl ?_
    refine x_fall ?_
    refine x_blk (b := 2) (a_74 E) rfl ?_
    unfold b_74_2
    refine x_iret ?_
    exact k _ (by omega) (by omega) 
theorem sf_86_105_4_96 {E : q_E} {σ : x_S} {Q : Option q_V → x_S → Prop} {a3 a4 a5 : Int} (a3l : (-2147483648) ≤ a3) (a3h : a3 ≤ 2147483647) (a4l : (-2147483648) ≤ a4) (a4h : a4 ≤ 2147483647) (a5l : (-2147483648) ≤ a5) (a5h : a5 ≤ 2147483647) (C0 : y_CI σ) (k : ∀ τ v, y_CI τ → y_fq 105 111 σ τ → (-2147483648) ≤ v → v ≤ 2147483647 → Q (some (x_I v)) τ) : x_P E 86 [x_R 105, x_R 4, x_R 96, x_I a3, x_I a4, x_I a5] σ Q := by
  refine x_Mt e_86 (h_86 E) (Nat.le_of_ble_eq_true rfl) t_86 rfl ?_
  refine x_blk (b := 0) (a_86 E) rfl ?_
  unfold b_86_0
  refine x_iload rfl ?_
  refine x_if_ge (by omega) (by omega) (fun z1 => ?_) (fun z1 => ?_)
  · skip
    refine x_iload rfl ?_
    refine x_iret ?_
    exact k _ _ C0 (y_fr_rf (lo := 105) (hi := 111)) (by omega) (by omega) 
  · skip
    refine x_blk (b := 1) (a_86 E) rfl ?_
    unfold b_86_1
    refine x_aload rfl ?_
    refine x_iload rfl ?_
    refine x_cU1 (fun _ => rfl) rfl (by decide) (Nat.le_of_ble_eq_true rfl) ?_
    refine sf_91_96 (by omega) (by omega) C0 (fun v2 v2a v2b => ?_)
    refine x_istore ?_
    refine x_iload rfl ?_
    refine x_push 40 rfl ?_
    refine x_cS (fun _ => rfl) (Nat.le_of_ble_eq_true rfl) ?_
    refine sf_2 (by omega) (by omega) (by omega) (by omega) C0 (fun y3 => ?_) (fun y3 => ?_)
    · skip
      refine x_if_eq (by omega) (by omega) (fun z => absurd z (by omega)) (fun z4 => ?_)
      refine x_aload rfl ?_
      refine x_getR (r := 105) rfl (by decide) (by decide) rfl ?_
      refine x_iload rfl ?_
      refine x_dup2 rfl rfl ?_
      refine x_ialdG y_a107 C0 (by omega) (by omega) (fun v5 v5a v5b => ?_)
      refine x_push 1 rfl ?_
      refine x_iadd ?_
      refine x_wrp (fun v6 v6a v6b => ?_)
      refine x_astG y_a107 C0 (by decide) (y_fr_rf (lo := 105) (hi := 111)) (by omega) (by omega) (by omega) (by omega) (fun S7 e7 C7 F7 => ?_)
      refine x_fall ?_
      refine x_blk (b := 2) (a_86 E) rfl ?_
      unfold b_86_2
      refine x_aload rfl ?_
      refine x_iload rfl ?_
      refine x_iload rfl ?_
      refine x_aload rfl ?_
      refine x_aload rfl ?_
      refine x_iload rfl ?_
      refine x_cU1 (fun _ => rfl) rfl (by decide) (Nat.le_of_ble_eq_true rfl) ?_
      refine sf_85_96_4 (by omega) (by omega) C7 (fun v8 v8a v8b => ?_)
      refine x_aload rfl ?_
      refine x_iload rfl ?_
      refine x_cU1 (fun _ => rfl) rfl (by decide) (Nat.le_of_ble_eq_true rfl) ?_
      refine sf_74_96 (by omega) (by omega) C7 (fun v9 v9a v9b => ?_)
      refine x_cV (fun _ => rfl) rfl (by decide) (Nat.le_of_ble_eq_true rfl) ?_
      refine sf_46_4 (by omega) (by omega) (by omega) (by omega) (by omega) (by omega) (by omega) (by omega) C7 (fun v10 v10a v10b => ?_)
      refine x_istore ?_
      refine x_X_lo (lo' := [(0, x_R 105), (1, x_R 4), (2, x_R 96), (3, x_I _), (4, x_I _), (5, x_I _), (6, x_I _), (7, x_I _)]) ⟨rfl, rfl, rfl, rfl, rfl, rfl, rfl, rfl, trivial⟩ ?_
      refine x_iload rfl ?_
      refine x_if_ge (by omega) (by omega) (fun z11 => ?_) (fun z11 => ?_)
      · skip
        refine x_push (-10) rfl ?_
        refine x_iload rfl ?_
        refine x_isub ?_
        refine x_iret ?_
        exact k _ _ C7 F7 (by omega) (by omega) 
      · skip
        refine x_blk (b := 3) (a_86 E) rfl ?_
        unfold b_86_3
        refine x_aload rfl ?_
        refine x_getIG y_f105_6 C7 ?_
        have q12_0 : S7 105 6 = σ 105 6 := x_up_nr e7 (by decide)
        simp only [q12_0]
        intro g12a g12b
        refine x_push 80 rfl ?_
        refine x_cS (fun _ => rfl) (Nat.le_of_ble_eq_true rfl) ?_
        refine sf_2 (by omega) (by omega) (by omega) (by omega) C7 (fun y13 => ?_) (fun y13 => ?_)
        · skip
          refine x_if_ne (by omega) (by omega) (fun z => absurd z (by omega)) (fun z14 => ?_)
          refine x_blk (b := 4) (a_86 E) rfl ?_
          unfold b_86_4
          refine x_aload rfl ?_
          refine x_getR (r := 105) rfl (by decide) (by decide) rfl ?_
          refine x_aload rfl ?_
          refine x_getIG y_f105_6 C7 ?_
          have q15_0 : S7 105 6 = σ 105 6 := x_up_nr e7 (by decide)
          simp only [q15_0]
          intro g15a g15b
          refine x_iload rfl ?_
          refine x_astG y_a108 C7 (by decide) F7 (by omega) (by omega) (by omega) (by omega) (fun S16 e16 C16 F16 => ?_)
          refine x_aload rfl ?_
          refine x_getR (r := 105) rfl (by decide) (by decide) rfl ?_
          refine x_aload rfl ?_
          refine x_getIG y_f105_6 C16 ?_
          have q17_0 : S16 105 6 = S7 105 6 := x_up_nr e16 (by decide)
          have q17_1 : S7 105 6 = σ 105 6 := x_up_nr e7 (by decide)
          simp only [q17_0, q17_1]
          intro g17a g17b
          refine x_iload rfl ?_
          refine x_astG y_a109 C16 (by decide) F16 (by omega) (by omega) (by omega) (by omega) (fun S18 e18 C18 F18 => ?_)
          refine x_aload rfl ?_
          refine x_getR (r := 105) rfl (by decide) (by decide) rfl ?_
          refine x_aload rfl ?_
          refine x_getIG y_f105_6 C18 ?_
          have q19_0 : S18 105 6 = S16 105 6 := x_up_nr e18 (by decide)
          have q19_1 : S16 105 6 = S7 105 6 := x_up_nr e16 (by decide)
          have q19_2 : S7 105 6 = σ 105 6 := x_up_nr e7 (by decide)
          simp only [q19_0, q19_1, q19_2]
          intro g19a g19b
          refine x_push 0 rfl ?_
          refine x_astG y_a110 C18 (by decide) F18 (by omega) (by omega) (by omega) (by omega) (fun S20 e20 C20 F20 => ?_)
          refine x_aload rfl ?_
          refine x_dup rfl ?_
          refine x_getIG y_f105_6 C20 ?_
          have q21_0 : S20 105 6 = S18 105 6 := x_up_nr e20 (by decide)
          have q21_1 : S18 105 6 = S16 105 6 := x_up_nr e18 (by decide)
          have q21_2 : S16 105 6 = S7 105 6 := x_up_nr e16 (by decide)
          have q21_3 : S7 105 6 = σ 105 6 := x_up_nr e7 (by decide)
          simp only [q21_0, q21_1, q21_2, q21_3]
          intro g21a g21b
          refine x_push 1 rfl ?_
          refine x_iadd ?_
          refine x_putIG y_f105_6 ⟨by decide, rfl⟩ (by decide) C20 (by decide) F20 (by omega) (by omega) (fun S22 e22 C22 F22 => ?_)
          refine x_push 0 rfl ?_
          refine x_iret ?_
          exact k _ _ C22 F22 (by omega) (by omega) 
        · skip
          refine x_if_ne (by omega) (by omega) (fun z23 => ?_) (fun z => absurd (by omega) z)
          refine x_push (-3) rfl ?_
          refine x_iret ?_
          exact k _ _ C7 F7 (by omega) (by omega) 
    · skip
      refine x_if_eq (by omega) (by omega) (fun z24 => ?_) (fun z => absurd (by omega) z)
      refine x_blk (b := 2) (a_86 E) rfl ?_
      unfold b_86_2
      refine x_aload rfl ?_
      refine x_iload rfl ?_
      refine x_iload rfl ?_
      refine x_aload rfl ?_
      refine x_aload rfl ?_
      refine x_iload rfl ?_
      refine x_cU1 (fun _ => rfl) rfl (by decide) (Nat.le_of_ble_eq_true rfl) ?_
      refine sf_85_96_4 (by omega) (by omega) C0 (fun v25 v25a v25b => ?_)
      refine x_aload rfl ?_
      refine x_iload rfl ?_
      refine x_cU1 (fun _ => rfl) rfl (by decide) (Nat.le_of_ble_eq_true rfl) ?_
      refine sf_74_96 (by omega) (by omega) C0 (fun v26 v26a v26b => ?_)
      refine x_cV (fun _ => rfl) rfl (by decide) (Nat.le_of_ble_eq_true rfl) ?_
      refine sf_46_4 (by omega) (by omega) (by omega) (by omega) (by omega) (by omega) (by omega) (by omega) C0 (fun v27 v27a v27b => ?_)
      refine x_istore ?_
      refine x_X_lo (lo' := [(0, x_R 105), (1, x_R 4), (2, x_R 96), (3, x_I _), (4, x_I _), (5, x_I _), (6, x_I _), (7, x_I _)]) ⟨rfl, rfl, rfl, rfl, rfl, rfl, rfl, rfl, trivial⟩ ?_
      refine x_iload rfl ?_
      refine x_if_ge (by omega) (by omega) (fun z28 => ?_) (fun z28 => ?_)
      · skip
        refine x_push (-10) rfl ?_
        refine x_iload rfl ?_
        refine x_isub ?_
        refine x_wrp (fun v29 v29a v29b => ?_)
        refine x_iret ?_
        exact k _ _ C0 (y_fr_rf (lo := 105) (hi := 111)) (by omega) (by omega) 
      · skip
        refine x_blk (b := 3) (a_86 E) rfl ?_
        unfold b_86_3
        refine x_aload rfl ?_
        refine x_getIG y_f105_6 C0 ?_
        intro g30a g30b
        refine x_push 80 rfl ?_
        refine x_cS (fun _ => rfl) (Nat.le_of_ble_eq_true rfl) ?_
        refine sf_2 (by omega) (by omega) (by omega) (by omega) C0 (fun y31 => ?_) (fun y31 => ?_)
        · skip
          refine x_if_ne (by omega) (by omega) (fun z => absurd z (by omega)) (fun z32 => ?_)
          refine x_blk (b := 4) (a_86 E) rfl ?_
          unfold b_86_4
          refine x_aload rfl ?_
          refine x_getR (r := 105) rfl (by decide) (by decide) rfl ?_
          refine x_aload rfl ?_
          refine x_getIG y_f105_6 C0 ?_
          intro g33a g33b
          refine x_iload rfl ?_
          refine x_astG y_a108 C0 (by decide) (y_fr_rf (lo := 105) (hi := 111)) (by omega) (by omega) (by omega) (by omega) (fun S34 e34 C34 F34 => ?_)
          refine x_aload rfl ?_
          refine x_getR (r := 105) rfl (by decide) (by decide) rfl ?_
          refine x_aload rfl ?_
          refine x_getIG y_f105_6 C34 ?_
          have q35_0 : S34 105 6 = σ 105 6 := x_up_nr e34 (by decide)
          simp only [q35_0]
          intro g35a g35b
          refine x_iload rfl ?_
          refine x_astG y_a109 C34 (by decide) F34 (by omega) (by omega) (by omega) (by omega) (fun S36 e36 C36 F36 => ?_)
          refine x_aload rfl ?_
          refine x_getR (r := 105) rfl (by decide) (by decide) rfl ?_
          refine x_aload rfl ?_
          refine x_getIG y_f105_6 C36 ?_
          have q37_0 : S36 105 6 = S34 105 6 := x_up_nr e36 (by decide)
          have q37_1 : S34 105 6 = σ 105 6 := x_up_nr e34 (by decide)
          simp only [q37_0, q37_1]
          intro g37a g37b
          refine x_push 0 rfl ?_
          refine x_astG y_a110 C36 (by decide) F36 (by omega) (by omega) (by omega) (by omega) (fun S38 e38 C38 F38 => ?_)
          refine x_aload rfl ?_
          refine x_dup rfl ?_
          refine x_getIG y_f105_6 C38 ?_
          have q39_0 : S38 105 6 = S36 105 6 := x_up_nr e38 (by decide)
          have q39_1 : S36 105 6 = S34 105 6 := x_up_nr e36 (by decide)
          have q39_2 : S34 105 6 = σ 105 6 := x_up_nr e34 (by decide)
          simp only [q39_0, q39_1, q39_2]
          intro g39a g39b
          refine x_push 1 rfl ?_
          refine x_iadd ?_
          refine x_putIG y_f105_6 ⟨by decide, rfl⟩ (by decide) C38 (by decide) F38 (by omega) (by omega) (fun S40 e40 C40 F40 => ?_)
          refine x_push 0 rfl ?_
          refine x_iret ?_
          exact k _ _ C40 F40 (by omega) (by omega) 
        · skip
          refine x_if_ne (by omega) (by omega) (fun z41 => ?_) (fun z => absurd (by omega) z)
          refine x_push (-3) rfl ?_
          refine x_iret ?_
          exact k _ _ C0 (y_fr_rf (lo := 105) (hi := 111)) (by omega) (by omega) 
theorem sf_148_105_4_96 {E : q_E} {σ : x_S} {Q : Option q_V → x_S → Prop} {a3 : Int} (a3l : (-2147483648) ≤ a3) (a3h : a3 ≤ 2147483647) (C0 : y_CI σ) (k : ∀ τ v, y_CI τ → y_fq 105 111 σ τ → (-2147483648) ≤ v → v ≤ 2147483647 → Q (some (x_I v)) τ) : x_P E 148 [x_R 105, x_R 4, x_R 96, x_I a3] σ Q := by
  refine x_Mt e_148 (h_148 E) (Nat.le_of_ble_eq_true rfl) t_148 rfl ?_
  refine x_blk (b := 0) (a_148 E) rfl ?_
  unfold b_148_0
  refine x_aload rfl ?_
  refine x_getIG y_f105_6 C0 ?_
  intro g1a g1b
  refine x_push 1 rfl ?_
  refine x_isub ?_
  refine x_istore ?_
  refine x_iload rfl ?_
  refine x_push 80 rfl ?_
  refine x_cS (fun _ => rfl) (Nat.le_of_ble_eq_true rfl) ?_
  refine sf_2 (by omega) (by omega) (by omega) (by omega) C0 (fun y2 => ?_) (fun y2 => ?_)
  · skip
    refine x_if_ne (by omega) (by omega) (fun z => absurd z (by omega)) (fun z3 => ?_)
    refine x_blk (b := 1) (a_148 E) rfl ?_
    unfold b_148_1
    refine x_aload rfl ?_
    refine x_aload rfl ?_
    refine x_getR (r := 105) rfl (by decide) (by decide) rfl ?_
    refine x_iload rfl ?_
    refine x_ialdG y_a109 C0 (by omega) (by omega) (fun v4 v4a v4b => ?_)
    refine x_aload rfl ?_
    refine x_getR (r := 105) rfl (by decide) (by decide) rfl ?_
    refine x_iload rfl ?_
    refine x_ialdG y_a110 C0 (by omega) (by omega) (fun v5 v5a v5b => ?_)
    refine x_cV (fun _ => rfl) rfl (by decide) (Nat.le_of_ble_eq_true rfl) ?_
    refine sf_53_4 (by omega) (by omega) (by omega) (by omega) C0 (fun v6 v6a v6b => ?_)
    refine x_istore ?_
    refine x_X_lo (lo' := [(0, x_R 105), (1, x_R 4), (2, x_R 96), (3, x_I _), (4, x_I _), (5, x_I _)]) ⟨rfl, rfl, rfl, rfl, rfl, rfl, trivial⟩ ?_
    refine x_iload rfl ?_
    refine x_push (-4) rfl ?_
    refine x_icmp_ne (by omega) (by omega) (by omega) (by omega) (fun z7 => ?_) (fun z7 => ?_)
    · skip
      refine x_aload rfl ?_
      refine x_dup rfl ?_
      refine x_getIG y_f105_6 C0 ?_
      intro g8a g8b
      refine x_push 1 rfl ?_
      refine x_isub ?_
      refine x_putIG y_f105_6 ⟨by decide, rfl⟩ (by decide) C0 (by decide) (y_fr_rf (lo := 105) (hi := 111)) (by omega) (by omega) (fun S9 e9 C9 F9 => ?_)
      refine x_push 0 rfl ?_
      refine x_iret ?_
      exact k _ _ C9 F9 (by omega) (by omega) 
    · skip
      refine x_blk (b := 2) (a_148 E) rfl ?_
      unfold b_148_2
      refine x_aload rfl ?_
      refine x_getR (r := 105) rfl (by decide) (by decide) rfl ?_
      refine x_iload rfl ?_
      refine x_dup2 rfl rfl ?_
      refine x_ialdG y_a110 C0 (by omega) (by omega) (fun v10 v10a v10b => ?_)
      refine x_push 1 rfl ?_
      refine x_iadd ?_
      refine x_wrp (fun v11 v11a v11b => ?_)
      refine x_astG y_a110 C0 (by decide) (y_fr_rf (lo := 105) (hi := 111)) (by omega) (by omega) (by omega) (by omega) (fun S12 e12 C12 F12 => ?_)
      refine x_iload rfl ?_
      refine x_push 10 rfl ?_
      refine x_icmp_ge (by omega) (by omega) (by omega) (by omega) (fun z13 => ?_) (fun z13 => ?_)
      · skip
        refine x_aload rfl ?_
        refine x_iload rfl ?_
        refine x_cV (fun _ => rfl) rfl (by decide) (Nat.le_of_ble_eq_true rfl) ?_
        refine sf_149_105 (by omega) (by omega) C12 (fun S14 v14 C14 f14 v14a v14b => ?_)
        have F14 := y_fq_tr (by decide) F12 f14
        refine x_iret ?_
        exact k _ _ C14 F14 (by omega) (by omega) 
      · skip
        refine x_blk (b := 3) (a_148 E) rfl ?_
        unfold b_148_3
        refine x_aload rfl ?_
        refine x_getR (r := 105) rfl (by decide) (by decide) rfl ?_
        refine x_iload rfl ?_
        refine x_ialdG y_a108 C12 (by omega) (by omega) (fun v15 v15a v15b => ?_)
        refine x_istore ?_
        refine x_aload rfl ?_
        refine x_iload rfl ?_
        refine x_aload rfl ?_
        refine x_aload rfl ?_
        refine x_iload rfl ?_
        refine x_cU1 (fun _ => rfl) rfl (by decide) (Nat.le_of_ble_eq_true rfl) ?_
        refine sf_85_96_4 (by omega) (by omega) C12 (fun v16 v16a v16b => ?_)
        refine x_iload rfl ?_
        refine x_cV (fun _ => rfl) rfl (by decide) (Nat.le_of_ble_eq_true rfl) ?_
        refine sf_69_4 (by omega) (by omega) (by omega) (by omega) (by omega) (by omega) C12 (fun v17 v17a v17b => ?_)
        refine x_istore ?_
        refine x_X_lo (lo' := [(0, x_R 105), (1, x_R 4), (2, x_R 96), (3, x_I _), (4, x_I _), (5, x_I _), (6, x_I _), (7, x_I _)]) ⟨rfl, rfl, rfl, rfl, rfl, rfl, rfl, rfl, trivial⟩ ?_
        refine x_aload rfl ?_
        refine x_aload rfl ?_
        refine x_aload rfl ?_
        refine x_iload rfl ?_
        refine x_iload rfl ?_
        refine x_cS (fun _ => rfl) (Nat.le_of_ble_eq_true rfl) ?_
        refine sf_68 (by omega) (by omega) C12 (fun v18 v18a v18b => ?_)
        refine x_aload rfl ?_
        refine x_aload rfl ?_
        refine x_iload rfl ?_
        refine x_iload rfl ?_
        refine x_cU1 (fun _ => rfl) rfl (by decide) (Nat.le_of_ble_eq_true rfl) ?_
        refine sf_142_96_4 (by omega) (by omega) (by omega) (by omega) C12 (fun v19 v19a v19b => ?_)
        refine x_cV (fun _ => rfl) rfl (by decide) (Nat.le_of_ble_eq_true rfl) ?_
        refine sf_86_105_4_96 (by omega) (by omega) (by omega) (by omega) (by omega) (by omega) C12 (fun S20 v20 C20 f20 v20a v20b => ?_)
        have F20 := y_fq_tr (by decide) F12 f20
        refine x_iret ?_
        exact k _ _ C20 F20 (by omega) (by omega) 
  · skip
    refine x_if_ne (by omega) (by omega) (fun z21 => ?_) (fun z => absurd (by omega) z)
    refine x_push (-3) rfl ?_
    refine x_iret ?_
    exact k _ _ C0 (y_fr_rf (lo := 105) (hi := 111)) (by omega) (by omega) 
theorem sf_90_96_4 {E : q_E} {σ : x_S} {Q : Option q_V → x_S → Prop} (C0 : y_CI σ) (k : ∀ v, 0 ≤ v → v ≤ 0 → Q (some (x_I v)) σ) : x_P E 90 [x_R 96, x_R 4] σ Q := by
  refine x_Mt e_90 (h_90 E) (Nat.le_of_ble_eq_true rfl) t_90 rfl ?_
  refine x_blk (b := 0) (a_90 E) rfl ?_
  unfold b_90_0
  refine x_push 0 rfl ?_
  refine x_iret ?_
  exact k _ (by omega) (by omega) 
theorem sf_84_105_4_96_b2 {E : q_E} {σ : x_S} {Q : Option q_V → x_S → Prop} {a3 a4 : Int} (a3l : (-2147483648) ≤ a3) (a3h : a3 ≤ 2147483647) (a4l : (-2147483648) ≤ a4) (a4h : a4 ≤ 2147483647) (C0 : y_CI σ) (k : ∀ τ v, y_CI τ → y_fq 105 111 σ τ → (-2147483648) ≤ v → v ≤ 2147483647 → Q (some (x_I v)) τ) : ∀ (N : Nat) (s n : Int) (τ : x_S), (100000 - n).toNat = N → (-2147483648) ≤ s → s ≤ 2147483647 → 0 ≤ n → n ≤ 100000 → y_CI τ → y_fq 105 111 σ τ → x_G E m_84 Q (t_84 2) [(0, x_R 105), (1, x_R 4), (2, x_R 96), (3, x_I a3), (4, x_I a4), (5, x_I s), (6, x_I n)] [] τ := by
  intro N
  induction N using Nat.strongRecOn with
  | ind N ih =>
    intro s n τ hN sL sH nL nH C F
    refine x_blk (b := 2) (a_84 E) rfl ?_
    unfold b_84_2
    refine x_iload rfl ?_
    refine x_push 100000 rfl ?_
    refine x_icmp_ge (by omega) (by omega) (by omega) (by omega) (fun z1 => ?_) (fun z1 => ?_)
    · skip
      refine x_iload rfl ?_
      refine x_if_ne (by omega) (by omega) (fun z2 => ?_) (fun z2 => ?_)
      · skip
        refine x_aload rfl ?_
        refine x_getIG y_f105_6 C ?_
        intro g3a g3b
        refine x_if_le (by omega) (by omega) (fun z4 => ?_) (fun z4 => ?_)
        · skip
          refine x_blk (b := 1) (a_84 E) rfl ?_
          unfold b_84_1
          refine x_iload rfl ?_
          refine x_if_ge (by omega) (by omega) (fun z => absurd z (by omega)) (fun z5 => ?_)
          refine x_blk (b := 3) (a_84 E) rfl ?_
          unfold b_84_3
          refine x_aload rfl ?_
          refine x_getIG y_f105_5 C ?_
          intro g6a g6b
          refine x_fall ?_
          refine x_blk (b := 4) (a_84 E) rfl ?_
          unfold b_84_4
          refine x_iret ?_
          exact k _ _ C F (by omega) (by omega) 
        · skip
          refine x_aload rfl ?_
          refine x_aload rfl ?_
          refine x_aload rfl ?_
          refine x_iload rfl ?_
          refine x_cV (fun _ => rfl) rfl (by decide) (Nat.le_of_ble_eq_true rfl) ?_
          refine sf_148_105_4_96 (by omega) (by omega) C (fun S7 v7 C7 f7 v7a v7b => ?_)
          have F7 := y_fq_tr (by decide) F f7
          refine x_istore ?_
          refine x_iinc 1 rfl rfl ?_
          refine x_X_lo (lo' := [(0, x_R 105), (1, x_R 4), (2, x_R 96), (3, x_I _), (4, x_I _), (5, x_I _), (6, x_I _)]) ⟨rfl, rfl, rfl, rfl, rfl, rfl, rfl, trivial⟩ ?_
          refine x_goto ?_
          refine x_G_lo (lo' := [(0, x_R 105), (1, x_R 4), (2, x_R 96), (3, x_I _), (4, x_I _), (5, x_I _), (6, x_I _)]) ⟨rfl, rfl, rfl, rfl, rfl, rfl, rfl, trivial⟩ ?_
          exact ih _ (by omega) _ _ _ rfl (by omega) (by omega) (by omega) (by omega)  C7 F7
      · skip
        refine x_blk (b := 1) (a_84 E) rfl ?_
        unfold b_84_1
        refine x_iload rfl ?_
        refine x_if_ge (by omega) (by omega) (fun z8 => ?_) (fun z8 => ?_)
        · skip
          refine x_iload rfl ?_
          refine x_goto ?_
          refine x_blk (b := 4) (a_84 E) rfl ?_
          unfold b_84_4
          refine x_iret ?_
          exact k _ _ C F (by omega) (by omega) 
        · skip
          refine x_blk (b := 3) (a_84 E) rfl ?_
          unfold b_84_3
          refine x_aload rfl ?_
          refine x_getIG y_f105_5 C ?_
          intro g9a g9b
          refine x_fall ?_
          refine x_blk (b := 4) (a_84 E) rfl ?_
          unfold b_84_4
          refine x_iret ?_
          exact k _ _ C F (by omega) (by omega) 
    · skip
      refine x_blk (b := 1) (a_84 E) rfl ?_
      unfold b_84_1
      refine x_iload rfl ?_
      refine x_if_ge (by omega) (by omega) (fun z10 => ?_) (fun z10 => ?_)
      · skip
        refine x_iload rfl ?_
        refine x_goto ?_
        refine x_blk (b := 4) (a_84 E) rfl ?_
        unfold b_84_4
        refine x_iret ?_
        exact k _ _ C F (by omega) (by omega) 
      · skip
        refine x_blk (b := 3) (a_84 E) rfl ?_
        unfold b_84_3
        refine x_aload rfl ?_
        refine x_getIG y_f105_5 C ?_
        intro g11a g11b
        refine x_fall ?_
        refine x_blk (b := 4) (a_84 E) rfl ?_
        unfold b_84_4
        refine x_iret ?_
        exact k _ _ C F (by omega) (by omega) 
theorem sf_84_105_4_96 {E : q_E} {σ : x_S} {Q : Option q_V → x_S → Prop} {a3 a4 : Int} (a3l : (-2147483648) ≤ a3) (a3h : a3 ≤ 2147483647) (a4l : (-2147483648) ≤ a4) (a4h : a4 ≤ 2147483647) (C0 : y_CI σ) (k : ∀ τ v, y_CI τ → y_fq 105 111 σ τ → (-2147483648) ≤ v → v ≤ 2147483647 → Q (some (x_I v)) τ) : x_P E 84 [x_R 105, x_R 4, x_R 96, x_I a3, x_I a4] σ Q := by
  refine x_Mt e_84 (h_84 E) (Nat.le_of_ble_eq_true rfl) t_84 rfl ?_
  refine x_blk (b := 0) (a_84 E) rfl ?_
  unfold b_84_0
  refine x_aload rfl ?_
  refine x_getR (r := 105) rfl (by decide) (by decide) rfl ?_
  refine x_push 0 rfl ?_
  refine x_cS (fun _ => rfl) (Nat.le_of_ble_eq_true rfl) ?_
  refine sf_27_107 (by omega) (by omega) C0 (fun S1 C1 f1 => ?_)
  have F1 := y_fq_tr (by decide) (y_fr_rf (lo := 105) (hi := 111)) f1
  refine x_aload rfl ?_
  refine x_push 0 rfl ?_
  refine x_putIG y_f105_5 ⟨by decide, rfl⟩ (by decide) C1 (by decide) F1 (by omega) (by omega) (fun S2 e2 C2 F2 => ?_)
  refine x_aload rfl ?_
  refine x_push 0 rfl ?_
  refine x_putIG y_f105_6 ⟨by decide, rfl⟩ (by decide) C2 (by decide) F2 (by omega) (by omega) (fun S3 e3 C3 F3 => ?_)
  refine x_aload rfl ?_
  refine x_aload rfl ?_
  refine x_aload rfl ?_
  refine x_iload rfl ?_
  refine x_iload rfl ?_
  refine x_aload rfl ?_
  refine x_aload rfl ?_
  refine x_cU1 (fun _ => rfl) rfl (by decide) (Nat.le_of_ble_eq_true rfl) ?_
  refine sf_90_96_4  C3 (fun v4 v4a v4b => ?_)
  refine x_cV (fun _ => rfl) rfl (by decide) (Nat.le_of_ble_eq_true rfl) ?_
  refine sf_86_105_4_96 (by omega) (by omega) (by omega) (by omega) (by omega) (by omega) C3 (fun S5 v5 C5 f5 v5a v5b => ?_)
  have F5 := y_fq_tr (by decide) F3 f5
  refine x_istore ?_
  refine x_push 0 rfl ?_
  refine x_istore ?_
  refine x_X_lo (lo' := [(0, x_R 105), (1, x_R 4), (2, x_R 96), (3, x_I _), (4, x_I _), (5, x_I _), (6, x_I _)]) ⟨rfl, rfl, rfl, rfl, rfl, rfl, rfl, trivial⟩ ?_
  refine x_fall ?_
  refine x_G_lo (lo' := [(0, x_R 105), (1, x_R 4), (2, x_R 96), (3, x_I _), (4, x_I _), (5, x_I _), (6, x_I _)]) ⟨rfl, rfl, rfl, rfl, rfl, rfl, rfl, trivial⟩ ?_
  exact sf_84_105_4_96_b2 a3l a3h a4l a4h C0 k  _ _ _ _ rfl (by omega) (by omega) (by omega) (by omega)  C5 F5
