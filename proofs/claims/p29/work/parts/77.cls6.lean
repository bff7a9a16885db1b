theorem sf_41_124 {E : q_E} {σ : x_S} {Q : Option q_V → x_S → Prop} {a1 : Int} (a1l : (-2147483648) ≤ a1) (a1h : a1 ≤ 2147483647) (C0 : y_CI σ) (k : ∀ v, 0 ≤ v → v ≤ 41 → Q (some (x_I v)) σ) : x_P E 41 [x_R 124, x_I a1] σ Q := by
  refine x_Mt e_41 (h_41 E) (Nat.le_of_ble_eq_true rfl) t_41 rfl ?_
  refine x_blk (b := 0) (a_41 E) rfl ?_
  unfold b_41_0
  refine x_iload rfl ?_
  refine x_push 54 rfl ?_
  refine x_cS (fun _ => rfl) (Nat.le_of_ble_eq_true rfl) ?_
  refine sf_2 (by omega) (by omega) (by omega) (by omega) C0 (fun y1 => ?_) (fun y1 => ?_)
  · skip
    refine x_if_eq (by omega) (by omega) (fun z => absurd z (by omega)) (fun z2 => ?_)
    refine x_aload rfl ?_
    refine x_getR (r := 124) rfl (by decide) (by decide) rfl ?_
    refine x_iload rfl ?_
    refine x_ialdG y_a128 C0 (by omega) (by omega) (fun v3 v3a v3b => ?_)
    refine x_goto ?_
    refine x_blk (b := 2) (a_41 E) rfl ?_
    unfold b_41_2
    refine x_iret ?_
    exact k _ (by omega) (by omega) 
  · skip
    refine x_if_eq (by omega) (by omega) (fun z4 => ?_) (fun z => absurd (by omega) z)
    refine x_blk (b := 1) (a_41 E) rfl ?_
    unfold b_41_1
    refine x_push 0 rfl ?_
    refine x_fall ?_
    refine x_blk (b := 2) (a_41 E) rfl ?_
    unfold b_41_2
    refine x_iret ?_
    exact k _ (by omega) (by omega) 
theorem sf_87_124_b11 {E : q_E} {σ : x_S} {Q : Option q_V → x_S → Prop} {a1 a2 : Int} (a1l : (-2147483648) ≤ a1) (a1h : a1 ≤ 2147483647) (a2l : (-2147483648) ≤ a2) (a2h : a2 ≤ 2147483647) (C0 : y_CI σ) (k : ∀ v, 0 ≤ v → v ≤ 1 → Q (some (x_I v)) σ) : ∀ (N : Nat) (a b d : Int), (40 - d).toNat = N → (-2147483648) ≤ a → a ≤ 2147483647 → (-2147483648) ≤ b → b ≤ 2147483647 → 0 ≤ d → d ≤ 40 → x_G E m_87 Q (t_87 11) [(0, x_R 124), (3, x_I a), (4, x_I b), (5, x_I d)] [] σ := by
  intro N
  induction N using Nat.strongRecOn with
  | ind N ih =>
    intro a b d hN aL aH bL bH dL dH
    refine x_blk (b := 11) (a_87 E) rfl ?_
    unfold b_87_11
    refine x_iload rfl ?_
    refine x_push 40 rfl ?_
    refine x_icmp_ge (by omega) (by omega) (by omega) (by omega) (fun z1 => ?_) (fun z1 => ?_)
    · skip
      refine x_iload rfl ?_
      refine x_iload rfl ?_
      refine x_icmp_eq (by omega) (by omega) (by omega) (by omega) (fun z2 => ?_) (fun z2 => ?_)
      · skip
        refine x_blk (b := 1) (a_87 E) rfl ?_
        unfold b_87_1
        refine x_push 1 rfl ?_
        refine x_zret (by decide) ?_
        exact k _ (by omega) (by omega) 
      · skip
        refine x_iload rfl ?_
        refine x_push 54 rfl ?_
        refine x_cS (fun _ => rfl) (Nat.le_of_ble_eq_true rfl) ?_
        refine sf_2 (by omega) (by omega) (by omega) (by omega) C0 (fun y3 => ?_) (fun y3 => ?_)
        · skip
          refine x_if_eq (by omega) (by omega) (fun z => absurd z (by omega)) (fun z4 => ?_)
          refine x_iload rfl ?_
          refine x_push 54 rfl ?_
          refine x_cS (fun _ => rfl) (Nat.le_of_ble_eq_true rfl) ?_
          refine sf_2 (by omega) (by omega) (by omega) (by omega) C0 (fun y5 => ?_) (fun y5 => ?_)
          · skip
            refine x_if_eq (by omega) (by omega) (fun z => absurd z (by omega)) (fun z6 => ?_)
            refine x_aload rfl ?_
            refine x_getR (r := 124) rfl (by decide) (by decide) rfl ?_
            refine x_iload rfl ?_
            refine x_ialdG y_a125 C0 (by omega) (by omega) (fun v7 v7a v7b => ?_)
            refine x_aload rfl ?_
            refine x_getR (r := 124) rfl (by decide) (by decide) rfl ?_
            refine x_iload rfl ?_
            refine x_ialdG y_a125 C0 (by omega) (by omega) (fun v8 v8a v8b => ?_)
            refine x_icmp_eq (by omega) (by omega) (by omega) (by omega) (fun z9 => ?_) (fun z9 => ?_)
            · skip
              refine x_blk (b := 2) (a_87 E) rfl ?_
              unfold b_87_2
              refine x_aload rfl ?_
              refine x_getR (r := 124) rfl (by decide) (by decide) rfl ?_
              refine x_iload rfl ?_
              refine x_ialdG y_a126 C0 (by omega) (by omega) (fun v10 v10a v10b => ?_)
              refine x_aload rfl ?_
              refine x_getR (r := 124) rfl (by decide) (by decide) rfl ?_
              refine x_iload rfl ?_
              refine x_ialdG y_a126 C0 (by omega) (by omega) (fun v11 v11a v11b => ?_)
              refine x_icmp_ne (by omega) (by omega) (by omega) (by omega) (fun z12 => ?_) (fun z12 => ?_)
              · skip
                refine x_push 1 rfl ?_
                refine x_goto ?_
                refine x_blk (b := 6) (a_87 E) rfl ?_
                unfold b_87_6
                refine x_istore ?_
                refine x_iload rfl ?_
                refine x_if_eq (by omega) (by omega) (fun z => absurd z (by omega)) (fun z13 => ?_)
                refine x_aload rfl ?_
                refine x_getR (r := 124) rfl (by decide) (by decide) rfl ?_
                refine x_iload rfl ?_
                refine x_ialdG y_a127 C0 (by omega) (by omega) (fun v14 v14a v14b => ?_)
                refine x_goto ?_
                refine x_blk (b := 8) (a_87 E) rfl ?_
                unfold b_87_8
                refine x_istore ?_
                refine x_X_lo (lo' := [(0, x_R 124), (3, x_I _), (4, x_I _), (5, x_I _), (6, x_I _), (7, x_I _)]) ⟨rfl, rfl, rfl, rfl, rfl, rfl, trivial⟩ ?_
                refine x_iload rfl ?_
                refine x_if_eq (by omega) (by omega) (fun z => absurd z (by omega)) (fun z15 => ?_)
                refine x_aload rfl ?_
                refine x_getR (r := 124) rfl (by decide) (by decide) rfl ?_
                refine x_iload rfl ?_
                refine x_ialdG y_a127 C0 (by omega) (by omega) (fun v16 v16a v16b => ?_)
                refine x_goto ?_
                refine x_blk (b := 10) (a_87 E) rfl ?_
                unfold b_87_10
                refine x_istore ?_
                refine x_iload rfl ?_
                refine x_istore ?_
                refine x_X_lo (lo' := [(0, x_R 124), (3, x_I _), (4, x_I _), (5, x_I _), (6, x_I _), (7, x_I _)]) ⟨rfl, rfl, rfl, rfl, rfl, rfl, trivial⟩ ?_
                refine x_iinc 1 rfl rfl ?_
                refine x_goto ?_
                refine x_G_lo (lo' := [(0, x_R 124), (3, x_I _), (4, x_I _), (5, x_I _)]) ⟨rfl, rfl, rfl, rfl, trivial⟩ ?_
                exact ih _ (by omega) _ _ _  rfl (by omega) (by omega) (by omega) (by omega) (by omega) (by omega)  
              · skip
                refine x_blk (b := 5) (a_87 E) rfl ?_
                unfold b_87_5
                refine x_push 0 rfl ?_
                refine x_fall ?_
                refine x_blk (b := 6) (a_87 E) rfl ?_
                unfold b_87_6
                refine x_istore ?_
                refine x_iload rfl ?_
                refine x_if_eq (by omega) (by omega) (fun z17 => ?_) (fun z => absurd (by omega) z)
                refine x_blk (b := 7) (a_87 E) rfl ?_
                unfold b_87_7
                refine x_aload rfl ?_
                refine x_getR (r := 124) rfl (by decide) (by decide) rfl ?_
                refine x_iload rfl ?_
                refine x_ialdG y_a126 C0 (by omega) (by omega) (fun v18 v18a v18b => ?_)
                refine x_fall ?_
                refine x_blk (b := 8) (a_87 E) rfl ?_
                unfold b_87_8
                refine x_istore ?_
                refine x_X_lo (lo' := [(0, x_R 124), (3, x_I _), (4, x_I _), (5, x_I _), (6, x_I _), (7, x_I _)]) ⟨rfl, rfl, rfl, rfl, rfl, rfl, trivial⟩ ?_
                refine x_iload rfl ?_
                refine x_if_eq (by omega) (by omega) (fun z19 => ?_) (fun z => absurd (by omega) z)
                refine x_blk (b := 9) (a_87 E) rfl ?_
                unfold b_87_9
                refine x_aload rfl ?_
                refine x_getR (r := 124) rfl (by decide) (by decide) rfl ?_
                refine x_iload rfl ?_
                refine x_ialdG y_a126 C0 (by omega) (by omega) (fun v20 v20a v20b => ?_)
                refine x_fall ?_
                refine x_blk (b := 10) (a_87 E) rfl ?_
                unfold b_87_10
                refine x_istore ?_
                refine x_iload rfl ?_
                refine x_istore ?_
                refine x_X_lo (lo' := [(0, x_R 124), (3, x_I _), (4, x_I _), (5, x_I _), (6, x_I _), (7, x_I _)]) ⟨rfl, rfl, rfl, rfl, rfl, rfl, trivial⟩ ?_
                refine x_iinc 1 rfl rfl ?_
                refine x_goto ?_
                refine x_G_lo (lo' := [(0, x_R 124), (3, x_I _), (4, x_I _), (5, x_I _)]) ⟨rfl, rfl, rfl, rfl, trivial⟩ ?_
                exact ih _ (by omega) _ _ _  rfl (by omega) (by omega) (by omega) (by omega) (by omega) (by omega)  
            · skip
              refine x_aload rfl ?_
              refine x_getR (r := 124) rfl (by decide) (by decide) rfl ?_
              refine x_iload rfl ?_
              refine x_ialdG y_a125 C0 (by omega) (by omega) (fun v21 v21a v21b => ?_)
              refine x_aload rfl ?_
              refine x_getR (r := 124) rfl (by decide) (by decide) rfl ?_
              refine x_iload rfl ?_
              refine x_ialdG y_a125 C0 (by omega) (by omega) (fun v22 v22a v22b => ?_)
              refine x_icmp_ge (by omega) (by omega) (by omega) (by omega) (fun z23 => ?_) (fun z23 => ?_)
              · skip
                refine x_push 1 rfl ?_
                refine x_goto ?_
                refine x_blk (b := 4) (a_87 E) rfl ?_
                unfold b_87_4
                refine x_zret (by decide) ?_
                exact k _ (by omega) (by omega) 
              · skip
                refine x_blk (b := 3) (a_87 E) rfl ?_
                unfold b_87_3
                refine x_push 0 rfl ?_
                refine x_fall ?_
                refine x_blk (b := 4) (a_87 E) rfl ?_
                unfold b_87_4
                refine x_zret (by decide) ?_
                exact k _ (by omega) (by omega) 
          · skip
            refine x_if_eq (by omega) (by omega) (fun z24 => ?_) (fun z => absurd (by omega) z)
            refine x_blk (b := 1) (a_87 E) rfl ?_
            unfold b_87_1
            refine x_push 1 rfl ?_
            refine x_zret (by decide) ?_
            exact k _ (by omega) (by omega) 
        · skip
          refine x_if_eq (by omega) (by omega) (fun z25 => ?_) (fun z => absurd (by omega) z)
          refine x_blk (b := 1) (a_87 E) rfl ?_
          unfold b_87_1
          refine x_push 1 rfl ?_
          refine x_zret (by decide) ?_
          exact k _ (by omega) (by omega) 
    · skip
      refine x_blk (b := 1) (a_87 E) rfl ?_
      unfold b_87_1
      refine x_push 1 rfl ?_
      refine x_zret (by decide) ?_
      exact k _ (by omega) (by omega) 
theorem sf_87_124 {E : q_E} {σ : x_S} {Q : Option q_V → x_S → Prop} {a1 a2 : Int} (a1l : (-2147483648) ≤ a1) (a1h : a1 ≤ 2147483647) (a2l : (-2147483648) ≤ a2) (a2h : a2 ≤ 2147483647) (C0 : y_CI σ) (k : ∀ v, 0 ≤ v → v ≤ 1 → Q (some (x_I v)) σ) : x_P E 87 [x_R 124, x_I a1, x_I a2] σ Q := by
  refine x_Mt e_87 (h_87 E) (Nat.le_of_ble_eq_true rfl) t_87 rfl ?_
  refine x_blk (b := 0) (a_87 E) rfl ?_
  unfold b_87_0
  refine x_iload rfl ?_
  refine x_istore ?_
  refine x_iload rfl ?_
  refine x_istore ?_
  refine x_X_lo (lo' := [(0, x_R 124), (1, x_I _), (2, x_I _), (3, x_I _), (4, x_I _)]) ⟨rfl, rfl, rfl, rfl, rfl, trivial⟩ ?_
  refine x_push 0 rfl ?_
  refine x_istore ?_
  refine x_fall ?_
  refine x_G_lo (lo' := [(0, x_R 124), (3, x_I _), (4, x_I _), (5, x_I _)]) ⟨rfl, rfl, rfl, rfl, trivial⟩ ?_
  exact sf_87_124_b11 a1l a1h a2l a2h C0 k  _ _ _ _  rfl (by omega) (by omega) (by omega) (by omega) (by omega) (by omega)  
theorem sf_50_124 {E : q_E} {σ : x_S} {Q : Option q_V → x_S → Prop} {a1 a2 a3 a4 a5 : Int} (a1l : 0 ≤ a1) (a1h : a1 ≤ 53) (a2l : (-2147483648) ≤ a2) (a2h : a2 ≤ 2147483647) (a3l : (-2147483648) ≤ a3) (a3h : a3 ≤ 2147483647) (a4l : (-2147483648) ≤ a4) (a4h : a4 ≤ 2147483647) (a5l : (-2147483648) ≤ a5) (a5h : a5 ≤ 2147483647) (C0 : y_CI σ) (k : ∀ v, 0 ≤ v → v ≤ 1 → Q (some (x_I v)) σ) : x_P E 50 [x_R 124, x_I a1, x_I a2, x_I a3, x_I a4, x_I a5] σ Q := by
  refine x_Mt e_50 (h_50 E) (Nat.le_of_ble_eq_true rfl) t_50 rfl ?_
  refine x_blk (b := 0) (a_50 E) rfl ?_
  unfold b_50_0
  refine x_aload rfl ?_
  refine x_getR (r := 124) rfl (by decide) (by decide) rfl ?_
  refine x_iload rfl ?_
  refine x_ialdG y_a128 C0 (by omega) (by omega) (fun v1 v1a v1b => ?_)
  refine x_iload rfl ?_
  refine x_icmp_eq (by omega) (by omega) (by omega) (by omega) (fun z2 => ?_) (fun z2 => ?_)
  · skip
    refine x_blk (b := 1) (a_50 E) rfl ?_
    unfold b_50_1
    refine x_iload rfl ?_
    refine x_push 40 rfl ?_
    refine x_icmp_le (by omega) (by omega) (by omega) (by omega) (fun z3 => ?_) (fun z3 => ?_)
    · skip
      refine x_blk (b := 4) (a_50 E) rfl ?_
      unfold b_50_4
      refine x_aload rfl ?_
      refine x_getR (r := 124) rfl (by decide) (by decide) rfl ?_
      refine x_iload rfl ?_
      refine x_ialdG y_a125 C0 (by omega) (by omega) (fun v4 v4a v4b => ?_)
      refine x_iload rfl ?_
      refine x_icmp_eq (by omega) (by omega) (by omega) (by omega) (fun z5 => ?_) (fun z5 => ?_)
      · skip
        refine x_blk (b := 5) (a_50 E) rfl ?_
        unfold b_50_5
        refine x_aload rfl ?_
        refine x_getR (r := 124) rfl (by decide) (by decide) rfl ?_
        refine x_iload rfl ?_
        refine x_ialdG y_a126 C0 (by omega) (by omega) (fun v6 v6a v6b => ?_)
        refine x_iload rfl ?_
        refine x_icmp_eq (by omega) (by omega) (by omega) (by omega) (fun z7 => ?_) (fun z7 => ?_)
        · skip
          refine x_blk (b := 8) (a_50 E) rfl ?_
          unfold b_50_8
          refine x_aload rfl ?_
          refine x_aload rfl ?_
          refine x_getR (r := 124) rfl (by decide) (by decide) rfl ?_
          refine x_iload rfl ?_
          refine x_ialdG y_a127 C0 (by omega) (by omega) (fun v8 v8a v8b => ?_)
          refine x_iload rfl ?_
          refine x_cV (fun _ => rfl) rfl (by decide) (Nat.le_of_ble_eq_true rfl) ?_
          refine sf_87_124 (by omega) (by omega) (by omega) (by omega) C0 (fun v9 v9a v9b => ?_)
          refine x_fall ?_
          refine x_blk (b := 9) (a_50 E) rfl ?_
          unfold b_50_9
          refine x_zret (x_c01 (by omega)) ?_
          exact k _ (by omega) (by omega) 
        · skip
          refine x_aload rfl ?_
          refine x_aload rfl ?_
          refine x_getR (r := 124) rfl (by decide) (by decide) rfl ?_
          refine x_iload rfl ?_
          refine x_ialdG y_a126 C0 (by omega) (by omega) (fun v10 v10a v10b => ?_)
          refine x_iload rfl ?_
          refine x_cV (fun _ => rfl) rfl (by decide) (Nat.le_of_ble_eq_true rfl) ?_
          refine sf_87_124 (by omega) (by omega) (by omega) (by omega) C0 (fun v11 v11a v11b => ?_)
          refine x_goto ?_
          refine x_blk (b := 9) (a_50 E) rfl ?_
          unfold b_50_9
          refine x_zret (x_c01 (by omega)) ?_
          exact k _ (by omega) (by omega) 
      · skip
        refine x_aload rfl ?_
        refine x_getR (r := 124) rfl (by decide) (by decide) rfl ?_
        refine x_iload rfl ?_
        refine x_ialdG y_a125 C0 (by omega) (by omega) (fun v12 v12a v12b => ?_)
        refine x_iload rfl ?_
        refine x_icmp_ge (by omega) (by omega) (by omega) (by omega) (fun z13 => ?_) (fun z13 => ?_)
        · skip
          refine x_push 1 rfl ?_
          refine x_goto ?_
          refine x_blk (b := 7) (a_50 E) rfl ?_
          unfold b_50_7
          refine x_zret (by decide) ?_
          exact k _ (by omega) (by omega) 
        · skip
          refine x_blk (b := 6) (a_50 E) rfl ?_
          unfold b_50_6
          refine x_push 0 rfl ?_
          refine x_fall ?_
          refine x_blk (b := 7) (a_50 E) rfl ?_
          unfold b_50_7
          refine x_zret (by decide) ?_
          exact k _ (by omega) (by omega) 
    · skip
      refine x_push 1 rfl ?_
      refine x_zret (by decide) ?_
      exact k _ (by omega) (by omega) 
  · skip
    refine x_aload rfl ?_
    refine x_getR (r := 124) rfl (by decide) (by decide) rfl ?_
    refine x_iload rfl ?_
    refine x_ialdG y_a128 C0 (by omega) (by omega) (fun v14 v14a v14b => ?_)
    refine x_iload rfl ?_
    refine x_icmp_ge (by omega) (by omega) (by omega) (by omega) (fun z15 => ?_) (fun z15 => ?_)
    · skip
      refine x_push 1 rfl ?_
      refine x_goto ?_
      refine x_blk (b := 3) (a_50 E) rfl ?_
      unfold b_50_3
      refine x_zret (by decide) ?_
      exact k _ (by omega) (by omega) 
    · skip
      refine x_blk (b := 2) (a_50 E) rfl ?_
      unfold b_50_2
      refine x_push 0 rfl ?_
      refine x_fall ?_
      refine x_blk (b := 3) (a_50 E) rfl ?_
      unfold b_50_3
      refine x_zret (by decide) ?_
      exact k _ (by omega) (by omega) 
theorem sf_39_124_4 {E : q_E} {σ : x_S} {Q : Option q_V → x_S → Prop} {a2 a3 a4 : Int} (a2l : 0 ≤ a2) (a2h : a2 ≤ 4) (a3l : (-4) ≤ a3) (a3h : a3 ≤ 53) (a4l : (-4) ≤ a4) (a4h : a4 ≤ 53) (C0 : y_CI σ) (k : ∀ τ, y_CI τ → y_fq 125 129 σ τ → Q none τ) : x_P E 39 [x_R 124, x_R 4, x_I a2, x_I a3, x_I a4] σ Q := by
  refine x_Mt e_39 (h_39 E) (Nat.le_of_ble_eq_true rfl) t_39 rfl ?_
  refine x_blk (b := 0) (a_39 E) rfl ?_
  unfold b_39_0
  refine x_aload rfl ?_
  refine x_aload rfl ?_
  refine x_iload rfl ?_
  refine x_iload rfl ?_
  refine x_iload rfl ?_
  refine x_cV (fun _ => rfl) rfl (by decide) (Nat.le_of_ble_eq_true rfl) ?_
  refine sf_40_124_4 (by omega) (by omega) (by omega) (by omega) (by omega) (by omega) C0 (fun v1 v1a v1b => ?_)
  refine x_istore ?_
  refine x_iload rfl ?_
  refine x_push 54 rfl ?_
  refine x_cS (fun _ => rfl) (Nat.le_of_ble_eq_true rfl) ?_
  refine sf_2 (by omega) (by omega) (by omega) (by omega) C0 (fun y2 => ?_) (fun y2 => ?_)
  · skip
    refine x_if_eq (by omega) (by omega) (fun z => absurd z (by omega)) (fun z3 => ?_)
    refine x_aload rfl ?_
    refine x_getR (r := 124) rfl (by decide) (by decide) rfl ?_
    refine x_iload rfl ?_
    refine x_aldG y_a130 C0 (by omega) (by omega) (fun v4 v4a v4b => ?_)
    refine x_if_eq (by omega) (by omega) (fun z5 => ?_) (fun z5 => ?_)
    · skip
      refine x_blk (b := 2) (a_39 E) rfl ?_
      unfold b_39_2
      refine x_push 41 rfl ?_
      refine x_push 1 rfl ?_
      refine x_aload rfl ?_
      refine x_iload rfl ?_
      refine x_cV (fun _ => rfl) rfl (by decide) (Nat.le_of_ble_eq_true rfl) ?_
      refine sf_41_124 (by omega) (by omega) C0 (fun v6 v6a v6b => ?_)
      refine x_iadd ?_
      refine x_aload rfl ?_
      refine x_iload rfl ?_
      refine x_cV (fun _ => rfl) rfl (by decide) (Nat.le_of_ble_eq_true rfl) ?_
      refine sf_41_124 (by omega) (by omega) C0 (fun v7 v7a v7b => ?_)
      refine x_iadd ?_
      refine x_min (by omega) (by omega) (by omega) (by omega) (Nat.le_of_ble_eq_true rfl) (fun v8 v8a v8b v8c => ?_)
      refine x_istore ?_
      refine x_X_lo (lo' := [(0, x_R 124), (1, x_R 4), (2, x_I _), (3, x_I _), (4, x_I _), (5, x_I _), (6, x_I _)]) ⟨rfl, rfl, rfl, rfl, rfl, rfl, rfl, trivial⟩ ?_
      refine x_aload rfl ?_
      refine x_getR (r := 124) rfl (by decide) (by decide) rfl ?_
      refine x_iload rfl ?_
      refine x_ialdG y_a128 C0 (by omega) (by omega) (fun v9 v9a v9b => ?_)
      refine x_if_eq (by omega) (by omega) (fun z10 => ?_) (fun z10 => ?_)
      · skip
        refine x_blk (b := 3) (a_39 E) rfl ?_
        unfold b_39_3
        refine x_aload rfl ?_
        refine x_getR (r := 124) rfl (by decide) (by decide) rfl ?_
        refine x_iload rfl ?_
        refine x_iload rfl ?_
        refine x_astG y_a125 C0 (by decide) (y_fr_rf (lo := 125) (hi := 129)) (by omega) (by omega) (by omega) (by omega) (fun S11 e11 C11 F11 => ?_)
        refine x_aload rfl ?_
        refine x_getR (r := 124) rfl (by decide) (by decide) rfl ?_
        refine x_iload rfl ?_
        refine x_iload rfl ?_
        refine x_astG y_a126 C11 (by decide) F11 (by omega) (by omega) (by omega) (by omega) (fun S12 e12 C12 F12 => ?_)
        refine x_aload rfl ?_
        refine x_getR (r := 124) rfl (by decide) (by decide) rfl ?_
        refine x_iload rfl ?_
        refine x_iload rfl ?_
        refine x_astG y_a127 C12 (by decide) F12 (by omega) (by omega) (by omega) (by omega) (fun S13 e13 C13 F13 => ?_)
        refine x_aload rfl ?_
        refine x_getR (r := 124) rfl (by decide) (by decide) rfl ?_
        refine x_iload rfl ?_
        refine x_iload rfl ?_
        refine x_astG y_a128 C13 (by decide) F13 (by omega) (by omega) (by omega) (by omega) (fun S14 e14 C14 F14 => ?_)
        refine x_fall ?_
        refine x_blk (b := 4) (a_39 E) rfl ?_
        unfold b_39_4
        refine x_vret ?_
        exact k _ C14 F14 
      · skip
        refine x_aload rfl ?_
        refine x_iload rfl ?_
        refine x_iload rfl ?_
        refine x_iload rfl ?_
        refine x_iload rfl ?_
        refine x_iload rfl ?_
        refine x_cV (fun _ => rfl) rfl (by decide) (Nat.le_of_ble_eq_true rfl) ?_
        refine sf_50_124 (by omega) (by omega) (by omega) (by omega) (by omega) (by omega) (by omega) (by omega) (by omega) (by omega) C0 (fun v15 v15a v15b => ?_)
        refine x_if_ne (by omega) (by omega) (fun z16 => ?_) (fun z16 => ?_)
        · skip
          refine x_fall ?_
          refine x_blk (b := 3) (a_39 E) rfl ?_
          unfold b_39_3
          refine x_aload rfl ?_
          refine x_getR (r := 124) rfl (by decide) (by decide) rfl ?_
          refine x_iload rfl ?_
          refine x_iload rfl ?_
          refine x_astG y_a125 C0 (by decide) (y_fr_rf (lo := 125) (hi := 129)) (by omega) (by omega) (by omega) (by omega) (fun S17 e17 C17 F17 => ?_)
          refine x_aload rfl ?_
          refine x_getR (r := 124) rfl (by decide) (by decide) rfl ?_
          refine x_iload rfl ?_
          refine x_iload rfl ?_
          refine x_astG y_a126 C17 (by decide) F17 (by omega) (by omega) (by omega) (by omega) (fun S18 e18 C18 F18 => ?_)
          refine x_aload rfl ?_
          refine x_getR (r := 124) rfl (by decide) (by decide) rfl ?_
          refine x_iload rfl ?_
          refine x_iload rfl ?_
          refine x_astG y_a127 C18 (by decide) F18 (by omega) (by omega) (by omega) (by omega) (fun S19 e19 C19 F19 => ?_)
          refine x_aload rfl ?_
          refine x_getR (r := 124) rfl (by decide) (by decide) rfl ?_
          refine x_iload rfl ?_
          refine x_iload rfl ?_
          refine x_astG y_a128 C19 (by decide) F19 (by omega) (by omega) (by omega) (by omega) (fun S20 e20 C20 F20 => ?_)
          refine x_fall ?_
          refine x_blk (b := 4) (a_39 E) rfl ?_
          unfold b_39_4
          refine x_vret ?_
          exact k _ C20 F20 
        · skip
          refine x_blk (b := 4) (a_39 E) rfl ?_
          unfold b_39_4
          refine x_vret ?_
          exact k _ C0 (y_fr_rf (lo := 125) (hi := 129)) 
    · skip
      refine x_fall ?_
      refine x_blk (b := 1) (a_39 E) rfl ?_
      unfold b_39_1
      refine x_vret ?_
      exact k _ C0 (y_fr_rf (lo := 125) (hi := 129)) 
  · skip
    refine x_if_eq (by omega) (by omega) (fun z21 => ?_) (fun z => absurd (by omega) z)
    refine x_blk (b := 1) (a_39 E) rfl ?_
    unfold b_39_1
    refine x_vret ?_
    exact k _ C0 (y_fr_rf (lo := 125) (hi := 129)) 
theorem sf_70_124_b4 {E : q_E} {σ : x_S} {Q : Option q_V → x_S → Prop} (C0 : y_CI σ) (k : ∀ v, (-4) ≤ v → v ≤ 53 → Q (some (x_I v)) σ) : ∀ (N : Nat) (b p : Int), (54 - p).toNat = N → (-4) ≤ b → b ≤ 53 → 0 ≤ p → p ≤ 54 → x_G E m_70 Q (t_70 4) [(0, x_R 124), (1, x_I b), (2, x_I p)] [] σ := by
  intro N
  induction N using Nat.strongRecOn with
  | ind N ih =>
    intro b p hN bL bH pL pH
    refine x_blk (b := 4) (a_70 E) rfl ?_
    unfold b_70_4
    refine x_iload rfl ?_
    refine x_push 54 rfl ?_
    refine x_icmp_ge (by omega) (by omega) (by omega) (by omega) (fun z1 => ?_) (fun z1 => ?_)
    · skip
      refine x_aload rfl ?_
      refine x_getR (r := 124) rfl (by decide) (by decide) rfl ?_
      refine x_iload rfl ?_
      refine x_ialdG y_a128 C0 (by omega) (by omega) (fun v2 v2a v2b => ?_)
      refine x_if_le (by omega) (by omega) (fun z3 => ?_) (fun z3 => ?_)
      · skip
        refine x_blk (b := 2) (a_70 E) rfl ?_
        unfold b_70_2
        refine x_iinc 1 rfl rfl ?_
        refine x_goto ?_
        refine x_G_lo (lo' := [(0, x_R 124), (1, x_I _), (2, x_I _)]) ⟨rfl, rfl, rfl, trivial⟩ ?_
        exact ih _ (by omega) _ _  rfl (by omega) (by omega) (by omega) (by omega)  
      · skip
        refine x_aload rfl ?_
        refine x_getR (r := 124) rfl (by decide) (by decide) rfl ?_
        refine x_iload rfl ?_
        refine x_aldG y_a130 C0 (by omega) (by omega) (fun v4 v4a v4b => ?_)
        refine x_if_ne (by omega) (by omega) (fun z5 => ?_) (fun z5 => ?_)
        · skip
          refine x_iload rfl ?_
          refine x_if_lt (by omega) (by omega) (fun z6 => ?_) (fun z6 => ?_)
          · skip
            refine x_blk (b := 3) (a_70 E) rfl ?_
            unfold b_70_3
            refine x_iload rfl ?_
            refine x_istore ?_
            refine x_fall ?_
            refine x_blk (b := 2) (a_70 E) rfl ?_
            unfold b_70_2
            refine x_iinc 1 rfl rfl ?_
            refine x_X_lo (lo' := [(0, x_R 124), (1, x_I _), (2, x_I _)]) ⟨rfl, rfl, rfl, trivial⟩ ?_
            refine x_goto ?_
            refine x_G_lo (lo' := [(0, x_R 124), (1, x_I _), (2, x_I _)]) ⟨rfl, rfl, rfl, trivial⟩ ?_
            exact ih _ (by omega) _ _  rfl (by omega) (by omega) (by omega) (by omega)  
          · skip
            refine x_aload rfl ?_
            refine x_iload rfl ?_
            refine x_aload rfl ?_
            refine x_getR (r := 124) rfl (by decide) (by decide) rfl ?_
            refine x_iload rfl ?_
            refine x_ialdG y_a125 C0 (by omega) (by omega) (fun v7 v7a v7b => ?_)
            refine x_aload rfl ?_
            refine x_getR (r := 124) rfl (by decide) (by decide) rfl ?_
            refine x_iload rfl ?_
            refine x_ialdG y_a126 C0 (by omega) (by omega) (fun v8 v8a v8b => ?_)
            refine x_aload rfl ?_
            refine x_getR (r := 124) rfl (by decide) (by decide) rfl ?_
            refine x_iload rfl ?_
            refine x_ialdG y_a127 C0 (by omega) (by omega) (fun v9 v9a v9b => ?_)
            refine x_aload rfl ?_
            refine x_getR (r := 124) rfl (by decide) (by decide) rfl ?_
            refine x_iload rfl ?_
            refine x_ialdG y_a128 C0 (by omega) (by omega) (fun v10 v10a v10b => ?_)
            refine x_cV (fun _ => rfl) rfl (by decide) (Nat.le_of_ble_eq_true rfl) ?_
            refine sf_50_124 (by omega) (by omega) (by omega) (by omega) (by omega) (by omega) (by omega) (by omega) (by omega) (by omega) C0 (fun v11 v11a v11b => ?_)
            refine x_if_eq (by omega) (by omega) (fun z12 => ?_) (fun z12 => ?_)
            · skip
              refine x_blk (b := 2) (a_70 E) rfl ?_
              unfold b_70_2
              refine x_iinc 1 rfl rfl ?_
              refine x_goto ?_
              refine x_G_lo (lo' := [(0, x_R 124), (1, x_I _), (2, x_I _)]) ⟨rfl, rfl, rfl, trivial⟩ ?_
              exact ih _ (by omega) _ _  rfl (by omega) (by omega) (by omega) (by omega)  
            · skip
              refine x_fall ?_
              refine x_blk (b := 3) (a_70 E) rfl ?_
              unfold b_70_3
              refine x_iload rfl ?_
              refine x_istore ?_
              refine x_fall ?_
              refine x_blk (b := 2) (a_70 E) rfl ?_
              unfold b_70_2
              refine x_iinc 1 rfl rfl ?_
              refine x_X_lo (lo' := [(0, x_R 124), (1, x_I _), (2, x_I _)]) ⟨rfl, rfl, rfl, trivial⟩ ?_
              refine x_goto ?_
              refine x_G_lo (lo' := [(0, x_R 124), (1, x_I _), (2, x_I _)]) ⟨rfl, rfl, rfl, trivial⟩ ?_
              exact ih _ (by omega) _ _  rfl (by omega) (by omega) (by omega) (by omega)  
        · skip
          refine x_blk (b := 2) (a_70 E) rfl ?_
          unfold b_70_2
          refine x_iinc 1 rfl rfl ?_
          refine x_goto ?_
          refine x_G_lo (lo' := [(0, x_R 124), (1, x_I _), (2, x_I _)]) ⟨rfl, rfl, rfl, trivial⟩ ?_
          exact ih _ (by omega) _ _  rfl (by omega) (by omega) (by omega) (by omega)  
    · skip
      refine x_blk (b := 1) (a_70 E) rfl ?_
      unfold b_70_1
      refine x_iload rfl ?_
      refine x_iret ?_
      exact k _ (by omega) (by omega) 
theorem sf_70_124 {E : q_E} {σ : x_S} {Q : Option q_V → x_S → Prop} (C0 : y_CI σ) (k : ∀ v, (-4) ≤ v → v ≤ 53 → Q (some (x_I v)) σ) : x_P E 70 [x_R 124] σ Q := by
  refine x_Mt e_70 (h_70 E) (Nat.le_of_ble_eq_true rfl) t_70 rfl ?_
  refine x_blk (b := 0) (a_70 E) rfl ?_
  unfold b_70_0
  refine x_push (-4) rfl ?_
  refine x_istore ?_
  refine x_push 0 rfl ?_
  refine x_istore ?_
  refine x_X_lo (lo' := [(0, x_R 124), (1, x_I _), (2, x_I _)]) ⟨rfl, rfl, rfl, trivial⟩ ?_
  refine x_fall ?_
  refine x_G_lo (lo' := [(0, x_R 124), (1, x_I _), (2, x_I _)]) ⟨rfl, rfl, rfl, trivial⟩ ?_
  exact sf_70_124_b4 C0 k  _ _ _  rfl (by omega) (by omega) (by omega) (by omega)  
theorem sf_79_124_b4 {E : q_E} {σ : x_S} {Q : Option q_V → x_S → Prop} {a1 a2 : Int} (a1l : 0 ≤ a1) (a1h : a1 ≤ 53) (a2l : 0 ≤ a2) (a2h : a2 ≤ 53) (C0 : y_CI σ) (k : ∀ τ, y_CI τ → y_fq 124 133 σ τ → Q none τ) : ∀ (N : Nat) (q : Int) (τ : x_S), (3 - q).toNat = N → 0 ≤ q → q ≤ 3 → y_CI τ → y_fq 124 133 σ τ → x_G E m_79 Q (t_79 4) [(0, x_R 124), (1, x_I a1), (2, x_I a2), (3, x_I q)] [] τ := by
  intro N
  induction N using Nat.strongRecOn with
  | ind N ih =>
    intro q τ hN qL qH C F
    refine x_blk (b := 4) (a_79 E) rfl ?_
    unfold b_79_4
    refine x_iload rfl ?_
    refine x_push 3 rfl ?_
    refine x_icmp_ge (by omega) (by omega) (by omega) (by omega) (fun z1 => ?_) (fun z1 => ?_)
    · skip
      refine x_iload rfl ?_
      refine x_iload rfl ?_
      refine x_cS (fun _ => rfl) (Nat.le_of_ble_eq_true rfl) ?_
      refine sf_61 (by omega) (by omega) (by omega) (by omega) C (fun v2 v2a v2b => ?_)
      refine x_istore ?_
      refine x_iload rfl ?_
      refine x_push 1 rfl ?_
      refine x_icmp_ne (by omega) (by omega) (by omega) (by omega) (fun z3 => ?_) (fun z3 => ?_)
      · skip
        refine x_aload rfl ?_
        refine x_getR (r := 124) rfl (by decide) (by decide) rfl ?_
        refine x_iload rfl ?_
        refine x_dup2 rfl rfl ?_
        refine x_ialdG y_a131 C (by omega) (by omega) (fun v4 v4a v4b => ?_)
        refine x_push 1 rfl ?_
        refine x_iload rfl ?_
        refine x_shl1G (by omega) (by omega) (fun v5 v5a v5b => ?_)
        refine x_iorM 3 (p := 8) (by decide) (by decide) (by omega) (by omega) (by omega) (by omega) (fun v6 v6a v6b => ?_)
        refine x_astG y_a131 C (by decide) F (by omega) (by omega) (by omega) (by omega) (fun S7 e7 C7 F7 => ?_)
        refine x_goto ?_
        refine x_blk (b := 3) (a_79 E) rfl ?_
        unfold b_79_3
        refine x_iinc 1 rfl rfl ?_
        refine x_X_lo (lo' := [(0, x_R 124), (1, x_I _), (2, x_I _), (3, x_I _), (4, x_I _)]) ⟨rfl, rfl, rfl, rfl, rfl, trivial⟩ ?_
        refine x_goto ?_
        refine x_G_lo (lo' := [(0, x_R 124), (1, x_I _), (2, x_I _), (3, x_I _)]) ⟨rfl, rfl, rfl, rfl, trivial⟩ ?_
        exact ih _ (by omega) _ _ rfl (by omega) (by omega)  C7 F7
      · skip
        refine x_blk (b := 2) (a_79 E) rfl ?_
        unfold b_79_2
        refine x_iload rfl ?_
        refine x_push 2 rfl ?_
        refine x_icmp_ne (by omega) (by omega) (by omega) (by omega) (fun z8 => ?_) (fun z8 => ?_)
        · skip
          refine x_aload rfl ?_
          refine x_getR (r := 124) rfl (by decide) (by decide) rfl ?_
          refine x_iload rfl ?_
          refine x_dup2 rfl rfl ?_
          refine x_ialdG y_a132 C (by omega) (by omega) (fun v9 v9a v9b => ?_)
          refine x_push 1 rfl ?_
          refine x_iload rfl ?_
          refine x_shl1G (by omega) (by omega) (fun v10 v10a v10b => ?_)
          refine x_iorM 3 (p := 8) (by decide) (by decide) (by omega) (by omega) (by omega) (by omega) (fun v11 v11a v11b => ?_)
          refine x_astG y_a132 C (by decide) F (by omega) (by omega) (by omega) (by omega) (fun S12 e12 C12 F12 => ?_)
          refine x_fall ?_
          refine x_blk (b := 3) (a_79 E) rfl ?_
          unfold b_79_3
          refine x_iinc 1 rfl rfl ?_
          refine x_X_lo (lo' := [(0, x_R 124), (1, x_I _), (2, x_I _), (3, x_I _), (4, x_I _)]) ⟨rfl, rfl, rfl, rfl, rfl, trivial⟩ ?_
          refine x_goto ?_
          refine x_G_lo (lo' := [(0, x_R 124), (1, x_I _), (2, x_I _), (3, x_I _)]) ⟨rfl, rfl, rfl, rfl, trivial⟩ ?_
          exact ih _ (by omega) _ _ rfl (by omega) (by omega)  C12 F12
        · skip
          refine x_blk (b := 3) (a_79 E) rfl ?_
          unfold b_79_3
          refine x_iinc 1 rfl rfl ?_
          refine x_X_lo (lo' := [(0, x_R 124), (1, x_I _), (2, x_I _), (3, x_I _), (4, x_I _)]) ⟨rfl, rfl, rfl, rfl, rfl, trivial⟩ ?_
          refine x_goto ?_
          refine x_G_lo (lo' := [(0, x_R 124), (1, x_I _), (2, x_I _), (3, x_I _)]) ⟨rfl, rfl, rfl, rfl, trivial⟩ ?_
          exact ih _ (by omega) _ _ rfl (by omega) (by omega)  C F
    · skip
      refine x_blk (b := 1) (a_79 E) rfl ?_
      unfold b_79_1
      refine x_vret ?_
      exact k _ C F 
theorem sf_79_124 {E : q_E} {σ : x_S} {Q : Option q_V → x_S → Prop} {a1 a2 : Int} (a1l : 0 ≤ a1) (a1h : a1 ≤ 53) (a2l : 0 ≤ a2) (a2h : a2 ≤ 53) (C0 : y_CI σ) (k : ∀ τ, y_CI τ → y_fq 124 133 σ τ → Q none τ) : x_P E 79 [x_R 124, x_I a1, x_I a2] σ Q := by
  refine x_Mt e_79 (h_79 E) (Nat.le_of_ble_eq_true rfl) t_79 rfl ?_
  refine x_blk (b := 0) (a_79 E) rfl ?_
  unfold b_79_0
  refine x_aload rfl ?_
  refine x_getR (r := 124) rfl (by decide) (by decide) rfl ?_
  refine x_iload rfl ?_
  refine x_push 1 rfl ?_
  refine x_astZG y_a130 C0 (by decide) (y_fr_rf (lo := 124) (hi := 133)) (by omega) (by omega) (by omega) (by omega) (fun S1 e1 C1 F1 => ?_)
  refine x_aload rfl ?_
  refine x_getR (r := 124) rfl (by decide) (by decide) rfl ?_
  refine x_iload rfl ?_
  refine x_iload rfl ?_
  refine x_astG y_a129 C1 (by decide) F1 (by omega) (by omega) (by omega) (by omega) (fun S2 e2 C2 F2 => ?_)
  refine x_aload rfl ?_
  refine x_iload rfl ?_
  refine x_push 1 rfl ?_
  refine x_iadd ?_
  refine x_putIG y_f124_13 ⟨by decide, rfl⟩ (by decide) C2 (by decide) F2 (by omega) (by omega) (fun S3 e3 C3 F3 => ?_)
  refine x_aload rfl ?_
  refine x_getR (r := 124) rfl (by decide) (by decide) rfl ?_
  refine x_iload rfl ?_
  refine x_push 0 rfl ?_
  refine x_astG y_a131 C3 (by decide) F3 (by omega) (by omega) (by omega) (by omega) (fun S4 e4 C4 F4 => ?_)
  refine x_aload rfl ?_
  refine x_getR (r := 124) rfl (by decide) (by decide) rfl ?_
  refine x_iload rfl ?_
  refine x_push 0 rfl ?_
  refine x_astG y_a132 C4 (by decide) F4 (by omega) (by omega) (by omega) (by omega) (fun S5 e5 C5 F5 => ?_)
  refine x_push 0 rfl ?_
  refine x_istore ?_
  refine x_fall ?_
  refine x_G_lo (lo' := [(0, x_R 124), (1, x_I _), (2, x_I _), (3, x_I _)]) ⟨rfl, rfl, rfl, rfl, trivial⟩ ?_
  exact sf_79_124_b4 a1l a1h a2l a2h C0 k  _ _ _ rfl (by omega) (by omega)  C5 F5
theorem sf_66_124_4_b8 {E : q_E} {σ : x_S} {Q : Option q_V → x_S → Prop} {a2 a3 : Int} (a2l : (-2147483648) ≤ a2) (a2h : a2 ≤ 2147483647) (a3l : (-2147483648) ≤ a3) (a3h : a3 ≤ 2147483647) (C0 : y_CI σ) (k : ∀ n, Q (some (x_N n)) σ) {c kq : Int} (cL : 0 ≤ c) (cH : c ≤ 2) (kqL : 0 ≤ kq) (kqH : kq ≤ 3) (ho : ∀ (c' kq' : Int) (ty' : Nat), (4 - kq').toNat < (4 - kq).toNat → 0 ≤ c' → c' ≤ 2 → 0 ≤ kq' → kq' ≤ 4 → c' ≤ a3 → a3 ≤ 7 → x_G E m_66 Q (t_66 9) [(0, x_R 124), (1, x_R 4), (2, x_I a2), (3, x_I a3), (4, x_I c'), (5, x_N ty'), (7, x_I kq')] [] σ) : ∀ (N : Nat) (h : Int) (ty : Nat) (so : Nat), (2 - h).toNat = N → 0 ≤ h → h ≤ 2 → h ≤ c → c ≤ a3 → a3 ≤ 7 → x_G E m_66 Q (t_66 8) [(0, x_R 124), (1, x_R 4), (2, x_I a2), (3, x_I a3), (4, x_I c), (5, x_N ty), (7, x_I kq), (8, x_N so), (10, x_I h)] [] σ := by
  intro N
  induction N using Nat.strongRecOn with
  | ind N ih =>
    intro h ty so hN hL hH ex0 ex1 ex2
    refine x_blk (b := 8) (a_66 E) rfl ?_
    unfold b_66_8
    refine x_iload rfl ?_
    refine x_iload rfl ?_
    refine x_icmp_ge (by omega) (by omega) (by omega) (by omega) (fun z1 => ?_) (fun z1 => ?_)
    · skip
      refine x_aload rfl ?_
      refine x_getR (r := 124) rfl (by decide) (by decide) rfl ?_
      refine x_iload rfl ?_
      refine x_push 1 rfl ?_
      refine x_isub ?_
      refine x_iload rfl ?_
      refine x_isub ?_
      refine x_lald (r := 136) (n := 7) rfl rfl (by decide) (by omega) (by omega) (fun n2 => ?_)
      refine x_lstore ?_
      refine x_lloadN rfl ?_
      refine x_iload rfl ?_
      refine x_iload rfl ?_
      refine x_push 1 rfl ?_
      refine x_isub ?_
      refine x_iload rfl ?_
      refine x_isub ?_
      refine x_shrF (by omega) (by omega) (by omega) (by omega) (fun v3 v3a v3b => ?_)
      refine x_push 1 rfl ?_
      refine x_iandM (by omega) (by omega) (fun v4 v4a v4b => ?_)
      refine x_push 1 rfl ?_
      refine x_icmp_ne (by omega) (by omega) (by omega) (by omega) (fun z5 => ?_) (fun z5 => ?_)
      · skip
        refine x_lloadN rfl ?_
        refine x_goto ?_
        refine x_blk (b := 7) (a_66 E) rfl ?_
        unfold b_66_7
        refine x_lbin (fun n6 => ?_)
        refine x_lstore ?_
        refine x_X_lo (lo' := [(0, x_R 124), (1, x_R 4), (2, x_I _), (3, x_I _), (4, x_I _), (5, x_N _), (7, x_I _), (8, x_N _), (10, x_I _), (11, x_N _)]) ⟨rfl, rfl, rfl, rfl, rfl, rfl, rfl, rfl, rfl, rfl, trivial⟩ ?_
        refine x_iinc 1 rfl rfl ?_
        refine x_goto ?_
        refine x_G_lo (lo' := [(0, x_R 124), (1, x_R 4), (2, x_I _), (3, x_I _), (4, x_I _), (5, x_N _), (7, x_I _), (8, x_N _), (10, x_I _)]) ⟨rfl, rfl, rfl, rfl, rfl, rfl, rfl, rfl, rfl, trivial⟩ ?_
        exact ih _ (by omega) _ _ _  rfl (by omega) (by omega) (by omega) (by omega) (by omega) 
      · skip
        refine x_blk (b := 6) (a_66 E) rfl ?_
        unfold b_66_6
        refine x_lloadN rfl ?_
        refine x_pushv ?_
        refine x_lbin (fun n7 => ?_)
        refine x_fall ?_
        refine x_blk (b := 7) (a_66 E) rfl ?_
        unfold b_66_7
        refine x_lbin (fun n8 => ?_)
        refine x_lstore ?_
        refine x_X_lo (lo' := [(0, x_R 124), (1, x_R 4), (2, x_I _), (3, x_I _), (4, x_I _), (5, x_N _), (7, x_I _), (8, x_N _), (10, x_I _), (11, x_N _)]) ⟨rfl, rfl, rfl, rfl, rfl, rfl, rfl, rfl, rfl, rfl, trivial⟩ ?_
        refine x_iinc 1 rfl rfl ?_
        refine x_goto ?_
        refine x_G_lo (lo' := [(0, x_R 124), (1, x_R 4), (2, x_I _), (3, x_I _), (4, x_I _), (5, x_N _), (7, x_I _), (8, x_N _), (10, x_I _)]) ⟨rfl, rfl, rfl, rfl, rfl, rfl, rfl, rfl, rfl, trivial⟩ ?_
        exact ih _ (by omega) _ _ _  rfl (by omega) (by omega) (by omega) (by omega) (by omega) 
    · skip
      refine x_blk (b := 5) (a_66 E) rfl ?_
      unfold b_66_5
      refine x_lloadN rfl ?_
      refine x_lloadN rfl ?_
      refine x_lbin (fun n9 => ?_)
      refine x_lstore ?_
      refine x_fall ?_
      refine x_blk (b := 4) (a_66 E) rfl ?_
      unfold b_66_4
      refine x_iinc 1 rfl rfl ?_
      refine x_X_lo (lo' := [(0, x_R 124), (1, x_R 4), (2, x_I _), (3, x_I _), (4, x_I _), (5, x_N _), (7, x_I _), (8, x_N _), (10, x_I _)]) ⟨rfl, rfl, rfl, rfl, rfl, rfl, rfl, rfl, rfl, trivial⟩ ?_
      refine x_goto ?_
      refine x_G_lo (lo' := [(0, x_R 124), (1, x_R 4), (2, x_I _), (3, x_I _), (4, x_I _), (5, x_N _), (7, x_I _)]) ⟨rfl, rfl, rfl, rfl, rfl, rfl, rfl, trivial⟩ ?_
      exact ho _ _ _  (by omega) (by omega) (by omega) (by omega) (by omega) (by omega) (by omega) 
theorem sf_66_124_4_b9 {E : q_E} {σ : x_S} {Q : Option q_V → x_S → Prop} {a2 a3 : Int} (a2l : (-2147483648) ≤ a2) (a2h : a2 ≤ 2147483647) (a3l : (-2147483648) ≤ a3) (a3h : a3 ≤ 2147483647) (C0 : y_CI σ) (k : ∀ n, Q (some (x_N n)) σ) : ∀ (N : Nat) (c kq : Int) (ty : Nat), (4 - kq).toNat = N → 0 ≤ c → c ≤ 2 → 0 ≤ kq → kq ≤ 4 → c ≤ a3 → a3 ≤ 7 → x_G E m_66 Q (t_66 9) [(0, x_R 124), (1, x_R 4), (2, x_I a2), (3, x_I a3), (4, x_I c), (5, x_N ty), (7, x_I kq)] [] σ := by
  intro N
  induction N using Nat.strongRecOn with
  | ind N ih =>
    intro c kq ty hN cL cH kqL kqH ex0 ex1
    refine x_blk (b := 9) (a_66 E) rfl ?_
    unfold b_66_9
    refine x_iload rfl ?_
    refine x_push 1 rfl ?_
    refine x_iload rfl ?_
    refine x_shl1G (by omega) (by omega) (fun v1 v1a v1b => ?_)
    refine x_icmp_ge (by omega) (by omega) (by omega) (by omega) (fun z2 => ?_) (fun z2 => ?_)
    · skip
      refine x_aload rfl ?_
      refine x_push 1 rfl ?_
      refine x_iload rfl ?_
      refine x_iload rfl ?_
      refine x_cV (fun _ => rfl) rfl (by decide) (Nat.le_of_ble_eq_true rfl) ?_
      refine sf_30_4 (by omega) (by omega) (by omega) (by omega) (by omega) (by omega) C0 (fun v3 v3a v3b => ?_)
      refine x_push 1 rfl ?_
      refine x_icmp_ne (by omega) (by omega) (by omega) (by omega) (fun z4 => ?_) (fun z4 => ?_)
      · skip
        refine x_pushv ?_
        refine x_lstore ?_
        refine x_push 0 rfl ?_
        refine x_istore ?_
        refine x_X_lo (lo' := [(0, x_R 124), (1, x_R 4), (2, x_I _), (3, x_I _), (4, x_I _), (5, x_N _), (7, x_I _), (8, x_N _), (10, x_I _)]) ⟨rfl, rfl, rfl, rfl, rfl, rfl, rfl, rfl, rfl, trivial⟩ ?_
        refine x_fall ?_
        refine x_G_lo (lo' := [(0, x_R 124), (1, x_R 4), (2, x_I _), (3, x_I _), (4, x_I _), (5, x_N _), (7, x_I _), (8, x_N _), (10, x_I _)]) ⟨rfl, rfl, rfl, rfl, rfl, rfl, rfl, rfl, rfl, trivial⟩ ?_
        exact sf_66_124_4_b8 a2l a2h a3l a3h C0 k (by omega) (by omega) (by omega) (by omega) (fun x0 x1 x2 z h0 h1 h2 h3 h4 h5 => ih _ (by omega) x0 x1 x2 rfl h0 h1 h2 h3 h4 h5) _ _ _ _  rfl (by omega) (by omega) (by omega) (by omega) (by omega) 
      · skip
        refine x_blk (b := 4) (a_66 E) rfl ?_
        unfold b_66_4
        refine x_iinc 1 rfl rfl ?_
        refine x_goto ?_
        refine x_G_lo (lo' := [(0, x_R 124), (1, x_R 4), (2, x_I _), (3, x_I _), (4, x_I _), (5, x_N _), (7, x_I _)]) ⟨rfl, rfl, rfl, rfl, rfl, rfl, rfl, trivial⟩ ?_
        exact ih _ (by omega) _ _ _  rfl (by omega) (by omega) (by omega) (by omega) (by omega) (by omega) 
    · skip
      refine x_blk (b := 3) (a_66 E) rfl ?_
      unfold b_66_3
      refine x_lloadN rfl ?_
      refine x_lret ?_
      exact k _
theorem sf_66_124_4 {E : q_E} {σ : x_S} {Q : Option q_V → x_S → Prop} {a2 a3 : Int} (a2l : (-2147483648) ≤ a2) (a2h : a2 ≤ 2147483647) (a3l : (-2147483648) ≤ a3) (a3h : a3 ≤ 2147483647) (C0 : y_CI σ) (k : ∀ n, Q (some (x_N n)) σ) : x_P E 66 [x_R 124, x_R 4, x_I a2, x_I a3] σ Q := by
  refine x_Mt e_66 (h_66 E) (Nat.le_of_ble_eq_true rfl) t_66 rfl ?_
  refine x_blk (b := 0) (a_66 E) rfl ?_
  unfold b_66_0
  refine x_iload rfl ?_
  refine x_cS (fun _ => rfl) (Nat.le_of_ble_eq_true rfl) ?_
  refine sf_7 (by omega) (by omega) C0 (fun v1 v1a v1b => ?_)
  refine x_istore ?_
  refine x_iload rfl ?_
  refine x_iload rfl ?_
  refine x_icmp_lt (by omega) (by omega) (by omega) (by omega) (fun z2 => ?_) (fun z2 => ?_)
  · skip
    refine x_blk (b := 1) (a_66 E) rfl ?_
    unfold b_66_1
    refine x_pushv ?_
    refine x_lret ?_
    exact k _
  · skip
    refine x_iload rfl ?_
    refine x_push 7 rfl ?_
    refine x_icmp_le (by omega) (by omega) (by omega) (by omega) (fun z3 => ?_) (fun z3 => ?_)
    · skip
      refine x_blk (b := 2) (a_66 E) rfl ?_
      unfold b_66_2
      refine x_pushv ?_
      refine x_lstore ?_
      refine x_X_lo (lo' := [(0, x_R 124), (1, x_R 4), (2, x_I _), (3, x_I _), (4, x_I _), (5, x_N _)]) ⟨rfl, rfl, rfl, rfl, rfl, rfl, trivial⟩ ?_
      refine x_push 0 rfl ?_
      refine x_istore ?_
      refine x_fall ?_
      refine x_G_lo (lo' := [(0, x_R 124), (1, x_R 4), (2, x_I _), (3, x_I _), (4, x_I _), (5, x_N _), (7, x_I _)]) ⟨rfl, rfl, rfl, rfl, rfl, rfl, rfl, trivial⟩ ?_
      exact sf_66_124_4_b9 a2l a2h a3l a3h C0 k  _ _ _ _  rfl (by omega) (by omega) (by omega) (by omega) (by omega) (by omega) 
    · skip
      refine x_fall ?_
      refine x_blk (b := 1) (a_66 E) rfl ?_
      unfold b_66_1
      refine x_pushv ?_
      refine x_lret ?_
      exact k _
theorem sf_65_124_4_b7 {E : q_E} {σ : x_S} {Q : Option q_V → x_S → Prop} {a2 : Int} (a2l : 0 ≤ a2) (a2h : a2 ≤ 15) (C0 : y_CI σ) (k : ∀ τ, y_CI τ → y_fq 134 137 σ τ → Q none τ) : ∀ (N : Nat) (f h c i : Int) (τ : x_S), (i + 1).toNat = N → 0 ≤ f → f ≤ 15 → (-2147483648) ≤ h → h ≤ 2147483647 → (-2147483648) ≤ c → c ≤ 2147483647 → (-1) ≤ i → i ≤ 14 → y_CI τ → y_fq 134 137 σ τ → x_G E m_65 Q (t_65 7) [(0, x_R 124), (1, x_R 4), (2, x_I a2), (3, x_I f), (4, x_I h), (5, x_I c), (6, x_I i)] [] τ := by
  intro N
  induction N using Nat.strongRecOn with
  | ind N ih =>
    intro f h c i τ hN fL fH hL hH cL cH iL iH C F
    refine x_blk (b := 7) (a_65 E) rfl ?_
    unfold b_65_7
    refine x_iload rfl ?_
    refine x_if_lt (by omega) (by omega) (fun z1 => ?_) (fun z1 => ?_)
    · skip
      refine x_blk (b := 1) (a_65 E) rfl ?_
      unfold b_65_1
      refine x_aload rfl ?_
      refine x_getR (r := 124) rfl (by decide) (by decide) rfl ?_
      refine x_iload rfl ?_
      refine x_iload rfl ?_
      refine x_astG y_a134 C (by decide) F (by omega) (by omega) (by omega) (by omega) (fun S2 e2 C2 F2 => ?_)
      refine x_aload rfl ?_
      refine x_getR (r := 124) rfl (by decide) (by decide) rfl ?_
      refine x_iload rfl ?_
      refine x_aload rfl ?_
      refine x_getR (r := 124) rfl (by decide) (by decide) rfl ?_
      refine x_push 0 rfl ?_
      refine x_lald (r := 136) (n := 7) rfl rfl (by decide) (by omega) (by omega) (fun n3 => ?_)
      refine x_lastG (r := 135) (n := 16) rfl rfl (by decide) (fun _ => rfl) (by decide) C2 (by decide) F2 (by omega) (by omega) (fun S4 vl4 e4 C4 F4 => ?_)
      refine x_vret ?_
      exact k _ C4 F4 
    · skip
      refine x_aload rfl ?_
      refine x_iload rfl ?_
      refine x_iload rfl ?_
      refine x_cV (fun _ => rfl) rfl (by decide) (Nat.le_of_ble_eq_true rfl) ?_
      refine sf_53_4 (by omega) (by omega) (by omega) (by omega) C (fun v5 v5a v5b => ?_)
      refine x_istore ?_
      refine x_iload rfl ?_
      refine x_push 10 rfl ?_
      refine x_icmp_lt (by omega) (by omega) (by omega) (by omega) (fun z6 => ?_) (fun z6 => ?_)
      · skip
        refine x_blk (b := 2) (a_65 E) rfl ?_
        unfold b_65_2
        refine x_aload rfl ?_
        refine x_aload rfl ?_
        refine x_iload rfl ?_
        refine x_iload rfl ?_
        refine x_cV (fun _ => rfl) rfl (by decide) (Nat.le_of_ble_eq_true rfl) ?_
        refine sf_66_124_4 (by omega) (by omega) (by omega) (by omega) C (fun n7 => ?_)
        refine x_lstore ?_
        refine x_X_lo (lo' := [(0, x_R 124), (1, x_R 4), (2, x_I _), (3, x_I _), (4, x_I _), (5, x_I _), (6, x_I _), (7, x_I _), (8, x_N _)]) ⟨rfl, rfl, rfl, rfl, rfl, rfl, rfl, rfl, rfl, trivial⟩ ?_
        refine x_iload rfl ?_
        refine x_iload rfl ?_
        refine x_cS (fun _ => rfl) (Nat.le_of_ble_eq_true rfl) ?_
        refine sf_7 (by omega) (by omega) C (fun v8 v8a v8b => ?_)
        refine x_isub ?_
        refine x_wrp (fun v9 v9a v9b => ?_)
        refine x_istore ?_
        refine x_fall ?_
        refine x_blk (b := 5) (a_65 E) rfl ?_
        unfold b_65_5
        refine x_iload rfl ?_
        refine x_push 7 rfl ?_
        refine x_cS (fun _ => rfl) (Nat.le_of_ble_eq_true rfl) ?_
        refine sf_2 (by omega) (by omega) (by omega) (by omega) C (fun y10 => ?_) (fun y10 => ?_)
        · skip
          refine x_if_eq (by omega) (by omega) (fun z => absurd z (by omega)) (fun z11 => ?_)
          refine x_aload rfl ?_
          refine x_getR (r := 124) rfl (by decide) (by decide) rfl ?_
          refine x_iload rfl ?_
          refine x_lloadN rfl ?_
          refine x_lastG (r := 136) (n := 7) rfl rfl (by decide) (fun _ => rfl) (by decide) C (by decide) F (by omega) (by omega) (fun S12 vl12 e12 C12 F12 => ?_)
          refine x_iinc 1 rfl rfl ?_
          refine x_X_lo (lo' := [(0, x_R 124), (1, x_R 4), (2, x_I _), (3, x_I _), (4, x_I _), (5, x_I _), (6, x_I _), (7, x_I _), (8, x_N _)]) ⟨rfl, rfl, rfl, rfl, rfl, rfl, rfl, rfl, rfl, trivial⟩ ?_
          refine x_fall ?_
          refine x_blk (b := 6) (a_65 E) rfl ?_
          unfold b_65_6
          refine x_iinc (-1) rfl rfl ?_
          refine x_goto ?_
          refine x_G_lo (lo' := [(0, x_R 124), (1, x_R 4), (2, x_I _), (3, x_I _), (4, x_I _), (5, x_I _), (6, x_I _)]) ⟨rfl, rfl, rfl, rfl, rfl, rfl, rfl, trivial⟩ ?_
          exact ih _ (by omega) _ _ _ _ _ rfl (by omega) (by omega) (by omega) (by omega) (by omega) (by omega) (by omega) (by omega)  C12 F12
        · skip
          refine x_if_eq (by omega) (by omega) (fun z13 => ?_) (fun z => absurd (by omega) z)
          refine x_blk (b := 6) (a_65 E) rfl ?_
          unfold b_65_6
          refine x_iinc (-1) rfl rfl ?_
          refine x_X_lo (lo' := [(0, x_R 124), (1, x_R 4), (2, x_I _), (3, x_I _), (4, x_I _), (5, x_I _), (6, x_I _), (7, x_I _), (8, x_N _)]) ⟨rfl, rfl, rfl, rfl, rfl, rfl, rfl, rfl, rfl, trivial⟩ ?_
          refine x_goto ?_
          refine x_G_lo (lo' := [(0, x_R 124), (1, x_R 4), (2, x_I _), (3, x_I _), (4, x_I _), (5, x_I _), (6, x_I _)]) ⟨rfl, rfl, rfl, rfl, rfl, rfl, rfl, trivial⟩ ?_
          exact ih _ (by omega) _ _ _ _ _ rfl (by omega) (by omega) (by omega) (by omega) (by omega) (by omega) (by omega) (by omega)  C F
      · skip
        refine x_push 3 rfl ?_
        refine x_aload rfl ?_
        refine x_aload rfl ?_
        refine x_getIG y_f124_0 C ?_
        intro g14a g14b
        refine x_iload rfl ?_
        refine x_iload rfl ?_
        refine x_cV (fun _ => rfl) rfl (by decide) (Nat.le_of_ble_eq_true rfl) ?_
        refine sf_69_4 (by omega) (by omega) (by omega) (by omega) (by omega) (by omega) C (fun v15 v15a v15b => ?_)
        refine x_imul ?_
        refine x_iload rfl ?_
        refine x_cS (fun _ => rfl) (Nat.le_of_ble_eq_true rfl) ?_
        refine sf_68 (by omega) (by omega) C (fun v16 v16a v16b => ?_)
        refine x_iadd ?_
        refine x_istore ?_
        refine x_X_lo (lo' := [(0, x_R 124), (1, x_R 4), (2, x_I _), (3, x_I _), (4, x_I _), (5, x_I _), (6, x_I _), (7, x_I _), (10, x_I _)]) ⟨rfl, rfl, rfl, rfl, rfl, rfl, rfl, rfl, rfl, trivial⟩ ?_
        refine x_iload rfl ?_
        refine x_push 1 rfl ?_
        refine x_iload rfl ?_
        refine x_shlF (by omega) (by omega) (fun v17 v17a v17b => ?_)
        refine x_iorF (fun v18 v18a v18b => ?_)
        refine x_istore ?_
        refine x_iload rfl ?_
        refine x_pushv ?_
        refine x_lenZ ?_
        refine x_cS (fun _ => rfl) (Nat.le_of_ble_eq_true rfl) ?_
        refine sf_2 (by omega) (by omega) (by omega) (by omega) C (fun y19 => ?_) (fun y19 => ?_)
        · skip
          refine x_if_eq (by omega) (by omega) (fun z => absurd z (by omega)) (fun z20 => ?_)
          refine x_pushv ?_
          refine x_iload rfl ?_
          refine x_lwhe (by omega) (by omega) (fun n21 => ?_)
          refine x_goto ?_
          refine x_blk (b := 4) (a_65 E) rfl ?_
          unfold b_65_4
          refine x_lstore ?_
          refine x_X_lo (lo' := [(0, x_R 124), (1, x_R 4), (2, x_I _), (3, x_I _), (4, x_I _), (5, x_I _), (6, x_I _), (7, x_I _), (8, x_N _), (10, x_I _)]) ⟨rfl, rfl, rfl, rfl, rfl, rfl, rfl, rfl, rfl, rfl, trivial⟩ ?_
          refine x_goto ?_
          refine x_blk (b := 5) (a_65 E) rfl ?_
          unfold b_65_5
          refine x_iload rfl ?_
          refine x_push 7 rfl ?_
          refine x_cS (fun _ => rfl) (Nat.le_of_ble_eq_true rfl) ?_
          refine sf_2 (by omega) (by omega) (by omega) (by omega) C (fun y22 => ?_) (fun y22 => ?_)
          · skip
            refine x_if_eq (by omega) (by omega) (fun z => absurd z (by omega)) (fun z23 => ?_)
            refine x_aload rfl ?_
            refine x_getR (r := 124) rfl (by decide) (by decide) rfl ?_
            refine x_iload rfl ?_
            refine x_lloadN rfl ?_
            refine x_lastG (r := 136) (n := 7) rfl rfl (by decide) (fun _ => rfl) (by decide) C (by decide) F (by omega) (by omega) (fun S24 vl24 e24 C24 F24 => ?_)
            refine x_iinc 1 rfl rfl ?_
            refine x_fall ?_
            refine x_blk (b := 6) (a_65 E) rfl ?_
            unfold b_65_6
            refine x_iinc (-1) rfl rfl ?_
            refine x_X_lo (lo' := [(0, x_R 124), (1, x_R 4), (2, x_I _), (3, x_I _), (4, x_I _), (5, x_I _), (6, x_I _), (7, x_I _), (8, x_N _), (10, x_I _)]) ⟨rfl, rfl, rfl, rfl, rfl, rfl, rfl, rfl, rfl, rfl, trivial⟩ ?_
            refine x_goto ?_
            refine x_G_lo (lo' := [(0, x_R 124), (1, x_R 4), (2, x_I _), (3, x_I _), (4, x_I _), (5, x_I _), (6, x_I _)]) ⟨rfl, rfl, rfl, rfl, rfl, rfl, rfl, trivial⟩ ?_
            exact ih _ (by omega) _ _ _ _ _ rfl (by omega) (by omega) (by omega) (by omega) (by omega) (by omega) (by omega) (by omega)  C24 F24
          · skip
            refine x_if_eq (by omega) (by omega) (fun z25 => ?_) (fun z => absurd (by omega) z)
            refine x_blk (b := 6) (a_65 E) rfl ?_
            unfold b_65_6
            refine x_iinc (-1) rfl rfl ?_
            refine x_goto ?_
            refine x_G_lo (lo' := [(0, x_R 124), (1, x_R 4), (2, x_I _), (3, x_I _), (4, x_I _), (5, x_I _), (6, x_I _)]) ⟨rfl, rfl, rfl, rfl, rfl, rfl, rfl, trivial⟩ ?_
            exact ih _ (by omega) _ _ _ _ _ rfl (by omega) (by omega) (by omega) (by omega) (by omega) (by omega) (by omega) (by omega)  C F
        · skip
          refine x_if_eq (by omega) (by omega) (fun z26 => ?_) (fun z => absurd (by omega) z)
          refine x_blk (b := 3) (a_65 E) rfl ?_
          unfold b_65_3
          refine x_pushv ?_
          refine x_fall ?_
          refine x_blk (b := 4) (a_65 E) rfl ?_
          unfold b_65_4
          refine x_lstore ?_
          refine x_X_lo (lo' := [(0, x_R 124), (1, x_R 4), (2, x_I _), (3, x_I _), (4, x_I _), (5, x_I _), (6, x_I _), (7, x_I _), (8, x_N _), (10, x_I _)]) ⟨rfl, rfl, rfl, rfl, rfl, rfl, rfl, rfl, rfl, rfl, trivial⟩ ?_
          refine x_goto ?_
          refine x_blk (b := 5) (a_65 E) rfl ?_
          unfold b_65_5
          refine x_iload rfl ?_
          refine x_push 7 rfl ?_
          refine x_cS (fun _ => rfl) (Nat.le_of_ble_eq_true rfl) ?_
          refine sf_2 (by omega) (by omega) (by omega) (by omega) C (fun y27 => ?_) (fun y27 => ?_)
          · skip
            refine x_if_eq (by omega) (by omega) (fun z => absurd z (by omega)) (fun z28 => ?_)
            refine x_aload rfl ?_
            refine x_getR (r := 124) rfl (by decide) (by decide) rfl ?_
            refine x_iload rfl ?_
            refine x_lloadN rfl ?_
            refine x_lastG (r := 136) (n := 7) rfl rfl (by decide) (fun _ => rfl) (by decide) C (by decide) F (by omega) (by omega) (fun S29 vl29 e29 C29 F29 => ?_)
            refine x_iinc 1 rfl rfl ?_
            refine x_fall ?_
            refine x_blk (b := 6) (a_65 E) rfl ?_
            unfold b_65_6
            refine x_iinc (-1) rfl rfl ?_
            refine x_X_lo (lo' := [(0, x_R 124), (1, x_R 4), (2, x_I _), (3, x_I _), (4, x_I _), (5, x_I _), (6, x_I _), (7, x_I _), (8, x_N _), (10, x_I _)]) ⟨rfl, rfl, rfl, rfl, rfl, rfl, rfl, rfl, rfl, rfl, trivial⟩ ?_
            refine x_goto ?_
            refine x_G_lo (lo' := [(0, x_R 124), (1, x_R 4), (2, x_I _), (3, x_I _), (4, x_I _), (5, x_I _), (6, x_I _)]) ⟨rfl, rfl, rfl, rfl, rfl, rfl, rfl, trivial⟩ ?_
            exact ih _ (by omega) _ _ _ _ _ rfl (by omega) (by omega) (by omega) (by omega) (by omega) (by omega) (by omega) (by omega)  C29 F29
          · skip
            refine x_if_eq (by omega) (by omega) (fun z30 => ?_) (fun z => absurd (by omega) z)
            refine x_blk (b := 6) (a_65 E) rfl ?_
            unfold b_65_6
            refine x_iinc (-1) rfl rfl ?_
            refine x_goto ?_
            refine x_G_lo (lo' := [(0, x_R 124), (1, x_R 4), (2, x_I _), (3, x_I _), (4, x_I _), (5, x_I _), (6, x_I _)]) ⟨rfl, rfl, rfl, rfl, rfl, rfl, rfl, trivial⟩ ?_
            exact ih _ (by omega) _ _ _ _ _ rfl (by omega) (by omega) (by omega) (by omega) (by omega) (by omega) (by omega) (by omega)  C F
theorem sf_65_124_4 {E : q_E} {σ : x_S} {Q : Option q_V → x_S → Prop} {a2 : Int} (a2l : 0 ≤ a2) (a2h : a2 ≤ 15) (C0 : y_CI σ) (k : ∀ τ, y_CI τ → y_fq 134 137 σ τ → Q none τ) : x_P E 65 [x_R 124, x_R 4, x_I a2] σ Q := by
  refine x_Mt e_65 (h_65 E) (Nat.le_of_ble_eq_true rfl) t_65 rfl ?_
  refine x_blk (b := 0) (a_65 E) rfl ?_
  unfold b_65_0
  refine x_aload rfl ?_
  refine x_iload rfl ?_
  refine x_push 2 rfl ?_
  refine x_cV (fun _ => rfl) rfl (by decide) (Nat.le_of_ble_eq_true rfl) ?_
  refine sf_6_4 (by omega) (by omega) (by omega) (by omega) C0 (fun v1 v1a v1b => ?_)
  refine x_istore ?_
  refine x_push 0 rfl ?_
  refine x_istore ?_
  refine x_X_lo (lo' := [(0, x_R 124), (1, x_R 4), (2, x_I _), (3, x_I _), (4, x_I _)]) ⟨rfl, rfl, rfl, rfl, rfl, trivial⟩ ?_
  refine x_push 0 rfl ?_
  refine x_istore ?_
  refine x_aload rfl ?_
  refine x_iload rfl ?_
  refine x_push 4 rfl ?_
  refine x_cV (fun _ => rfl) rfl (by decide) (Nat.le_of_ble_eq_true rfl) ?_
  refine sf_6_4 (by omega) (by omega) (by omega) (by omega) C0 (fun v2 v2a v2b => ?_)
  refine x_push 1 rfl ?_
  refine x_isub ?_
  refine x_istore ?_
  refine x_X_lo (lo' := [(0, x_R 124), (1, x_R 4), (2, x_I _), (3, x_I _), (4, x_I _), (5, x_I _), (6, x_I _)]) ⟨rfl, rfl, rfl, rfl, rfl, rfl, rfl, trivial⟩ ?_
  refine x_fall ?_
  refine x_G_lo (lo' := [(0, x_R 124), (1, x_R 4), (2, x_I _), (3, x_I _), (4, x_I _), (5, x_I _), (6, x_I _)]) ⟨rfl, rfl, rfl, rfl, rfl, rfl, rfl, trivial⟩ ?_
  exact sf_65_124_4_b7 a2l a2h C0 k  _ _ _ _ _ _ rfl (by omega) (by omega) (by omega) (by omega) (by omega) (by omega) (by omega) (by omega)  C0 (y_fr_rf (lo := 134) (hi := 137))
theorem sf_27_128_b2 {E : q_E} {σ : x_S} {Q : Option q_V → x_S → Prop} {a1 : Int} (a1l : 0 ≤ a1) (a1h : a1 ≤ 41) (C0 : y_CI σ) (k : ∀ τ, y_CI τ → y_fq 128 129 σ τ → Q none τ) : ∀ (N : Nat) (i : Int) (τ : x_S), (100 - i).toNat = N → 0 ≤ i → i ≤ 100 → y_CI τ → y_fq 128 129 σ τ → x_G E m_27 Q (t_27 2) [(0, x_R 128), (1, x_I a1), (2, x_I i), (3, x_I 54)] [] τ := by
  intro N
  induction N using Nat.strongRecOn with
  | ind N ih =>
    intro i τ hN iL iH C F
    refine x_blk (b := 2) (a_27 E) rfl ?_
    unfold b_27_2
    refine x_iload rfl ?_
    refine x_iload rfl ?_
    refine x_icmp_ge (by omega) (by omega) (by omega) (by omega) (fun z1 => ?_) (fun z1 => ?_)
    · skip
      refine x_aload rfl ?_
      refine x_iload rfl ?_
      refine x_iload rfl ?_
      refine x_astG y_a128 C (by decide) F (by omega) (by omega) (by omega) (by omega) (fun S2 e2 C2 F2 => ?_)
      refine x_iinc 1 rfl rfl ?_
      refine x_goto ?_
      refine x_G_lo (lo' := [(0, x_R 128), (1, x_I _), (2, x_I _), (3, x_I _)]) ⟨rfl, rfl, rfl, rfl, trivial⟩ ?_
      exact ih _ (by omega) _ _ rfl (by omega) (by omega)  C2 F2
    · skip
      refine x_blk (b := 1) (a_27 E) rfl ?_
      unfold b_27_1
      refine x_vret ?_
      exact k _ C F 
theorem sf_27_128 {E : q_E} {σ : x_S} {Q : Option q_V → x_S → Prop} {a1 : Int} (a1l : 0 ≤ a1) (a1h : a1 ≤ 41) (C0 : y_CI σ) (k : ∀ τ, y_CI τ → y_fq 128 129 σ τ → Q none τ) : x_P E 27 [x_R 128, x_I a1] σ Q := by
  refine x_Mt e_27 (h_27 E) (Nat.le_of_ble_eq_true rfl) t_27 rfl ?_
  refine x_blk (b := 0) (a_27 E) rfl ?_
  unfold b_27_0
  refine x_push 0 rfl ?_
  refine x_istore ?_
  refine x_aload rfl ?_
  refine x_lenG (n := 54) (L := 54) rfl (by decide) rfl (by decide) rfl ?_
  refine x_istore ?_
  refine x_X_lo (lo' := [(0, x_R 128), (1, x_I _), (2, x_I _), (3, x_I _)]) ⟨rfl, rfl, rfl, rfl, trivial⟩ ?_
  refine x_fall ?_
  refine x_G_lo (lo' := [(0, x_R 128), (1, x_I _), (2, x_I _), (3, x_I _)]) ⟨rfl, rfl, rfl, rfl, trivial⟩ ?_
  exact sf_27_128_b2 a1l a1h C0 k  _ _ _ rfl (by omega) (by omega)  C0 (y_fr_rf (lo := 128) (hi := 129))
theorem sf_110_124_4_b7 {E : q_E} {σ : x_S} {Q : Option q_V → x_S → Prop} (C0 : y_CI σ) (k : ∀ τ, y_CI τ → y_fq 124 137 σ τ → Q none τ) : ∀ (N : Nat) (i : Int) (τ : x_S), (30 - i).toNat = N → 0 ≤ i → i ≤ 30 → y_CI τ → y_fq 124 137 σ τ → x_G E m_110 Q (t_110 7) [(0, x_R 124), (1, x_R 4), (2, x_I i)] [] τ := by
  intro N
  induction N using Nat.strongRecOn with
  | ind N ih =>
    intro i τ hN iL iH C F
    refine x_blk (b := 7) (a_110 E) rfl ?_
    unfold b_110_7
    refine x_iload rfl ?_
    refine x_aload rfl ?_
    refine x_getR (r := 124) rfl (by decide) (by decide) rfl ?_
    refine x_lenG (n := 30) (L := 30) rfl (by decide) rfl (by decide) rfl ?_
    refine x_icmp_ge (by omega) (by omega) (by omega) (by omega) (fun z1 => ?_) (fun z1 => ?_)
    · skip
      refine x_aload rfl ?_
      refine x_getR (r := 124) rfl (by decide) (by decide) rfl ?_
      refine x_iload rfl ?_
      refine x_aload rfl ?_
      refine x_aload rfl ?_
      refine x_getIG y_f124_0 C ?_
      intro g2a g2b
      refine x_iload rfl ?_
      refine x_push 3 rfl ?_
      refine x_irem (by omega) (by omega) (by omega) (by omega) ?_
      refine x_iload rfl ?_
      refine x_push 3 rfl ?_
      refine x_idiv (by omega) (by omega) (by omega) (by omega) ?_
      refine x_push 2 rfl ?_
      refine x_idiv (by omega) (by omega) (by omega) (by omega) ?_
      refine x_iload rfl ?_
      refine x_push 3 rfl ?_
      refine x_idiv (by omega) (by omega) (by omega) (by omega) ?_
      refine x_push 2 rfl ?_
      refine x_irem (by omega) (by omega) (by omega) (by omega) ?_
      refine x_cV (fun _ => rfl) rfl (by decide) (Nat.le_of_ble_eq_true rfl) ?_
      refine sf_46_4 (by omega) (by omega) (by omega) (by omega) (by omega) (by omega) (by omega) (by omega) C (fun v3 v3a v3b => ?_)
      refine x_astG y_a133 C (by decide) F (by omega) (by omega) (by omega) (by omega) (fun S4 e4 C4 F4 => ?_)
      refine x_iinc 1 rfl rfl ?_
      refine x_goto ?_
      refine x_G_lo (lo' := [(0, x_R 124), (1, x_R 4), (2, x_I _)]) ⟨rfl, rfl, rfl, trivial⟩ ?_
      exact ih _ (by omega) _ _ rfl (by omega) (by omega)  C4 F4
    · skip
      refine x_blk (b := 6) (a_110 E) rfl ?_
      unfold b_110_6
      refine x_vret ?_
      exact k _ C F 
theorem sf_110_124_4_b5 {E : q_E} {σ : x_S} {Q : Option q_V → x_S → Prop} (C0 : y_CI σ) (k : ∀ τ, y_CI τ → y_fq 124 137 σ τ → Q none τ) : ∀ (N : Nat) (i : Int) (τ : x_S), (16 - i).toNat = N → 0 ≤ i → i ≤ 16 → y_CI τ → y_fq 124 137 σ τ → x_G E m_110 Q (t_110 5) [(0, x_R 124), (1, x_R 4), (2, x_I i)] [] τ := by
  intro N
  induction N using Nat.strongRecOn with
  | ind N ih =>
    intro i τ hN iL iH C F
    refine x_blk (b := 5) (a_110 E) rfl ?_
    unfold b_110_5
    refine x_iload rfl ?_
    refine x_push 16 rfl ?_
    refine x_icmp_ge (by omega) (by omega) (by omega) (by omega) (fun z1 => ?_) (fun z1 => ?_)
    · skip
      refine x_aload rfl ?_
      refine x_iload rfl ?_
      refine x_cV (fun _ => rfl) rfl (by decide) (Nat.le_of_ble_eq_true rfl) ?_
      refine sf_60_4 (by omega) (by omega) C (fun y2 => ?_) (fun y2 => ?_)
      · skip
        refine x_if_eq (by omega) (by omega) (fun z => absurd z (by omega)) (fun z3 => ?_)
        refine x_aload rfl ?_
        refine x_iload rfl ?_
        refine x_push 0 rfl ?_
        refine x_cV (fun _ => rfl) rfl (by decide) (Nat.le_of_ble_eq_true rfl) ?_
        refine sf_6_4 (by omega) (by omega) (by omega) (by omega) C (fun v4 v4a v4b => ?_)
        refine x_aload rfl ?_
        refine x_getIG y_f124_0 C ?_
        intro g5a g5b
        refine x_icmp_ne (by omega) (by omega) (by omega) (by omega) (fun z6 => ?_) (fun z6 => ?_)
        · skip
          refine x_aload rfl ?_
          refine x_aload rfl ?_
          refine x_iload rfl ?_
          refine x_cV (fun _ => rfl) rfl (by decide) (Nat.le_of_ble_eq_true rfl) ?_
          refine sf_65_124_4 (by omega) (by omega) C (fun S7 C7 f7 => ?_)
          have F7 := y_fq_tr (by decide) F f7
          refine x_fall ?_
          refine x_blk (b := 4) (a_110 E) rfl ?_
          unfold b_110_4
          refine x_iinc 1 rfl rfl ?_
          refine x_goto ?_
          refine x_G_lo (lo' := [(0, x_R 124), (1, x_R 4), (2, x_I _)]) ⟨rfl, rfl, rfl, trivial⟩ ?_
          exact ih _ (by omega) _ _ rfl (by omega) (by omega)  C7 F7
        · skip
          refine x_blk (b := 4) (a_110 E) rfl ?_
          unfold b_110_4
          refine x_iinc 1 rfl rfl ?_
          refine x_goto ?_
          refine x_G_lo (lo' := [(0, x_R 124), (1, x_R 4), (2, x_I _)]) ⟨rfl, rfl, rfl, trivial⟩ ?_
          exact ih _ (by omega) _ _ rfl (by omega) (by omega)  C F
      · skip
        refine x_if_eq (by omega) (by omega) (fun z8 => ?_) (fun z => absurd (by omega) z)
        refine x_blk (b := 4) (a_110 E) rfl ?_
        unfold b_110_4
        refine x_iinc 1 rfl rfl ?_
        refine x_goto ?_
        refine x_G_lo (lo' := [(0, x_R 124), (1, x_R 4), (2, x_I _)]) ⟨rfl, rfl, rfl, trivial⟩ ?_
        exact ih _ (by omega) _ _ rfl (by omega) (by omega)  C F
    · skip
      refine x_blk (b := 3) (a_110 E) rfl ?_
      unfold b_110_3
      refine x_push 0 rfl ?_
      refine x_istore ?_
      refine x_fall ?_
      refine x_G_lo (lo' := [(0, x_R 124), (1, x_R 4), (2, x_I _)]) ⟨rfl, rfl, rfl, trivial⟩ ?_
      exact sf_110_124_4_b7 C0 k  _ _ _ rfl (by omega) (by omega)  C F
theorem sf_110_124_4_b2 {E : q_E} {σ : x_S} {Q : Option q_V → x_S → Prop} (C0 : y_CI σ) (k : ∀ τ, y_CI τ → y_fq 124 137 σ τ → Q none τ) : ∀ (N : Nat) (i : Int) (τ : x_S), (54 - i).toNat = N → 0 ≤ i → i ≤ 54 → y_CI τ → y_fq 124 137 σ τ → x_G E m_110 Q (t_110 2) [(0, x_R 124), (1, x_R 4), (2, x_I i)] [] τ := by
  intro N
  induction N using Nat.strongRecOn with
  | ind N ih =>
    intro i τ hN iL iH C F
    refine x_blk (b := 2) (a_110 E) rfl ?_
    unfold b_110_2
    refine x_iload rfl ?_
    refine x_push 54 rfl ?_
    refine x_icmp_ge (by omega) (by omega) (by omega) (by omega) (fun z1 => ?_) (fun z1 => ?_)
    · skip
      refine x_aload rfl ?_
      refine x_getR (r := 124) rfl (by decide) (by decide) rfl ?_
      refine x_iload rfl ?_
      refine x_push 0 rfl ?_
      refine x_astZG y_a130 C (by decide) F (by omega) (by omega) (by omega) (by omega) (fun S2 e2 C2 F2 => ?_)
      refine x_iinc 1 rfl rfl ?_
      refine x_goto ?_
      refine x_G_lo (lo' := [(0, x_R 124), (1, x_R 4), (2, x_I _)]) ⟨rfl, rfl, rfl, trivial⟩ ?_
      exact ih _ (by omega) _ _ rfl (by omega) (by omega)  C2 F2
    · skip
      refine x_blk (b := 1) (a_110 E) rfl ?_
      unfold b_110_1
      refine x_push 0 rfl ?_
      refine x_istore ?_
      refine x_fall ?_
      refine x_G_lo (lo' := [(0, x_R 124), (1, x_R 4), (2, x_I _)]) ⟨rfl, rfl, rfl, trivial⟩ ?_
      exact sf_110_124_4_b5 C0 k  _ _ _ rfl (by omega) (by omega)  C F
theorem sf_110_124_4 {E : q_E} {σ : x_S} {Q : Option q_V → x_S → Prop} (C0 : y_CI σ) (k : ∀ τ, y_CI τ → y_fq 124 137 σ τ → Q none τ) : x_P E 110 [x_R 124, x_R 4] σ Q := by
  refine x_Mt e_110 (h_110 E) (Nat.le_of_ble_eq_true rfl) t_110 rfl ?_
  refine x_blk (b := 0) (a_110 E) rfl ?_
  unfold b_110_0
  refine x_aload rfl ?_
  refine x_push 0 rfl ?_
  refine x_putIG y_f124_13 ⟨by decide, rfl⟩ (by decide) C0 (by decide) (y_fr_rf (lo := 124) (hi := 137)) (by omega) (by omega) (fun S1 e1 C1 F1 => ?_)
  refine x_aload rfl ?_
  refine x_getR (r := 124) rfl (by decide) (by decide) rfl ?_
  refine x_push 0 rfl ?_
  refine x_cS (fun _ => rfl) (Nat.le_of_ble_eq_true rfl) ?_
  refine sf_27_128 (by omega) (by omega) C1 (fun S2 C2 f2 => ?_)
  have F2 := y_fq_tr (by decide) F1 f2
  refine x_push 0 rfl ?_
  refine x_istore ?_
  refine x_fall ?_
  refine x_G_lo (lo' := [(0, x_R 124), (1, x_R 4), (2, x_I _)]) ⟨rfl, rfl, rfl, trivial⟩ ?_
  exact sf_110_124_4_b2 C0 k  _ _ _ rfl (by omega) (by omega)  C2 F2
theorem sf_109_124_4_b6 {E : q_E} {σ : x_S} {Q : Option q_V → x_S → Prop} (C0 : y_CI σ) (k : ∀ τ, y_CI τ → y_fq 124 137 σ τ → Q none τ) {n : Int} (nL : 0 ≤ n) (nH : n ≤ 53) (ho : ∀ (n' : Int) (τ' : x_S), (54 - n').toNat < (54 - n).toNat → 0 ≤ n' → n' ≤ 54 → y_CI τ' → y_fq 124 137 σ τ' → x_G E m_109 Q (t_109 7) [(0, x_R 124), (1, x_R 4), (2, x_I n')] [] τ') : ∀ (N : Nat) (pf kq : Int) (τ : x_S), (54 - kq).toNat = N → 0 ≤ pf → pf ≤ 53 → 0 ≤ kq → kq ≤ 54 → kq ≤ n + 1 → y_CI τ → y_fq 124 137 σ τ → x_G E m_109 Q (t_109 6) [(0, x_R 124), (1, x_R 4), (2, x_I n), (3, x_I pf), (4, x_I kq)] [] τ := by
  intro N
  induction N using Nat.strongRecOn with
  | ind N ih =>
    intro pf kq τ hN pfL pfH kqL kqH ex0 C F
    refine x_blk (b := 6) (a_109 E) rfl ?_
    unfold b_109_6
    refine x_iload rfl ?_
    refine x_iload rfl ?_
    refine x_icmp_gt (by omega) (by omega) (by omega) (by omega) (fun z1 => ?_) (fun z1 => ?_)
    · skip
      refine x_aload rfl ?_
      refine x_aload rfl ?_
      refine x_push 3 rfl ?_
      refine x_iload rfl ?_
      refine x_aload rfl ?_
      refine x_getR (r := 124) rfl (by decide) (by decide) rfl ?_
      refine x_iload rfl ?_
      refine x_ialdG y_a129 C (by omega) (by omega) (fun v2 v2a v2b => ?_)
      refine x_cV (fun _ => rfl) rfl (by decide) (Nat.le_of_ble_eq_true rfl) ?_
      refine sf_39_124_4 (by omega) (by omega) (by omega) (by omega) (by omega) (by omega) C (fun S3 C3 f3 => ?_)
      have F3 := y_fq_tr (by decide) F f3
      refine x_aload rfl ?_
      refine x_aload rfl ?_
      refine x_push 4 rfl ?_
      refine x_iload rfl ?_
      refine x_aload rfl ?_
      refine x_getR (r := 124) rfl (by decide) (by decide) rfl ?_
      refine x_iload rfl ?_
      refine x_ialdG y_a129 C3 (by omega) (by omega) (fun v4 v4a v4b => ?_)
      refine x_cV (fun _ => rfl) rfl (by decide) (Nat.le_of_ble_eq_true rfl) ?_
      refine sf_39_124_4 (by omega) (by omega) (by omega) (by omega) (by omega) (by omega) C3 (fun S5 C5 f5 => ?_)
      have F5 := y_fq_tr (by decide) F3 f5
      refine x_iload rfl ?_
      refine x_iload rfl ?_
      refine x_icmp_ge (by omega) (by omega) (by omega) (by omega) (fun z6 => ?_) (fun z6 => ?_)
      · skip
        refine x_aload rfl ?_
        refine x_aload rfl ?_
        refine x_push 3 rfl ?_
        refine x_aload rfl ?_
        refine x_getR (r := 124) rfl (by decide) (by decide) rfl ?_
        refine x_iload rfl ?_
        refine x_ialdG y_a129 C5 (by omega) (by omega) (fun v7 v7a v7b => ?_)
        refine x_iload rfl ?_
        refine x_cV (fun _ => rfl) rfl (by decide) (Nat.le_of_ble_eq_true rfl) ?_
        refine sf_39_124_4 (by omega) (by omega) (by omega) (by omega) (by omega) (by omega) C5 (fun S8 C8 f8 => ?_)
        have F8 := y_fq_tr (by decide) F5 f8
        refine x_aload rfl ?_
        refine x_aload rfl ?_
        refine x_push 4 rfl ?_
        refine x_aload rfl ?_
        refine x_getR (r := 124) rfl (by decide) (by decide) rfl ?_
        refine x_iload rfl ?_
        refine x_ialdG y_a129 C8 (by omega) (by omega) (fun v9 v9a v9b => ?_)
        refine x_iload rfl ?_
        refine x_cV (fun _ => rfl) rfl (by decide) (Nat.le_of_ble_eq_true rfl) ?_
        refine sf_39_124_4 (by omega) (by omega) (by omega) (by omega) (by omega) (by omega) C8 (fun S10 C10 f10 => ?_)
        have F10 := y_fq_tr (by decide) F8 f10
        refine x_fall ?_
        refine x_blk (b := 5) (a_109 E) rfl ?_
        unfold b_109_5
        refine x_iinc 1 rfl rfl ?_
        refine x_goto ?_
        refine x_G_lo (lo' := [(0, x_R 124), (1, x_R 4), (2, x_I _), (3, x_I _), (4, x_I _)]) ⟨rfl, rfl, rfl, rfl, rfl, trivial⟩ ?_
        exact ih _ (by omega) _ _ _ rfl (by omega) (by omega) (by omega) (by omega) (by omega) C10 F10
      · skip
        refine x_blk (b := 5) (a_109 E) rfl ?_
        unfold b_109_5
        refine x_iinc 1 rfl rfl ?_
        refine x_goto ?_
        refine x_G_lo (lo' := [(0, x_R 124), (1, x_R 4), (2, x_I _), (3, x_I _), (4, x_I _)]) ⟨rfl, rfl, rfl, rfl, rfl, trivial⟩ ?_
        exact ih _ (by omega) _ _ _ rfl (by omega) (by omega) (by omega) (by omega) (by omega) C5 F5
    · skip
      refine x_blk (b := 4) (a_109 E) rfl ?_
      unfold b_109_4
      refine x_iinc 1 rfl rfl ?_
      refine x_goto ?_
      refine x_G_lo (lo' := [(0, x_R 124), (1, x_R 4), (2, x_I _)]) ⟨rfl, rfl, rfl, trivial⟩ ?_
      exact ho _ _ (by omega) (by omega) (by omega)  C F
theorem sf_109_124_4_b7 {E : q_E} {σ : x_S} {Q : Option q_V → x_S → Prop} (C0 : y_CI σ) (k : ∀ τ, y_CI τ → y_fq 124 137 σ τ → Q none τ) : ∀ (N : Nat) (n : Int) (τ : x_S), (54 - n).toNat = N → 0 ≤ n → n ≤ 54 → y_CI τ → y_fq 124 137 σ τ → x_G E m_109 Q (t_109 7) [(0, x_R 124), (1, x_R 4), (2, x_I n)] [] τ := by
  intro N
  induction N using Nat.strongRecOn with
  | ind N ih =>
    intro n τ hN nL nH C F
    refine x_blk (b := 7) (a_109 E) rfl ?_
    unfold b_109_7
    refine x_iload rfl ?_
    refine x_push 54 rfl ?_
    refine x_icmp_ge (by omega) (by omega) (by omega) (by omega) (fun z1 => ?_) (fun z1 => ?_)
    · skip
      refine x_aload rfl ?_
      refine x_cV (fun _ => rfl) rfl (by decide) (Nat.le_of_ble_eq_true rfl) ?_
      refine sf_70_124  C (fun v2 v2a v2b => ?_)
      refine x_istore ?_
      refine x_iload rfl ?_
      refine x_push 54 rfl ?_
      refine x_cS (fun _ => rfl) (Nat.le_of_ble_eq_true rfl) ?_
      refine sf_2 (by omega) (by omega) (by omega) (by omega) C (fun y3 => ?_) (fun y3 => ?_)
      · skip
        refine x_if_ne (by omega) (by omega) (fun z => absurd z (by omega)) (fun z4 => ?_)
        refine x_blk (b := 3) (a_109 E) rfl ?_
        unfold b_109_3
        refine x_aload rfl ?_
        refine x_iload rfl ?_
        refine x_iload rfl ?_
        refine x_cV (fun _ => rfl) rfl (by decide) (Nat.le_of_ble_eq_true rfl) ?_
        refine sf_79_124 (by omega) (by omega) (by omega) (by omega) C (fun S5 C5 f5 => ?_)
        have F5 := y_fq_tr (by decide) F f5
        refine x_aload rfl ?_
        refine x_aload rfl ?_
        refine x_push 2 rfl ?_
        refine x_iload rfl ?_
        refine x_push (-4) rfl ?_
        refine x_cV (fun _ => rfl) rfl (by decide) (Nat.le_of_ble_eq_true rfl) ?_
        refine sf_39_124_4 (by omega) (by omega) (by omega) (by omega) (by omega) (by omega) C5 (fun S6 C6 f6 => ?_)
        have F6 := y_fq_tr (by decide) F5 f6
        refine x_push 0 rfl ?_
        refine x_istore ?_
        refine x_X_lo (lo' := [(0, x_R 124), (1, x_R 4), (2, x_I _), (3, x_I _), (4, x_I _)]) ⟨rfl, rfl, rfl, rfl, rfl, trivial⟩ ?_
        refine x_fall ?_
        refine x_G_lo (lo' := [(0, x_R 124), (1, x_R 4), (2, x_I _), (3, x_I _), (4, x_I _)]) ⟨rfl, rfl, rfl, rfl, rfl, trivial⟩ ?_
        exact sf_109_124_4_b6 C0 k (by omega) (by omega) (fun x0 t z h0 h1 c f => ih _ (by omega) x0 t rfl h0 h1 c f) _ _ _ _ rfl (by omega) (by omega) (by omega) (by omega) (by omega) C6 F6
      · skip
        refine x_if_ne (by omega) (by omega) (fun z7 => ?_) (fun z => absurd (by omega) z)
        refine x_goto ?_
        refine x_blk (b := 2) (a_109 E) rfl ?_
        unfold b_109_2
        refine x_aload rfl ?_
        refine x_push 1 rfl ?_
        refine x_putZG y_f124_14 rfl (by decide) C (by decide) F (by omega) (fun S8 e8 C8 F8 => ?_)
        refine x_vret ?_
        exact k _ C8 F8 
    · skip
      refine x_blk (b := 2) (a_109 E) rfl ?_
      unfold b_109_2
      refine x_aload rfl ?_
      refine x_push 1 rfl ?_
      refine x_putZG y_f124_14 rfl (by decide) C (by decide) F (by omega) (fun S9 e9 C9 F9 => ?_)
      refine x_vret ?_
      exact k _ C9 F9 
theorem sf_109_124_4 {E : q_E} {σ : x_S} {Q : Option q_V → x_S → Prop} (C0 : y_CI σ) (k : ∀ τ, y_CI τ → y_fq 124 137 σ τ → Q none τ) : x_P E 109 [x_R 124, x_R 4] σ Q := by
  refine x_Mt e_109 (h_109 E) (Nat.le_of_ble_eq_true rfl) t_109 rfl ?_
  refine x_blk (b := 0) (a_109 E) rfl ?_
  unfold b_109_0
  refine x_aload rfl ?_
  refine x_getIG y_f124_14 C0 ?_
  intro g1a g1b
  refine x_if_eq (by omega) (by omega) (fun z2 => ?_) (fun z2 => ?_)
  · skip
    refine x_blk (b := 1) (a_109 E) rfl ?_
    unfold b_109_1
    refine x_aload rfl ?_
    refine x_aload rfl ?_
    refine x_cV (fun _ => rfl) rfl (by decide) (Nat.le_of_ble_eq_true rfl) ?_
    refine sf_110_124_4  C0 (fun S3 C3 f3 => ?_)
    have F3 := y_fq_tr (by decide) (y_fr_rf (lo := 124) (hi := 137)) f3
    refine x_aload rfl ?_
    refine x_aload rfl ?_
    refine x_push 0 rfl ?_
    refine x_push (-4) rfl ?_
    refine x_push (-4) rfl ?_
    refine x_cV (fun _ => rfl) rfl (by decide) (Nat.le_of_ble_eq_true rfl) ?_
    refine sf_39_124_4 (by omega) (by omega) (by omega) (by omega) (by omega) (by omega) C3 (fun S4 C4 f4 => ?_)
    have F4 := y_fq_tr (by decide) F3 f4
    refine x_aload rfl ?_
    refine x_aload rfl ?_
    refine x_push 1 rfl ?_
    refine x_push (-4) rfl ?_
    refine x_push (-4) rfl ?_
    refine x_cV (fun _ => rfl) rfl (by decide) (Nat.le_of_ble_eq_true rfl) ?_
    refine sf_39_124_4 (by omega) (by omega) (by omega) (by omega) (by omega) (by omega) C4 (fun S5 C5 f5 => ?_)
    have F5 := y_fq_tr (by decide) F4 f5
    refine x_push 0 rfl ?_
    refine x_istore ?_
    refine x_fall ?_
    refine x_G_lo (lo' := [(0, x_R 124), (1, x_R 4), (2, x_I _)]) ⟨rfl, rfl, rfl, trivial⟩ ?_
    exact sf_109_124_4_b7 C0 k  _ _ _ rfl (by omega) (by omega)  C5 F5
  · skip
    refine x_vret ?_
    exact k _ C0 (y_fr_rf (lo := 124) (hi := 137)) 
theorem sf_159_0 {E : q_E} {σ : x_S} {Q : Option q_V → x_S → Prop} {a1 : Int} (a1l : (-2147483648) ≤ a1) (a1h : a1 ≤ 2147483647) (C0 : y_CI σ) (k : ∀ τ v, y_CI τ → y_fq 111 137 σ τ → (-2147483648) ≤ v → v ≤ 2147483647 → Q (some (x_I v)) τ) : x_P E 159 [x_R 0, x_I a1] σ Q := by
  refine x_Mt e_159 (h_159 E) (Nat.le_of_ble_eq_true rfl) t_159 rfl ?_
  refine x_blk (b := 0) (a_159 E) rfl ?_
  unfold b_159_0
  refine x_iload rfl ?_
  refine x_push 2 rfl ?_
  refine x_cS (fun _ => rfl) (Nat.le_of_ble_eq_true rfl) ?_
  refine sf_2 (by omega) (by omega) (by omega) (by omega) C0 (fun y1 => ?_) (fun y1 => ?_)
  · skip
    refine x_if_ne (by omega) (by omega) (fun z => absurd z (by omega)) (fun z2 => ?_)
    refine x_blk (b := 1) (a_159 E) rfl ?_
    unfold b_159_1
    refine x_aload rfl ?_
    refine x_iload rfl ?_
    refine x_cV (fun _ => rfl) rfl (by decide) (Nat.le_of_ble_eq_true rfl) ?_
    refine sf_108_0 (by omega) (by omega) C0 (fun y3 => ?_) (fun y3 => ?_)
    · skip
      refine x_astore ?_
      refine x_aload rfl ?_
      refine x_aload rfl ?_
      refine x_getR (r := 0) rfl (by decide) (by decide) rfl ?_
      refine x_cV (fun _ => rfl) rfl (by decide) (Nat.le_of_ble_eq_true rfl) ?_
      refine sf_109_111_4  C0 (fun S4 C4 f4 => ?_)
      have F4 := y_fq_tr (by decide) (y_fr_rf (lo := 111) (hi := 137)) f4
      refine x_aload rfl ?_
      refine x_getIG y_f111_13 C4 ?_
      intro g5a g5b
      refine x_iret ?_
      exact k _ _ C4 F4 (by omega) (by omega) 
    · skip
      refine x_astore ?_
      refine x_aload rfl ?_
      refine x_aload rfl ?_
      refine x_getR (r := 0) rfl (by decide) (by decide) rfl ?_
      refine x_cV (fun _ => rfl) rfl (by decide) (Nat.le_of_ble_eq_true rfl) ?_
      refine sf_109_124_4  C0 (fun S6 C6 f6 => ?_)
      have F6 := y_fq_tr (by decide) (y_fr_rf (lo := 111) (hi := 137)) f6
      refine x_aload rfl ?_
      refine x_getIG y_f124_13 C6 ?_
      intro g7a g7b
      refine x_iret ?_
      exact k _ _ C6 F6 (by omega) (by omega) 
  · skip
    refine x_if_ne (by omega) (by omega) (fun z8 => ?_) (fun z => absurd (by omega) z)
    refine x_push (-1) rfl ?_
    refine x_iret ?_
    exact k _ _ C0 (y_fr_rf (lo := 111) (hi := 137)) (by omega) (by omega) 
theorem sf_161_111_b4 {E : q_E} {σ : x_S} {Q : Option q_V → x_S → Prop} {a1 a2 : Int} (a1l : (-2147483648) ≤ a1) (a1h : a1 ≤ 2147483647) (a2l : (-2147483648) ≤ a2) (a2h : a2 ≤ 2147483647) (C0 : y_CI σ) (k : ∀ v, (-2147483648) ≤ v → v ≤ 2147483647 → Q (some (x_I v)) σ) : ∀ (N : Nat) (t h d : Int), (40 - d).toNat = N → (-2147483648) ≤ t → t ≤ 2147483647 → (-2147483648) ≤ h → h ≤ 2147483647 → 0 ≤ d → d ≤ 40 → x_G E m_161 Q (t_161 4) [(0, x_R 111), (3, x_I t), (4, x_I h), (5, x_I d)] [] σ := by
  intro N
  induction N using Nat.strongRecOn with
  | ind N ih =>
    intro t h d hN tL tH hL hH dL dH
    refine x_blk (b := 4) (a_161 E) rfl ?_
    unfold b_161_4
    refine x_iload rfl ?_
    refine x_push 40 rfl ?_
    refine x_icmp_ge (by omega) (by omega) (by omega) (by omega) (fun z1 => ?_) (fun z1 => ?_)
    · skip
      refine x_iload rfl ?_
      refine x_if_le (by omega) (by omega) (fun z2 => ?_) (fun z2 => ?_)
      · skip
        refine x_blk (b := 1) (a_161 E) rfl ?_
        unfold b_161_1
        refine x_iload rfl ?_
        refine x_push 54 rfl ?_
        refine x_cS (fun _ => rfl) (Nat.le_of_ble_eq_true rfl) ?_
        refine sf_2 (by omega) (by omega) (by omega) (by omega) C0 (fun y3 => ?_) (fun y3 => ?_)
        · skip
          refine x_if_eq (by omega) (by omega) (fun z => absurd z (by omega)) (fun z4 => ?_)
          refine x_aload rfl ?_
          refine x_getR (r := 111) rfl (by decide) (by decide) rfl ?_
          refine x_iload rfl ?_
          refine x_ialdG y_a112 C0 (by omega) (by omega) (fun v5 v5a v5b => ?_)
          refine x_goto ?_
          refine x_blk (b := 6) (a_161 E) rfl ?_
          unfold b_161_6
          refine x_iret ?_
          exact k _ (by omega) (by omega) 
        · skip
          refine x_if_eq (by omega) (by omega) (fun z6 => ?_) (fun z => absurd (by omega) z)
          refine x_blk (b := 5) (a_161 E) rfl ?_
          unfold b_161_5
          refine x_push (-4) rfl ?_
          refine x_fall ?_
          refine x_blk (b := 6) (a_161 E) rfl ?_
          unfold b_161_6
          refine x_iret ?_
          exact k _ (by omega) (by omega) 
      · skip
        refine x_iload rfl ?_
        refine x_push 54 rfl ?_
        refine x_cS (fun _ => rfl) (Nat.le_of_ble_eq_true rfl) ?_
        refine sf_2 (by omega) (by omega) (by omega) (by omega) C0 (fun y7 => ?_) (fun y7 => ?_)
        · skip
          refine x_if_eq (by omega) (by omega) (fun z => absurd z (by omega)) (fun z8 => ?_)
          refine x_iinc (-1) rfl rfl ?_
          refine x_aload rfl ?_
          refine x_aload rfl ?_
          refine x_getR (r := 111) rfl (by decide) (by decide) rfl ?_
          refine x_iload rfl ?_
          refine x_ialdG y_a113 C0 (by omega) (by omega) (fun v9 v9a v9b => ?_)
          refine x_cV (fun _ => rfl) rfl (by decide) (Nat.le_of_ble_eq_true rfl) ?_
          refine sf_41_111 (by omega) (by omega) C0 (fun v10 v10a v10b => ?_)
          refine x_istore ?_
          refine x_X_lo (lo' := [(0, x_R 111), (3, x_I _), (4, x_I _), (5, x_I _), (6, x_I _)]) ⟨rfl, rfl, rfl, rfl, rfl, trivial⟩ ?_
          refine x_iload rfl ?_
          refine x_iload rfl ?_
          refine x_icmp_ge (by omega) (by omega) (by omega) (by omega) (fun z11 => ?_) (fun z11 => ?_)
          · skip
            refine x_aload rfl ?_
            refine x_getR (r := 111) rfl (by decide) (by decide) rfl ?_
            refine x_iload rfl ?_
            refine x_ialdG y_a113 C0 (by omega) (by omega) (fun v12 v12a v12b => ?_)
            refine x_istore ?_
            refine x_goto ?_
            refine x_blk (b := 3) (a_161 E) rfl ?_
            unfold b_161_3
            refine x_iinc 1 rfl rfl ?_
            refine x_X_lo (lo' := [(0, x_R 111), (3, x_I _), (4, x_I _), (5, x_I _), (6, x_I _)]) ⟨rfl, rfl, rfl, rfl, rfl, trivial⟩ ?_
            refine x_goto ?_
            refine x_G_lo (lo' := [(0, x_R 111), (3, x_I _), (4, x_I _), (5, x_I _)]) ⟨rfl, rfl, rfl, rfl, trivial⟩ ?_
            exact ih _ (by omega) _ _ _  rfl (by omega) (by omega) (by omega) (by omega) (by omega) (by omega)  
          · skip
            refine x_blk (b := 2) (a_161 E) rfl ?_
            unfold b_161_2
            refine x_iload rfl ?_
            refine x_iload rfl ?_
            refine x_isub ?_
            refine x_istore ?_
            refine x_aload rfl ?_
            refine x_getR (r := 111) rfl (by decide) (by decide) rfl ?_
            refine x_iload rfl ?_
            refine x_ialdG y_a114 C0 (by omega) (by omega) (fun v13 v13a v13b => ?_)
            refine x_istore ?_
            refine x_X_lo (lo' := [(0, x_R 111), (3, x_I _), (4, x_I _), (5, x_I _), (6, x_I _)]) ⟨rfl, rfl, rfl, rfl, rfl, trivial⟩ ?_
            refine x_fall ?_
            refine x_blk (b := 3) (a_161 E) rfl ?_
            unfold b_161_3
            refine x_iinc 1 rfl rfl ?_
            refine x_goto ?_
            refine x_G_lo (lo' := [(0, x_R 111), (3, x_I _), (4, x_I _), (5, x_I _)]) ⟨rfl, rfl, rfl, rfl, trivial⟩ ?_
            exact ih _ (by omega) _ _ _  rfl (by omega) (by omega) (by omega) (by omega) (by omega) (by omega)  
        · skip
          refine x_if_eq (by omega) (by omega) (fun z14 => ?_) (fun z => absurd (by omega) z)
          refine x_blk (b := 1) (a_161 E) rfl ?_
          unfold b_161_1
          refine x_iload rfl ?_
          refine x_push 54 rfl ?_
          refine x_cS (fun _ => rfl) (Nat.le_of_ble_eq_true rfl) ?_
          refine sf_2 (by omega) (by omega) (by omega) (by omega) C0 (fun y15 => ?_) (fun y15 => ?_)
          · skip
            refine x_if_eq (by omega) (by omega) (fun z => absurd z (by omega)) (fun z16 => ?_)
            refine x_aload rfl ?_
            refine x_getR (r := 111) rfl (by decide) (by decide) rfl ?_
            refine x_iload rfl ?_
            refine x_ialdG y_a112 C0 (by omega) (by omega) (fun v17 v17a v17b => ?_)
            refine x_goto ?_
            refine x_blk (b := 6) (a_161 E) rfl ?_
            unfold b_161_6
            refine x_iret ?_
            exact k _ (by omega) (by omega) 
          · skip
            refine x_if_eq (by omega) (by omega) (fun z18 => ?_) (fun z => absurd (by omega) z)
            refine x_blk (b := 5) (a_161 E) rfl ?_
            unfold b_161_5
            refine x_push (-4) rfl ?_
            refine x_fall ?_
            refine x_blk (b := 6) (a_161 E) rfl ?_
            unfold b_161_6
            refine x_iret ?_
            exact k _ (by omega) (by omega) 
    · skip
      refine x_blk (b := 1) (a_161 E) rfl ?_
      unfold b_161_1
      refine x_iload rfl ?_
      refine x_push 54 rfl ?_
      refine x_cS (fun _ => rfl) (Nat.le_of_ble_eq_true rfl) ?_
      refine sf_2 (by omega) (by omega) (by omega) (by omega) C0 (fun y19 => ?_) (fun y19 => ?_)
      · skip
        refine x_if_eq (by omega) (by omega) (fun z => absurd z (by omega)) (fun z20 => ?_)
        refine x_aload rfl ?_
        refine x_getR (r := 111) rfl (by decide) (by decide) rfl ?_
        refine x_iload rfl ?_
        refine x_ialdG y_a112 C0 (by omega) (by omega) (fun v21 v21a v21b => ?_)
        refine x_goto ?_
        refine x_blk (b := 6) (a_161 E) rfl ?_
        unfold b_161_6
        refine x_iret ?_
        exact k _ (by omega) (by omega) 
      · skip
        refine x_if_eq (by omega) (by omega) (fun z22 => ?_) (fun z => absurd (by omega) z)
        refine x_blk (b := 5) (a_161 E) rfl ?_
        unfold b_161_5
        refine x_push (-4) rfl ?_
        refine x_fall ?_
        refine x_blk (b := 6) (a_161 E) rfl ?_
        unfold b_161_6
        refine x_iret ?_
        exact k _ (by omega) (by omega) 
theorem sf_161_111 {E : q_E} {σ : x_S} {Q : Option q_V → x_S → Prop} {a1 a2 : Int} (a1l : (-2147483648) ≤ a1) (a1h : a1 ≤ 2147483647) (a2l : (-2147483648) ≤ a2) (a2h : a2 ≤ 2147483647) (C0 : y_CI σ) (k : ∀ v, (-2147483648) ≤ v → v ≤ 2147483647 → Q (some (x_I v)) σ) : x_P E 161 [x_R 111, x_I a1, x_I a2] σ Q := by
  refine x_Mt e_161 (h_161 E) (Nat.le_of_ble_eq_true rfl) t_161 rfl ?_
  refine x_blk (b := 0) (a_161 E) rfl ?_
  unfold b_161_0
  refine x_iload rfl ?_
  refine x_istore ?_
  refine x_iload rfl ?_
  refine x_istore ?_
  refine x_X_lo (lo' := [(0, x_R 111), (1, x_I _), (2, x_I _), (3, x_I _), (4, x_I _)]) ⟨rfl, rfl, rfl, rfl, rfl, trivial⟩ ?_
  refine x_push 0 rfl ?_
  refine x_istore ?_
  refine x_fall ?_
  refine x_G_lo (lo' := [(0, x_R 111), (3, x_I _), (4, x_I _), (5, x_I _)]) ⟨rfl, rfl, rfl, rfl, trivial⟩ ?_
  exact sf_161_111_b4 a1l a1h a2l a2h C0 k  _ _ _ _  rfl (by omega) (by omega) (by omega) (by omega) (by omega) (by omega)  
theorem sf_161_124_b4 {E : q_E} {σ : x_S} {Q : Option q_V → x_S → Prop} {a1 a2 : Int} (a1l : (-2147483648) ≤ a1) (a1h : a1 ≤ 2147483647) (a2l : (-2147483648) ≤ a2) (a2h : a2 ≤ 2147483647) (C0 : y_CI σ) (k : ∀ v, (-2147483648) ≤ v → v ≤ 2147483647 → Q (some (x_I v)) σ) : ∀ (N : Nat) (t h d : Int), (40 - d).toNat = N → (-2147483648) ≤ t → t ≤ 2147483647 → (-2147483648) ≤ h → h ≤ 2147483647 → 0 ≤ d → d ≤ 40 → x_G E m_161 Q (t_161 4) [(0, x_R 124), (3, x_I t), (4, x_I h), (5, x_I d)] [] σ := by
  intro N
  induction N using Nat.strongRecOn with
  | ind N ih =>
    intro t h d hN tL tH hL hH dL dH
    refine x_blk (b := 4) (a_161 E) rfl ?_
    unfold b_161_4
    refine x_iload rfl ?_
    refine x_push 40 rfl ?_
    refine x_icmp_ge (by omega) (by omega) (by omega) (by omega) (fun z1 => ?_) (fun z1 => ?_)
    · skip
      refine x_iload rfl ?_
      refine x_if_le (by omega) (by omega) (fun z2 => ?_) (fun z2 => ?_)
      · skip
        refine x_blk (b := 1) (a_161 E) rfl ?_
        unfold b_161_1
        refine x_iload rfl ?_
        refine x_push 54 rfl ?_
        refine x_cS (fun _ => rfl) (Nat.le_of_ble_eq_true rfl) ?_
        refine sf_2 (by omega) (by omega) (by omega) (by omega) C0 (fun y3 => ?_) (fun y3 => ?_)
        · skip
          refine x_if_eq (by omega) (by omega) (fun z => absurd z (by omega)) (fun z4 => ?_)
          refine x_aload rfl ?_
          refine x_getR (r := 124) rfl (by decide) (by decide) rfl ?_
          refine x_iload rfl ?_
          refine x_ialdG y_a125 C0 (by omega) (by omega) (fun v5 v5a v5b => ?_)
          refine x_goto ?_
          refine x_blk (b := 6) (a_161 E) rfl ?_
          unfold b_161_6
          refine x_iret ?_
          exact k _ (by omega) (by omega) 
        · skip
          refine x_if_eq (by omega) (by omega) (fun z6 => ?_) (fun z => absurd (by omega) z)
          refine x_blk (b := 5) (a_161 E) rfl ?_
          unfold b_161_5
          refine x_push (-4) rfl ?_
          refine x_fall ?_
          refine x_blk (b := 6) (a_161 E) rfl ?_
          unfold b_161_6
          refine x_iret ?_
          exact k _ (by omega) (by omega) 
      · skip
        refine x_iload rfl ?_
        refine x_push 54 rfl ?_
        refine x_cS (fun _ => rfl) (Nat.le_of_ble_eq_true rfl) ?_
        refine sf_2 (by omega) (by omega) (by omega) (by omega) C0 (fun y7 => ?_) (fun y7 => ?_)
        · skip
          refine x_if_eq (by omega) (by omega) (fun z => absurd z (by omega)) (fun z8 => ?_)
          refine x_iinc (-1) rfl rfl ?_
          refine x_aload rfl ?_
          refine x_aload rfl ?_
          refine x_getR (r := 124) rfl (by decide) (by decide) rfl ?_
          refine x_iload rfl ?_
          refine x_ialdG y_a126 C0 (by omega) (by omega) (fun v9 v9a v9b => ?_)
          refine x_cV (fun _ => rfl) rfl (by decide) (Nat.le_of_ble_eq_true rfl) ?_
          refine sf_41_124 (by omega) (by omega) C0 (fun v10 v10a v10b => ?_)
          refine x_istore ?_
          refine x_X_lo (lo' := [(0, x_R 124), (3, x_I _), (4, x_I _), (5, x_I _), (6, x_I _)]) ⟨rfl, rfl, rfl, rfl, rfl, trivial⟩ ?_
          refine x_iload rfl ?_
          refine x_iload rfl ?_
          refine x_icmp_ge (by omega) (by omega) (by omega) (by omega) (fun z11 => ?_) (fun z11 => ?_)
          · skip
            refine x_aload rfl ?_
            refine x_getR (r := 124) rfl (by decide) (by decide) rfl ?_
            refine x_iload rfl ?_
            refine x_ialdG y_a126 C0 (by omega) (by omega) (fun v12 v12a v12b => ?_)
            refine x_istore ?_
            refine x_goto ?_
            refine x_blk (b := 3) (a_161 E) rfl ?_
            unfold b_161_3
            refine x_iinc 1 rfl rfl ?_
            refine x_X_lo (lo' := [(0, x_R 124), (3, x_I _), (4, x_I _), (5, x_I _), (6, x_I _)]) ⟨rfl, rfl, rfl, rfl, rfl, trivial⟩ ?_
            refine x_goto ?_
            refine x_G_lo (lo' := [(0, x_R 124), (3, x_I _), (4, x_I _), (5, x_I _)]) ⟨rfl, rfl, rfl, rfl, trivial⟩ ?_
            exact ih _ (by omega) _ _ _  rfl (by omega) (by omega) (by omega) (by omega) (by omega) (by omega)  
          · skip
            refine x_blk (b := 2) (a_161 E) rfl ?_
            unfold b_161_2
            refine x_iload rfl ?_
            refine x_iload rfl ?_
            refine x_isub ?_
            refine x_istore ?_
            refine x_aload rfl ?_
            refine x_getR (r := 124) rfl (by decide) (by decide) rfl ?_
            refine x_iload rfl ?_
            refine x_ialdG y_a127 C0 (by omega) (by omega) (fun v13 v13a v13b => ?_)
            refine x_istore ?_
            refine x_X_lo (lo' := [(0, x_R 124), (3, x_I _), (4, x_I _), (5, x_I _), (6, x_I _)]) ⟨rfl, rfl, rfl, rfl, rfl, trivial⟩ ?_
            refine x_fall ?_
            refine x_blk (b := 3) (a_161 E) rfl ?_
            unfold b_161_3
            refine x_iinc 1 rfl rfl ?_
            refine x_goto ?_
            refine x_G_lo (lo' := [(0, x_R 124), (3, x_I _), (4, x_I _), (5, x_I _)]) ⟨rfl, rfl, rfl, rfl, trivial⟩ ?_
            exact ih _ (by omega) _ _ _  rfl (by omega) (by omega) (by omega) (by omega) (by omega) (by omega)  
        · skip
          refine x_if_eq (by omega) (by omega) (fun z14 => ?_) (fun z => absurd (by omega) z)
          refine x_blk (b := 1) (a_161 E) rfl ?_
          unfold b_161_1
          refine x_iload rfl ?_
          refine x_push 54 rfl ?_
          refine x_cS (fun _ => rfl) (Nat.le_of_ble_eq_true rfl) ?_
          refine sf_2 (by omega) (by omega) (by omega) (by omega) C0 (fun y15 => ?_) (fun y15 => ?_)
          · skip
            refine x_if_eq (by omega) (by omega) (fun z => absurd z (by omega)) (fun z16 => ?_)
            refine x_aload rfl ?_
            refine x_getR (r := 124) rfl (by decide) (by decide) rfl ?_
            refine x_iload rfl ?_
            refine x_ialdG y_a125 C0 (by omega) (by omega) (fun v17 v17a v17b => ?_)
            refine x_goto ?_
            refine x_blk (b := 6) (a_161 E) rfl ?_
            unfold b_161_6
            refine x_iret ?_
            exact k _ (by omega) (by omega) 
          · skip
            refine x_if_eq (by omega) (by omega) (fun z18 => ?_) (fun z => absurd (by omega) z)
            refine x_blk (b := 5) (a_161 E) rfl ?_
            unfold b_161_5
            refine x_push (-4) rfl ?_
            refine x_fall ?_
            refine x_blk (b := 6) (a_161 E) rfl ?_
            unfold b_161_6
            refine x_iret ?_
            exact k _ (by omega) (by omega) 
    · skip
      refine x_blk (b := 1) (a_161 E) rfl ?_
      unfold b_161_1
      refine x_iload rfl ?_
      refine x_push 54 rfl ?_
      refine x_cS (fun _ => rfl) (Nat.le_of_ble_eq_true rfl) ?_
      refine sf_2 (by omega) (by omega) (by omega) (by omega) C0 (fun y19 => ?_) (fun y19 => ?_)
      · skip
        refine x_if_eq (by omega) (by omega) (fun z => absurd z (by omega)) (fun z20 => ?_)
        refine x_aload rfl ?_
        refine x_getR (r := 124) rfl (by decide) (by decide) rfl ?_
        refine x_iload rfl ?_
        refine x_ialdG y_a125 C0 (by omega) (by omega) (fun v21 v21a v21b => ?_)
        refine x_goto ?_
        refine x_blk (b := 6) (a_161 E) rfl ?_
        unfold b_161_6
        refine x_iret ?_
        exact k _ (by omega) (by omega) 
      · skip
        refine x_if_eq (by omega) (by omega) (fun z22 => ?_) (fun z => absurd (by omega) z)
        refine x_blk (b := 5) (a_161 E) rfl ?_
        unfold b_161_5
        refine x_push (-4) rfl ?_
        refine x_fall ?_
        refine x_blk (b := 6) (a_161 E) rfl ?_
        unfold b_161_6
        refine x_iret ?_
        exact k _ (by omega) (by omega) 
theorem sf_161_124 {E : q_E} {σ : x_S} {Q : Option q_V → x_S → Prop} {a1 a2 : Int} (a1l : (-2147483648) ≤ a1) (a1h : a1 ≤ 2147483647) (a2l : (-2147483648) ≤ a2) (a2h : a2 ≤ 2147483647) (C0 : y_CI σ) (k : ∀ v, (-2147483648) ≤ v → v ≤ 2147483647 → Q (some (x_I v)) σ) : x_P E 161 [x_R 124, x_I a1, x_I a2] σ Q := by
  refine x_Mt e_161 (h_161 E) (Nat.le_of_ble_eq_true rfl) t_161 rfl ?_
  refine x_blk (b := 0) (a_161 E) rfl ?_
  unfold b_161_0
  refine x_iload rfl ?_
  refine x_istore ?_
  refine x_iload rfl ?_
  refine x_istore ?_
  refine x_X_lo (lo' := [(0, x_R 124), (1, x_I _), (2, x_I _), (3, x_I _), (4, x_I _)]) ⟨rfl, rfl, rfl, rfl, rfl, trivial⟩ ?_
  refine x_push 0 rfl ?_
  refine x_istore ?_
  refine x_fall ?_
  refine x_G_lo (lo' := [(0, x_R 124), (3, x_I _), (4, x_I _), (5, x_I _)]) ⟨rfl, rfl, rfl, rfl, trivial⟩ ?_
  exact sf_161_124_b4 a1l a1h a2l a2h C0 k  _ _ _ _  rfl (by omega) (by omega) (by omega) (by omega) (by omega) (by omega)  
