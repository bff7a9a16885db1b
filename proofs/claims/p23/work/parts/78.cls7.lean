theorem sf_160_0 {E : q_E} {σ : x_S} {Q : Option q_V → x_S → Prop} {a1 a2 a3 : Int} (a1l : (-2147483648) ≤ a1) (a1h : a1 ≤ 2147483647) (a2l : (-2147483648) ≤ a2) (a2h : a2 ≤ 2147483647) (a3l : (-2147483648) ≤ a3) (a3h : a3 ≤ 2147483647) (C0 : y_CI σ) (k : ∀ τ v, y_CI τ → y_fq 111 137 σ τ → (-2147483648) ≤ v → v ≤ 2147483647 → Q (some (x_I v)) τ) : x_P E 160 [x_R 0, x_I a1, x_I a2, x_I a3] σ Q := by
  refine x_Mt e_160 (h_160 E) (Nat.le_of_ble_eq_true rfl) t_160 rfl ?_
  refine x_blk (b := 0) (a_160 E) rfl ?_
  unfold b_160_0
  refine x_iload rfl ?_
  refine x_push 2 rfl ?_
  refine x_cS (fun _ => rfl) (Nat.le_of_ble_eq_true rfl) ?_
  refine sf_2 (by omega) (by omega) (by omega) (by omega) C0 (fun y1 => ?_) (fun y1 => ?_)
  · skip
    refine x_if_eq (by omega) (by omega) (fun z => absurd z (by omega)) (fun z2 => ?_)
    refine x_iload rfl ?_
    refine x_push 54 rfl ?_
    refine x_cS (fun _ => rfl) (Nat.le_of_ble_eq_true rfl) ?_
    refine sf_2 (by omega) (by omega) (by omega) (by omega) C0 (fun y3 => ?_) (fun y3 => ?_)
    · skip
      refine x_if_eq (by omega) (by omega) (fun z => absurd z (by omega)) (fun z4 => ?_)
      refine x_iload rfl ?_
      refine x_push (-1) rfl ?_
      refine x_icmp_ge (by omega) (by omega) (by omega) (by omega) (fun z5 => ?_) (fun z5 => ?_)
      · skip
        refine x_fall ?_
        refine x_blk (b := 1) (a_160 E) rfl ?_
        unfold b_160_1
        refine x_push (-1) rfl ?_
        refine x_iret ?_
        exact k _ _ C0 (y_fr_rf (lo := 111) (hi := 137)) (by omega) (by omega) 
      · skip
        refine x_blk (b := 2) (a_160 E) rfl ?_
        unfold b_160_2
        refine x_aload rfl ?_
        refine x_iload rfl ?_
        refine x_cV (fun _ => rfl) rfl (by decide) (Nat.le_of_ble_eq_true rfl) ?_
        refine sf_108_0 (by omega) (by omega) C0 (fun y6 => ?_) (fun y6 => ?_)
        · skip
          refine x_astore ?_
          refine x_aload rfl ?_
          refine x_aload rfl ?_
          refine x_getR (r := 0) rfl (by decide) (by decide) rfl ?_
          refine x_cV (fun _ => rfl) rfl (by decide) (Nat.le_of_ble_eq_true rfl) ?_
          refine sf_109_111_4  C0 (fun S7 C7 f7 => ?_)
          have F7 := y_fq_tr (by decide) (y_fr_rf (lo := 111) (hi := 137)) f7
          refine x_aload rfl ?_
          refine x_iload rfl ?_
          refine x_cV (fun _ => rfl) rfl (by decide) (Nat.le_of_ble_eq_true rfl) ?_
          refine sf_41_111 (by omega) (by omega) C7 (fun v8 v8a v8b => ?_)
          refine x_istore ?_
          refine x_X_lo (lo' := [(0, x_R 0), (1, x_I _), (2, x_I _), (3, x_I _), (4, x_R 111), (5, x_I _)]) ⟨rfl, rfl, rfl, rfl, rfl, rfl, trivial⟩ ?_
          refine x_iload rfl ?_
          refine x_if_eq (by omega) (by omega) (fun z9 => ?_) (fun z9 => ?_)
          · skip
            refine x_blk (b := 3) (a_160 E) rfl ?_
            unfold b_160_3
            refine x_push (-4) rfl ?_
            refine x_iret ?_
            exact k _ _ C7 F7 (by omega) (by omega) 
          · skip
            refine x_iload rfl ?_
            refine x_push 40 rfl ?_
            refine x_icmp_gt (by omega) (by omega) (by omega) (by omega) (fun z10 => ?_) (fun z10 => ?_)
            · skip
              refine x_iload rfl ?_
              refine x_iload rfl ?_
              refine x_icmp_lt (by omega) (by omega) (by omega) (by omega) (fun z11 => ?_) (fun z11 => ?_)
              · skip
                refine x_blk (b := 4) (a_160 E) rfl ?_
                unfold b_160_4
                refine x_iload rfl ?_
                refine x_push (-1) rfl ?_
                refine x_icmp_ne (by omega) (by omega) (by omega) (by omega) (fun z12 => ?_) (fun z12 => ?_)
                · skip
                  refine x_iload rfl ?_
                  refine x_goto ?_
                  refine x_blk (b := 6) (a_160 E) rfl ?_
                  unfold b_160_6
                  refine x_iret ?_
                  exact k _ _ C7 F7 (by omega) (by omega) 
                · skip
                  refine x_blk (b := 5) (a_160 E) rfl ?_
                  unfold b_160_5
                  refine x_aload rfl ?_
                  refine x_iload rfl ?_
                  refine x_iload rfl ?_
                  refine x_cV (fun _ => rfl) rfl (by decide) (Nat.le_of_ble_eq_true rfl) ?_
                  refine sf_161_111 (by omega) (by omega) (by omega) (by omega) C7 (fun v13 v13a v13b => ?_)
                  refine x_fall ?_
                  refine x_blk (b := 6) (a_160 E) rfl ?_
                  unfold b_160_6
                  refine x_iret ?_
                  exact k _ _ C7 F7 (by omega) (by omega) 
              · skip
                refine x_fall ?_
                refine x_blk (b := 3) (a_160 E) rfl ?_
                unfold b_160_3
                refine x_push (-4) rfl ?_
                refine x_iret ?_
                exact k _ _ C7 F7 (by omega) (by omega) 
            · skip
              refine x_blk (b := 3) (a_160 E) rfl ?_
              unfold b_160_3
              refine x_push (-4) rfl ?_
              refine x_iret ?_
              exact k _ _ C7 F7 (by omega) (by omega) 
        · skip
          refine x_astore ?_
          refine x_aload rfl ?_
          refine x_aload rfl ?_
          refine x_getR (r := 0) rfl (by decide) (by decide) rfl ?_
          refine x_cV (fun _ => rfl) rfl (by decide) (Nat.le_of_ble_eq_true rfl) ?_
          refine sf_109_124_4  C0 (fun S14 C14 f14 => ?_)
          have F14 := y_fq_tr (by decide) (y_fr_rf (lo := 111) (hi := 137)) f14
          refine x_aload rfl ?_
          refine x_iload rfl ?_
          refine x_cV (fun _ => rfl) rfl (by decide) (Nat.le_of_ble_eq_true rfl) ?_
          refine sf_41_124 (by omega) (by omega) C14 (fun v15 v15a v15b => ?_)
          refine x_istore ?_
          refine x_X_lo (lo' := [(0, x_R 0), (1, x_I _), (2, x_I _), (3, x_I _), (4, x_R 124), (5, x_I _)]) ⟨rfl, rfl, rfl, rfl, rfl, rfl, trivial⟩ ?_
          refine x_iload rfl ?_
          refine x_if_eq (by omega) (by omega) (fun z16 => ?_) (fun z16 => ?_)
          · skip
            refine x_blk (b := 3) (a_160 E) rfl ?_
            unfold b_160_3
            refine x_push (-4) rfl ?_
            refine x_iret ?_
            exact k _ _ C14 F14 (by omega) (by omega) 
          · skip
            refine x_iload rfl ?_
            refine x_push 40 rfl ?_
            refine x_icmp_gt (by omega) (by omega) (by omega) (by omega) (fun z17 => ?_) (fun z17 => ?_)
            · skip
              refine x_iload rfl ?_
              refine x_iload rfl ?_
              refine x_icmp_lt (by omega) (by omega) (by omega) (by omega) (fun z18 => ?_) (fun z18 => ?_)
              · skip
                refine x_blk (b := 4) (a_160 E) rfl ?_
                unfold b_160_4
                refine x_iload rfl ?_
                refine x_push (-1) rfl ?_
                refine x_icmp_ne (by omega) (by omega) (by omega) (by omega) (fun z19 => ?_) (fun z19 => ?_)
                · skip
                  refine x_iload rfl ?_
                  refine x_goto ?_
                  refine x_blk (b := 6) (a_160 E) rfl ?_
                  unfold b_160_6
                  refine x_iret ?_
                  exact k _ _ C14 F14 (by omega) (by omega) 
                · skip
                  refine x_blk (b := 5) (a_160 E) rfl ?_
                  unfold b_160_5
                  refine x_aload rfl ?_
                  refine x_iload rfl ?_
                  refine x_iload rfl ?_
                  refine x_cV (fun _ => rfl) rfl (by decide) (Nat.le_of_ble_eq_true rfl) ?_
                  refine sf_161_124 (by omega) (by omega) (by omega) (by omega) C14 (fun v20 v20a v20b => ?_)
                  refine x_fall ?_
                  refine x_blk (b := 6) (a_160 E) rfl ?_
                  unfold b_160_6
                  refine x_iret ?_
                  exact k _ _ C14 F14 (by omega) (by omega) 
              · skip
                refine x_fall ?_
                refine x_blk (b := 3) (a_160 E) rfl ?_
                unfold b_160_3
                refine x_push (-4) rfl ?_
                refine x_iret ?_
                exact k _ _ C14 F14 (by omega) (by omega) 
            · skip
              refine x_blk (b := 3) (a_160 E) rfl ?_
              unfold b_160_3
              refine x_push (-4) rfl ?_
              refine x_iret ?_
              exact k _ _ C14 F14 (by omega) (by omega) 
    · skip
      refine x_if_eq (by omega) (by omega) (fun z21 => ?_) (fun z => absurd (by omega) z)
      refine x_blk (b := 1) (a_160 E) rfl ?_
      unfold b_160_1
      refine x_push (-1) rfl ?_
      refine x_iret ?_
      exact k _ _ C0 (y_fr_rf (lo := 111) (hi := 137)) (by omega) (by omega) 
  · skip
    refine x_if_eq (by omega) (by omega) (fun z22 => ?_) (fun z => absurd (by omega) z)
    refine x_blk (b := 1) (a_160 E) rfl ?_
    unfold b_160_1
    refine x_push (-1) rfl ?_
    refine x_iret ?_
    exact k _ _ C0 (y_fr_rf (lo := 111) (hi := 137)) (by omega) (by omega) 
theorem sf_164_111_b3 {E : q_E} {σ : x_S} {Q : Option q_V → x_S → Prop} {a1 a2 : Int} (a1l : (-2147483648) ≤ a1) (a1h : a1 ≤ 2147483647) (a2l : (-2147483648) ≤ a2) (a2h : a2 ≤ 2147483647) (C0 : y_CI σ) (k : ∀ v, (-4) ≤ v → v ≤ 53 → Q (some (x_I v)) σ) : ∀ (N : Nat) (n : Int), (54 - n).toNat = N → 0 ≤ n → n ≤ 54 → x_G E m_164 Q (t_164 3) [(0, x_R 111), (1, x_I a1), (2, x_I a2), (3, x_I n)] [] σ := by
  intro N
  induction N using Nat.strongRecOn with
  | ind N ih =>
    intro n hN nL nH
    refine x_blk (b := 3) (a_164 E) rfl ?_
    unfold b_164_3
    refine x_iload rfl ?_
    refine x_aload rfl ?_
    refine x_getIG y_f111_13 C0 ?_
    intro g1a g1b
    refine x_icmp_ge (by omega) (by omega) (by omega) (by omega) (fun z2 => ?_) (fun z2 => ?_)
    · skip
      refine x_iload rfl ?_
      refine x_push 54 rfl ?_
      refine x_icmp_ge (by omega) (by omega) (by omega) (by omega) (fun z3 => ?_) (fun z => absurd (by omega) z)
      refine x_aload rfl ?_
      refine x_getR (r := 111) rfl (by decide) (by decide) rfl ?_
      refine x_iload rfl ?_
      refine x_ialdG y_a116 C0 (by omega) (by omega) (fun v4 v4a v4b => ?_)
      refine x_iload rfl ?_
      refine x_cS (fun _ => rfl) (Nat.le_of_ble_eq_true rfl) ?_
      refine sf_61 (by omega) (by omega) (by omega) (by omega) C0 (fun v5 v5a v5b => ?_)
      refine x_iload rfl ?_
      refine x_icmp_ne (by omega) (by omega) (by omega) (by omega) (fun z6 => ?_) (fun z6 => ?_)
      · skip
        refine x_aload rfl ?_
        refine x_getR (r := 111) rfl (by decide) (by decide) rfl ?_
        refine x_iload rfl ?_
        refine x_ialdG y_a116 C0 (by omega) (by omega) (fun v7 v7a v7b => ?_)
        refine x_iret ?_
        exact k _ (by omega) (by omega) 
      · skip
        refine x_blk (b := 2) (a_164 E) rfl ?_
        unfold b_164_2
        refine x_iinc 1 rfl rfl ?_
        refine x_goto ?_
        refine x_G_lo (lo' := [(0, x_R 111), (1, x_I _), (2, x_I _), (3, x_I _)]) ⟨rfl, rfl, rfl, rfl, trivial⟩ ?_
        exact ih _ (by omega) _  rfl (by omega) (by omega)  
    · skip
      refine x_blk (b := 1) (a_164 E) rfl ?_
      unfold b_164_1
      refine x_push (-4) rfl ?_
      refine x_iret ?_
      exact k _ (by omega) (by omega) 
theorem sf_164_111 {E : q_E} {σ : x_S} {Q : Option q_V → x_S → Prop} {a1 a2 : Int} (a1l : (-2147483648) ≤ a1) (a1h : a1 ≤ 2147483647) (a2l : (-2147483648) ≤ a2) (a2h : a2 ≤ 2147483647) (C0 : y_CI σ) (k : ∀ v, (-4) ≤ v → v ≤ 53 → Q (some (x_I v)) σ) : x_P E 164 [x_R 111, x_I a1, x_I a2] σ Q := by
  refine x_Mt e_164 (h_164 E) (Nat.le_of_ble_eq_true rfl) t_164 rfl ?_
  refine x_blk (b := 0) (a_164 E) rfl ?_
  unfold b_164_0
  refine x_push 0 rfl ?_
  refine x_istore ?_
  refine x_fall ?_
  refine x_G_lo (lo' := [(0, x_R 111), (1, x_I _), (2, x_I _), (3, x_I _)]) ⟨rfl, rfl, rfl, rfl, trivial⟩ ?_
  exact sf_164_111_b3 a1l a1h a2l a2h C0 k  _ _  rfl (by omega) (by omega)  
theorem sf_164_124_b3 {E : q_E} {σ : x_S} {Q : Option q_V → x_S → Prop} {a1 a2 : Int} (a1l : (-2147483648) ≤ a1) (a1h : a1 ≤ 2147483647) (a2l : (-2147483648) ≤ a2) (a2h : a2 ≤ 2147483647) (C0 : y_CI σ) (k : ∀ v, (-4) ≤ v → v ≤ 53 → Q (some (x_I v)) σ) : ∀ (N : Nat) (n : Int), (54 - n).toNat = N → 0 ≤ n → n ≤ 54 → x_G E m_164 Q (t_164 3) [(0, x_R 124), (1, x_I a1), (2, x_I a2), (3, x_I n)] [] σ := by
  intro N
  induction N using Nat.strongRecOn with
  | ind N ih =>
    intro n hN nL nH
    refine x_blk (b := 3) (a_164 E) rfl ?_
    unfold b_164_3
    refine x_iload rfl ?_
    refine x_aload rfl ?_
    refine x_getIG y_f124_13 C0 ?_
    intro g1a g1b
    refine x_icmp_ge (by omega) (by omega) (by omega) (by omega) (fun z2 => ?_) (fun z2 => ?_)
    · skip
      refine x_iload rfl ?_
      refine x_push 54 rfl ?_
      refine x_icmp_ge (by omega) (by omega) (by omega) (by omega) (fun z3 => ?_) (fun z => absurd (by omega) z)
      refine x_aload rfl ?_
      refine x_getR (r := 124) rfl (by decide) (by decide) rfl ?_
      refine x_iload rfl ?_
      refine x_ialdG y_a129 C0 (by omega) (by omega) (fun v4 v4a v4b => ?_)
      refine x_iload rfl ?_
      refine x_cS (fun _ => rfl) (Nat.le_of_ble_eq_true rfl) ?_
      refine sf_61 (by omega) (by omega) (by omega) (by omega) C0 (fun v5 v5a v5b => ?_)
      refine x_iload rfl ?_
      refine x_icmp_ne (by omega) (by omega) (by omega) (by omega) (fun z6 => ?_) (fun z6 => ?_)
      · skip
        refine x_aload rfl ?_
        refine x_getR (r := 124) rfl (by decide) (by decide) rfl ?_
        refine x_iload rfl ?_
        refine x_ialdG y_a129 C0 (by omega) (by omega) (fun v7 v7a v7b => ?_)
        refine x_iret ?_
        exact k _ (by omega) (by omega) 
      · skip
        refine x_blk (b := 2) (a_164 E) rfl ?_
        unfold b_164_2
        refine x_iinc 1 rfl rfl ?_
        refine x_goto ?_
        refine x_G_lo (lo' := [(0, x_R 124), (1, x_I _), (2, x_I _), (3, x_I _)]) ⟨rfl, rfl, rfl, rfl, trivial⟩ ?_
        exact ih _ (by omega) _  rfl (by omega) (by omega)  
    · skip
      refine x_blk (b := 1) (a_164 E) rfl ?_
      unfold b_164_1
      refine x_push (-4) rfl ?_
      refine x_iret ?_
      exact k _ (by omega) (by omega) 
theorem sf_164_124 {E : q_E} {σ : x_S} {Q : Option q_V → x_S → Prop} {a1 a2 : Int} (a1l : (-2147483648) ≤ a1) (a1h : a1 ≤ 2147483647) (a2l : (-2147483648) ≤ a2) (a2h : a2 ≤ 2147483647) (C0 : y_CI σ) (k : ∀ v, (-4) ≤ v → v ≤ 53 → Q (some (x_I v)) σ) : x_P E 164 [x_R 124, x_I a1, x_I a2] σ Q := by
  refine x_Mt e_164 (h_164 E) (Nat.le_of_ble_eq_true rfl) t_164 rfl ?_
  refine x_blk (b := 0) (a_164 E) rfl ?_
  unfold b_164_0
  refine x_push 0 rfl ?_
  refine x_istore ?_
  refine x_fall ?_
  refine x_G_lo (lo' := [(0, x_R 124), (1, x_I _), (2, x_I _), (3, x_I _)]) ⟨rfl, rfl, rfl, rfl, trivial⟩ ?_
  exact sf_164_124_b3 a1l a1h a2l a2h C0 k  _ _  rfl (by omega) (by omega)  
theorem sf_163_0 {E : q_E} {σ : x_S} {Q : Option q_V → x_S → Prop} {a1 a2 a3 a4 : Int} (a1l : (-2147483648) ≤ a1) (a1h : a1 ≤ 2147483647) (a2l : (-2147483648) ≤ a2) (a2h : a2 ≤ 2147483647) (a3l : (-2147483648) ≤ a3) (a3h : a3 ≤ 2147483647) (a4l : (-2147483648) ≤ a4) (a4h : a4 ≤ 2147483647) (C0 : y_CI σ) (k : ∀ τ v, y_CI τ → y_fq 111 137 σ τ → (-2147483648) ≤ v → v ≤ 2147483647 → Q (some (x_I v)) τ) : x_P E 163 [x_R 0, x_I a1, x_I a2, x_I a3, x_I a4] σ Q := by
  refine x_Mt e_163 (h_163 E) (Nat.le_of_ble_eq_true rfl) t_163 rfl ?_
  refine x_blk (b := 0) (a_163 E) rfl ?_
  unfold b_163_0
  refine x_iload rfl ?_
  refine x_push 2 rfl ?_
  refine x_cS (fun _ => rfl) (Nat.le_of_ble_eq_true rfl) ?_
  refine sf_2 (by omega) (by omega) (by omega) (by omega) C0 (fun y1 => ?_) (fun y1 => ?_)
  · skip
    refine x_if_eq (by omega) (by omega) (fun z => absurd z (by omega)) (fun z2 => ?_)
    refine x_iload rfl ?_
    refine x_push 3 rfl ?_
    refine x_cS (fun _ => rfl) (Nat.le_of_ble_eq_true rfl) ?_
    refine sf_2 (by omega) (by omega) (by omega) (by omega) C0 (fun y3 => ?_) (fun y3 => ?_)
    · skip
      refine x_if_eq (by omega) (by omega) (fun z => absurd z (by omega)) (fun z4 => ?_)
      refine x_iload rfl ?_
      refine x_push 2 rfl ?_
      refine x_cS (fun _ => rfl) (Nat.le_of_ble_eq_true rfl) ?_
      refine sf_2 (by omega) (by omega) (by omega) (by omega) C0 (fun y5 => ?_) (fun y5 => ?_)
      · skip
        refine x_if_ne (by omega) (by omega) (fun z => absurd z (by omega)) (fun z6 => ?_)
        refine x_blk (b := 2) (a_163 E) rfl ?_
        unfold b_163_2
        refine x_aload rfl ?_
        refine x_iload rfl ?_
        refine x_cV (fun _ => rfl) rfl (by decide) (Nat.le_of_ble_eq_true rfl) ?_
        refine sf_108_0 (by omega) (by omega) C0 (fun y7 => ?_) (fun y7 => ?_)
        · skip
          refine x_astore ?_
          refine x_aload rfl ?_
          refine x_aload rfl ?_
          refine x_getR (r := 0) rfl (by decide) (by decide) rfl ?_
          refine x_cV (fun _ => rfl) rfl (by decide) (Nat.le_of_ble_eq_true rfl) ?_
          refine sf_109_111_4  C0 (fun S8 C8 f8 => ?_)
          have F8 := y_fq_tr (by decide) (y_fr_rf (lo := 111) (hi := 137)) f8
          refine x_aload rfl ?_
          refine x_iload rfl ?_
          refine x_iload rfl ?_
          refine x_cV (fun _ => rfl) rfl (by decide) (Nat.le_of_ble_eq_true rfl) ?_
          refine sf_164_111 (by omega) (by omega) (by omega) (by omega) C8 (fun v9 v9a v9b => ?_)
          refine x_istore ?_
          refine x_X_lo (lo' := [(0, x_R 0), (1, x_I _), (2, x_I _), (3, x_I _), (4, x_I _), (5, x_R 111), (6, x_I _)]) ⟨rfl, rfl, rfl, rfl, rfl, rfl, rfl, trivial⟩ ?_
          refine x_aload rfl ?_
          refine x_iload rfl ?_
          refine x_cV (fun _ => rfl) rfl (by decide) (Nat.le_of_ble_eq_true rfl) ?_
          refine sf_41_111 (by omega) (by omega) C8 (fun v10 v10a v10b => ?_)
          refine x_istore ?_
          refine x_iload rfl ?_
          refine x_if_ne (by omega) (by omega) (fun z11 => ?_) (fun z11 => ?_)
          · skip
            refine x_iload rfl ?_
            refine x_iret ?_
            exact k _ _ C8 F8 (by omega) (by omega) 
          · skip
            refine x_blk (b := 3) (a_163 E) rfl ?_
            unfold b_163_3
            refine x_iload rfl ?_
            refine x_if_eq (by omega) (by omega) (fun z12 => ?_) (fun z12 => ?_)
            · skip
              refine x_blk (b := 4) (a_163 E) rfl ?_
              unfold b_163_4
              refine x_push (-4) rfl ?_
              refine x_goto ?_
              refine x_blk (b := 6) (a_163 E) rfl ?_
              unfold b_163_6
              refine x_iret ?_
              exact k _ _ C8 F8 (by omega) (by omega) 
            · skip
              refine x_iload rfl ?_
              refine x_push 40 rfl ?_
              refine x_icmp_le (by omega) (by omega) (by omega) (by omega) (fun z13 => ?_) (fun z13 => ?_)
              · skip
                refine x_blk (b := 5) (a_163 E) rfl ?_
                unfold b_163_5
                refine x_iload rfl ?_
                refine x_fall ?_
                refine x_blk (b := 6) (a_163 E) rfl ?_
                unfold b_163_6
                refine x_iret ?_
                exact k _ _ C8 F8 (by omega) (by omega) 
              · skip
                refine x_fall ?_
                refine x_blk (b := 4) (a_163 E) rfl ?_
                unfold b_163_4
                refine x_push (-4) rfl ?_
                refine x_goto ?_
                refine x_blk (b := 6) (a_163 E) rfl ?_
                unfold b_163_6
                refine x_iret ?_
                exact k _ _ C8 F8 (by omega) (by omega) 
        · skip
          refine x_astore ?_
          refine x_aload rfl ?_
          refine x_aload rfl ?_
          refine x_getR (r := 0) rfl (by decide) (by decide) rfl ?_
          refine x_cV (fun _ => rfl) rfl (by decide) (Nat.le_of_ble_eq_true rfl) ?_
          refine sf_109_124_4  C0 (fun S14 C14 f14 => ?_)
          have F14 := y_fq_tr (by decide) (y_fr_rf (lo := 111) (hi := 137)) f14
          refine x_aload rfl ?_
          refine x_iload rfl ?_
          refine x_iload rfl ?_
          refine x_cV (fun _ => rfl) rfl (by decide) (Nat.le_of_ble_eq_true rfl) ?_
          refine sf_164_124 (by omega) (by omega) (by omega) (by omega) C14 (fun v15 v15a v15b => ?_)
          refine x_istore ?_
          refine x_X_lo (lo' := [(0, x_R 0), (1, x_I _), (2, x_I _), (3, x_I _), (4, x_I _), (5, x_R 124), (6, x_I _)]) ⟨rfl, rfl, rfl, rfl, rfl, rfl, rfl, trivial⟩ ?_
          refine x_aload rfl ?_
          refine x_iload rfl ?_
          refine x_cV (fun _ => rfl) rfl (by decide) (Nat.le_of_ble_eq_true rfl) ?_
          refine sf_41_124 (by omega) (by omega) C14 (fun v16 v16a v16b => ?_)
          refine x_istore ?_
          refine x_iload rfl ?_
          refine x_if_ne (by omega) (by omega) (fun z17 => ?_) (fun z17 => ?_)
          · skip
            refine x_iload rfl ?_
            refine x_iret ?_
            exact k _ _ C14 F14 (by omega) (by omega) 
          · skip
            refine x_blk (b := 3) (a_163 E) rfl ?_
            unfold b_163_3
            refine x_iload rfl ?_
            refine x_if_eq (by omega) (by omega) (fun z18 => ?_) (fun z18 => ?_)
            · skip
              refine x_blk (b := 4) (a_163 E) rfl ?_
              unfold b_163_4
              refine x_push (-4) rfl ?_
              refine x_goto ?_
              refine x_blk (b := 6) (a_163 E) rfl ?_
              unfold b_163_6
              refine x_iret ?_
              exact k _ _ C14 F14 (by omega) (by omega) 
            · skip
              refine x_iload rfl ?_
              refine x_push 40 rfl ?_
              refine x_icmp_le (by omega) (by omega) (by omega) (by omega) (fun z19 => ?_) (fun z19 => ?_)
              · skip
                refine x_blk (b := 5) (a_163 E) rfl ?_
                unfold b_163_5
                refine x_iload rfl ?_
                refine x_fall ?_
                refine x_blk (b := 6) (a_163 E) rfl ?_
                unfold b_163_6
                refine x_iret ?_
                exact k _ _ C14 F14 (by omega) (by omega) 
              · skip
                refine x_fall ?_
                refine x_blk (b := 4) (a_163 E) rfl ?_
                unfold b_163_4
                refine x_push (-4) rfl ?_
                refine x_goto ?_
                refine x_blk (b := 6) (a_163 E) rfl ?_
                unfold b_163_6
                refine x_iret ?_
                exact k _ _ C14 F14 (by omega) (by omega) 
      · skip
        refine x_if_ne (by omega) (by omega) (fun z20 => ?_) (fun z => absurd (by omega) z)
        refine x_fall ?_
        refine x_blk (b := 1) (a_163 E) rfl ?_
        unfold b_163_1
        refine x_push (-1) rfl ?_
        refine x_iret ?_
        exact k _ _ C0 (y_fr_rf (lo := 111) (hi := 137)) (by omega) (by omega) 
    · skip
      refine x_if_eq (by omega) (by omega) (fun z21 => ?_) (fun z => absurd (by omega) z)
      refine x_blk (b := 1) (a_163 E) rfl ?_
      unfold b_163_1
      refine x_push (-1) rfl ?_
      refine x_iret ?_
      exact k _ _ C0 (y_fr_rf (lo := 111) (hi := 137)) (by omega) (by omega) 
  · skip
    refine x_if_eq (by omega) (by omega) (fun z22 => ?_) (fun z => absurd (by omega) z)
    refine x_blk (b := 1) (a_163 E) rfl ?_
    unfold b_163_1
    refine x_push (-1) rfl ?_
    refine x_iret ?_
    exact k _ _ C0 (y_fr_rf (lo := 111) (hi := 137)) (by omega) (by omega) 
theorem sf_162_0 {E : q_E} {σ : x_S} {Q : Option q_V → x_S → Prop} {a1 a2 a3 : Int} (a1l : (-2147483648) ≤ a1) (a1h : a1 ≤ 2147483647) (a2l : (-2147483648) ≤ a2) (a2h : a2 ≤ 2147483647) (a3l : (-2147483648) ≤ a3) (a3h : a3 ≤ 2147483647) (C0 : y_CI σ) (k : ∀ τ v, y_CI τ → y_fq 111 137 σ τ → (-2147483648) ≤ v → v ≤ 2147483647 → Q (some (x_I v)) τ) : x_P E 162 [x_R 0, x_I a1, x_I a2, x_I a3] σ Q := by
  refine x_Mt e_162 (h_162 E) (Nat.le_of_ble_eq_true rfl) t_162 rfl ?_
  refine x_blk (b := 0) (a_162 E) rfl ?_
  unfold b_162_0
  refine x_aload rfl ?_
  refine x_iload rfl ?_
  refine x_iload rfl ?_
  refine x_iload rfl ?_
  refine x_push 2 rfl ?_
  refine x_cV (fun _ => rfl) rfl (by decide) (Nat.le_of_ble_eq_true rfl) ?_
  refine sf_163_0 (by omega) (by omega) (by omega) (by omega) (by omega) (by omega) (by omega) (by omega) C0 (fun S1 v1 C1 f1 v1a v1b => ?_)
  have F1 := y_fq_tr (by decide) (y_fr_rf (lo := 111) (hi := 137)) f1
  refine x_iret ?_
  exact k _ _ C1 F1 (by omega) (by omega) 
theorem sf_165_0 {E : q_E} {σ : x_S} {Q : Option q_V → x_S → Prop} {a1 a2 a3 : Int} (a1l : (-2147483648) ≤ a1) (a1h : a1 ≤ 2147483647) (a2l : (-2147483648) ≤ a2) (a2h : a2 ≤ 2147483647) (a3l : (-2147483648) ≤ a3) (a3h : a3 ≤ 2147483647) (C0 : y_CI σ) (k : ∀ τ v, y_CI τ → y_fq 111 137 σ τ → (-2147483648) ≤ v → v ≤ 2147483647 → Q (some (x_I v)) τ) : x_P E 165 [x_R 0, x_I a1, x_I a2, x_I a3] σ Q := by
  refine x_Mt e_165 (h_165 E) (Nat.le_of_ble_eq_true rfl) t_165 rfl ?_
  refine x_blk (b := 0) (a_165 E) rfl ?_
  unfold b_165_0
  refine x_aload rfl ?_
  refine x_iload rfl ?_
  refine x_iload rfl ?_
  refine x_iload rfl ?_
  refine x_push 0 rfl ?_
  refine x_cV (fun _ => rfl) rfl (by decide) (Nat.le_of_ble_eq_true rfl) ?_
  refine sf_163_0 (by omega) (by omega) (by omega) (by omega) (by omega) (by omega) (by omega) (by omega) C0 (fun S1 v1 C1 f1 v1a v1b => ?_)
  have F1 := y_fq_tr (by decide) (y_fr_rf (lo := 111) (hi := 137)) f1
  refine x_iret ?_
  exact k _ _ C1 F1 (by omega) (by omega) 
theorem sf_76_76 {E : q_E} {σ : x_S} {Q : Option q_V → x_S → Prop} {a1 : Int} (a1l : (-1) ≤ a1) (a1h : a1 ≤ 8) (C0 : y_CI σ) (k : ∀ v, (-1) ≤ v → v ≤ 15 → (0 ≤ a1 → a1 ≤ 2 → 0 ≤ v ∧ v ≤ 2 - 1) → Q (some (x_I v)) σ) : x_P E 76 [x_R 76, x_I a1] σ Q := by
  refine x_Mt e_76 (h_76 E) (Nat.le_of_ble_eq_true rfl) t_76 rfl ?_
  refine x_blk (b := 0) (a_76 E) rfl ?_
  unfold b_76_0
  refine x_aload rfl ?_
  refine x_getIG y_f76_1 C0 ?_
  intro g1a g1b
  refine x_iload rfl ?_
  refine x_iadd ?_
  refine x_istore ?_
  refine x_iload rfl ?_
  refine x_aload rfl ?_
  refine x_getR (r := 76) rfl (by decide) (by decide) rfl ?_
  refine x_lenG (n := 2) (L := 2) rfl (by decide) rfl (by decide) rfl ?_
  refine x_icmp_ge (by omega) (by omega) (by omega) (by omega) (fun z2 => ?_) (fun z2 => ?_)
  · skip
    refine x_iload rfl ?_
    refine x_goto ?_
    refine x_blk (b := 2) (a_76 E) rfl ?_
    unfold b_76_2
    refine x_iret ?_
    exact k _ (by omega) (by omega) (by omega)
  · skip
    refine x_blk (b := 1) (a_76 E) rfl ?_
    unfold b_76_1
    refine x_iload rfl ?_
    refine x_aload rfl ?_
    refine x_getR (r := 76) rfl (by decide) (by decide) rfl ?_
    refine x_lenG (n := 2) (L := 2) rfl (by decide) rfl (by decide) rfl ?_
    refine x_isub ?_
    refine x_fall ?_
    refine x_blk (b := 2) (a_76 E) rfl ?_
    unfold b_76_2
    refine x_iret ?_
    exact k _ (by omega) (by omega) (by omega)
theorem sf_71_78_4 {E : q_E} {σ : x_S} {Q : Option q_V → x_S → Prop} (C0 : y_CI σ) (k : ∀ τ, y_CI τ → y_fq 78 85 σ τ → Q none τ) : x_P E 71 [x_R 78, x_R 4] σ Q := by
  refine x_Mt e_71 (h_71 E) (Nat.le_of_ble_eq_true rfl) t_71 rfl ?_
  refine x_blk (b := 0) (a_71 E) rfl ?_
  unfold b_71_0
  refine x_aload rfl ?_
  refine x_getR (r := 4) rfl (by decide) (by decide) rfl ?_
  refine x_push 0 rfl ?_
  refine x_aload rfl ?_
  refine x_getR (r := 78) rfl (by decide) (by decide) rfl ?_
  refine x_push 0 rfl ?_
  refine x_push 33 rfl ?_
  refine x_copyG y_a5 y_a79 (by decide) (by decide) C0 (by decide) (y_fr_rf (lo := 78) (hi := 85)) (by omega) (by omega) (by omega) (by omega) (by omega) (Nat.le_of_ble_eq_true rfl) (fun S1 e1 C1 F1 => ?_)
  refine x_aload rfl ?_
  refine x_getR (r := 4) rfl (by decide) (by decide) rfl ?_
  refine x_push 0 rfl ?_
  refine x_aload rfl ?_
  refine x_getR (r := 78) rfl (by decide) (by decide) rfl ?_
  refine x_push 0 rfl ?_
  refine x_push 3 rfl ?_
  refine x_copyG y_a6 y_a80 (by decide) (by decide) C1 (by decide) F1 (by omega) (by omega) (by omega) (by omega) (by omega) (Nat.le_of_ble_eq_true rfl) (fun S2 e2 C2 F2 => ?_)
  refine x_aload rfl ?_
  refine x_getR (r := 4) rfl (by decide) (by decide) rfl ?_
  refine x_push 0 rfl ?_
  refine x_aload rfl ?_
  refine x_getR (r := 78) rfl (by decide) (by decide) rfl ?_
  refine x_push 0 rfl ?_
  refine x_push 2 rfl ?_
  refine x_copyG y_a7 y_a81 (by decide) (by decide) C2 (by decide) F2 (by omega) (by omega) (by omega) (by omega) (by omega) (Nat.le_of_ble_eq_true rfl) (fun S3 e3 C3 F3 => ?_)
  refine x_aload rfl ?_
  refine x_getR (r := 4) rfl (by decide) (by decide) rfl ?_
  refine x_push 0 rfl ?_
  refine x_aload rfl ?_
  refine x_getR (r := 78) rfl (by decide) (by decide) rfl ?_
  refine x_push 0 rfl ?_
  refine x_push 40 rfl ?_
  refine x_copyG y_a8 y_a82 (by decide) (by decide) C3 (by decide) F3 (by omega) (by omega) (by omega) (by omega) (by omega) (Nat.le_of_ble_eq_true rfl) (fun S4 e4 C4 F4 => ?_)
  refine x_aload rfl ?_
  refine x_getR (r := 4) rfl (by decide) (by decide) rfl ?_
  refine x_push 0 rfl ?_
  refine x_aload rfl ?_
  refine x_getR (r := 78) rfl (by decide) (by decide) rfl ?_
  refine x_push 0 rfl ?_
  refine x_push 192 rfl ?_
  refine x_copyG y_a9 y_a83 (by decide) (by decide) C4 (by decide) F4 (by omega) (by omega) (by omega) (by omega) (by omega) (Nat.le_of_ble_eq_true rfl) (fun S5 e5 C5 F5 => ?_)
  refine x_aload rfl ?_
  refine x_getR (r := 4) rfl (by decide) (by decide) rfl ?_
  refine x_push 0 rfl ?_
  refine x_aload rfl ?_
  refine x_getR (r := 78) rfl (by decide) (by decide) rfl ?_
  refine x_push 0 rfl ?_
  refine x_push 90 rfl ?_
  refine x_copyG y_a10 y_a84 (by decide) (by decide) C5 (by decide) F5 (by omega) (by omega) (by omega) (by omega) (by omega) (Nat.le_of_ble_eq_true rfl) (fun S6 e6 C6 F6 => ?_)
  refine x_aload rfl ?_
  refine x_aload rfl ?_
  refine x_fall ?_
  refine x_blk (b := 1) (a_71 E) rfl ?_
  unfold b_71_1
  refine x_getIG y_f4_6 C6 ?_
  have q7_0 : S6 4 6 = S5 4 6 := x_cp_nr e6 (by decide)
  have q7_1 : S5 4 6 = S4 4 6 := x_cp_nr e5 (by decide)
  have q7_2 : S4 4 6 = S3 4 6 := x_cp_nr e4 (by decide)
  have q7_3 : S3 4 6 = S2 4 6 := x_cp_nr e3 (by decide)
  have q7_4 : S2 4 6 = S1 4 6 := x_cp_nr e2 (by decide)
  have q7_5 : S1 4 6 = σ 4 6 := x_cp_nr e1 (by decide)
  simp only [q7_0, q7_1, q7_2, q7_3, q7_4, q7_5]
  intro g7a g7b
  refine x_putIG y_f78_6 ⟨by decide, rfl⟩ (by decide) C6 (by decide) F6 (by omega) (by omega) (fun S8 e8 C8 F8 => ?_)
  refine x_vret ?_
  exact k _ C8 F8 
theorem sf_71_85_4 {E : q_E} {σ : x_S} {Q : Option q_V → x_S → Prop} (C0 : y_CI σ) (k : ∀ τ, y_CI τ → y_fq 85 92 σ τ → Q none τ) : x_P E 71 [x_R 85, x_R 4] σ Q := by
  refine x_Mt e_71 (h_71 E) (Nat.le_of_ble_eq_true rfl) t_71 rfl ?_
  refine x_blk (b := 0) (a_71 E) rfl ?_
  unfold b_71_0
  refine x_aload rfl ?_
  refine x_getR (r := 4) rfl (by decide) (by decide) rfl ?_
  refine x_push 0 rfl ?_
  refine x_aload rfl ?_
  refine x_getR (r := 85) rfl (by decide) (by decide) rfl ?_
  refine x_push 0 rfl ?_
  refine x_push 33 rfl ?_
  refine x_copyG y_a5 y_a86 (by decide) (by decide) C0 (by decide) (y_fr_rf (lo := 85) (hi := 92)) (by omega) (by omega) (by omega) (by omega) (by omega) (Nat.le_of_ble_eq_true rfl) (fun S1 e1 C1 F1 => ?_)
  refine x_aload rfl ?_
  refine x_getR (r := 4) rfl (by decide) (by decide) rfl ?_
  refine x_push 0 rfl ?_
  refine x_aload rfl ?_
  refine x_getR (r := 85) rfl (by decide) (by decide) rfl ?_
  refine x_push 0 rfl ?_
  refine x_push 3 rfl ?_
  refine x_copyG y_a6 y_a87 (by decide) (by decide) C1 (by decide) F1 (by omega) (by omega) (by omega) (by omega) (by omega) (Nat.le_of_ble_eq_true rfl) (fun S2 e2 C2 F2 => ?_)
  refine x_aload rfl ?_
  refine x_getR (r := 4) rfl (by decide) (by decide) rfl ?_
  refine x_push 0 rfl ?_
  refine x_aload rfl ?_
  refine x_getR (r := 85) rfl (by decide) (by decide) rfl ?_
  refine x_push 0 rfl ?_
  refine x_push 2 rfl ?_
  refine x_copyG y_a7 y_a88 (by decide) (by decide) C2 (by decide) F2 (by omega) (by omega) (by omega) (by omega) (by omega) (Nat.le_of_ble_eq_true rfl) (fun S3 e3 C3 F3 => ?_)
  refine x_aload rfl ?_
  refine x_getR (r := 4) rfl (by decide) (by decide) rfl ?_
  refine x_push 0 rfl ?_
  refine x_aload rfl ?_
  refine x_getR (r := 85) rfl (by decide) (by decide) rfl ?_
  refine x_push 0 rfl ?_
  refine x_push 40 rfl ?_
  refine x_copyG y_a8 y_a89 (by decide) (by decide) C3 (by decide) F3 (by omega) (by omega) (by omega) (by omega) (by omega) (Nat.le_of_ble_eq_true rfl) (fun S4 e4 C4 F4 => ?_)
  refine x_aload rfl ?_
  refine x_getR (r := 4) rfl (by decide) (by decide) rfl ?_
  refine x_push 0 rfl ?_
  refine x_aload rfl ?_
  refine x_getR (r := 85) rfl (by decide) (by decide) rfl ?_
  refine x_push 0 rfl ?_
  refine x_push 192 rfl ?_
  refine x_copyG y_a9 y_a90 (by decide) (by decide) C4 (by decide) F4 (by omega) (by omega) (by omega) (by omega) (by omega) (Nat.le_of_ble_eq_true rfl) (fun S5 e5 C5 F5 => ?_)
  refine x_aload rfl ?_
  refine x_getR (r := 4) rfl (by decide) (by decide) rfl ?_
  refine x_push 0 rfl ?_
  refine x_aload rfl ?_
  refine x_getR (r := 85) rfl (by decide) (by decide) rfl ?_
  refine x_push 0 rfl ?_
  refine x_push 90 rfl ?_
  refine x_copyG y_a10 y_a91 (by decide) (by decide) C5 (by decide) F5 (by omega) (by omega) (by omega) (by omega) (by omega) (Nat.le_of_ble_eq_true rfl) (fun S6 e6 C6 F6 => ?_)
  refine x_aload rfl ?_
  refine x_aload rfl ?_
  refine x_fall ?_
  refine x_blk (b := 1) (a_71 E) rfl ?_
  unfold b_71_1
  refine x_getIG y_f4_6 C6 ?_
  have q7_0 : S6 4 6 = S5 4 6 := x_cp_nr e6 (by decide)
  have q7_1 : S5 4 6 = S4 4 6 := x_cp_nr e5 (by decide)
  have q7_2 : S4 4 6 = S3 4 6 := x_cp_nr e4 (by decide)
  have q7_3 : S3 4 6 = S2 4 6 := x_cp_nr e3 (by decide)
  have q7_4 : S2 4 6 = S1 4 6 := x_cp_nr e2 (by decide)
  have q7_5 : S1 4 6 = σ 4 6 := x_cp_nr e1 (by decide)
  simp only [q7_0, q7_1, q7_2, q7_3, q7_4, q7_5]
  intro g7a g7b
  refine x_putIG y_f85_6 ⟨by decide, rfl⟩ (by decide) C6 (by decide) F6 (by omega) (by omega) (fun S8 e8 C8 F8 => ?_)
  refine x_vret ?_
  exact k _ C8 F8 
theorem sf_75_76_4 {E : q_E} {σ : x_S} {Q : Option q_V → x_S → Prop} (C0 : y_CI σ) (k : ∀ τ, y_CI τ → y_fq 76 92 σ τ → Q none τ) : x_P E 75 [x_R 76, x_R 4] σ Q := by
  refine x_Mt e_75 (h_75 E) (Nat.le_of_ble_eq_true rfl) t_75 rfl ?_
  refine x_blk (b := 0) (a_75 E) rfl ?_
  unfold b_75_0
  refine x_aload rfl ?_
  refine x_aload rfl ?_
  refine x_getIG y_f76_2 C0 ?_
  intro g1a g1b
  refine x_cV (fun _ => rfl) rfl (by decide) (Nat.le_of_ble_eq_true rfl) ?_
  refine sf_76_76 (by omega) (by omega) C0 (fun v2 v2a v2b k2_0 => ?_)
  refine x_istore ?_
  refine x_aload rfl ?_
  refine x_getIG y_f76_2 C0 ?_
  intro g3a g3b
  refine x_aload rfl ?_
  refine x_getR (r := 76) rfl (by decide) (by decide) rfl ?_
  refine x_lenG (n := 2) (L := 2) rfl (by decide) rfl (by decide) rfl ?_
  refine x_icmp_ge (by omega) (by omega) (by omega) (by omega) (fun z4 => ?_) (fun z4 => ?_)
  · skip
    refine x_aload rfl ?_
    refine x_dup rfl ?_
    refine x_getIG y_f76_2 C0 ?_
    intro g5a g5b
    refine x_push 1 rfl ?_
    refine x_iadd ?_
    refine x_putIG y_f76_2 ⟨by decide, rfl⟩ (by decide) C0 (by decide) (y_fr_rf (lo := 76) (hi := 92)) (by omega) (by omega) (fun S6 e6 C6 F6 => ?_)
    refine x_goto ?_
    refine x_blk (b := 2) (a_75 E) rfl ?_
    unfold b_75_2
    refine x_iload rfl ?_
    refine x_aload rfl ?_
    refine x_getR (r := 76) rfl (by decide) (by decide) rfl ?_
    refine x_lenG (n := 2) (L := 2) rfl (by decide) rfl (by decide) rfl ?_
    refine x_cS (fun _ => rfl) (Nat.le_of_ble_eq_true rfl) ?_
    refine sf_2 (by omega) (by omega) (by omega) (by omega) C6 (fun y7 => ?_) (fun y7 => ?_)
    · skip
      refine x_if_eq (by omega) (by omega) (fun z => absurd z (by omega)) (fun z8 => ?_)
      refine x_aload rfl ?_
      refine x_getR (r := 76) rfl (by decide) (by decide) rfl ?_
      refine x_iload rfl ?_
      refine x_aaldG (r := 77) (n := 2) rfl rfl (by decide) (by omega) (by omega) (fun i9 j9 => ?_)
      match i9, j9 with
      | 0, j9 =>
        refine x_aald (r := 77) (n := 2) (q := 78) rfl rfl (by decide) (by omega) (by omega) (by rw [show _ = (0 : Nat) from j9.1]; rfl) ?_
        refine x_aload rfl ?_
        refine x_cV (fun _ => rfl) rfl (by decide) (Nat.le_of_ble_eq_true rfl) ?_
        refine sf_71_78_4  C6 (fun S10 C10 f10 => ?_)
        have F10 := y_fq_tr (by decide) F6 f10
        refine x_fall ?_
        refine x_blk (b := 3) (a_75 E) rfl ?_
        unfold b_75_3
        refine x_vret ?_
        exact k _ C10 F10 
      | 1, j9 =>
        refine x_aald (r := 77) (n := 2) (q := 85) rfl rfl (by decide) (by omega) (by omega) (by rw [show _ = (1 : Nat) from j9.1]; rfl) ?_
        refine x_aload rfl ?_
        refine x_cV (fun _ => rfl) rfl (by decide) (Nat.le_of_ble_eq_true rfl) ?_
        refine sf_71_85_4  C6 (fun S11 C11 f11 => ?_)
        have F11 := y_fq_tr (by decide) F6 f11
        refine x_fall ?_
        refine x_blk (b := 3) (a_75 E) rfl ?_
        unfold b_75_3
        refine x_vret ?_
        exact k _ C11 F11 
      | (m + 2), j9 => exact absurd j9.2 (by omega)
    · skip
      refine x_if_eq (by omega) (by omega) (fun z12 => ?_) (fun z => absurd (by omega) z)
      refine x_blk (b := 3) (a_75 E) rfl ?_
      unfold b_75_3
      refine x_vret ?_
      exact k _ C6 F6 
  · skip
    refine x_blk (b := 1) (a_75 E) rfl ?_
    unfold b_75_1
    refine x_aload rfl ?_
    refine x_aload rfl ?_
    refine x_push 1 rfl ?_
    refine x_cV (fun _ => rfl) rfl (by decide) (Nat.le_of_ble_eq_true rfl) ?_
    refine sf_76_76 (by omega) (by omega) C0 (fun v13 v13a v13b k13_0 => ?_)
    refine x_putIG y_f76_1 ⟨by decide, rfl⟩ (by decide) C0 (by decide) (y_fr_rf (lo := 76) (hi := 92)) (by omega) (by omega) (fun S14 e14 C14 F14 => ?_)
    refine x_fall ?_
    refine x_blk (b := 2) (a_75 E) rfl ?_
    unfold b_75_2
    refine x_iload rfl ?_
    refine x_aload rfl ?_
    refine x_getR (r := 76) rfl (by decide) (by decide) rfl ?_
    refine x_lenG (n := 2) (L := 2) rfl (by decide) rfl (by decide) rfl ?_
    refine x_cS (fun _ => rfl) (Nat.le_of_ble_eq_true rfl) ?_
    refine sf_2 (by omega) (by omega) (by omega) (by omega) C14 (fun y15 => ?_) (fun y15 => ?_)
    · skip
      refine x_if_eq (by omega) (by omega) (fun z => absurd z (by omega)) (fun z16 => ?_)
      refine x_aload rfl ?_
      refine x_getR (r := 76) rfl (by decide) (by decide) rfl ?_
      refine x_iload rfl ?_
      refine x_aaldG (r := 77) (n := 2) rfl rfl (by decide) (by omega) (by omega) (fun i17 j17 => ?_)
      match i17, j17 with
      | 0, j17 =>
        refine x_aald (r := 77) (n := 2) (q := 78) rfl rfl (by decide) (by omega) (by omega) (by rw [show _ = (0 : Nat) from j17.1]; rfl) ?_
        refine x_aload rfl ?_
        refine x_cV (fun _ => rfl) rfl (by decide) (Nat.le_of_ble_eq_true rfl) ?_
        refine sf_71_78_4  C14 (fun S18 C18 f18 => ?_)
        have F18 := y_fq_tr (by decide) F14 f18
        refine x_fall ?_
        refine x_blk (b := 3) (a_75 E) rfl ?_
        unfold b_75_3
        refine x_vret ?_
        exact k _ C18 F18 
      | 1, j17 =>
        refine x_aald (r := 77) (n := 2) (q := 85) rfl rfl (by decide) (by omega) (by omega) (by rw [show _ = (1 : Nat) from j17.1]; rfl) ?_
        refine x_aload rfl ?_
        refine x_cV (fun _ => rfl) rfl (by decide) (Nat.le_of_ble_eq_true rfl) ?_
        refine sf_71_85_4  C14 (fun S19 C19 f19 => ?_)
        have F19 := y_fq_tr (by decide) F14 f19
        refine x_fall ?_
        refine x_blk (b := 3) (a_75 E) rfl ?_
        unfold b_75_3
        refine x_vret ?_
        exact k _ C19 F19 
      | (m + 2), j17 => exact absurd j17.2 (by omega)
    · skip
      refine x_if_eq (by omega) (by omega) (fun z20 => ?_) (fun z => absurd (by omega) z)
      refine x_blk (b := 3) (a_75 E) rfl ?_
      unfold b_75_3
      refine x_vret ?_
      exact k _ C14 F14 
theorem sf_166_0 {E : q_E} {σ : x_S} {Q : Option q_V → x_S → Prop} (C0 : y_CI σ) (k : ∀ τ v, y_CI τ → y_fq 76 92 σ τ → (-2147483648) ≤ v → v ≤ 2147483647 → Q (some (x_I v)) τ) : x_P E 166 [x_R 0] σ Q := by
  refine x_Mt e_166 (h_166 E) (Nat.le_of_ble_eq_true rfl) t_166 rfl ?_
  refine x_blk (b := 0) (a_166 E) rfl ?_
  unfold b_166_0
  refine x_aload rfl ?_
  refine x_getR (r := 0) rfl (by decide) (by decide) rfl ?_
  refine x_getIG y_f76_2 C0 ?_
  intro g1a g1b
  refine x_push 2 rfl ?_
  refine x_icmp_lt (by omega) (by omega) (by omega) (by omega) (fun z2 => ?_) (fun z2 => ?_)
  · skip
    refine x_blk (b := 1) (a_166 E) rfl ?_
    unfold b_166_1
    refine x_aload rfl ?_
    refine x_getR (r := 0) rfl (by decide) (by decide) rfl ?_
    refine x_aload rfl ?_
    refine x_getR (r := 0) rfl (by decide) (by decide) rfl ?_
    refine x_cV (fun _ => rfl) rfl (by decide) (Nat.le_of_ble_eq_true rfl) ?_
    refine sf_75_76_4  C0 (fun S3 C3 f3 => ?_)
    have F3 := y_fq_tr (by decide) (y_fr_rf (lo := 76) (hi := 92)) f3
    refine x_aload rfl ?_
    refine x_getR (r := 0) rfl (by decide) (by decide) rfl ?_
    refine x_getIG y_f76_2 C3 ?_
    intro g4a g4b
    refine x_iret ?_
    exact k _ _ C3 F3 (by omega) (by omega) 
  · skip
    refine x_push (-3) rfl ?_
    refine x_iret ?_
    exact k _ _ C0 (y_fr_rf (lo := 76) (hi := 92)) (by omega) (by omega) 
theorem sf_71_4_78 {E : q_E} {σ : x_S} {Q : Option q_V → x_S → Prop} (C0 : y_CI σ) (k : ∀ τ, y_CI τ → y_fq 4 11 σ τ → Q none τ) : x_P E 71 [x_R 4, x_R 78] σ Q := by
  refine x_Mt e_71 (h_71 E) (Nat.le_of_ble_eq_true rfl) t_71 rfl ?_
  refine x_blk (b := 0) (a_71 E) rfl ?_
  unfold b_71_0
  refine x_aload rfl ?_
  refine x_getR (r := 78) rfl (by decide) (by decide) rfl ?_
  refine x_push 0 rfl ?_
  refine x_aload rfl ?_
  refine x_getR (r := 4) rfl (by decide) (by decide) rfl ?_
  refine x_push 0 rfl ?_
  refine x_push 33 rfl ?_
  refine x_copyG y_a79 y_a5 (by decide) (by decide) C0 (by decide) (y_fr_rf (lo := 4) (hi := 11)) (by omega) (by omega) (by omega) (by omega) (by omega) (Nat.le_of_ble_eq_true rfl) (fun S1 e1 C1 F1 => ?_)
  refine x_aload rfl ?_
  refine x_getR (r := 78) rfl (by decide) (by decide) rfl ?_
  refine x_push 0 rfl ?_
  refine x_aload rfl ?_
  refine x_getR (r := 4) rfl (by decide) (by decide) rfl ?_
  refine x_push 0 rfl ?_
  refine x_push 3 rfl ?_
  refine x_copyG y_a80 y_a6 (by decide) (by decide) C1 (by decide) F1 (by omega) (by omega) (by omega) (by omega) (by omega) (Nat.le_of_ble_eq_true rfl) (fun S2 e2 C2 F2 => ?_)
  refine x_aload rfl ?_
  refine x_getR (r := 78) rfl (by decide) (by decide) rfl ?_
  refine x_push 0 rfl ?_
  refine x_aload rfl ?_
  refine x_getR (r := 4) rfl (by decide) (by decide) rfl ?_
  refine x_push 0 rfl ?_
  refine x_push 2 rfl ?_
  refine x_copyG y_a81 y_a7 (by decide) (by decide) C2 (by decide) F2 (by omega) (by omega) (by omega) (by omega) (by omega) (Nat.le_of_ble_eq_true rfl) (fun S3 e3 C3 F3 => ?_)
  refine x_aload rfl ?_
  refine x_getR (r := 78) rfl (by decide) (by decide) rfl ?_
  refine x_push 0 rfl ?_
  refine x_aload rfl ?_
  refine x_getR (r := 4) rfl (by decide) (by decide) rfl ?_
  refine x_push 0 rfl ?_
  refine x_push 40 rfl ?_
  refine x_copyG y_a82 y_a8 (by decide) (by decide) C3 (by decide) F3 (by omega) (by omega) (by omega) (by omega) (by omega) (Nat.le_of_ble_eq_true rfl) (fun S4 e4 C4 F4 => ?_)
  refine x_aload rfl ?_
  refine x_getR (r := 78) rfl (by decide) (by decide) rfl ?_
  refine x_push 0 rfl ?_
  refine x_aload rfl ?_
  refine x_getR (r := 4) rfl (by decide) (by decide) rfl ?_
  refine x_push 0 rfl ?_
  refine x_push 192 rfl ?_
  refine x_copyG y_a83 y_a9 (by decide) (by decide) C4 (by decide) F4 (by omega) (by omega) (by omega) (by omega) (by omega) (Nat.le_of_ble_eq_true rfl) (fun S5 e5 C5 F5 => ?_)
  refine x_aload rfl ?_
  refine x_getR (r := 78) rfl (by decide) (by decide) rfl ?_
  refine x_push 0 rfl ?_
  refine x_aload rfl ?_
  refine x_getR (r := 4) rfl (by decide) (by decide) rfl ?_
  refine x_push 0 rfl ?_
  refine x_push 90 rfl ?_
  refine x_copyG y_a84 y_a10 (by decide) (by decide) C5 (by decide) F5 (by omega) (by omega) (by omega) (by omega) (by omega) (Nat.le_of_ble_eq_true rfl) (fun S6 e6 C6 F6 => ?_)
  refine x_aload rfl ?_
  refine x_aload rfl ?_
  refine x_fall ?_
  refine x_blk (b := 1) (a_71 E) rfl ?_
  unfold b_71_1
  refine x_getIG y_f78_6 C6 ?_
  have q7_0 : S6 78 6 = S5 78 6 := x_cp_nr e6 (by decide)
  have q7_1 : S5 78 6 = S4 78 6 := x_cp_nr e5 (by decide)
  have q7_2 : S4 78 6 = S3 78 6 := x_cp_nr e4 (by decide)
  have q7_3 : S3 78 6 = S2 78 6 := x_cp_nr e3 (by decide)
  have q7_4 : S2 78 6 = S1 78 6 := x_cp_nr e2 (by decide)
  have q7_5 : S1 78 6 = σ 78 6 := x_cp_nr e1 (by decide)
  simp only [q7_0, q7_1, q7_2, q7_3, q7_4, q7_5]
  intro g7a g7b
  refine x_putIG y_f4_6 ⟨by decide, rfl⟩ (by decide) C6 (by decide) F6 (by omega) (by omega) (fun S8 e8 C8 F8 => ?_)
  refine x_vret ?_
  exact k _ C8 F8 
theorem sf_71_4_85 {E : q_E} {σ : x_S} {Q : Option q_V → x_S → Prop} (C0 : y_CI σ) (k : ∀ τ, y_CI τ → y_fq 4 11 σ τ → Q none τ) : x_P E 71 [x_R 4, x_R 85] σ Q := by
  refine x_Mt e_71 (h_71 E) (Nat.le_of_ble_eq_true rfl) t_71 rfl ?_
  refine x_blk (b := 0) (a_71 E) rfl ?_
  unfold b_71_0
  refine x_aload rfl ?_
  refine x_getR (r := 85) rfl (by decide) (by decide) rfl ?_
  refine x_push 0 rfl ?_
  refine x_aload rfl ?_
  refine x_getR (r := 4) rfl (by decide) (by decide) rfl ?_
  refine x_push 0 rfl ?_
  refine x_push 33 rfl ?_
  refine x_copyG y_a86 y_a5 (by decide) (by decide) C0 (by decide) (y_fr_rf (lo := 4) (hi := 11)) (by omega) (by omega) (by omega) (by omega) (by omega) (Nat.le_of_ble_eq_true rfl) (fun S1 e1 C1 F1 => ?_)
  refine x_aload rfl ?_
  refine x_getR (r := 85) rfl (by decide) (by decide) rfl ?_
  refine x_push 0 rfl ?_
  refine x_aload rfl ?_
  refine x_getR (r := 4) rfl (by decide) (by decide) rfl ?_
  refine x_push 0 rfl ?_
  refine x_push 3 rfl ?_
  refine x_copyG y_a87 y_a6 (by decide) (by decide) C1 (by decide) F1 (by omega) (by omega) (by omega) (by omega) (by omega) (Nat.le_of_ble_eq_true rfl) (fun S2 e2 C2 F2 => ?_)
  refine x_aload rfl ?_
  refine x_getR (r := 85) rfl (by decide) (by decide) rfl ?_
  refine x_push 0 rfl ?_
  refine x_aload rfl ?_
  refine x_getR (r := 4) rfl (by decide) (by decide) rfl ?_
  refine x_push 0 rfl ?_
  refine x_push 2 rfl ?_
  refine x_copyG y_a88 y_a7 (by decide) (by decide) C2 (by decide) F2 (by omega) (by omega) (by omega) (by omega) (by omega) (Nat.le_of_ble_eq_true rfl) (fun S3 e3 C3 F3 => ?_)
  refine x_aload rfl ?_
  refine x_getR (r := 85) rfl (by decide) (by decide) rfl ?_
  refine x_push 0 rfl ?_
  refine x_aload rfl ?_
  refine x_getR (r := 4) rfl (by decide) (by decide) rfl ?_
  refine x_push 0 rfl ?_
  refine x_push 40 rfl ?_
  refine x_copyG y_a89 y_a8 (by decide) (by decide) C3 (by decide) F3 (by omega) (by omega) (by omega) (by omega) (by omega) (Nat.le_of_ble_eq_true rfl) (fun S4 e4 C4 F4 => ?_)
  refine x_aload rfl ?_
  refine x_getR (r := 85) rfl (by decide) (by decide) rfl ?_
  refine x_push 0 rfl ?_
  refine x_aload rfl ?_
  refine x_getR (r := 4) rfl (by decide) (by decide) rfl ?_
  refine x_push 0 rfl ?_
  refine x_push 192 rfl ?_
  refine x_copyG y_a90 y_a9 (by decide) (by decide) C4 (by decide) F4 (by omega) (by omega) (by omega) (by omega) (by omega) (Nat.le_of_ble_eq_true rfl) (fun S5 e5 C5 F5 => ?_)
  refine x_aload rfl ?_
  refine x_getR (r := 85) rfl (by decide) (by decide) rfl ?_
  refine x_push 0 rfl ?_
  refine x_aload rfl ?_
  refine x_getR (r := 4) rfl (by decide) (by decide) rfl ?_
  refine x_push 0 rfl ?_
  refine x_push 90 rfl ?_
  refine x_copyG y_a91 y_a10 (by decide) (by decide) C5 (by decide) F5 (by omega) (by omega) (by omega) (by omega) (by omega) (Nat.le_of_ble_eq_true rfl) (fun S6 e6 C6 F6 => ?_)
  refine x_aload rfl ?_
  refine x_aload rfl ?_
  refine x_fall ?_
  refine x_blk (b := 1) (a_71 E) rfl ?_
  unfold b_71_1
  refine x_getIG y_f85_6 C6 ?_
  have q7_0 : S6 85 6 = S5 85 6 := x_cp_nr e6 (by decide)
  have q7_1 : S5 85 6 = S4 85 6 := x_cp_nr e5 (by decide)
  have q7_2 : S4 85 6 = S3 85 6 := x_cp_nr e4 (by decide)
  have q7_3 : S3 85 6 = S2 85 6 := x_cp_nr e3 (by decide)
  have q7_4 : S2 85 6 = S1 85 6 := x_cp_nr e2 (by decide)
  have q7_5 : S1 85 6 = σ 85 6 := x_cp_nr e1 (by decide)
  simp only [q7_0, q7_1, q7_2, q7_3, q7_4, q7_5]
  intro g7a g7b
  refine x_putIG y_f4_6 ⟨by decide, rfl⟩ (by decide) C6 (by decide) F6 (by omega) (by omega) (fun S8 e8 C8 F8 => ?_)
  refine x_vret ?_
  exact k _ C8 F8 
theorem sf_139_76_4 {E : q_E} {σ : x_S} {Q : Option q_V → x_S → Prop} (C0 : y_CI σ) (k : ∀ τ, y_CI τ → y_fq 4 77 σ τ → Q none τ) : x_P E 139 [x_R 76, x_R 4] σ Q := by
  refine x_Mt e_139 (h_139 E) (Nat.le_of_ble_eq_true rfl) t_139 rfl ?_
  refine x_blk (b := 0) (a_139 E) rfl ?_
  unfold b_139_0
  refine x_aload rfl ?_
  refine x_aload rfl ?_
  refine x_getIG y_f76_2 C0 ?_
  intro g1a g1b
  refine x_push 1 rfl ?_
  refine x_isub ?_
  refine x_cV (fun _ => rfl) rfl (by decide) (Nat.le_of_ble_eq_true rfl) ?_
  refine sf_76_76 (by omega) (by omega) C0 (fun v2 v2a v2b k2_0 => ?_)
  refine x_istore ?_
  refine x_aload rfl ?_
  refine x_getIG y_f76_2 C0 ?_
  intro g3a g3b
  refine x_if_le (by omega) (by omega) (fun z4 => ?_) (fun z4 => ?_)
  · skip
    refine x_blk (b := 1) (a_139 E) rfl ?_
    unfold b_139_1
    refine x_vret ?_
    exact k _ C0 (y_fr_rf (lo := 4) (hi := 77)) 
  · skip
    refine x_iload rfl ?_
    refine x_aload rfl ?_
    refine x_getR (r := 76) rfl (by decide) (by decide) rfl ?_
    refine x_lenG (n := 2) (L := 2) rfl (by decide) rfl (by decide) rfl ?_
    refine x_cS (fun _ => rfl) (Nat.le_of_ble_eq_true rfl) ?_
    refine sf_2 (by omega) (by omega) (by omega) (by omega) C0 (fun y5 => ?_) (fun y5 => ?_)
    · skip
      refine x_if_eq (by omega) (by omega) (fun z => absurd z (by omega)) (fun z6 => ?_)
      refine x_aload rfl ?_
      refine x_dup rfl ?_
      refine x_getIG y_f76_2 C0 ?_
      intro g7a g7b
      refine x_push 1 rfl ?_
      refine x_isub ?_
      refine x_putIG y_f76_2 ⟨by decide, rfl⟩ (by decide) C0 (by decide) (y_fr_rf (lo := 4) (hi := 77)) (by omega) (by omega) (fun S8 e8 C8 F8 => ?_)
      refine x_aload rfl ?_
      refine x_aload rfl ?_
      refine x_getR (r := 76) rfl (by decide) (by decide) rfl ?_
      refine x_iload rfl ?_
      refine x_aaldG (r := 77) (n := 2) rfl rfl (by decide) (by omega) (by omega) (fun i9 j9 => ?_)
      match i9, j9 with
      | 0, j9 =>
        refine x_aald (r := 77) (n := 2) (q := 78) rfl rfl (by decide) (by omega) (by omega) (by rw [show _ = (0 : Nat) from j9.1]; rfl) ?_
        refine x_cV (fun _ => rfl) rfl (by decide) (Nat.le_of_ble_eq_true rfl) ?_
        refine sf_71_4_78  C8 (fun S10 C10 f10 => ?_)
        have F10 := y_fq_tr (by decide) F8 f10
        refine x_fall ?_
        refine x_blk (b := 1) (a_139 E) rfl ?_
        unfold b_139_1
        refine x_vret ?_
        exact k _ C10 F10 
      | 1, j9 =>
        refine x_aald (r := 77) (n := 2) (q := 85) rfl rfl (by decide) (by omega) (by omega) (by rw [show _ = (1 : Nat) from j9.1]; rfl) ?_
        refine x_cV (fun _ => rfl) rfl (by decide) (Nat.le_of_ble_eq_true rfl) ?_
        refine sf_71_4_85  C8 (fun S11 C11 f11 => ?_)
        have F11 := y_fq_tr (by decide) F8 f11
        refine x_fall ?_
        refine x_blk (b := 1) (a_139 E) rfl ?_
        unfold b_139_1
        refine x_vret ?_
        exact k _ C11 F11 
      | (m + 2), j9 => exact absurd j9.2 (by omega)
    · skip
      refine x_if_eq (by omega) (by omega) (fun z12 => ?_) (fun z => absurd (by omega) z)
      refine x_blk (b := 1) (a_139 E) rfl ?_
      unfold b_139_1
      refine x_vret ?_
      exact k _ C0 (y_fr_rf (lo := 4) (hi := 77)) 
theorem sf_167_0 {E : q_E} {σ : x_S} {Q : Option q_V → x_S → Prop} (C0 : y_CI σ) (k : ∀ τ v, y_CI τ → y_fq 4 125 σ τ → (-2147483648) ≤ v → v ≤ 2147483647 → Q (some (x_I v)) τ) : x_P E 167 [x_R 0] σ Q := by
  refine x_Mt e_167 (h_167 E) (Nat.le_of_ble_eq_true rfl) t_167 rfl ?_
  refine x_blk (b := 0) (a_167 E) rfl ?_
  unfold b_167_0
  refine x_aload rfl ?_
  refine x_getR (r := 0) rfl (by decide) (by decide) rfl ?_
  refine x_getIG y_f76_2 C0 ?_
  intro g1a g1b
  refine x_if_ne (by omega) (by omega) (fun z2 => ?_) (fun z2 => ?_)
  · skip
    refine x_push (-2) rfl ?_
    refine x_iret ?_
    exact k _ _ C0 (y_fr_rf (lo := 4) (hi := 125)) (by omega) (by omega) 
  · skip
    refine x_blk (b := 1) (a_167 E) rfl ?_
    unfold b_167_1
    refine x_aload rfl ?_
    refine x_getR (r := 0) rfl (by decide) (by decide) rfl ?_
    refine x_aload rfl ?_
    refine x_getR (r := 0) rfl (by decide) (by decide) rfl ?_
    refine x_cV (fun _ => rfl) rfl (by decide) (Nat.le_of_ble_eq_true rfl) ?_
    refine sf_139_76_4  C0 (fun S3 C3 f3 => ?_)
    have F3 := y_fq_tr (by decide) (y_fr_rf (lo := 4) (hi := 125)) f3
    refine x_aload rfl ?_
    refine x_getR (r := 0) rfl (by decide) (by decide) rfl ?_
    refine x_cV (fun _ => rfl) rfl (by decide) (Nat.le_of_ble_eq_true rfl) ?_
    refine sf_125_18  C3 (fun S4 C4 f4 => ?_)
    have F4 := y_fq_tr (by decide) F3 f4
    refine x_aload rfl ?_
    refine x_cV (fun _ => rfl) rfl (by decide) (Nat.le_of_ble_eq_true rfl) ?_
    refine sf_83_0  C4 (fun S5 C5 f5 => ?_)
    have F5 := y_fq_tr (by decide) F4 f5
    refine x_aload rfl ?_
    refine x_getR (r := 0) rfl (by decide) (by decide) rfl ?_
    refine x_getIG y_f76_2 C5 ?_
    intro g6a g6b
    refine x_iret ?_
    exact k _ _ C5 F5 (by omega) (by omega) 
theorem sf_169_4_b3 {E : q_E} {σ : x_S} {Q : Option q_V → x_S → Prop} {a1 : Int} (a1l : (-2147483648) ≤ a1) (a1h : a1 ≤ 2147483647) (C0 : y_CI σ) (k : ∀ v, 0 ≤ v → v ≤ 16 → Q (some (x_I v)) σ) : ∀ (N : Nat) (n r : Int), (16 - r).toNat = N → 0 ≤ n → n ≤ 16 → 0 ≤ r → r ≤ 16 → n ≤ r → x_G E m_169 Q (t_169 3) [(0, x_R 4), (1, x_I a1), (2, x_I n), (3, x_I r)] [] σ := by
  intro N
  induction N using Nat.strongRecOn with
  | ind N ih =>
    intro n r hN nL nH rL rH ex0
    refine x_blk (b := 3) (a_169 E) rfl ?_
    unfold b_169_3
    refine x_iload rfl ?_
    refine x_aload rfl ?_
    refine x_getIG y_f4_6 C0 ?_
    intro g1a g1b
    refine x_icmp_ge (by omega) (by omega) (by omega) (by omega) (fun z2 => ?_) (fun z2 => ?_)
    · skip
      refine x_aload rfl ?_
      refine x_iload rfl ?_
      refine x_push 0 rfl ?_
      refine x_cV (fun _ => rfl) rfl (by decide) (Nat.le_of_ble_eq_true rfl) ?_
      refine sf_6_4 (by omega) (by omega) (by omega) (by omega) C0 (fun v3 v3a v3b => ?_)
      refine x_iload rfl ?_
      refine x_icmp_ne (by omega) (by omega) (by omega) (by omega) (fun z4 => ?_) (fun z4 => ?_)
      · skip
        refine x_iinc 1 rfl rfl ?_
        refine x_fall ?_
        refine x_blk (b := 2) (a_169 E) rfl ?_
        unfold b_169_2
        refine x_iinc 1 rfl rfl ?_
        refine x_X_lo (lo' := [(0, x_R 4), (1, x_I _), (2, x_I _), (3, x_I _)]) ⟨rfl, rfl, rfl, rfl, trivial⟩ ?_
        refine x_goto ?_
        refine x_G_lo (lo' := [(0, x_R 4), (1, x_I _), (2, x_I _), (3, x_I _)]) ⟨rfl, rfl, rfl, rfl, trivial⟩ ?_
        exact ih _ (by omega) _ _  rfl (by omega) (by omega) (by omega) (by omega) (by omega) 
      · skip
        refine x_blk (b := 2) (a_169 E) rfl ?_
        unfold b_169_2
        refine x_iinc 1 rfl rfl ?_
        refine x_goto ?_
        refine x_G_lo (lo' := [(0, x_R 4), (1, x_I _), (2, x_I _), (3, x_I _)]) ⟨rfl, rfl, rfl, rfl, trivial⟩ ?_
        exact ih _ (by omega) _ _  rfl (by omega) (by omega) (by omega) (by omega) (by omega) 
    · skip
      refine x_blk (b := 1) (a_169 E) rfl ?_
      unfold b_169_1
      refine x_iload rfl ?_
      refine x_iret ?_
      exact k _ (by omega) (by omega) 
theorem sf_169_4 {E : q_E} {σ : x_S} {Q : Option q_V → x_S → Prop} {a1 : Int} (a1l : (-2147483648) ≤ a1) (a1h : a1 ≤ 2147483647) (C0 : y_CI σ) (k : ∀ v, 0 ≤ v → v ≤ 16 → Q (some (x_I v)) σ) : x_P E 169 [x_R 4, x_I a1] σ Q := by
  refine x_Mt e_169 (h_169 E) (Nat.le_of_ble_eq_true rfl) t_169 rfl ?_
  refine x_blk (b := 0) (a_169 E) rfl ?_
  unfold b_169_0
  refine x_push 0 rfl ?_
  refine x_istore ?_
  refine x_push 0 rfl ?_
  refine x_istore ?_
  refine x_X_lo (lo' := [(0, x_R 4), (1, x_I _), (2, x_I _), (3, x_I _)]) ⟨rfl, rfl, rfl, rfl, trivial⟩ ?_
  refine x_fall ?_
  refine x_G_lo (lo' := [(0, x_R 4), (1, x_I _), (2, x_I _), (3, x_I _)]) ⟨rfl, rfl, rfl, rfl, trivial⟩ ?_
  exact sf_169_4_b3 a1l a1h C0 k  _ _ _  rfl (by omega) (by omega) (by omega) (by omega) (by omega) 
theorem sf_97_1 {E : q_E} {σ : x_S} {Q : Option q_V → x_S → Prop} (C0 : y_CI σ) (k : ∀ v, 0 ≤ v → v ≤ 200 → v = σ 1 2 → Q (some (x_I v)) σ) : x_P E 97 [x_R 1] σ Q := by
  refine x_Mt e_97 (h_97 E) (Nat.le_of_ble_eq_true rfl) t_97 rfl ?_
  refine x_blk (b := 0) (a_97 E) rfl ?_
  unfold b_97_0
  refine x_aload rfl ?_
  refine x_getIG y_f1_2 C0 ?_
  intro g1a g1b
  refine x_iret ?_
  exact k _ (by omega) (by omega) (by omega)
theorem sf_168_0 {E : q_E} {σ : x_S} {Q : Option q_V → x_S → Prop} {a1 : Int} (a1l : (-2147483648) ≤ a1) (a1h : a1 ≤ 2147483647) (C0 : y_CI σ) (k : ∀ v, (-2147483648) ≤ v → v ≤ 2147483647 → Q (some (x_I v)) σ) : x_P E 168 [x_R 0, x_I a1] σ Q := by
  refine x_Mt e_168 (h_168 E) (Nat.le_of_ble_eq_true rfl) t_168 rfl ?_
  refine x_blk (b := 0) (a_168 E) rfl ?_
  unfold b_168_0
  refine x_iload rfl ?_
  refine x_tsw (0) rfl rfl (by omega) (by omega) (fun z1 => ?_) (fun i1 b1 hb1 z1 => ?_) (fun z1 => ?_)
  · skip
    refine x_blk (b := 10) (a_168 E) rfl ?_
    unfold b_168_10
    refine x_push (-1) rfl ?_
    refine x_iret ?_
    exact k _ (by omega) (by omega) 
  · match i1, hb1 with
    | 0, hb1 =>
      cases hb1
      refine x_blk (b := 1) (a_168 E) rfl ?_
      unfold b_168_1
      refine x_aload rfl ?_
      refine x_getR (r := 0) rfl (by decide) (by decide) rfl ?_
      refine x_getIG y_f4_6 C0 ?_
      intro g2a g2b
      refine x_iret ?_
      exact k _ (by omega) (by omega) 
    | 1, hb1 =>
      cases hb1
      refine x_blk (b := 2) (a_168 E) rfl ?_
      unfold b_168_2
      refine x_aload rfl ?_
      refine x_getR (r := 0) rfl (by decide) (by decide) rfl ?_
      refine x_push 0 rfl ?_
      refine x_cV (fun _ => rfl) rfl (by decide) (Nat.le_of_ble_eq_true rfl) ?_
      refine sf_169_4 (by omega) (by omega) C0 (fun v3 v3a v3b => ?_)
      refine x_iret ?_
      exact k _ (by omega) (by omega) 
    | 2, hb1 =>
      cases hb1
      refine x_blk (b := 3) (a_168 E) rfl ?_
      unfold b_168_3
      refine x_aload rfl ?_
      refine x_getR (r := 0) rfl (by decide) (by decide) rfl ?_
      refine x_push 1 rfl ?_
      refine x_cV (fun _ => rfl) rfl (by decide) (Nat.le_of_ble_eq_true rfl) ?_
      refine sf_169_4 (by omega) (by omega) C0 (fun v4 v4a v4b => ?_)
      refine x_iret ?_
      exact k _ (by omega) (by omega) 
    | 3, hb1 =>
      cases hb1
      refine x_blk (b := 4) (a_168 E) rfl ?_
      unfold b_168_4
      refine x_aload rfl ?_
      refine x_getR (r := 0) rfl (by decide) (by decide) rfl ?_
      refine x_push 0 rfl ?_
      refine x_cV (fun _ => rfl) rfl (by decide) (Nat.le_of_ble_eq_true rfl) ?_
      refine sf_11_4 (by omega) (by omega) C0 (fun v5 v5a v5b => ?_)
      refine x_iret ?_
      exact k _ (by omega) (by omega) 
    | 4, hb1 =>
      cases hb1
      refine x_blk (b := 5) (a_168 E) rfl ?_
      unfold b_168_5
      refine x_aload rfl ?_
      refine x_getR (r := 0) rfl (by decide) (by decide) rfl ?_
      refine x_push 1 rfl ?_
      refine x_cV (fun _ => rfl) rfl (by decide) (Nat.le_of_ble_eq_true rfl) ?_
      refine sf_11_4 (by omega) (by omega) C0 (fun v6 v6a v6b => ?_)
      refine x_iret ?_
      exact k _ (by omega) (by omega) 
    | 5, hb1 =>
      cases hb1
      refine x_blk (b := 6) (a_168 E) rfl ?_
      unfold b_168_6
      refine x_aload rfl ?_
      refine x_getR (r := 0) rfl (by decide) (by decide) rfl ?_
      refine x_push 0 rfl ?_
      refine x_cV (fun _ => rfl) rfl (by decide) (Nat.le_of_ble_eq_true rfl) ?_
      refine sf_63_4 (by omega) (by omega) C0 (fun v7 v7a v7b => ?_)
      refine x_aload rfl ?_
      refine x_getR (r := 0) rfl (by decide) (by decide) rfl ?_
      refine x_push 1 rfl ?_
      refine x_cV (fun _ => rfl) rfl (by decide) (Nat.le_of_ble_eq_true rfl) ?_
      refine sf_63_4 (by omega) (by omega) C0 (fun v8 v8a v8b => ?_)
      refine x_iadd ?_
      refine x_aload rfl ?_
      refine x_getR (r := 0) rfl (by decide) (by decide) rfl ?_
      refine x_push 2 rfl ?_
      refine x_cV (fun _ => rfl) rfl (by decide) (Nat.le_of_ble_eq_true rfl) ?_
      refine sf_63_4 (by omega) (by omega) C0 (fun v9 v9a v9b => ?_)
      refine x_iadd ?_
      refine x_iret ?_
      exact k _ (by omega) (by omega) 
    | 6, hb1 =>
      cases hb1
      refine x_blk (b := 7) (a_168 E) rfl ?_
      unfold b_168_7
      refine x_aload rfl ?_
      refine x_getR (r := 0) rfl (by decide) (by decide) rfl ?_
      refine x_getIG y_f18_2 C0 ?_
      intro g10a g10b
      refine x_iret ?_
      exact k _ (by omega) (by omega) 
    | 7, hb1 =>
      cases hb1
      refine x_blk (b := 8) (a_168 E) rfl ?_
      unfold b_168_8
      refine x_aload rfl ?_
      refine x_getR (r := 0) rfl (by decide) (by decide) rfl ?_
      refine x_getIG y_f76_2 C0 ?_
      intro g11a g11b
      refine x_iret ?_
      exact k _ (by omega) (by omega) 
    | 8, hb1 =>
      cases hb1
      refine x_blk (b := 9) (a_168 E) rfl ?_
      unfold b_168_9
      refine x_aload rfl ?_
      refine x_getR (r := 0) rfl (by decide) (by decide) rfl ?_
      refine x_cV (fun _ => rfl) rfl (by decide) (Nat.le_of_ble_eq_true rfl) ?_
      refine sf_97_1  C0 (fun v12 v12a v12b k12_0 => ?_)
      refine x_iret ?_
      exact k _ (by omega) (by omega) 
    | (n + 9), hb1 => simp at hb1
  · skip
    refine x_blk (b := 10) (a_168 E) rfl ?_
    unfold b_168_10
    refine x_push (-1) rfl ?_
    refine x_iret ?_
    exact k _ (by omega) (by omega) 
