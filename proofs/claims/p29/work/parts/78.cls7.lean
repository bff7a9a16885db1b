theorem sf_160_0 {E : q_E} {σ : x_S} {Q : Option q_V → x_S → Prop} {a1 a2 a3 : Int} (a1l : (-2147483648) ≤ a1) (a1h : a1 ≤ 2147483647) (a2l : (-2147483648) ≤ a2) (a2h : a2 ≤ 2147483647) (a3l : (-2147483648) ≤ a3) (a3h : a3 ≤ 2147483647) (C0 : y_CI σ) (k : ∀ τ v, y_CI τ → y_fq 111 137 σ τ → (-2147483648) ≤ v → v ≤ 2147483647 → Q (some (x_I v)) τ) : x_P E 160 [x_R 0, x_I a1, x_I a2, x_I a3] σ Q := by
  refine x_Mt e_160 (h_160 E) (Nat.le_of_ble_eq_true rfl) t_160 rfl ?_
  refine x_blk (b := 0) (a_160 E) rfl ?_
  unfold b_160_0
  refine x_iload rfl ?_
  refine x_push 2 rfl ?_
  refine x_cS (fun _ => rfl) (Nat.le_of_ble_eq_true rfl) ?_
  refine sf_2 (by omega) (by omega) (by omega) (by omega) C0 (fun y1 => ?_) (fun y1 => ?_)
  · skip
    refine x_if_eq (by omega) (by omega) (fun z => absurd z (by omega)) (fun z2 => ?_)
    refine x_iload rfl ?_
    refine x_push 54 rfl ?_
    refine x_cS (fun _ => rfl) (Nat.le_of_ble_eq_true rfl) ?_
    refine sf_2 (by omega) (by omega) (by omega) (by omega) C0 (fun y3 => ?_) (fun y3 => ?_)
    · skip
      refine x_if_eq (by omega) (by omega) (fun z => absurd z (by omega)) (fun z4 => ?_)
      refine x_iload rfl ?_
      refine x_push (-1) rfl ?_
      refine x_icmp_ge (by omega) (by omega) (by omega) (by omega) (fun z5 => ?_) (fun z5 => ?_)
      · skip
        refine x_fall ?_
        refine x_blk (b := 1) (a_160 E) rfl ?_
        unfold b_160_1
        refine x_push (-1) rfl ?_
        refine x_iret ?_
        exact k _ _ C0 (y_fr_rf (lo := 111) (hi := 137)) (by omega) (by omega) 
      · skip
        refine x_blk (b := 2) (a_160 E) rfl ?_
        unfold b_160_2
        refine x_aload rfl ?_
        refine x_iload rfl ?_
        refine x_cV (fun _ => rfl) rfl (by decide) (Nat.le_of_ble_eq_true rfl) ?_
        refine sf_108_0 (by omega) (by omega) C0 (fun y6 => ?_) (fun y6 => ?_)
        · skip
          refine x_astore ?_
          refine x_aload rfl ?_
          refine x_aload rfl ?_
          refine x_getR (r := 0) rfl (by decide) (by decide) rfl ?_
          refine x_cV (fun _ => rfl) rfl (by decide) (Nat.le_of_ble_eq_true rfl) ?_
          refine sf_109_111_4  C0 (fun S7 C7 f7 => ?_)
          have F7 := y_fq_tr (by decide) (y_fr_rf (lo := 111) (hi := 137)) f7
          refine x_aload rfl ?_
          refine x_iload rfl ?_
          refine x_cV (fun _ => rfl) rfl (by decide) (Nat.le_of_ble_eq_true rfl) ?_
          refine sf_41_111 (by omega) (by omega) C7 (fun v8 v8a v8b => ?_)
          refine x_istore ?_
          refine x_X_lo (lo' := [(0, x_R 0), (1, x_I _), (2, x_I _), (3, x_I _), (4, x_R 111), (5, x_I _)]) ⟨rfl, rfl, rfl, rfl, rfl, rfl, trivial⟩ ?_
          refine x_iload rfl ?_
          refine x_if_eq (by omega) (by omega) (fun z9 => ?_) (fun z9 => ?_)
          · skip
            refine x_blk (b := 3) (a_160 E) rfl ?_
            unfold b_160_3
            refine x_push (-4) rfl ?_
            refine x_iret ?_
            exact k _ _ C7 F7 (by omega) (by omega) 
          · skip
            refine x_iload rfl ?_
            refine x_push 40 rfl ?_
            refine x_icmp_gt (by omega) (by omega) (by omega) (by omega) (fun z10 => ?_) (fun z10 => ?_)
            · skip
              refine x_iload rfl ?_
              refine x_iload rfl ?_
              refine x_icmp_lt (by omega) (by omega) (by omega) (by omega) (fun z11 => ?_) (fun z11 => ?_)
              · skip
                refine x_blk (b := 4) (a_160 E) rfl ?_
                unfold b_160_4
                refine x_iload rfl ?_
                refine x_push (-1) rfl ?_
                refine x_icmp_ne (by omega) (by omega) (by omega) (by omega) (fun z12 => ?_) (fun z12 => ?_)
                · skip
                  refine x_iload rfl ?_
                  refine x_goto ?_
                  refine x_blk (b := 6) (a_160 E) rfl ?_
                  unfold b_160_6
                  refine x_iret ?_
                  exact k _ _ C7 F7 (by omega) (by omega) 
                · skip
                  refine x_blk (b := 5) (a_160 E) rfl ?_
                  unfold b_160_5
                  refine x_aload rfl ?_
                  refine x_iload rfl ?_
                  refine x_iload rfl ?_
                  refine x_cV (fun _ => rfl) rfl (by decide) (Nat.le_of_ble_eq_true rfl) ?_
                  refine sf_161_111 (by omega) (by omega) (by omega) (by omega) C7 (fun v13 v13a v13b => ?_)
                  refine x_fall ?_
                  refine x_blk (b := 6) (a_160 E) rfl ?_
                  unfold b_160_6
                  refine x_iret ?_
                  exact k _ _ C7 F7 (by omega) (by omega) 
              · skip
                refine x_fall ?_
                refine x_blk (b := 3) (a_160 E) rfl ?_
                unfold b_160_3
                refine x_push (-4) rfl ?_
                refine x_iret ?_
                exact k _ _ C7 F7 (by omega) (by omega) 
            · skip
              refine x_blk (b := 3) (a_160 E) rfl ?_
              unfold b_160_3
              refine x_push (-4) rfl ?_
              refine x_iret ?_
              exact k _ _ C7 F7 (by omega) (by omega) 
        · skip
          refine x_astore ?_
          refine x_aload rfl ?_
          refine x_aload rfl ?_
          refine x_getR (r := 0) rfl (by decide) (by decide) rfl ?_
          refine x_cV (fun _ => rfl) rfl (by decide) (Nat.le_of_ble_eq_true rfl) ?_
          refine sf_109_124_4  C0 (fun S14 C14 f14 => ?_)
          have F14 := y_fq_tr (by decide) (y_fr_rf (lo := 111) (hi := 137)) f14
          refine x_aload rfl ?_
          refine x_iload rfl ?_
          refine x_cV (fun _ => rfl) rfl (by decide) (Nat.le_of_ble_eq_true rfl) ?_
          refine sf_41_124 (by omega) (by omega) C14 (fun v15 v15a v15b => ?_)
          refine x_istore ?_
          refine x_X_lo (lo' := [(0, x_R 0), (1, x_I _), (2, x_I _), (3, x_I _), (4, x_R 124), (5, x_I _)]) ⟨rfl, rfl, rfl, rfl, rfl, rfl, trivial⟩ ?_
          refine x_iload rfl ?_
          refine x_if_eq (by omega) (by omega) (fun z16 => ?_) (fun z16 => ?_)
          · skip
            refine x_blk (b := 3) (a_160 E) rfl ?_
            unfold b_160_3
            refine x_push (-4) rfl ?_
            refine x_iret ?_
            exact k _ _ C14 F14 (by omega) (by omega) 
          · skip
            refine x_iload rfl ?_
            refine x_push 40 rfl ?_
            refine x_icmp_gt (by omega) (by omega) (by omega) (by omega) (fun z17 => ?_) (fun z17 => ?_)
            · skip
              refine x_iload rfl ?_
              refine x_iload rfl ?_
              refine x_icmp_lt (by omega) (by omega) (by omega) (by omega) (fun z18 => ?_) (fun z18 => ?_)
              · skip
                refine x_blk (b := 4) (a_160 E) rfl ?_
                unfold b_160_4
                refine x_iload rfl ?_
                refine x_push (-1) rfl ?_
                refine x_icmp_ne (by omega) (by omega) (by omega) (by omega) (fun z19 => ?_) (fun z19 => ?_)
                · skip
                  refine x_iload rfl ?_
                  refine x_goto ?_
                  refine x_blk (b := 6) (a_160 E) rfl ?_
                  unfold b_160_6
                  refine x_iret ?_
                  exact k _ _ C14 F14 (by omega) (by omega) 
                · skip
                  refine x_blk (b := 5) (a_160 E) rfl ?_
                  unfold b_160_5
                  refine x_aload rfl ?_
                  refine x_iload rfl ?_
                  refine x_iload rfl ?_
                  refine x_cV (fun _ => rfl) rfl (by decide) (Nat.le_of_ble_eq_true rfl) ?_
                  refine sf_161_124 (by omega) (by omega) (by omega) (by omega) C14 (fun v20 v20a v20b => ?_)
                  refine x_fall ?_
                  refine x_blk (b := 6) (a_160 E) rfl ?_
                  unfold b_160_6
                  refine x_iret ?_
                  exact k _ _ C14 F14 (by omega) (by omega) 
              · skip
                refine x_fall ?_
                refine x_blk (b := 3) (a_160 E) rfl ?_
                unfold b_160_3
                refine x_push (-4) rfl ?_
                refine x_iret ?_
                exact k _ _ C14 F14 (by omega) (by omega) 
            · skip
              refine x_blk (b := 3) (a_160 E) rfl ?_
              unfold b_160_3
              refine x_push (-4) rfl ?_
              refine x_iret ?_
              exact k _ _ C14 F14 (by omega) (by omega) 
    · skip
      refine x_if_eq (by omega) (by omega) (fun z21 => ?_) (fun z => absurd (by omega) z)
      refine x_blk (b := 1) (a_160 E) rfl ?_
      unfold b_160_1
      refine x_push (-1) rfl ?_
      refine x_iret ?_
      exact k _ _ C0 (y_fr_rf (lo := 111) (hi := 137)) (by omega) (by omega) 
  · skip
    refine x_if_eq (by omega) (by omega) (fun z22 => ?_) (fun z => absurd (by omega) z)
    refine x_blk (b := 1) (a_160 E) rfl ?_
    unfold b_160_1
    refine x_push (-1) rfl ?_
    refine x_iret ?_
    exact k _ _ C0 (y_fr_rf (lo := 111) (hi := 137)) (by omega) (by omega) 
theorem sf_164_111_b3 {E : q_E} {σ : x_S} {Q : Option q_V → x_S → Prop} {a1 a2 : Int} (a1l : (-2147483648) ≤ a1) (a1h : a1 ≤ 2147483647) (a2l : (-2147483648) ≤ a2) (a2h : a2 ≤ 2147483647) (C0 : y_CI σ) (k : ∀ v, (-4) ≤ v → v ≤ 53 → Q (some (x_I v)) σ) : ∀ (N : Nat) (n : Int), (54 - n).toNat = N → 0 ≤ n → n ≤ 54 → x_G E m_164 Q (t_164 3) [(0, x_R 111), (1, x_I a1), (2, x_I a2), (3, x_I n)] [] σ := by
  intro N
  induction N using Nat.strongRecOn with
  | ind N ih =>
    intro n hN nL nH
    refine x_blk (b := 3) (a_164 E) rfl ?_
    unfold b_164_3
    refine x_iload rfl ?_
    refine x_aload rfl ?_
    refine x_getIG y_f111_13 C0 ?_
    intro g1a g1b
    refine x_icmp_ge (by omega) (by omega) (by omega) (by omega) (fun z2 => ?_) (fun z2 => ?_)
    · skip
      refine x_iload rfl ?_
      refine x_push 54 rfl ?_
      refine x_icmp_ge (by omega) (by omega) (by omega) (by omega) (fun z3 => ?_) (fun z => absurd (by omega) z)
      refine x_aload rfl ?_
      refine x_getR (r := 111) rfl (by decide) (by decide) rfl ?_
      refine x_iload rfl ?_
      refine x_ialdG y_a116 C0 (by omega) (by omega) (fun v4 v4a v4b => ?_)
      refine x_iload rfl ?_
      refine x_cS (fun _ => rfl) (Nat.le_of_ble_eq_true rfl) ?_
      refine sf_61 (by omega) (by omega) (by omega) (by omega) C0 (fun v5 v5a v5b => ?_)
      refine x_iload rfl ?_
      refine x_icmp_ne (by omega) (by omega) (by omega) (by omega) (fun z6 => ?_) (fun z6 => ?_)
      · skip
        refine x_aload rfl ?_
        refine x_getR (r := 111) rfl (by decide) (by decide) rfl ?_
        refine x_iload rfl ?_
        refine x_ialdG y_a116 C0 (by omega) (by omega) (fun v7 v7a v7b => ?_)
        refine x_iret ?_
        exact k _ (by omega) (by omega) 
      · skip
        refine x_blk (b := 2) (a_164 E) rfl ?_
        unfold b_164_2
        refine x_iinc 1 rfl rfl ?_
        refine x_goto ?_
        refine x_G_lo (lo' := [(0, x_R 111), (1, x_I _), (2, x_I _), (3, x_I _)]) ⟨rfl, rfl, rfl, rfl, trivial⟩ ?_
        exact ih _ (by omega) _  rfl (by omega) (by omega)  
    · skip
      refine x_blk (b := 1) (a_164 E) rfl ?_
      unfold b_164_1
      refine x_push (-4) rfl ?_
      refine x_iret ?_
      exact k _ (by omega) (by omega) 
theorem sf_164_111 {E : q_E} {σ : x_S} {Q : Option q_V → x_S → Prop} {a1 a2 : Int} (a1l : (-2147483648) ≤ a1) (a1h : a1 ≤ 2147483647) (a2l : (-2147483648) ≤ a2) (a2h : a2 ≤ 2147483647) (C0 : y_CI σ) (k : ∀ v, (-4) ≤ v → v ≤ 53 → Q (some (x_I v)) σ) : x_P E 164 [x_R 111, x_I a1, x_I a2] σ Q := by
  refine x_Mt e_164 (h_164 E) (Nat.le_of_ble_eq_true rfl) t_164 rfl ?_
  refine x_blk (b := 0) (a_164 E) rfl ?_
  unfold b_164_0
  refine x_push 0 rfl ?_
  refine x_istore ?_
  refine x_fall ?_
  refine x_G_lo (lo' := [(0, x_R 111), (1, x_I _), (2, x_I _), (3, x_I _)]) ⟨rfl, rfl, rfl, rfl, trivial⟩ ?_
  exact sf_164_111_b3 a1l a1h a2l a2h C0 k  _ _  rfl (by omega) (by omega)  
theorem sf_164_124_b3 {E : q_E} {σ : x_S} {Q : Option q_V → x_S → Prop} {a1 a2 : Int} (a1l : (-2147483648) ≤ a1) (a1h : a1 ≤ 2147483647) (a2l : (-2147483648) ≤ a2) (a2h : a2 ≤ 2147483647) (C0 : y_CI σ) (k : ∀ v, (-4) ≤ v → v ≤ 53 → Q (some (x_I v)) σ) : ∀ (N : Nat) (n : Int), (54 - n).toNat = N → 0 ≤ n → n ≤ 54 → x_G E m_164 Q (t_164 3) [(0, x_R 124), (1, x_I a1), (2, x_I a2), (3, x_I n)] [] σ := by
  intro N
  induction N using Nat.strongRecOn with
  | ind N ih =>
    intro n hN nL nH
    refine x_blk (b := 3) (a_164 E) rfl ?_
    unfold b_164_3
    refine x_iload rfl ?_
    refine x_aload rfl ?_
    refine x_getIG y_f124_13 C0 ?_
    intro g1a g1b
    refine x_icmp_ge (by omega) (by omega) (by omega) (by omega) (fun z2 => ?_) (fun z2 => ?_)
    · skip
      refine x_iload rfl ?_
      refine x_push 54 rfl ?_
      refine x_icmp_ge (by omega) (by omega) (by omega) (by omega) (fun z3 => ?_) (fun z => absurd (by omega) z)
      refine x_aload rfl ?_
      refine x_getR (r := 124) rfl (by decide) (by decide) rfl ?_
      refine x_iload rfl ?_
      refine x_ialdG y_a129 C0 (by omega) (by omega) (fun v4 v4a v4b => ?_)
      refine x_iload rfl ?_
      refine x_cS (fun _ => rfl) (Nat.le_of_ble_eq_true rfl) ?_
      refine sf_61 (by omega) (by omega) (by omega) (by omega) C0 (fun v5 v5a v5b => ?_)
      refine x_iload rfl ?_
      refine x_icmp_ne (by omega) (by omega) (by omega) (by omega) (fun z6 => ?_) (fun z6 => ?_)
      · skip
        refine x_aload rfl ?_
        refine x_getR (r := 124) rfl (by decide) (by decide) rfl ?_
        refine x_iload rfl ?_
        refine x_ialdG y_a129 C0 (by omega) (by omega) (fun v7 v7a v7b => ?_)
        refine x_iret ?_
        exact k _ (by omega) (by omega) 
      · skip
        refine x_blk (b := 2) (a_164 E) rfl ?_
        unfold b_164_2
        refine x_iinc 1 rfl rfl ?_
        refine x_goto ?_
        refine x_G_lo (lo' := [(0, x_R 124), (1, x_I _), (2, x_I _), (3, x_I _)]) ⟨rfl, rfl, rfl, rfl, trivial⟩ ?_
        exact ih _ (by omega) _  rfl (by omega) (by omega)  
    · skip
      refine x_blk (b := 1) (a_164 E) rfl ?_
      unfold b_164_1
      refine x_push (-4) rfl ?_
      refine x_iret ?_
      exact k _ (by omega) (by omega) 
theorem sf_164_124 {E : q_E} {σ : x_S} {Q : Option q_V → x_S → Prop} {a1 a2 : Int} (a1l : (-2147483648) ≤ a1) (a1h : a1 ≤ 2147483647) (a2l : (-2147483648) ≤ a2) (a2h : a2 ≤ 2147483647) (C0 : y_CI σ) (k : ∀ v, (-4) ≤ v → v ≤ 53 → Q (some (x_I v)) σ) : x_P E 164 [x_R 124, x_I a1, x_I a2] σ Q := by
  refine x_Mt e_164 (h_164 E) (Nat.le_of_ble_eq_true rfl) t_164 rfl ?_
  refine x_blk (b := 0) (a_164 E) rfl ?_
  unfold b_164_0
  refine x_push 0 rfl ?_
  refine x_istore ?_
  refine x_fall ?_
  refine x_G_lo (lo' := [(0, x_R 124), (1, x_I _), (2, x_I _), (3, x_I _)]) ⟨rfl, rfl, rfl, rfl, trivial⟩ ?_
  exact sf_164_124_b3 a1l a1h a2l a2h C0 k  _ _  rfl (by omega) (by omega)  
theorem sf_163_0 {E : q_E} {σ : x_S} {Q : Option q_V → x_S → Prop} {a1 a2 a3 a4 : Int} (a1l : (-2147483648) ≤ a1) (a1h : a1 ≤ 2147483647) (a2l : (-2147483648) ≤ a2) (a2h : a2 ≤ 2147483647) (a3l : (-2147483648) ≤ a3) (a3h : a3 ≤ 2147483647) (a4l : (-2147483648) ≤ a4) (a4h : a4 ≤ 2147483647) (C0 : y_CI σ) (k : ∀ τ v, y_CI τ → y_fq 111 137 σ τ → (-2147483648) ≤ v → v ≤ 2147483647 → Q (some (x_I v)) τ) : x_P E 163 [x_R 0, x_I a1, x_I a2, x_I a3, x_I a4] σ Q := by
  refine x_Mt e_163 (h_163 E) (Nat.le_of_ble_eq_true rfl) t_163 rfl ?_
  refine x_blk (b := 0) (a_163 E) rfl ?_
  unfold b_163_0
  refine x_iload rfl ?_
  refine x_push 2 rfl ?_
  refine x_cS (fun _ => rfl) (Nat.le_of_ble_eq_true rfl) ?_
  refine sf_2 (by omega) (by omega) (by omega) (by omega) C0 (fun y1 => ?_) (fun y1 => ?_)
  · skip
    refine x_if_eq (by omega) (by omega) (fun z => absurd z (by omega)) (fun z2 => ?_)
    refine x_iload rfl ?_
    refine x_push 3 rfl ?_
    refine x_cS (fun _ => rfl) (Nat.le_of_ble_eq_true rfl) ?_
    refine sf_2 (by omega) (by omega) (by omega) (by omega) C0 (fun y3 => ?_) (fun y3 => ?_)
    · skip
      refine x_if_eq (by omega) (by omega) (fun z => absurd z (by omega)) (fun z4 => ?_)
      refine x_iload rfl ?_
      refine x_push 2 rfl ?_
      refine x_cS (fun _ => rfl) (Nat.le_of_ble_eq_true rfl) ?_
      refine sf_2 (by omega) (by omega) (by omega) (by omega) C0 (fun y5 => ?_) (fun y5 => ?_)
      · skip
        refine x_if_ne (by omega) (by omega) (fun z => absurd z (by omega)) (fun z6 => ?_)
        refine x_blk (b := 2) (a_163 E) rfl ?_
        unfold b_163_2
        refine x_aload rfl ?_
        refine x_iload rfl ?_
        refine x_cV (fun _ => rfl) rfl (by decide) (Nat.le_of_ble_eq_true rfl) ?_
        refine sf_108_0 (by omega) (by omega) C0 (fun y7 => ?_) (fun y7 => ?_)
        · skip
          refine x_astore ?_
          refine x_aload rfl ?_
          refine x_aload rfl ?_
          refine x_getR (r := 0) rfl (by decide) (by decide) rfl ?_
          refine x_cV (fun _ => rfl) rfl (by decide) (Nat.le_of_ble_eq_true rfl) ?_
          refine sf_109_111_4  C0 (fun S8 C8 f8 => ?_)
          have F8 := y_fq_tr (by decide) (y_fr_rf (lo := 111) (hi := 137)) f8
          refine x_aload rfl ?_
          refine x_iload rfl ?_
          refine x_iload rfl ?_
          refine x_cV (fun _ => rfl) rfl (by decide) (Nat.le_of_ble_eq_true rfl) ?_
          refine sf_164_111 (by omega) (by omega) (by omega) (by omega) C8 (fun v9 v9a v9b => ?_)
          refine x_istore ?_
          refine x_X_lo (lo' := [(0, x_R 0), (1, x_I _), (2, x_I _), (3, x_I _), (4, x_I _), (5, x_R 111), (6, x_I _)]) ⟨rfl, rfl, rfl, rfl, rfl, rfl, rfl, trivial⟩ ?_
          refine x_aload rfl ?_
          refine x_iload rfl ?_
          refine x_cV (fun _ => rfl) rfl (by decide) (Nat.le_of_ble_eq_true rfl) ?_
          refine sf_41_111 (by omega) (by omega) C8 (fun v10 v10a v10b => ?_)
          refine x_istore ?_
          refine x_iload rfl ?_
          refine x_if_ne (by omega) (by omega) (fun z11 => ?_) (fun z11 => ?_)
          · skip
            refine x_iload rfl ?_
            refine x_iret ?_
            exact k _ _ C8 F8 (by omega) (by omega) 
          · skip
            refine x_blk (b := 3) (a_163 E) rfl ?_
            unfold b_163_3
            refine x_iload rfl ?_
            refine x_if_eq (by omega) (by omega) (fun z12 => ?_) (fun z12 => ?_)
            · skip
              refine x_blk (b := 4) (a_163 E) rfl ?_
              unfold b_163_4
              refine x_push (-4) rfl ?_
              refine x_goto ?_
              refine x_blk (b := 6) (a_163 E) rfl ?_
              unfold b_163_6
              refine x_iret ?_
              exact k _ _ C8 F8 (by omega) (by omega) 
            · skip
              refine x_iload rfl ?_
              refine x_push 40 rfl ?_
              refine x_icmp_le (by omega) (by omega) (by omega) (by omega) (fun z13 => ?_) (fun z13 => ?_)
              · skip
                refine x_blk (b := 5) (a_163 E) rfl ?_
                unfold b_163_5
                refine x_iload rfl ?_
                refine x_fall ?_
                refine x_blk (b := 6) (a_163 E) rfl ?_
                unfold b_163_6
                refine x_iret ?_
                exact k _ _ C8 F8 (by omega) (by omega) 
              · skip
                refine x_fall ?_
                refine x_blk (b := 4) (a_163 E) rfl ?_
                unfold b_163_4
                refine x_push (-4) rfl ?_
                refine x_goto ?_
                refine x_blk (b := 6) (a_163 E) rfl ?_
                unfold b_163_6
                refine x_iret ?_
                exact k _ _ C8 F8 (by omega) (by omega) 
        · skip
          refine x_astore ?_
          refine x_aload rfl ?_
          refine x_aload rfl ?_
          refine x_getR (r := 0) rfl (by decide) (by decide) rfl ?_
          refine x_cV (fun _ => rfl) rfl (by decide) (Nat.le_of_ble_eq_true rfl) ?_
          refine sf_109_124_4  C0 (fun S14 C14 f14 => ?_)
          have F14 := y_fq_tr (by decide) (y_fr_rf (lo := 111) (hi := 137)) f14
          refine x_aload rfl ?_
          refine x_iload rfl ?_
          refine x_iload rfl ?_
          refine x_cV (fun _ => rfl) rfl (by decide) (Nat.le_of_ble_eq_true rfl) ?_
          refine sf_164_124 (by omega) (by omega) (by omega) (by omega) C14 (fun v15 v15a v15b => ?_)
          refine x_istore ?_
          refine x_X_lo (lo' := [(0, x_R 0), (1, x_I _), (2, x_I _), (3, x_I _), (4, x_I _), (5, x_R 124), (6, x_I _)]) ⟨rfl, rfl, rfl, rfl, rfl, rfl, rfl, trivial⟩ ?_
          refine x_aload rfl ?_
          refine x_iload rfl ?_
          refine x_cV (fun _ => rfl) rfl (by decide) (Nat.le_of_ble_eq_true rfl) ?_
          refine sf_41_124 (by omega) (by omega) C14 (fun v16 v16a v16b => ?_)
          refine x_istore ?_
          refine x_iload rfl ?_
          refine x_if_ne (by omega) (by omega) (fun z17 => ?_) (fun z17 => ?_)
          · skip
            refine x_iload rfl ?_
            refine x_iret ?_
            exact k _ _ C14 F14 (by omega) (by omega) 
          · skip
            refine x_blk (b := 3) (a_163 E) rfl ?_
            unfold b_163_3
            refine x_iload rfl ?_
            refine x_if_eq (by omega) (by omega) (fun z18 => ?_) (fun z18 => ?_)
            · skip
              refine x_blk (b := 4) (a_163 E) rfl ?_
              unfold b_163_4
              refine x_push (-4) rfl ?_
              refine x_goto ?_
              refine x_blk (b := 6) (a_163 E) rfl ?_
              unfold b_163_6
              refine x_iret ?_
              exact k _ _ C14 F14 (by omega) (by omega) 
            · skip
              refine x_iload rfl ?_
              refine x_push 40 rfl ?_
              refine x_icmp_le (by omega) (by omega) (by omega) (by omega) (fun z19 => ?_) (fun z19 => ?_)
              · skip
                refine x_blk (b := 5) (a_163 E) rfl ?_
                unfold b_163_5
                refine x_iload rfl ?_
                refine x_fall ?_
                refine x_blk (b := 6) (a_163 E) rfl ?_
                unfold b_163_6
                refine x_iret ?_
                exact k _ _ C14 F14 (by omega) (by omega) 
              · skip
                refine x_fall ?_
                refine x_blk (b := 4) (a_163 E) rfl ?_
                unfold b_163_4
                refine x_push (-4) rfl ?_
                refine x_goto ?_
                refine x_blk (b := 6) (a_163 E) rfl ?_
                unfold b_163_6
                refine x_iret ?_
                exact k _ _ C14 F14 (by omega) (by omega) 
      · skip
        refine x_if_ne (by omega) (by omega) (fun z20 => ?_) (fun z => absurd (by omega) z)
        refine x_fall ?_
        refine x_blk (b := 1) (a_163 E) rfl ?_
        unfold b_163_1
        refine x_push (-1) rfl ?_
        refine x_iret ?_
        exact k _ _ C0 (y_fr_rf (lo := 111) (hi := 137)) (by omega) (by omega) 
    · skip
      refine x_if_eq (by omega) (by omega) (fun z21 => ?_) (fun z => absurd (by omega) z)
      refine x_blk (b := 1) (a_163 E) rfl ?_
      unfold b_163_1
      refine x_push (-1) rfl ?_
      refine x_iret ?_
      exact k _ _ C0 (y_fr_rf (lo := 111) (hi := 137)) (by omega) (by omega) 
  · skip
    refine x_if_eq (by omega) (by omega) (fun z22 => ?_) (fun z => absurd (by omega) z)
    refine x_blk (b := 1) (a_163 E) rfl ?_
    unfold b_163_1
    refine x_push (-1) rfl ?_
    refine x_iret ?_
    exact k _ _ C0 (y_fr_rf (lo := 111) (hi := 137)) (by omega) (by omega) 
theorem sf_162_0 {E : q_E} {σ : x_S} {Q : Option q_V → x_S → Prop} {a1 a2 a3 : Int} (a1l : (-2147483648) ≤ a1) (a1h : a1 ≤ 2147483647) (a2l : (-2147483648) ≤ a2) (a2h : a2 ≤ 2147483647) (a3l : (-2147483648) ≤ a3) (a3h : a3 ≤ 2147483647) (C0 : y_CI σ) (k : ∀ τ v, y_CI τ → y_fq 111 137 σ τ → (-2147483648) ≤ v → v ≤ 2147483647 → Q (some (x_I v)) τ) : x_P E 162 [x_R 0, x_I a1, x_I a2, x_I a3] σ Q := by
  refine x_Mt e_162 (h_162 E) (Nat.le_of_ble_eq_true rfl) t_162 rfl ?_
  refine x_blk (b := 0) (a_162 E) rfl ?_
  unfold b_162_0
  refine x_aload rfl ?_
  refine x_iload rfl ?_
  refine x_iload rfl ?_
  refine x_iload rfl ?_
  refine x_push 2 rfl ?_
  refine x_cV (fun _ => rfl) rfl (by decide) (Nat.le_of_ble_eq_true rfl) ?_
  refine sf_163_0 (by omega) (by omega) (by omega) (by omega) (by omega) (by omega) (by omega) (by omega) C0 (fun S1 v1 C1 f1 v1a v1b => ?_)
  have F1 := y_fq_tr (by decide) (y_fr_rf (lo := 111) (hi := 137)) f1
  refine x_iret ?_
  exact k _ _ C1 F1 (by omega) (by omega) 
theorem sf_165_0 {E : q_E} {σ : x_S} {Q : Option q_V → x_S → Prop} {a1 a2 a3 : Int} (a1l : (-2147483648) ≤ a1) (a1h : a1 ≤ 2147483647) (a2l : (-2147483648) ≤ a2) (a2h : a2 ≤ 2147483647) (a3l : (-2147483648) ≤ a3) (a3h : a3 ≤ 2147483647) (C0 : y_CI σ) (k : ∀ τ v, y_CI τ → y_fq 111 137 σ τ → (-2147483648) ≤ v → v ≤ 2147483647 → Q (some (x_I v)) τ) : x_P E 165 [x_R 0, x_I a1, x_I a2, x_I a3] σ Q := by
  refine x_Mt e_165 (h_165 E) (Nat.le_of_ble_eq_true rfl) t_165 rfl ?_
  refine x_blk (b := 0) (a_165 E) rfl ?_
  unfold b_165_0
  refine x_aload rfl ?_
  refine x_iload rfl ?_
  refine x_iload rfl ?_
  refine x_iload rfl ?_
  refine x_push 0 rfl ?_
  refine x_cV (fun _ => rfl) rfl (by decide) (Nat.le_of_ble_eq_true rfl) ?_
  refine sf_163_0 (by omega) (by omega) (by omega) (by omega) (by omega) (by omega) (by omega) (by omega) C0 (fun S1 v1 C1 f1 v1a v1b => ?_)
  have F1 := y_fq_tr (by decide) (y_fr_rf (lo := 111) (hi := 137)) f1
  refine x_iret ?_
  exact k _ _ C1 F1 (by omega) (by omega) 
theorem sf_97_1 {E : q_E} {σ : x_S} {Q : Option q_V → x_S → Prop} (C0 : y_CI σ) (k : ∀ v, 0 ≤ v → v ≤ 200 → v = σ 1 2 → Q (some (x_I v)) σ) : x_P E 97 [x_R 1] σ Q := by
  refine x_Mt e_97 (h_97 E) (Nat.le_of_ble_eq_true rfl) t_97 rfl ?_
  refine x_blk (b := 0) (a_97 E) rfl ?_
  unfold b_97_0
  refine x_aload rfl ?_
  refine x_getIG y_f1_2 C0 ?_
  intro g1a g1b
  refine x_iret ?_
  exact k _ (by omega) (by omega) (by omega)
