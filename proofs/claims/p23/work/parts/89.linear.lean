set_option maxHeartbeats 8000000 in
theorem rs_197_b9 {E : q_E} {σ : x_S} {Q : Option q_V → x_S → Prop} {a1 a2 : Int} (a1l : (-2147483648) ≤ a1) (a1h : a1 ≤ 2147483647) (a2l : (-2147483648) ≤ a2) (a2h : a2 ≤ 2147483647) (hR : y_RI σ) (k : y_KQ Q σ) {s r : Int} (sL : 0 ≤ s) (sH : s ≤ 1) (rL : 0 ≤ r) (rH : r ≤ 15) (fe0 : r < σ 140 62) (ho : ∀ (s' r' : Int), (16 - r').toNat < (16 - r).toNat → 0 ≤ s' → s' ≤ 1 → 0 ≤ r' → r' ≤ 16 → x_G E m_197 Q (t_197 18) [(0, x_R 138), (1, x_I a1), (2, x_I a2), (3, x_I s'), (4, x_I r')] [] σ) : ∀ (N : Nat) (x y i : Int), (7 - i).toNat = N → 0 ≤ x → x ≤ 7 → 0 ≤ y → y ≤ 7 → 0 ≤ i → i ≤ 7 → x ≤ i → y ≤ i → x_G E m_197 Q (t_197 9) [(0, x_R 138), (1, x_I a1), (2, x_I a2), (3, x_I s), (4, x_I r), (5, x_I x), (6, x_I y), (7, x_I i)] [] σ := by
  obtain ⟨rl, hP, ru5, rb, rk, rc⟩ := id hR
  have ru := hP.2.2.2.1
  have kd := hP.1
  intro N
  induction N using Nat.strongRecOn with
  | ind N ih =>
    intro x y i hN xL xH yL yH iL iH ex0 ex1
    refine x_blk (b := 9) (a_197 E) rfl ?_
    unfold b_197_9
    refine x_iload rfl ?_
    refine x_aload rfl ?_
    refine x_iload rfl ?_
    refine x_push 4 rfl ?_
    refine x_cV (fun _ => rfl) rfl (by decide) (Nat.le_of_ble_eq_true rfl) ?_
    refine rf_3_4 y_rf_rf hP (by omega) (by omega) (fun v1 v1a v1b v1c => ?_)
    refine x_icmp_ge (by omega) (by omega) (by omega) (by omega) (fun z2 => ?_) (fun z2 => ?_)
    · skip
      refine x_aload rfl ?_
      refine x_iload rfl ?_
      refine x_push 5 rfl ?_
      refine x_iload rfl ?_
      refine x_iadd ?_
      refine x_cV (fun _ => rfl) rfl (by decide) (Nat.le_of_ble_eq_true rfl) ?_
      refine rf_3_p y_rf_rf hP (by omega) (by omega) (by omega) (by omega) (fun v3 v3a v3b v3c v3d v3e => ?_)
      refine x_istore ?_
      refine x_iload rfl ?_
      refine x_iload rfl ?_
      refine x_push 9 rfl ?_
      refine x_icmp_le (by omega) (by omega) (by omega) (by omega) (fun z4 => ?_) (fun z4 => ?_)
      · skip
        refine x_blk (b := 5) (a_197 E) rfl ?_
        unfold b_197_5
        refine x_push 0 rfl ?_
        refine x_fall ?_
        refine x_blk (b := 6) (a_197 E) rfl ?_
        unfold b_197_6
        refine x_iadd ?_
        refine x_istore ?_
        refine x_X_lo (lo' := [(0, x_R 138), (1, x_I _), (2, x_I _), (3, x_I _), (4, x_I _), (5, x_I _), (6, x_I _), (7, x_I _), (8, x_I _)]) ⟨rfl, rfl, rfl, rfl, rfl, rfl, rfl, rfl, rfl, trivial⟩ ?_
        refine x_iload rfl ?_
        refine x_iload rfl ?_
        refine x_push 9 rfl ?_
        refine x_icmp_le (by omega) (by omega) (by omega) (by omega) (fun z5 => ?_) (fun z => absurd (by omega) z)
        refine x_blk (b := 7) (a_197 E) rfl ?_
        unfold b_197_7
        refine x_push 0 rfl ?_
        refine x_fall ?_
        refine x_blk (b := 8) (a_197 E) rfl ?_
        unfold b_197_8
        refine x_iadd ?_
        refine x_istore ?_
        refine x_iinc 1 rfl rfl ?_
        refine x_X_lo (lo' := [(0, x_R 138), (1, x_I _), (2, x_I _), (3, x_I _), (4, x_I _), (5, x_I _), (6, x_I _), (7, x_I _), (8, x_I _)]) ⟨rfl, rfl, rfl, rfl, rfl, rfl, rfl, rfl, rfl, trivial⟩ ?_
        refine x_goto ?_
        refine x_G_lo (lo' := [(0, x_R 138), (1, x_I _), (2, x_I _), (3, x_I _), (4, x_I _), (5, x_I _), (6, x_I _), (7, x_I _)]) ⟨rfl, rfl, rfl, rfl, rfl, rfl, rfl, rfl, trivial⟩ ?_
        exact ih _ (by omega) _ _ _  rfl (by omega) (by omega) (by omega) (by omega) (by omega) (by omega) (by omega) (by omega) 
      · skip
        refine x_iload rfl ?_
        refine x_push 2 rfl ?_
        refine x_irem (by omega) (by omega) (by omega) (by omega) ?_
        refine x_if_ne (by omega) (by omega) (fun z6 => ?_) (fun z6 => ?_)
        · skip
          refine x_push 1 rfl ?_
          refine x_goto ?_
          refine x_blk (b := 6) (a_197 E) rfl ?_
          unfold b_197_6
          refine x_iadd ?_
          refine x_istore ?_
          refine x_X_lo (lo' := [(0, x_R 138), (1, x_I _), (2, x_I _), (3, x_I _), (4, x_I _), (5, x_I _), (6, x_I _), (7, x_I _), (8, x_I _)]) ⟨rfl, rfl, rfl, rfl, rfl, rfl, rfl, rfl, rfl, trivial⟩ ?_
          refine x_iload rfl ?_
          refine x_iload rfl ?_
          refine x_push 9 rfl ?_
          refine x_icmp_le (by omega) (by omega) (by omega) (by omega) (fun z => absurd z (by omega)) (fun z7 => ?_)
          refine x_iload rfl ?_
          refine x_push 2 rfl ?_
          refine x_irem (by omega) (by omega) (by omega) (by omega) ?_
          refine x_push 1 rfl ?_
          refine x_icmp_ne (by omega) (by omega) (by omega) (by omega) (fun z8 => ?_) (fun z8 => ?_)
          · skip
            refine x_push 1 rfl ?_
            refine x_goto ?_
            refine x_blk (b := 8) (a_197 E) rfl ?_
            unfold b_197_8
            refine x_iadd ?_
            refine x_istore ?_
            refine x_iinc 1 rfl rfl ?_
            refine x_X_lo (lo' := [(0, x_R 138), (1, x_I _), (2, x_I _), (3, x_I _), (4, x_I _), (5, x_I _), (6, x_I _), (7, x_I _), (8, x_I _)]) ⟨rfl, rfl, rfl, rfl, rfl, rfl, rfl, rfl, rfl, trivial⟩ ?_
            refine x_goto ?_
            refine x_G_lo (lo' := [(0, x_R 138), (1, x_I _), (2, x_I _), (3, x_I _), (4, x_I _), (5, x_I _), (6, x_I _), (7, x_I _)]) ⟨rfl, rfl, rfl, rfl, rfl, rfl, rfl, rfl, trivial⟩ ?_
            exact ih _ (by omega) _ _ _  rfl (by omega) (by omega) (by omega) (by omega) (by omega) (by omega) (by omega) (by omega) 
          · skip
            refine x_blk (b := 7) (a_197 E) rfl ?_
            unfold b_197_7
            refine x_push 0 rfl ?_
            refine x_fall ?_
            refine x_blk (b := 8) (a_197 E) rfl ?_
            unfold b_197_8
            refine x_iadd ?_
            refine x_istore ?_
            refine x_iinc 1 rfl rfl ?_
            refine x_X_lo (lo' := [(0, x_R 138), (1, x_I _), (2, x_I _), (3, x_I _), (4, x_I _), (5, x_I _), (6, x_I _), (7, x_I _), (8, x_I _)]) ⟨rfl, rfl, rfl, rfl, rfl, rfl, rfl, rfl, rfl, trivial⟩ ?_
            refine x_goto ?_
            refine x_G_lo (lo' := [(0, x_R 138), (1, x_I _), (2, x_I _), (3, x_I _), (4, x_I _), (5, x_I _), (6, x_I _), (7, x_I _)]) ⟨rfl, rfl, rfl, rfl, rfl, rfl, rfl, rfl, trivial⟩ ?_
            exact ih _ (by omega) _ _ _  rfl (by omega) (by omega) (by omega) (by omega) (by omega) (by omega) (by omega) (by omega) 
        · skip
          refine x_blk (b := 5) (a_197 E) rfl ?_
          unfold b_197_5
          refine x_push 0 rfl ?_
          refine x_fall ?_
          refine x_blk (b := 6) (a_197 E) rfl ?_
          unfold b_197_6
          refine x_iadd ?_
          refine x_istore ?_
          refine x_X_lo (lo' := [(0, x_R 138), (1, x_I _), (2, x_I _), (3, x_I _), (4, x_I _), (5, x_I _), (6, x_I _), (7, x_I _), (8, x_I _)]) ⟨rfl, rfl, rfl, rfl, rfl, rfl, rfl, rfl, rfl, trivial⟩ ?_
          refine x_iload rfl ?_
          refine x_iload rfl ?_
          refine x_push 9 rfl ?_
          refine x_icmp_le (by omega) (by omega) (by omega) (by omega) (fun z => absurd z (by omega)) (fun z9 => ?_)
          refine x_iload rfl ?_
          refine x_push 2 rfl ?_
          refine x_irem (by omega) (by omega) (by omega) (by omega) ?_
          refine x_push 1 rfl ?_
          refine x_icmp_ne (by omega) (by omega) (by omega) (by omega) (fun z10 => ?_) (fun z10 => ?_)
          · skip
            refine x_push 1 rfl ?_
            refine x_goto ?_
            refine x_blk (b := 8) (a_197 E) rfl ?_
            unfold b_197_8
            refine x_iadd ?_
            refine x_istore ?_
            refine x_iinc 1 rfl rfl ?_
            refine x_X_lo (lo' := [(0, x_R 138), (1, x_I _), (2, x_I _), (3, x_I _), (4, x_I _), (5, x_I _), (6, x_I _), (7, x_I _), (8, x_I _)]) ⟨rfl, rfl, rfl, rfl, rfl, rfl, rfl, rfl, rfl, trivial⟩ ?_
            refine x_goto ?_
            refine x_G_lo (lo' := [(0, x_R 138), (1, x_I _), (2, x_I _), (3, x_I _), (4, x_I _), (5, x_I _), (6, x_I _), (7, x_I _)]) ⟨rfl, rfl, rfl, rfl, rfl, rfl, rfl, rfl, trivial⟩ ?_
            exact ih _ (by omega) _ _ _  rfl (by omega) (by omega) (by omega) (by omega) (by omega) (by omega) (by omega) (by omega) 
          · skip
            refine x_blk (b := 7) (a_197 E) rfl ?_
            unfold b_197_7
            refine x_push 0 rfl ?_
            refine x_fall ?_
            refine x_blk (b := 8) (a_197 E) rfl ?_
            unfold b_197_8
            refine x_iadd ?_
            refine x_istore ?_
            refine x_iinc 1 rfl rfl ?_
            refine x_X_lo (lo' := [(0, x_R 138), (1, x_I _), (2, x_I _), (3, x_I _), (4, x_I _), (5, x_I _), (6, x_I _), (7, x_I _), (8, x_I _)]) ⟨rfl, rfl, rfl, rfl, rfl, rfl, rfl, rfl, rfl, trivial⟩ ?_
            refine x_goto ?_
            refine x_G_lo (lo' := [(0, x_R 138), (1, x_I _), (2, x_I _), (3, x_I _), (4, x_I _), (5, x_I _), (6, x_I _), (7, x_I _)]) ⟨rfl, rfl, rfl, rfl, rfl, rfl, rfl, rfl, trivial⟩ ?_
            exact ih _ (by omega) _ _ _  rfl (by omega) (by omega) (by omega) (by omega) (by omega) (by omega) (by omega) (by omega) 
    · skip
      refine x_blk (b := 4) (a_197 E) rfl ?_
      unfold b_197_4
      refine x_aload rfl ?_
      refine x_iload rfl ?_
      refine x_push 2 rfl ?_
      refine x_cV (fun _ => rfl) rfl (by decide) (Nat.le_of_ble_eq_true rfl) ?_
      refine rf_3_2 y_rf_rf hP (by omega) (by omega) (fun v11 v11a v11b v11c => ?_)
      refine x_cS (fun _ => rfl) (Nat.le_of_ble_eq_true rfl) ?_
      refine rs_0 (by omega) (by omega) (fun v12 v12a v12b v12c => ?_)
      refine x_istore ?_
      refine x_iload rfl ?_
      refine x_if_ne (by omega) (by omega) (fun z13 => ?_) (fun z13 => ?_)
      · skip
        refine x_iload rfl ?_
        refine x_push 2 rfl ?_
        refine x_icmp_ge (by omega) (by omega) (by omega) (by omega) (fun z14 => ?_) (fun z14 => ?_)
        · skip
          refine x_iload rfl ?_
          refine x_push 2 rfl ?_
          refine x_icmp_ge (by omega) (by omega) (by omega) (by omega) (fun z15 => ?_) (fun z15 => ?_)
          · skip
            refine x_push 1 rfl ?_
            refine x_goto ?_
            refine x_blk (b := 12) (a_197 E) rfl ?_
            unfold b_197_12
            refine x_istore ?_
            refine x_X_lo (lo' := [(0, x_R 138), (1, x_I _), (2, x_I _), (3, x_I _), (4, x_I _), (5, x_I _), (6, x_I _), (7, x_I _), (8, x_I _)]) ⟨rfl, rfl, rfl, rfl, rfl, rfl, rfl, rfl, rfl, trivial⟩ ?_
            refine x_aload rfl ?_
            refine x_iload rfl ?_
            refine x_push 0 rfl ?_
            refine x_cV (fun _ => rfl) rfl (by decide) (Nat.le_of_ble_eq_true rfl) ?_
            refine rf_3_0 y_rf_rf hP (by omega) (by omega) (fun v16 v16a v16b v16c => ?_)
            refine x_iload rfl ?_
            refine x_icmp_ne (by omega) (by omega) (by omega) (by omega) (fun z17 => ?_) (fun z17 => ?_)
            · skip
              refine x_iload rfl ?_
              refine x_if_ne (by omega) (by omega) (fun z => absurd z (by omega)) (fun z18 => ?_)
              refine x_blk (b := 16) (a_197 E) rfl ?_
              unfold b_197_16
              refine x_iload rfl ?_
              refine x_fall ?_
              refine x_blk (b := 17) (a_197 E) rfl ?_
              unfold b_197_17
              refine x_istore ?_
              refine x_iinc 1 rfl rfl ?_
              refine x_X_lo (lo' := [(0, x_R 138), (1, x_I _), (2, x_I _), (3, x_I _), (4, x_I _), (5, x_I _), (6, x_I _), (7, x_I _), (8, x_I _)]) ⟨rfl, rfl, rfl, rfl, rfl, rfl, rfl, rfl, rfl, trivial⟩ ?_
              refine x_goto ?_
              refine x_G_lo (lo' := [(0, x_R 138), (1, x_I _), (2, x_I _), (3, x_I _), (4, x_I _)]) ⟨rfl, rfl, rfl, rfl, rfl, trivial⟩ ?_
              exact ho _ _  (by omega) (by omega) (by omega) (by omega) (by omega)  
            · skip
              refine x_blk (b := 16) (a_197 E) rfl ?_
              unfold b_197_16
              refine x_iload rfl ?_
              refine x_fall ?_
              refine x_blk (b := 17) (a_197 E) rfl ?_
              unfold b_197_17
              refine x_istore ?_
              refine x_iinc 1 rfl rfl ?_
              refine x_X_lo (lo' := [(0, x_R 138), (1, x_I _), (2, x_I _), (3, x_I _), (4, x_I _), (5, x_I _), (6, x_I _), (7, x_I _), (8, x_I _)]) ⟨rfl, rfl, rfl, rfl, rfl, rfl, rfl, rfl, rfl, trivial⟩ ?_
              refine x_goto ?_
              refine x_G_lo (lo' := [(0, x_R 138), (1, x_I _), (2, x_I _), (3, x_I _), (4, x_I _)]) ⟨rfl, rfl, rfl, rfl, rfl, trivial⟩ ?_
              exact ho _ _  (by omega) (by omega) (by omega) (by omega) (by omega)  
          · skip
            refine x_blk (b := 11) (a_197 E) rfl ?_
            unfold b_197_11
            refine x_push 0 rfl ?_
            refine x_goto ?_
            refine x_blk (b := 12) (a_197 E) rfl ?_
            unfold b_197_12
            refine x_istore ?_
            refine x_X_lo (lo' := [(0, x_R 138), (1, x_I _), (2, x_I _), (3, x_I _), (4, x_I _), (5, x_I _), (6, x_I _), (7, x_I _), (8, x_I _)]) ⟨rfl, rfl, rfl, rfl, rfl, rfl, rfl, rfl, rfl, trivial⟩ ?_
            refine x_aload rfl ?_
            refine x_iload rfl ?_
            refine x_push 0 rfl ?_
            refine x_cV (fun _ => rfl) rfl (by decide) (Nat.le_of_ble_eq_true rfl) ?_
            refine rf_3_0 y_rf_rf hP (by omega) (by omega) (fun v19 v19a v19b v19c => ?_)
            refine x_iload rfl ?_
            refine x_icmp_ne (by omega) (by omega) (by omega) (by omega) (fun z20 => ?_) (fun z20 => ?_)
            · skip
              refine x_iload rfl ?_
              refine x_if_ne (by omega) (by omega) (fun z21 => ?_) (fun z => absurd (by omega) z)
              refine x_push 0 rfl ?_
              refine x_goto ?_
              refine x_blk (b := 17) (a_197 E) rfl ?_
              unfold b_197_17
              refine x_istore ?_
              refine x_iinc 1 rfl rfl ?_
              refine x_X_lo (lo' := [(0, x_R 138), (1, x_I _), (2, x_I _), (3, x_I _), (4, x_I _), (5, x_I _), (6, x_I _), (7, x_I _), (8, x_I _)]) ⟨rfl, rfl, rfl, rfl, rfl, rfl, rfl, rfl, rfl, trivial⟩ ?_
              refine x_goto ?_
              refine x_G_lo (lo' := [(0, x_R 138), (1, x_I _), (2, x_I _), (3, x_I _), (4, x_I _)]) ⟨rfl, rfl, rfl, rfl, rfl, trivial⟩ ?_
              exact ho _ _  (by omega) (by omega) (by omega) (by omega) (by omega)  
            · skip
              refine x_blk (b := 16) (a_197 E) rfl ?_
              unfold b_197_16
              refine x_iload rfl ?_
              refine x_fall ?_
              refine x_blk (b := 17) (a_197 E) rfl ?_
              unfold b_197_17
              refine x_istore ?_
              refine x_iinc 1 rfl rfl ?_
              refine x_X_lo (lo' := [(0, x_R 138), (1, x_I _), (2, x_I _), (3, x_I _), (4, x_I _), (5, x_I _), (6, x_I _), (7, x_I _), (8, x_I _)]) ⟨rfl, rfl, rfl, rfl, rfl, rfl, rfl, rfl, rfl, trivial⟩ ?_
              refine x_goto ?_
              refine x_G_lo (lo' := [(0, x_R 138), (1, x_I _), (2, x_I _), (3, x_I _), (4, x_I _)]) ⟨rfl, rfl, rfl, rfl, rfl, trivial⟩ ?_
              exact ho _ _  (by omega) (by omega) (by omega) (by omega) (by omega)  
        · skip
          refine x_blk (b := 11) (a_197 E) rfl ?_
          unfold b_197_11
          refine x_push 0 rfl ?_
          refine x_goto ?_
          refine x_blk (b := 12) (a_197 E) rfl ?_
          unfold b_197_12
          refine x_istore ?_
          refine x_X_lo (lo' := [(0, x_R 138), (1, x_I _), (2, x_I _), (3, x_I _), (4, x_I _), (5, x_I _), (6, x_I _), (7, x_I _), (8, x_I _)]) ⟨rfl, rfl, rfl, rfl, rfl, rfl, rfl, rfl, rfl, trivial⟩ ?_
          refine x_aload rfl ?_
          refine x_iload rfl ?_
          refine x_push 0 rfl ?_
          refine x_cV (fun _ => rfl) rfl (by decide) (Nat.le_of_ble_eq_true rfl) ?_
          refine rf_3_0 y_rf_rf hP (by omega) (by omega) (fun v22 v22a v22b v22c => ?_)
          refine x_iload rfl ?_
          refine x_icmp_ne (by omega) (by omega) (by omega) (by omega) (fun z23 => ?_) (fun z23 => ?_)
          · skip
            refine x_iload rfl ?_
            refine x_if_ne (by omega) (by omega) (fun z24 => ?_) (fun z => absurd (by omega) z)
            refine x_push 0 rfl ?_
            refine x_goto ?_
            refine x_blk (b := 17) (a_197 E) rfl ?_
            unfold b_197_17
            refine x_istore ?_
            refine x_iinc 1 rfl rfl ?_
            refine x_X_lo (lo' := [(0, x_R 138), (1, x_I _), (2, x_I _), (3, x_I _), (4, x_I _), (5, x_I _), (6, x_I _), (7, x_I _), (8, x_I _)]) ⟨rfl, rfl, rfl, rfl, rfl, rfl, rfl, rfl, rfl, trivial⟩ ?_
            refine x_goto ?_
            refine x_G_lo (lo' := [(0, x_R 138), (1, x_I _), (2, x_I _), (3, x_I _), (4, x_I _)]) ⟨rfl, rfl, rfl, rfl, rfl, trivial⟩ ?_
            exact ho _ _  (by omega) (by omega) (by omega) (by omega) (by omega)  
          · skip
            refine x_blk (b := 16) (a_197 E) rfl ?_
            unfold b_197_16
            refine x_iload rfl ?_
            refine x_fall ?_
            refine x_blk (b := 17) (a_197 E) rfl ?_
            unfold b_197_17
            refine x_istore ?_
            refine x_iinc 1 rfl rfl ?_
            refine x_X_lo (lo' := [(0, x_R 138), (1, x_I _), (2, x_I _), (3, x_I _), (4, x_I _), (5, x_I _), (6, x_I _), (7, x_I _), (8, x_I _)]) ⟨rfl, rfl, rfl, rfl, rfl, rfl, rfl, rfl, rfl, trivial⟩ ?_
            refine x_goto ?_
            refine x_G_lo (lo' := [(0, x_R 138), (1, x_I _), (2, x_I _), (3, x_I _), (4, x_I _)]) ⟨rfl, rfl, rfl, rfl, rfl, trivial⟩ ?_
            exact ho _ _  (by omega) (by omega) (by omega) (by omega) (by omega)  
      · skip
        refine x_blk (b := 10) (a_197 E) rfl ?_
        unfold b_197_10
        refine x_iload rfl ?_
        refine x_push 1 rfl ?_
        refine x_icmp_lt (by omega) (by omega) (by omega) (by omega) (fun z25 => ?_) (fun z25 => ?_)
        · skip
          refine x_blk (b := 13) (a_197 E) rfl ?_
          unfold b_197_13
          refine x_iload rfl ?_
          refine x_push 2 rfl ?_
          refine x_icmp_lt (by omega) (by omega) (by omega) (by omega) (fun z26 => ?_) (fun z => absurd (by omega) z)
          refine x_blk (b := 15) (a_197 E) rfl ?_
          unfold b_197_15
          refine x_push 1 rfl ?_
          refine x_goto ?_
          refine x_blk (b := 12) (a_197 E) rfl ?_
          unfold b_197_12
          refine x_istore ?_
          refine x_X_lo (lo' := [(0, x_R 138), (1, x_I _), (2, x_I _), (3, x_I _), (4, x_I _), (5, x_I _), (6, x_I _), (7, x_I _), (8, x_I _)]) ⟨rfl, rfl, rfl, rfl, rfl, rfl, rfl, rfl, rfl, trivial⟩ ?_
          refine x_aload rfl ?_
          refine x_iload rfl ?_
          refine x_push 0 rfl ?_
          refine x_cV (fun _ => rfl) rfl (by decide) (Nat.le_of_ble_eq_true rfl) ?_
          refine rf_3_0 y_rf_rf hP (by omega) (by omega) (fun v27 v27a v27b v27c => ?_)
          refine x_iload rfl ?_
          refine x_icmp_ne (by omega) (by omega) (by omega) (by omega) (fun z28 => ?_) (fun z28 => ?_)
          · skip
            refine x_iload rfl ?_
            refine x_if_ne (by omega) (by omega) (fun z => absurd z (by omega)) (fun z29 => ?_)
            refine x_blk (b := 16) (a_197 E) rfl ?_
            unfold b_197_16
            refine x_iload rfl ?_
            refine x_fall ?_
            refine x_blk (b := 17) (a_197 E) rfl ?_
            unfold b_197_17
            refine x_istore ?_
            refine x_iinc 1 rfl rfl ?_
            refine x_X_lo (lo' := [(0, x_R 138), (1, x_I _), (2, x_I _), (3, x_I _), (4, x_I _), (5, x_I _), (6, x_I _), (7, x_I _), (8, x_I _)]) ⟨rfl, rfl, rfl, rfl, rfl, rfl, rfl, rfl, rfl, trivial⟩ ?_
            refine x_goto ?_
            refine x_G_lo (lo' := [(0, x_R 138), (1, x_I _), (2, x_I _), (3, x_I _), (4, x_I _)]) ⟨rfl, rfl, rfl, rfl, rfl, trivial⟩ ?_
            exact ho _ _  (by omega) (by omega) (by omega) (by omega) (by omega)  
          · skip
            refine x_blk (b := 16) (a_197 E) rfl ?_
            unfold b_197_16
            refine x_iload rfl ?_
            refine x_fall ?_
            refine x_blk (b := 17) (a_197 E) rfl ?_
            unfold b_197_17
            refine x_istore ?_
            refine x_iinc 1 rfl rfl ?_
            refine x_X_lo (lo' := [(0, x_R 138), (1, x_I _), (2, x_I _), (3, x_I _), (4, x_I _), (5, x_I _), (6, x_I _), (7, x_I _), (8, x_I _)]) ⟨rfl, rfl, rfl, rfl, rfl, rfl, rfl, rfl, rfl, trivial⟩ ?_
            refine x_goto ?_
            refine x_G_lo (lo' := [(0, x_R 138), (1, x_I _), (2, x_I _), (3, x_I _), (4, x_I _)]) ⟨rfl, rfl, rfl, rfl, rfl, trivial⟩ ?_
            exact ho _ _  (by omega) (by omega) (by omega) (by omega) (by omega)  
        · skip
          refine x_iload rfl ?_
          refine x_if_le (by omega) (by omega) (fun z30 => ?_) (fun z30 => ?_)
          · skip
            refine x_blk (b := 14) (a_197 E) rfl ?_
            unfold b_197_14
            refine x_push 0 rfl ?_
            refine x_fall ?_
            refine x_blk (b := 12) (a_197 E) rfl ?_
            unfold b_197_12
            refine x_istore ?_
            refine x_X_lo (lo' := [(0, x_R 138), (1, x_I _), (2, x_I _), (3, x_I _), (4, x_I _), (5, x_I _), (6, x_I _), (7, x_I _), (8, x_I _)]) ⟨rfl, rfl, rfl, rfl, rfl, rfl, rfl, rfl, rfl, trivial⟩ ?_
            refine x_aload rfl ?_
            refine x_iload rfl ?_
            refine x_push 0 rfl ?_
            refine x_cV (fun _ => rfl) rfl (by decide) (Nat.le_of_ble_eq_true rfl) ?_
            refine rf_3_0 y_rf_rf hP (by omega) (by omega) (fun v31 v31a v31b v31c => ?_)
            refine x_iload rfl ?_
            refine x_icmp_ne (by omega) (by omega) (by omega) (by omega) (fun z32 => ?_) (fun z32 => ?_)
            · skip
              refine x_iload rfl ?_
              refine x_if_ne (by omega) (by omega) (fun z33 => ?_) (fun z => absurd (by omega) z)
              refine x_push 0 rfl ?_
              refine x_goto ?_
              refine x_blk (b := 17) (a_197 E) rfl ?_
              unfold b_197_17
              refine x_istore ?_
              refine x_iinc 1 rfl rfl ?_
              refine x_X_lo (lo' := [(0, x_R 138), (1, x_I _), (2, x_I _), (3, x_I _), (4, x_I _), (5, x_I _), (6, x_I _), (7, x_I _), (8, x_I _)]) ⟨rfl, rfl, rfl, rfl, rfl, rfl, rfl, rfl, rfl, trivial⟩ ?_
              refine x_goto ?_
              refine x_G_lo (lo' := [(0, x_R 138), (1, x_I _), (2, x_I _), (3, x_I _), (4, x_I _)]) ⟨rfl, rfl, rfl, rfl, rfl, trivial⟩ ?_
              exact ho _ _  (by omega) (by omega) (by omega) (by omega) (by omega)  
            · skip
              refine x_blk (b := 16) (a_197 E) rfl ?_
              unfold b_197_16
              refine x_iload rfl ?_
              refine x_fall ?_
              refine x_blk (b := 17) (a_197 E) rfl ?_
              unfold b_197_17
              refine x_istore ?_
              refine x_iinc 1 rfl rfl ?_
              refine x_X_lo (lo' := [(0, x_R 138), (1, x_I _), (2, x_I _), (3, x_I _), (4, x_I _), (5, x_I _), (6, x_I _), (7, x_I _), (8, x_I _)]) ⟨rfl, rfl, rfl, rfl, rfl, rfl, rfl, rfl, rfl, trivial⟩ ?_
              refine x_goto ?_
              refine x_G_lo (lo' := [(0, x_R 138), (1, x_I _), (2, x_I _), (3, x_I _), (4, x_I _)]) ⟨rfl, rfl, rfl, rfl, rfl, trivial⟩ ?_
              exact ho _ _  (by omega) (by omega) (by omega) (by omega) (by omega)  
          · skip
            refine x_fall ?_
            refine x_blk (b := 13) (a_197 E) rfl ?_
            unfold b_197_13
            refine x_iload rfl ?_
            refine x_push 2 rfl ?_
            refine x_icmp_lt (by omega) (by omega) (by omega) (by omega) (fun z34 => ?_) (fun z34 => ?_)
            · skip
              refine x_blk (b := 15) (a_197 E) rfl ?_
              unfold b_197_15
              refine x_push 1 rfl ?_
              refine x_goto ?_
              refine x_blk (b := 12) (a_197 E) rfl ?_
              unfold b_197_12
              refine x_istore ?_
              refine x_X_lo (lo' := [(0, x_R 138), (1, x_I _), (2, x_I _), (3, x_I _), (4, x_I _), (5, x_I _), (6, x_I _), (7, x_I _), (8, x_I _)]) ⟨rfl, rfl, rfl, rfl, rfl, rfl, rfl, rfl, rfl, trivial⟩ ?_
              refine x_aload rfl ?_
              refine x_iload rfl ?_
              refine x_push 0 rfl ?_
              refine x_cV (fun _ => rfl) rfl (by decide) (Nat.le_of_ble_eq_true rfl) ?_
              refine rf_3_0 y_rf_rf hP (by omega) (by omega) (fun v35 v35a v35b v35c => ?_)
              refine x_iload rfl ?_
              refine x_icmp_ne (by omega) (by omega) (by omega) (by omega) (fun z36 => ?_) (fun z36 => ?_)
              · skip
                refine x_iload rfl ?_
                refine x_if_ne (by omega) (by omega) (fun z => absurd z (by omega)) (fun z37 => ?_)
                refine x_blk (b := 16) (a_197 E) rfl ?_
                unfold b_197_16
                refine x_iload rfl ?_
                refine x_fall ?_
                refine x_blk (b := 17) (a_197 E) rfl ?_
                unfold b_197_17
                refine x_istore ?_
                refine x_iinc 1 rfl rfl ?_
                refine x_X_lo (lo' := [(0, x_R 138), (1, x_I _), (2, x_I _), (3, x_I _), (4, x_I _), (5, x_I _), (6, x_I _), (7, x_I _), (8, x_I _)]) ⟨rfl, rfl, rfl, rfl, rfl, rfl, rfl, rfl, rfl, trivial⟩ ?_
                refine x_goto ?_
                refine x_G_lo (lo' := [(0, x_R 138), (1, x_I _), (2, x_I _), (3, x_I _), (4, x_I _)]) ⟨rfl, rfl, rfl, rfl, rfl, trivial⟩ ?_
                exact ho _ _  (by omega) (by omega) (by omega) (by omega) (by omega)  
              · skip
                refine x_blk (b := 16) (a_197 E) rfl ?_
                unfold b_197_16
                refine x_iload rfl ?_
                refine x_fall ?_
                refine x_blk (b := 17) (a_197 E) rfl ?_
                unfold b_197_17
                refine x_istore ?_
                refine x_iinc 1 rfl rfl ?_
                refine x_X_lo (lo' := [(0, x_R 138), (1, x_I _), (2, x_I _), (3, x_I _), (4, x_I _), (5, x_I _), (6, x_I _), (7, x_I _), (8, x_I _)]) ⟨rfl, rfl, rfl, rfl, rfl, rfl, rfl, rfl, rfl, trivial⟩ ?_
                refine x_goto ?_
                refine x_G_lo (lo' := [(0, x_R 138), (1, x_I _), (2, x_I _), (3, x_I _), (4, x_I _)]) ⟨rfl, rfl, rfl, rfl, rfl, trivial⟩ ?_
                exact ho _ _  (by omega) (by omega) (by omega) (by omega) (by omega)  
            · skip
              refine x_iload rfl ?_
              refine x_if_le (by omega) (by omega) (fun z38 => ?_) (fun z38 => ?_)
              · skip
                refine x_blk (b := 14) (a_197 E) rfl ?_
                unfold b_197_14
                refine x_push 0 rfl ?_
                refine x_fall ?_
                refine x_blk (b := 12) (a_197 E) rfl ?_
                unfold b_197_12
                refine x_istore ?_
                refine x_X_lo (lo' := [(0, x_R 138), (1, x_I _), (2, x_I _), (3, x_I _), (4, x_I _), (5, x_I _), (6, x_I _), (7, x_I _), (8, x_I _)]) ⟨rfl, rfl, rfl, rfl, rfl, rfl, rfl, rfl, rfl, trivial⟩ ?_
                refine x_aload rfl ?_
                refine x_iload rfl ?_
                refine x_push 0 rfl ?_
                refine x_cV (fun _ => rfl) rfl (by decide) (Nat.le_of_ble_eq_true rfl) ?_
                refine rf_3_0 y_rf_rf hP (by omega) (by omega) (fun v39 v39a v39b v39c => ?_)
                refine x_iload rfl ?_
                refine x_icmp_ne (by omega) (by omega) (by omega) (by omega) (fun z40 => ?_) (fun z40 => ?_)
                · skip
                  refine x_iload rfl ?_
                  refine x_if_ne (by omega) (by omega) (fun z41 => ?_) (fun z => absurd (by omega) z)
                  refine x_push 0 rfl ?_
                  refine x_goto ?_
                  refine x_blk (b := 17) (a_197 E) rfl ?_
                  unfold b_197_17
                  refine x_istore ?_
                  refine x_iinc 1 rfl rfl ?_
                  refine x_X_lo (lo' := [(0, x_R 138), (1, x_I _), (2, x_I _), (3, x_I _), (4, x_I _), (5, x_I _), (6, x_I _), (7, x_I _), (8, x_I _)]) ⟨rfl, rfl, rfl, rfl, rfl, rfl, rfl, rfl, rfl, trivial⟩ ?_
                  refine x_goto ?_
                  refine x_G_lo (lo' := [(0, x_R 138), (1, x_I _), (2, x_I _), (3, x_I _), (4, x_I _)]) ⟨rfl, rfl, rfl, rfl, rfl, trivial⟩ ?_
                  exact ho _ _  (by omega) (by omega) (by omega) (by omega) (by omega)  
                · skip
                  refine x_blk (b := 16) (a_197 E) rfl ?_
                  unfold b_197_16
                  refine x_iload rfl ?_
                  refine x_fall ?_
                  refine x_blk (b := 17) (a_197 E) rfl ?_
                  unfold b_197_17
                  refine x_istore ?_
                  refine x_iinc 1 rfl rfl ?_
                  refine x_X_lo (lo' := [(0, x_R 138), (1, x_I _), (2, x_I _), (3, x_I _), (4, x_I _), (5, x_I _), (6, x_I _), (7, x_I _), (8, x_I _)]) ⟨rfl, rfl, rfl, rfl, rfl, rfl, rfl, rfl, rfl, trivial⟩ ?_
                  refine x_goto ?_
                  refine x_G_lo (lo' := [(0, x_R 138), (1, x_I _), (2, x_I _), (3, x_I _), (4, x_I _)]) ⟨rfl, rfl, rfl, rfl, rfl, trivial⟩ ?_
                  exact ho _ _  (by omega) (by omega) (by omega) (by omega) (by omega)  
              · skip
                refine x_fall ?_
                refine x_blk (b := 15) (a_197 E) rfl ?_
                unfold b_197_15
                refine x_push 1 rfl ?_
                refine x_goto ?_
                refine x_blk (b := 12) (a_197 E) rfl ?_
                unfold b_197_12
                refine x_istore ?_
                refine x_X_lo (lo' := [(0, x_R 138), (1, x_I _), (2, x_I _), (3, x_I _), (4, x_I _), (5, x_I _), (6, x_I _), (7, x_I _), (8, x_I _)]) ⟨rfl, rfl, rfl, rfl, rfl, rfl, rfl, rfl, rfl, trivial⟩ ?_
                refine x_aload rfl ?_
                refine x_iload rfl ?_
                refine x_push 0 rfl ?_
                refine x_cV (fun _ => rfl) rfl (by decide) (Nat.le_of_ble_eq_true rfl) ?_
                refine rf_3_0 y_rf_rf hP (by omega) (by omega) (fun v42 v42a v42b v42c => ?_)
                refine x_iload rfl ?_
                refine x_icmp_ne (by omega) (by omega) (by omega) (by omega) (fun z43 => ?_) (fun z43 => ?_)
                · skip
                  refine x_iload rfl ?_
                  refine x_if_ne (by omega) (by omega) (fun z => absurd z (by omega)) (fun z44 => ?_)
                  refine x_blk (b := 16) (a_197 E) rfl ?_
                  unfold b_197_16
                  refine x_iload rfl ?_
                  refine x_fall ?_
                  refine x_blk (b := 17) (a_197 E) rfl ?_
                  unfold b_197_17
                  refine x_istore ?_
                  refine x_iinc 1 rfl rfl ?_
                  refine x_X_lo (lo' := [(0, x_R 138), (1, x_I _), (2, x_I _), (3, x_I _), (4, x_I _), (5, x_I _), (6, x_I _), (7, x_I _), (8, x_I _)]) ⟨rfl, rfl, rfl, rfl, rfl, rfl, rfl, rfl, rfl, trivial⟩ ?_
                  refine x_goto ?_
                  refine x_G_lo (lo' := [(0, x_R 138), (1, x_I _), (2, x_I _), (3, x_I _), (4, x_I _)]) ⟨rfl, rfl, rfl, rfl, rfl, trivial⟩ ?_
                  exact ho _ _  (by omega) (by omega) (by omega) (by omega) (by omega)  
                · skip
                  refine x_blk (b := 16) (a_197 E) rfl ?_
                  unfold b_197_16
                  refine x_iload rfl ?_
                  refine x_fall ?_
                  refine x_blk (b := 17) (a_197 E) rfl ?_
                  unfold b_197_17
                  refine x_istore ?_
                  refine x_iinc 1 rfl rfl ?_
                  refine x_X_lo (lo' := [(0, x_R 138), (1, x_I _), (2, x_I _), (3, x_I _), (4, x_I _), (5, x_I _), (6, x_I _), (7, x_I _), (8, x_I _)]) ⟨rfl, rfl, rfl, rfl, rfl, rfl, rfl, rfl, rfl, trivial⟩ ?_
                  refine x_goto ?_
                  refine x_G_lo (lo' := [(0, x_R 138), (1, x_I _), (2, x_I _), (3, x_I _), (4, x_I _)]) ⟨rfl, rfl, rfl, rfl, rfl, trivial⟩ ?_
                  exact ho _ _  (by omega) (by omega) (by omega) (by omega) (by omega)  
set_option maxHeartbeats 8000000 in
theorem rs_197_b18 {E : q_E} {σ : x_S} {Q : Option q_V → x_S → Prop} {a1 a2 : Int} (a1l : (-2147483648) ≤ a1) (a1h : a1 ≤ 2147483647) (a2l : (-2147483648) ≤ a2) (a2h : a2 ≤ 2147483647) (hR : y_RI σ) (k : y_KQ Q σ) : ∀ (N : Nat) (s r : Int), (16 - r).toNat = N → 0 ≤ s → s ≤ 1 → 0 ≤ r → r ≤ 16 → x_G E m_197 Q (t_197 18) [(0, x_R 138), (1, x_I a1), (2, x_I a2), (3, x_I s), (4, x_I r)] [] σ := by
  obtain ⟨rl, hP, ru5, rb, rk, rc⟩ := id hR
  have ru := hP.2.2.2.1
  have kd := hP.1
  intro N
  induction N using Nat.strongRecOn with
  | ind N ih =>
    intro s r hN sL sH rL rH
    refine x_blk (b := 18) (a_197 E) rfl ?_
    unfold b_197_18
    refine x_iload rfl ?_
    refine x_aload rfl ?_
    refine x_getR (r := 138) rfl (by decide) (by decide) rfl ?_
    refine x_push 62 rfl ?_
    refine x_iald140 y_rf_rf (by omega) (by omega) ?_
    intro g1a g1b
    simp only [show (62 : Int).toNat = 62 from rfl] at g1a g1b ⊢
    refine x_icmp_ge (by omega) (by omega) (by omega) (by omega) (fun z2 => ?_) (fun z2 => ?_)
    · skip
      refine x_push 0 rfl ?_
      refine x_istore ?_
      refine x_push 0 rfl ?_
      refine x_istore ?_
      refine x_X_lo (lo' := [(0, x_R 138), (1, x_I _), (2, x_I _), (3, x_I _), (4, x_I _), (5, x_I _), (6, x_I _)]) ⟨rfl, rfl, rfl, rfl, rfl, rfl, rfl, trivial⟩ ?_
      refine x_push 0 rfl ?_
      refine x_istore ?_
      refine x_fall ?_
      refine x_G_lo (lo' := [(0, x_R 138), (1, x_I _), (2, x_I _), (3, x_I _), (4, x_I _), (5, x_I _), (6, x_I _), (7, x_I _)]) ⟨rfl, rfl, rfl, rfl, rfl, rfl, rfl, rfl, trivial⟩ ?_
      exact rs_197_b9 a1l a1h a2l a2h hR k (by omega) (by omega) (by omega) (by omega) (by omega) (fun x0 x1  z h0 h1 h2 h3  => ih _ (by omega) x0 x1  rfl h0 h1 h2 h3 ) _ _ _ _  rfl (by omega) (by omega) (by omega) (by omega) (by omega) (by omega) (by omega) (by omega) 
    · skip
      refine x_blk (b := 3) (a_197 E) rfl ?_
      unfold b_197_3
      refine x_iload rfl ?_
      refine x_iret ?_
      exact k _ _ y_rf_rf (by omega) (by omega)
theorem rs_197 {E : q_E} {σ : x_S} {Q : Option q_V → x_S → Prop} {a1 a2 : Int} (a1l : (-2147483648) ≤ a1) (a1h : a1 ≤ 2147483647) (a2l : (-2147483648) ≤ a2) (a2h : a2 ≤ 2147483647) (hR : y_RI σ) (k : y_KQ Q σ) : x_P E 197 [x_R 138, x_I a1, x_I a2] σ Q := by
  obtain ⟨rl, hP, ru5, rb, rk, rc⟩ := id hR
  have ru := hP.2.2.2.1
  have kd := hP.1
  refine x_Mt e_197 (h_197 E) (Nat.le_of_ble_eq_true rfl) t_197 rfl ?_
  refine x_blk (b := 0) (a_197 E) rfl ?_
  unfold b_197_0
  refine x_iload rfl ?_
  refine x_cS (fun _ => rfl) (Nat.le_of_ble_eq_true rfl) ?_
  refine c_64 (by omega) (by omega) (fun y1 => ?_) (fun y1 => ?_)
  · skip
    refine x_if_eq (by omega) (by omega) (fun z => absurd z (by omega)) (fun z2 => ?_)
    refine x_iload rfl ?_
    refine x_i2l (by omega) (by omega) ?_
    refine x_pushL 0 rfl ?_
    refine x_pushL 1 rfl ?_
    refine x_cS (fun _ => rfl) (Nat.le_of_ble_eq_true rfl) ?_
    refine c_45 (by omega) (by omega) (by omega) (by omega) (by omega) (by omega) (fun y3 => ?_) (fun y3 => ?_)
    · skip
      refine x_if_ne (by omega) (by omega) (fun z => absurd z (by omega)) (fun z4 => ?_)
      refine x_blk (b := 2) (a_197 E) rfl ?_
      unfold b_197_2
      refine x_push 1 rfl ?_
      refine x_istore ?_
      refine x_push 0 rfl ?_
      refine x_istore ?_
      refine x_X_lo (lo' := [(0, x_R 138), (1, x_I _), (2, x_I _), (3, x_I _), (4, x_I _)]) ⟨rfl, rfl, rfl, rfl, rfl, trivial⟩ ?_
      refine x_fall ?_
      refine x_G_lo (lo' := [(0, x_R 138), (1, x_I _), (2, x_I _), (3, x_I _), (4, x_I _)]) ⟨rfl, rfl, rfl, rfl, rfl, trivial⟩ ?_
      exact rs_197_b18 a1l a1h a2l a2h hR k  _ _ _  rfl (by omega) (by omega) (by omega) (by omega)  
    · skip
      refine x_if_ne (by omega) (by omega) (fun z5 => ?_) (fun z => absurd (by omega) z)
      refine x_fall ?_
      refine x_blk (b := 1) (a_197 E) rfl ?_
      unfold b_197_1
      refine x_push (-1) rfl ?_
      refine x_iret ?_
      exact k _ _ y_rf_rf (by omega) (by omega)
  · skip
    refine x_if_eq (by omega) (by omega) (fun z6 => ?_) (fun z => absurd (by omega) z)
    refine x_blk (b := 1) (a_197 E) rfl ?_
    unfold b_197_1
    refine x_push (-1) rfl ?_
    refine x_iret ?_
    exact k _ _ y_rf_rf (by omega) (by omega)
