theorem rs_18_b8 {E : q_E} {σ : x_S} {Q : Option q_V → x_S → Prop} {a1 a2 a3 a4 : Int} (a1l : 0 ≤ a1) (a1h : a1 ≤ 1) (a2l : (-2147483648) ≤ a2) (a2h : a2 ≤ 2147483647) (a3l : (-2147483648) ≤ a3) (a3h : a3 ≤ 2147483647) (a4l : (-2147483648) ≤ a4) (a4h : a4 ≤ 2147483647) (hP : y_PI (σ 140)) (k : ∀ v, (-4) ≤ v → v ≤ 15 → (v = -4 ∨ (0 ≤ v ∧ v < σ 140 62 ∧ σ 140 (63 + 12 * v.toNat + 2) = a3)) → Q (some (x_I v)) σ) : ∀ (N : Nat) (w r : Int), (r + 1).toNat = N → (-4) ≤ w → w ≤ 15 → (-1) ≤ r → r ≤ 15 → r < σ 140 62 → (w = -4 ∨ (0 ≤ w ∧ w < σ 140 62 ∧ σ 140 (63 + 12 * w.toNat + 2) = a3)) → x_G E m_18 Q (t_18 8) [(0, x_R 138), (1, x_I a1), (2, x_I a2), (3, x_I a3), (4, x_I a4), (5, x_I w), (6, x_I r)] [] σ := by
  have ru := hP.2.2.2.1
  have kd := hP.1
  intro N
  induction N using Nat.strongRecOn with
  | ind N ih =>
    intro w r hN wL wH rL rH ex0 ex1
    refine x_blk (b := 8) (a_18 E) rfl ?_
    unfold b_18_8
    refine x_iload rfl ?_
    refine x_if_lt (by omega) (by omega) (fun z1 => ?_) (fun z1 => ?_)
    · skip
      refine x_blk (b := 1) (a_18 E) rfl ?_
      unfold b_18_1
      refine x_iload rfl ?_
      refine x_iret ?_
      exact k _ (by omega) (by omega) (by omega)
    · skip
      refine x_aload rfl ?_
      refine x_iload rfl ?_
      refine x_push 0 rfl ?_
      refine x_cV (fun _ => rfl) rfl (by decide) (Nat.le_of_ble_eq_true rfl) ?_
      refine rf_3_0 y_rf_rf hP (by omega) (by omega) (fun v2 v2a v2b v2c => ?_)
      refine x_iload rfl ?_
      refine x_icmp_ne (by omega) (by omega) (by omega) (by omega) (fun z3 => ?_) (fun z3 => ?_)
      · skip
        refine x_aload rfl ?_
        refine x_iload rfl ?_
        refine x_push 1 rfl ?_
        refine x_cV (fun _ => rfl) rfl (by decide) (Nat.le_of_ble_eq_true rfl) ?_
        refine rf_3_1 y_rf_rf hP (by omega) (by omega) (fun v4 v4a v4b v4c => ?_)
        refine x_iload rfl ?_
        refine x_icmp_ne (by omega) (by omega) (by omega) (by omega) (fun z5 => ?_) (fun z5 => ?_)
        · skip
          refine x_aload rfl ?_
          refine x_iload rfl ?_
          refine x_push 2 rfl ?_
          refine x_cV (fun _ => rfl) rfl (by decide) (Nat.le_of_ble_eq_true rfl) ?_
          refine rf_3_2 y_rf_rf hP (by omega) (by omega) (fun v6 v6a v6b v6c => ?_)
          refine x_iload rfl ?_
          refine x_icmp_ne (by omega) (by omega) (by omega) (by omega) (fun z7 => ?_) (fun z7 => ?_)
          · skip
            refine x_aload rfl ?_
            refine x_iload rfl ?_
            refine x_push 3 rfl ?_
            refine x_cV (fun _ => rfl) rfl (by decide) (Nat.le_of_ble_eq_true rfl) ?_
            refine rf_3_3 y_rf_rf hP (by omega) (by omega) (fun v8 v8a v8b v8c => ?_)
            refine x_push 2 rfl ?_
            refine x_icmp_eq (by omega) (by omega) (by omega) (by omega) (fun z9 => ?_) (fun z9 => ?_)
            · skip
              refine x_blk (b := 3) (a_18 E) rfl ?_
              unfold b_18_3
              refine x_push 1 rfl ?_
              refine x_goto ?_
              refine x_blk (b := 4) (a_18 E) rfl ?_
              unfold b_18_4
              refine x_istore ?_
              refine x_iload rfl ?_
              refine x_if_eq (by omega) (by omega) (fun z => absurd z (by omega)) (fun z10 => ?_)
              refine x_iload rfl ?_
              refine x_push (-4) rfl ?_
              refine x_icmp_eq (by omega) (by omega) (by omega) (by omega) (fun z11 => ?_) (fun z11 => ?_)
              · skip
                refine x_blk (b := 6) (a_18 E) rfl ?_
                unfold b_18_6
                refine x_iload rfl ?_
                refine x_goto ?_
                refine x_blk (b := 7) (a_18 E) rfl ?_
                unfold b_18_7
                refine x_istore ?_
                refine x_X_lo (lo' := [(0, x_R 138), (1, x_I _), (2, x_I _), (3, x_I _), (4, x_I _), (5, x_I _), (6, x_I _), (7, x_I _)]) ⟨rfl, rfl, rfl, rfl, rfl, rfl, rfl, rfl, trivial⟩ ?_
                refine x_iinc (-1) rfl rfl ?_
                refine x_goto ?_
                refine x_G_lo (lo' := [(0, x_R 138), (1, x_I _), (2, x_I _), (3, x_I _), (4, x_I _), (5, x_I _), (6, x_I _)]) ⟨rfl, rfl, rfl, rfl, rfl, rfl, rfl, trivial⟩ ?_
                exact ih _ (by omega) _ _  rfl (by omega) (by omega) (by omega) (by omega) (by omega) (by omega) 
              · skip
                refine x_aload rfl ?_
                refine x_getR (r := 138) rfl (by decide) (by decide) rfl ?_
                refine x_iload rfl ?_
                refine x_iald140 y_rf_rf (by omega) (by omega) ?_
                intro g12a g12b
                have kd12 := y_kdp hP (p := a1) (by omega) (by omega)
                refine x_push 2 rfl ?_
                refine x_irem (by omega) (by omega) (by omega) (by omega) ?_
                refine x_if_ne (by omega) (by omega) (fun z13 => ?_) (fun z13 => ?_)
                · skip
                  refine x_fall ?_
                  refine x_blk (b := 6) (a_18 E) rfl ?_
                  unfold b_18_6
                  refine x_iload rfl ?_
                  refine x_goto ?_
                  refine x_blk (b := 7) (a_18 E) rfl ?_
                  unfold b_18_7
                  refine x_istore ?_
                  refine x_X_lo (lo' := [(0, x_R 138), (1, x_I _), (2, x_I _), (3, x_I _), (4, x_I _), (5, x_I _), (6, x_I _), (7, x_I _)]) ⟨rfl, rfl, rfl, rfl, rfl, rfl, rfl, rfl, trivial⟩ ?_
                  refine x_iinc (-1) rfl rfl ?_
                  refine x_goto ?_
                  refine x_G_lo (lo' := [(0, x_R 138), (1, x_I _), (2, x_I _), (3, x_I _), (4, x_I _), (5, x_I _), (6, x_I _)]) ⟨rfl, rfl, rfl, rfl, rfl, rfl, rfl, trivial⟩ ?_
                  exact ih _ (by omega) _ _  rfl (by omega) (by omega) (by omega) (by omega) (by omega) (by omega) 
                · skip
                  refine x_blk (b := 5) (a_18 E) rfl ?_
                  unfold b_18_5
                  refine x_iload rfl ?_
                  refine x_fall ?_
                  refine x_blk (b := 7) (a_18 E) rfl ?_
                  unfold b_18_7
                  refine x_istore ?_
                  refine x_X_lo (lo' := [(0, x_R 138), (1, x_I _), (2, x_I _), (3, x_I _), (4, x_I _), (5, x_I _), (6, x_I _), (7, x_I _)]) ⟨rfl, rfl, rfl, rfl, rfl, rfl, rfl, rfl, trivial⟩ ?_
                  refine x_iinc (-1) rfl rfl ?_
                  refine x_goto ?_
                  refine x_G_lo (lo' := [(0, x_R 138), (1, x_I _), (2, x_I _), (3, x_I _), (4, x_I _), (5, x_I _), (6, x_I _)]) ⟨rfl, rfl, rfl, rfl, rfl, rfl, rfl, trivial⟩ ?_
                  exact ih _ (by omega) _ _  rfl (by omega) (by omega) (by omega) (by omega) (by omega) (by omega) 
            · skip
              refine x_aload rfl ?_
              refine x_iload rfl ?_
              refine x_push 3 rfl ?_
              refine x_cV (fun _ => rfl) rfl (by decide) (Nat.le_of_ble_eq_true rfl) ?_
              refine rf_3_3 y_rf_rf hP (by omega) (by omega) (fun v14 v14a v14b v14c => ?_)
              refine x_iload rfl ?_
              refine x_icmp_ne (by omega) (by omega) (by omega) (by omega) (fun z15 => ?_) (fun z15 => ?_)
              · skip
                refine x_fall ?_
                refine x_blk (b := 3) (a_18 E) rfl ?_
                unfold b_18_3
                refine x_push 1 rfl ?_
                refine x_goto ?_
                refine x_blk (b := 4) (a_18 E) rfl ?_
                unfold b_18_4
                refine x_istore ?_
                refine x_iload rfl ?_
                refine x_if_eq (by omega) (by omega) (fun z => absurd z (by omega)) (fun z16 => ?_)
                refine x_iload rfl ?_
                refine x_push (-4) rfl ?_
                refine x_icmp_eq (by omega) (by omega) (by omega) (by omega) (fun z17 => ?_) (fun z17 => ?_)
                · skip
                  refine x_blk (b := 6) (a_18 E) rfl ?_
                  unfold b_18_6
                  refine x_iload rfl ?_
                  refine x_goto ?_
                  refine x_blk (b := 7) (a_18 E) rfl ?_
                  unfold b_18_7
                  refine x_istore ?_
                  refine x_X_lo (lo' := [(0, x_R 138), (1, x_I _), (2, x_I _), (3, x_I _), (4, x_I _), (5, x_I _), (6, x_I _), (7, x_I _)]) ⟨rfl, rfl, rfl, rfl, rfl, rfl, rfl, rfl, trivial⟩ ?_
                  refine x_iinc (-1) rfl rfl ?_
                  refine x_goto ?_
                  refine x_G_lo (lo' := [(0, x_R 138), (1, x_I _), (2, x_I _), (3, x_I _), (4, x_I _), (5, x_I _), (6, x_I _)]) ⟨rfl, rfl, rfl, rfl, rfl, rfl, rfl, trivial⟩ ?_
                  exact ih _ (by omega) _ _  rfl (by omega) (by omega) (by omega) (by omega) (by omega) (by omega) 
                · skip
                  refine x_aload rfl ?_
                  refine x_getR (r := 138) rfl (by decide) (by decide) rfl ?_
                  refine x_iload rfl ?_
                  refine x_iald140 y_rf_rf (by omega) (by omega) ?_
                  intro g18a g18b
                  have kd18 := y_kdp hP (p := a1) (by omega) (by omega)
                  refine x_push 2 rfl ?_
                  refine x_irem (by omega) (by omega) (by omega) (by omega) ?_
                  refine x_if_ne (by omega) (by omega) (fun z19 => ?_) (fun z19 => ?_)
                  · skip
                    refine x_fall ?_
                    refine x_blk (b := 6) (a_18 E) rfl ?_
                    unfold b_18_6
                    refine x_iload rfl ?_
                    refine x_goto ?_
                    refine x_blk (b := 7) (a_18 E) rfl ?_
                    unfold b_18_7
                    refine x_istore ?_
                    refine x_X_lo (lo' := [(0, x_R 138), (1, x_I _), (2, x_I _), (3, x_I _), (4, x_I _), (5, x_I _), (6, x_I _), (7, x_I _)]) ⟨rfl, rfl, rfl, rfl, rfl, rfl, rfl, rfl, trivial⟩ ?_
                    refine x_iinc (-1) rfl rfl ?_
                    refine x_goto ?_
                    refine x_G_lo (lo' := [(0, x_R 138), (1, x_I _), (2, x_I _), (3, x_I _), (4, x_I _), (5, x_I _), (6, x_I _)]) ⟨rfl, rfl, rfl, rfl, rfl, rfl, rfl, trivial⟩ ?_
                    exact ih _ (by omega) _ _  rfl (by omega) (by omega) (by omega) (by omega) (by omega) (by omega) 
                  · skip
                    refine x_blk (b := 5) (a_18 E) rfl ?_
                    unfold b_18_5
                    refine x_iload rfl ?_
                    refine x_fall ?_
                    refine x_blk (b := 7) (a_18 E) rfl ?_
                    unfold b_18_7
                    refine x_istore ?_
                    refine x_X_lo (lo' := [(0, x_R 138), (1, x_I _), (2, x_I _), (3, x_I _), (4, x_I _), (5, x_I _), (6, x_I _), (7, x_I _)]) ⟨rfl, rfl, rfl, rfl, rfl, rfl, rfl, rfl, trivial⟩ ?_
                    refine x_iinc (-1) rfl rfl ?_
                    refine x_goto ?_
                    refine x_G_lo (lo' := [(0, x_R 138), (1, x_I _), (2, x_I _), (3, x_I _), (4, x_I _), (5, x_I _), (6, x_I _)]) ⟨rfl, rfl, rfl, rfl, rfl, rfl, rfl, trivial⟩ ?_
                    exact ih _ (by omega) _ _  rfl (by omega) (by omega) (by omega) (by omega) (by omega) (by omega) 
              · skip
                refine x_blk (b := 2) (a_18 E) rfl ?_
                unfold b_18_2
                refine x_push 0 rfl ?_
                refine x_fall ?_
                refine x_blk (b := 4) (a_18 E) rfl ?_
                unfold b_18_4
                refine x_istore ?_
                refine x_iload rfl ?_
                refine x_if_eq (by omega) (by omega) (fun z20 => ?_) (fun z => absurd (by omega) z)
                refine x_blk (b := 5) (a_18 E) rfl ?_
                unfold b_18_5
                refine x_iload rfl ?_
                refine x_fall ?_
                refine x_blk (b := 7) (a_18 E) rfl ?_
                unfold b_18_7
                refine x_istore ?_
                refine x_X_lo (lo' := [(0, x_R 138), (1, x_I _), (2, x_I _), (3, x_I _), (4, x_I _), (5, x_I _), (6, x_I _), (7, x_I _)]) ⟨rfl, rfl, rfl, rfl, rfl, rfl, rfl, rfl, trivial⟩ ?_
                refine x_iinc (-1) rfl rfl ?_
                refine x_goto ?_
                refine x_G_lo (lo' := [(0, x_R 138), (1, x_I _), (2, x_I _), (3, x_I _), (4, x_I _), (5, x_I _), (6, x_I _)]) ⟨rfl, rfl, rfl, rfl, rfl, rfl, rfl, trivial⟩ ?_
                exact ih _ (by omega) _ _  rfl (by omega) (by omega) (by omega) (by omega) (by omega) (by omega) 
          · skip
            refine x_blk (b := 2) (a_18 E) rfl ?_
            unfold b_18_2
            refine x_push 0 rfl ?_
            refine x_fall ?_
            refine x_blk (b := 4) (a_18 E) rfl ?_
            unfold b_18_4
            refine x_istore ?_
            refine x_iload rfl ?_
            refine x_if_eq (by omega) (by omega) (fun z21 => ?_) (fun z => absurd (by omega) z)
            refine x_blk (b := 5) (a_18 E) rfl ?_
            unfold b_18_5
            refine x_iload rfl ?_
            refine x_fall ?_
            refine x_blk (b := 7) (a_18 E) rfl ?_
            unfold b_18_7
            refine x_istore ?_
            refine x_X_lo (lo' := [(0, x_R 138), (1, x_I _), (2, x_I _), (3, x_I _), (4, x_I _), (5, x_I _), (6, x_I _), (7, x_I _)]) ⟨rfl, rfl, rfl, rfl, rfl, rfl, rfl, rfl, trivial⟩ ?_
            refine x_iinc (-1) rfl rfl ?_
            refine x_goto ?_
            refine x_G_lo (lo' := [(0, x_R 138), (1, x_I _), (2, x_I _), (3, x_I _), (4, x_I _), (5, x_I _), (6, x_I _)]) ⟨rfl, rfl, rfl, rfl, rfl, rfl, rfl, trivial⟩ ?_
            exact ih _ (by omega) _ _  rfl (by omega) (by omega) (by omega) (by omega) (by omega) (by omega) 
        · skip
          refine x_blk (b := 2) (a_18 E) rfl ?_
          unfold b_18_2
          refine x_push 0 rfl ?_
          refine x_fall ?_
          refine x_blk (b := 4) (a_18 E) rfl ?_
          unfold b_18_4
          refine x_istore ?_
          refine x_iload rfl ?_
          refine x_if_eq (by omega) (by omega) (fun z22 => ?_) (fun z => absurd (by omega) z)
          refine x_blk (b := 5) (a_18 E) rfl ?_
          unfold b_18_5
          refine x_iload rfl ?_
          refine x_fall ?_
          refine x_blk (b := 7) (a_18 E) rfl ?_
          unfold b_18_7
          refine x_istore ?_
          refine x_X_lo (lo' := [(0, x_R 138), (1, x_I _), (2, x_I _), (3, x_I _), (4, x_I _), (5, x_I _), (6, x_I _), (7, x_I _)]) ⟨rfl, rfl, rfl, rfl, rfl, rfl, rfl, rfl, trivial⟩ ?_
          refine x_iinc (-1) rfl rfl ?_
          refine x_goto ?_
          refine x_G_lo (lo' := [(0, x_R 138), (1, x_I _), (2, x_I _), (3, x_I _), (4, x_I _), (5, x_I _), (6, x_I _)]) ⟨rfl, rfl, rfl, rfl, rfl, rfl, rfl, trivial⟩ ?_
          exact ih _ (by omega) _ _  rfl (by omega) (by omega) (by omega) (by omega) (by omega) (by omega) 
      · skip
        refine x_blk (b := 2) (a_18 E) rfl ?_
        unfold b_18_2
        refine x_push 0 rfl ?_
        refine x_fall ?_
        refine x_blk (b := 4) (a_18 E) rfl ?_
        unfold b_18_4
        refine x_istore ?_
        refine x_iload rfl ?_
        refine x_if_eq (by omega) (by omega) (fun z23 => ?_) (fun z => absurd (by omega) z)
        refine x_blk (b := 5) (a_18 E) rfl ?_
        unfold b_18_5
        refine x_iload rfl ?_
        refine x_fall ?_
        refine x_blk (b := 7) (a_18 E) rfl ?_
        unfold b_18_7
        refine x_istore ?_
        refine x_X_lo (lo' := [(0, x_R 138), (1, x_I _), (2, x_I _), (3, x_I _), (4, x_I _), (5, x_I _), (6, x_I _), (7, x_I _)]) ⟨rfl, rfl, rfl, rfl, rfl, rfl, rfl, rfl, trivial⟩ ?_
        refine x_iinc (-1) rfl rfl ?_
        refine x_goto ?_
        refine x_G_lo (lo' := [(0, x_R 138), (1, x_I _), (2, x_I _), (3, x_I _), (4, x_I _), (5, x_I _), (6, x_I _)]) ⟨rfl, rfl, rfl, rfl, rfl, rfl, rfl, trivial⟩ ?_
        exact ih _ (by omega) _ _  rfl (by omega) (by omega) (by omega) (by omega) (by omega) (by omega) 
theorem rs_18 {E : q_E} {σ : x_S} {Q : Option q_V → x_S → Prop} {a1 a2 a3 a4 : Int} (a1l : 0 ≤ a1) (a1h : a1 ≤ 1) (a2l : (-2147483648) ≤ a2) (a2h : a2 ≤ 2147483647) (a3l : (-2147483648) ≤ a3) (a3h : a3 ≤ 2147483647) (a4l : (-2147483648) ≤ a4) (a4h : a4 ≤ 2147483647) (hP : y_PI (σ 140)) (k : ∀ v, (-4) ≤ v → v ≤ 15 → (v = -4 ∨ (0 ≤ v ∧ v < σ 140 62 ∧ σ 140 (63 + 12 * v.toNat + 2) = a3)) → Q (some (x_I v)) σ) : x_P E 18 [x_R 138, x_I a1, x_I a2, x_I a3, x_I a4] σ Q := by
  have ru := hP.2.2.2.1
  have kd := hP.1
  refine x_Mt e_18 (h_18 E) (Nat.le_of_ble_eq_true rfl) t_18 rfl ?_
  refine x_blk (b := 0) (a_18 E) rfl ?_
  unfold b_18_0
  refine x_push (-4) rfl ?_
  refine x_istore ?_
  refine x_aload rfl ?_
  refine x_getR (r := 138) rfl (by decide) (by decide) rfl ?_
  refine x_push 62 rfl ?_
  refine x_iald140 y_rf_rf (by omega) (by omega) ?_
  intro g1a g1b
  simp only [show (62 : Int).toNat = 62 from rfl] at g1a g1b ⊢
  refine x_push 1 rfl ?_
  refine x_isub ?_
  refine x_istore ?_
  refine x_X_lo (lo' := [(0, x_R 138), (1, x_I _), (2, x_I _), (3, x_I _), (4, x_I _), (5, x_I _), (6, x_I _)]) ⟨rfl, rfl, rfl, rfl, rfl, rfl, rfl, trivial⟩ ?_
  refine x_fall ?_
  refine x_G_lo (lo' := [(0, x_R 138), (1, x_I _), (2, x_I _), (3, x_I _), (4, x_I _), (5, x_I _), (6, x_I _)]) ⟨rfl, rfl, rfl, rfl, rfl, rfl, rfl, trivial⟩ ?_
  exact rs_18_b8 a1l a1h a2l a2h a3l a3h a4l a4h hP k  _ _ _  rfl (by omega) (by omega) (by omega) (by omega) (by omega) (by omega) 
theorem rs_32 {E : q_E} {σ : x_S} {Q : Option q_V → x_S → Prop} {a1 a2 a3 : Int} (a1l : 0 ≤ a1) (a1h : a1 ≤ 1) (a2l : 0 ≤ a2) (a2h : a2 ≤ 4) (a3l : 10 ≤ a3) (a3h : a3 ≤ 15) (hP : y_PI (σ 140)) (k1 : (a3 % 2 = 1 ∨ 2 < a2) → Q (some (x_I 1)) σ) (k0 : 0 ≤ (0 : Int) → Q (some (x_I 0)) σ) : x_P E 32 [x_R 138, x_I a1, x_I a2, x_I a3] σ Q := by
  have ru := hP.2.2.2.1
  have kd := hP.1
  refine x_Mt e_32 (h_32 E) (Nat.le_of_ble_eq_true rfl) t_32 rfl ?_
  refine x_blk (b := 0) (a_32 E) rfl ?_
  unfold b_32_0
  refine x_iload rfl ?_
  refine x_push 2 rfl ?_
  refine x_irem (by omega) (by omega) (by omega) (by omega) ?_
  refine x_push 1 rfl ?_
  refine x_icmp_ne (by omega) (by omega) (by omega) (by omega) (fun z1 => ?_) (fun z1 => ?_)
  · skip
    refine x_push 1 rfl ?_
    refine x_goto ?_
    refine x_blk (b := 2) (a_32 E) rfl ?_
    unfold b_32_2
    refine x_aload rfl ?_
    refine x_getR (r := 138) rfl (by decide) (by decide) rfl ?_
    refine x_iload rfl ?_
    refine x_iald140 y_rf_rf (by omega) (by omega) ?_
    intro g2a g2b
    have kd2 := y_kdp hP (p := a1) (by omega) (by omega)
    refine x_push 1 rfl ?_
    refine x_icmp_le (by omega) (by omega) (by omega) (by omega) (fun z3 => ?_) (fun z3 => ?_)
    · skip
      refine x_blk (b := 3) (a_32 E) rfl ?_
      unfold b_32_3
      refine x_push 0 rfl ?_
      refine x_fall ?_
      refine x_blk (b := 4) (a_32 E) rfl ?_
      unfold b_32_4
      refine x_icmp_eq (by omega) (by omega) (by omega) (by omega) (fun z => absurd z (by omega)) (fun z4 => ?_)
      refine x_push 1 rfl ?_
      refine x_goto ?_
      refine x_blk (b := 6) (a_32 E) rfl ?_
      unfold b_32_6
      refine x_zret (by decide) ?_
      exact k1 (by omega)
    · skip
      refine x_iload rfl ?_
      refine x_cS (fun _ => rfl) (Nat.le_of_ble_eq_true rfl) ?_
      refine rs_0 (by omega) (by omega) (fun v5 v5a v5b v5c => ?_)
      refine x_push 2 rfl ?_
      refine x_icmp_ne (by omega) (by omega) (by omega) (by omega) (fun z6 => ?_) (fun z6 => ?_)
      · skip
        refine x_push 1 rfl ?_
        refine x_goto ?_
        refine x_blk (b := 4) (a_32 E) rfl ?_
        unfold b_32_4
        refine x_icmp_eq (by omega) (by omega) (by omega) (by omega) (fun z7 => ?_) (fun z => absurd (by omega) z)
        refine x_blk (b := 5) (a_32 E) rfl ?_
        unfold b_32_5
        refine x_push 0 rfl ?_
        refine x_fall ?_
        refine x_blk (b := 6) (a_32 E) rfl ?_
        unfold b_32_6
        refine x_zret (by decide) ?_
        exact k0 (by omega)
      · skip
        refine x_blk (b := 3) (a_32 E) rfl ?_
        unfold b_32_3
        refine x_push 0 rfl ?_
        refine x_fall ?_
        refine x_blk (b := 4) (a_32 E) rfl ?_
        unfold b_32_4
        refine x_icmp_eq (by omega) (by omega) (by omega) (by omega) (fun z => absurd z (by omega)) (fun z8 => ?_)
        refine x_push 1 rfl ?_
        refine x_goto ?_
        refine x_blk (b := 6) (a_32 E) rfl ?_
        unfold b_32_6
        refine x_zret (by decide) ?_
        exact k1 (by omega)
  · skip
    refine x_blk (b := 1) (a_32 E) rfl ?_
    unfold b_32_1
    refine x_push 0 rfl ?_
    refine x_fall ?_
    refine x_blk (b := 2) (a_32 E) rfl ?_
    unfold b_32_2
    refine x_aload rfl ?_
    refine x_getR (r := 138) rfl (by decide) (by decide) rfl ?_
    refine x_iload rfl ?_
    refine x_iald140 y_rf_rf (by omega) (by omega) ?_
    intro g9a g9b
    have kd9 := y_kdp hP (p := a1) (by omega) (by omega)
    refine x_push 1 rfl ?_
    refine x_icmp_le (by omega) (by omega) (by omega) (by omega) (fun z10 => ?_) (fun z10 => ?_)
    · skip
      refine x_blk (b := 3) (a_32 E) rfl ?_
      unfold b_32_3
      refine x_push 0 rfl ?_
      refine x_fall ?_
      refine x_blk (b := 4) (a_32 E) rfl ?_
      unfold b_32_4
      refine x_icmp_eq (by omega) (by omega) (by omega) (by omega) (fun z11 => ?_) (fun z => absurd (by omega) z)
      refine x_blk (b := 5) (a_32 E) rfl ?_
      unfold b_32_5
      refine x_push 0 rfl ?_
      refine x_fall ?_
      refine x_blk (b := 6) (a_32 E) rfl ?_
      unfold b_32_6
      refine x_zret (by decide) ?_
      exact k0 (by omega)
    · skip
      refine x_iload rfl ?_
      refine x_cS (fun _ => rfl) (Nat.le_of_ble_eq_true rfl) ?_
      refine rs_0 (by omega) (by omega) (fun v12 v12a v12b v12c => ?_)
      refine x_push 2 rfl ?_
      refine x_icmp_ne (by omega) (by omega) (by omega) (by omega) (fun z13 => ?_) (fun z13 => ?_)
      · skip
        refine x_push 1 rfl ?_
        refine x_goto ?_
        refine x_blk (b := 4) (a_32 E) rfl ?_
        unfold b_32_4
        refine x_icmp_eq (by omega) (by omega) (by omega) (by omega) (fun z => absurd z (by omega)) (fun z14 => ?_)
        refine x_push 1 rfl ?_
        refine x_goto ?_
        refine x_blk (b := 6) (a_32 E) rfl ?_
        unfold b_32_6
        refine x_zret (by decide) ?_
        exact k1 (by omega)
      · skip
        refine x_blk (b := 3) (a_32 E) rfl ?_
        unfold b_32_3
        refine x_push 0 rfl ?_
        refine x_fall ?_
        refine x_blk (b := 4) (a_32 E) rfl ?_
        unfold b_32_4
        refine x_icmp_eq (by omega) (by omega) (by omega) (by omega) (fun z15 => ?_) (fun z => absurd (by omega) z)
        refine x_blk (b := 5) (a_32 E) rfl ?_
        unfold b_32_5
        refine x_push 0 rfl ?_
        refine x_fall ?_
        refine x_blk (b := 6) (a_32 E) rfl ?_
        unfold b_32_6
        refine x_zret (by decide) ?_
        exact k0 (by omega)
theorem rs_33 {E : q_E} {σ : x_S} {Q : Option q_V → x_S → Prop} {a0 a1 : Int} (a0l : 0 ≤ a0) (a0h : a0 ≤ 53) (a1l : (-2147483648) ≤ a1) (a1h : a1 ≤ 2147483647) (k : ∀ v, 0 ≤ v → v ≤ 2 → Q (some (x_I v)) σ) : x_P E 33 [x_I a0, x_I a1] σ Q := by
  refine x_Mt e_33 (h_33 E) (Nat.le_of_ble_eq_true rfl) t_33 rfl ?_
  refine x_blk (b := 0) (a_33 E) rfl ?_
  unfold b_33_0
  refine x_iload rfl ?_
  refine x_iload rfl ?_
  refine x_if_ne (by omega) (by omega) (fun z1 => ?_) (fun z1 => ?_)
  · skip
    refine x_push 2 rfl ?_
    refine x_goto ?_
    refine x_blk (b := 2) (a_33 E) rfl ?_
    unfold b_33_2
    refine x_idiv (by omega) (by omega) (by omega) (by omega) ?_
    refine x_push 3 rfl ?_
    refine x_irem (by omega) (by omega) (by omega) (by omega) ?_
    refine x_iret ?_
    exact k _ (by omega) (by omega) 
  · skip
    refine x_blk (b := 1) (a_33 E) rfl ?_
    unfold b_33_1
    refine x_iload rfl ?_
    refine x_push 1 rfl ?_
    refine x_icmp_ne (by omega) (by omega) (by omega) (by omega) (fun z2 => ?_) (fun z2 => ?_)
    · skip
      refine x_push 6 rfl ?_
      refine x_goto ?_
      refine x_blk (b := 2) (a_33 E) rfl ?_
      unfold b_33_2
      refine x_idiv (by omega) (by omega) (by omega) (by omega) ?_
      refine x_push 3 rfl ?_
      refine x_irem (by omega) (by omega) (by omega) (by omega) ?_
      refine x_iret ?_
      exact k _ (by omega) (by omega) 
    · skip
      refine x_blk (b := 3) (a_33 E) rfl ?_
      unfold b_33_3
      refine x_push 18 rfl ?_
      refine x_fall ?_
      refine x_blk (b := 2) (a_33 E) rfl ?_
      unfold b_33_2
      refine x_idiv (by omega) (by omega) (by omega) (by omega) ?_
      refine x_push 3 rfl ?_
      refine x_irem (by omega) (by omega) (by omega) (by omega) ?_
      refine x_iret ?_
      exact k _ (by omega) (by omega) 
