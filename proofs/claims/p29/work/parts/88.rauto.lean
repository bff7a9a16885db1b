theorem rs_96 {E : q_E} {σ : x_S} {Q : Option q_V → x_S → Prop} {a1 a2 a3 : Int} (a1l : (-2147483648) ≤ a1) (a1h : a1 ≤ 2147483647) (a2l : (-60) ≤ a2) (a2h : a2 ≤ (-10)) (a3l : (-1) ≤ a3) (a3h : a3 ≤ 2147483647) (rq0 : 0 ≤ σ 138 18 ∧ σ 138 18 ≤ 40) (k : ∀ v, (-2147483648) ≤ v → v ≤ 2147483647 → Q (some (x_I v)) σ) : x_P E 96 [x_R 138, x_I a1, x_I a2, x_I a3] σ Q := by
  refine x_Mt e_96 (h_96 E) (Nat.le_of_ble_eq_true rfl) t_96 rfl ?_
  refine x_blk (b := 0) (a_96 E) rfl ?_
  unfold b_96_0
  refine x_iload rfl ?_
  refine x_push 1 rfl ?_
  refine x_icmp_ne (by omega) (by omega) (by omega) (by omega) (fun z1 => ?_) (fun z1 => ?_)
  · skip
    refine x_iload rfl ?_
    refine x_aload rfl ?_
    refine x_getI (r := 138) rfl (by decide) (by decide) (by decide) rfl ?_
    intro g2a g2b
    refine x_isub ?_
    refine x_wrp (fun v3 v3a v3b => ?_)
    refine x_goto ?_
    refine x_blk (b := 2) (a_96 E) rfl ?_
    unfold b_96_2
    refine x_iret ?_
    exact k _ (by omega) (by omega) 
  · skip
    refine x_blk (b := 1) (a_96 E) rfl ?_
    unfold b_96_1
    refine x_iload rfl ?_
    refine x_push 2 rfl ?_
    refine x_icmp_ne (by omega) (by omega) (by omega) (by omega) (fun z4 => ?_) (fun z4 => ?_)
    · skip
      refine x_push (-3) rfl ?_
      refine x_goto ?_
      refine x_blk (b := 2) (a_96 E) rfl ?_
      unfold b_96_2
      refine x_iret ?_
      exact k _ (by omega) (by omega) 
    · skip
      refine x_blk (b := 3) (a_96 E) rfl ?_
      unfold b_96_3
      refine x_iload rfl ?_
      refine x_if_ge (by omega) (by omega) (fun z5 => ?_) (fun z5 => ?_)
      · skip
        refine x_aload rfl ?_
        refine x_getI (r := 138) rfl (by decide) (by decide) (by decide) rfl ?_
        intro g6a g6b
        refine x_goto ?_
        refine x_blk (b := 2) (a_96 E) rfl ?_
        unfold b_96_2
        refine x_iret ?_
        exact k _ (by omega) (by omega) 
      · skip
        refine x_blk (b := 4) (a_96 E) rfl ?_
        unfold b_96_4
        refine x_iload rfl ?_
        refine x_aload rfl ?_
        refine x_getI (r := 138) rfl (by decide) (by decide) (by decide) rfl ?_
        intro g7a g7b
        refine x_icmp_ge (by omega) (by omega) (by omega) (by omega) (fun z8 => ?_) (fun z8 => ?_)
        · skip
          refine x_aload rfl ?_
          refine x_getR (r := 138) rfl (by decide) (by decide) rfl ?_
          refine x_iload rfl ?_
          refine x_ialdM y_m151 (by omega) (by omega) (fun v9 v9a v9b => ?_)
          refine x_goto ?_
          refine x_blk (b := 2) (a_96 E) rfl ?_
          unfold b_96_2
          refine x_iret ?_
          exact k _ (by omega) (by omega) 
        · skip
          refine x_blk (b := 5) (a_96 E) rfl ?_
          unfold b_96_5
          refine x_push (-4) rfl ?_
          refine x_fall ?_
          refine x_blk (b := 2) (a_96 E) rfl ?_
          unfold b_96_2
          refine x_iret ?_
          exact k _ (by omega) (by omega) 
theorem rs_192_b5 {E : q_E} {σ : x_S} {Q : Option q_V → x_S → Prop} {a1 a2 : Int} (a1l : (-2147483648) ≤ a1) (a1h : a1 ≤ 2147483647) (a2l : (-2147483648) ≤ a2) (a2h : a2 ≤ 2147483647) (hR : y_RI σ) (k : y_KQ Q σ) (i1 : -1 ≤ a2) : ∀ (N : Nat) (v : Int) (τ : x_S), (40 - v).toNat = N → 0 ≤ v → v ≤ τ 138 10 → (1 ≤ τ 138 10 ∧ τ 138 10 ≤ 40) → y_tr (τ 151) (τ 138 10).toNat → (∀ m : Nat, (m : Int) < v → τ 145 m = τ 151 m) → y_rf σ τ → x_G E m_192 Q (t_192 5) [(0, x_R 138), (2, x_I a2), (4, x_I v)] [] τ := by
  obtain ⟨rl, hP, ru5, rb, rk, rc⟩ := id hR
  have ru := hP.2.2.2.1
  have kd := hP.1
  intro N
  induction N using Nat.strongRecOn with
  | ind N ih =>
    intro v τ hN v1 v2 hb ht hl F
    have rq81 : (1 ≤ τ 138 10 ∧ τ 138 10 ≤ 40) ∧ (v = τ 138 10 → y_tr (τ 145) (τ 138 10).toNat) := ⟨hb, fun hv => y_tr_ext (fun i hi => (hl i (by omega)).symm) ht⟩
    refine x_blk (b := 5) (a_192 E) rfl ?_
    unfold b_192_5
    refine x_iload rfl ?_
    refine x_aload rfl ?_
    refine x_getI (r := 138) rfl (by decide) (by decide) (by decide) rfl ?_
    intro g1a g1b
    refine x_icmp_ge (by omega) (by omega) (by omega) (by omega) (fun z2 => ?_) (fun z2 => ?_)
    · skip
      refine x_aload rfl ?_
      refine x_getR (r := 138) rfl (by decide) (by decide) rfl ?_
      refine x_iload rfl ?_
      refine x_aload rfl ?_
      refine x_getR (r := 138) rfl (by decide) (by decide) rfl ?_
      refine x_iload rfl ?_
      refine x_iald (r := 151) (n := 40) (m := v.toNat) rfl rfl (by decide) (fun _ => rfl) (by omega) (by omega) (by omega) ?_
      intro g3a g3b
      refine x_astN (m := v.toNat) y_m145 F (by omega) (by omega) (by omega) (by omega) (by omega) (fun S4 e4 F4 => ?_)
      have w4 := x_up_at e4
      refine x_iinc 1 rfl rfl ?_
      refine x_goto ?_
      refine x_G_lo (lo' := [(0, x_R 138), (2, x_I _), (4, x_I _)]) ⟨rfl, rfl, rfl, trivial⟩ ?_
      have q10 : S4 138 10 = τ 138 10 := x_up_nr e4 (by decide)
      refine ih _ (by omega) _ S4 rfl (by omega) (by omega) (by omega) ?_ (fun m hm => ?_) F4
      · rw [q10]; exact y_tr_ext (fun i _ => (x_up_nr e4 (by decide)).symm) ht
      · rw [x_up_nr e4 (r' := 151) (by decide)]
        by_cases cx : m = v.toNat
        · subst cx
          exact w4
        · rw [x_up_ne e4 (fun z => cx z.2)]; exact hl m (by omega)
    · skip
      refine x_blk (b := 4) (a_192 E) rfl ?_
      unfold b_192_4
      refine x_aload rfl ?_
      refine x_push 0 rfl ?_
      refine x_cV (fun _ => rfl) rfl (by decide) (Nat.le_of_ble_eq_true rfl) ?_
      refine rs_81 (by omega) (by omega) ⟨by omega, rq81.2 (by omega)⟩ (y_rf_P F hP) (fun S5 f5 k5_0 k5_1 => ?_)
      have F5 := y_rf_tr F f5
      refine x_aload rfl ?_
      refine x_aload rfl ?_
      refine x_push 1 rfl ?_
      refine x_push 0 rfl ?_
      refine x_cV (fun _ => rfl) rfl (by decide) (Nat.le_of_ble_eq_true rfl) ?_
      refine rs_94 (by omega) (by omega) (by omega) (by omega) (by assumption) (y_rf_P F5 hP) (fun S6 v6 f6 v6a v6b k6_0 k6_1 => ?_)
      have F6 := y_rf_tr F5 f6
      refine x_push (-60) rfl ?_
      refine x_iload rfl ?_
      refine x_cV (fun _ => rfl) rfl (by decide) (Nat.le_of_ble_eq_true rfl) ?_
      refine rs_96 (by omega) (by omega) (by omega) (by omega) (by omega) (by omega) (by omega) (fun v7 v7a v7b => ?_)
      refine x_iret ?_
      exact k _ _ F6 (by omega) (by omega)
theorem rs_192 {E : q_E} {σ : x_S} {Q : Option q_V → x_S → Prop} {a1 a2 : Int} (a1l : (-2147483648) ≤ a1) (a1h : a1 ≤ 2147483647) (a2l : (-2147483648) ≤ a2) (a2h : a2 ≤ 2147483647) (hR : y_RI σ) (k : y_KQ Q σ) : x_P E 192 [x_R 138, x_I a1, x_I a2] σ Q := by
  obtain ⟨rl, hP, ru5, rb, rk, rc⟩ := id hR
  have ru := hP.2.2.2.1
  have kd := hP.1
  refine x_Mt e_192 (h_192 E) (Nat.le_of_ble_eq_true rfl) t_192 rfl ?_
  refine x_blk (b := 0) (a_192 E) rfl ?_
  unfold b_192_0
  refine x_iload rfl ?_
  refine x_cS (fun _ => rfl) (Nat.le_of_ble_eq_true rfl) ?_
  refine c_67 (by omega) (by omega) (fun y1 => ?_) (fun y1 => ?_)
  · skip
    refine x_if_eq (by omega) (by omega) (fun z => absurd z (by omega)) (fun z2 => ?_)
    refine x_iload rfl ?_
    refine x_push (-1) rfl ?_
    refine x_icmp_ge (by omega) (by omega) (by omega) (by omega) (fun z3 => ?_) (fun z3 => ?_)
    · skip
      refine x_fall ?_
      refine x_blk (b := 1) (a_192 E) rfl ?_
      unfold b_192_1
      refine x_push (-1) rfl ?_
      refine x_iret ?_
      exact k _ _ y_rf_rf (by omega) (by omega)
    · skip
      refine x_blk (b := 2) (a_192 E) rfl ?_
      unfold b_192_2
      refine x_aload rfl ?_
      refine x_iload rfl ?_
      refine x_push 0 rfl ?_
      refine x_cV (fun _ => rfl) rfl (by decide) (Nat.le_of_ble_eq_true rfl) ?_
      refine rs_80 (by omega) (by omega) (by omega) (by omega) hP (fun S4 f4 k4_0 k4_1 => ?_)
      have F4 := y_rf_tr y_rf_rf f4
      refine x_aload rfl ?_
      refine x_push 0 rfl ?_
      refine x_push 0 rfl ?_
      refine x_cV (fun _ => rfl) rfl (by decide) (Nat.le_of_ble_eq_true rfl) ?_
      refine rs_94 (by omega) (by omega) (by omega) (by omega) (by assumption) (y_rf_P F4 hP) (fun S5 v5 f5 v5a v5b k5_0 k5_1 => ?_)
      have F5 := y_rf_tr F4 f5
      refine x_istore ?_
      refine x_iload rfl ?_
      refine x_if_eq (by omega) (by omega) (fun z6 => ?_) (fun z6 => ?_)
      · skip
        refine x_blk (b := 3) (a_192 E) rfl ?_
        unfold b_192_3
        refine x_aload rfl ?_
        refine x_aload rfl ?_
        refine x_getI (r := 138) rfl (by decide) (by decide) (by decide) rfl ?_
        intro g7a g7b
        refine x_put138 (by decide) rfl ⟨by decide, rfl⟩ (by decide) F5 (by omega) (by omega) (fun S8 e8 F8 => ?_)
        refine x_push 0 rfl ?_
        refine x_istore ?_
        refine x_X_lo (lo' := [(0, x_R 138), (1, x_I _), (2, x_I _), (3, x_I _), (4, x_I _)]) ⟨rfl, rfl, rfl, rfl, rfl, trivial⟩ ?_
        refine x_fall ?_
        refine x_G_lo (lo' := [(0, x_R 138), (2, x_I _), (4, x_I _)]) ⟨rfl, rfl, rfl, trivial⟩ ?_
        have q10 := x_up_at e8
        have ht := k5_1 (by omega)
        have h1 : (S5 138 18).toNat ≠ 0 := fun z => by
          rw [z] at ht
          exact absurd ht.2 (by show ¬ ((1 : Int) = 0); decide)
        exact rs_192_b5 a1l a1h a2l a2h hR k (by omega) _ _ S8 rfl (by omega) (by omega) (by omega) (by rw [q10]; exact y_tr_ext (fun i _ => (x_up_nr e8 (by decide)).symm) ht) (fun m hm => absurd hm (by omega)) F8
      · skip
        refine x_aload rfl ?_
        refine x_iload rfl ?_
        refine x_push (-10) rfl ?_
        refine x_iload rfl ?_
        refine x_cV (fun _ => rfl) rfl (by decide) (Nat.le_of_ble_eq_true rfl) ?_
        refine rs_96 (by omega) (by omega) (by omega) (by omega) (by omega) (by omega) (by omega) (fun v9 v9a v9b => ?_)
        refine x_iret ?_
        exact k _ _ F5 (by omega) (by omega)
  · skip
    refine x_if_eq (by omega) (by omega) (fun z10 => ?_) (fun z => absurd (by omega) z)
    refine x_blk (b := 1) (a_192 E) rfl ?_
    unfold b_192_1
    refine x_push (-1) rfl ?_
    refine x_iret ?_
    exact k _ _ y_rf_rf (by omega) (by omega)
theorem rs_202 {E : q_E} {σ : x_S} {Q : Option q_V → x_S → Prop} {a1 a2 a3 : Int} (a1l : 0 ≤ a1) (a1h : a1 ≤ 4) (a2l : 0 ≤ a2) (a2h : a2 ≤ 53) (a3l : 0 ≤ a3) (a3h : a3 ≤ 53) (C0 : y_SI σ) (k : ∀ v, 1 ≤ v → v ≤ 83 → ((a1 < 2 ∧ v = 1) ∨ (a1 = 2 ∧ v = 1 + σ 156 a2.toNat) ∨ (2 < a1 ∧ v = 1 + σ 156 a2.toNat + σ 156 a3.toNat)) → Q (some (x_I v)) σ) : x_P E 202 [x_R 138, x_I a1, x_I a2, x_I a3] σ Q := by
  refine x_Mt e_202 (h_202 E) (Nat.le_of_ble_eq_true rfl) t_202 rfl ?_
  refine x_blk (b := 0) (a_202 E) rfl ?_
  unfold b_202_0
  refine x_iload rfl ?_
  refine x_cS (fun _ => rfl) (Nat.le_of_ble_eq_true rfl) ?_
  refine rs_0 (by omega) (by omega) (fun v1 v1a v1b v1c => ?_)
  refine x_istore ?_
  refine x_push 1 rfl ?_
  refine x_iload rfl ?_
  refine x_if_le (by omega) (by omega) (fun z2 => ?_) (fun z2 => ?_)
  · skip
    refine x_blk (b := 1) (a_202 E) rfl ?_
    unfold b_202_1
    refine x_push 0 rfl ?_
    refine x_fall ?_
    refine x_blk (b := 2) (a_202 E) rfl ?_
    unfold b_202_2
    refine x_iadd ?_
    refine x_iload rfl ?_
    refine x_push 1 rfl ?_
    refine x_icmp_le (by omega) (by omega) (by omega) (by omega) (fun z3 => ?_) (fun z => absurd (by omega) z)
    refine x_blk (b := 3) (a_202 E) rfl ?_
    unfold b_202_3
    refine x_push 0 rfl ?_
    refine x_fall ?_
    refine x_blk (b := 4) (a_202 E) rfl ?_
    unfold b_202_4
    refine x_iadd ?_
    refine x_iret ?_
    exact k _ (by omega) (by omega) (by omega)
  · skip
    refine x_aload rfl ?_
    refine x_getR (r := 138) rfl (by decide) (by decide) rfl ?_
    refine x_iload rfl ?_
    refine x_ialdS C0 (by omega) (by omega) ?_
    intro g4a g4b
    refine x_goto ?_
    refine x_blk (b := 2) (a_202 E) rfl ?_
    unfold b_202_2
    refine x_iadd ?_
    refine x_iload rfl ?_
    refine x_push 1 rfl ?_
    refine x_icmp_le (by omega) (by omega) (by omega) (by omega) (fun z5 => ?_) (fun z5 => ?_)
    · skip
      refine x_blk (b := 3) (a_202 E) rfl ?_
      unfold b_202_3
      refine x_push 0 rfl ?_
      refine x_fall ?_
      refine x_blk (b := 4) (a_202 E) rfl ?_
      unfold b_202_4
      refine x_iadd ?_
      refine x_iret ?_
      exact k _ (by omega) (by omega) (by omega)
    · skip
      refine x_aload rfl ?_
      refine x_getR (r := 138) rfl (by decide) (by decide) rfl ?_
      refine x_iload rfl ?_
      refine x_ialdS C0 (by omega) (by omega) ?_
      intro g6a g6b
      refine x_goto ?_
      refine x_blk (b := 4) (a_202 E) rfl ?_
      unfold b_202_4
      refine x_iadd ?_
      refine x_iret ?_
      exact k _ (by omega) (by omega) (by omega)
theorem rs_204_b2 {E : q_E} {σ : x_S} {Q : Option q_V → x_S → Prop} {a1 a2 : Int} (a1l : 0 ≤ a1) (a1h : a1 ≤ 53) (a2l : 0 ≤ a2) (a2h : a2 ≤ 40) (k : ∀ v, 0 ≤ v → v ≤ 1 → Q (some (x_I v)) σ) : ∀ (N : Nat) (i : Int), (40 - i).toNat = N → 0 ≤ i → i ≤ 40 → i ≤ a2 → x_G E m_204 Q (t_204 2) [(0, x_R 138), (1, x_I a1), (2, x_I a2), (3, x_I i)] [] σ := by
  intro N
  induction N using Nat.strongRecOn with
  | ind N ih =>
    intro i hN iL iH ex0
    refine x_blk (b := 2) (a_204 E) rfl ?_
    unfold b_204_2
    refine x_iload rfl ?_
    refine x_iload rfl ?_
    refine x_icmp_ge (by omega) (by omega) (by omega) (by omega) (fun z1 => ?_) (fun z1 => ?_)
    · skip
      refine x_aload rfl ?_
      refine x_getR (r := 138) rfl (by decide) (by decide) rfl ?_
      refine x_iload rfl ?_
      refine x_ialdM y_m159 (by omega) (by omega) (fun v2 v2a v2b => ?_)
      refine x_aload rfl ?_
      refine x_getR (r := 138) rfl (by decide) (by decide) rfl ?_
      refine x_push 40 rfl ?_
      refine x_iload rfl ?_
      refine x_imul ?_
      refine x_iload rfl ?_
      refine x_iadd ?_
      refine x_ialdM y_m157 (by omega) (by omega) (fun v3 v3a v3b => ?_)
      refine x_icmp_ne (by omega) (by omega) (by omega) (by omega) (fun z4 => ?_) (fun z4 => ?_)
      · skip
        refine x_iinc 1 rfl rfl ?_
        refine x_goto ?_
        refine x_G_lo (lo' := [(0, x_R 138), (1, x_I _), (2, x_I _), (3, x_I _)]) ⟨rfl, rfl, rfl, rfl, trivial⟩ ?_
        exact ih _ (by omega) _  rfl (by omega) (by omega) (by omega) 
      · skip
        refine x_blk (b := 1) (a_204 E) rfl ?_
        unfold b_204_1
        refine x_iload rfl ?_
        refine x_iload rfl ?_
        refine x_icmp_ge (by omega) (by omega) (by omega) (by omega) (fun z5 => ?_) (fun z5 => ?_)
        · skip
          refine x_aload rfl ?_
          refine x_getR (r := 138) rfl (by decide) (by decide) rfl ?_
          refine x_iload rfl ?_
          refine x_ialdM y_m159 (by omega) (by omega) (fun v6 v6a v6b => ?_)
          refine x_aload rfl ?_
          refine x_getR (r := 138) rfl (by decide) (by decide) rfl ?_
          refine x_push 40 rfl ?_
          refine x_iload rfl ?_
          refine x_imul ?_
          refine x_iload rfl ?_
          refine x_iadd ?_
          refine x_ialdM y_m157 (by omega) (by omega) (fun v7 v7a v7b => ?_)
          refine x_icmp_ge (by omega) (by omega) (by omega) (by omega) (fun z8 => ?_) (fun z8 => ?_)
          · skip
            refine x_push 1 rfl ?_
            refine x_goto ?_
            refine x_blk (b := 4) (a_204 E) rfl ?_
            unfold b_204_4
            refine x_zret (by decide) ?_
            exact k _ (by omega) (by omega) 
          · skip
            refine x_blk (b := 3) (a_204 E) rfl ?_
            unfold b_204_3
            refine x_push 0 rfl ?_
            refine x_fall ?_
            refine x_blk (b := 4) (a_204 E) rfl ?_
            unfold b_204_4
            refine x_zret (by decide) ?_
            exact k _ (by omega) (by omega) 
        · skip
          refine x_blk (b := 3) (a_204 E) rfl ?_
          unfold b_204_3
          refine x_push 0 rfl ?_
          refine x_fall ?_
          refine x_blk (b := 4) (a_204 E) rfl ?_
          unfold b_204_4
          refine x_zret (by decide) ?_
          exact k _ (by omega) (by omega) 
    · skip
      refine x_blk (b := 1) (a_204 E) rfl ?_
      unfold b_204_1
      refine x_iload rfl ?_
      refine x_iload rfl ?_
      refine x_icmp_ge (by omega) (by omega) (by omega) (by omega) (fun z9 => ?_) (fun z9 => ?_)
      · skip
        refine x_aload rfl ?_
        refine x_getR (r := 138) rfl (by decide) (by decide) rfl ?_
        refine x_iload rfl ?_
        refine x_ialdM y_m159 (by omega) (by omega) (fun v10 v10a v10b => ?_)
        refine x_aload rfl ?_
        refine x_getR (r := 138) rfl (by decide) (by decide) rfl ?_
        refine x_push 40 rfl ?_
        refine x_iload rfl ?_
        refine x_imul ?_
        refine x_iload rfl ?_
        refine x_iadd ?_
        refine x_ialdM y_m157 (by omega) (by omega) (fun v11 v11a v11b => ?_)
        refine x_icmp_ge (by omega) (by omega) (by omega) (by omega) (fun z12 => ?_) (fun z12 => ?_)
        · skip
          refine x_push 1 rfl ?_
          refine x_goto ?_
          refine x_blk (b := 4) (a_204 E) rfl ?_
          unfold b_204_4
          refine x_zret (by decide) ?_
          exact k _ (by omega) (by omega) 
        · skip
          refine x_blk (b := 3) (a_204 E) rfl ?_
          unfold b_204_3
          refine x_push 0 rfl ?_
          refine x_fall ?_
          refine x_blk (b := 4) (a_204 E) rfl ?_
          unfold b_204_4
          refine x_zret (by decide) ?_
          exact k _ (by omega) (by omega) 
      · skip
        refine x_blk (b := 3) (a_204 E) rfl ?_
        unfold b_204_3
        refine x_push 0 rfl ?_
        refine x_fall ?_
        refine x_blk (b := 4) (a_204 E) rfl ?_
        unfold b_204_4
        refine x_zret (by decide) ?_
        exact k _ (by omega) (by omega) 
theorem rs_204 {E : q_E} {σ : x_S} {Q : Option q_V → x_S → Prop} {a1 a2 : Int} (a1l : 0 ≤ a1) (a1h : a1 ≤ 53) (a2l : 0 ≤ a2) (a2h : a2 ≤ 40) (k : ∀ v, 0 ≤ v → v ≤ 1 → Q (some (x_I v)) σ) : x_P E 204 [x_R 138, x_I a1, x_I a2] σ Q := by
  refine x_Mt e_204 (h_204 E) (Nat.le_of_ble_eq_true rfl) t_204 rfl ?_
  refine x_blk (b := 0) (a_204 E) rfl ?_
  unfold b_204_0
  refine x_push 0 rfl ?_
  refine x_istore ?_
  refine x_fall ?_
  refine x_G_lo (lo' := [(0, x_R 138), (1, x_I _), (2, x_I _), (3, x_I _)]) ⟨rfl, rfl, rfl, rfl, trivial⟩ ?_
  exact rs_204_b2 a1l a1h a2l a2h k  _ _  rfl (by omega) (by omega) (by omega) 
theorem rs_207_b2 {E : q_E} {σ : x_S} {Q : Option q_V → x_S → Prop} {a1 a2 : Int} (a1l : 0 ≤ a1) (a1h : a1 ≤ 53) (a2l : 0 ≤ a2) (a2h : a2 ≤ 53) (rq0 : σ 156 a1.toNat ≤ 40) (C0 : y_SI σ) (k : ∀ v, 0 ≤ v → v ≤ 1 → Q (some (x_I v)) σ) : ∀ (N : Nat) (i : Int), (40 - i).toNat = N → 0 ≤ i → i ≤ 40 → x_G E m_207 Q (t_207 2) [(0, x_R 138), (1, x_I a1), (2, x_I a2), (3, x_I i)] [] σ := by
  intro N
  induction N using Nat.strongRecOn with
  | ind N ih =>
    intro i hN iL iH
    refine x_blk (b := 2) (a_207 E) rfl ?_
    unfold b_207_2
    refine x_iload rfl ?_
    refine x_aload rfl ?_
    refine x_getR (r := 138) rfl (by decide) (by decide) rfl ?_
    refine x_iload rfl ?_
    refine x_ialdS C0 (by omega) (by omega) ?_
    intro g1a g1b
    refine x_icmp_ge (by omega) (by omega) (by omega) (by omega) (fun z2 => ?_) (fun z2 => ?_)
    · skip
      refine x_iload rfl ?_
      refine x_push 40 rfl ?_
      refine x_icmp_ge (by omega) (by omega) (by omega) (by omega) (fun z3 => ?_) (fun z3 => ?_)
      · skip
        refine x_aload rfl ?_
        refine x_getR (r := 138) rfl (by decide) (by decide) rfl ?_
        refine x_push 40 rfl ?_
        refine x_iload rfl ?_
        refine x_imul ?_
        refine x_iload rfl ?_
        refine x_iadd ?_
        refine x_ialdM y_m157 (by omega) (by omega) (fun v4 v4a v4b => ?_)
        refine x_aload rfl ?_
        refine x_getR (r := 138) rfl (by decide) (by decide) rfl ?_
        refine x_push 40 rfl ?_
        refine x_iload rfl ?_
        refine x_imul ?_
        refine x_iload rfl ?_
        refine x_iadd ?_
        refine x_ialdM y_m157 (by omega) (by omega) (fun v5 v5a v5b => ?_)
        refine x_icmp_ne (by omega) (by omega) (by omega) (by omega) (fun z6 => ?_) (fun z6 => ?_)
        · skip
          refine x_iinc 1 rfl rfl ?_
          refine x_goto ?_
          refine x_G_lo (lo' := [(0, x_R 138), (1, x_I _), (2, x_I _), (3, x_I _)]) ⟨rfl, rfl, rfl, rfl, trivial⟩ ?_
          exact ih _ (by omega) _  rfl (by omega) (by omega)  
        · skip
          refine x_blk (b := 1) (a_207 E) rfl ?_
          unfold b_207_1
          refine x_aload rfl ?_
          refine x_getR (r := 138) rfl (by decide) (by decide) rfl ?_
          refine x_iload rfl ?_
          refine x_ialdS C0 (by omega) (by omega) ?_
          intro g7a g7b
          refine x_aload rfl ?_
          refine x_getR (r := 138) rfl (by decide) (by decide) rfl ?_
          refine x_iload rfl ?_
          refine x_ialdS C0 (by omega) (by omega) ?_
          intro g8a g8b
          refine x_icmp_lt (by omega) (by omega) (by omega) (by omega) (fun z9 => ?_) (fun z9 => ?_)
          · skip
            refine x_blk (b := 3) (a_207 E) rfl ?_
            unfold b_207_3
            refine x_push 1 rfl ?_
            refine x_goto ?_
            refine x_blk (b := 5) (a_207 E) rfl ?_
            unfold b_207_5
            refine x_zret (by decide) ?_
            exact k _ (by omega) (by omega) 
          · skip
            refine x_aload rfl ?_
            refine x_getR (r := 138) rfl (by decide) (by decide) rfl ?_
            refine x_iload rfl ?_
            refine x_ialdS C0 (by omega) (by omega) ?_
            intro g10a g10b
            refine x_aload rfl ?_
            refine x_getR (r := 138) rfl (by decide) (by decide) rfl ?_
            refine x_iload rfl ?_
            refine x_ialdS C0 (by omega) (by omega) ?_
            intro g11a g11b
            refine x_icmp_ne (by omega) (by omega) (by omega) (by omega) (fun z12 => ?_) (fun z12 => ?_)
            · skip
              refine x_iload rfl ?_
              refine x_aload rfl ?_
              refine x_getR (r := 138) rfl (by decide) (by decide) rfl ?_
              refine x_iload rfl ?_
              refine x_ialdS C0 (by omega) (by omega) ?_
              intro g13a g13b
              refine x_icmp_ge (by omega) (by omega) (by omega) (by omega) (fun z14 => ?_) (fun z14 => ?_)
              · skip
                refine x_aload rfl ?_
                refine x_getR (r := 138) rfl (by decide) (by decide) rfl ?_
                refine x_push 40 rfl ?_
                refine x_iload rfl ?_
                refine x_imul ?_
                refine x_iload rfl ?_
                refine x_iadd ?_
                refine x_ialdM y_m157 (by omega) (by omega) (fun v15 v15a v15b => ?_)
                refine x_aload rfl ?_
                refine x_getR (r := 138) rfl (by decide) (by decide) rfl ?_
                refine x_push 40 rfl ?_
                refine x_iload rfl ?_
                refine x_imul ?_
                refine x_iload rfl ?_
                refine x_iadd ?_
                refine x_ialdM y_m157 (by omega) (by omega) (fun v16 v16a v16b => ?_)
                refine x_icmp_ge (by omega) (by omega) (by omega) (by omega) (fun z17 => ?_) (fun z17 => ?_)
                · skip
                  refine x_fall ?_
                  refine x_blk (b := 3) (a_207 E) rfl ?_
                  unfold b_207_3
                  refine x_push 1 rfl ?_
                  refine x_goto ?_
                  refine x_blk (b := 5) (a_207 E) rfl ?_
                  unfold b_207_5
                  refine x_zret (by decide) ?_
                  exact k _ (by omega) (by omega) 
                · skip
                  refine x_blk (b := 4) (a_207 E) rfl ?_
                  unfold b_207_4
                  refine x_push 0 rfl ?_
                  refine x_fall ?_
                  refine x_blk (b := 5) (a_207 E) rfl ?_
                  unfold b_207_5
                  refine x_zret (by decide) ?_
                  exact k _ (by omega) (by omega) 
              · skip
                refine x_blk (b := 4) (a_207 E) rfl ?_
                unfold b_207_4
                refine x_push 0 rfl ?_
                refine x_fall ?_
                refine x_blk (b := 5) (a_207 E) rfl ?_
                unfold b_207_5
                refine x_zret (by decide) ?_
                exact k _ (by omega) (by omega) 
            · skip
              refine x_blk (b := 4) (a_207 E) rfl ?_
              unfold b_207_4
              refine x_push 0 rfl ?_
              refine x_fall ?_
              refine x_blk (b := 5) (a_207 E) rfl ?_
              unfold b_207_5
              refine x_zret (by decide) ?_
              exact k _ (by omega) (by omega) 
      · skip
        refine x_blk (b := 1) (a_207 E) rfl ?_
        unfold b_207_1
        refine x_aload rfl ?_
        refine x_getR (r := 138) rfl (by decide) (by decide) rfl ?_
        refine x_iload rfl ?_
        refine x_ialdS C0 (by omega) (by omega) ?_
        intro g18a g18b
        refine x_aload rfl ?_
        refine x_getR (r := 138) rfl (by decide) (by decide) rfl ?_
        refine x_iload rfl ?_
        refine x_ialdS C0 (by omega) (by omega) ?_
        intro g19a g19b
        refine x_icmp_lt (by omega) (by omega) (by omega) (by omega) (fun z20 => ?_) (fun z20 => ?_)
        · skip
          refine x_blk (b := 3) (a_207 E) rfl ?_
          unfold b_207_3
          refine x_push 1 rfl ?_
          refine x_goto ?_
          refine x_blk (b := 5) (a_207 E) rfl ?_
          unfold b_207_5
          refine x_zret (by decide) ?_
          exact k _ (by omega) (by omega) 
        · skip
          refine x_aload rfl ?_
          refine x_getR (r := 138) rfl (by decide) (by decide) rfl ?_
          refine x_iload rfl ?_
          refine x_ialdS C0 (by omega) (by omega) ?_
          intro g21a g21b
          refine x_aload rfl ?_
          refine x_getR (r := 138) rfl (by decide) (by decide) rfl ?_
          refine x_iload rfl ?_
          refine x_ialdS C0 (by omega) (by omega) ?_
          intro g22a g22b
          refine x_icmp_ne (by omega) (by omega) (by omega) (by omega) (fun z23 => ?_) (fun z23 => ?_)
          · skip
            refine x_iload rfl ?_
            refine x_aload rfl ?_
            refine x_getR (r := 138) rfl (by decide) (by decide) rfl ?_
            refine x_iload rfl ?_
            refine x_ialdS C0 (by omega) (by omega) ?_
            intro g24a g24b
            refine x_icmp_ge (by omega) (by omega) (by omega) (by omega) (fun z25 => ?_) (fun z25 => ?_)
            · skip
              refine x_aload rfl ?_
              refine x_getR (r := 138) rfl (by decide) (by decide) rfl ?_
              refine x_push 40 rfl ?_
              refine x_iload rfl ?_
              refine x_imul ?_
              refine x_iload rfl ?_
              refine x_iadd ?_
              refine x_ialdM y_m157 (by omega) (by omega) (fun v26 v26a v26b => ?_)
              refine x_aload rfl ?_
              refine x_getR (r := 138) rfl (by decide) (by decide) rfl ?_
              refine x_push 40 rfl ?_
              refine x_iload rfl ?_
              refine x_imul ?_
              refine x_iload rfl ?_
              refine x_iadd ?_
              refine x_ialdM y_m157 (by omega) (by omega) (fun v27 v27a v27b => ?_)
              refine x_icmp_ge (by omega) (by omega) (by omega) (by omega) (fun z28 => ?_) (fun z28 => ?_)
              · skip
                refine x_fall ?_
                refine x_blk (b := 3) (a_207 E) rfl ?_
                unfold b_207_3
                refine x_push 1 rfl ?_
                refine x_goto ?_
                refine x_blk (b := 5) (a_207 E) rfl ?_
                unfold b_207_5
                refine x_zret (by decide) ?_
                exact k _ (by omega) (by omega) 
              · skip
                refine x_blk (b := 4) (a_207 E) rfl ?_
                unfold b_207_4
                refine x_push 0 rfl ?_
                refine x_fall ?_
                refine x_blk (b := 5) (a_207 E) rfl ?_
                unfold b_207_5
                refine x_zret (by decide) ?_
                exact k _ (by omega) (by omega) 
            · skip
              refine x_blk (b := 4) (a_207 E) rfl ?_
              unfold b_207_4
              refine x_push 0 rfl ?_
              refine x_fall ?_
              refine x_blk (b := 5) (a_207 E) rfl ?_
              unfold b_207_5
              refine x_zret (by decide) ?_
              exact k _ (by omega) (by omega) 
          · skip
            refine x_blk (b := 4) (a_207 E) rfl ?_
            unfold b_207_4
            refine x_push 0 rfl ?_
            refine x_fall ?_
            refine x_blk (b := 5) (a_207 E) rfl ?_
            unfold b_207_5
            refine x_zret (by decide) ?_
            exact k _ (by omega) (by omega) 
    · skip
      refine x_blk (b := 1) (a_207 E) rfl ?_
      unfold b_207_1
      refine x_aload rfl ?_
      refine x_getR (r := 138) rfl (by decide) (by decide) rfl ?_
      refine x_iload rfl ?_
      refine x_ialdS C0 (by omega) (by omega) ?_
      intro g29a g29b
      refine x_aload rfl ?_
      refine x_getR (r := 138) rfl (by decide) (by decide) rfl ?_
      refine x_iload rfl ?_
      refine x_ialdS C0 (by omega) (by omega) ?_
      intro g30a g30b
      refine x_icmp_lt (by omega) (by omega) (by omega) (by omega) (fun z31 => ?_) (fun z31 => ?_)
      · skip
        refine x_blk (b := 3) (a_207 E) rfl ?_
        unfold b_207_3
        refine x_push 1 rfl ?_
        refine x_goto ?_
        refine x_blk (b := 5) (a_207 E) rfl ?_
        unfold b_207_5
        refine x_zret (by decide) ?_
        exact k _ (by omega) (by omega) 
      · skip
        refine x_aload rfl ?_
        refine x_getR (r := 138) rfl (by decide) (by decide) rfl ?_
        refine x_iload rfl ?_
        refine x_ialdS C0 (by omega) (by omega) ?_
        intro g32a g32b
        refine x_aload rfl ?_
        refine x_getR (r := 138) rfl (by decide) (by decide) rfl ?_
        refine x_iload rfl ?_
        refine x_ialdS C0 (by omega) (by omega) ?_
        intro g33a g33b
        refine x_icmp_ne (by omega) (by omega) (by omega) (by omega) (fun z34 => ?_) (fun z34 => ?_)
        · skip
          refine x_iload rfl ?_
          refine x_aload rfl ?_
          refine x_getR (r := 138) rfl (by decide) (by decide) rfl ?_
          refine x_iload rfl ?_
          refine x_ialdS C0 (by omega) (by omega) ?_
          intro g35a g35b
          refine x_icmp_ge (by omega) (by omega) (by omega) (by omega) (fun z36 => ?_) (fun z36 => ?_)
          · skip
            refine x_aload rfl ?_
            refine x_getR (r := 138) rfl (by decide) (by decide) rfl ?_
            refine x_push 40 rfl ?_
            refine x_iload rfl ?_
            refine x_imul ?_
            refine x_iload rfl ?_
            refine x_iadd ?_
            refine x_ialdM y_m157 (by omega) (by omega) (fun v37 v37a v37b => ?_)
            refine x_aload rfl ?_
            refine x_getR (r := 138) rfl (by decide) (by decide) rfl ?_
            refine x_push 40 rfl ?_
            refine x_iload rfl ?_
            refine x_imul ?_
            refine x_iload rfl ?_
            refine x_iadd ?_
            refine x_ialdM y_m157 (by omega) (by omega) (fun v38 v38a v38b => ?_)
            refine x_icmp_ge (by omega) (by omega) (by omega) (by omega) (fun z39 => ?_) (fun z39 => ?_)
            · skip
              refine x_fall ?_
              refine x_blk (b := 3) (a_207 E) rfl ?_
              unfold b_207_3
              refine x_push 1 rfl ?_
              refine x_goto ?_
              refine x_blk (b := 5) (a_207 E) rfl ?_
              unfold b_207_5
              refine x_zret (by decide) ?_
              exact k _ (by omega) (by omega) 
            · skip
              refine x_blk (b := 4) (a_207 E) rfl ?_
              unfold b_207_4
              refine x_push 0 rfl ?_
              refine x_fall ?_
              refine x_blk (b := 5) (a_207 E) rfl ?_
              unfold b_207_5
              refine x_zret (by decide) ?_
              exact k _ (by omega) (by omega) 
          · skip
            refine x_blk (b := 4) (a_207 E) rfl ?_
            unfold b_207_4
            refine x_push 0 rfl ?_
            refine x_fall ?_
            refine x_blk (b := 5) (a_207 E) rfl ?_
            unfold b_207_5
            refine x_zret (by decide) ?_
            exact k _ (by omega) (by omega) 
        · skip
          refine x_blk (b := 4) (a_207 E) rfl ?_
          unfold b_207_4
          refine x_push 0 rfl ?_
          refine x_fall ?_
          refine x_blk (b := 5) (a_207 E) rfl ?_
          unfold b_207_5
          refine x_zret (by decide) ?_
          exact k _ (by omega) (by omega) 
theorem rs_207 {E : q_E} {σ : x_S} {Q : Option q_V → x_S → Prop} {a1 a2 : Int} (a1l : 0 ≤ a1) (a1h : a1 ≤ 53) (a2l : 0 ≤ a2) (a2h : a2 ≤ 53) (rq0 : σ 156 a1.toNat ≤ 40) (C0 : y_SI σ) (k : ∀ v, 0 ≤ v → v ≤ 1 → Q (some (x_I v)) σ) : x_P E 207 [x_R 138, x_I a1, x_I a2] σ Q := by
  refine x_Mt e_207 (h_207 E) (Nat.le_of_ble_eq_true rfl) t_207 rfl ?_
  refine x_blk (b := 0) (a_207 E) rfl ?_
  unfold b_207_0
  refine x_push 0 rfl ?_
  refine x_istore ?_
  refine x_fall ?_
  refine x_G_lo (lo' := [(0, x_R 138), (1, x_I _), (2, x_I _), (3, x_I _)]) ⟨rfl, rfl, rfl, rfl, trivial⟩ ?_
  exact rs_207_b2 a1l a1h a2l a2h rq0 C0 k  _ _  rfl (by omega) (by omega)  
theorem rs_203_b4 {E : q_E} {σ : x_S} {Q : Option q_V → x_S → Prop} {a1 a2 a3 : Int} (a1l : 0 ≤ a1) (a1h : a1 ≤ 4) (a2l : 0 ≤ a2) (a2h : a2 ≤ 53) (a3l : 0 ≤ a3) (a3h : a3 ≤ 53) (rq0 : (a1 < 2 ∨ (a1 = 2 ∧ σ 156 a2.toNat ≤ 39) ∨ (2 < a1 ∧ σ 156 a2.toNat + σ 156 a3.toNat ≤ 39))) (C0 : y_SI σ) (k : ∀ τ v, y_SI τ → y_rf σ τ → (-2147483648) ≤ v → v ≤ 2147483647 → Q (some (x_I v)) τ) : ∀ (N : Nat) (c n i : Int) (τ : x_S), (41 - i).toNat = N → 0 ≤ c → c ≤ 2 → 1 ≤ n → n ≤ 40 → 0 ≤ i → i ≤ 41 → (c ≤ 1 ∨ (n + (σ 156 a3.toNat - i) ≤ 40 ∧ σ 156 a3.toNat ≤ 39)) → i ≤ σ 156 a3.toNat → τ 156 a2.toNat = σ 156 a2.toNat → τ 156 a3.toNat = σ 156 a3.toNat → y_SI τ → y_rf σ τ → x_G E m_203 Q (t_203 4) [(0, x_R 138), (2, x_I a2), (3, x_I a3), (4, x_I c), (5, x_I n), (6, x_I i)] [] τ := by
  intro N
  induction N using Nat.strongRecOn with
  | ind N ih =>
    intro c n i τ hN cL cH nL nH iL iH ex0 ex1 ex2 ex3 C F
    refine x_blk (b := 4) (a_203 E) rfl ?_
    unfold b_203_4
    refine x_iload rfl ?_
    refine x_aload rfl ?_
    refine x_getR (r := 138) rfl (by decide) (by decide) rfl ?_
    refine x_iload rfl ?_
    refine x_ialdS C (by omega) (by omega) ?_
    intro g1a g1b
    refine x_icmp_ge (by omega) (by omega) (by omega) (by omega) (fun z2 => ?_) (fun z2 => ?_)
    · skip
      refine x_iload rfl ?_
      refine x_push 1 rfl ?_
      refine x_icmp_le (by omega) (by omega) (by omega) (by omega) (fun z3 => ?_) (fun z3 => ?_)
      · skip
        refine x_blk (b := 3) (a_203 E) rfl ?_
        unfold b_203_3
        refine x_iload rfl ?_
        refine x_iret ?_
        exact k _ _ C F (by omega) (by omega) 
      · skip
        refine x_aload rfl ?_
        refine x_getR (r := 138) rfl (by decide) (by decide) rfl ?_
        refine x_iload rfl ?_
        refine x_aload rfl ?_
        refine x_getR (r := 138) rfl (by decide) (by decide) rfl ?_
        refine x_push 40 rfl ?_
        refine x_iload rfl ?_
        refine x_imul ?_
        refine x_iload rfl ?_
        refine x_iadd ?_
        refine x_ialdM y_m157 (by omega) (by omega) (fun v4 v4a v4b => ?_)
        refine x_astM y_m159 F (by omega) (by omega) (by omega) (by omega) (fun S5 e5 F5 => ?_)
        have C5 := y_SI_up C e5 (fun z => absurd z (by decide)) (fun z => absurd z (by decide))
        refine x_iinc 1 rfl rfl ?_
        refine x_iinc 1 rfl rfl ?_
        refine x_X_lo (lo' := [(0, x_R 138), (2, x_I _), (3, x_I _), (4, x_I _), (5, x_I _), (6, x_I _)]) ⟨rfl, rfl, rfl, rfl, rfl, rfl, trivial⟩ ?_
        refine x_goto ?_
        refine x_G_lo (lo' := [(0, x_R 138), (2, x_I _), (3, x_I _), (4, x_I _), (5, x_I _), (6, x_I _)]) ⟨rfl, rfl, rfl, rfl, rfl, rfl, trivial⟩ ?_
        exact ih _ (by omega) _ _ _ _ rfl (by omega) (by omega) (by omega) (by omega) (by omega) (by omega) (by omega) (by omega) (by first | rfl | assumption | exact (x_up_nr (by assumption) (by decide)).trans (by assumption) | exact x_up_nr (by assumption) (by decide)) (by first | rfl | assumption | exact (x_up_nr (by assumption) (by decide)).trans (by assumption) | exact x_up_nr (by assumption) (by decide)) C5 F5
    · skip
      refine x_blk (b := 3) (a_203 E) rfl ?_
      unfold b_203_3
      refine x_iload rfl ?_
      refine x_iret ?_
      exact k _ _ C F (by omega) (by omega) 
theorem rs_203_b2 {E : q_E} {σ : x_S} {Q : Option q_V → x_S → Prop} {a1 a2 a3 : Int} (a1l : 0 ≤ a1) (a1h : a1 ≤ 4) (a2l : 0 ≤ a2) (a2h : a2 ≤ 53) (a3l : 0 ≤ a3) (a3h : a3 ≤ 53) (rq0 : (a1 < 2 ∨ (a1 = 2 ∧ σ 156 a2.toNat ≤ 39) ∨ (2 < a1 ∧ σ 156 a2.toNat + σ 156 a3.toNat ≤ 39))) (C0 : y_SI σ) (k : ∀ τ v, y_SI τ → y_rf σ τ → (-2147483648) ≤ v → v ≤ 2147483647 → Q (some (x_I v)) τ) : ∀ (N : Nat) (c n i : Int) (τ : x_S), (41 - i).toNat = N → 0 ≤ c → c ≤ 2 → 1 ≤ n → n ≤ 40 → 0 ≤ i → i ≤ 41 → (c = 0 ∨ (c = 1 ∧ n + (σ 156 a2.toNat - i) ≤ 40 ∧ σ 156 a2.toNat ≤ 39) ∨ (c = 2 ∧ n + (σ 156 a2.toNat - i) + σ 156 a3.toNat ≤ 40 ∧ σ 156 a2.toNat + σ 156 a3.toNat ≤ 39)) → i ≤ σ 156 a2.toNat → 0 ≤ σ 156 a3.toNat → τ 156 a2.toNat = σ 156 a2.toNat → τ 156 a3.toNat = σ 156 a3.toNat → y_SI τ → y_rf σ τ → x_G E m_203 Q (t_203 2) [(0, x_R 138), (2, x_I a2), (3, x_I a3), (4, x_I c), (5, x_I n), (6, x_I i)] [] τ := by
  intro N
  induction N using Nat.strongRecOn with
  | ind N ih =>
    intro c n i τ hN cL cH nL nH iL iH ex0 ex1 ex2 ex3 ex4 C F
    refine x_blk (b := 2) (a_203 E) rfl ?_
    unfold b_203_2
    refine x_iload rfl ?_
    refine x_aload rfl ?_
    refine x_getR (r := 138) rfl (by decide) (by decide) rfl ?_
    refine x_iload rfl ?_
    refine x_ialdS C (by omega) (by omega) ?_
    intro g1a g1b
    refine x_icmp_ge (by omega) (by omega) (by omega) (by omega) (fun z2 => ?_) (fun z2 => ?_)
    · skip
      refine x_iload rfl ?_
      refine x_if_le (by omega) (by omega) (fun z3 => ?_) (fun z3 => ?_)
      · skip
        refine x_blk (b := 1) (a_203 E) rfl ?_
        unfold b_203_1
        refine x_push 0 rfl ?_
        refine x_istore ?_
        refine x_fall ?_
        refine x_G_lo (lo' := [(0, x_R 138), (2, x_I _), (3, x_I _), (4, x_I _), (5, x_I _), (6, x_I _)]) ⟨rfl, rfl, rfl, rfl, rfl, rfl, trivial⟩ ?_
        exact rs_203_b4 a1l a1h a2l a2h a3l a3h rq0 C0 k  _ _ _ _ _ rfl (by omega) (by omega) (by omega) (by omega) (by omega) (by omega) (by omega) (by omega) (by first | rfl | assumption | exact (x_up_nr (by assumption) (by decide)).trans (by assumption) | exact x_up_nr (by assumption) (by decide)) (by first | rfl | assumption | exact (x_up_nr (by assumption) (by decide)).trans (by assumption) | exact x_up_nr (by assumption) (by decide)) C F
      · skip
        refine x_aload rfl ?_
        refine x_getR (r := 138) rfl (by decide) (by decide) rfl ?_
        refine x_iload rfl ?_
        refine x_aload rfl ?_
        refine x_getR (r := 138) rfl (by decide) (by decide) rfl ?_
        refine x_push 40 rfl ?_
        refine x_iload rfl ?_
        refine x_imul ?_
        refine x_iload rfl ?_
        refine x_iadd ?_
        refine x_ialdM y_m157 (by omega) (by omega) (fun v4 v4a v4b => ?_)
        refine x_astM y_m159 F (by omega) (by omega) (by omega) (by omega) (fun S5 e5 F5 => ?_)
        have C5 := y_SI_up C e5 (fun z => absurd z (by decide)) (fun z => absurd z (by decide))
        refine x_iinc 1 rfl rfl ?_
        refine x_iinc 1 rfl rfl ?_
        refine x_X_lo (lo' := [(0, x_R 138), (2, x_I _), (3, x_I _), (4, x_I _), (5, x_I _), (6, x_I _)]) ⟨rfl, rfl, rfl, rfl, rfl, rfl, trivial⟩ ?_
        refine x_goto ?_
        refine x_G_lo (lo' := [(0, x_R 138), (2, x_I _), (3, x_I _), (4, x_I _), (5, x_I _), (6, x_I _)]) ⟨rfl, rfl, rfl, rfl, rfl, rfl, trivial⟩ ?_
        exact ih _ (by omega) _ _ _ _ rfl (by omega) (by omega) (by omega) (by omega) (by omega) (by omega) (by omega) (by omega) (by omega) (by first | rfl | assumption | exact (x_up_nr (by assumption) (by decide)).trans (by assumption) | exact x_up_nr (by assumption) (by decide)) (by first | rfl | assumption | exact (x_up_nr (by assumption) (by decide)).trans (by assumption) | exact x_up_nr (by assumption) (by decide)) C5 F5
    · skip
      refine x_blk (b := 1) (a_203 E) rfl ?_
      unfold b_203_1
      refine x_push 0 rfl ?_
      refine x_istore ?_
      refine x_fall ?_
      refine x_G_lo (lo' := [(0, x_R 138), (2, x_I _), (3, x_I _), (4, x_I _), (5, x_I _), (6, x_I _)]) ⟨rfl, rfl, rfl, rfl, rfl, rfl, trivial⟩ ?_
      exact rs_203_b4 a1l a1h a2l a2h a3l a3h rq0 C0 k  _ _ _ _ _ rfl (by omega) (by omega) (by omega) (by omega) (by omega) (by omega) (by omega) (by omega) (by first | rfl | assumption | exact (x_up_nr (by assumption) (by decide)).trans (by assumption) | exact x_up_nr (by assumption) (by decide)) (by first | rfl | assumption | exact (x_up_nr (by assumption) (by decide)).trans (by assumption) | exact x_up_nr (by assumption) (by decide)) C F
theorem rs_203 {E : q_E} {σ : x_S} {Q : Option q_V → x_S → Prop} {a1 a2 a3 : Int} (a1l : 0 ≤ a1) (a1h : a1 ≤ 4) (a2l : 0 ≤ a2) (a2h : a2 ≤ 53) (a3l : 0 ≤ a3) (a3h : a3 ≤ 53) (rq0 : (a1 < 2 ∨ (a1 = 2 ∧ σ 156 a2.toNat ≤ 39) ∨ (2 < a1 ∧ σ 156 a2.toNat + σ 156 a3.toNat ≤ 39))) (C0 : y_SI σ) (k : ∀ τ v, y_SI τ → y_rf σ τ → (-2147483648) ≤ v → v ≤ 2147483647 → Q (some (x_I v)) τ) : x_P E 203 [x_R 138, x_I a1, x_I a2, x_I a3] σ Q := by
  refine x_Mt e_203 (h_203 E) (Nat.le_of_ble_eq_true rfl) t_203 rfl ?_
  refine x_blk (b := 0) (a_203 E) rfl ?_
  unfold b_203_0
  have s2 := (C0 a2.toNat (by omega)).2
  have s3 := (C0 a3.toNat (by omega)).2
  refine x_iload rfl ?_
  refine x_cS (fun _ => rfl) (Nat.le_of_ble_eq_true rfl) ?_
  refine rs_0 (by omega) (by omega) (fun v1 v1a v1b v1c => ?_)
  refine x_istore ?_
  refine x_push 1 rfl ?_
  refine x_istore ?_
  refine x_X_lo (lo' := [(0, x_R 138), (1, x_I _), (2, x_I _), (3, x_I _), (4, x_I _), (5, x_I _)]) ⟨rfl, rfl, rfl, rfl, rfl, rfl, trivial⟩ ?_
  refine x_aload rfl ?_
  refine x_getR (r := 138) rfl (by decide) (by decide) rfl ?_
  refine x_push 0 rfl ?_
  refine x_iload rfl ?_
  refine x_astM y_m159 y_rf_rf (by omega) (by omega) (by omega) (by omega) (fun S2 e2 F2 => ?_)
  have C2 := y_SI_up C0 e2 (fun z => absurd z (by decide)) (fun z => absurd z (by decide))
  refine x_push 0 rfl ?_
  refine x_istore ?_
  refine x_fall ?_
  refine x_G_lo (lo' := [(0, x_R 138), (2, x_I _), (3, x_I _), (4, x_I _), (5, x_I _), (6, x_I _)]) ⟨rfl, rfl, rfl, rfl, rfl, rfl, trivial⟩ ?_
  exact rs_203_b2 a1l a1h a2l a2h a3l a3h rq0 C0 k  _ _ _ _ _ rfl (by omega) (by omega) (by omega) (by omega) (by omega) (by omega) (by omega) (by omega) (by omega) (by first | rfl | assumption | exact (x_up_nr (by assumption) (by decide)).trans (by assumption) | exact x_up_nr (by assumption) (by decide)) (by first | rfl | assumption | exact (x_up_nr (by assumption) (by decide)).trans (by assumption) | exact x_up_nr (by assumption) (by decide)) C2 F2
theorem rs_201_b5 {E : q_E} {σ : x_S} {Q : Option q_V → x_S → Prop} {a1 : Int} (a1l : 0 ≤ a1) (a1h : a1 ≤ 1) (hP : y_PI (σ 140)) (k : ∀ τ, y_SI τ → y_rf σ τ → Q none τ) {n cd : Int} (nL : 1 ≤ n) (nH : n ≤ 40) (cdL : 0 ≤ cd) (cdH : cd ≤ 14579) (ho : ∀ (cd' : Int) (τ' : x_S), (14580 - cd').toNat < (14580 - cd).toNat → 0 ≤ cd' → cd' ≤ 14580 → y_SI τ' → y_rf σ τ' → x_G E m_201 Q (t_201 6) [(0, x_R 138), (1, x_I a1), (2, x_I n), (3, x_I cd')] [] τ') : ∀ (N : Nat) (pf i : Int) (τ : x_S), (40 - i).toNat = N → 0 ≤ pf → pf ≤ 53 → 0 ≤ i → i ≤ 40 → i ≤ n → y_SI τ → y_rf σ τ → x_G E m_201 Q (t_201 5) [(0, x_R 138), (1, x_I a1), (2, x_I n), (3, x_I cd), (7, x_I pf), (8, x_I i)] [] τ := by
  have ru := hP.2.2.2.1
  have kd := hP.1
  intro N
  induction N using Nat.strongRecOn with
  | ind N ih =>
    intro pf i τ hN pfL pfH iL iH ex0 C F
    refine x_blk (b := 5) (a_201 E) rfl ?_
    unfold b_201_5
    refine x_iload rfl ?_
    refine x_iload rfl ?_
    refine x_icmp_ge (by omega) (by omega) (by omega) (by omega) (fun z1 => ?_) (fun z1 => ?_)
    · skip
      refine x_aload rfl ?_
      refine x_getR (r := 138) rfl (by decide) (by decide) rfl ?_
      refine x_push 40 rfl ?_
      refine x_iload rfl ?_
      refine x_imul ?_
      refine x_iload rfl ?_
      refine x_iadd ?_
      refine x_aload rfl ?_
      refine x_getR (r := 138) rfl (by decide) (by decide) rfl ?_
      refine x_iload rfl ?_
      refine x_ialdM y_m159 (by omega) (by omega) (fun v2 v2a v2b => ?_)
      refine x_astM y_m157 F (by omega) (by omega) (by omega) (by omega) (fun S3 e3 F3 => ?_)
      have C3 := y_SI_up C e3 (fun z => absurd z (by decide)) (fun z => absurd z (by decide))
      refine x_iinc 1 rfl rfl ?_
      refine x_goto ?_
      refine x_G_lo (lo' := [(0, x_R 138), (1, x_I _), (2, x_I _), (3, x_I _), (7, x_I _), (8, x_I _)]) ⟨rfl, rfl, rfl, rfl, rfl, rfl, trivial⟩ ?_
      exact ih _ (by omega) _ _ _ rfl (by omega) (by omega) (by omega) (by omega) (by omega) C3 F3
    · skip
      refine x_blk (b := 3) (a_201 E) rfl ?_
      unfold b_201_3
      refine x_iinc 1 rfl rfl ?_
      refine x_goto ?_
      refine x_G_lo (lo' := [(0, x_R 138), (1, x_I _), (2, x_I _), (3, x_I _)]) ⟨rfl, rfl, rfl, rfl, trivial⟩ ?_
      exact ho _ _ (by omega) (by omega) (by omega)  C F
theorem rs_201_b6 {E : q_E} {σ : x_S} {Q : Option q_V → x_S → Prop} {a1 : Int} (a1l : 0 ≤ a1) (a1h : a1 ≤ 1) (hP : y_PI (σ 140)) (k : ∀ τ, y_SI τ → y_rf σ τ → Q none τ) {n : Int} (nL : 1 ≤ n) (nH : n ≤ 40) (ho : ∀ (n' : Int) (τ' : x_S), (41 - n').toNat < (41 - n).toNat → 1 ≤ n' → n' ≤ 41 → y_SI τ' → y_rf σ τ' → x_G E m_201 Q (t_201 7) [(0, x_R 138), (1, x_I a1), (2, x_I n')] [] τ') : ∀ (N : Nat) (cd : Int) (τ : x_S), (14580 - cd).toNat = N → 0 ≤ cd → cd ≤ 14580 → y_SI τ → y_rf σ τ → x_G E m_201 Q (t_201 6) [(0, x_R 138), (1, x_I a1), (2, x_I n), (3, x_I cd)] [] τ := by
  have ru := hP.2.2.2.1
  have kd := hP.1
  intro N
  induction N using Nat.strongRecOn with
  | ind N ih =>
    intro cd τ hN cdL cdH C F
    refine x_blk (b := 6) (a_201 E) rfl ?_
    unfold b_201_6
    refine x_iload rfl ?_
    refine x_push 14580 rfl ?_
    refine x_icmp_ge (by omega) (by omega) (by omega) (by omega) (fun z1 => ?_) (fun z1 => ?_)
    · skip
      refine x_iload rfl ?_
      refine x_push 2916 rfl ?_
      refine x_idiv (by omega) (by omega) (by omega) (by omega) ?_
      refine x_istore ?_
      refine x_iload rfl ?_
      refine x_push 54 rfl ?_
      refine x_idiv (by omega) (by omega) (by omega) (by omega) ?_
      refine x_push 54 rfl ?_
      refine x_irem (by omega) (by omega) (by omega) (by omega) ?_
      refine x_istore ?_
      refine x_X_lo (lo' := [(0, x_R 138), (1, x_I _), (2, x_I _), (3, x_I _), (4, x_I _), (5, x_I _)]) ⟨rfl, rfl, rfl, rfl, rfl, rfl, trivial⟩ ?_
      refine x_iload rfl ?_
      refine x_push 54 rfl ?_
      refine x_irem (by omega) (by omega) (by omega) (by omega) ?_
      refine x_istore ?_
      refine x_aload rfl ?_
      refine x_iload rfl ?_
      refine x_iload rfl ?_
      refine x_iload rfl ?_
      refine x_cV (fun _ => rfl) rfl (by decide) (Nat.le_of_ble_eq_true rfl) ?_
      refine rs_1 (by omega) (by omega) (by omega) (by omega) (by omega) (by omega) C (fun v2 v2a v2b => ?_)
      refine x_if_eq (by omega) (by omega) (fun z3 => ?_) (fun z3 => ?_)
      · skip
        refine x_blk (b := 3) (a_201 E) rfl ?_
        unfold b_201_3
        refine x_iinc 1 rfl rfl ?_
        refine x_X_lo (lo' := [(0, x_R 138), (1, x_I _), (2, x_I _), (3, x_I _), (4, x_I _), (5, x_I _), (6, x_I _)]) ⟨rfl, rfl, rfl, rfl, rfl, rfl, rfl, trivial⟩ ?_
        refine x_goto ?_
        refine x_G_lo (lo' := [(0, x_R 138), (1, x_I _), (2, x_I _), (3, x_I _)]) ⟨rfl, rfl, rfl, rfl, trivial⟩ ?_
        exact ih _ (by omega) _ _ rfl (by omega) (by omega)  C F
      · skip
        refine x_aload rfl ?_
        refine x_iload rfl ?_
        refine x_iload rfl ?_
        refine x_iload rfl ?_
        refine x_cV (fun _ => rfl) rfl (by decide) (Nat.le_of_ble_eq_true rfl) ?_
        refine rs_202 (by omega) (by omega) (by omega) (by omega) (by omega) (by omega) C (fun v4 v4a v4b k4_0 => ?_)
        refine x_iload rfl ?_
        refine x_icmp_ne (by omega) (by omega) (by omega) (by omega) (fun z5 => ?_) (fun z5 => ?_)
        · skip
          refine x_aload rfl ?_
          refine x_iload rfl ?_
          refine x_iload rfl ?_
          refine x_iload rfl ?_
          refine x_iload rfl ?_
          refine x_cV (fun _ => rfl) rfl (by decide) (Nat.le_of_ble_eq_true rfl) ?_
          refine rs_29 (by omega) (by omega) (by omega) (by omega) (by omega) (by omega) (by omega) (by omega) (y_rf_P F hP) (fun S6 v6 f6 v6a v6b k6_0 => ?_)
          have F6 := y_rf_tr F f6
          have C6 := y_so_C C k6_0
          refine x_istore ?_
          refine x_X_lo (lo' := [(0, x_R 138), (1, x_I _), (2, x_I _), (3, x_I _), (4, x_I _), (5, x_I _), (6, x_I _), (7, x_I _)]) ⟨rfl, rfl, rfl, rfl, rfl, rfl, rfl, rfl, trivial⟩ ?_
          refine x_aload rfl ?_
          refine x_getR (r := 138) rfl (by decide) (by decide) rfl ?_
          refine x_iload rfl ?_
          refine x_ialdS C6 (by omega) (by omega) ?_
          intro g7a g7b
          refine x_iload rfl ?_
          refine x_icmp_lt (by omega) (by omega) (by omega) (by omega) (fun z8 => ?_) (fun z8 => ?_)
          · skip
            refine x_blk (b := 3) (a_201 E) rfl ?_
            unfold b_201_3
            refine x_iinc 1 rfl rfl ?_
            refine x_goto ?_
            refine x_G_lo (lo' := [(0, x_R 138), (1, x_I _), (2, x_I _), (3, x_I _)]) ⟨rfl, rfl, rfl, rfl, trivial⟩ ?_
            exact ih _ (by omega) _ _ rfl (by omega) (by omega)  C6 F6
          · skip
            refine x_aload rfl ?_
            refine x_iload rfl ?_
            have b1 := k6_0 156 (cd / 54 % 54).toNat (by decide)
            have b2 := k6_0 156 (cd % 54).toNat (by decide)
            refine x_iload rfl ?_
            refine x_iload rfl ?_
            refine x_cV (fun _ => rfl) rfl (by decide) (Nat.le_of_ble_eq_true rfl) ?_
            refine rs_203 (by omega) (by omega) (by omega) (by omega) (by omega) (by omega) (by omega) C6 (fun S9 v9 C9 f9 v9a v9b => ?_)
            have F9 := y_rf_tr F6 f9
            refine x_pop rfl ?_
            refine x_aload rfl ?_
            refine x_fall ?_
            refine x_blk (b := 8) (a_201 E) rfl ?_
            unfold b_201_8
            refine x_getR (r := 138) rfl (by decide) (by decide) rfl ?_
            refine x_iload rfl ?_
            refine x_ialdS C9 (by omega) (by omega) ?_
            intro g10a g10b
            refine x_iload rfl ?_
            refine x_icmp_gt (by omega) (by omega) (by omega) (by omega) (fun z11 => ?_) (fun z11 => ?_)
            · skip
              refine x_aload rfl ?_
              refine x_iload rfl ?_
              refine x_iload rfl ?_
              refine x_cV (fun _ => rfl) rfl (by decide) (Nat.le_of_ble_eq_true rfl) ?_
              refine rs_204 (by omega) (by omega) (by omega) (by omega) (fun v12 v12a v12b => ?_)
              refine x_if_eq (by omega) (by omega) (fun z13 => ?_) (fun z13 => ?_)
              · skip
                refine x_blk (b := 3) (a_201 E) rfl ?_
                unfold b_201_3
                refine x_iinc 1 rfl rfl ?_
                refine x_goto ?_
                refine x_G_lo (lo' := [(0, x_R 138), (1, x_I _), (2, x_I _), (3, x_I _)]) ⟨rfl, rfl, rfl, rfl, trivial⟩ ?_
                exact ih _ (by omega) _ _ rfl (by omega) (by omega)  C9 F9
              · skip
                refine x_fall ?_
                refine x_blk (b := 4) (a_201 E) rfl ?_
                unfold b_201_4
                refine x_aload rfl ?_
                refine x_getR (r := 138) rfl (by decide) (by decide) rfl ?_
                refine x_iload rfl ?_
                refine x_iload rfl ?_
                refine x_astM y_m156 F9 (by omega) (by omega) (by omega) (by omega) (fun S14 e14 F14 => ?_)
                have C14 := y_SI_up C9 e14 (fun z => absurd z (by decide)) (fun _ => by omega)
                refine x_push 0 rfl ?_
                refine x_istore ?_
                refine x_fall ?_
                refine x_G_lo (lo' := [(0, x_R 138), (1, x_I _), (2, x_I _), (3, x_I _), (7, x_I _), (8, x_I _)]) ⟨rfl, rfl, rfl, rfl, rfl, rfl, trivial⟩ ?_
                exact rs_201_b5 a1l a1h hP k (by omega) (by omega) (by omega) (by omega)  (fun x0 t z h0 h1 c f => ih _ (by omega) x0 t rfl h0 h1 c f) _ _ _ _ rfl (by omega) (by omega) (by omega) (by omega) (by omega) C14 F14
            · skip
              refine x_blk (b := 4) (a_201 E) rfl ?_
              unfold b_201_4
              refine x_aload rfl ?_
              refine x_getR (r := 138) rfl (by decide) (by decide) rfl ?_
              refine x_iload rfl ?_
              refine x_iload rfl ?_
              refine x_astM y_m156 F9 (by omega) (by omega) (by omega) (by omega) (fun S15 e15 F15 => ?_)
              have C15 := y_SI_up C9 e15 (fun z => absurd z (by decide)) (fun _ => by omega)
              refine x_push 0 rfl ?_
              refine x_istore ?_
              refine x_fall ?_
              refine x_G_lo (lo' := [(0, x_R 138), (1, x_I _), (2, x_I _), (3, x_I _), (7, x_I _), (8, x_I _)]) ⟨rfl, rfl, rfl, rfl, rfl, rfl, trivial⟩ ?_
              exact rs_201_b5 a1l a1h hP k (by omega) (by omega) (by omega) (by omega)  (fun x0 t z h0 h1 c f => ih _ (by omega) x0 t rfl h0 h1 c f) _ _ _ _ rfl (by omega) (by omega) (by omega) (by omega) (by omega) C15 F15
        · skip
          refine x_blk (b := 3) (a_201 E) rfl ?_
          unfold b_201_3
          refine x_iinc 1 rfl rfl ?_
          refine x_X_lo (lo' := [(0, x_R 138), (1, x_I _), (2, x_I _), (3, x_I _), (4, x_I _), (5, x_I _), (6, x_I _)]) ⟨rfl, rfl, rfl, rfl, rfl, rfl, rfl, trivial⟩ ?_
          refine x_goto ?_
          refine x_G_lo (lo' := [(0, x_R 138), (1, x_I _), (2, x_I _), (3, x_I _)]) ⟨rfl, rfl, rfl, rfl, trivial⟩ ?_
          exact ih _ (by omega) _ _ rfl (by omega) (by omega)  C F
    · skip
      refine x_blk (b := 2) (a_201 E) rfl ?_
      unfold b_201_2
      refine x_iinc 1 rfl rfl ?_
      refine x_goto ?_
      refine x_G_lo (lo' := [(0, x_R 138), (1, x_I _), (2, x_I _)]) ⟨rfl, rfl, rfl, trivial⟩ ?_
      exact ho _ _ (by omega) (by omega) (by omega)  C F
theorem rs_201_b7 {E : q_E} {σ : x_S} {Q : Option q_V → x_S → Prop} {a1 : Int} (a1l : 0 ≤ a1) (a1h : a1 ≤ 1) (hP : y_PI (σ 140)) (k : ∀ τ, y_SI τ → y_rf σ τ → Q none τ) : ∀ (N : Nat) (n : Int) (τ : x_S), (41 - n).toNat = N → 1 ≤ n → n ≤ 41 → y_SI τ → y_rf σ τ → x_G E m_201 Q (t_201 7) [(0, x_R 138), (1, x_I a1), (2, x_I n)] [] τ := by
  have ru := hP.2.2.2.1
  have kd := hP.1
  intro N
  induction N using Nat.strongRecOn with
  | ind N ih =>
    intro n τ hN nL nH C F
    refine x_blk (b := 7) (a_201 E) rfl ?_
    unfold b_201_7
    refine x_iload rfl ?_
    refine x_push 41 rfl ?_
    refine x_icmp_ge (by omega) (by omega) (by omega) (by omega) (fun z1 => ?_) (fun z1 => ?_)
    · skip
      refine x_push 0 rfl ?_
      refine x_istore ?_
      refine x_fall ?_
      refine x_G_lo (lo' := [(0, x_R 138), (1, x_I _), (2, x_I _), (3, x_I _)]) ⟨rfl, rfl, rfl, rfl, trivial⟩ ?_
      exact rs_201_b6 a1l a1h hP k (by omega) (by omega)  (fun x0 t z h0 h1 c f => ih _ (by omega) x0 t rfl h0 h1 c f) _ _ _ rfl (by omega) (by omega)  C F
    · skip
      refine x_blk (b := 1) (a_201 E) rfl ?_
      unfold b_201_1
      refine x_vret ?_
      exact k _ C F 
theorem rs_201 {E : q_E} {σ : x_S} {Q : Option q_V → x_S → Prop} {a1 : Int} (a1l : 0 ≤ a1) (a1h : a1 ≤ 1) (hP : y_PI (σ 140)) (k : ∀ τ, y_SI τ → y_rf σ τ → Q none τ) : x_P E 201 [x_R 138, x_I a1] σ Q := by
  have ru := hP.2.2.2.1
  have kd := hP.1
  refine x_Mt e_201 (h_201 E) (Nat.le_of_ble_eq_true rfl) t_201 rfl ?_
  refine x_blk (b := 0) (a_201 E) rfl ?_
  unfold b_201_0
  refine x_aload rfl ?_
  refine x_iload rfl ?_
  refine x_cV (fun _ => rfl) rfl (by decide) (Nat.le_of_ble_eq_true rfl) ?_
  refine rs_118 (by omega) (by omega) hP (fun S1 C1 f1 => ?_)
  have F1 := y_rf_tr y_rf_rf f1
  refine x_push 1 rfl ?_
  refine x_istore ?_
  refine x_fall ?_
  refine x_G_lo (lo' := [(0, x_R 138), (1, x_I _), (2, x_I _)]) ⟨rfl, rfl, rfl, trivial⟩ ?_
  exact rs_201_b7 a1l a1h hP k  _ _ _ rfl (by omega) (by omega)  C1 F1
theorem rs_206_b6 {E : q_E} {σ : x_S} {Q : Option q_V → x_S → Prop} {a1 a2 a3 a4 : Int} (a1l : 0 ≤ a1) (a1h : a1 ≤ 1) (a2l : (-2147483648) ≤ a2) (a2h : a2 ≤ 2147483647) (a3l : (-2147483648) ≤ a3) (a3h : a3 ≤ 2147483647) (a4l : (-2147483648) ≤ a4) (a4h : a4 ≤ 2147483647) (hP : y_PI (σ 140)) (k : ∀ τ v, y_SI τ → y_rf σ τ → (-4) ≤ v → v ≤ 53 → Q (some (x_I v)) τ) : ∀ (N : Nat) (b i : Int) (τ : x_S), (54 - i).toNat = N → (-4) ≤ b → b ≤ 53 → 0 ≤ i → i ≤ 54 → (b = -4 ∨ 0 ≤ b) → y_SI τ → y_rf σ τ → x_G E m_206 Q (t_206 6) [(0, x_R 138), (2, x_I a2), (3, x_I a3), (4, x_I a4), (5, x_I b), (6, x_I i)] [] τ := by
  have ru := hP.2.2.2.1
  have kd := hP.1
  intro N
  induction N using Nat.strongRecOn with
  | ind N ih =>
    intro b i τ hN bL bH iL iH ex0 C F
    refine x_blk (b := 6) (a_206 E) rfl ?_
    unfold b_206_6
    refine x_iload rfl ?_
    refine x_push 54 rfl ?_
    refine x_icmp_ge (by omega) (by omega) (by omega) (by omega) (fun z1 => ?_) (fun z1 => ?_)
    · skip
      refine x_aload rfl ?_
      refine x_getR (r := 138) rfl (by decide) (by decide) rfl ?_
      refine x_iload rfl ?_
      refine x_aldS C (by omega) (by omega) ?_
      intro g2a g2b
      refine x_if_eq (by omega) (by omega) (fun z3 => ?_) (fun z3 => ?_)
      · skip
        refine x_blk (b := 2) (a_206 E) rfl ?_
        unfold b_206_2
        refine x_iinc 1 rfl rfl ?_
        refine x_goto ?_
        refine x_G_lo (lo' := [(0, x_R 138), (2, x_I _), (3, x_I _), (4, x_I _), (5, x_I _), (6, x_I _)]) ⟨rfl, rfl, rfl, rfl, rfl, rfl, trivial⟩ ?_
        exact ih _ (by omega) _ _ _ rfl (by omega) (by omega) (by omega) (by omega) (by omega) C F
      · skip
        refine x_iload rfl ?_
        refine x_iload rfl ?_
        refine x_cS (fun _ => rfl) (Nat.le_of_ble_eq_true rfl) ?_
        refine rs_33 (by omega) (by omega) (by omega) (by omega) (fun v4 v4a v4b => ?_)
        refine x_iload rfl ?_
        refine x_icmp_ne (by omega) (by omega) (by omega) (by omega) (fun z5 => ?_) (fun z5 => ?_)
        · skip
          refine x_iload rfl ?_
          refine x_push (-4) rfl ?_
          refine x_icmp_eq (by omega) (by omega) (by omega) (by omega) (fun z6 => ?_) (fun z6 => ?_)
          · skip
            refine x_blk (b := 3) (a_206 E) rfl ?_
            unfold b_206_3
            refine x_iload rfl ?_
            refine x_goto ?_
            refine x_blk (b := 5) (a_206 E) rfl ?_
            unfold b_206_5
            refine x_istore ?_
            refine x_fall ?_
            refine x_blk (b := 2) (a_206 E) rfl ?_
            unfold b_206_2
            refine x_iinc 1 rfl rfl ?_
            refine x_X_lo (lo' := [(0, x_R 138), (2, x_I _), (3, x_I _), (4, x_I _), (5, x_I _), (6, x_I _)]) ⟨rfl, rfl, rfl, rfl, rfl, rfl, trivial⟩ ?_
            refine x_goto ?_
            refine x_G_lo (lo' := [(0, x_R 138), (2, x_I _), (3, x_I _), (4, x_I _), (5, x_I _), (6, x_I _)]) ⟨rfl, rfl, rfl, rfl, rfl, rfl, trivial⟩ ?_
            exact ih _ (by omega) _ _ _ rfl (by omega) (by omega) (by omega) (by omega) (by omega) C F
          · skip
            refine x_aload rfl ?_
            refine x_getR (r := 138) rfl (by decide) (by decide) rfl ?_
            refine x_iload rfl ?_
            refine x_ialdS C (by omega) (by omega) ?_
            intro g7a g7b
            refine x_push 41 rfl ?_
            refine x_icmp_ge (by omega) (by omega) (by omega) (by omega) (fun z8 => ?_) (fun z8 => ?_)
            · skip
              refine x_aload rfl ?_
              refine x_iload rfl ?_
              refine x_iload rfl ?_
              refine x_cV (fun _ => rfl) rfl (by decide) (Nat.le_of_ble_eq_true rfl) ?_
              refine rs_207 (by omega) (by omega) (by omega) (by omega) (by omega) C (fun v9 v9a v9b => ?_)
              refine x_if_eq (by omega) (by omega) (fun z10 => ?_) (fun z10 => ?_)
              · skip
                refine x_blk (b := 4) (a_206 E) rfl ?_
                unfold b_206_4
                refine x_iload rfl ?_
                refine x_fall ?_
                refine x_blk (b := 5) (a_206 E) rfl ?_
                unfold b_206_5
                refine x_istore ?_
                refine x_fall ?_
                refine x_blk (b := 2) (a_206 E) rfl ?_
                unfold b_206_2
                refine x_iinc 1 rfl rfl ?_
                refine x_X_lo (lo' := [(0, x_R 138), (2, x_I _), (3, x_I _), (4, x_I _), (5, x_I _), (6, x_I _)]) ⟨rfl, rfl, rfl, rfl, rfl, rfl, trivial⟩ ?_
                refine x_goto ?_
                refine x_G_lo (lo' := [(0, x_R 138), (2, x_I _), (3, x_I _), (4, x_I _), (5, x_I _), (6, x_I _)]) ⟨rfl, rfl, rfl, rfl, rfl, rfl, trivial⟩ ?_
                exact ih _ (by omega) _ _ _ rfl (by omega) (by omega) (by omega) (by omega) (by omega) C F
              · skip
                refine x_fall ?_
                refine x_blk (b := 3) (a_206 E) rfl ?_
                unfold b_206_3
                refine x_iload rfl ?_
                refine x_goto ?_
                refine x_blk (b := 5) (a_206 E) rfl ?_
                unfold b_206_5
                refine x_istore ?_
                refine x_fall ?_
                refine x_blk (b := 2) (a_206 E) rfl ?_
                unfold b_206_2
                refine x_iinc 1 rfl rfl ?_
                refine x_X_lo (lo' := [(0, x_R 138), (2, x_I _), (3, x_I _), (4, x_I _), (5, x_I _), (6, x_I _)]) ⟨rfl, rfl, rfl, rfl, rfl, rfl, trivial⟩ ?_
                refine x_goto ?_
                refine x_G_lo (lo' := [(0, x_R 138), (2, x_I _), (3, x_I _), (4, x_I _), (5, x_I _), (6, x_I _)]) ⟨rfl, rfl, rfl, rfl, rfl, rfl, trivial⟩ ?_
                exact ih _ (by omega) _ _ _ rfl (by omega) (by omega) (by omega) (by omega) (by omega) C F
            · skip
              refine x_blk (b := 4) (a_206 E) rfl ?_
              unfold b_206_4
              refine x_iload rfl ?_
              refine x_fall ?_
              refine x_blk (b := 5) (a_206 E) rfl ?_
              unfold b_206_5
              refine x_istore ?_
              refine x_fall ?_
              refine x_blk (b := 2) (a_206 E) rfl ?_
              unfold b_206_2
              refine x_iinc 1 rfl rfl ?_
              refine x_X_lo (lo' := [(0, x_R 138), (2, x_I _), (3, x_I _), (4, x_I _), (5, x_I _), (6, x_I _)]) ⟨rfl, rfl, rfl, rfl, rfl, rfl, trivial⟩ ?_
              refine x_goto ?_
              refine x_G_lo (lo' := [(0, x_R 138), (2, x_I _), (3, x_I _), (4, x_I _), (5, x_I _), (6, x_I _)]) ⟨rfl, rfl, rfl, rfl, rfl, rfl, trivial⟩ ?_
              exact ih _ (by omega) _ _ _ rfl (by omega) (by omega) (by omega) (by omega) (by omega) C F
        · skip
          refine x_blk (b := 2) (a_206 E) rfl ?_
          unfold b_206_2
          refine x_iinc 1 rfl rfl ?_
          refine x_goto ?_
          refine x_G_lo (lo' := [(0, x_R 138), (2, x_I _), (3, x_I _), (4, x_I _), (5, x_I _), (6, x_I _)]) ⟨rfl, rfl, rfl, rfl, rfl, rfl, trivial⟩ ?_
          exact ih _ (by omega) _ _ _ rfl (by omega) (by omega) (by omega) (by omega) (by omega) C F
    · skip
      refine x_blk (b := 1) (a_206 E) rfl ?_
      unfold b_206_1
      refine x_iload rfl ?_
      refine x_if_ne (by omega) (by omega) (fun z11 => ?_) (fun z11 => ?_)
      · skip
        refine x_iload rfl ?_
        refine x_push (-4) rfl ?_
        refine x_icmp_ne (by omega) (by omega) (by omega) (by omega) (fun z12 => ?_) (fun z12 => ?_)
        · skip
          refine x_push 0 rfl ?_
          refine x_goto ?_
          refine x_blk (b := 9) (a_206 E) rfl ?_
          unfold b_206_9
          refine x_iret ?_
          exact k _ _ C F (by omega) (by omega) 
        · skip
          refine x_blk (b := 8) (a_206 E) rfl ?_
          unfold b_206_8
          refine x_aload rfl ?_
          refine x_getR (r := 138) rfl (by decide) (by decide) rfl ?_
          refine x_iload rfl ?_
          refine x_ialdS C (by omega) (by omega) ?_
          intro g13a g13b
          refine x_fall ?_
          refine x_blk (b := 9) (a_206 E) rfl ?_
          unfold b_206_9
          refine x_iret ?_
          exact k _ _ C F (by omega) (by omega) 
      · skip
        refine x_blk (b := 7) (a_206 E) rfl ?_
        unfold b_206_7
        refine x_iload rfl ?_
        refine x_push (-4) rfl ?_
        refine x_icmp_eq (by omega) (by omega) (by omega) (by omega) (fun z14 => ?_) (fun z14 => ?_)
        · skip
          refine x_blk (b := 10) (a_206 E) rfl ?_
          unfold b_206_10
          refine x_push (-4) rfl ?_
          refine x_goto ?_
          refine x_blk (b := 12) (a_206 E) rfl ?_
          unfold b_206_12
          refine x_iret ?_
          exact k _ _ C F (by omega) (by omega) 
        · skip
          refine x_aload rfl ?_
          refine x_getR (r := 138) rfl (by decide) (by decide) rfl ?_
          refine x_iload rfl ?_
          refine x_ialdS C (by omega) (by omega) ?_
          intro g15a g15b
          refine x_push 41 rfl ?_
          refine x_icmp_ne (by omega) (by omega) (by omega) (by omega) (fun z16 => ?_) (fun z16 => ?_)
          · skip
            refine x_fall ?_
            refine x_blk (b := 10) (a_206 E) rfl ?_
            unfold b_206_10
            refine x_push (-4) rfl ?_
            refine x_goto ?_
            refine x_blk (b := 12) (a_206 E) rfl ?_
            unfold b_206_12
            refine x_iret ?_
            exact k _ _ C F (by omega) (by omega) 
          · skip
            refine x_blk (b := 11) (a_206 E) rfl ?_
            unfold b_206_11
            refine x_iload rfl ?_
            refine x_fall ?_
            refine x_blk (b := 12) (a_206 E) rfl ?_
            unfold b_206_12
            refine x_iret ?_
            exact k _ _ C F (by omega) (by omega) 
theorem rs_206 {E : q_E} {σ : x_S} {Q : Option q_V → x_S → Prop} {a1 a2 a3 a4 : Int} (a1l : 0 ≤ a1) (a1h : a1 ≤ 1) (a2l : (-2147483648) ≤ a2) (a2h : a2 ≤ 2147483647) (a3l : (-2147483648) ≤ a3) (a3h : a3 ≤ 2147483647) (a4l : (-2147483648) ≤ a4) (a4h : a4 ≤ 2147483647) (hP : y_PI (σ 140)) (k : ∀ τ v, y_SI τ → y_rf σ τ → (-4) ≤ v → v ≤ 53 → Q (some (x_I v)) τ) : x_P E 206 [x_R 138, x_I a1, x_I a2, x_I a3, x_I a4] σ Q := by
  have ru := hP.2.2.2.1
  have kd := hP.1
  refine x_Mt e_206 (h_206 E) (Nat.le_of_ble_eq_true rfl) t_206 rfl ?_
  refine x_blk (b := 0) (a_206 E) rfl ?_
  unfold b_206_0
  refine x_aload rfl ?_
  refine x_iload rfl ?_
  refine x_cV (fun _ => rfl) rfl (by decide) (Nat.le_of_ble_eq_true rfl) ?_
  refine rs_201 (by omega) (by omega) hP (fun S1 C1 f1 => ?_)
  have F1 := y_rf_tr y_rf_rf f1
  refine x_push (-4) rfl ?_
  refine x_istore ?_
  refine x_push 0 rfl ?_
  refine x_istore ?_
  refine x_X_lo (lo' := [(0, x_R 138), (1, x_I _), (2, x_I _), (3, x_I _), (4, x_I _), (5, x_I _), (6, x_I _)]) ⟨rfl, rfl, rfl, rfl, rfl, rfl, rfl, trivial⟩ ?_
  refine x_fall ?_
  refine x_G_lo (lo' := [(0, x_R 138), (2, x_I _), (3, x_I _), (4, x_I _), (5, x_I _), (6, x_I _)]) ⟨rfl, rfl, rfl, rfl, rfl, rfl, trivial⟩ ?_
  exact rs_206_b6 a1l a1h a2l a2h a3l a3h a4l a4h hP k  _ _ _ _ rfl (by omega) (by omega) (by omega) (by omega) (by omega) C1 F1
theorem rs_181 {E : q_E} {σ : x_S} {Q : Option q_V → x_S → Prop} {a1 a2 a3 : Int} (a1l : (-2147483648) ≤ a1) (a1h : a1 ≤ 2147483647) (a2l : (-2147483648) ≤ a2) (a2h : a2 ≤ 2147483647) (a3l : (-2147483648) ≤ a3) (a3h : a3 ≤ 2147483647) (hR : y_RI σ) (k : y_KQ Q σ) : x_P E 181 [x_R 138, x_I a1, x_I a2, x_I a3] σ Q := by
  obtain ⟨rl, hP, ru5, rb, rk, rc⟩ := id hR
  have ru := hP.2.2.2.1
  have kd := hP.1
  refine x_Mt e_181 (h_181 E) (Nat.le_of_ble_eq_true rfl) t_181 rfl ?_
  refine x_blk (b := 0) (a_181 E) rfl ?_
  unfold b_181_0
  refine x_iload rfl ?_
  refine x_cS (fun _ => rfl) (Nat.le_of_ble_eq_true rfl) ?_
  refine c_64 (by omega) (by omega) (fun y1 => ?_) (fun y1 => ?_)
  · skip
    refine x_if_eq (by omega) (by omega) (fun z => absurd z (by omega)) (fun z2 => ?_)
    refine x_aload rfl ?_
    refine x_iload rfl ?_
    refine x_iload rfl ?_
    refine x_cV (fun _ => rfl) rfl (by decide) (Nat.le_of_ble_eq_true rfl) ?_
    refine c_92 (by omega) (by omega) (by omega) (by omega) hP (fun y3 => ?_) (fun y3 => ?_)
    · skip
      refine x_if_ne (by omega) (by omega) (fun z => absurd z (by omega)) (fun z4 => ?_)
      refine x_blk (b := 2) (a_181 E) rfl ?_
      unfold b_181_2
      have ht := y_szt hP (t := a2) (by omega) (by omega)
      refine x_aload rfl ?_
      refine x_iload rfl ?_
      refine x_iload rfl ?_
      refine x_cV (fun _ => rfl) rfl (by decide) (Nat.le_of_ble_eq_true rfl) ?_
      refine rs_80 (by omega) (by omega) (by omega) (by omega) hP (fun S5 f5 k5_0 k5_1 => ?_)
      have F5 := y_rf_tr y_rf_rf f5
      refine x_aload rfl ?_
      refine x_getR (r := 138) rfl (by decide) (by decide) rfl ?_
      refine x_iload rfl ?_
      refine x_ialdM y_m147 (by omega) (by omega) (fun v6 v6a v6b => ?_)
      refine x_iret ?_
      exact k _ _ F5 (by omega) (by omega)
    · skip
      refine x_if_ne (by omega) (by omega) (fun z7 => ?_) (fun z => absurd (by omega) z)
      refine x_fall ?_
      refine x_blk (b := 1) (a_181 E) rfl ?_
      unfold b_181_1
      refine x_push (-1) rfl ?_
      refine x_iret ?_
      exact k _ _ y_rf_rf (by omega) (by omega)
  · skip
    refine x_if_eq (by omega) (by omega) (fun z8 => ?_) (fun z => absurd (by omega) z)
    refine x_blk (b := 1) (a_181 E) rfl ?_
    unfold b_181_1
    refine x_push (-1) rfl ?_
    refine x_iret ?_
    exact k _ _ y_rf_rf (by omega) (by omega)
theorem rs_191 {E : q_E} {σ : x_S} {Q : Option q_V → x_S → Prop} {a1 a2 a3 a4 : Int} (a1l : (-2147483648) ≤ a1) (a1h : a1 ≤ 2147483647) (a2l : (-2147483648) ≤ a2) (a2h : a2 ≤ 2147483647) (a3l : (-2147483648) ≤ a3) (a3h : a3 ≤ 2147483647) (a4l : (-2147483648) ≤ a4) (a4h : a4 ≤ 2147483647) (hR : y_RI σ) (k : y_KQ Q σ) : x_P E 191 [x_R 138, x_I a1, x_I a2, x_I a3, x_I a4] σ Q := by
  obtain ⟨rl, hP, ru5, rb, rk, rc⟩ := id hR
  have ru := hP.2.2.2.1
  have kd := hP.1
  refine x_Mt e_191 (h_191 E) (Nat.le_of_ble_eq_true rfl) t_191 rfl ?_
  refine x_blk (b := 0) (a_191 E) rfl ?_
  unfold b_191_0
  refine x_iload rfl ?_
  refine x_cS (fun _ => rfl) (Nat.le_of_ble_eq_true rfl) ?_
  refine c_64 (by omega) (by omega) (fun y1 => ?_) (fun y1 => ?_)
  · skip
    refine x_if_eq (by omega) (by omega) (fun z => absurd z (by omega)) (fun z2 => ?_)
    refine x_iload rfl ?_
    refine x_i2l (by omega) (by omega) ?_
    refine x_pushL 0 rfl ?_
    refine x_pushL 2 rfl ?_
    refine x_cS (fun _ => rfl) (Nat.le_of_ble_eq_true rfl) ?_
    refine c_45 (by omega) (by omega) (by omega) (by omega) (by omega) (by omega) (fun y3 => ?_) (fun y3 => ?_)
    · skip
      refine x_if_eq (by omega) (by omega) (fun z => absurd z (by omega)) (fun z4 => ?_)
      refine x_iload rfl ?_
      refine x_cS (fun _ => rfl) (Nat.le_of_ble_eq_true rfl) ?_
      refine c_67 (by omega) (by omega) (fun y5 => ?_) (fun y5 => ?_)
      · skip
        refine x_if_eq (by omega) (by omega) (fun z => absurd z (by omega)) (fun z6 => ?_)
        refine x_iload rfl ?_
        refine x_push (-1) rfl ?_
        refine x_icmp_ge (by omega) (by omega) (by omega) (by omega) (fun z7 => ?_) (fun z7 => ?_)
        · skip
          refine x_fall ?_
          refine x_blk (b := 1) (a_191 E) rfl ?_
          unfold b_191_1
          refine x_push (-1) rfl ?_
          refine x_iret ?_
          exact k _ _ y_rf_rf (by omega) (by omega)
        · skip
          refine x_blk (b := 2) (a_191 E) rfl ?_
          unfold b_191_2
          refine x_aload rfl ?_
          refine x_iload rfl ?_
          refine x_push 0 rfl ?_
          refine x_cV (fun _ => rfl) rfl (by decide) (Nat.le_of_ble_eq_true rfl) ?_
          refine rs_80 (by omega) (by omega) (by omega) (by omega) hP (fun S8 f8 k8_0 k8_1 => ?_)
          have F8 := y_rf_tr y_rf_rf f8
          refine x_aload rfl ?_
          refine x_aload rfl ?_
          refine x_iload rfl ?_
          refine x_iload rfl ?_
          refine x_cV (fun _ => rfl) rfl (by decide) (Nat.le_of_ble_eq_true rfl) ?_
          refine rs_94 (by omega) (by omega) (by omega) (by omega) (by assumption) (y_rf_P F8 hP) (fun S9 v9 f9 v9a v9b k9_0 k9_1 => ?_)
          have F9 := y_rf_tr F8 f9
          refine x_push (-10) rfl ?_
          refine x_iload rfl ?_
          refine x_cV (fun _ => rfl) rfl (by decide) (Nat.le_of_ble_eq_true rfl) ?_
          refine rs_96 (by omega) (by omega) (by omega) (by omega) (by omega) (by omega) (by omega) (fun v10 v10a v10b => ?_)
          refine x_iret ?_
          exact k _ _ F9 (by omega) (by omega)
      · skip
        refine x_if_eq (by omega) (by omega) (fun z11 => ?_) (fun z => absurd (by omega) z)
        refine x_blk (b := 1) (a_191 E) rfl ?_
        unfold b_191_1
        refine x_push (-1) rfl ?_
        refine x_iret ?_
        exact k _ _ y_rf_rf (by omega) (by omega)
    · skip
      refine x_if_eq (by omega) (by omega) (fun z12 => ?_) (fun z => absurd (by omega) z)
      refine x_blk (b := 1) (a_191 E) rfl ?_
      unfold b_191_1
      refine x_push (-1) rfl ?_
      refine x_iret ?_
      exact k _ _ y_rf_rf (by omega) (by omega)
  · skip
    refine x_if_eq (by omega) (by omega) (fun z13 => ?_) (fun z => absurd (by omega) z)
    refine x_blk (b := 1) (a_191 E) rfl ?_
    unfold b_191_1
    refine x_push (-1) rfl ?_
    refine x_iret ?_
    exact k _ _ y_rf_rf (by omega) (by omega)
theorem rs_193 {E : q_E} {σ : x_S} {Q : Option q_V → x_S → Prop} {a1 a2 : Int} (a1l : (-2147483648) ≤ a1) (a1h : a1 ≤ 2147483647) (a2l : (-2147483648) ≤ a2) (a2h : a2 ≤ 2147483647) (hR : y_RI σ) (k : y_KQ Q σ) : x_P E 193 [x_R 138, x_I a1, x_I a2] σ Q := by
  obtain ⟨rl, hP, ru5, rb, rk, rc⟩ := id hR
  have ru := hP.2.2.2.1
  have kd := hP.1
  refine x_Mt e_193 (h_193 E) (Nat.le_of_ble_eq_true rfl) t_193 rfl ?_
  refine x_blk (b := 0) (a_193 E) rfl ?_
  unfold b_193_0
  refine x_iload rfl ?_
  refine x_cS (fun _ => rfl) (Nat.le_of_ble_eq_true rfl) ?_
  refine c_67 (by omega) (by omega) (fun y1 => ?_) (fun y1 => ?_)
  · skip
    refine x_if_eq (by omega) (by omega) (fun z => absurd z (by omega)) (fun z2 => ?_)
    refine x_iload rfl ?_
    refine x_push (-1) rfl ?_
    refine x_icmp_ge (by omega) (by omega) (by omega) (by omega) (fun z3 => ?_) (fun z3 => ?_)
    · skip
      refine x_fall ?_
      refine x_blk (b := 1) (a_193 E) rfl ?_
      unfold b_193_1
      refine x_push (-1) rfl ?_
      refine x_iret ?_
      exact k _ _ y_rf_rf (by omega) (by omega)
    · skip
      refine x_blk (b := 2) (a_193 E) rfl ?_
      unfold b_193_2
      refine x_aload rfl ?_
      refine x_iload rfl ?_
      refine x_push 0 rfl ?_
      refine x_cV (fun _ => rfl) rfl (by decide) (Nat.le_of_ble_eq_true rfl) ?_
      refine rs_80 (by omega) (by omega) (by omega) (by omega) hP (fun S4 f4 k4_0 k4_1 => ?_)
      have F4 := y_rf_tr y_rf_rf f4
      refine x_aload rfl ?_
      refine x_aload rfl ?_
      refine x_cV (fun _ => rfl) rfl (by decide) (Nat.le_of_ble_eq_true rfl) ?_
      refine rs_116  (by assumption) (by assumption) (y_rf_P F4 hP) (fun S5 v5 f5 v5a v5b k5_0 => ?_)
      have F5 := y_rf_tr F4 f5
      refine x_push (-10) rfl ?_
      refine x_iload rfl ?_
      refine x_cV (fun _ => rfl) rfl (by decide) (Nat.le_of_ble_eq_true rfl) ?_
      refine rs_96 (by omega) (by omega) (by omega) (by omega) (by omega) (by omega) (by omega) (fun v6 v6a v6b => ?_)
      refine x_iret ?_
      exact k _ _ F5 (by omega) (by omega)
  · skip
    refine x_if_eq (by omega) (by omega) (fun z7 => ?_) (fun z => absurd (by omega) z)
    refine x_blk (b := 1) (a_193 E) rfl ?_
    unfold b_193_1
    refine x_push (-1) rfl ?_
    refine x_iret ?_
    exact k _ _ y_rf_rf (by omega) (by omega)
theorem rs_198 {E : q_E} {σ : x_S} {Q : Option q_V → x_S → Prop} {a1 a2 a3 : Int} (a1l : (-2147483648) ≤ a1) (a1h : a1 ≤ 2147483647) (a2l : (-2147483648) ≤ a2) (a2h : a2 ≤ 2147483647) (a3l : (-2147483648) ≤ a3) (a3h : a3 ≤ 2147483647) (hR : y_RI σ) (k : y_KQ Q σ) : x_P E 198 [x_R 138, x_I a1, x_I a2, x_I a3] σ Q := by
  obtain ⟨rl, hP, ru5, rb, rk, rc⟩ := id hR
  have ru := hP.2.2.2.1
  have kd := hP.1
  refine x_Mt e_198 (h_198 E) (Nat.le_of_ble_eq_true rfl) t_198 rfl ?_
  refine x_blk (b := 0) (a_198 E) rfl ?_
  unfold b_198_0
  refine x_iload rfl ?_
  refine x_cS (fun _ => rfl) (Nat.le_of_ble_eq_true rfl) ?_
  refine c_64 (by omega) (by omega) (fun y1 => ?_) (fun y1 => ?_)
  · skip
    refine x_if_eq (by omega) (by omega) (fun z => absurd z (by omega)) (fun z2 => ?_)
    refine x_aload rfl ?_
    refine x_iload rfl ?_
    refine x_iload rfl ?_
    refine x_cV (fun _ => rfl) rfl (by decide) (Nat.le_of_ble_eq_true rfl) ?_
    refine c_92 (by omega) (by omega) (by omega) (by omega) hP (fun y3 => ?_) (fun y3 => ?_)
    · skip
      refine x_if_ne (by omega) (by omega) (fun z => absurd z (by omega)) (fun z4 => ?_)
      refine x_blk (b := 2) (a_198 E) rfl ?_
      unfold b_198_2
      have ht := y_szt hP (t := a2) (by omega) (by omega)
      refine x_aload rfl ?_
      refine x_iload rfl ?_
      refine x_push 0 rfl ?_
      refine x_cV (fun _ => rfl) rfl (by decide) (Nat.le_of_ble_eq_true rfl) ?_
      refine rs_80 (by omega) (by omega) (by omega) (by omega) hP (fun S5 f5 k5_0 k5_1 => ?_)
      have F5 := y_rf_tr y_rf_rf f5
      refine x_aload rfl ?_
      refine x_iload rfl ?_
      refine x_push 0 rfl ?_
      refine x_cV (fun _ => rfl) rfl (by decide) (Nat.le_of_ble_eq_true rfl) ?_
      refine rs_94 (by omega) (by omega) (by omega) (by omega) (by assumption) (y_rf_P F5 hP) (fun S6 v6 f6 v6a v6b k6_0 k6_1 => ?_)
      have F6 := y_rf_tr F5 f6
      refine x_pop rfl ?_
      refine x_aload rfl ?_
      refine x_getR (r := 138) rfl (by decide) (by decide) rfl ?_
      refine x_iload rfl ?_
      refine x_ialdM y_m152 (by omega) (by omega) (fun v7 v7a v7b => ?_)
      refine x_iret ?_
      exact k _ _ F6 (by omega) (by omega)
    · skip
      refine x_if_ne (by omega) (by omega) (fun z8 => ?_) (fun z => absurd (by omega) z)
      refine x_fall ?_
      refine x_blk (b := 1) (a_198 E) rfl ?_
      unfold b_198_1
      refine x_push (-1) rfl ?_
      refine x_iret ?_
      exact k _ _ y_rf_rf (by omega) (by omega)
  · skip
    refine x_if_eq (by omega) (by omega) (fun z9 => ?_) (fun z => absurd (by omega) z)
    refine x_blk (b := 1) (a_198 E) rfl ?_
    unfold b_198_1
    refine x_push (-1) rfl ?_
    refine x_iret ?_
    exact k _ _ y_rf_rf (by omega) (by omega)
theorem rs_199 {E : q_E} {σ : x_S} {Q : Option q_V → x_S → Prop} {a1 : Int} (a1l : (-2147483648) ≤ a1) (a1h : a1 ≤ 2147483647) (hR : y_RI σ) (k : y_KQ Q σ) : x_P E 199 [x_R 138, x_I a1] σ Q := by
  obtain ⟨rl, hP, ru5, rb, rk, rc⟩ := id hR
  have ru := hP.2.2.2.1
  have kd := hP.1
  refine x_Mt e_199 (h_199 E) (Nat.le_of_ble_eq_true rfl) t_199 rfl ?_
  refine x_blk (b := 0) (a_199 E) rfl ?_
  unfold b_199_0
  refine x_iload rfl ?_
  refine x_cS (fun _ => rfl) (Nat.le_of_ble_eq_true rfl) ?_
  refine c_64 (by omega) (by omega) (fun y1 => ?_) (fun y1 => ?_)
  · skip
    refine x_if_ne (by omega) (by omega) (fun z => absurd z (by omega)) (fun z2 => ?_)
    refine x_blk (b := 1) (a_199 E) rfl ?_
    unfold b_199_1
    refine x_aload rfl ?_
    refine x_iload rfl ?_
    refine x_cV (fun _ => rfl) rfl (by decide) (Nat.le_of_ble_eq_true rfl) ?_
    refine rs_118 (by omega) (by omega) hP (fun S3 C3 f3 => ?_)
    have F3 := y_rf_tr y_rf_rf f3
    refine x_aload rfl ?_
    refine x_getI (r := 138) rfl (by decide) (by decide) (by decide) rfl ?_
    intro g4a g4b
    refine x_iret ?_
    exact k _ _ F3 (by omega) (by omega)
  · skip
    refine x_if_ne (by omega) (by omega) (fun z5 => ?_) (fun z => absurd (by omega) z)
    refine x_push (-1) rfl ?_
    refine x_iret ?_
    exact k _ _ y_rf_rf (by omega) (by omega)
theorem rs_200 {E : q_E} {σ : x_S} {Q : Option q_V → x_S → Prop} {a1 a2 a3 : Int} (a1l : (-2147483648) ≤ a1) (a1h : a1 ≤ 2147483647) (a2l : (-2147483648) ≤ a2) (a2h : a2 ≤ 2147483647) (a3l : (-2147483648) ≤ a3) (a3h : a3 ≤ 2147483647) (hR : y_RI σ) (k : y_KQ Q σ) : x_P E 200 [x_R 138, x_I a1, x_I a2, x_I a3] σ Q := by
  obtain ⟨rl, hP, ru5, rb, rk, rc⟩ := id hR
  have ru := hP.2.2.2.1
  have kd := hP.1
  refine x_Mt e_200 (h_200 E) (Nat.le_of_ble_eq_true rfl) t_200 rfl ?_
  refine x_blk (b := 0) (a_200 E) rfl ?_
  unfold b_200_0
  refine x_iload rfl ?_
  refine x_cS (fun _ => rfl) (Nat.le_of_ble_eq_true rfl) ?_
  refine c_64 (by omega) (by omega) (fun y1 => ?_) (fun y1 => ?_)
  · skip
    refine x_if_eq (by omega) (by omega) (fun z => absurd z (by omega)) (fun z2 => ?_)
    refine x_iload rfl ?_
    refine x_i2l (by omega) (by omega) ?_
    refine x_pushL 0 rfl ?_
    refine x_pushL 53 rfl ?_
    refine x_cS (fun _ => rfl) (Nat.le_of_ble_eq_true rfl) ?_
    refine c_45 (by omega) (by omega) (by omega) (by omega) (by omega) (by omega) (fun y3 => ?_) (fun y3 => ?_)
    · skip
      refine x_if_eq (by omega) (by omega) (fun z => absurd z (by omega)) (fun z4 => ?_)
      refine x_iload rfl ?_
      refine x_push (-1) rfl ?_
      refine x_icmp_ge (by omega) (by omega) (by omega) (by omega) (fun z5 => ?_) (fun z5 => ?_)
      · skip
        refine x_fall ?_
        refine x_blk (b := 1) (a_200 E) rfl ?_
        unfold b_200_1
        refine x_push (-1) rfl ?_
        refine x_iret ?_
        exact k _ _ y_rf_rf (by omega) (by omega)
      · skip
        refine x_blk (b := 2) (a_200 E) rfl ?_
        unfold b_200_2
        refine x_aload rfl ?_
        refine x_iload rfl ?_
        refine x_cV (fun _ => rfl) rfl (by decide) (Nat.le_of_ble_eq_true rfl) ?_
        refine rs_201 (by omega) (by omega) hP (fun S6 C6 f6 => ?_)
        have F6 := y_rf_tr y_rf_rf f6
        refine x_aload rfl ?_
        refine x_getR (r := 138) rfl (by decide) (by decide) rfl ?_
        refine x_iload rfl ?_
        refine x_ialdS C6 (by omega) (by omega) ?_
        intro g7a g7b
        refine x_push 41 rfl ?_
        refine x_icmp_ne (by omega) (by omega) (by omega) (by omega) (fun z8 => ?_) (fun z8 => ?_)
        · skip
          refine x_push (-4) rfl ?_
          refine x_iret ?_
          exact k _ _ F6 (by omega) (by omega)
        · skip
          refine x_blk (b := 3) (a_200 E) rfl ?_
          unfold b_200_3
          refine x_iload rfl ?_
          refine x_if_ge (by omega) (by omega) (fun z9 => ?_) (fun z9 => ?_)
          · skip
            refine x_aload rfl ?_
            refine x_getR (r := 138) rfl (by decide) (by decide) rfl ?_
            refine x_iload rfl ?_
            refine x_ialdS C6 (by omega) (by omega) ?_
            intro g10a g10b
            refine x_goto ?_
            refine x_blk (b := 5) (a_200 E) rfl ?_
            unfold b_200_5
            refine x_iret ?_
            exact k _ _ F6 (by omega) (by omega)
          · skip
            refine x_blk (b := 4) (a_200 E) rfl ?_
            unfold b_200_4
            refine x_iload rfl ?_
            refine x_aload rfl ?_
            refine x_getR (r := 138) rfl (by decide) (by decide) rfl ?_
            refine x_iload rfl ?_
            refine x_ialdS C6 (by omega) (by omega) ?_
            intro g11a g11b
            refine x_icmp_ge (by omega) (by omega) (by omega) (by omega) (fun z12 => ?_) (fun z12 => ?_)
            · skip
              refine x_aload rfl ?_
              refine x_getR (r := 138) rfl (by decide) (by decide) rfl ?_
              refine x_push 40 rfl ?_
              refine x_iload rfl ?_
              refine x_imul ?_
              refine x_iload rfl ?_
              refine x_iadd ?_
              refine x_ialdM y_m157 (by omega) (by omega) (fun v13 v13a v13b => ?_)
              refine x_goto ?_
              refine x_blk (b := 5) (a_200 E) rfl ?_
              unfold b_200_5
              refine x_iret ?_
              exact k _ _ F6 (by omega) (by omega)
            · skip
              refine x_blk (b := 6) (a_200 E) rfl ?_
              unfold b_200_6
              refine x_push (-4) rfl ?_
              refine x_fall ?_
              refine x_blk (b := 5) (a_200 E) rfl ?_
              unfold b_200_5
              refine x_iret ?_
              exact k _ _ F6 (by omega) (by omega)
    · skip
      refine x_if_eq (by omega) (by omega) (fun z14 => ?_) (fun z => absurd (by omega) z)
      refine x_blk (b := 1) (a_200 E) rfl ?_
      unfold b_200_1
      refine x_push (-1) rfl ?_
      refine x_iret ?_
      exact k _ _ y_rf_rf (by omega) (by omega)
  · skip
    refine x_if_eq (by omega) (by omega) (fun z15 => ?_) (fun z => absurd (by omega) z)
    refine x_blk (b := 1) (a_200 E) rfl ?_
    unfold b_200_1
    refine x_push (-1) rfl ?_
    refine x_iret ?_
    exact k _ _ y_rf_rf (by omega) (by omega)
theorem rs_205 {E : q_E} {σ : x_S} {Q : Option q_V → x_S → Prop} {a1 a2 a3 : Int} (a1l : (-2147483648) ≤ a1) (a1h : a1 ≤ 2147483647) (a2l : (-2147483648) ≤ a2) (a2h : a2 ≤ 2147483647) (a3l : (-2147483648) ≤ a3) (a3h : a3 ≤ 2147483647) (hR : y_RI σ) (k : y_KQ Q σ) : x_P E 205 [x_R 138, x_I a1, x_I a2, x_I a3] σ Q := by
  obtain ⟨rl, hP, ru5, rb, rk, rc⟩ := id hR
  have ru := hP.2.2.2.1
  have kd := hP.1
  refine x_Mt e_205 (h_205 E) (Nat.le_of_ble_eq_true rfl) t_205 rfl ?_
  refine x_blk (b := 0) (a_205 E) rfl ?_
  unfold b_205_0
  refine x_iload rfl ?_
  refine x_cS (fun _ => rfl) (Nat.le_of_ble_eq_true rfl) ?_
  refine c_64 (by omega) (by omega) (fun y1 => ?_) (fun y1 => ?_)
  · skip
    refine x_if_eq (by omega) (by omega) (fun z => absurd z (by omega)) (fun z2 => ?_)
    refine x_iload rfl ?_
    refine x_i2l (by omega) (by omega) ?_
    refine x_pushL 0 rfl ?_
    refine x_pushL 2 rfl ?_
    refine x_cS (fun _ => rfl) (Nat.le_of_ble_eq_true rfl) ?_
    refine c_45 (by omega) (by omega) (by omega) (by omega) (by omega) (by omega) (fun y3 => ?_) (fun y3 => ?_)
    · skip
      refine x_if_eq (by omega) (by omega) (fun z => absurd z (by omega)) (fun z4 => ?_)
      refine x_iload rfl ?_
      refine x_i2l (by omega) (by omega) ?_
      refine x_pushL 0 rfl ?_
      refine x_pushL 1 rfl ?_
      refine x_cS (fun _ => rfl) (Nat.le_of_ble_eq_true rfl) ?_
      refine c_45 (by omega) (by omega) (by omega) (by omega) (by omega) (by omega) (fun y5 => ?_) (fun y5 => ?_)
      · skip
        refine x_if_eq (by omega) (by omega) (fun z => absurd z (by omega)) (fun z6 => ?_)
        refine x_aload rfl ?_
        refine x_iload rfl ?_
        refine x_iload rfl ?_
        refine x_push 2 rfl ?_
        refine x_iload rfl ?_
        refine x_cV (fun _ => rfl) rfl (by decide) (Nat.le_of_ble_eq_true rfl) ?_
        refine rs_206 (by omega) (by omega) (by omega) (by omega) (by omega) (by omega) (by omega) (by omega) hP (fun S7 v7 C7 f7 v7a v7b => ?_)
        have F7 := y_rf_tr y_rf_rf f7
        refine x_goto ?_
        refine x_blk (b := 2) (a_205 E) rfl ?_
        unfold b_205_2
        refine x_iret ?_
        exact k _ _ F7 (by omega) (by omega)
      · skip
        refine x_if_eq (by omega) (by omega) (fun z8 => ?_) (fun z => absurd (by omega) z)
        refine x_blk (b := 1) (a_205 E) rfl ?_
        unfold b_205_1
        refine x_push (-1) rfl ?_
        refine x_fall ?_
        refine x_blk (b := 2) (a_205 E) rfl ?_
        unfold b_205_2
        refine x_iret ?_
        exact k _ _ y_rf_rf (by omega) (by omega)
    · skip
      refine x_if_eq (by omega) (by omega) (fun z9 => ?_) (fun z => absurd (by omega) z)
      refine x_blk (b := 1) (a_205 E) rfl ?_
      unfold b_205_1
      refine x_push (-1) rfl ?_
      refine x_fall ?_
      refine x_blk (b := 2) (a_205 E) rfl ?_
      unfold b_205_2
      refine x_iret ?_
      exact k _ _ y_rf_rf (by omega) (by omega)
  · skip
    refine x_if_eq (by omega) (by omega) (fun z10 => ?_) (fun z => absurd (by omega) z)
    refine x_blk (b := 1) (a_205 E) rfl ?_
    unfold b_205_1
    refine x_push (-1) rfl ?_
    refine x_fall ?_
    refine x_blk (b := 2) (a_205 E) rfl ?_
    unfold b_205_2
    refine x_iret ?_
    exact k _ _ y_rf_rf (by omega) (by omega)
theorem rs_208 {E : q_E} {σ : x_S} {Q : Option q_V → x_S → Prop} {a1 a2 a3 : Int} (a1l : (-2147483648) ≤ a1) (a1h : a1 ≤ 2147483647) (a2l : (-2147483648) ≤ a2) (a2h : a2 ≤ 2147483647) (a3l : (-2147483648) ≤ a3) (a3h : a3 ≤ 2147483647) (hR : y_RI σ) (k : y_KQ Q σ) : x_P E 208 [x_R 138, x_I a1, x_I a2, x_I a3] σ Q := by
  obtain ⟨rl, hP, ru5, rb, rk, rc⟩ := id hR
  have ru := hP.2.2.2.1
  have kd := hP.1
  refine x_Mt e_208 (h_208 E) (Nat.le_of_ble_eq_true rfl) t_208 rfl ?_
  refine x_blk (b := 0) (a_208 E) rfl ?_
  unfold b_208_0
  refine x_iload rfl ?_
  refine x_cS (fun _ => rfl) (Nat.le_of_ble_eq_true rfl) ?_
  refine c_64 (by omega) (by omega) (fun y1 => ?_) (fun y1 => ?_)
  · skip
    refine x_if_eq (by omega) (by omega) (fun z => absurd z (by omega)) (fun z2 => ?_)
    refine x_iload rfl ?_
    refine x_i2l (by omega) (by omega) ?_
    refine x_pushL 0 rfl ?_
    refine x_pushL 2 rfl ?_
    refine x_cS (fun _ => rfl) (Nat.le_of_ble_eq_true rfl) ?_
    refine c_45 (by omega) (by omega) (by omega) (by omega) (by omega) (by omega) (fun y3 => ?_) (fun y3 => ?_)
    · skip
      refine x_if_eq (by omega) (by omega) (fun z => absurd z (by omega)) (fun z4 => ?_)
      refine x_iload rfl ?_
      refine x_i2l (by omega) (by omega) ?_
      refine x_pushL 0 rfl ?_
      refine x_pushL 1 rfl ?_
      refine x_cS (fun _ => rfl) (Nat.le_of_ble_eq_true rfl) ?_
      refine c_45 (by omega) (by omega) (by omega) (by omega) (by omega) (by omega) (fun y5 => ?_) (fun y5 => ?_)
      · skip
        refine x_if_eq (by omega) (by omega) (fun z => absurd z (by omega)) (fun z6 => ?_)
        refine x_aload rfl ?_
        refine x_iload rfl ?_
        refine x_iload rfl ?_
        refine x_push 0 rfl ?_
        refine x_iload rfl ?_
        refine x_cV (fun _ => rfl) rfl (by decide) (Nat.le_of_ble_eq_true rfl) ?_
        refine rs_206 (by omega) (by omega) (by omega) (by omega) (by omega) (by omega) (by omega) (by omega) hP (fun S7 v7 C7 f7 v7a v7b => ?_)
        have F7 := y_rf_tr y_rf_rf f7
        refine x_goto ?_
        refine x_blk (b := 2) (a_208 E) rfl ?_
        unfold b_208_2
        refine x_iret ?_
        exact k _ _ F7 (by omega) (by omega)
      · skip
        refine x_if_eq (by omega) (by omega) (fun z8 => ?_) (fun z => absurd (by omega) z)
        refine x_blk (b := 1) (a_208 E) rfl ?_
        unfold b_208_1
        refine x_push (-1) rfl ?_
        refine x_fall ?_
        refine x_blk (b := 2) (a_208 E) rfl ?_
        unfold b_208_2
        refine x_iret ?_
        exact k _ _ y_rf_rf (by omega) (by omega)
    · skip
      refine x_if_eq (by omega) (by omega) (fun z9 => ?_) (fun z => absurd (by omega) z)
      refine x_blk (b := 1) (a_208 E) rfl ?_
      unfold b_208_1
      refine x_push (-1) rfl ?_
      refine x_fall ?_
      refine x_blk (b := 2) (a_208 E) rfl ?_
      unfold b_208_2
      refine x_iret ?_
      exact k _ _ y_rf_rf (by omega) (by omega)
  · skip
    refine x_if_eq (by omega) (by omega) (fun z10 => ?_) (fun z => absurd (by omega) z)
    refine x_blk (b := 1) (a_208 E) rfl ?_
    unfold b_208_1
    refine x_push (-1) rfl ?_
    refine x_fall ?_
    refine x_blk (b := 2) (a_208 E) rfl ?_
    unfold b_208_2
    refine x_iret ?_
    exact k _ _ y_rf_rf (by omega) (by omega)
