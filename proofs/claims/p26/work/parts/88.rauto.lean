theorem rs_96 {E : q_E} {σ : x_S} {Q : Option q_V → x_S → Prop} {a1 a2 a3 : Int} (a1l : (-2147483648) ≤ a1) (a1h : a1 ≤ 2147483647) (a2l : (-60) ≤ a2) (a2h : a2 ≤ (-10)) (a3l : (-1) ≤ a3) (a3h : a3 ≤ 2147483647) (rq0 : 0 ≤ σ 138 18 ∧ σ 138 18 ≤ 40) (k : ∀ v, (-2147483648) ≤ v → v ≤ 2147483647 → Q (some (x_I v)) σ) : x_P E 96 [x_R 138, x_I a1, x_I a2, x_I a3] σ Q := by
  refine x_Mt e_96 (h_96 E) (Nat.le_of_ble_eq_true rfl) t_96 rfl ?_
  refine x_blk (b := 0) (a_96 E) rfl ?_
  unfold b_96_0
  refine x_iload rfl ?_
  refine x_push 1 rfl ?_
  refine x_icmp_ne (by omega) (by omega) (by omega) (by omega) (fun z1 => ?_) (fun z1 => ?_)
  · skip
    refine x_iload rfl ?_
    refine x_aload rfl ?_
    refine x_getI (r := 138) rfl (by decide) (by decide) (by decide) rfl ?_
    intro g2a g2b
    refine x_isub ?_
    refine x_wrp (fun v3 v3a v3b => ?_)
    refine x_goto ?_
    refine x_blk (b := 2) (a_96 E) rfl ?_
    unfold b_96_2
    refine x_iret ?_
    exact k _ (by omega) (by omega) 
  · skip
    refine x_blk (b := 1) (a_96 E) rfl ?_
    unfold b_96_1
    refine x_iload rfl ?_
    refine x_push 2 rfl ?_
    refine x_icmp_ne (by omega) (by omega) (by omega) (by omega) (fun z4 => ?_) (fun z4 => ?_)
    · skip
      refine x_push (-3) rfl ?_
      refine x_goto ?_
      refine x_blk (b := 2) (a_96 E) rfl ?_
      unfold b_96_2
      refine x_iret ?_
      exact k _ (by omega) (by omega) 
    · skip
      refine x_blk (b := 3) (a_96 E) rfl ?_
      unfold b_96_3
      refine x_iload rfl ?_
      refine x_if_ge (by omega) (by omega) (fun z5 => ?_) (fun z5 => ?_)
      · skip
        refine x_aload rfl ?_
        refine x_getI (r := 138) rfl (by decide) (by decide) (by decide) rfl ?_
        intro g6a g6b
        refine x_goto ?_
        refine x_blk (b := 2) (a_96 E) rfl ?_
        unfold b_96_2
        refine x_iret ?_
        exact k _ (by omega) (by omega) 
      · skip
        refine x_blk (b := 4) (a_96 E) rfl ?_
        unfold b_96_4
        refine x_iload rfl ?_
        refine x_aload rfl ?_
        refine x_getI (r := 138) rfl (by decide) (by decide) (by decide) rfl ?_
        intro g7a g7b
        refine x_icmp_ge (by omega) (by omega) (by omega) (by omega) (fun z8 => ?_) (fun z8 => ?_)
        · skip
          refine x_aload rfl ?_
          refine x_getR (r := 138) rfl (by decide) (by decide) rfl ?_
          refine x_iload rfl ?_
          refine x_ialdM y_m151 (by omega) (by omega) (fun v9 v9a v9b => ?_)
          refine x_goto ?_
          refine x_blk (b := 2) (a_96 E) rfl ?_
          unfold b_96_2
          refine x_iret ?_
          exact k _ (by omega) (by omega) 
        · skip
          refine x_blk (b := 5) (a_96 E) rfl ?_
          unfold b_96_5
          refine x_push (-4) rfl ?_
          refine x_fall ?_
          refine x_blk (b := 2) (a_96 E) rfl ?_
          unfold b_96_2
          refine x_iret ?_
          exact k _ (by omega) (by omega) 
theorem rs_192_b5 {E : q_E} {σ : x_S} {Q : Option q_V → x_S → Prop} {a1 a2 : Int} (a1l : (-2147483648) ≤ a1) (a1h : a1 ≤ 2147483647) (a2l : (-2147483648) ≤ a2) (a2h : a2 ≤ 2147483647) (hR : y_RI σ) (k : y_KQ Q σ) (i1 : -1 ≤ a2) : ∀ (N : Nat) (v : Int) (τ : x_S), (40 - v).toNat = N → 0 ≤ v → v ≤ τ 138 10 → (1 ≤ τ 138 10 ∧ τ 138 10 ≤ 40) → y_tr (τ 151) (τ 138 10).toNat → (∀ m : Nat, (m : Int) < v → τ 145 m = τ 151 m) → y_rf σ τ → x_G E m_192 Q (t_192 5) [(0, x_R 138), (2, x_I a2), (4, x_I v)] [] τ := by
  obtain ⟨rl, hP, ru5, rb, rk, rc⟩ := id hR
  have ru := hP.2.2.2.1
  have kd := hP.1
  intro N
  induction N using Nat.strongRecOn with
  | ind N ih =>
    intro v τ hN v1 v2 hb ht hl F
    have rq81 : (1 ≤ τ 138 10 ∧ τ 138 10 ≤ 40) ∧ (v = τ 138 10 → y_tr (τ 145) (τ 138 10).toNat) := ⟨hb, fun hv => y_tr_ext (fun i hi => (hl i (by omega)).symm) ht⟩
    refine x_blk (b := 5) (a_192 E) rfl ?_
    unfold b_192_5
    refine x_iload rfl ?_
    refine x_aload rfl ?_
    refine x_getI (r := 138) rfl (by decide) (by decide) (by decide) rfl ?_
    intro g1a g1b
    refine x_icmp_ge (by omega) (by omega) (by omega) (by omega) (fun z2 => ?_) (fun z2 => ?_)
    · skip
      refine x_aload rfl ?_
      refine x_getR (r := 138) rfl (by decide) (by decide) rfl ?_
      refine x_iload rfl ?_
      refine x_aload rfl ?_
      refine x_getR (r := 138) rfl (by decide) (by decide) rfl ?_
      refine x_iload rfl ?_
      refine x_iald (r := 151) (n := 40) (m := v.toNat) rfl rfl (by decide) (fun _ => rfl) (by omega) (by omega) (by omega) ?_
      intro g3a g3b
      refine x_astN (m := v.toNat) y_m145 F (by omega) (by omega) (by omega) (by omega) (by omega) (fun S4 e4 F4 => ?_)
      have w4 := x_up_at e4
      refine x_iinc 1 rfl rfl ?_
      refine x_goto ?_
      refine x_G_lo (lo' := [(0, x_R 138), (2, x_I _), (4, x_I _)]) ⟨rfl, rfl, rfl, trivial⟩ ?_
      have q10 : S4 138 10 = τ 138 10 := x_up_nr e4 (by decide)
      refine ih _ (by omega) _ S4 rfl (by omega) (by omega) (by omega) ?_ (fun m hm => ?_) F4
      · rw [q10]; exact y_tr_ext (fun i _ => (x_up_nr e4 (by decide)).symm) ht
      · rw [x_up_nr e4 (r' := 151) (by decide)]
        by_cases cx : m = v.toNat
        · subst cx
          exact w4
        · rw [x_up_ne e4 (fun z => cx z.2)]; exact hl m (by omega)
    · skip
      refine x_blk (b := 4) (a_192 E) rfl ?_
      unfold b_192_4
      refine x_aload rfl ?_
      refine x_push 0 rfl ?_
      refine x_cV (fun _ => rfl) rfl (by decide) (Nat.le_of_ble_eq_true rfl) ?_
      refine rs_81 (by omega) (by omega) ⟨by omega, rq81.2 (by omega)⟩ (y_rf_P F hP) (fun S5 f5 k5_0 k5_1 => ?_)
      have F5 := y_rf_tr F f5
      refine x_aload rfl ?_
      refine x_aload rfl ?_
      refine x_push 1 rfl ?_
      refine x_push 0 rfl ?_
      refine x_cV (fun _ => rfl) rfl (by decide) (Nat.le_of_ble_eq_true rfl) ?_
      refine rs_94 (by omega) (by omega) (by omega) (by omega) (by assumption) (y_rf_P F5 hP) (fun S6 v6 f6 v6a v6b k6_0 k6_1 => ?_)
      have F6 := y_rf_tr F5 f6
      refine x_push (-60) rfl ?_
      refine x_iload rfl ?_
      refine x_cV (fun _ => rfl) rfl (by decide) (Nat.le_of_ble_eq_true rfl) ?_
      refine rs_96 (by omega) (by omega) (by omega) (by omega) (by omega) (by omega) (by omega) (fun v7 v7a v7b => ?_)
      refine x_iret ?_
      exact k _ _ F6 (by omega) (by omega)
theorem rs_192 {E : q_E} {σ : x_S} {Q : Option q_V → x_S → Prop} {a1 a2 : Int} (a1l : (-2147483648) ≤ a1) (a1h : a1 ≤ 2147483647) (a2l : (-2147483648) ≤ a2) (a2h : a2 ≤ 2147483647) (hR : y_RI σ) (k : y_KQ Q σ) : x_P E 192 [x_R 138, x_I a1, x_I a2] σ Q := by
  obtain ⟨rl, hP, ru5, rb, rk, rc⟩ := id hR
  have ru := hP.2.2.2.1
  have kd := hP.1
  refine x_Mt e_192 (h_192 E) (Nat.le_of_ble_eq_true rfl) t_192 rfl ?_
  refine x_blk (b := 0) (a_192 E) rfl ?_
  unfold b_192_0
  refine x_iload rfl ?_
  refine x_cS (fun _ => rfl) (Nat.le_of_ble_eq_true rfl) ?_
  refine c_67 (by omega) (by omega) (fun y1 => ?_) (fun y1 => ?_)
  · skip
    refine x_if_eq (by omega) (by omega) (fun z => absurd z (by omega)) (fun z2 => ?_)
    refine x_iload rfl ?_
    refine x_push (-1) rfl ?_
    refine x_icmp_ge (by omega) (by omega) (by omega) (by omega) (fun z3 => ?_) (fun z3 => ?_)
    · skip
      refine x_fall ?_
      refine x_blk (b := 1) (a_192 E) rfl ?_
      unfold b_192_1
      refine x_push (-1) rfl ?_
      refine x_iret ?_
      exact k _ _ y_rf_rf (by omega) (by omega)
    · skip
      refine x_blk (b := 2) (a_192 E) rfl ?_
      unfold b_192_2
      refine x_aload rfl ?_
      refine x_iload rfl ?_
      refine x_push 0 rfl ?_
      refine x_cV (fun _ => rfl) rfl (by decide) (Nat.le_of_ble_eq_true rfl) ?_
      refine rs_80 (by omega) (by omega) (by omega) (by omega) hP (fun S4 f4 k4_0 k4_1 => ?_)
      have F4 := y_rf_tr y_rf_rf f4
      refine x_aload rfl ?_
      refine x_push 0 rfl ?_
      refine x_push 0 rfl ?_
      refine x_cV (fun _ => rfl) rfl (by decide) (Nat.le_of_ble_eq_true rfl) ?_
      refine rs_94 (by omega) (by omega) (by omega) (by omega) (by assumption) (y_rf_P F4 hP) (fun S5 v5 f5 v5a v5b k5_0 k5_1 => ?_)
      have F5 := y_rf_tr F4 f5
      refine x_istore ?_
      refine x_iload rfl ?_
      refine x_if_eq (by omega) (by omega) (fun z6 => ?_) (fun z6 => ?_)
      · skip
        refine x_blk (b := 3) (a_192 E) rfl ?_
        unfold b_192_3
        refine x_aload rfl ?_
        refine x_aload rfl ?_
        refine x_getI (r := 138) rfl (by decide) (by decide) (by decide) rfl ?_
        intro g7a g7b
        refine x_put138 (by decide) rfl ⟨by decide, rfl⟩ (by decide) F5 (by omega) (by omega) (fun S8 e8 F8 => ?_)
        refine x_push 0 rfl ?_
        refine x_istore ?_
        refine x_X_lo (lo' := [(0, x_R 138), (1, x_I _), (2, x_I _), (3, x_I _), (4, x_I _)]) ⟨rfl, rfl, rfl, rfl, rfl, trivial⟩ ?_
        refine x_fall ?_
        refine x_G_lo (lo' := [(0, x_R 138), (2, x_I _), (4, x_I _)]) ⟨rfl, rfl, rfl, trivial⟩ ?_
        have q10 := x_up_at e8
        have ht := k5_1 (by omega)
        have h1 : (S5 138 18).toNat ≠ 0 := fun z => by
          rw [z] at ht
          exact absurd ht.2 (by show ¬ ((1 : Int) = 0); decide)
        exact rs_192_b5 a1l a1h a2l a2h hR k (by omega) _ _ S8 rfl (by omega) (by omega) (by omega) (by rw [q10]; exact y_tr_ext (fun i _ => (x_up_nr e8 (by decide)).symm) ht) (fun m hm => absurd hm (by omega)) F8
      · skip
        refine x_aload rfl ?_
        refine x_iload rfl ?_
        refine x_push (-10) rfl ?_
        refine x_iload rfl ?_
        refine x_cV (fun _ => rfl) rfl (by decide) (Nat.le_of_ble_eq_true rfl) ?_
        refine rs_96 (by omega) (by omega) (by omega) (by omega) (by omega) (by omega) (by omega) (fun v9 v9a v9b => ?_)
        refine x_iret ?_
        exact k _ _ F5 (by omega) (by omega)
  · skip
    refine x_if_eq (by omega) (by omega) (fun z10 => ?_) (fun z => absurd (by omega) z)
    refine x_blk (b := 1) (a_192 E) rfl ?_
    unfold b_192_1
    refine x_push (-1) rfl ?_
    refine x_iret ?_
    exact k _ _ y_rf_rf (by omega) (by omega)
theorem rs_202 {E : q_E} {σ : x_S} {Q : Option q_V → x_S → Prop} {a1 a2 a3 : Int} (a1l : 0 ≤ a1) (a1h : a1 ≤ 4) (a2l : 0 ≤ a2) (a2h : a2 ≤ 53) (a3l : 0 ≤ a3) (a3h : a3 ≤ 53) (C0 : y_SI σ) (k : ∀ v, 1 ≤ v → v ≤ 83 → ((a1 < 2 ∧ v = 1) ∨ (a1 = 2 ∧ v = 1 + σ 156 a2.toNat) ∨ (2 < a1 ∧ v = 1 + σ 156 a2.toNat + σ 156 a3.toNat)) → Q (some (x_I v)) σ) : x_P E 202 [x_R 138, x_I a1, x_I a2, x_I a3] σ Q := by
  refine x_Mt e_202 (h_202 E) (Nat.le_of_ble_eq_true rfl) t_202 rfl ?_
  refine x_blk (b := 0) (a_202 E) rfl ?_
  unfold b_202_0
  refine x_iload rfl ?_
  refine x_cS (fun _ => rfl) (Nat.le_of_ble_eq_true rfl) ?_
  refine rs_0 (by omega) (by omega) (fun v1 v1a v1b v1c => ?_)
  refine x_istore ?_
  refine x_push 1 rfl ?_
  refine x_iload rfl ?_
  refine x_if_le (by omega) (by omega) (fun z2 => ?_) (fun z2 => ?_)
  · skip
    refine x_blk (b := 1) (a_202 E) rfl ?_
    unfold b_202_1
    refine x_push 0 rfl ?_
    refine x_fall ?_
    refine x_blk (b := 2) (a_202 E) rfl ?_
    unfold b_202_2
    refine x_iadd ?_
    refine x_iload rfl ?_
    refine x_push 1 rfl ?_
    refine x_icmp_le (by omega) (by omega) (by omega) (by omega) (fun z3 => ?_) (fun z => absurd (by omega) z)
    refine x_blk (b := 3) (a_202 E) rfl ?_
    unfold b_202_3
    refine x_push 0 rfl ?_
    refine x_fall ?_
    refine x_blk (b := 4) (a_202 E) rfl ?_
    unfold b_202_4
    refine x_iadd ?_
    refine x_iret ?_
    exact k _ (by omega) (by omega) (by omega)
  · skip
    refine x_aload rfl ?_
    refine x_getR (r := 138) rfl (by decide) (by decide) rfl ?_
    refine x_iload rfl ?_
    refine x_ialdS C0 (by omega) (by omega) ?_
    intro g4a g4b
    refine x_goto ?_
    refine x_blk (b := 2) (a_202 E) rfl ?_
    unfold b_202_2
    refine x_iadd ?_
    refine x_iload rfl ?_
    refine x_push 1 rfl ?_
    refine x_icmp_le (by omega) (by omega) (by omega) (by omega) (fun z5 => ?_) (fun z5 => ?_)
    · skip
      refine x_blk (b := 3) (a_202 E) rfl ?_
      unfold b_202_3
      refine x_push 0 rfl ?_
      refine x_fall ?_
      refine x_blk (b := 4) (a_202 E) rfl ?_
      unfold b_202_4
      refine x_iadd ?_
      refine x_iret ?_
      exact k _ (by omega) (by omega) (by omega)
    · skip
      refine x_aload rfl ?_
      refine x_getR (r := 138) rfl (by decide) (by decide) rfl ?_
      refine x_iload rfl ?_
      refine x_ialdS C0 (by omega) (by omega) ?_
      intro g6a g6b
      refine x_goto ?_
      refine x_blk (b := 4) (a_202 E) rfl ?_
      unfold b_202_4
      refine x_iadd ?_
      refine x_iret ?_
      exact k _ (by omega) (by omega) (by omega)
theorem rs_181 {E : q_E} {σ : x_S} {Q : Option q_V → x_S → Prop} {a1 a2 a3 : Int} (a1l : (-2147483648) ≤ a1) (a1h : a1 ≤ 2147483647) (a2l : (-2147483648) ≤ a2) (a2h : a2 ≤ 2147483647) (a3l : (-2147483648) ≤ a3) (a3h : a3 ≤ 2147483647) (hR : y_RI σ) (k : y_KQ Q σ) : x_P E 181 [x_R 138, x_I a1, x_I a2, x_I a3] σ Q := by
  obtain ⟨rl, hP, ru5, rb, rk, rc⟩ := id hR
  have ru := hP.2.2.2.1
  have kd := hP.1
  refine x_Mt e_181 (h_181 E) (Nat.le_of_ble_eq_true rfl) t_181 rfl ?_
  refine x_blk (b := 0) (a_181 E) rfl ?_
  unfold b_181_0
  refine x_iload rfl ?_
  refine x_cS (fun _ => rfl) (Nat.le_of_ble_eq_true rfl) ?_
  refine c_64 (by omega) (by omega) (fun y1 => ?_) (fun y1 => ?_)
  · skip
    refine x_if_eq (by omega) (by omega) (fun z => absurd z (by omega)) (fun z2 => ?_)
    refine x_aload rfl ?_
    refine x_iload rfl ?_
    refine x_iload rfl ?_
    refine x_cV (fun _ => rfl) rfl (by decide) (Nat.le_of_ble_eq_true rfl) ?_
    refine c_92 (by omega) (by omega) (by omega) (by omega) hP (fun y3 => ?_) (fun y3 => ?_)
    · skip
      refine x_if_ne (by omega) (by omega) (fun z => absurd z (by omega)) (fun z4 => ?_)
      refine x_blk (b := 2) (a_181 E) rfl ?_
      unfold b_181_2
      have ht := y_szt hP (t := a2) (by omega) (by omega)
      refine x_aload rfl ?_
      refine x_iload rfl ?_
      refine x_iload rfl ?_
      refine x_cV (fun _ => rfl) rfl (by decide) (Nat.le_of_ble_eq_true rfl) ?_
      refine rs_80 (by omega) (by omega) (by omega) (by omega) hP (fun S5 f5 k5_0 k5_1 => ?_)
      have F5 := y_rf_tr y_rf_rf f5
      refine x_aload rfl ?_
      refine x_getR (r := 138) rfl (by decide) (by decide) rfl ?_
      refine x_iload rfl ?_
      refine x_ialdM y_m147 (by omega) (by omega) (fun v6 v6a v6b => ?_)
      refine x_iret ?_
      exact k _ _ F5 (by omega) (by omega)
    · skip
      refine x_if_ne (by omega) (by omega) (fun z7 => ?_) (fun z => absurd (by omega) z)
      refine x_fall ?_
      refine x_blk (b := 1) (a_181 E) rfl ?_
      unfold b_181_1
      refine x_push (-1) rfl ?_
      refine x_iret ?_
      exact k _ _ y_rf_rf (by omega) (by omega)
  · skip
    refine x_if_eq (by omega) (by omega) (fun z8 => ?_) (fun z => absurd (by omega) z)
    refine x_blk (b := 1) (a_181 E) rfl ?_
    unfold b_181_1
    refine x_push (-1) rfl ?_
    refine x_iret ?_
    exact k _ _ y_rf_rf (by omega) (by omega)
theorem rs_191 {E : q_E} {σ : x_S} {Q : Option q_V → x_S → Prop} {a1 a2 a3 a4 : Int} (a1l : (-2147483648) ≤ a1) (a1h : a1 ≤ 2147483647) (a2l : (-2147483648) ≤ a2) (a2h : a2 ≤ 2147483647) (a3l : (-2147483648) ≤ a3) (a3h : a3 ≤ 2147483647) (a4l : (-2147483648) ≤ a4) (a4h : a4 ≤ 2147483647) (hR : y_RI σ) (k : y_KQ Q σ) : x_P E 191 [x_R 138, x_I a1, x_I a2, x_I a3, x_I a4] σ Q := by
  obtain ⟨rl, hP, ru5, rb, rk, rc⟩ := id hR
  have ru := hP.2.2.2.1
  have kd := hP.1
  refine x_Mt e_191 (h_191 E) (Nat.le_of_ble_eq_true rfl) t_191 rfl ?_
  refine x_blk (b := 0) (a_191 E) rfl ?_
  unfold b_191_0
  refine x_iload rfl ?_
  refine x_cS (fun _ => rfl) (Nat.le_of_ble_eq_true rfl) ?_
  refine c_64 (by omega) (by omega) (fun y1 => ?_) (fun y1 => ?_)
  · skip
    refine x_if_eq (by omega) (by omega) (fun z => absurd z (by omega)) (fun z2 => ?_)
    refine x_iload rfl ?_
    refine x_i2l (by omega) (by omega) ?_
    refine x_pushL 0 rfl ?_
    refine x_pushL 2 rfl ?_
    refine x_cS (fun _ => rfl) (Nat.le_of_ble_eq_true rfl) ?_
    refine c_45 (by omega) (by omega) (by omega) (by omega) (by omega) (by omega) (fun y3 => ?_) (fun y3 => ?_)
    · skip
      refine x_if_eq (by omega) (by omega) (fun z => absurd z (by omega)) (fun z4 => ?_)
      refine x_iload rfl ?_
      refine x_cS (fun _ => rfl) (Nat.le_of_ble_eq_true rfl) ?_
      refine c_67 (by omega) (by omega) (fun y5 => ?_) (fun y5 => ?_)
      · skip
        refine x_if_eq (by omega) (by omega) (fun z => absurd z (by omega)) (fun z6 => ?_)
        refine x_iload rfl ?_
        refine x_push (-1) rfl ?_
        refine x_icmp_ge (by omega) (by omega) (by omega) (by omega) (fun z7 => ?_) (fun z7 => ?_)
        · skip
          refine x_fall ?_
          refine x_blk (b := 1) (a_191 E) rfl ?_
          unfold b_191_1
          refine x_push (-1) rfl ?_
          refine x_iret ?_
          exact k _ _ y_rf_rf (by omega) (by omega)
        · skip
          refine x_blk (b := 2) (a_191 E) rfl ?_
          unfold b_191_2
          refine x_aload rfl ?_
          refine x_iload rfl ?_
          refine x_push 0 rfl ?_
          refine x_cV (fun _ => rfl) rfl (by decide) (Nat.le_of_ble_eq_true rfl) ?_
          refine rs_80 (by omega) (by omega) (by omega) (by omega) hP (fun S8 f8 k8_0 k8_1 => ?_)
          have F8 := y_rf_tr y_rf_rf f8
          refine x_aload rfl ?_
          refine x_aload rfl ?_
          refine x_iload rfl ?_
          refine x_iload rfl ?_
          refine x_cV (fun _ => rfl) rfl (by decide) (Nat.le_of_ble_eq_true rfl) ?_
          refine rs_94 (by omega) (by omega) (by omega) (by omega) (by assumption) (y_rf_P F8 hP) (fun S9 v9 f9 v9a v9b k9_0 k9_1 => ?_)
          have F9 := y_rf_tr F8 f9
          refine x_push (-10) rfl ?_
          refine x_iload rfl ?_
          refine x_cV (fun _ => rfl) rfl (by decide) (Nat.le_of_ble_eq_true rfl) ?_
          refine rs_96 (by omega) (by omega) (by omega) (by omega) (by omega) (by omega) (by omega) (fun v10 v10a v10b => ?_)
          refine x_iret ?_
          exact k _ _ F9 (by omega) (by omega)
      · skip
        refine x_if_eq (by omega) (by omega) (fun z11 => ?_) (fun z => absurd (by omega) z)
        refine x_blk (b := 1) (a_191 E) rfl ?_
        unfold b_191_1
        refine x_push (-1) rfl ?_
        refine x_iret ?_
        exact k _ _ y_rf_rf (by omega) (by omega)
    · skip
      refine x_if_eq (by omega) (by omega) (fun z12 => ?_) (fun z => absurd (by omega) z)
      refine x_blk (b := 1) (a_191 E) rfl ?_
      unfold b_191_1
      refine x_push (-1) rfl ?_
      refine x_iret ?_
      exact k _ _ y_rf_rf (by omega) (by omega)
  · skip
    refine x_if_eq (by omega) (by omega) (fun z13 => ?_) (fun z => absurd (by omega) z)
    refine x_blk (b := 1) (a_191 E) rfl ?_
    unfold b_191_1
    refine x_push (-1) rfl ?_
    refine x_iret ?_
    exact k _ _ y_rf_rf (by omega) (by omega)
theorem rs_193 {E : q_E} {σ : x_S} {Q : Option q_V → x_S → Prop} {a1 a2 : Int} (a1l : (-2147483648) ≤ a1) (a1h : a1 ≤ 2147483647) (a2l : (-2147483648) ≤ a2) (a2h : a2 ≤ 2147483647) (hR : y_RI σ) (k : y_KQ Q σ) : x_P E 193 [x_R 138, x_I a1, x_I a2] σ Q := by
  obtain ⟨rl, hP, ru5, rb, rk, rc⟩ := id hR
  have ru := hP.2.2.2.1
  have kd := hP.1
  refine x_Mt e_193 (h_193 E) (Nat.le_of_ble_eq_true rfl) t_193 rfl ?_
  refine x_blk (b := 0) (a_193 E) rfl ?_
  unfold b_193_0
  refine x_iload rfl ?_
  refine x_cS (fun _ => rfl) (Nat.le_of_ble_eq_true rfl) ?_
  refine c_67 (by omega) (by omega) (fun y1 => ?_) (fun y1 => ?_)
  · skip
    refine x_if_eq (by omega) (by omega) (fun z => absurd z (by omega)) (fun z2 => ?_)
    refine x_iload rfl ?_
    refine x_push (-1) rfl ?_
    refine x_icmp_ge (by omega) (by omega) (by omega) (by omega) (fun z3 => ?_) (fun z3 => ?_)
    · skip
      refine x_fall ?_
      refine x_blk (b := 1) (a_193 E) rfl ?_
      unfold b_193_1
      refine x_push (-1) rfl ?_
      refine x_iret ?_
      exact k _ _ y_rf_rf (by omega) (by omega)
    · skip
      refine x_blk (b := 2) (a_193 E) rfl ?_
      unfold b_193_2
      refine x_aload rfl ?_
      refine x_iload rfl ?_
      refine x_push 0 rfl ?_
      refine x_cV (fun _ => rfl) rfl (by decide) (Nat.le_of_ble_eq_true rfl) ?_
      refine rs_80 (by omega) (by omega) (by omega) (by omega) hP (fun S4 f4 k4_0 k4_1 => ?_)
      have F4 := y_rf_tr y_rf_rf f4
      refine x_aload rfl ?_
      refine x_aload rfl ?_
      refine x_cV (fun _ => rfl) rfl (by decide) (Nat.le_of_ble_eq_true rfl) ?_
      refine rs_116  (by assumption) (by assumption) (y_rf_P F4 hP) (fun S5 v5 f5 v5a v5b k5_0 => ?_)
      have F5 := y_rf_tr F4 f5
      refine x_push (-10) rfl ?_
      refine x_iload rfl ?_
      refine x_cV (fun _ => rfl) rfl (by decide) (Nat.le_of_ble_eq_true rfl) ?_
      refine rs_96 (by omega) (by omega) (by omega) (by omega) (by omega) (by omega) (by omega) (fun v6 v6a v6b => ?_)
      refine x_iret ?_
      exact k _ _ F5 (by omega) (by omega)
  · skip
    refine x_if_eq (by omega) (by omega) (fun z7 => ?_) (fun z => absurd (by omega) z)
    refine x_blk (b := 1) (a_193 E) rfl ?_
    unfold b_193_1
    refine x_push (-1) rfl ?_
    refine x_iret ?_
    exact k _ _ y_rf_rf (by omega) (by omega)
theorem rs_198 {E : q_E} {σ : x_S} {Q : Option q_V → x_S → Prop} {a1 a2 a3 : Int} (a1l : (-2147483648) ≤ a1) (a1h : a1 ≤ 2147483647) (a2l : (-2147483648) ≤ a2) (a2h : a2 ≤ 2147483647) (a3l : (-2147483648) ≤ a3) (a3h : a3 ≤ 2147483647) (hR : y_RI σ) (k : y_KQ Q σ) : x_P E 198 [x_R 138, x_I a1, x_I a2, x_I a3] σ Q := by
  obtain ⟨rl, hP, ru5, rb, rk, rc⟩ := id hR
  have ru := hP.2.2.2.1
  have kd := hP.1
  refine x_Mt e_198 (h_198 E) (Nat.le_of_ble_eq_true rfl) t_198 rfl ?_
  refine x_blk (b := 0) (a_198 E) rfl ?_
  unfold b_198_0
  refine x_iload rfl ?_
  refine x_cS (fun _ => rfl) (Nat.le_of_ble_eq_true rfl) ?_
  refine c_64 (by omega) (by omega) (fun y1 => ?_) (fun y1 => ?_)
  · skip
    refine x_if_eq (by omega) (by omega) (fun z => absurd z (by omega)) (fun z2 => ?_)
    refine x_aload rfl ?_
    refine x_iload rfl ?_
    refine x_iload rfl ?_
    refine x_cV (fun _ => rfl) rfl (by decide) (Nat.le_of_ble_eq_true rfl) ?_
    refine c_92 (by omega) (by omega) (by omega) (by omega) hP (fun y3 => ?_) (fun y3 => ?_)
    · skip
      refine x_if_ne (by omega) (by omega) (fun z => absurd z (by omega)) (fun z4 => ?_)
      refine x_blk (b := 2) (a_198 E) rfl ?_
      unfold b_198_2
      have ht := y_szt hP (t := a2) (by omega) (by omega)
      refine x_aload rfl ?_
      refine x_iload rfl ?_
      refine x_push 0 rfl ?_
      refine x_cV (fun _ => rfl) rfl (by decide) (Nat.le_of_ble_eq_true rfl) ?_
      refine rs_80 (by omega) (by omega) (by omega) (by omega) hP (fun S5 f5 k5_0 k5_1 => ?_)
      have F5 := y_rf_tr y_rf_rf f5
      refine x_aload rfl ?_
      refine x_iload rfl ?_
      refine x_push 0 rfl ?_
      refine x_cV (fun _ => rfl) rfl (by decide) (Nat.le_of_ble_eq_true rfl) ?_
      refine rs_94 (by omega) (by omega) (by omega) (by omega) (by assumption) (y_rf_P F5 hP) (fun S6 v6 f6 v6a v6b k6_0 k6_1 => ?_)
      have F6 := y_rf_tr F5 f6
      refine x_pop rfl ?_
      refine x_aload rfl ?_
      refine x_getR (r := 138) rfl (by decide) (by decide) rfl ?_
      refine x_iload rfl ?_
      refine x_ialdM y_m152 (by omega) (by omega) (fun v7 v7a v7b => ?_)
      refine x_iret ?_
      exact k _ _ F6 (by omega) (by omega)
    · skip
      refine x_if_ne (by omega) (by omega) (fun z8 => ?_) (fun z => absurd (by omega) z)
      refine x_fall ?_
      refine x_blk (b := 1) (a_198 E) rfl ?_
      unfold b_198_1
      refine x_push (-1) rfl ?_
      refine x_iret ?_
      exact k _ _ y_rf_rf (by omega) (by omega)
  · skip
    refine x_if_eq (by omega) (by omega) (fun z9 => ?_) (fun z => absurd (by omega) z)
    refine x_blk (b := 1) (a_198 E) rfl ?_
    unfold b_198_1
    refine x_push (-1) rfl ?_
    refine x_iret ?_
    exact k _ _ y_rf_rf (by omega) (by omega)
