theorem rs_196_b4 {E : q_E} {σ : x_S} {Q : Option q_V → x_S → Prop} {a1 a2 : Int} (a1l : 0 ≤ a1) (a1h : a1 ≤ 15) (a2l : 0 ≤ a2) (a2h : a2 ≤ 6) (rq0 : 0 ≤ a1 ∧ a1 < σ 140 62) (rq1 : a2 < σ 140 (63 + 12 * a1.toNat + 4)) (hP : y_PI (σ 140)) (k : ∀ v, 0 ≤ v → v ≤ 7 → a2 < v → v ≤ σ 140 (63 + 12 * a1.toNat + 4) → y_op (y_W σ a1.toNat) v.toNat = y_op (y_W σ a1.toNat) a2.toNat - 1 → Q (some (x_I v)) σ) : ∀ (N : Nat) (o i : Int), (7 - i).toNat = N → 0 ≤ o → o ≤ 9 → 0 ≤ i → i ≤ 7 → a2 ≤ i → i ≤ σ 140 (63 + 12 * a1.toNat + 4) → o ≤ i - a2 + 1 → o = y_op (y_W σ a1.toNat) i.toNat - y_op (y_W σ a1.toNat) a2.toNat + 1 → (o = 0 → a2 < i) → x_G E m_196 Q (t_196 4) [(0, x_R 138), (1, x_I a1), (3, x_I o), (4, x_I i)] [] σ := by
  have ru := hP.2.2.2.1
  have kd := hP.1
  have hsz := y_sz (σ := σ) (r := a1) hP (by omega) (by omega)
  have hr := y_rl_of (σ := σ) (r := a1) hP (by omega) (by omega)
  have ha : 1 ≤ y_op (y_W σ a1.toNat) a2.toNat := (hr.2.2.2.2.2.1 a2.toNat (show a2.toNat < (σ 140 (63 + 12 * a1.toNat + 4)).toNat by omega)).2
  intro N
  induction N using Nat.strongRecOn with
  | ind N ih =>
    intro o i hN oL oH iL iH ex0 ex1 ex2 ex3 ex4
    refine x_blk (b := 4) (a_196 E) rfl ?_
    unfold b_196_4
    refine x_iload rfl ?_
    refine x_if_le (by omega) (by omega) (fun z1 => ?_) (fun z1 => ?_)
    · skip
      refine x_blk (b := 1) (a_196 E) rfl ?_
      unfold b_196_1
      refine x_iload rfl ?_
      refine x_iret ?_
      exact k _ (by omega) (by omega) (by omega) (by omega) (by omega)
    · skip
      obtain ⟨j, hj⟩ : ∃ j : Nat, i = j := ⟨i.toNat, by omega⟩
      subst hj
      have ej : (5 + (j : Int) - 5).toNat = j := by omega
      have hlt : (j : Int) < σ 140 (63 + 12 * a1.toNat + 4) := by
        by_cases c : j = (σ 140 (63 + 12 * a1.toNat + 4)).toNat
        · have he : y_op (y_W σ a1.toNat) j = 0 := by rw [c]; exact hr.2.2.2.2.2.2
          rw [show ((j : Int)).toNat = j by omega] at ex3
          omega
        · omega
      refine x_aload rfl ?_
      refine x_iload rfl ?_
      refine x_push 5 rfl ?_
      refine x_iload rfl ?_
      refine x_iadd ?_
      refine x_cV (fun _ => rfl) rfl (by decide) (Nat.le_of_ble_eq_true rfl) ?_
      refine rf_3_p y_rf_rf hP (by omega) (by omega) (by omega) (by omega) (fun v2 v2a v2b v2c v2d v2e => ?_)
      rw [ej] at v2d v2e
      have hy : y_op (y_W σ a1.toNat) (j + 1) = y_op (y_W σ a1.toNat) j + y_c9 (σ 140 (63 + 12 * a1.toNat + (5 + j))) - 1 := rfl
      rw [← v2d] at hy
      have c9 := y_c9v v2
      rw [show ((j : Int)).toNat = j by omega] at ex3
      have en : ((j : Int) + 1).toNat = j + 1 := by omega
      rw [← en] at hy
      refine x_istore ?_
      refine x_iload rfl ?_
      refine x_iload rfl ?_
      refine x_push 9 rfl ?_
      refine x_icmp_le (by omega) (by omega) (by omega) (by omega) (fun z3 => ?_) (fun z3 => ?_)
      · skip
        refine x_blk (b := 2) (a_196 E) rfl ?_
        unfold b_196_2
        refine x_iload rfl ?_
        refine x_cS (fun _ => rfl) (Nat.le_of_ble_eq_true rfl) ?_
        refine rs_0 (by omega) (by omega) (fun v4 v4a v4b v4c => ?_)
        refine x_push 1 rfl ?_
        refine x_isub ?_
        refine x_fall ?_
        refine x_blk (b := 3) (a_196 E) rfl ?_
        unfold b_196_3
        refine x_iadd ?_
        refine x_istore ?_
        refine x_X_lo (lo' := [(0, x_R 138), (1, x_I _), (3, x_I _), (4, x_I _), (5, x_I _)]) ⟨rfl, rfl, rfl, rfl, rfl, trivial⟩ ?_
        refine x_iinc 1 rfl rfl ?_
        refine x_goto ?_
        refine x_G_lo (lo' := [(0, x_R 138), (1, x_I _), (3, x_I _), (4, x_I _)]) ⟨rfl, rfl, rfl, rfl, trivial⟩ ?_
        exact ih _ (by omega) _ _  rfl (by omega) (by omega) (by omega) (by omega) (by omega) (by omega) (by omega) (by omega) (by omega) 
      · skip
        refine x_push (-1) rfl ?_
        refine x_goto ?_
        refine x_blk (b := 3) (a_196 E) rfl ?_
        unfold b_196_3
        refine x_iadd ?_
        refine x_istore ?_
        refine x_X_lo (lo' := [(0, x_R 138), (1, x_I _), (3, x_I _), (4, x_I _), (5, x_I _)]) ⟨rfl, rfl, rfl, rfl, rfl, trivial⟩ ?_
        refine x_iinc 1 rfl rfl ?_
        refine x_goto ?_
        refine x_G_lo (lo' := [(0, x_R 138), (1, x_I _), (3, x_I _), (4, x_I _)]) ⟨rfl, rfl, rfl, rfl, trivial⟩ ?_
        exact ih _ (by omega) _ _  rfl (by omega) (by omega) (by omega) (by omega) (by omega) (by omega) (by omega) (by omega) (by omega) 
theorem rs_196 {E : q_E} {σ : x_S} {Q : Option q_V → x_S → Prop} {a1 a2 : Int} (a1l : 0 ≤ a1) (a1h : a1 ≤ 15) (a2l : 0 ≤ a2) (a2h : a2 ≤ 6) (rq0 : 0 ≤ a1 ∧ a1 < σ 140 62) (rq1 : a2 < σ 140 (63 + 12 * a1.toNat + 4)) (hP : y_PI (σ 140)) (k : ∀ v, 0 ≤ v → v ≤ 7 → a2 < v → v ≤ σ 140 (63 + 12 * a1.toNat + 4) → y_op (y_W σ a1.toNat) v.toNat = y_op (y_W σ a1.toNat) a2.toNat - 1 → Q (some (x_I v)) σ) : x_P E 196 [x_R 138, x_I a1, x_I a2] σ Q := by
  have ru := hP.2.2.2.1
  have kd := hP.1
  have hsz := y_sz (σ := σ) (r := a1) hP (by omega) (by omega)
  have hr := y_rl_of (σ := σ) (r := a1) hP (by omega) (by omega)
  have ha : 1 ≤ y_op (y_W σ a1.toNat) a2.toNat := (hr.2.2.2.2.2.1 a2.toNat (show a2.toNat < (σ 140 (63 + 12 * a1.toNat + 4)).toNat by omega)).2
  refine x_Mt e_196 (h_196 E) (Nat.le_of_ble_eq_true rfl) t_196 rfl ?_
  refine x_blk (b := 0) (a_196 E) rfl ?_
  unfold b_196_0
  refine x_push 1 rfl ?_
  refine x_istore ?_
  refine x_iload rfl ?_
  refine x_istore ?_
  refine x_X_lo (lo' := [(0, x_R 138), (1, x_I _), (2, x_I _), (3, x_I _), (4, x_I _)]) ⟨rfl, rfl, rfl, rfl, rfl, trivial⟩ ?_
  refine x_fall ?_
  refine x_G_lo (lo' := [(0, x_R 138), (1, x_I _), (3, x_I _), (4, x_I _)]) ⟨rfl, rfl, rfl, rfl, trivial⟩ ?_
  exact rs_196_b4 a1l a1h a2l a2h rq0 rq1 hP k  _ _ _  rfl (by omega) (by omega) (by omega) (by omega) (by omega) (by omega) (by omega) (by omega) (by omega) 
theorem rs_117 {E : q_E} {σ σ0 : x_S} {Q : Option q_V → x_S → Prop} {a1 a2 : Int} (a1l : -2147483648 ≤ a1) (a1h : a1 ≤ 2147483647) (a2l : 0 ≤ a2) (a2h : a2 < σ0 138 10) (B : y_bs σ0 σ) (hP : y_PI (σ0 140)) (gd : y_gd σ0) (k1 : ∀ (τ : x_S) {r : Int}, y_us σ τ → τ 138 26 = a2 → τ 138 25 = 0 → τ 138 24 = r → (0 ≤ r ∧ r < σ0 140 62) → σ0 140 (63 + 12 * r.toNat + 2) = σ0 145 a2.toNat → Q (some (x_I 1)) τ) (k0 : ∀ τ, y_us σ τ → Q (some (x_I 0)) τ) : x_P E 117 [x_R 138, x_I a1, x_I a2] σ Q := by
  have ru := hP.2.2.2.1
  have kd := hP.1
  have F0 := y_bs_F B
  have g1 := gd.1
  have l5 : ∀ m, σ 145 m = σ0 145 m := y_sm_a B 145 (by decide) (by decide)
  have l6 : ∀ m, σ 146 m = σ0 146 m := y_sm_a B 146 (by decide) (by decide)
  refine x_Mt e_117 (h_117 E) (Nat.le_of_ble_eq_true rfl) t_117 rfl ?_
  refine x_blk (b := 0) (a_117 E) rfl ?_
  unfold b_117_0
  refine x_aload rfl ?_
  refine x_iload rfl ?_
  refine x_put138 (by decide) rfl ⟨by decide, rfl⟩ (by decide) F0 (by omega) (by omega) (fun S1 e1 F1 => ?_)
  refine x_aload rfl ?_
  refine x_aload rfl ?_
  refine x_push 0 rfl ?_
  refine x_iload rfl ?_
  refine x_aload rfl ?_
  refine x_getR (r := 138) rfl (by decide) (by decide) rfl ?_
  refine x_iload rfl ?_
  refine x_iald (r := 145) (n := 40) (m := a2.toNat) rfl rfl (by decide) (fun _ => rfl) (by omega) (by omega) (by omega) ?_
  have q2_0 : S1 145 (a2.toNat) = σ 145 (a2.toNat) := x_up_nr e1 (by decide)
  rw [q2_0]
  rw [l5]
  intro g2a g2b
  refine x_aload rfl ?_
  refine x_getR (r := 138) rfl (by decide) (by decide) rfl ?_
  refine x_iload rfl ?_
  refine x_ialdM y_m147 (by omega) (by omega) (fun v3 v3a v3b => ?_)
  refine x_cV (fun _ => rfl) rfl (by decide) (Nat.le_of_ble_eq_true rfl) ?_
  refine rs_18 (by omega) (by omega) (by omega) (by omega) (by omega) (by omega) (by omega) (by omega) (y_rf_P F1 hP) (fun v4 v4a v4b k4_0 => ?_)
  have n62 := y_rf_n F1 62
  have nL := y_rf_n F1 (63 + 12 * v4.toNat + 2)
  refine x_put138 (by decide) rfl ⟨by decide, rfl⟩ (by decide) F1 (by omega) (by omega) (fun S5 e5 F5 => ?_)
  refine x_aload rfl ?_
  refine x_push 0 rfl ?_
  refine x_put138 (by decide) rfl ⟨by decide, rfl⟩ (by decide) F5 (by omega) (by omega) (fun S6 e6 F6 => ?_)
  refine x_aload rfl ?_
  refine x_iload rfl ?_
  refine x_put138 (by decide) rfl ⟨by decide, rfl⟩ (by decide) F6 (by omega) (by omega) (fun S7 e7 F7 => ?_)
  refine x_aload rfl ?_
  refine x_getI (r := 138) rfl (by decide) (by decide) (by decide) rfl ?_
  have q8_0 : S7 138 24 = S6 138 24 := x_up_ne e7 (by omega)
  have q8_1 : S6 138 24 = S5 138 24 := x_up_ne e6 (by omega)
  simp only [q8_0, q8_1]
  have w8 := x_up_at e5
  intro g8a g8b
  refine x_push (-4) rfl ?_
  refine x_icmp_eq (by omega) (by omega) (by omega) (by omega) (fun z9 => ?_) (fun z9 => ?_)
  · skip
    refine x_blk (b := 1) (a_117 E) rfl ?_
    unfold b_117_1
    refine x_push 0 rfl ?_
    refine x_fall ?_
    refine x_blk (b := 2) (a_117 E) rfl ?_
    unfold b_117_2
    refine x_zret (by decide) ?_
    exact k0 _ (y_sm_tr (y_sm_tr (y_sm_tr (y_sm_tr y_sm_rf (y_sm_e e1 (Or.inr ⟨rfl, by decide⟩))) (y_sm_e e5 (Or.inr ⟨rfl, by decide⟩))) (y_sm_e e6 (Or.inr ⟨rfl, by decide⟩))) (y_sm_e e7 (Or.inr ⟨rfl, by decide⟩)))
  · skip
    refine x_push 1 rfl ?_
    refine x_goto ?_
    refine x_blk (b := 2) (a_117 E) rfl ?_
    unfold b_117_2
    refine x_zret (by decide) ?_
    refine k1 _ (r := v4) (y_sm_tr (y_sm_tr (y_sm_tr (y_sm_tr y_sm_rf (y_sm_e e1 (Or.inr ⟨rfl, by decide⟩))) (y_sm_e e5 (Or.inr ⟨rfl, by decide⟩))) (y_sm_e e6 (Or.inr ⟨rfl, by decide⟩))) (y_sm_e e7 (Or.inr ⟨rfl, by decide⟩))) ?_ ?_ ?_ (by omega) (by omega)
    · rw [x_up_ne e7 (by decide), x_up_ne e6 (by decide), x_up_ne e5 (by decide), x_up_at e1]
    · rw [x_up_ne e7 (by decide), x_up_at e6]
    · rw [x_up_ne e7 (by decide), x_up_ne e6 (by decide), x_up_at e5]
theorem rs_195_b0 {E : q_E} {σ σ0 : x_S} {Q : Option q_V → x_S → Prop} (B : y_bs σ0 σ) (hP : y_PI (σ0 140)) (gd : y_gd σ0) (un : y_un σ0 σ) (k1 : ∀ τ, y_us σ τ → y_un σ0 τ → σ0 140 (63 + 12 * (τ 138 24).toNat + (5 + (τ 138 25).toNat)) ≤ 4 → 0 ≤ σ0 140 (63 + 12 * (τ 138 24).toNat + (5 + (τ 138 25).toNat)) → (7 * σ 138 26 + σ 138 25 ≤ 7 * τ 138 26 + τ 138 25) → Q (some (x_I 1)) τ) (k0 : ∀ τ, y_us σ τ → Q (some (x_I 0)) τ) : ∀ (N : Nat) (τ : x_S), (40 - τ 138 26).toNat = N → y_bs σ0 τ → y_us σ τ → y_un σ0 τ → (7 * σ 138 26 + σ 138 25 ≤ 7 * τ 138 26 + τ 138 25) → x_G E m_195 Q (t_195 0) [(0, x_R 138)] [] τ := by
  have ru := hP.2.2.2.1
  have kd := hP.1
  have F0 := y_bs_F B
  have g1 := gd.1
  have l5 : ∀ m, σ 145 m = σ0 145 m := y_sm_a B 145 (by decide) (by decide)
  have l6 : ∀ m, σ 146 m = σ0 146 m := y_sm_a B 146 (by decide) (by decide)
  have hu0 := un
  intro N
  induction N using Nat.strongRecOn with
  | ind N ih =>
    intro τ hN Bt hu hun hle
    have F := y_bs_F Bt
    have t5 : ∀ m, τ 145 m = σ0 145 m := y_sm_a Bt 145 (by decide) (by decide)
    have t6 : ∀ m, τ 146 m = σ0 146 m := y_sm_a Bt 146 (by decide) (by decide)
    obtain ⟨⟨u1, u2⟩, ⟨u3, u4⟩, ⟨u5, u6⟩, u7⟩ := id hun
    have sz := y_sz hP u1 u2
    have e5 : (5 + τ 138 25 - 5).toNat = (τ 138 25).toNat := by omega
    obtain ⟨d1, d2, d3, d4, d5, d6, d7⟩ := y_gdn (p := σ0 145) (past := σ0 146) (g := σ0 138 10) (v := (τ 138 26).toNat) gd.2.1 (by omega) (fun u _ h => gd.2.2 u (by omega))
    refine x_blk (b := 0) (a_195 E) rfl ?_
    unfold b_195_0
    refine x_aload rfl ?_
    refine x_aload rfl ?_
    refine x_getI (r := 138) rfl (by decide) (by decide) (by decide) rfl ?_
    intro g1a g1b
    refine x_push 5 rfl ?_
    refine x_aload rfl ?_
    refine x_getI (r := 138) rfl (by decide) (by decide) (by decide) rfl ?_
    intro g2a g2b
    refine x_iadd ?_
    refine x_cV (fun _ => rfl) rfl (by decide) (Nat.le_of_ble_eq_true rfl) ?_
    refine rf_3_p F hP (by omega) (by omega) (by omega) (by omega) (fun v3 v3a v3b v3c v3d v3e => ?_)
    rw [e5] at v3d v3e
    refine x_push 9 rfl ?_
    refine x_icmp_le (by omega) (by omega) (by omega) (by omega) (fun z4 => ?_) (fun z4 => ?_)
    · skip
      refine x_blk (b := 1) (a_195 E) rfl ?_
      unfold b_195_1
      refine x_push 1 rfl ?_
      refine x_zret (by decide) ?_
      exact k1 τ hu hun (by omega) (by omega) (by omega)
    · skip
      refine x_aload rfl ?_
      refine x_aload rfl ?_
      refine x_getI (r := 138) rfl (by decide) (by decide) (by decide) rfl ?_
      intro g5a g5b
      refine x_push 5 rfl ?_
      refine x_aload rfl ?_
      refine x_getI (r := 138) rfl (by decide) (by decide) (by decide) rfl ?_
      intro g6a g6b
      refine x_iadd ?_
      refine x_cV (fun _ => rfl) rfl (by decide) (Nat.le_of_ble_eq_true rfl) ?_
      refine rf_3_p F hP (by omega) (by omega) (by omega) (by omega) (fun v7 v7a v7b v7c v7d v7e => ?_)
      rw [e5] at v7d v7e
      refine x_istore ?_
      refine x_aload rfl ?_
      refine x_push 0 rfl ?_
      refine x_aload rfl ?_
      refine x_getR (r := 138) rfl (by decide) (by decide) rfl ?_
      refine x_aload rfl ?_
      refine x_getI (r := 138) rfl (by decide) (by decide) (by decide) rfl ?_
      intro g8a g8b
      refine x_iald (r := 145) (n := 40) (m := (τ 138 26).toNat) rfl rfl (by decide) (fun _ => rfl) (by omega) (by omega) (by omega) ?_
      rw [t5]
      intro g9a g9b
      refine x_iload rfl ?_
      refine x_cV (fun _ => rfl) rfl (by decide) (Nat.le_of_ble_eq_true rfl) ?_
      refine rs_32 (by omega) (by omega) (by omega) (by omega) (by omega) (by omega) (y_rf_P F hP) (fun y10 => ?_) (fun y10 => ?_)
      · skip
        refine x_if_eq (by omega) (by omega) (fun z => absurd z (by omega)) (fun z11 => ?_)
        refine x_aload rfl ?_
        refine x_getR (r := 138) rfl (by decide) (by decide) rfl ?_
        refine x_aload rfl ?_
        refine x_getI (r := 138) rfl (by decide) (by decide) (by decide) rfl ?_
        intro g12a g12b
        refine x_push 1 rfl ?_
        refine x_iadd ?_
        refine x_iald (r := 146) (n := 40) (m := (τ 138 26).toNat + 1) rfl rfl (by decide) (fun _ => rfl) (by omega) (by omega) (by omega) ?_
        rw [t6]
        intro g13a g13b
        refine x_goto ?_
        refine x_blk (b := 3) (a_195 E) rfl ?_
        unfold b_195_3
        refine x_istore ?_
        refine x_X_lo (lo' := [(0, x_R 138), (1, x_I _), (2, x_I _)]) ⟨rfl, rfl, rfl, trivial⟩ ?_
        refine x_aload rfl ?_
        refine x_iload rfl ?_
        refine x_push 10 rfl ?_
        refine x_isub ?_
        refine x_push 2 rfl ?_
        refine x_idiv (by omega) (by omega) (by omega) (by omega) ?_
        refine x_iload rfl ?_
        refine x_cV (fun _ => rfl) rfl (by decide) (Nat.le_of_ble_eq_true rfl) ?_
        refine rs_117 (by omega) (by omega) (by omega) (by omega) Bt hP gd (fun S14 r14 f14 ra14 rb14 rc14 rd14 re14 => ?_) (fun S14 f14 => ?_)
        · skip
          have B14 := y_bs_us Bt f14
          have F14 := y_bs_F B14
          refine x_if_ne (by omega) (by omega) (fun z => absurd z (by omega)) (fun z15 => ?_)
          refine x_blk (b := 4) (a_195 E) rfl ?_
          unfold b_195_4
          refine x_goto ?_
          refine x_G_lo (lo' := [(0, x_R 138)]) ⟨rfl, trivial⟩ ?_
          refine ih _ (by omega) S14 rfl B14 (y_sm_tr hu f14) ⟨by omega, ⟨by omega, ?_⟩, by omega, ?_⟩ (by omega)
          · rw [rc14, rb14]
            have := y_sz hP rd14.1 rd14.2
            omega
          · rw [rc14, ra14]; exact re14
        · skip
          have B14 := y_bs_us Bt f14
          have F14 := y_bs_F B14
          refine x_if_ne (by omega) (by omega) (fun z16 => ?_) (fun z => absurd (by omega) z)
          refine x_push 0 rfl ?_
          refine x_zret (by decide) ?_
          exact k0 _ (y_sm_tr hu f14)
      · skip
        refine x_if_eq (by omega) (by omega) (fun z17 => ?_) (fun z => absurd (by omega) z)
        refine x_blk (b := 2) (a_195 E) rfl ?_
        unfold b_195_2
        refine x_aload rfl ?_
        refine x_getI (r := 138) rfl (by decide) (by decide) (by decide) rfl ?_
        intro g18a g18b
        refine x_push 1 rfl ?_
        refine x_iadd ?_
        refine x_fall ?_
        refine x_blk (b := 3) (a_195 E) rfl ?_
        unfold b_195_3
        refine x_istore ?_
        refine x_X_lo (lo' := [(0, x_R 138), (1, x_I _), (2, x_I _)]) ⟨rfl, rfl, rfl, trivial⟩ ?_
        refine x_aload rfl ?_
        refine x_iload rfl ?_
        refine x_push 10 rfl ?_
        refine x_isub ?_
        refine x_push 2 rfl ?_
        refine x_idiv (by omega) (by omega) (by omega) (by omega) ?_
        refine x_iload rfl ?_
        refine x_cV (fun _ => rfl) rfl (by decide) (Nat.le_of_ble_eq_true rfl) ?_
        refine rs_117 (by omega) (by omega) (by omega) (by omega) Bt hP gd (fun S19 r19 f19 ra19 rb19 rc19 rd19 re19 => ?_) (fun S19 f19 => ?_)
        · skip
          have B19 := y_bs_us Bt f19
          have F19 := y_bs_F B19
          refine x_if_ne (by omega) (by omega) (fun z => absurd z (by omega)) (fun z20 => ?_)
          refine x_blk (b := 4) (a_195 E) rfl ?_
          unfold b_195_4
          refine x_goto ?_
          refine x_G_lo (lo' := [(0, x_R 138)]) ⟨rfl, trivial⟩ ?_
          refine ih _ (by omega) S19 rfl B19 (y_sm_tr hu f19) ⟨by omega, ⟨by omega, ?_⟩, by omega, ?_⟩ (by omega)
          · rw [rc19, rb19]
            have := y_sz hP rd19.1 rd19.2
            omega
          · rw [rc19, ra19]; exact re19
        · skip
          have B19 := y_bs_us Bt f19
          have F19 := y_bs_F B19
          refine x_if_ne (by omega) (by omega) (fun z21 => ?_) (fun z => absurd (by omega) z)
          refine x_push 0 rfl ?_
          refine x_zret (by decide) ?_
          exact k0 _ (y_sm_tr hu f19)
theorem rs_195 {E : q_E} {σ σ0 : x_S} {Q : Option q_V → x_S → Prop} (B : y_bs σ0 σ) (hP : y_PI (σ0 140)) (gd : y_gd σ0) (un : y_un σ0 σ) (k1 : ∀ τ, y_us σ τ → y_un σ0 τ → σ0 140 (63 + 12 * (τ 138 24).toNat + (5 + (τ 138 25).toNat)) ≤ 4 → 0 ≤ σ0 140 (63 + 12 * (τ 138 24).toNat + (5 + (τ 138 25).toNat)) → (7 * σ 138 26 + σ 138 25 ≤ 7 * τ 138 26 + τ 138 25) → Q (some (x_I 1)) τ) (k0 : ∀ τ, y_us σ τ → Q (some (x_I 0)) τ) : x_P E 195 [x_R 138] σ Q := by
  have ru := hP.2.2.2.1
  have kd := hP.1
  have F0 := y_bs_F B
  have g1 := gd.1
  have l5 : ∀ m, σ 145 m = σ0 145 m := y_sm_a B 145 (by decide) (by decide)
  have l6 : ∀ m, σ 146 m = σ0 146 m := y_sm_a B 146 (by decide) (by decide)
  have hu0 := un
  refine x_Mt e_195 (h_195 E) (Nat.le_of_ble_eq_true rfl) t_195 rfl ?_
  refine x_G_lo (lo' := [(0, x_R 138)]) ⟨rfl, trivial⟩ ?_
  exact rs_195_b0 B hP gd un k1 k0 _ σ rfl B y_sm_rf un (by omega)
theorem rs_194 {E : q_E} {σ σ0 : x_S} {Q : Option q_V → x_S → Prop} {a1 : Int} (a1l : -2147483648 ≤ a1) (a1h : a1 ≤ 2147483647) (B : y_bs σ0 σ) (hP : y_PI (σ0 140)) (gd : y_gd σ0) (un : y_un σ0 σ) (hh : 0 ≤ σ 138 14 ∧ σ 138 14 ≤ 127) (k1 : ∀ (τ : x_S), y_sm [148, 149, 150, 153, 154] [14, 21, 24, 25, 26] σ τ → τ 138 14 = σ 138 14 + 1 → (∀ r m, r = 148 ∨ r = 149 ∨ r = 150 ∨ r = 153 ∨ r = 154 → m ≠ (σ 138 14).toNat → τ r m = σ r m) → (7 * σ 138 26 + σ 138 25 ≤ 7 * τ 150 (σ 138 14).toNat + τ 153 (σ 138 14).toNat) → τ 149 (σ 138 14).toNat = 0 → ((σ 138 14).toNat ≤ 7 * τ 150 (σ 138 14).toNat + τ 153 (σ 138 14).toNat → y_e2 σ0 τ (σ 138 14).toNat) → Q (some (x_I 1)) τ) (k0 : ∀ τ, y_us σ τ → Q (some (x_I 0)) τ) : x_P E 194 [x_R 138, x_I a1] σ Q := by
  have ru := hP.2.2.2.1
  have kd := hP.1
  have F0 := y_bs_F B
  have g1 := gd.1
  have l5 : ∀ m, σ 145 m = σ0 145 m := y_sm_a B 145 (by decide) (by decide)
  have l6 : ∀ m, σ 146 m = σ0 146 m := y_sm_a B 146 (by decide) (by decide)
  refine x_Mt e_194 (h_194 E) (Nat.le_of_ble_eq_true rfl) t_194 rfl ?_
  refine x_blk (b := 0) (a_194 E) rfl ?_
  unfold b_194_0
  refine x_aload rfl ?_
  refine x_cV (fun _ => rfl) rfl (by decide) (Nat.le_of_ble_eq_true rfl) ?_
  refine rs_195 B hP gd un (fun S1 f1 uu1 ua1 ub1 uc1 => ?_) (fun S1 f1 => ?_)
  · skip
    have B1 := y_bs_us B f1
    have F1 := y_bs_F B1
    refine x_if_ne (by omega) (by omega) (fun z => absurd z (by omega)) (fun z2 => ?_)
    refine x_blk (b := 1) (a_194 E) rfl ?_
    unfold b_194_1
    obtain ⟨⟨x1, x2⟩, ⟨x3, x4⟩, ⟨x5, x6⟩, x7⟩ := id uu1
    have sz := y_sz hP x1 x2
    have e5 : (5 + S1 138 25 - 5).toNat = (S1 138 25).toNat := by omega
    have p14 : S1 138 14 = σ 138 14 := f1 138 14 (by decide) (by decide)
    refine x_aload rfl ?_
    refine x_push 1 rfl ?_
    refine x_iload rfl ?_
    refine x_aload rfl ?_
    refine x_aload rfl ?_
    refine x_getI (r := 138) rfl (by decide) (by decide) (by decide) rfl ?_
    intro g3a g3b
    refine x_push 5 rfl ?_
    refine x_aload rfl ?_
    refine x_getI (r := 138) rfl (by decide) (by decide) (by decide) rfl ?_
    intro g4a g4b
    refine x_iadd ?_
    refine x_cV (fun _ => rfl) rfl (by decide) (Nat.le_of_ble_eq_true rfl) ?_
    refine rf_3_p F1 hP (by omega) (by omega) (by omega) (by omega) (fun v5 v5a v5b v5c v5d v5e => ?_)
    rw [e5] at v5d v5e
    refine x_push 99 rfl ?_
    refine x_cV (fun _ => rfl) rfl (by decide) (Nat.le_of_ble_eq_true rfl) ?_
    refine rs_18 (by omega) (by omega) (by omega) (by omega) (by omega) (by omega) (by omega) (by omega) (y_rf_P F1 hP) (fun v6 v6a v6b k6_0 => ?_)
    have n62 := y_rf_n F1 62
    have nL := y_rf_n F1 (63 + 12 * v6.toNat + 2)
    refine x_istore ?_
    refine x_aload rfl ?_
    refine x_aload rfl ?_
    refine x_getI (r := 138) rfl (by decide) (by decide) (by decide) rfl ?_
    intro g7a g7b
    refine x_put138 (by decide) rfl ⟨by decide, rfl⟩ (by decide) F1 (by omega) (by omega) (fun S8 e8 F8 => ?_)
    refine x_iload rfl ?_
    refine x_push (-4) rfl ?_
    refine x_icmp_ne (by omega) (by omega) (by omega) (by omega) (fun z9 => ?_) (fun z9 => ?_)
    · skip
      refine x_push 0 rfl ?_
      refine x_zret (by decide) ?_
      exact k0 _ (y_sm_tr f1 (y_sm_e e8 (Or.inr ⟨rfl, by decide⟩)))
    · skip
      refine x_blk (b := 2) (a_194 E) rfl ?_
      unfold b_194_2
      refine x_aload rfl ?_
      refine x_getR (r := 138) rfl (by decide) (by decide) rfl ?_
      refine x_aload rfl ?_
      refine x_getI (r := 138) rfl (by decide) (by decide) (by decide) rfl ?_
      have q10_0 : S8 138 14 = S1 138 14 := x_up_ne e8 (by omega)
      simp only [q10_0]
      intro g10a g10b
      refine x_iload rfl ?_
      refine x_astN (m := (σ 138 14).toNat) y_m148 F8 (by omega) (by omega) (by omega) (by omega) (by omega) (fun S11 e11 F11 => ?_)
      have w11 := x_up_at e11
      refine x_aload rfl ?_
      refine x_getR (r := 138) rfl (by decide) (by decide) rfl ?_
      refine x_aload rfl ?_
      refine x_getI (r := 138) rfl (by decide) (by decide) (by decide) rfl ?_
      have q12_0 : S11 138 14 = S8 138 14 := x_up_nr e11 (by decide)
      have q12_1 : S8 138 14 = S1 138 14 := x_up_ne e8 (by omega)
      simp only [q12_0, q12_1]
      intro g12a g12b
      refine x_push 0 rfl ?_
      refine x_astN (m := (σ 138 14).toNat) y_m149 F11 (by omega) (by omega) (by omega) (by omega) (by omega) (fun S13 e13 F13 => ?_)
      have w13 := x_up_at e13
      refine x_aload rfl ?_
      refine x_getR (r := 138) rfl (by decide) (by decide) rfl ?_
      refine x_aload rfl ?_
      refine x_getI (r := 138) rfl (by decide) (by decide) (by decide) rfl ?_
      have q14_0 : S13 138 14 = S11 138 14 := x_up_nr e13 (by decide)
      have q14_1 : S11 138 14 = S8 138 14 := x_up_nr e11 (by decide)
      have q14_2 : S8 138 14 = S1 138 14 := x_up_ne e8 (by omega)
      simp only [q14_0, q14_1, q14_2]
      intro g14a g14b
      refine x_aload rfl ?_
      refine x_getI (r := 138) rfl (by decide) (by decide) (by decide) rfl ?_
      have q15_0 : S13 138 26 = S11 138 26 := x_up_nr e13 (by decide)
      have q15_1 : S11 138 26 = S8 138 26 := x_up_nr e11 (by decide)
      have q15_2 : S8 138 26 = S1 138 26 := x_up_ne e8 (by omega)
      simp only [q15_0, q15_1, q15_2]
      intro g15a g15b
      refine x_astN (m := (σ 138 14).toNat) y_m150 F13 (by omega) (by omega) (by omega) (by omega) (by omega) (fun S16 e16 F16 => ?_)
      have w16 := x_up_at e16
      refine x_aload rfl ?_
      refine x_getR (r := 138) rfl (by decide) (by decide) rfl ?_
      refine x_aload rfl ?_
      refine x_getI (r := 138) rfl (by decide) (by decide) (by decide) rfl ?_
      have q17_0 : S16 138 14 = S13 138 14 := x_up_nr e16 (by decide)
      have q17_1 : S13 138 14 = S11 138 14 := x_up_nr e13 (by decide)
      have q17_2 : S11 138 14 = S8 138 14 := x_up_nr e11 (by decide)
      have q17_3 : S8 138 14 = S1 138 14 := x_up_ne e8 (by omega)
      simp only [q17_0, q17_1, q17_2, q17_3]
      intro g17a g17b
      refine x_aload rfl ?_
      refine x_getI (r := 138) rfl (by decide) (by decide) (by decide) rfl ?_
      have q18_0 : S16 138 25 = S13 138 25 := x_up_nr e16 (by decide)
      have q18_1 : S13 138 25 = S11 138 25 := x_up_nr e13 (by decide)
      have q18_2 : S11 138 25 = S8 138 25 := x_up_nr e11 (by decide)
      have q18_3 : S8 138 25 = S1 138 25 := x_up_ne e8 (by omega)
      simp only [q18_0, q18_1, q18_2, q18_3]
      intro g18a g18b
      refine x_astN (m := (σ 138 14).toNat) y_m153 F16 (by omega) (by omega) (by omega) (by omega) (by omega) (fun S19 e19 F19 => ?_)
      have w19 := x_up_at e19
      refine x_aload rfl ?_
      refine x_getR (r := 138) rfl (by decide) (by decide) rfl ?_
      refine x_aload rfl ?_
      refine x_getI (r := 138) rfl (by decide) (by decide) (by decide) rfl ?_
      have q20_0 : S19 138 14 = S16 138 14 := x_up_nr e19 (by decide)
      have q20_1 : S16 138 14 = S13 138 14 := x_up_nr e16 (by decide)
      have q20_2 : S13 138 14 = S11 138 14 := x_up_nr e13 (by decide)
      have q20_3 : S11 138 14 = S8 138 14 := x_up_nr e11 (by decide)
      have q20_4 : S8 138 14 = S1 138 14 := x_up_ne e8 (by omega)
      simp only [q20_0, q20_1, q20_2, q20_3, q20_4]
      intro g20a g20b
      refine x_aload rfl ?_
      refine x_getI (r := 138) rfl (by decide) (by decide) (by decide) rfl ?_
      have q21_0 : S19 138 24 = S16 138 24 := x_up_nr e19 (by decide)
      have q21_1 : S16 138 24 = S13 138 24 := x_up_nr e16 (by decide)
      have q21_2 : S13 138 24 = S11 138 24 := x_up_nr e13 (by decide)
      have q21_3 : S11 138 24 = S8 138 24 := x_up_nr e11 (by decide)
      have q21_4 : S8 138 24 = S1 138 24 := x_up_ne e8 (by omega)
      simp only [q21_0, q21_1, q21_2, q21_3, q21_4]
      intro g21a g21b
      refine x_astN (m := (σ 138 14).toNat) y_m154 F19 (by omega) (by omega) (by omega) (by omega) (by omega) (fun S22 e22 F22 => ?_)
      have w22 := x_up_at e22
      refine x_aload rfl ?_
      refine x_dup rfl ?_
      refine x_getI (r := 138) rfl (by decide) (by decide) (by decide) rfl ?_
      have q23_0 : S22 138 14 = S19 138 14 := x_up_nr e22 (by decide)
      have q23_1 : S19 138 14 = S16 138 14 := x_up_nr e19 (by decide)
      have q23_2 : S16 138 14 = S13 138 14 := x_up_nr e16 (by decide)
      have q23_3 : S13 138 14 = S11 138 14 := x_up_nr e13 (by decide)
      have q23_4 : S11 138 14 = S8 138 14 := x_up_nr e11 (by decide)
      have q23_5 : S8 138 14 = S1 138 14 := x_up_ne e8 (by omega)
      simp only [q23_0, q23_1, q23_2, q23_3, q23_4, q23_5]
      intro g23a g23b
      refine x_push 1 rfl ?_
      refine x_iadd ?_
      refine x_put138 (by decide) rfl ⟨by decide, rfl⟩ (by decide) F22 (by omega) (by omega) (fun S24 e24 F24 => ?_)
      refine x_push 1 rfl ?_
      refine x_zret (by decide) ?_
      have p8 : S24 148 (σ 138 14).toNat = v6 := by rw [x_up_nr e24 (by decide), x_up_nr e22 (by decide), x_up_nr e19 (by decide), x_up_nr e16 (by decide), x_up_nr e13 (by decide), x_up_at e11]
      have p9 : S24 149 (σ 138 14).toNat = 0 := by rw [x_up_nr e24 (by decide), x_up_nr e22 (by decide), x_up_nr e19 (by decide), x_up_nr e16 (by decide), x_up_at e13]
      have p0 : S24 150 (σ 138 14).toNat = S1 138 26 := by rw [x_up_nr e24 (by decide), x_up_nr e22 (by decide), x_up_nr e19 (by decide), x_up_at e16]
      have p3 : S24 153 (σ 138 14).toNat = S1 138 25 := by rw [x_up_nr e24 (by decide), x_up_nr e22 (by decide), x_up_at e19]
      have p4 : S24 154 (σ 138 14).toNat = S1 138 24 := by rw [x_up_nr e24 (by decide), x_up_at e22]
      have szr := y_sz (σ := σ0) (r := v6) hP (by omega) (by omega)
      refine k1 _ (y_sm_tr (y_sm_tr (y_sm_tr (y_sm_tr (y_sm_tr (y_sm_tr (y_sm_tr (y_sm_tr y_sm_rf (y_sm_w (by decide) (by decide) f1)) (y_sm_e e8 (Or.inr ⟨rfl, by decide⟩))) (y_sm_e e11 (Or.inl (by decide)))) (y_sm_e e13 (Or.inl (by decide)))) (y_sm_e e16 (Or.inl (by decide)))) (y_sm_e e19 (Or.inl (by decide)))) (y_sm_e e22 (Or.inl (by decide)))) (y_sm_e e24 (Or.inr ⟨rfl, by decide⟩))) (by have := x_up_at e24; omega) (fun q m hq hm => ?_) (by rw [p0, p3]; exact uc1) p9 (fun hle => ?_)
      · have z1 : ∀ (z : q = 138), False := fun z => by omega
        rw [x_up_ne e24 (fun z => z1 z.1), x_up_ne e22 (fun z => hm z.2), x_up_ne e19 (fun z => hm z.2), x_up_ne e16 (fun z => hm z.2), x_up_ne e13 (fun z => hm z.2), x_up_ne e11 (fun z => hm z.2), x_up_ne e8 (fun z => z1 z.1)]
        exact f1 q m (by simp) (fun z => absurd z (fun z => z1 z))
      · unfold y_e2
        rw [p0, p3] at hle
        rw [p8, p9, p0, p3, p4]
        obtain ⟨⟨x1, x2⟩, ⟨x3, x4⟩, ⟨x5, x6⟩, x7⟩ := id uu1
        exact ⟨⟨by omega, by omega⟩, ⟨by omega, by omega⟩, ⟨x5, x6⟩, ⟨x1, x2⟩, ⟨x3, x4⟩, x7, by omega, by omega, by omega⟩
  · skip
    have B1 := y_bs_us B f1
    have F1 := y_bs_F B1
    refine x_if_ne (by omega) (by omega) (fun z25 => ?_) (fun z => absurd (by omega) z)
    refine x_push 0 rfl ?_
    refine x_zret (by decide) ?_
    exact k0 _ f1
