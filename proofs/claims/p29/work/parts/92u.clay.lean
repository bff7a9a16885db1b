/-- the class reads a program into its draft, with what is chosen: exact -/
theorem kx_51_b {E : q_E} {σ : x_S} {Q : Option q_V → x_S → Prop} (kN : (y_rs (y_cx σ) (σ 1 2)).1 = -4 → ∀ τ, y_CI τ → y_fi σ τ → y_PG τ 11 (y_rs (y_cx σ) (σ 1 2)).2 → y_PI (y_rs (y_cx σ) (σ 1 2)).2 → Q (some (x_I (-4))) τ) (kF : 0 ≤ (y_rs (y_cx σ) (σ 1 2)).1 → (y_rs (y_cx σ) (σ 1 2)).1 ≤ 200 → ∀ τ, y_CI τ → y_fi σ τ → Q (some (x_I (y_rs (y_cx σ) (σ 1 2)).1)) τ) : ∀ (N : Nat) (i : Int) (A : Nat → Int) (τ : x_S), (200 - i).toNat = N → 0 ≤ i → i ≤ τ 1 3 → y_CI τ → y_fi σ τ → τ 1 4 = 0 → y_PI A → y_AG (y_cv τ 11) A → y_run (y_cx σ) (σ 1 2) N A (τ 1 3) = y_rs (y_cx σ) (σ 1 2) → x_G E m_51 Q (t_51 3) [(0, x_R 1), (1, x_R 11), (2, x_I i)] [] τ := by
  intro N
  induction N using Nat.strongRecOn with
  | ind N ih =>
    intro i A τ hN i1 i2 C fi t4 hP hA hr
    have t3 : 0 ≤ τ 1 3 ∧ τ 1 3 ≤ 200 := C 1 3 (by decide) (by decide) (by decide)
    have t2 : 0 ≤ τ 1 2 ∧ τ 1 2 ≤ 200 := C 1 2 (by decide) (by decide) (by decide)
    have e2 : τ 1 2 = σ 1 2 := fi 1 2 (by decide)
    have ex : y_cx τ = y_cx σ := y_fi_x fi
    have done : ¬ τ 1 3 < τ 1 2 → x_G E m_51 Q (t_51 1) [(0, x_R 1), (1, x_R 11), (2, x_I i)] [] τ := fun hd => by
      rw [y_run_e (by omega)] at hr
      refine x_blk (b := 1) (a_51 E) rfl ?_
      unfold b_51_1
      refine x_aload rfl ?_
      refine x_cV (fun _ => rfl) rfl (by decide) (Nat.le_of_ble_eq_true rfl) ?_
      refine kx_48_11 C hP hA (fun S C1 f1 w1 => ?_)
      refine x_push (-4) rfl ?_
      refine x_iret ?_
      have r1 : (y_rs (y_cx σ) (σ 1 2)).1 = -4 := by rw [← hr]
      have r2 : (y_rs (y_cx σ) (σ 1 2)).2 = A := by rw [← hr]
      refine kN r1 S C1 (fun q m hq => ?_) ?_ (by rw [r2]; exact hP)
      · rw [f1 q m (by omega)]; exact fi q m hq
      · rw [r2]
        exact ⟨y_AG_ex hA (fun m => y_cv_x (fun _ => f1 _ _ (by omega)) (fun _ _ => f1 _ _ (by omega)) (fun _ _ => f1 _ _ (by omega)) (fun _ _ => f1 _ _ (by omega)) (fun _ => f1 _ _ (by omega)) (fun _ => f1 _ _ (by omega))), w1⟩
    refine x_blk (b := 3) (a_51 E) rfl ?_
    unfold b_51_3
    refine x_iload rfl ?_
    refine x_push 200 rfl ?_
    refine x_icmp_ge (by omega) (by omega) (by omega) (by omega) (fun z1 => ?_) (fun z1 => done (by omega))
    refine x_aload rfl ?_
    refine x_getIG y_f1_3 C ?_
    intro g1 g2
    refine x_aload rfl ?_
    refine x_getIG y_f1_2 C ?_
    intro g3 g4
    refine x_icmp_ge (by omega) (by omega) (by omega) (by omega) (fun z2 => ?_) (fun z2 => done z2)
    refine x_aload rfl ?_
    refine x_getIG y_f1_3 C ?_
    intro g5 g6
    refine x_istore ?_
    refine x_X_lo (lo' := [(0, x_R 1), (1, x_R 11), (2, x_I i), (3, x_I (τ 1 3))]) ⟨rfl, rfl, rfl, rfl, trivial⟩ ?_
    refine x_aload rfl ?_
    refine x_aload rfl ?_
    refine x_cV (fun _ => rfl) rfl (by decide) (Nat.le_of_ble_eq_true rfl) ?_
    obtain ⟨w, hw⟩ : ∃ w, N = w + 1 := ⟨N - 1, by omega⟩
    subst hw
    refine ke_14_1_11 t4 z2 C hP hA (fun A' e h S C1 f1 p1 q1 a1 => ?_) (fun h S C1 f1 q1 => ?_)
    · rw [ex] at h
      have gt := y_it_gt (n' := σ 1 2) (fun k hk => y_cx_p hk) h
      have fj : y_fi σ S := fun q m hq => (f1 q m (by omega)).trans (fi q m hq)
      have ex1 : y_cx S = y_cx σ := y_fi_x fj
      refine x_aload rfl ?_
      refine x_push 59 rfl ?_
      refine x_cV (fun _ => rfl) rfl (by decide) (Nat.le_of_ble_eq_true rfl) ?_
      refine ke_9_1 (by omega) (by omega) C1 (fun s2 c2 S2 C2 f2 p2 q2 => ?_) (fun n2 S2 C2 f2 p2 q2 => ?_)
      · rw [ex1, p1] at c2
        refine x_aload rfl ?_
        refine x_getIG y_f1_4 C2 ?_
        intro g7 g8
        refine x_if_eq (by omega) (by omega) (fun z3 => ?_) (fun z3 => absurd q2 z3)
        refine x_blk (b := 2) (a_51 E) rfl ?_
        unfold b_51_2
        refine x_iinc 1 rfl rfl ?_
        refine x_goto ?_
        refine x_G_lo (lo' := [(0, x_R 1), (1, x_R 11), (2, x_I (i + 1))]) ⟨rfl, rfl, rfl, trivial⟩ ?_
        rw [y_run_s (by omega) h c2, ← p1, ← p2] at hr
        exact ih w (by omega) (i + 1) A' S2 (by omega) (by omega) (by omega) C2 (fun q m hq => (f2 q m (by omega)).trans (fj q m hq)) q2 (y_it_P hP h) (y_AG_ex a1 (fun m => y_cv_x (fun _ => f2 _ _ (by omega)) (fun _ _ => f2 _ _ (by omega)) (fun _ _ => f2 _ _ (by omega)) (fun _ _ => f2 _ _ (by omega)) (fun _ => f2 _ _ (by omega)) (fun _ => f2 _ _ (by omega)))) hr
      · have nn : ¬ y_cx σ e = 59 := fun z => n2 ⟨q1, by rw [ex1, p1]; exact z⟩
        refine x_aload rfl ?_
        refine x_getIG y_f1_4 C2 ?_
        intro g7 g8
        refine x_if_eq (by omega) (by omega) (fun z3 => absurd z3 (by omega)) (fun z3 => ?_)
        refine x_iload rfl ?_
        refine x_iret ?_
        rw [y_run_g (by omega) h nn] at hr
        have r1 : (y_rs (y_cx σ) (σ 1 2)).1 = τ 1 3 := by rw [← hr]
        refine x_fin (b := (y_rs (y_cx σ) (σ 1 2)).1) r1.symm ?_
        exact kF (by omega) (by omega) S2 C2 (fun q m hq => (f2 q m (by omega)).trans (fj q m hq))
    · rw [ex] at h
      have fj : y_fi σ S := fun q m hq => (f1 q m (by omega)).trans (fi q m hq)
      refine x_aload rfl ?_
      refine x_push 59 rfl ?_
      refine x_cV (fun _ => rfl) rfl (by decide) (Nat.le_of_ble_eq_true rfl) ?_
      refine ke_9_1 (by omega) (by omega) C1 (fun s2 => absurd s2 (by omega)) (fun n2 S2 C2 f2 p2 q2 => ?_)
      refine x_aload rfl ?_
      refine x_getIG y_f1_4 C2 ?_
      intro g7 g8
      refine x_if_eq (by omega) (by omega) (fun z3 => absurd z3 (by omega)) (fun z3 => ?_)
      refine x_iload rfl ?_
      refine x_iret ?_
      rw [y_run_f (by omega) h] at hr
      have r1 : (y_rs (y_cx σ) (σ 1 2)).1 = τ 1 3 := by rw [← hr]
      refine x_fin (b := (y_rs (y_cx σ) (σ 1 2)).1) r1.symm ?_
      exact kF (by omega) (by omega) S2 C2 (fun q m hq => (f2 q m (by omega)).trans (fj q m hq))
theorem kx_51 {E : q_E} {σ : x_S} {Q : Option q_V → x_S → Prop} (C0 : y_CI σ) (kN : (y_rs (y_cx σ) (σ 1 2)).1 = -4 → ∀ τ, y_CI τ → y_fi σ τ → y_PG τ 11 (y_rs (y_cx σ) (σ 1 2)).2 → y_PI (y_rs (y_cx σ) (σ 1 2)).2 → Q (some (x_I (-4))) τ) (kF : 0 ≤ (y_rs (y_cx σ) (σ 1 2)).1 → (y_rs (y_cx σ) (σ 1 2)).1 ≤ 200 → ∀ τ, y_CI τ → y_fi σ τ → Q (some (x_I (y_rs (y_cx σ) (σ 1 2)).1)) τ) : x_P E 51 [x_R 1, x_R 11] σ Q := by
  refine x_Mt e_51 (h_51 E) (Nat.le_of_ble_eq_true rfl) t_51 rfl ?_
  refine x_blk (b := 0) (a_51 E) rfl ?_
  unfold b_51_0
  refine x_aload rfl ?_
  refine x_cV (fun _ => rfl) rfl (by decide) (Nat.le_of_ble_eq_true rfl) ?_
  refine ke_52_11 C0 (fun S1 C1 f1 w1 w2 w3 w4 w5 => ?_)
  refine x_aload rfl ?_
  refine x_cV (fun _ => rfl) rfl (by decide) (Nat.le_of_ble_eq_true rfl) ?_
  refine ke_49_1 C1 (fun S2 C2 f2 p2 q2 => ?_)
  refine x_push 0 rfl ?_
  refine x_istore ?_
  refine x_fall ?_
  refine x_G_lo (lo' := [(0, x_R 1), (1, x_R 11), (2, x_I 0)]) ⟨rfl, rfl, rfl, trivial⟩ ?_
  refine kx_51_b kN kF 200 0 y_A0 S2 rfl (by omega) (by omega) C2 (fun q m hq => ?_) q2 y_A0_P (y_AG_ex (y_c0 w1 w2 w3 w4 w5) (fun m => y_cv_x (fun _ => f2 _ _ (by omega)) (fun _ _ => f2 _ _ (by omega)) (fun _ _ => f2 _ _ (by omega)) (fun _ _ => f2 _ _ (by omega)) (fun _ => f2 _ _ (by omega)) (fun _ => f2 _ _ (by omega)))) (by rw [p2]; rfl)
  rw [f2 q m (by omega), f1 q m (by omega)]
theorem kx_124_0 {E : q_E} {σ : x_S} {Q : Option q_V → x_S → Prop} (C0 : y_CI σ) (kN : ((y_rs (y_cx σ) (σ 1 2)).1 ≠ -4 ∨ (y_rs (y_cx σ) (σ 1 2)).2 62 = 0) → ∀ τ, y_CI τ → y_fi σ τ → Q (some (x_I (-2))) τ) (kS : (y_rs (y_cx σ) (σ 1 2)).1 = -4 → (y_rs (y_cx σ) (σ 1 2)).2 62 ≠ 0 → y_PI (y_rs (y_cx σ) (σ 1 2)).2 → ∀ τ, y_CI τ → (∀ c m, (c = 0 ∨ c = 2 ∨ (c = 1 ∧ m ≠ 3 ∧ m ≠ 4) ∨ 138 ≤ c) → τ c m = σ c m) → y_PG τ 4 (y_rs (y_cx σ) (σ 1 2)).2 → τ 18 2 = 0 → τ 76 2 = 0 → τ 76 1 = σ 76 1 → (τ 111 14 = 0 ∧ τ 124 14 = 0) → Q (some (x_I ((y_rs (y_cx σ) (σ 1 2)).2 62))) τ) : x_P E 124 [x_R 0] σ Q := by
  refine x_Mt e_124 (h_124 E) (Nat.le_of_ble_eq_true rfl) t_124 rfl ?_
  refine x_blk (b := 0) (a_124 E) rfl ?_
  unfold b_124_0
  refine x_aload rfl ?_
  refine x_getR (r := 0) rfl (by decide) (by decide) rfl ?_
  refine x_aload rfl ?_
  refine x_getR (r := 0) rfl (by decide) (by decide) rfl ?_
  refine x_cV (fun _ => rfl) rfl (by decide) (Nat.le_of_ble_eq_true rfl) ?_
  refine kx_51 C0 (fun r1 S1 C1 f1 g1 p1 => ?_) (fun ra1 rb1 S1 C1 f1 => ?_)
  · have n61 := y_PG_n g1.1
    refine x_push (-4) rfl ?_
    refine x_icmp_ne (by omega) (by omega) (by omega) (by omega) (fun z2 => ?_) (fun z => absurd (by omega) z)
    refine x_aload rfl ?_
    refine x_getR (r := 0) rfl (by decide) (by decide) rfl ?_
    refine x_getIG y_f11_6 C1 ?_
    intro g3a g3b
    refine x_if_ne (by omega) (by omega) (fun z4 => ?_) (fun z4 => ?_)
    · skip
      refine x_fall ?_
      refine x_blk (b := 1) (a_124 E) rfl ?_
      unfold b_124_1
      refine x_push (-2) rfl ?_
      refine x_iret ?_
      exact kN (by omega) _ C1 f1
    · skip
      refine x_blk (b := 2) (a_124 E) rfl ?_
      unfold b_124_2
      refine x_aload rfl ?_
      refine x_getR (r := 0) rfl (by decide) (by decide) rfl ?_
      refine x_aload rfl ?_
      refine x_getR (r := 0) rfl (by decide) (by decide) rfl ?_
      refine x_cV (fun _ => rfl) rfl (by decide) (Nat.le_of_ble_eq_true rfl) ?_
      refine kx_71_4_11 C1 (fun S5 C5 f5 w5 => ?_)
      refine x_aload rfl ?_
      refine x_getR (r := 0) rfl (by decide) (by decide) rfl ?_
      refine x_cV (fun _ => rfl) rfl (by decide) (Nat.le_of_ble_eq_true rfl) ?_
      refine kx_125_18 C5 (fun S6 C6 f6 w6 => ?_)
      refine x_aload rfl ?_
      refine x_getR (r := 0) rfl (by decide) (by decide) rfl ?_
      refine x_cV (fun _ => rfl) rfl (by decide) (Nat.le_of_ble_eq_true rfl) ?_
      refine kx_125_76 C6 (fun S7 C7 f7 w7 => ?_)
      refine x_aload rfl ?_
      refine x_cV (fun _ => rfl) rfl (by decide) (Nat.le_of_ble_eq_true rfl) ?_
      refine kx_83_0 C7 (fun S8 C8 f8 za8 zb8 => ?_)
      refine x_aload rfl ?_
      refine x_getR (r := 0) rfl (by decide) (by decide) rfl ?_
      refine x_getIG y_f4_6 C8 ?_
      intro g9a g9b
      refine x_iret ?_
      have fr : ∀ c m, ¬ (c = 18 ∧ m = 2) → ¬ (c = 76 ∧ m = 2) → (c < 92 ∨ 138 ≤ c) → S8 c m = S5 c m := fun c m h1 h2 h3 => ((f8 c m (by omega) (by omega)).trans (f7 c m h2)).trans (f6 c m h1)
      have pg : y_PG S8 4 (y_rs (y_cx σ) (σ 1 2)).2 := y_PG_fr p1 (fun c k h1 h2 => fr c k (by omega) (by omega) (by omega)) (y_PG_cp p1 g1 w5)
      have n9 := y_PG_n pg.1
      refine x_fin n9 ?_
      exact kS r1 (by omega) p1 _ C8 (fun c m hc => (fr c m (by omega) (by omega) (by omega)).trans ((f5 c m (by omega)).trans (f1 c m (by omega)))) pg ((f8 18 2 (by decide) (by decide)).trans ((f7 18 2 (by decide)).trans w6)) ((f8 76 2 (by decide) (by decide)).trans w7) ((fr 76 1 (by decide) (by decide) (by decide)).trans ((f5 76 1 (by omega)).trans (f1 76 1 (by decide)))) ⟨za8, zb8⟩
  · skip
    refine x_push (-4) rfl ?_
    refine x_icmp_ne (by omega) (by omega) (by omega) (by omega) (fun z => absurd z (by omega)) (fun z10 => ?_)
    refine x_blk (b := 1) (a_124 E) rfl ?_
    unfold b_124_1
    refine x_push (-2) rfl ?_
    refine x_iret ?_
    exact kN (by omega) _ C1 f1
theorem kx_126_0 {E : q_E} {σ : x_S} {Q : Option q_V → x_S → Prop} {a1 a2 : Int} (a1l : -2147483648 ≤ a1) (a1h : a1 ≤ 2147483647) (a2l : -2147483648 ≤ a2) (a2h : a2 ≤ 2147483647) (C0 : y_CI σ) (k : ∀ v, (-4) ≤ v → v ≤ 2147483647 → ((¬ ((0 ≤ a1 ∧ a1 ≤ 2) ∧ -1 ≤ a2) ∧ v = -1) ∨ (((0 ≤ a1 ∧ a1 ≤ 2) ∧ a2 = -1) ∧ v = σ 6 a1.toNat) ∨ (((0 ≤ a1 ∧ a1 ≤ 2) ∧ 0 ≤ a2 ∧ a2 < σ 6 a1.toNat) ∧ v = σ 5 (a1 * 11 + a2).toNat) ∨ (((0 ≤ a1 ∧ a1 ≤ 2) ∧ 0 ≤ a2 ∧ σ 6 a1.toNat ≤ a2) ∧ v = -4)) → Q (some (x_I v)) σ) : x_P E 126 [x_R 0, x_I a1, x_I a2] σ Q := by
  have h6 : ∀ z : Int, 0 ≤ z → z ≤ 2 → 0 ≤ σ 6 z.toNat ∧ σ 6 z.toNat ≤ 11 := fun z z1 z2 => C0 6 z.toNat (by decide) (by decide) (by show _ < 3; omega)
  have h6a := h6 a1
  refine x_Mt e_126 (h_126 E) (Nat.le_of_ble_eq_true rfl) t_126 rfl ?_
  refine x_blk (b := 0) (a_126 E) rfl ?_
  unfold b_126_0
  refine x_iload rfl ?_
  refine x_push 3 rfl ?_
  refine x_cS (fun _ => rfl) (Nat.le_of_ble_eq_true rfl) ?_
  refine sf_2 (by omega) (by omega) (by omega) (by omega) C0 (fun y1 => ?_) (fun y1 => ?_)
  · skip
    refine x_if_eq (by omega) (by omega) (fun z => absurd z (by omega)) (fun z2 => ?_)
    refine x_iload rfl ?_
    refine x_push (-1) rfl ?_
    refine x_icmp_ge (by omega) (by omega) (by omega) (by omega) (fun z3 => ?_) (fun z3 => ?_)
    · skip
      refine x_fall ?_
      refine x_blk (b := 1) (a_126 E) rfl ?_
      unfold b_126_1
      refine x_push (-1) rfl ?_
      refine x_iret ?_
      exact k _ (by omega) (by omega) (by omega)
    · skip
      refine x_blk (b := 2) (a_126 E) rfl ?_
      unfold b_126_2
      refine x_iload rfl ?_
      refine x_push (-1) rfl ?_
      refine x_icmp_ne (by omega) (by omega) (by omega) (by omega) (fun z4 => ?_) (fun z4 => ?_)
      · skip
        refine x_aload rfl ?_
        refine x_getR (r := 0) rfl (by decide) (by decide) rfl ?_
        refine x_iload rfl ?_
        refine x_cV (fun _ => rfl) rfl (by decide) (Nat.le_of_ble_eq_true rfl) ?_
        refine kx_63_4 (by omega) (by omega) C0 (fun v5 v5a v5b v5c => ?_)
        refine x_iret ?_
        exact k _ (by omega) (by omega) (by omega)
      · skip
        refine x_blk (b := 3) (a_126 E) rfl ?_
        unfold b_126_3
        refine x_aload rfl ?_
        refine x_getR (r := 0) rfl (by decide) (by decide) rfl ?_
        refine x_iload rfl ?_
        refine x_iload rfl ?_
        refine x_cV (fun _ => rfl) rfl (by decide) (Nat.le_of_ble_eq_true rfl) ?_
        refine kx_44_4 (by omega) (by omega) (by omega) (by omega) C0 (fun y6 => ?_) (fun y6 => ?_)
        · skip
          refine x_if_eq (by omega) (by omega) (fun z => absurd z (by omega)) (fun z7 => ?_)
          refine x_aload rfl ?_
          refine x_getR (r := 0) rfl (by decide) (by decide) rfl ?_
          refine x_iload rfl ?_
          refine x_iload rfl ?_
          refine x_cV (fun _ => rfl) rfl (by decide) (Nat.le_of_ble_eq_true rfl) ?_
          refine kx_47_4 (by omega) (by omega) (by omega) (by omega) C0 (fun v8 v8a v8b v8c => ?_)
          refine x_goto ?_
          refine x_blk (b := 5) (a_126 E) rfl ?_
          unfold b_126_5
          refine x_iret ?_
          exact k _ (by omega) (by omega) (by omega)
        · skip
          refine x_if_eq (by omega) (by omega) (fun z9 => ?_) (fun z => absurd (by omega) z)
          refine x_blk (b := 4) (a_126 E) rfl ?_
          unfold b_126_4
          refine x_push (-4) rfl ?_
          refine x_fall ?_
          refine x_blk (b := 5) (a_126 E) rfl ?_
          unfold b_126_5
          refine x_iret ?_
          exact k _ (by omega) (by omega) (by omega)
  · skip
    refine x_if_eq (by omega) (by omega) (fun z10 => ?_) (fun z => absurd (by omega) z)
    refine x_blk (b := 1) (a_126 E) rfl ?_
    unfold b_126_1
    refine x_push (-1) rfl ?_
    refine x_iret ?_
    exact k _ (by omega) (by omega) (by omega)
theorem kx_128_0 {E : q_E} {σ : x_S} {Q : Option q_V → x_S → Prop} {a1 a2 a3 : Int} (a1l : -2147483648 ≤ a1) (a1h : a1 ≤ 2147483647) (a2l : -2147483648 ≤ a2) (a2h : a2 ≤ 2147483647) (a3l : -2147483648 ≤ a3) (a3h : a3 ≤ 2147483647) (C0 : y_CI σ) (k : ∀ v, (-4) ≤ v → v ≤ 2147483647 → (((0 ≤ a1 ∧ a1 ≤ 1 ∧ 0 ≤ a2 ∧ a2 ≤ 4 ∧ 0 ≤ a3 ∧ a3 < y_pw (y_ch a2)) ∧ v = σ 8 ((a1 * 5 + a2) * 4 + a3).toNat) ∨ (¬ (0 ≤ a1 ∧ a1 ≤ 1 ∧ 0 ≤ a2 ∧ a2 ≤ 4 ∧ 0 ≤ a3 ∧ a3 < y_pw (y_ch a2)) ∧ v = -1)) → Q (some (x_I v)) σ) : x_P E 128 [x_R 0, x_I a1, x_I a2, x_I a3] σ Q := by
  have hpw := y_pw_b (y_ch a2)
  refine x_Mt e_128 (h_128 E) (Nat.le_of_ble_eq_true rfl) t_128 rfl ?_
  refine x_blk (b := 0) (a_128 E) rfl ?_
  unfold b_128_0
  refine x_iload rfl ?_
  refine x_iload rfl ?_
  refine x_iload rfl ?_
  refine x_cS (fun _ => rfl) (Nat.le_of_ble_eq_true rfl) ?_
  refine ke_23 (by omega) (by omega) (by omega) (by omega) (by omega) (by omega) C0 (fun y1 => ?_) (fun y1 => ?_)
  · skip
    refine x_if_eq (by omega) (by omega) (fun z => absurd z (by omega)) (fun z2 => ?_)
    refine x_aload rfl ?_
    refine x_getR (r := 0) rfl (by decide) (by decide) rfl ?_
    refine x_iload rfl ?_
    refine x_iload rfl ?_
    refine x_iload rfl ?_
    refine x_cV (fun _ => rfl) rfl (by decide) (Nat.le_of_ble_eq_true rfl) ?_
    refine kx_30_4 (by omega) (by omega) (by omega) (by omega) (by omega) (by omega) C0 (fun v3 v3a v3b v3c => ?_)
    refine x_goto ?_
    refine x_blk (b := 2) (a_128 E) rfl ?_
    unfold b_128_2
    refine x_iret ?_
    exact k _ (by omega) (by omega) (by omega)
  · skip
    refine x_if_eq (by omega) (by omega) (fun z4 => ?_) (fun z => absurd (by omega) z)
    refine x_blk (b := 1) (a_128 E) rfl ?_
    unfold b_128_1
    refine x_push (-1) rfl ?_
    refine x_fall ?_
    refine x_blk (b := 2) (a_128 E) rfl ?_
    unfold b_128_2
    refine x_iret ?_
    exact k _ (by omega) (by omega) (by omega)
theorem kx_129_0 {E : q_E} {σ : x_S} {Q : Option q_V → x_S → Prop} {a1 a2 : Int} (a1l : -2147483648 ≤ a1) (a1h : a1 ≤ 2147483647) (a2l : -2147483648 ≤ a2) (a2h : a2 ≤ 2147483647) (C0 : y_CI σ) (k : ∀ v, (-4) ≤ v → v ≤ 2147483647 → (((0 ≤ a1 ∧ a1 < σ 4 6 ∧ 0 ≤ a2 ∧ a2 ≤ 4) ∧ v = σ 9 (a1 * 12 + a2).toNat) ∨ (¬ (0 ≤ a1 ∧ a1 < σ 4 6 ∧ 0 ≤ a2 ∧ a2 ≤ 4) ∧ v = -1)) → Q (some (x_I v)) σ) : x_P E 129 [x_R 0, x_I a1, x_I a2] σ Q := by
  have c6 : 0 ≤ σ 4 6 ∧ σ 4 6 ≤ 16 := C0 4 6 (by decide) (by decide) (by decide)
  refine x_Mt e_129 (h_129 E) (Nat.le_of_ble_eq_true rfl) t_129 rfl ?_
  refine x_blk (b := 0) (a_129 E) rfl ?_
  unfold b_129_0
  refine x_aload rfl ?_
  refine x_getR (r := 0) rfl (by decide) (by decide) rfl ?_
  refine x_iload rfl ?_
  refine x_cV (fun _ => rfl) rfl (by decide) (Nat.le_of_ble_eq_true rfl) ?_
  refine kx_60_4 (by omega) (by omega) C0 (fun y1 => ?_) (fun y1 => ?_)
  · skip
    refine x_if_eq (by omega) (by omega) (fun z => absurd z (by omega)) (fun z2 => ?_)
    refine x_iload rfl ?_
    refine x_push 5 rfl ?_
    refine x_cS (fun _ => rfl) (Nat.le_of_ble_eq_true rfl) ?_
    refine sf_2 (by omega) (by omega) (by omega) (by omega) C0 (fun y3 => ?_) (fun y3 => ?_)
    · skip
      refine x_if_ne (by omega) (by omega) (fun z => absurd z (by omega)) (fun z4 => ?_)
      refine x_blk (b := 2) (a_129 E) rfl ?_
      unfold b_129_2
      refine x_aload rfl ?_
      refine x_getR (r := 0) rfl (by decide) (by decide) rfl ?_
      refine x_iload rfl ?_
      refine x_iload rfl ?_
      refine x_cV (fun _ => rfl) rfl (by decide) (Nat.le_of_ble_eq_true rfl) ?_
      refine kx_6_4 (by omega) (by omega) (by omega) (by omega) C0 (fun v5 v5a v5b v5c => ?_)
      refine x_iret ?_
      exact k _ (by omega) (by omega) (by omega)
    · skip
      refine x_if_ne (by omega) (by omega) (fun z6 => ?_) (fun z => absurd (by omega) z)
      refine x_fall ?_
      refine x_blk (b := 1) (a_129 E) rfl ?_
      unfold b_129_1
      refine x_push (-1) rfl ?_
      refine x_iret ?_
      exact k _ (by omega) (by omega) (by omega)
  · skip
    refine x_if_eq (by omega) (by omega) (fun z7 => ?_) (fun z => absurd (by omega) z)
    refine x_blk (b := 1) (a_129 E) rfl ?_
    unfold b_129_1
    refine x_push (-1) rfl ?_
    refine x_iret ?_
    exact k _ (by omega) (by omega) (by omega)
theorem kx_130_0 {E : q_E} {σ : x_S} {Q : Option q_V → x_S → Prop} {a1 a2 : Int} (a1l : -2147483648 ≤ a1) (a1h : a1 ≤ 2147483647) (a2l : -2147483648 ≤ a2) (a2h : a2 ≤ 2147483647) (C0 : y_CI σ) (k : ∀ v, (-4) ≤ v → v ≤ 2147483647 → ((¬ (0 ≤ a1 ∧ a1 < σ 4 6 ∧ 0 ≤ a2) ∧ v = -1) ∨ ((0 ≤ a1 ∧ a1 < σ 4 6 ∧ 0 ≤ a2) ∧ (((a2 < 7 ∧ a2 < σ 9 (a1 * 12 + 4).toNat) ∧ v = σ 9 (a1 * 12 + 5 + a2).toNat) ∨ (¬ (a2 < 7 ∧ a2 < σ 9 (a1 * 12 + 4).toNat) ∧ v = -4)))) → Q (some (x_I v)) σ) : x_P E 130 [x_R 0, x_I a1, x_I a2] σ Q := by
  have c6 : 0 ≤ σ 4 6 ∧ σ 4 6 ≤ 16 := C0 4 6 (by decide) (by decide) (by decide)
  refine x_Mt e_130 (h_130 E) (Nat.le_of_ble_eq_true rfl) t_130 rfl ?_
  refine x_blk (b := 0) (a_130 E) rfl ?_
  unfold b_130_0
  refine x_aload rfl ?_
  refine x_getR (r := 0) rfl (by decide) (by decide) rfl ?_
  refine x_iload rfl ?_
  refine x_cV (fun _ => rfl) rfl (by decide) (Nat.le_of_ble_eq_true rfl) ?_
  refine kx_60_4 (by omega) (by omega) C0 (fun y1 => ?_) (fun y1 => ?_)
  · skip
    refine x_if_eq (by omega) (by omega) (fun z => absurd z (by omega)) (fun z2 => ?_)
    refine x_iload rfl ?_
    refine x_if_ge (by omega) (by omega) (fun z3 => ?_) (fun z3 => ?_)
    · skip
      refine x_fall ?_
      refine x_blk (b := 1) (a_130 E) rfl ?_
      unfold b_130_1
      refine x_push (-1) rfl ?_
      refine x_iret ?_
      exact k _ (by omega) (by omega) (by omega)
    · skip
      refine x_blk (b := 2) (a_130 E) rfl ?_
      unfold b_130_2
      refine x_aload rfl ?_
      refine x_getR (r := 0) rfl (by decide) (by decide) rfl ?_
      refine x_iload rfl ?_
      refine x_iload rfl ?_
      refine x_cV (fun _ => rfl) rfl (by decide) (Nat.le_of_ble_eq_true rfl) ?_
      refine kx_53_4 (by omega) (by omega) (by omega) (by omega) C0 (fun v4 v4a v4b v4c => ?_)
      refine x_iret ?_
      exact k _ (by omega) (by omega) (by omega)
  · skip
    refine x_if_eq (by omega) (by omega) (fun z5 => ?_) (fun z => absurd (by omega) z)
    refine x_blk (b := 1) (a_130 E) rfl ?_
    unfold b_130_1
    refine x_push (-1) rfl ?_
    refine x_iret ?_
    exact k _ (by omega) (by omega) (by omega)
/-- how many rules of a pass, of the first so many -/
def y_ro (A : Nat → Int) (p : Int) : Nat → Int
  | 0 => 0
  | r + 1 => y_ro A p r + (if A (63 + 12 * r) = p then 1 else 0)
theorem y_ro_b {A : Nat → Int} {p : Int} : ∀ n : Nat, 0 ≤ y_ro A p n ∧ y_ro A p n ≤ n
  | 0 => ⟨Int.le_refl _, Int.le_refl _⟩
  | n + 1 => by
    have h := y_ro_b (A := A) (p := p) n
    show 0 ≤ y_ro A p n + (if A (63 + 12 * n) = p then 1 else 0) ∧ y_ro A p n + (if A (63 + 12 * n) = p then 1 else 0) ≤ ((n + 1 : Nat) : Int)
    split <;> omega
theorem y_ro_s {A : Nat → Int} {p : Int} (n : Nat) : y_ro A p (n + 1) = y_ro A p n + (if A (63 + 12 * n) = p then 1 else 0) := rfl
theorem kx_169_4_b3 {E : q_E} {σ : x_S} {Q : Option q_V → x_S → Prop} {a1 : Int} (a1l : -2147483648 ≤ a1) (a1h : a1 ≤ 2147483647) (C0 : y_CI σ) {A : Nat → Int} (hP : y_PI A) (hA : y_AG (y_cv σ 4) A) (k : Q (some (x_I (y_ro A a1 (A 62).toNat))) σ) : ∀ (N : Nat) (n r : Int), (16 - r).toNat = N → 0 ≤ r → r ≤ A 62 → n = y_ro A a1 r.toNat → x_G E m_169 Q (t_169 3) [(0, x_R 4), (1, x_I a1), (2, x_I n), (3, x_I r)] [] σ := by
  have h62 := hP.2.2.2.1
  have n6 := y_PG_n hA
  intro N
  induction N using Nat.strongRecOn with
  | ind N ih =>
    intro n r hN i1 i2 hv
    have nb := y_ro_b (A := A) (p := a1) r.toNat
    have w0 : r < A 62 → σ 9 (r * 12 + 0).toNat = A (63 + 12 * r.toNat) := fun h => by
      have e := y_PG_w hA (r := r.toNat) (c := 0) (by omega) (by have := y_PI_pc hP (r := r.toNat) (by omega); omega)
      rw [show (r * 12 + 0).toNat = 12 * r.toNat + 0 by omega]
      exact e.trans (congrArg A (by omega))
    refine x_blk (b := 3) (a_169 E) rfl ?_
    unfold b_169_3
    refine x_iload rfl ?_
    refine x_aload rfl ?_
    refine x_getIG y_f4_6 C0 ?_
    intro g1a g1b
    refine x_icmp_ge (by omega) (by omega) (by omega) (by omega) (fun z2 => ?_) (fun z2 => ?_)
    · skip
      refine x_aload rfl ?_
      refine x_iload rfl ?_
      refine x_push 0 rfl ?_
      refine x_cV (fun _ => rfl) rfl (by decide) (Nat.le_of_ble_eq_true rfl) ?_
      refine kx_6_4 (by omega) (by omega) (by omega) (by omega) C0 (fun v3 v3a v3b v3c => ?_)
      refine x_iload rfl ?_
      refine x_icmp_ne (by omega) (by omega) (by omega) (by omega) (fun z4 => ?_) (fun z4 => ?_)
      · skip
        refine x_iinc 1 rfl rfl ?_
        refine x_fall ?_
        refine x_blk (b := 2) (a_169 E) rfl ?_
        unfold b_169_2
        refine x_iinc 1 rfl rfl ?_
        refine x_X_lo (lo' := [(0, x_R 4), (1, x_I _), (2, x_I _), (3, x_I _)]) ⟨rfl, rfl, rfl, rfl, trivial⟩ ?_
        refine x_goto ?_
        refine x_G_lo (lo' := [(0, x_R 4), (1, x_I _), (2, x_I _), (3, x_I _)]) ⟨rfl, rfl, rfl, rfl, trivial⟩ ?_
        refine ih _ (by omega) _ (r + 1) rfl (by omega) (by omega) ?_
        rw [show (r + 1).toNat = r.toNat + 1 by omega, y_ro_s]
        by_cases c : A (63 + 12 * r.toNat) = a1
        · rw [if_pos c]; omega
        · rw [if_neg c]; omega
      · skip
        refine x_blk (b := 2) (a_169 E) rfl ?_
        unfold b_169_2
        refine x_iinc 1 rfl rfl ?_
        refine x_goto ?_
        refine x_G_lo (lo' := [(0, x_R 4), (1, x_I _), (2, x_I _), (3, x_I _)]) ⟨rfl, rfl, rfl, rfl, trivial⟩ ?_
        refine ih _ (by omega) _ (r + 1) rfl (by omega) (by omega) ?_
        rw [show (r + 1).toNat = r.toNat + 1 by omega, y_ro_s]
        by_cases c : A (63 + 12 * r.toNat) = a1
        · rw [if_pos c]; omega
        · rw [if_neg c]; omega
    · skip
      refine x_blk (b := 1) (a_169 E) rfl ?_
      unfold b_169_1
      refine x_iload rfl ?_
      refine x_iret ?_
      refine x_fin (b := y_ro A a1 (A 62).toNat) ?_ k
      rw [hv]
      congr 1
      omega
theorem kx_169_4 {E : q_E} {σ : x_S} {Q : Option q_V → x_S → Prop} {a1 : Int} (a1l : -2147483648 ≤ a1) (a1h : a1 ≤ 2147483647) (C0 : y_CI σ) {A : Nat → Int} (hP : y_PI A) (hA : y_AG (y_cv σ 4) A) (k : Q (some (x_I (y_ro A a1 (A 62).toNat))) σ) : x_P E 169 [x_R 4, x_I a1] σ Q := by
  have h62 := hP.2.2.2.1
  have n6 := y_PG_n hA
  refine x_Mt e_169 (h_169 E) (Nat.le_of_ble_eq_true rfl) t_169 rfl ?_
  refine x_blk (b := 0) (a_169 E) rfl ?_
  unfold b_169_0
  refine x_push 0 rfl ?_
  refine x_istore ?_
  refine x_push 0 rfl ?_
  refine x_istore ?_
  refine x_X_lo (lo' := [(0, x_R 4), (1, x_I _), (2, x_I _), (3, x_I _)]) ⟨rfl, rfl, rfl, rfl, trivial⟩ ?_
  refine x_fall ?_
  refine x_G_lo (lo' := [(0, x_R 4), (1, x_I _), (2, x_I _), (3, x_I _)]) ⟨rfl, rfl, rfl, rfl, trivial⟩ ?_
  exact kx_169_4_b3 a1l a1h C0 hP hA k _ 0 0 rfl (by omega) (by omega) rfl
theorem kx_168_0 {E : q_E} {σ : x_S} {Q : Option q_V → x_S → Prop} {a1 : Int} (a1l : -2147483648 ≤ a1) (a1h : a1 ≤ 2147483647) (C0 : y_CI σ) {A : Nat → Int} (hP : y_PI A) (hA : y_AG (y_cv σ 4) A) (k0 : a1 = 0 → Q (some (x_I (A 62))) σ) (k1 : a1 = 1 → Q (some (x_I (y_ro A 0 (A 62).toNat))) σ) (k2 : a1 = 2 → Q (some (x_I (y_ro A 1 (A 62).toNat))) σ) (k3 : a1 = 3 → Q (some (x_I (A 0))) σ) (k4 : a1 = 4 → Q (some (x_I (A 1))) σ) (k5 : a1 = 5 → Q (some (x_I (A 2 + A 3 + A 4))) σ) (k6 : a1 = 6 → Q (some (x_I (σ 18 2))) σ) (k7 : a1 = 7 → Q (some (x_I (σ 76 2))) σ) (k8 : a1 = 8 → Q (some (x_I (σ 1 2))) σ) (kB : ¬ (0 ≤ a1 ∧ a1 ≤ 8) → Q (some (x_I (-1))) σ) : x_P E 168 [x_R 0, x_I a1] σ Q := by
  have n6 := y_PG_n hA
  refine x_Mt e_168 (h_168 E) (Nat.le_of_ble_eq_true rfl) t_168 rfl ?_
  refine x_blk (b := 0) (a_168 E) rfl ?_
  unfold b_168_0
  refine x_iload rfl ?_
  refine x_tsw (0) rfl rfl (by omega) (by omega) (fun z1 => ?_) (fun i1 b1 hb1 z1 => ?_) (fun z1 => ?_)
  · skip
    refine x_blk (b := 10) (a_168 E) rfl ?_
    unfold b_168_10
    refine x_push (-1) rfl ?_
    refine x_iret ?_
    refine x_fin (b := -1) (rfl) ?_
    exact kB (by omega)
  · match i1, hb1 with
    | 0, hb1 =>
      cases hb1
      refine x_blk (b := 1) (a_168 E) rfl ?_
      unfold b_168_1
      refine x_aload rfl ?_
      refine x_getR (r := 0) rfl (by decide) (by decide) rfl ?_
      refine x_getIG y_f4_6 C0 ?_
      intro g2a g2b
      refine x_iret ?_
      refine x_fin (b := A 62) (n6) ?_
      exact k0 (by omega)
    | 1, hb1 =>
      cases hb1
      refine x_blk (b := 2) (a_168 E) rfl ?_
      unfold b_168_2
      refine x_aload rfl ?_
      refine x_getR (r := 0) rfl (by decide) (by decide) rfl ?_
      refine x_push 0 rfl ?_
      refine x_cV (fun _ => rfl) rfl (by decide) (Nat.le_of_ble_eq_true rfl) ?_
      refine kx_169_4 (by omega) (by omega) C0 hP hA ?_
      refine x_iret ?_
      refine x_fin (b := y_ro A 0 (A 62).toNat) (rfl) ?_
      exact k1 (by omega)
    | 2, hb1 =>
      cases hb1
      refine x_blk (b := 3) (a_168 E) rfl ?_
      unfold b_168_3
      refine x_aload rfl ?_
      refine x_getR (r := 0) rfl (by decide) (by decide) rfl ?_
      refine x_push 1 rfl ?_
      refine x_cV (fun _ => rfl) rfl (by decide) (Nat.le_of_ble_eq_true rfl) ?_
      refine kx_169_4 (by omega) (by omega) C0 hP hA ?_
      refine x_iret ?_
      refine x_fin (b := y_ro A 1 (A 62).toNat) (rfl) ?_
      exact k2 (by omega)
    | 3, hb1 =>
      cases hb1
      refine x_blk (b := 4) (a_168 E) rfl ?_
      unfold b_168_4
      refine x_aload rfl ?_
      refine x_getR (r := 0) rfl (by decide) (by decide) rfl ?_
      refine x_push 0 rfl ?_
      refine x_cV (fun _ => rfl) rfl (by decide) (Nat.le_of_ble_eq_true rfl) ?_
      refine kx_11_4 (by omega) (by omega) C0 (fun v5 v5a v5b v5c => ?_)
      refine x_iret ?_
      have kk := y_PG_k hA (k := 0) (by decide)
      have kk : σ 7 (0 : Int).toNat = A 0 := kk
      refine x_fin (b := A 0) (by omega) ?_
      exact k3 (by omega)
    | 4, hb1 =>
      cases hb1
      refine x_blk (b := 5) (a_168 E) rfl ?_
      unfold b_168_5
      refine x_aload rfl ?_
      refine x_getR (r := 0) rfl (by decide) (by decide) rfl ?_
      refine x_push 1 rfl ?_
      refine x_cV (fun _ => rfl) rfl (by decide) (Nat.le_of_ble_eq_true rfl) ?_
      refine kx_11_4 (by omega) (by omega) C0 (fun v6 v6a v6b v6c => ?_)
      refine x_iret ?_
      have kk := y_PG_k hA (k := 1) (by decide)
      have kk : σ 7 (1 : Int).toNat = A 1 := kk
      refine x_fin (b := A 1) (by omega) ?_
      exact k4 (by omega)
    | 5, hb1 =>
      cases hb1
      refine x_blk (b := 6) (a_168 E) rfl ?_
      unfold b_168_6
      refine x_aload rfl ?_
      refine x_getR (r := 0) rfl (by decide) (by decide) rfl ?_
      refine x_push 0 rfl ?_
      refine x_cV (fun _ => rfl) rfl (by decide) (Nat.le_of_ble_eq_true rfl) ?_
      refine kx_63_4 (by omega) (by omega) C0 (fun v7 v7a v7b v7c => ?_)
      refine x_aload rfl ?_
      refine x_getR (r := 0) rfl (by decide) (by decide) rfl ?_
      refine x_push 1 rfl ?_
      refine x_cV (fun _ => rfl) rfl (by decide) (Nat.le_of_ble_eq_true rfl) ?_
      refine kx_63_4 (by omega) (by omega) C0 (fun v8 v8a v8b v8c => ?_)
      refine x_iadd ?_
      refine x_aload rfl ?_
      refine x_getR (r := 0) rfl (by decide) (by decide) rfl ?_
      refine x_push 2 rfl ?_
      refine x_cV (fun _ => rfl) rfl (by decide) (Nat.le_of_ble_eq_true rfl) ?_
      refine kx_63_4 (by omega) (by omega) C0 (fun v9 v9a v9b v9c => ?_)
      refine x_iadd ?_
      refine x_iret ?_
      have kk0 := y_PG_s hA (t := 0) (by decide)
      have kk0 : σ 6 (0 : Int).toNat = A 2 := kk0
      have kk1 := y_PG_s hA (t := 1) (by decide)
      have kk1 : σ 6 (1 : Int).toNat = A 3 := kk1
      have kk2 := y_PG_s hA (t := 2) (by decide)
      have kk2 : σ 6 (2 : Int).toNat = A 4 := kk2
      refine x_fin (b := A 2 + A 3 + A 4) (by omega) ?_
      exact k5 (by omega)
    | 6, hb1 =>
      cases hb1
      refine x_blk (b := 7) (a_168 E) rfl ?_
      unfold b_168_7
      refine x_aload rfl ?_
      refine x_getR (r := 0) rfl (by decide) (by decide) rfl ?_
      refine x_getIG y_f18_2 C0 ?_
      intro g10a g10b
      refine x_iret ?_
      refine x_fin (b := σ 18 2) (rfl) ?_
      exact k6 (by omega)
    | 7, hb1 =>
      cases hb1
      refine x_blk (b := 8) (a_168 E) rfl ?_
      unfold b_168_8
      refine x_aload rfl ?_
      refine x_getR (r := 0) rfl (by decide) (by decide) rfl ?_
      refine x_getIG y_f76_2 C0 ?_
      intro g11a g11b
      refine x_iret ?_
      refine x_fin (b := σ 76 2) (rfl) ?_
      exact k7 (by omega)
    | 8, hb1 =>
      cases hb1
      refine x_blk (b := 9) (a_168 E) rfl ?_
      unfold b_168_9
      refine x_aload rfl ?_
      refine x_getR (r := 0) rfl (by decide) (by decide) rfl ?_
      refine x_cV (fun _ => rfl) rfl (by decide) (Nat.le_of_ble_eq_true rfl) ?_
      refine sf_97_1 C0 (fun v12 v12a v12b v12c => ?_)
      refine x_iret ?_
      refine x_fin (b := σ 1 2) (by omega) ?_
      exact k8 (by omega)
    | (n + 9), hb1 => simp at hb1
  · skip
    refine x_blk (b := 10) (a_168 E) rfl ?_
    unfold b_168_10
    refine x_push (-1) rfl ?_
    refine x_iret ?_
    refine x_fin (b := -1) (rfl) ?_
    exact kB (by omega)
