theorem ke_120_1_11 {E : q_E} {σ : x_S} {Q : Option q_V → x_S → Prop} (C0 : y_CI σ) (kS : (σ 1 4 = 0 ∧ 48 ≤ y_cx σ (σ 1 3) ∧ y_cx σ (σ 1 3) ≤ 49 ∧ 48 ≤ y_cx σ (σ 1 3 + 1) ∧ y_cx σ (σ 1 3 + 1) ≤ 51) → ∀ τ, y_CI τ → (∀ q m, (¬ (q = 14 ∧ m = (y_cx σ (σ 1 3) - 48).toNat)) ∧ (q = 1 → m ≠ 3 ∧ m ≠ 4) → τ q m = σ q m) → τ 1 3 = σ 1 3 + 2 → τ 1 4 = 0 → τ 14 (y_cx σ (σ 1 3) - 48).toNat = y_cx σ (σ 1 3 + 1) - 48 → Q none τ) (kF : ¬ (σ 1 4 = 0 ∧ 48 ≤ y_cx σ (σ 1 3) ∧ y_cx σ (σ 1 3) ≤ 49 ∧ 48 ≤ y_cx σ (σ 1 3 + 1) ∧ y_cx σ (σ 1 3 + 1) ≤ 51) → ∀ τ, y_CI τ → y_sc σ τ → τ 1 4 = 1 → Q none τ) : x_P E 120 [x_R 1, x_R 11] σ Q := by
  have c4 : 0 ≤ σ 1 4 ∧ σ 1 4 ≤ 1 := C0 1 4 (by decide) (by decide) (by decide)
  refine x_Mt e_120 (h_120 E) (Nat.le_of_ble_eq_true rfl) t_120 rfl ?_
  refine x_blk (b := 0) (a_120 E) rfl ?_
  unfold b_120_0
  refine x_aload rfl ?_
  refine x_push 2 rfl ?_
  refine x_cV (fun _ => rfl) rfl (by decide) (Nat.le_of_ble_eq_true rfl) ?_
  refine ke_8_1 (by omega) (by omega) C0 (fun s1 c1 S1 C1 f1 p1 q1 => ?_) (fun n1 S1 C1 f1 p1 q1 => ?_)
  · skip
    have F1 := y_fr_tr (y_fr_rf (lo := 0) (hi := 138)) (y_sc_fr f1)
    have x1 := y_sc_x f1
    refine x_istore ?_
    refine x_aload rfl ?_
    refine x_push 4 rfl ?_
    refine x_cV (fun _ => rfl) rfl (by decide) (Nat.le_of_ble_eq_true rfl) ?_
    refine ke_8_1 (by omega) (by omega) C1 (fun s2 c2 S2 C2 f2 p2 q2 => ?_) (fun n2 S2 C2 f2 p2 q2 => ?_)
    · skip
      have F2 := y_fr_tr F1 (y_sc_fr f2)
      have x2 := y_sc_x f2
      refine x_istore ?_
      refine x_X_lo (lo' := [(0, x_R 1), (1, x_R 11), (2, x_I _), (3, x_I _)]) ⟨rfl, rfl, rfl, rfl, trivial⟩ ?_
      refine x_aload rfl ?_
      refine x_getIG y_f1_4 C2 ?_
      intro g3a g3b
      refine x_if_ne (by omega) (by omega) (fun z4 => ?_) (fun z4 => ?_)
      · skip
        refine x_aload rfl ?_
        refine x_iload rfl ?_
        refine x_iload rfl ?_
        refine x_cV (fun _ => rfl) rfl (by decide) (Nat.le_of_ble_eq_true rfl) ?_
        refine ke_100_11 (by omega) (by omega) (by omega) (by omega) C2 (fun S5 C5 f5 w5 => ?_)
        refine x_fall ?_
        refine x_blk (b := 1) (a_120 E) rfl ?_
        unfold b_120_1
        refine x_vret ?_
        have g1 : y_cx S1 (S1 1 3) = y_cx σ (σ 1 3 + 1) := by rw [p1]; exact x1 _
        rw [g1] at c2 w5
        refine kS (by omega) _ C5 (fun q m hq => ?_) ?_ ?_ w5
        · rw [f5 q m (fun z => hq.1 z), f2 q m hq.2, f1 q m hq.2]
        · rw [f5 1 3 (by omega)]; omega
        · rw [f5 1 4 (by omega)]; omega
      · skip
        refine x_blk (b := 1) (a_120 E) rfl ?_
        unfold b_120_1
        refine x_vret ?_
        have g1 : σ 1 4 = 0 → 48 ≤ y_cx σ (σ 1 3) → y_cx σ (σ 1 3) < 48 + 2 → y_cx S1 (S1 1 3) = y_cx σ (σ 1 3 + 1) ∨ S1 1 4 = 1 := fun _ _ _ => by
          first
            | (left; rw [p1]; exact x1 _)
            | (right; omega)
        exact kF (fun h => by have := g1 h.1 h.2.1 (by omega); omega) _ C2 (y_sc_tr f1 f2) (by omega)
    · skip
      have F2 := y_fr_tr F1 (y_sc_fr f2)
      have x2 := y_sc_x f2
      refine x_istore ?_
      refine x_X_lo (lo' := [(0, x_R 1), (1, x_R 11), (2, x_I _), (3, x_I _)]) ⟨rfl, rfl, rfl, rfl, trivial⟩ ?_
      refine x_aload rfl ?_
      refine x_getIG y_f1_4 C2 ?_
      intro g6a g6b
      refine x_if_ne (by omega) (by omega) (fun z7 => ?_) (fun z7 => ?_)
      · skip
        refine x_aload rfl ?_
        refine x_iload rfl ?_
        refine x_iload rfl ?_
        refine x_cV (fun _ => rfl) rfl (by decide) (Nat.le_of_ble_eq_true rfl) ?_
        refine ke_100_11 (by omega) (by omega) (by omega) (by omega) C2 (fun S8 C8 f8 w8 => ?_)
        refine x_fall ?_
        refine x_blk (b := 1) (a_120 E) rfl ?_
        unfold b_120_1
        refine x_vret ?_
        exact absurd q2 (by omega)
      · skip
        refine x_blk (b := 1) (a_120 E) rfl ?_
        unfold b_120_1
        refine x_vret ?_
        have g1 : σ 1 4 = 0 → 48 ≤ y_cx σ (σ 1 3) → y_cx σ (σ 1 3) < 48 + 2 → y_cx S1 (S1 1 3) = y_cx σ (σ 1 3 + 1) ∨ S1 1 4 = 1 := fun _ _ _ => by
          first
            | (left; rw [p1]; exact x1 _)
            | (right; omega)
        exact kF (fun h => by have := g1 h.1 h.2.1 (by omega); omega) _ C2 (y_sc_tr f1 f2) (by omega)
  · skip
    have F1 := y_fr_tr (y_fr_rf (lo := 0) (hi := 138)) (y_sc_fr f1)
    have x1 := y_sc_x f1
    refine x_istore ?_
    refine x_aload rfl ?_
    refine x_push 4 rfl ?_
    refine x_cV (fun _ => rfl) rfl (by decide) (Nat.le_of_ble_eq_true rfl) ?_
    refine ke_8_1 (by omega) (by omega) C1 (fun s9 => absurd s9 (by omega)) (fun n9 S9 C9 f9 p9 q9 => ?_)
    have F9 := y_fr_tr F1 (y_sc_fr f9)
    have x9 := y_sc_x f9
    refine x_istore ?_
    refine x_X_lo (lo' := [(0, x_R 1), (1, x_R 11), (2, x_I _), (3, x_I _)]) ⟨rfl, rfl, rfl, rfl, trivial⟩ ?_
    refine x_aload rfl ?_
    refine x_getIG y_f1_4 C9 ?_
    intro g10a g10b
    refine x_if_ne (by omega) (by omega) (fun z11 => ?_) (fun z11 => ?_)
    · skip
      refine x_aload rfl ?_
      refine x_iload rfl ?_
      refine x_iload rfl ?_
      refine x_cV (fun _ => rfl) rfl (by decide) (Nat.le_of_ble_eq_true rfl) ?_
      refine ke_100_11 (by omega) (by omega) (by omega) (by omega) C9 (fun S12 C12 f12 w12 => ?_)
      refine x_fall ?_
      refine x_blk (b := 1) (a_120 E) rfl ?_
      unfold b_120_1
      refine x_vret ?_
      exact absurd q9 (by omega)
    · skip
      refine x_blk (b := 1) (a_120 E) rfl ?_
      unfold b_120_1
      refine x_vret ?_
      have g1 : σ 1 4 = 0 → 48 ≤ y_cx σ (σ 1 3) → y_cx σ (σ 1 3) < 48 + 2 → y_cx S1 (S1 1 3) = y_cx σ (σ 1 3 + 1) ∨ S1 1 4 = 1 := fun _ _ _ => by
        first
          | (left; rw [p1]; exact x1 _)
          | (right; omega)
      exact kF (fun h => by have := g1 h.1 h.2.1 (by omega); omega) _ C9 (y_sc_tr f1 f9) (by omega)
