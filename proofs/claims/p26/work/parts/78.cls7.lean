theorem sf_97_1 {E : q_E} {σ : x_S} {Q : Option q_V → x_S → Prop} (C0 : y_CI σ) (k : ∀ v, 0 ≤ v → v ≤ 200 → v = σ 1 2 → Q (some (x_I v)) σ) : x_P E 97 [x_R 1] σ Q := by
  refine x_Mt e_97 (h_97 E) (Nat.le_of_ble_eq_true rfl) t_97 rfl ?_
  refine x_blk (b := 0) (a_97 E) rfl ?_
  unfold b_97_0
  refine x_aload rfl ?_
  refine x_getIG y_f1_2 C0 ?_
  intro g1a g1b
  refine x_iret ?_
  exact k _ (by omega) (by omega) (by omega)
