theorem kx_152_105 {E : q_E} {σ : x_S} {Q : Option q_V → x_S → Prop} {a1 : Int} (a1l : -2147483648 ≤ a1) (a1h : a1 ≤ 2147483647) (C0 : y_CI σ) (k : ∀ v, (-4) ≤ v → v ≤ 15 → (((0 ≤ a1 ∧ a1 < σ 105 5 ∧ a1 < 40) ∧ v = σ 106 a1.toNat) ∨ (¬ (0 ≤ a1 ∧ a1 < σ 105 5 ∧ a1 < 40) ∧ v = -4)) → Q (some (x_I v)) σ) : x_P E 152 [x_R 105, x_I a1] σ Q := by
  have c5 : 0 ≤ σ 105 5 ∧ σ 105 5 ≤ 40 := C0 105 5 (by decide) (by decide) (by decide)
  refine x_Mt e_152 (h_152 E) (Nat.le_of_ble_eq_true rfl) t_152 rfl ?_
  refine x_blk (b := 0) (a_152 E) rfl ?_
  unfold b_152_0
  refine x_iload rfl ?_
  refine x_aload rfl ?_
  refine x_getIG y_f105_5 C0 ?_
  intro g1a g1b
  refine x_cS (fun _ => rfl) (Nat.le_of_ble_eq_true rfl) ?_
  refine sf_2 (by omega) (by omega) (by omega) (by omega) C0 (fun y2 => ?_) (fun y2 => ?_)
  · skip
    refine x_if_eq (by omega) (by omega) (fun z => absurd z (by omega)) (fun z3 => ?_)
    refine x_iload rfl ?_
    refine x_push 40 rfl ?_
    refine x_icmp_ge (by omega) (by omega) (by omega) (by omega) (fun z4 => ?_) (fun z => absurd (by omega) z)
    refine x_aload rfl ?_
    refine x_getR (r := 105) rfl (by decide) (by decide) rfl ?_
    refine x_iload rfl ?_
    refine x_ialdX y_a106 C0 (by omega) (by omega) (fun v5 v5x v5a v5b => ?_)
    refine x_goto ?_
    refine x_blk (b := 2) (a_152 E) rfl ?_
    unfold b_152_2
    refine x_iret ?_
    exact k _ (by omega) (by omega) (by omega)
  · skip
    refine x_if_eq (by omega) (by omega) (fun z6 => ?_) (fun z => absurd (by omega) z)
    refine x_blk (b := 1) (a_152 E) rfl ?_
    unfold b_152_1
    refine x_push (-4) rfl ?_
    refine x_fall ?_
    refine x_blk (b := 2) (a_152 E) rfl ?_
    unfold b_152_2
    refine x_iret ?_
    exact k _ (by omega) (by omega) (by omega)
theorem kx_98_0 {E : q_E} {σ : x_S} {Q : Option q_V → x_S → Prop} {a1 a2 : Int} (a1l : -2147483648 ≤ a1) (a1h : a1 ≤ 2147483647) (a2l : -2147483648 ≤ a2) (a2h : a2 ≤ 2147483647) (C0 : y_CI σ) (k : ∀ v, (-2147483648) ≤ v → v ≤ 2147483647 → (((a1 < 0 ∨ a2 = -1) ∧ v = a1) ∨ (¬ (a1 < 0 ∨ a2 = -1) ∧ (0 ≤ a2 ∧ a2 < σ 105 5 ∧ a2 < 40) ∧ v = σ 106 a2.toNat) ∨ (¬ (a1 < 0 ∨ a2 = -1) ∧ ¬ (0 ≤ a2 ∧ a2 < σ 105 5 ∧ a2 < 40) ∧ v = -4)) → Q (some (x_I v)) σ) : x_P E 98 [x_R 0, x_I a1, x_I a2] σ Q := by
  have c5 : 0 ≤ σ 105 5 ∧ σ 105 5 ≤ 40 := C0 105 5 (by decide) (by decide) (by decide)
  refine x_Mt e_98 (h_98 E) (Nat.le_of_ble_eq_true rfl) t_98 rfl ?_
  refine x_blk (b := 0) (a_98 E) rfl ?_
  unfold b_98_0
  refine x_iload rfl ?_
  refine x_if_lt (by omega) (by omega) (fun z1 => ?_) (fun z1 => ?_)
  · skip
    refine x_blk (b := 1) (a_98 E) rfl ?_
    unfold b_98_1
    refine x_iload rfl ?_
    refine x_goto ?_
    refine x_blk (b := 3) (a_98 E) rfl ?_
    unfold b_98_3
    refine x_iret ?_
    exact k _ (by omega) (by omega) (by omega)
  · skip
    refine x_iload rfl ?_
    refine x_push (-1) rfl ?_
    refine x_icmp_ne (by omega) (by omega) (by omega) (by omega) (fun z2 => ?_) (fun z2 => ?_)
    · skip
      refine x_fall ?_
      refine x_blk (b := 1) (a_98 E) rfl ?_
      unfold b_98_1
      refine x_iload rfl ?_
      refine x_goto ?_
      refine x_blk (b := 3) (a_98 E) rfl ?_
      unfold b_98_3
      refine x_iret ?_
      exact k _ (by omega) (by omega) (by omega)
    · skip
      refine x_blk (b := 2) (a_98 E) rfl ?_
      unfold b_98_2
      refine x_aload rfl ?_
      refine x_getR (r := 0) rfl (by decide) (by decide) rfl ?_
      refine x_iload rfl ?_
      refine x_cV (fun _ => rfl) rfl (by decide) (Nat.le_of_ble_eq_true rfl) ?_
      refine kx_152_105 (by omega) (by omega) C0 (fun v3 v3a v3b v3c => ?_)
      refine x_fall ?_
      refine x_blk (b := 3) (a_98 E) rfl ?_
      unfold b_98_3
      refine x_iret ?_
      exact k _ (by omega) (by omega) (by omega)
