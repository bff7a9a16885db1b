/-- the class's text: a letter more, or none -/
theorem kw_5 {E : q_E} {σ : x_S} {Q : Option q_V → x_S → Prop} {a : Int} (a1 : 32 ≤ a) (a2 : a ≤ 126) (C0 : y_CI σ) (k1 : σ 1 2 < 200 → ∀ τ, y_CI τ → (∀ r k, 3 ≤ r → τ r k = σ r k) → τ 1 2 = σ 1 2 + 1 → τ 2 (σ 1 2).toNat = a → (∀ m, m ≠ (σ 1 2).toNat → τ 2 m = σ 2 m) → Q (some (x_I 1)) τ) (k0 : ¬ σ 1 2 < 200 → Q (some (x_I 0)) σ) : x_P E 5 [x_R 1, x_I a] σ Q := by
  refine x_Mt e_5 (h_5 E) (Nat.le_of_ble_eq_true rfl) t_5 rfl ?_
  refine x_blk (b := 0) (a_5 E) rfl ?_
  unfold b_5_0
  refine x_aload rfl ?_
  refine x_getIG y_f1_2 C0 ?_
  intro g1 g2
  refine x_push 200 rfl ?_
  refine x_icmp_lt (by omega) (by omega) (by omega) (by omega) (fun z => ?_) (fun z => ?_)
  · refine x_blk (b := 1) (a_5 E) rfl ?_
    unfold b_5_1
    refine x_aload rfl ?_
    refine x_getR (r := 1) rfl (by decide) (by decide) rfl ?_
    refine x_aload rfl ?_
    refine x_getIG y_f1_2 C0 ?_
    intro g3 g4
    refine x_iload rfl ?_
    refine x_i2c (by omega) (by omega) ?_
    refine x_astC (r := 2) (n := 200) rfl rfl (by decide) (fun _ => rfl) rfl (by omega) (by omega) (by omega) (by omega) (fun S e => ?_)
    refine x_aload rfl ?_
    refine x_dup rfl ?_
    refine x_getI (r := 1) rfl (by decide) (by decide) (by decide) rfl ?_
    have q : S 1 2 = σ 1 2 := x_up_nr e (by decide)
    simp only [q]
    intro g5 g6
    refine x_push 1 rfl ?_
    refine x_iadd ?_
    refine x_putI (r := 1) rfl (by decide) (by decide) (by decide) rfl ⟨by decide, rfl⟩ (by omega) (by omega) (fun S2 e2 => ?_)
    refine x_push 1 rfl ?_
    refine x_zret (by decide) ?_
    refine k1 z S2 (y_CI_up (y_CI_up C0 e (lo := 0) (hi := 65535) rfl (by omega) (by omega)) e2 (lo := 0) (hi := 200) rfl (by omega) (by omega)) (fun r k hr => ?_) (x_up_at e2) ?_ (fun m hm => ?_)
    · rw [x_up_nr e2 (by omega), x_up_nr e (by omega)]
    · rw [x_up_nr e2 (by decide), x_up_at e]
    · rw [x_up_nr e2 (by decide), x_up_ne e (fun w => hm w.2)]
  · refine x_push 0 rfl ?_
    refine x_zret (by decide) ?_
    exact k0 z
theorem kw_121 {E : q_E} {σ : x_S} {Q : Option q_V → x_S → Prop} {a : Int} (a1 : -2147483648 ≤ a) (a2 : a ≤ 2147483647) (C0 : y_CI σ) (kB : ¬ (32 ≤ a ∧ a ≤ 126) → Q (some (x_I (-1))) σ) (kF : 32 ≤ a ∧ a ≤ 126 → ¬ σ 1 2 < 200 → Q (some (x_I (-3))) σ) (kW : 32 ≤ a ∧ a ≤ 126 → σ 1 2 < 200 → ∀ τ, y_CI τ → (∀ r k, 3 ≤ r → τ r k = σ r k) → τ 1 2 = σ 1 2 + 1 → τ 2 (σ 1 2).toNat = a → (∀ m, m ≠ (σ 1 2).toNat → τ 2 m = σ 2 m) → Q (some (x_I (σ 1 2 + 1))) τ) : x_P E 121 [x_R 0, x_I a] σ Q := by
  refine x_Mt e_121 (h_121 E) (Nat.le_of_ble_eq_true rfl) t_121 rfl ?_
  refine x_blk (b := 0) (a_121 E) rfl ?_
  unfold b_121_0
  refine x_iload rfl ?_
  refine x_push 32 rfl ?_
  refine x_icmp_lt (by omega) (by omega) (by omega) (by omega) (fun z => ?_) (fun z => ?_)
  · refine x_blk (b := 1) (a_121 E) rfl ?_
    unfold b_121_1
    refine x_push (-1) rfl ?_
    refine x_iret ?_
    exact kB (by omega)
  · refine x_iload rfl ?_
    refine x_push 126 rfl ?_
    refine x_icmp_le (by omega) (by omega) (by omega) (by omega) (fun z2 => ?_) (fun z2 => ?_)
    · refine x_blk (b := 2) (a_121 E) rfl ?_
      unfold b_121_2
      refine x_aload rfl ?_
      refine x_getR (r := 0) rfl (by decide) (by decide) rfl ?_
      refine x_iload rfl ?_
      refine x_cV (fun _ => rfl) rfl (by decide) (Nat.le_of_ble_eq_true rfl) ?_
      refine kw_5 (by omega) (by omega) C0 (fun h S C1 f1 f2 f3 f4 => ?_) (fun h => ?_)
      · refine x_if_eq (by decide) (by decide) (fun w => absurd w (by decide)) (fun _ => ?_)
        refine x_aload rfl ?_
        refine x_getR (r := 0) rfl (by decide) (by decide) rfl ?_
        refine x_cV (fun _ => rfl) rfl (by decide) (Nat.le_of_ble_eq_true rfl) ?_
        refine sf_97_1 C1 (fun v va vb vc => ?_)
        refine x_goto ?_
        refine x_blk (b := 4) (a_121 E) rfl ?_
        unfold b_121_4
        refine x_iret ?_
        have hv : v = σ 1 2 + 1 := vc.trans f2
        rw [hv]
        exact kW (by omega) h S C1 f1 f2 f3 f4
      · refine x_if_eq (by decide) (by decide) (fun _ => ?_) (fun w => absurd (by decide) w)
        refine x_blk (b := 3) (a_121 E) rfl ?_
        unfold b_121_3
        refine x_push (-3) rfl ?_
        refine x_fall ?_
        refine x_blk (b := 4) (a_121 E) rfl ?_
        unfold b_121_4
        refine x_iret ?_
        exact kF (by omega) h
    · refine x_fall ?_
      refine x_blk (b := 1) (a_121 E) rfl ?_
      unfold b_121_1
      refine x_push (-1) rfl ?_
      refine x_iret ?_
      exact kB (by omega)
theorem kw_55 {E : q_E} {σ : x_S} {Q : Option q_V → x_S → Prop} (C0 : y_CI σ) (k : ∀ τ, y_CI τ → (∀ r k, 3 ≤ r → τ r k = σ r k) → τ 1 2 = 0 → (∀ m, τ 2 m = σ 2 m) → Q none τ) : x_P E 55 [x_R 1] σ Q := by
  refine x_Mt e_55 (h_55 E) (Nat.le_of_ble_eq_true rfl) t_55 rfl ?_
  refine x_blk (b := 0) (a_55 E) rfl ?_
  unfold b_55_0
  refine x_aload rfl ?_
  refine x_push 0 rfl ?_
  refine x_putI (r := 1) rfl (by decide) (by decide) (by decide) rfl ⟨by decide, rfl⟩ (by omega) (by omega) (fun S e => ?_)
  refine x_vret ?_
  exact k S (y_CI_up C0 e (lo := 0) (hi := 200) rfl (by omega) (by omega)) (fun r q hr => x_up_nr e (by omega)) (x_up_at e) (fun m => x_up_nr e (by decide))
theorem kw_122 {E : q_E} {σ : x_S} {Q : Option q_V → x_S → Prop} (C0 : y_CI σ) (k : ∀ τ, y_CI τ → (∀ r k, 3 ≤ r → τ r k = σ r k) → τ 1 2 = 0 → (∀ m, τ 2 m = σ 2 m) → Q (some (x_I (σ 1 2))) τ) : x_P E 122 [x_R 0] σ Q := by
  refine x_Mt e_122 (h_122 E) (Nat.le_of_ble_eq_true rfl) t_122 rfl ?_
  refine x_blk (b := 0) (a_122 E) rfl ?_
  unfold b_122_0
  refine x_aload rfl ?_
  refine x_getR (r := 0) rfl (by decide) (by decide) rfl ?_
  refine x_cV (fun _ => rfl) rfl (by decide) (Nat.le_of_ble_eq_true rfl) ?_
  refine sf_97_1 C0 (fun v va vb vc => ?_)
  refine x_istore ?_
  refine x_aload rfl ?_
  refine x_getR (r := 0) rfl (by decide) (by decide) rfl ?_
  refine x_cV (fun _ => rfl) rfl (by decide) (Nat.le_of_ble_eq_true rfl) ?_
  refine kw_55 C0 (fun S C1 f1 f2 f3 => ?_)
  refine x_iload rfl ?_
  refine x_iret ?_
  rw [vc]
  exact k S C1 f1 f2 f3
