theorem x_fin {Q : Option q_V → x_S → Prop} {σ : x_S} {a b : Int} (e : a = b) (k : Q (some (x_I b)) σ) : Q (some (x_I a)) σ := by rw [e]; exact k
/-- how many children a letter has -/
def y_ch (f : Int) : Int := if f < 2 then 0 else if f = 2 then 1 else 2
theorem y_ch_b (f : Int) : 0 ≤ y_ch f ∧ y_ch f ≤ 2 := by unfold y_ch; (repeat' split) <;> omega
def y_tab (m f k : Int) : Int := 38 + 12 * m + (if f < 3 then f else 4 * f - 8) + k
theorem c_0 {E : q_E} {σ : x_S} {Q : Option q_V → x_S → Prop} {f : Int} (h1 : -2147483648 ≤ f) (h2 : f ≤ 2147483647) (k : Q (some (x_I (y_ch f))) σ) : x_P E 0 [x_I f] σ Q := by
  refine x_Mt e_0 (h_0 E) (Nat.le_of_ble_eq_true rfl) t_0 rfl ?_
  refine x_blk (b := 0) (a_0 E) rfl ?_
  unfold b_0_0
  refine x_iload rfl ?_
  refine x_push 2 rfl ?_
  refine x_icmp_ge (by omega) (by omega) (by omega) (by omega) (fun z1 => ?_) (fun z1 => ?_)
  · skip
    refine x_push 0 rfl ?_
    refine x_goto ?_
    refine x_blk (b := 2) (a_0 E) rfl ?_
    unfold b_0_2
    refine x_iret ?_
    refine x_fin ?_ k
    unfold y_ch; (repeat' split) <;> omega
  · skip
    refine x_blk (b := 1) (a_0 E) rfl ?_
    unfold b_0_1
    refine x_iload rfl ?_
    refine x_push 2 rfl ?_
    refine x_icmp_ne (by omega) (by omega) (by omega) (by omega) (fun z2 => ?_) (fun z2 => ?_)
    · skip
      refine x_push 1 rfl ?_
      refine x_goto ?_
      refine x_blk (b := 2) (a_0 E) rfl ?_
      unfold b_0_2
      refine x_iret ?_
      refine x_fin ?_ k
      unfold y_ch; (repeat' split) <;> omega
    · skip
      refine x_blk (b := 3) (a_0 E) rfl ?_
      unfold b_0_3
      refine x_push 2 rfl ?_
      refine x_fall ?_
      refine x_blk (b := 2) (a_0 E) rfl ?_
      unfold b_0_2
      refine x_iret ?_
      refine x_fin ?_ k
      unfold y_ch; (repeat' split) <;> omega
theorem c_3 {E : q_E} {σ : x_S} {Q : Option q_V → x_S → Prop} {r w : Int} (h1 : 0 ≤ 63 + 12 * r + w) (h2 : 63 + 12 * r + w < 256) (k : -2147483648 ≤ σ 140 (63 + 12 * r + w).toNat → σ 140 (63 + 12 * r + w).toNat ≤ 2147483647 → Q (some (x_I (σ 140 (63 + 12 * r + w).toNat))) σ) : x_P E 3 [x_R 138, x_I r, x_I w] σ Q := by
  refine x_Mt e_3 (h_3 E) (Nat.le_of_ble_eq_true rfl) t_3 rfl ?_
  refine x_blk (b := 0) (a_3 E) rfl ?_
  unfold b_3_0
  refine x_aload rfl ?_
  refine x_getR (r := 138) rfl (by decide) (by decide) rfl ?_
  refine x_push 63 rfl ?_
  refine x_push 12 rfl ?_
  refine x_iload rfl ?_
  refine x_imul ?_
  refine x_iadd ?_
  refine x_iload rfl ?_
  refine x_iadd ?_
  refine x_iald (r := 140) (n := 256)  rfl rfl (by decide) (fun _ => rfl) rfl (by omega) (by omega) ?_
  intro g1a g1b
  refine x_iret ?_
  exact k g1a g1b
theorem c_17 {E : q_E} {σ : x_S} {Q : Option q_V → x_S → Prop} {m f e : Int} (h1 : -2147483648 ≤ f) (h2 : f ≤ 2147483647) (k : Q (some (x_I (y_tab m f e))) σ) : x_P E 17 [x_I m, x_I f, x_I e] σ Q := by
  refine x_Mt e_17 (h_17 E) (Nat.le_of_ble_eq_true rfl) t_17 rfl ?_
  refine x_blk (b := 0) (a_17 E) rfl ?_
  unfold b_17_0
  refine x_push 38 rfl ?_
  refine x_push 12 rfl ?_
  refine x_iload rfl ?_
  refine x_imul ?_
  refine x_iadd ?_
  refine x_iload rfl ?_
  refine x_push 3 rfl ?_
  refine x_icmp_ge (by omega) (by omega) (by omega) (by omega) (fun z1 => ?_) (fun z1 => ?_)
  · skip
    refine x_iload rfl ?_
    refine x_goto ?_
    refine x_blk (b := 2) (a_17 E) rfl ?_
    unfold b_17_2
    refine x_iadd ?_
    refine x_iload rfl ?_
    refine x_iadd ?_
    refine x_iret ?_
    refine x_fin ?_ k
    unfold y_tab; (repeat' split) <;> omega
  · skip
    refine x_blk (b := 1) (a_17 E) rfl ?_
    unfold b_17_1
    refine x_push 4 rfl ?_
    refine x_iload rfl ?_
    refine x_imul ?_
    refine x_push 8 rfl ?_
    refine x_isub ?_
    refine x_fall ?_
    refine x_blk (b := 2) (a_17 E) rfl ?_
    unfold b_17_2
    refine x_iadd ?_
    refine x_iload rfl ?_
    refine x_iadd ?_
    refine x_iret ?_
    refine x_fin ?_ k
    unfold y_tab; (repeat' split) <;> omega
theorem c_45 {E : q_E} {σ : x_S} {Q : Option q_V → x_S → Prop} {v a b : Int} (h1 : -9223372036854775808 ≤ v) (h2 : v ≤ 9223372036854775807) (h3 : -9223372036854775808 ≤ a) (h4 : a ≤ 9223372036854775807) (h5 : -9223372036854775808 ≤ b) (h6 : b ≤ 9223372036854775807) (k1 : a ≤ v ∧ v ≤ b → Q (some (x_I 1)) σ) (k0 : ¬ (a ≤ v ∧ v ≤ b) → Q (some (x_I 0)) σ) : x_P E 45 [x_L v, x_L a, x_L b] σ Q := by
  refine x_Mt e_45 (h_45 E) (Nat.le_of_ble_eq_true rfl) t_45 rfl ?_
  refine x_blk (b := 0) (a_45 E) rfl ?_
  unfold b_45_0
  refine x_lload rfl ?_
  refine x_lload rfl ?_
  refine x_lcmp (by omega) (by omega) (by omega) (by omega) (fun z1 => ?_) (fun z1 => ?_) (fun z1 => ?_)
  · skip
    refine x_if_lt (by decide) (by decide) (fun z => absurd z (by decide)) (fun _ => ?_)
    refine x_lload rfl ?_
    refine x_lload rfl ?_
    refine x_lcmp (by omega) (by omega) (by omega) (by omega) (fun z3 => ?_) (fun z3 => ?_) (fun z3 => ?_)
    · skip
      refine x_if_gt (by decide) (by decide) (fun z => absurd z (by decide)) (fun _ => ?_)
      refine x_blk (b := 1) (a_45 E) rfl ?_
      unfold b_45_1
      refine x_push 0 rfl ?_
      refine x_fall ?_
      refine x_blk (b := 2) (a_45 E) rfl ?_
      unfold b_45_2
      refine x_zret (by first | decide | omega) ?_
      first | exact k1 (by omega) | exact k0 (by omega)
    · skip
      refine x_if_gt (by decide) (by decide) (fun _ => ?_) (fun z => absurd (by decide) z)
      refine x_push 1 rfl ?_
      refine x_goto ?_
      refine x_blk (b := 2) (a_45 E) rfl ?_
      unfold b_45_2
      refine x_zret (by first | decide | omega) ?_
      first | exact k1 (by omega) | exact k0 (by omega)
    · skip
      refine x_if_gt (by decide) (by decide) (fun _ => ?_) (fun z => absurd (by decide) z)
      refine x_push 1 rfl ?_
      refine x_goto ?_
      refine x_blk (b := 2) (a_45 E) rfl ?_
      unfold b_45_2
      refine x_zret (by first | decide | omega) ?_
      first | exact k1 (by omega) | exact k0 (by omega)
  · skip
    refine x_if_lt (by decide) (by decide) (fun z => absurd z (by decide)) (fun _ => ?_)
    refine x_lload rfl ?_
    refine x_lload rfl ?_
    refine x_lcmp (by omega) (by omega) (by omega) (by omega) (fun z8 => ?_) (fun z8 => ?_) (fun z8 => ?_)
    · skip
      refine x_if_gt (by decide) (by decide) (fun z => absurd z (by decide)) (fun _ => ?_)
      refine x_blk (b := 1) (a_45 E) rfl ?_
      unfold b_45_1
      refine x_push 0 rfl ?_
      refine x_fall ?_
      refine x_blk (b := 2) (a_45 E) rfl ?_
      unfold b_45_2
      refine x_zret (by first | decide | omega) ?_
      first | exact k1 (by omega) | exact k0 (by omega)
    · skip
      refine x_if_gt (by decide) (by decide) (fun _ => ?_) (fun z => absurd (by decide) z)
      refine x_push 1 rfl ?_
      refine x_goto ?_
      refine x_blk (b := 2) (a_45 E) rfl ?_
      unfold b_45_2
      refine x_zret (by first | decide | omega) ?_
      first | exact k1 (by omega) | exact k0 (by omega)
    · skip
      refine x_if_gt (by decide) (by decide) (fun _ => ?_) (fun z => absurd (by decide) z)
      refine x_push 1 rfl ?_
      refine x_goto ?_
      refine x_blk (b := 2) (a_45 E) rfl ?_
      unfold b_45_2
      refine x_zret (by first | decide | omega) ?_
      first | exact k1 (by omega) | exact k0 (by omega)
  · skip
    refine x_if_lt (by decide) (by decide) (fun _ => ?_) (fun z => absurd (by decide) z)
    refine x_blk (b := 1) (a_45 E) rfl ?_
    unfold b_45_1
    refine x_push 0 rfl ?_
    refine x_fall ?_
    refine x_blk (b := 2) (a_45 E) rfl ?_
    unfold b_45_2
    refine x_zret (by first | decide | omega) ?_
    first | exact k1 (by omega) | exact k0 (by omega)
theorem c_64 {E : q_E} {σ : x_S} {Q : Option q_V → x_S → Prop} {p : Int} (h1 : -2147483648 ≤ p) (h2 : p ≤ 2147483647) (k1 : 0 ≤ p ∧ p ≤ 1 → Q (some (x_I 1)) σ) (k0 : ¬ (0 ≤ p ∧ p ≤ 1) → Q (some (x_I 0)) σ) : x_P E 64 [x_I p] σ Q := by
  refine x_Mt e_64 (h_64 E) (Nat.le_of_ble_eq_true rfl) t_64 rfl ?_
  refine x_blk (b := 0) (a_64 E) rfl ?_
  unfold b_64_0
  refine x_iload rfl ?_
  refine x_i2l (by omega) (by omega) ?_
  refine x_pushL 0 rfl ?_
  refine x_pushL 1 rfl ?_
  refine x_cS (fun _ => rfl) (Nat.le_of_ble_eq_true rfl) ?_
  refine c_45 (by omega) (by omega) (by omega) (by omega) (by omega) (by omega) (fun y1 => ?_) (fun y1 => ?_)
  · skip
    refine x_zret (by first | decide | omega) ?_
    first | exact k1 (by omega) | exact k0 (by omega)
  · skip
    refine x_zret (by first | decide | omega) ?_
    first | exact k1 (by omega) | exact k0 (by omega)
theorem c_67 {E : q_E} {σ : x_S} {Q : Option q_V → x_S → Prop} {t : Int} (h1 : -2147483648 ≤ t) (h2 : t ≤ 2147483647) (k1 : 0 ≤ t ∧ t ≤ 2 → Q (some (x_I 1)) σ) (k0 : ¬ (0 ≤ t ∧ t ≤ 2) → Q (some (x_I 0)) σ) : x_P E 67 [x_I t] σ Q := by
  refine x_Mt e_67 (h_67 E) (Nat.le_of_ble_eq_true rfl) t_67 rfl ?_
  refine x_blk (b := 0) (a_67 E) rfl ?_
  unfold b_67_0
  refine x_iload rfl ?_
  refine x_i2l (by omega) (by omega) ?_
  refine x_pushL 0 rfl ?_
  refine x_pushL 2 rfl ?_
  refine x_cS (fun _ => rfl) (Nat.le_of_ble_eq_true rfl) ?_
  refine c_45 (by omega) (by omega) (by omega) (by omega) (by omega) (by omega) (fun y1 => ?_) (fun y1 => ?_)
  · skip
    refine x_zret (by first | decide | omega) ?_
    first | exact k1 (by omega) | exact k0 (by omega)
  · skip
    refine x_zret (by first | decide | omega) ?_
    first | exact k1 (by omega) | exact k0 (by omega)
theorem c_82 {E : q_E} {σ : x_S} {Q : Option q_V → x_S → Prop} {r : Int} (h1 : -2147483648 ≤ r) (h2 : r ≤ 2147483647) (h3 : 0 ≤ σ 140 62) (k1 : 0 ≤ r ∧ r ≤ σ 140 62 - 1 → Q (some (x_I 1)) σ) (k0 : ¬ (0 ≤ r ∧ r ≤ σ 140 62 - 1) → Q (some (x_I 0)) σ) : x_P E 82 [x_R 138, x_I r] σ Q := by
  refine x_Mt e_82 (h_82 E) (Nat.le_of_ble_eq_true rfl) t_82 rfl ?_
  refine x_blk (b := 0) (a_82 E) rfl ?_
  unfold b_82_0
  refine x_iload rfl ?_
  refine x_i2l (by omega) (by omega) ?_
  refine x_pushL 0 rfl ?_
  refine x_aload rfl ?_
  refine x_getR (r := 138) rfl (by decide) (by decide) rfl ?_
  refine x_push 62 rfl ?_
  refine x_iald (r := 140) (n := 256) (m := 62) rfl rfl (by decide) (fun _ => rfl) rfl (by omega) (by omega) ?_
  intro g1a g1b
  refine x_push 1 rfl ?_
  refine x_isub ?_
  refine x_i2l (by omega) (by omega) ?_
  refine x_cS (fun _ => rfl) (Nat.le_of_ble_eq_true rfl) ?_
  refine c_45 (by omega) (by omega) (by omega) (by omega) (by omega) (by omega) (fun y2 => ?_) (fun y2 => ?_)
  · skip
    refine x_zret (by first | decide | omega) ?_
    first | exact k1 (by omega) | exact k0 (by omega)
  · skip
    refine x_zret (by first | decide | omega) ?_
    first | exact k1 (by omega) | exact k0 (by omega)
