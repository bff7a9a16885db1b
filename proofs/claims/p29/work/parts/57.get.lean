theorem c_180 {E : q_E} {σ : x_S} {Q : Option q_V → x_S → Prop} {t v : Int} (h1 : -2147483648 ≤ t) (h2 : t ≤ 2147483647) (h3 : -2147483648 ≤ v) (h4 : v ≤ 2147483647) (hP : y_PI (σ 140)) (kB : ¬ ((0 ≤ t ∧ t ≤ 2) ∧ -1 ≤ v) → Q (some (x_I (-1))) σ) (kS : (0 ≤ t ∧ t ≤ 2) ∧ v = -1 → Q (some (x_I (σ 140 (2 + t).toNat))) σ) (kL : (0 ≤ t ∧ t ≤ 2) ∧ 0 ≤ v ∧ v < σ 140 (2 + t).toNat → Q (some (x_I (σ 140 (5 + 11 * t + v).toNat))) σ) (kN : (0 ≤ t ∧ t ≤ 2) ∧ σ 140 (2 + t).toNat ≤ v → Q (some (x_I (-4))) σ) : x_P E 180 [x_R 138, x_I t, x_I v] σ Q := by
  refine x_Mt e_180 (h_180 E) (Nat.le_of_ble_eq_true rfl) t_180 rfl ?_
  refine x_blk (b := 0) (a_180 E) rfl ?_
  unfold b_180_0
  refine x_iload rfl ?_
  refine x_cS (fun _ => rfl) (Nat.le_of_ble_eq_true rfl) ?_
  refine c_67 (by omega) (by omega) (fun y1 => ?_) (fun y1 => ?_)
  · skip
    refine x_if_eq (by decide) (by decide) (fun z => absurd z (by decide)) (fun _ => ?_)
    refine x_iload rfl ?_
    refine x_push (-1) rfl ?_
    refine x_icmp_ge (by omega) (by omega) (by omega) (by omega) (fun z3 => ?_) (fun z3 => ?_)
    · skip
      refine x_fall ?_
      refine x_blk (b := 1) (a_180 E) rfl ?_
      unfold b_180_1
      refine x_push (-1) rfl ?_
      refine x_iret ?_
      first | exact kB (by omega) | exact kS (by omega) | exact kL (by omega) | exact kN (by omega)
    · skip
      refine x_blk (b := 2) (a_180 E) rfl ?_
      unfold b_180_2
      have hs : 1 ≤ σ 140 (2 + t).toNat ∧ σ 140 (2 + t).toNat ≤ 11 := by
        have := (hP.2.1 t.toNat (by omega)).1
        rw [show (2 + t).toNat = 2 + t.toNat by omega]; exact this
      refine x_iload rfl ?_
      refine x_if_ge (by omega) (by omega) (fun z4 => ?_) (fun z4 => ?_)
      · skip
        refine x_aload rfl ?_
        refine x_getR (r := 138) rfl (by decide) (by decide) rfl ?_
        refine x_push 2 rfl ?_
        refine x_iload rfl ?_
        refine x_iadd ?_
        refine x_iald (r := 140) (n := 256)  rfl rfl (by decide) (fun _ => rfl) rfl (by omega) (by omega) ?_
        intro g5a g5b
        refine x_goto ?_
        refine x_blk (b := 4) (a_180 E) rfl ?_
        unfold b_180_4
        refine x_iret ?_
        first | exact kB (by omega) | exact kS (by omega) | exact kL (by omega) | exact kN (by omega)
      · skip
        refine x_blk (b := 3) (a_180 E) rfl ?_
        unfold b_180_3
        refine x_iload rfl ?_
        refine x_aload rfl ?_
        refine x_getR (r := 138) rfl (by decide) (by decide) rfl ?_
        refine x_push 2 rfl ?_
        refine x_iload rfl ?_
        refine x_iadd ?_
        refine x_iald (r := 140) (n := 256)  rfl rfl (by decide) (fun _ => rfl) rfl (by omega) (by omega) ?_
        intro g6a g6b
        refine x_icmp_ge (by omega) (by omega) (by omega) (by omega) (fun z7 => ?_) (fun z7 => ?_)
        · skip
          refine x_aload rfl ?_
          refine x_getR (r := 138) rfl (by decide) (by decide) rfl ?_
          refine x_push 5 rfl ?_
          refine x_push 11 rfl ?_
          refine x_iload rfl ?_
          refine x_imul ?_
          refine x_iadd ?_
          refine x_iload rfl ?_
          refine x_iadd ?_
          refine x_iald (r := 140) (n := 256)  rfl rfl (by decide) (fun _ => rfl) rfl (by omega) (by omega) ?_
          intro g8a g8b
          refine x_goto ?_
          refine x_blk (b := 4) (a_180 E) rfl ?_
          unfold b_180_4
          refine x_iret ?_
          first | exact kB (by omega) | exact kS (by omega) | exact kL (by omega) | exact kN (by omega)
        · skip
          refine x_blk (b := 5) (a_180 E) rfl ?_
          unfold b_180_5
          refine x_push (-4) rfl ?_
          refine x_fall ?_
          refine x_blk (b := 4) (a_180 E) rfl ?_
          unfold b_180_4
          refine x_iret ?_
          first | exact kB (by omega) | exact kS (by omega) | exact kL (by omega) | exact kN (by omega)
  · skip
    refine x_if_eq (by decide) (by decide) (fun _ => ?_) (fun z => absurd (by decide) z)
    refine x_blk (b := 1) (a_180 E) rfl ?_
    unfold b_180_1
    refine x_push (-1) rfl ?_
    refine x_iret ?_
    first | exact kB (by omega) | exact kS (by omega) | exact kL (by omega) | exact kN (by omega)
theorem c_114 {E : q_E} {σ : x_S} {Q : Option q_V → x_S → Prop} {m f e : Int} (h1 : -2147483648 ≤ m) (h2 : m ≤ 2147483647) (h3 : -2147483648 ≤ f) (h4 : f ≤ 2147483647) (h5 : -2147483648 ≤ e) (h6 : e ≤ 2147483647) (k1 : ((0 ≤ m ∧ m ≤ 1) ∧ 0 ≤ f ∧ f ≤ 4) ∧ 0 ≤ e ∧ e < y_pw (y_ch f) → -2147483648 ≤ σ 140 (y_tab m f e).toNat → σ 140 (y_tab m f e).toNat ≤ 2147483647 → Q (some (x_I (σ 140 (y_tab m f e).toNat))) σ) (k0 : ¬ (((0 ≤ m ∧ m ≤ 1) ∧ 0 ≤ f ∧ f ≤ 4) ∧ 0 ≤ e ∧ e < y_pw (y_ch f)) → Q (some (x_I (-1))) σ) : x_P E 114 [x_R 138, x_I m, x_I f, x_I e] σ Q := by
  refine x_Mt e_114 (h_114 E) (Nat.le_of_ble_eq_true rfl) t_114 rfl ?_
  refine x_blk (b := 0) (a_114 E) rfl ?_
  unfold b_114_0
  have hb := y_ch_b f
  have hw := y_pw_b (y_ch f)
  refine x_iload rfl ?_
  refine x_cS (fun _ => rfl) (Nat.le_of_ble_eq_true rfl) ?_
  refine c_64 (by omega) (by omega) (fun y1 => ?_) (fun y1 => ?_)
  · skip
    refine x_if_eq (by decide) (by decide) (fun z => absurd z (by decide)) (fun _ => ?_)
    refine x_iload rfl ?_
    refine x_i2l (by omega) (by omega) ?_
    refine x_pushL 0 rfl ?_
    refine x_pushL 4 rfl ?_
    refine x_cS (fun _ => rfl) (Nat.le_of_ble_eq_true rfl) ?_
    refine c_45 (by omega) (by omega) (by omega) (by omega) (by omega) (by omega) (fun y3 => ?_) (fun y3 => ?_)
    · skip
      refine x_if_eq (by decide) (by decide) (fun z => absurd z (by decide)) (fun _ => ?_)
      refine x_iload rfl ?_
      refine x_i2l (by omega) (by omega) ?_
      refine x_pushL 0 rfl ?_
      refine x_push 1 rfl ?_
      refine x_iload rfl ?_
      refine x_cS (fun _ => rfl) (Nat.le_of_ble_eq_true rfl) ?_
      refine c_0 (by omega) (by omega) ?_
      refine x_shl1 (by omega) (by omega) ?_
      refine x_push 1 rfl ?_
      refine x_isub ?_
      refine x_i2l (by omega) (by omega) ?_
      refine x_cS (fun _ => rfl) (Nat.le_of_ble_eq_true rfl) ?_
      refine c_45 (by omega) (by omega) (by omega) (by omega) (by omega) (by omega) (fun y6 => ?_) (fun y6 => ?_)
      · skip
        refine x_if_eq (by decide) (by decide) (fun z => absurd z (by decide)) (fun _ => ?_)
        refine x_aload rfl ?_
        refine x_getR (r := 138) rfl (by decide) (by decide) rfl ?_
        refine x_iload rfl ?_
        refine x_iload rfl ?_
        refine x_iload rfl ?_
        refine x_cS (fun _ => rfl) (Nat.le_of_ble_eq_true rfl) ?_
        have ht := y_tab_b (m := m) (f := f) (e := e) (by omega) (by omega) (by omega) (by omega) (by omega) (by omega)
        refine c_17 (by omega) (by omega) ?_
        refine x_iald (r := 140) (n := 256)  rfl rfl (by decide) (fun _ => rfl) rfl (by omega) (by omega) ?_
        intro g9a g9b
        refine x_goto ?_
        refine x_blk (b := 2) (a_114 E) rfl ?_
        unfold b_114_2
        refine x_iret ?_
        first | exact k1 (by omega) (by omega) (by omega) | exact k0 (by omega)
      · skip
        refine x_if_eq (by decide) (by decide) (fun _ => ?_) (fun z => absurd (by decide) z)
        refine x_blk (b := 1) (a_114 E) rfl ?_
        unfold b_114_1
        refine x_push (-1) rfl ?_
        refine x_fall ?_
        refine x_blk (b := 2) (a_114 E) rfl ?_
        unfold b_114_2
        refine x_iret ?_
        first | exact k1 (by omega) (by omega) (by omega) | exact k0 (by omega)
    · skip
      refine x_if_eq (by decide) (by decide) (fun _ => ?_) (fun z => absurd (by decide) z)
      refine x_blk (b := 1) (a_114 E) rfl ?_
      unfold b_114_1
      refine x_push (-1) rfl ?_
      refine x_fall ?_
      refine x_blk (b := 2) (a_114 E) rfl ?_
      unfold b_114_2
      refine x_iret ?_
      first | exact k1 (by omega) (by omega) (by omega) | exact k0 (by omega)
  · skip
    refine x_if_eq (by decide) (by decide) (fun _ => ?_) (fun z => absurd (by decide) z)
    refine x_blk (b := 1) (a_114 E) rfl ?_
    unfold b_114_1
    refine x_push (-1) rfl ?_
    refine x_fall ?_
    refine x_blk (b := 2) (a_114 E) rfl ?_
    unfold b_114_2
    refine x_iret ?_
    first | exact k1 (by omega) (by omega) (by omega) | exact k0 (by omega)
theorem c_182 {E : q_E} {σ : x_S} {Q : Option q_V → x_S → Prop} {r w : Int} (h1 : -2147483648 ≤ r) (h2 : r ≤ 2147483647) (h3 : -2147483648 ≤ w) (h4 : w ≤ 2147483647) (hP : y_PI (σ 140)) (k1 : (0 ≤ r ∧ r ≤ σ 140 62 - 1) ∧ 0 ≤ w ∧ w ≤ 4 → -2147483648 ≤ σ 140 (63 + 12 * r + w).toNat → σ 140 (63 + 12 * r + w).toNat ≤ 2147483647 → Q (some (x_I (σ 140 (63 + 12 * r + w).toNat))) σ) (k0 : ¬ ((0 ≤ r ∧ r ≤ σ 140 62 - 1) ∧ 0 ≤ w ∧ w ≤ 4) → Q (some (x_I (-1))) σ) : x_P E 182 [x_R 138, x_I r, x_I w] σ Q := by
  have h62 := hP.2.2.2.1
  refine x_Mt e_182 (h_182 E) (Nat.le_of_ble_eq_true rfl) t_182 rfl ?_
  refine x_blk (b := 0) (a_182 E) rfl ?_
  unfold b_182_0
  refine x_aload rfl ?_
  refine x_iload rfl ?_
  refine x_cV (fun _ => rfl) rfl (by decide) (Nat.le_of_ble_eq_true rfl) ?_
  refine c_82 (by omega) (by omega) (by omega) (fun y1 => ?_) (fun y1 => ?_)
  · skip
    refine x_if_eq (by decide) (by decide) (fun z => absurd z (by decide)) (fun _ => ?_)
    refine x_iload rfl ?_
    refine x_i2l (by omega) (by omega) ?_
    refine x_pushL 0 rfl ?_
    refine x_pushL 4 rfl ?_
    refine x_cS (fun _ => rfl) (Nat.le_of_ble_eq_true rfl) ?_
    refine c_45 (by omega) (by omega) (by omega) (by omega) (by omega) (by omega) (fun y3 => ?_) (fun y3 => ?_)
    · skip
      refine x_if_eq (by decide) (by decide) (fun z => absurd z (by decide)) (fun _ => ?_)
      refine x_aload rfl ?_
      refine x_iload rfl ?_
      refine x_iload rfl ?_
      refine x_cV (fun _ => rfl) rfl (by decide) (Nat.le_of_ble_eq_true rfl) ?_
      refine c_3 (by omega) (by omega) (fun t5a t5b => ?_)
      refine x_goto ?_
      refine x_blk (b := 2) (a_182 E) rfl ?_
      unfold b_182_2
      refine x_iret ?_
      first | exact k1 (by omega) (by omega) (by omega) | exact k0 (by omega)
    · skip
      refine x_if_eq (by decide) (by decide) (fun _ => ?_) (fun z => absurd (by decide) z)
      refine x_blk (b := 1) (a_182 E) rfl ?_
      unfold b_182_1
      refine x_push (-1) rfl ?_
      refine x_fall ?_
      refine x_blk (b := 2) (a_182 E) rfl ?_
      unfold b_182_2
      refine x_iret ?_
      first | exact k1 (by omega) (by omega) (by omega) | exact k0 (by omega)
  · skip
    refine x_if_eq (by decide) (by decide) (fun _ => ?_) (fun z => absurd (by decide) z)
    refine x_blk (b := 1) (a_182 E) rfl ?_
    unfold b_182_1
    refine x_push (-1) rfl ?_
    refine x_fall ?_
    refine x_blk (b := 2) (a_182 E) rfl ?_
    unfold b_182_2
    refine x_iret ?_
    first | exact k1 (by omega) (by omega) (by omega) | exact k0 (by omega)
theorem c_183 {E : q_E} {σ : x_S} {Q : Option q_V → x_S → Prop} {r i : Int} (h1 : -2147483648 ≤ r) (h2 : r ≤ 2147483647) (h3 : -2147483648 ≤ i) (h4 : i ≤ 2147483647) (hP : y_PI (σ 140)) (kB : ¬ ((0 ≤ r ∧ r ≤ σ 140 62 - 1) ∧ 0 ≤ i) → Q (some (x_I (-1))) σ) (kL : ((0 ≤ r ∧ r ≤ σ 140 62 - 1) ∧ 0 ≤ i) ∧ i < σ 140 (63 + 12 * r + 4).toNat → -2147483648 ≤ σ 140 (63 + 12 * r + (5 + i)).toNat → σ 140 (63 + 12 * r + (5 + i)).toNat ≤ 2147483647 → Q (some (x_I (σ 140 (63 + 12 * r + (5 + i)).toNat))) σ) (kN : ((0 ≤ r ∧ r ≤ σ 140 62 - 1) ∧ 0 ≤ i) ∧ σ 140 (63 + 12 * r + 4).toNat ≤ i → Q (some (x_I (-4))) σ) : x_P E 183 [x_R 138, x_I r, x_I i] σ Q := by
  have h62 := hP.2.2.2.1
  refine x_Mt e_183 (h_183 E) (Nat.le_of_ble_eq_true rfl) t_183 rfl ?_
  refine x_blk (b := 0) (a_183 E) rfl ?_
  unfold b_183_0
  refine x_aload rfl ?_
  refine x_iload rfl ?_
  refine x_cV (fun _ => rfl) rfl (by decide) (Nat.le_of_ble_eq_true rfl) ?_
  refine c_82 (by omega) (by omega) (by omega) (fun y1 => ?_) (fun y1 => ?_)
  · skip
    refine x_if_eq (by decide) (by decide) (fun z => absurd z (by decide)) (fun _ => ?_)
    refine x_iload rfl ?_
    refine x_if_ge (by omega) (by omega) (fun z3 => ?_) (fun z3 => ?_)
    · skip
      refine x_fall ?_
      refine x_blk (b := 1) (a_183 E) rfl ?_
      unfold b_183_1
      refine x_push (-1) rfl ?_
      refine x_iret ?_
      first | exact kB (by omega) | exact kN (by omega) | exact kL (by omega) (by omega) (by omega)
    · skip
      refine x_blk (b := 2) (a_183 E) rfl ?_
      unfold b_183_2
      have hr4 : 1 ≤ σ 140 (63 + 12 * r + 4).toNat ∧ σ 140 (63 + 12 * r + 4).toNat ≤ 7 := by
        have : 1 ≤ σ 140 (63 + 12 * r.toNat + 4) ∧ σ 140 (63 + 12 * r.toNat + 4) ≤ 7 := (hP.2.2.2.2 r.toNat (by omega)).2.2.2.2.1
        rw [show (63 + 12 * r + 4).toNat = 63 + 12 * r.toNat + 4 by omega]; exact this
      refine x_iload rfl ?_
      refine x_aload rfl ?_
      refine x_iload rfl ?_
      refine x_push 4 rfl ?_
      refine x_cV (fun _ => rfl) rfl (by decide) (Nat.le_of_ble_eq_true rfl) ?_
      refine c_3 (by omega) (by omega) (fun t4a t4b => ?_)
      refine x_icmp_ge (by omega) (by omega) (by omega) (by omega) (fun z5 => ?_) (fun z5 => ?_)
      · skip
        refine x_aload rfl ?_
        refine x_iload rfl ?_
        refine x_push 5 rfl ?_
        refine x_iload rfl ?_
        refine x_iadd ?_
        refine x_cV (fun _ => rfl) rfl (by decide) (Nat.le_of_ble_eq_true rfl) ?_
        refine c_3 (by omega) (by omega) (fun t6a t6b => ?_)
        refine x_goto ?_
        refine x_blk (b := 4) (a_183 E) rfl ?_
        unfold b_183_4
        refine x_iret ?_
        first | exact kB (by omega) | exact kN (by omega) | exact kL (by omega) (by omega) (by omega)
      · skip
        refine x_blk (b := 3) (a_183 E) rfl ?_
        unfold b_183_3
        refine x_push (-4) rfl ?_
        refine x_fall ?_
        refine x_blk (b := 4) (a_183 E) rfl ?_
        unfold b_183_4
        refine x_iret ?_
        first | exact kB (by omega) | exact kN (by omega) | exact kL (by omega) (by omega) (by omega)
  · skip
    refine x_if_eq (by decide) (by decide) (fun _ => ?_) (fun z => absurd (by decide) z)
    refine x_blk (b := 1) (a_183 E) rfl ?_
    unfold b_183_1
    refine x_push (-1) rfl ?_
    refine x_iret ?_
    first | exact kB (by omega) | exact kN (by omega) | exact kL (by omega) (by omega) (by omega)
