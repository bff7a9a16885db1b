theorem kx_66_111_4 {E : q_E} {σ : x_S} {Q : Option q_V → x_S → Prop} {a2 a3 : Int} (f1 : 0 ≤ a2) (f2 : a2 ≤ 4) (h1 : y_ch a2 ≤ a3) (h2 : a3 ≤ 7) (C0 : y_CI σ) {A : Nat → Int} (hP : y_PI A) (hA : y_AG (y_cv σ 4) A) (k : ∀ n : Nat, (∀ i, i < 64 → cn_b n i = cn_tb A a2 (cn_by (fun m => cn_b (σ 123 m).toNat i) a3 a2)) → Q (some (x_N n)) σ) : x_P E 66 [x_R 111, x_R 4, x_I a2, x_I a3] σ Q := by
  have chb := y_ch_b a2
  have chx := y_chx a2
  refine x_Mt e_66 (h_66 E) (Nat.le_of_ble_eq_true rfl) t_66 rfl ?_
  refine x_blk (b := 0) (a_66 E) rfl ?_
  unfold b_66_0
  refine x_iload rfl ?_
  refine x_cS (fun _ => rfl) (Nat.le_of_ble_eq_true rfl) ?_
  refine ke_7 (by omega) (by omega) (fun v1 v1a v1b v1c => ?_)
  refine x_istore ?_
  refine x_iload rfl ?_
  refine x_iload rfl ?_
  refine x_icmp_lt (by omega) (by omega) (by omega) (by omega) (fun z2 => ?_) (fun z2 => ?_)
  · skip
    refine x_blk (b := 1) (a_66 E) rfl ?_
    unfold b_66_1
    refine x_pushv ?_
    refine x_lret ?_
    exact absurd h1 (by omega)
  · skip
    refine x_iload rfl ?_
    refine x_push 7 rfl ?_
    refine x_icmp_le (by omega) (by omega) (by omega) (by omega) (fun z3 => ?_) (fun z => absurd (by omega) z)
    refine x_blk (b := 2) (a_66 E) rfl ?_
    unfold b_66_2
    refine x_pushv ?_
    refine x_lstore ?_
    refine x_X_lo (lo' := [(0, x_R 111), (1, x_R 4), (2, x_I _), (3, x_I _), (4, x_I _), (5, x_N _)]) ⟨rfl, rfl, rfl, rfl, rfl, rfl, trivial⟩ ?_
    refine x_push 0 rfl ?_
    refine x_istore ?_
    refine x_fall ?_
    refine x_G_lo (lo' := [(0, x_R 111), (1, x_R 4), (2, x_I _), (3, x_I _), (4, x_I _), (5, x_N _), (7, x_I _)]) ⟨rfl, rfl, rfl, rfl, rfl, rfl, rfl, trivial⟩ ?_
    have inv : ∀ i, i < 64 → (cn_b 0 i = 1 ∧ cn_by (fun m => cn_b (σ 123 m).toNat i) a3 a2 < 0 ∧ cn_tb A a2 (cn_by (fun m => cn_b (σ 123 m).toNat i) a3 a2) = 1) ∨ (cn_b 0 i = 0 ∧ ¬ (cn_by (fun m => cn_b (σ 123 m).toNat i) a3 a2 < 0 ∧ cn_tb A a2 (cn_by (fun m => cn_b (σ 123 m).toNat i) a3 a2) = 1)) := fun i hi => Or.inr ⟨cn_b_0 i, fun z => by
      have kx := cn_byx (fun m => cn_b (σ 123 m).toNat i) a3 a2
      have b1 := cn_b_b (σ 123 (a3 - 1).toNat).toNat i
      have b2 := cn_b_b (σ 123 (a3 - 2).toNat).toNat i
      omega⟩
    have c3 : y_ch a2 = 0 ∨ y_ch a2 = 1 ∨ y_ch a2 = 2 := by omega
    rcases c3 with e | e | e
    · rw [show v1 = 0 by omega]; exact kx_66_111_4_l0 f1 f2 h1 h2 C0 hP hA k e _ 0 0 rfl (by omega) (by omega) inv
    · rw [show v1 = 1 by omega]; exact kx_66_111_4_l1 f1 f2 h1 h2 C0 hP hA k e _ 0 0 rfl (by omega) (by omega) inv
    · rw [show v1 = 2 by omega]; exact kx_66_111_4_l2 f1 f2 h1 h2 C0 hP hA k e _ 0 0 rfl (by omega) (by omega) inv
theorem kx_66_124_4 {E : q_E} {σ : x_S} {Q : Option q_V → x_S → Prop} {a2 a3 : Int} (f1 : 0 ≤ a2) (f2 : a2 ≤ 4) (h1 : y_ch a2 ≤ a3) (h2 : a3 ≤ 7) (C0 : y_CI σ) {A : Nat → Int} (hP : y_PI A) (hA : y_AG (y_cv σ 4) A) (k : ∀ n : Nat, (∀ i, i < 64 → cn_b n i = cn_tb A a2 (cn_by (fun m => cn_b (σ 136 m).toNat i) a3 a2)) → Q (some (x_N n)) σ) : x_P E 66 [x_R 124, x_R 4, x_I a2, x_I a3] σ Q := by
  have chb := y_ch_b a2
  have chx := y_chx a2
  refine x_Mt e_66 (h_66 E) (Nat.le_of_ble_eq_true rfl) t_66 rfl ?_
  refine x_blk (b := 0) (a_66 E) rfl ?_
  unfold b_66_0
  refine x_iload rfl ?_
  refine x_cS (fun _ => rfl) (Nat.le_of_ble_eq_true rfl) ?_
  refine ke_7 (by omega) (by omega) (fun v1 v1a v1b v1c => ?_)
  refine x_istore ?_
  refine x_iload rfl ?_
  refine x_iload rfl ?_
  refine x_icmp_lt (by omega) (by omega) (by omega) (by omega) (fun z2 => ?_) (fun z2 => ?_)
  · skip
    refine x_blk (b := 1) (a_66 E) rfl ?_
    unfold b_66_1
    refine x_pushv ?_
    refine x_lret ?_
    exact absurd h1 (by omega)
  · skip
    refine x_iload rfl ?_
    refine x_push 7 rfl ?_
    refine x_icmp_le (by omega) (by omega) (by omega) (by omega) (fun z3 => ?_) (fun z => absurd (by omega) z)
    refine x_blk (b := 2) (a_66 E) rfl ?_
    unfold b_66_2
    refine x_pushv ?_
    refine x_lstore ?_
    refine x_X_lo (lo' := [(0, x_R 124), (1, x_R 4), (2, x_I _), (3, x_I _), (4, x_I _), (5, x_N _)]) ⟨rfl, rfl, rfl, rfl, rfl, rfl, trivial⟩ ?_
    refine x_push 0 rfl ?_
    refine x_istore ?_
    refine x_fall ?_
    refine x_G_lo (lo' := [(0, x_R 124), (1, x_R 4), (2, x_I _), (3, x_I _), (4, x_I _), (5, x_N _), (7, x_I _)]) ⟨rfl, rfl, rfl, rfl, rfl, rfl, rfl, trivial⟩ ?_
    have inv : ∀ i, i < 64 → (cn_b 0 i = 1 ∧ cn_by (fun m => cn_b (σ 136 m).toNat i) a3 a2 < 0 ∧ cn_tb A a2 (cn_by (fun m => cn_b (σ 136 m).toNat i) a3 a2) = 1) ∨ (cn_b 0 i = 0 ∧ ¬ (cn_by (fun m => cn_b (σ 136 m).toNat i) a3 a2 < 0 ∧ cn_tb A a2 (cn_by (fun m => cn_b (σ 136 m).toNat i) a3 a2) = 1)) := fun i hi => Or.inr ⟨cn_b_0 i, fun z => by
      have kx := cn_byx (fun m => cn_b (σ 136 m).toNat i) a3 a2
      have b1 := cn_b_b (σ 136 (a3 - 1).toNat).toNat i
      have b2 := cn_b_b (σ 136 (a3 - 2).toNat).toNat i
      omega⟩
    have c3 : y_ch a2 = 0 ∨ y_ch a2 = 1 ∨ y_ch a2 = 2 := by omega
    rcases c3 with e | e | e
    · rw [show v1 = 0 by omega]; exact kx_66_124_4_l0 f1 f2 h1 h2 C0 hP hA k e _ 0 0 rfl (by omega) (by omega) inv
    · rw [show v1 = 1 by omega]; exact kx_66_124_4_l1 f1 f2 h1 h2 C0 hP hA k e _ 0 0 rfl (by omega) (by omega) inv
    · rw [show v1 = 2 by omega]; exact kx_66_124_4_l2 f1 f2 h1 h2 C0 hP hA k e _ 0 0 rfl (by omega) (by omega) inv
