theorem ke_36_11_3 {E : q_E} {σ : x_S} {Q : Option q_V → x_S → Prop} {a1 a3 : Int} (a1l : 0 ≤ a1) (a1h : a1 ≤ 2) (a3l : 1 ≤ a3) (a3h : a3 ≤ 11) (C0 : y_CI σ) (k : ∀ τ, y_CI τ → (∀ q m, (q ≠ 12 ∧ q ≠ 13) → τ q m = σ q m) → (∀ m, τ 12 m = if 11 * a1.toNat ≤ m ∧ m < 11 * a1.toNat + a3.toNat then σ 3 (m - 11 * a1.toNat) else σ 12 m) → (∀ m, τ 13 m = if m = a1.toNat then a3 else σ 13 m) → Q none τ) : x_P E 36 [x_R 11, x_I a1, x_R 3, x_I a3] σ Q := by
  refine x_Mt e_36 (h_36 E) (Nat.le_of_ble_eq_true rfl) t_36 rfl ?_
  refine x_blk (b := 0) (a_36 E) rfl ?_
  unfold b_36_0
  refine x_iload rfl ?_
  refine x_push 3 rfl ?_
  refine x_cS (fun _ => rfl) (Nat.le_of_ble_eq_true rfl) ?_
  refine sf_2 (by omega) (by omega) (by omega) (by omega) C0 (fun y1 => ?_) (fun y1 => absurd (by omega) y1)
  refine x_if_eq (by omega) (by omega) (fun z => absurd z (by omega)) (fun z2 => ?_)
  refine x_iload rfl ?_
  refine x_if_le (by omega) (by omega) (fun z => absurd z (by omega)) (fun z3 => ?_)
  refine x_iload rfl ?_
  refine x_push 11 rfl ?_
  refine x_icmp_gt (by omega) (by omega) (by omega) (by omega) (fun z4 => ?_) (fun z => absurd (by omega) z)
  refine x_iload rfl ?_
  refine x_aload rfl ?_
  refine x_lenG (n := 12) (L := 12) rfl (by decide) rfl (by decide) rfl ?_
  refine x_icmp_gt (by omega) (by omega) (by omega) (by omega) (fun z5 => ?_) (fun z => absurd (by omega) z)
  refine x_aload rfl ?_
  refine x_push 0 rfl ?_
  refine x_aload rfl ?_
  refine x_getR (r := 11) rfl (by decide) (by decide) rfl ?_
  refine x_iload rfl ?_
  refine x_push 11 rfl ?_
  refine x_imul ?_
  refine x_iload rfl ?_
  refine x_copyG y_a3 y_a12 (by decide) (by decide) C0 (by decide) (y_fr_rf (lo := 0) (hi := 138)) (by omega) (by omega) (by omega) (by omega) (by omega) (Nat.le_of_ble_eq_true rfl) (fun S6 e6 C6 F6 => ?_)
  refine x_aload rfl ?_
  refine x_getR (r := 11) rfl (by decide) (by decide) rfl ?_
  refine x_iload rfl ?_
  refine x_iload rfl ?_
  refine x_astG y_a13 C6 (by decide) F6 (by omega) (by omega) (by omega) (by omega) (fun S7 e7 C7 F7 => ?_)
  refine x_fall ?_
  refine x_blk (b := 1) (a_36 E) rfl ?_
  unfold b_36_1
  refine x_vret ?_
  refine k _ C7 (fun q m hq => ?_) (fun m => ?_) (fun m => ?_)
  · rw [x_up_nr e7 hq.2, x_cp_nr e6 hq.1]
  · rw [x_up_nr e7 (by decide), e6]
    unfold x_cp
    by_cases c : 11 * a1.toNat ≤ m ∧ m < 11 * a1.toNat + a3.toNat
    · rw [if_pos c, if_pos ⟨rfl, by omega, by omega⟩]
      congr 1
      omega
    · rw [if_neg c, if_neg (fun z => c (by omega))]
  · by_cases c : m = a1.toNat
    · rw [if_pos c, c, x_up_at e7]
    · rw [if_neg c, x_up_ne e7 (fun z => c z.2), x_cp_nr e6 (by decide)]
theorem ke_100_4 {E : q_E} {σ : x_S} {Q : Option q_V → x_S → Prop} {a1 a2 : Int} (a1l : 0 ≤ a1) (a1h : a1 ≤ 1) (a2l : 0 ≤ a2) (a2h : a2 ≤ 3) (C0 : y_CI σ) (k : ∀ τ, y_CI τ → (∀ q m, ¬ (q = 7 ∧ m = a1.toNat) → τ q m = σ q m) → τ 7 a1.toNat = a2 → Q none τ) : x_P E 100 [x_R 4, x_I a1, x_I a2] σ Q := by
  refine x_Mt e_100 (h_100 E) (Nat.le_of_ble_eq_true rfl) t_100 rfl ?_
  refine x_blk (b := 0) (a_100 E) rfl ?_
  unfold b_100_0
  refine x_iload rfl ?_
  refine x_push 2 rfl ?_
  refine x_cS (fun _ => rfl) (Nat.le_of_ble_eq_true rfl) ?_
  refine sf_2 (by omega) (by omega) (by omega) (by omega) C0 (fun y1 => ?_) (fun y1 => absurd (by omega) y1)
  refine x_if_eq (by omega) (by omega) (fun z => absurd z (by omega)) (fun z2 => ?_)
  refine x_aload rfl ?_
  refine x_getR (r := 4) rfl (by decide) (by decide) rfl ?_
  refine x_iload rfl ?_
  refine x_iload rfl ?_
  refine x_astG y_a7 C0 (by decide) (y_fr_rf (lo := 0) (hi := 138)) (by omega) (by omega) (by omega) (by omega) (fun S3 e3 C3 F3 => ?_)
  refine x_fall ?_
  refine x_blk (b := 1) (a_100 E) rfl ?_
  unfold b_100_1
  refine x_vret ?_
  refine k _ C3 (fun q m hq => x_up_ne e3 (fun z => hq z)) ?_
  exact x_up_at e3
theorem ke_100_11 {E : q_E} {σ : x_S} {Q : Option q_V → x_S → Prop} {a1 a2 : Int} (a1l : 0 ≤ a1) (a1h : a1 ≤ 1) (a2l : 0 ≤ a2) (a2h : a2 ≤ 3) (C0 : y_CI σ) (k : ∀ τ, y_CI τ → (∀ q m, ¬ (q = 14 ∧ m = a1.toNat) → τ q m = σ q m) → τ 14 a1.toNat = a2 → Q none τ) : x_P E 100 [x_R 11, x_I a1, x_I a2] σ Q := by
  refine x_Mt e_100 (h_100 E) (Nat.le_of_ble_eq_true rfl) t_100 rfl ?_
  refine x_blk (b := 0) (a_100 E) rfl ?_
  unfold b_100_0
  refine x_iload rfl ?_
  refine x_push 2 rfl ?_
  refine x_cS (fun _ => rfl) (Nat.le_of_ble_eq_true rfl) ?_
  refine sf_2 (by omega) (by omega) (by omega) (by omega) C0 (fun y1 => ?_) (fun y1 => absurd (by omega) y1)
  refine x_if_eq (by omega) (by omega) (fun z => absurd z (by omega)) (fun z2 => ?_)
  refine x_aload rfl ?_
  refine x_getR (r := 11) rfl (by decide) (by decide) rfl ?_
  refine x_iload rfl ?_
  refine x_iload rfl ?_
  refine x_astG y_a14 C0 (by decide) (y_fr_rf (lo := 0) (hi := 138)) (by omega) (by omega) (by omega) (by omega) (fun S3 e3 C3 F3 => ?_)
  refine x_fall ?_
  refine x_blk (b := 1) (a_100 E) rfl ?_
  unfold b_100_1
  refine x_vret ?_
  refine k _ C3 (fun q m hq => x_up_ne e3 (fun z => hq z)) ?_
  exact x_up_at e3
