/-- a row filled: exact -/
theorem ke_27_b {E : q_E} {σ : x_S} {Q : Option q_V → x_S → Prop} {r n : Nat} {l h a1 : Int} (ar : y_ar 0 r n l h) (a1l : l ≤ a1) (a1h : a1 ≤ h) (k : ∀ τ, y_CI τ → (∀ q m, q ≠ r → τ q m = σ q m) → (∀ m, m < n → τ r m = a1) → Q none τ) : ∀ (N : Nat) (i : Int) (τ : x_S), (n - i).toNat = N → 0 ≤ i → i ≤ n → y_CI τ → (∀ q m, q ≠ r → τ q m = σ q m) → (∀ m : Nat, (m : Int) < i → τ r m = a1) → x_G E m_27 Q (t_27 2) [(0, x_R r), (1, x_I a1), (2, x_I i), (3, x_I n)] [] τ := by
  have an := ar.2.2.1
  intro N
  induction N using Nat.strongRecOn with
  | ind N ih =>
    intro i τ hN i1 i2 C hq hv
    refine x_blk (b := 2) (a_27 E) rfl ?_
    unfold b_27_2
    refine x_iload rfl ?_
    refine x_iload rfl ?_
    refine x_icmp_ge (by omega) (by omega) (by omega) (by omega) (fun z => ?_) (fun z => ?_)
    · refine x_aload rfl ?_
      refine x_iload rfl ?_
      refine x_iload rfl ?_
      refine x_astG ar C ⟨Nat.zero_le _, ar.2.2.2.2.1⟩ (y_fr_rf (lo := 0) (hi := 138)) (by omega) (by omega) a1l a1h (fun S e C1 F1 => ?_)
      refine x_iinc 1 rfl rfl ?_
      refine x_goto ?_
      refine x_G_lo (lo' := [(0, x_R r), (1, x_I a1), (2, x_I (i + 1)), (3, x_I n)]) ⟨rfl, rfl, rfl, rfl, trivial⟩ ?_
      refine ih _ (by omega) (i + 1) S rfl (by omega) (by omega) C1 (fun q m hn => ?_) (fun m hm => ?_)
      · rw [x_up_nr e hn]; exact hq q m hn
      · by_cases c : m = i.toNat
        · rw [c]; exact x_up_at e
        · rw [x_up_ne e (fun z => c z.2)]; exact hv m (by omega)
    · refine x_blk (b := 1) (a_27 E) rfl ?_
      unfold b_27_1
      refine x_vret ?_
      exact k τ C hq (fun m hm => hv m (by omega))
theorem ke_27 {E : q_E} {σ : x_S} {Q : Option q_V → x_S → Prop} {r n : Nat} {l h a1 : Int} (ar : y_ar 0 r n l h) (a1l : l ≤ a1) (a1h : a1 ≤ h) (C0 : y_CI σ) (k : ∀ τ, y_CI τ → (∀ q m, q ≠ r → τ q m = σ q m) → (∀ m, m < n → τ r m = a1) → Q none τ) : x_P E 27 [x_R r, x_I a1] σ Q := by
  refine x_Mt e_27 (h_27 E) (Nat.le_of_ble_eq_true rfl) t_27 rfl ?_
  refine x_blk (b := 0) (a_27 E) rfl ?_
  unfold b_27_0
  refine x_push 0 rfl ?_
  refine x_istore ?_
  refine x_aload rfl ?_
  refine x_lenG (n := n) (L := n) ar.1 (by decide) ar.2.1 ar.2.2.1 rfl ?_
  refine x_istore ?_
  refine x_fall ?_
  refine x_G_lo (lo' := [(0, x_R r), (1, x_I a1), (2, x_I 0), (3, x_I n)]) ⟨rfl, rfl, rfl, rfl, trivial⟩ ?_
  exact ke_27_b ar a1l a1h k _ 0 σ rfl (by omega) (by omega) C0 (fun _ _ _ => rfl) (fun m hm => absurd hm (by omega))
theorem ke_23 {E : q_E} {σ : x_S} {Q : Option q_V → x_S → Prop} {a0 a1 a2 : Int} (a0l : -2147483648 ≤ a0) (a0h : a0 ≤ 2147483647) (a1l : -2147483648 ≤ a1) (a1h : a1 ≤ 2147483647) (a2l : -2147483648 ≤ a2) (a2h : a2 ≤ 2147483647) (C0 : y_CI σ) (k1 : (0 ≤ a0 ∧ a0 ≤ 1 ∧ 0 ≤ a1 ∧ a1 ≤ 4 ∧ 0 ≤ a2 ∧ a2 < y_pw (y_ch a1)) → Q (some (x_I 1)) σ) (k0 : ¬ (0 ≤ a0 ∧ a0 ≤ 1 ∧ 0 ≤ a1 ∧ a1 ≤ 4 ∧ 0 ≤ a2 ∧ a2 < y_pw (y_ch a1)) → Q (some (x_I 0)) σ) : x_P E 23 [x_I a0, x_I a1, x_I a2] σ Q := by
  refine x_Mt e_23 (h_23 E) (Nat.le_of_ble_eq_true rfl) t_23 rfl ?_
  refine x_blk (b := 0) (a_23 E) rfl ?_
  unfold b_23_0
  refine x_iload rfl ?_
  refine x_push 2 rfl ?_
  refine x_cS (fun _ => rfl) (Nat.le_of_ble_eq_true rfl) ?_
  refine sf_2 (by omega) (by omega) (by omega) (by omega) C0 (fun y1 => ?_) (fun y1 => ?_)
  · skip
    refine x_if_eq (by omega) (by omega) (fun z => absurd z (by omega)) (fun z2 => ?_)
    refine x_iload rfl ?_
    refine x_push 5 rfl ?_
    refine x_cS (fun _ => rfl) (Nat.le_of_ble_eq_true rfl) ?_
    refine sf_2 (by omega) (by omega) (by omega) (by omega) C0 (fun y3 => ?_) (fun y3 => ?_)
    · skip
      refine x_if_eq (by omega) (by omega) (fun z => absurd z (by omega)) (fun z4 => ?_)
      refine x_iload rfl ?_
      refine x_push 1 rfl ?_
      refine x_iload rfl ?_
      refine x_cS (fun _ => rfl) (Nat.le_of_ble_eq_true rfl) ?_
      refine ke_7 (by omega) (by omega) (fun v5 v5a v5b v5c => ?_)
      refine x_shl1 (by omega) (by omega) ?_
      have hwv5 := y_pwx v5
      refine x_cS (fun _ => rfl) (Nat.le_of_ble_eq_true rfl) ?_
      refine sf_2 (by omega) (by omega) (by omega) (by omega) C0 (fun y6 => ?_) (fun y6 => ?_)
      · skip
        refine x_if_eq (by omega) (by omega) (fun z => absurd z (by omega)) (fun z7 => ?_)
        refine x_push 1 rfl ?_
        refine x_goto ?_
        refine x_blk (b := 2) (a_23 E) rfl ?_
        unfold b_23_2
        refine x_zret (by decide) ?_
        have e1 := y_chx a1
        have e2 := y_pwx (y_ch a1)
        exact k1 (by omega)
      · skip
        refine x_if_eq (by omega) (by omega) (fun z8 => ?_) (fun z => absurd (by omega) z)
        refine x_blk (b := 1) (a_23 E) rfl ?_
        unfold b_23_1
        refine x_push 0 rfl ?_
        refine x_fall ?_
        refine x_blk (b := 2) (a_23 E) rfl ?_
        unfold b_23_2
        refine x_zret (by decide) ?_
        have e1 := y_chx a1
        have e2 := y_pwx (y_ch a1)
        exact k0 (by omega)
    · skip
      refine x_if_eq (by omega) (by omega) (fun z9 => ?_) (fun z => absurd (by omega) z)
      refine x_blk (b := 1) (a_23 E) rfl ?_
      unfold b_23_1
      refine x_push 0 rfl ?_
      refine x_fall ?_
      refine x_blk (b := 2) (a_23 E) rfl ?_
      unfold b_23_2
      refine x_zret (by decide) ?_
      have e1 := y_chx a1
      have e2 := y_pwx (y_ch a1)
      exact k0 (by omega)
  · skip
    refine x_if_eq (by omega) (by omega) (fun z10 => ?_) (fun z => absurd (by omega) z)
    refine x_blk (b := 1) (a_23 E) rfl ?_
    unfold b_23_1
    refine x_push 0 rfl ?_
    refine x_fall ?_
    refine x_blk (b := 2) (a_23 E) rfl ?_
    unfold b_23_2
    refine x_zret (by decide) ?_
    have e1 := y_chx a1
    have e2 := y_pwx (y_ch a1)
    exact k0 (by omega)
theorem ke_24_4 {E : q_E} {σ : x_S} {Q : Option q_V → x_S → Prop} {a1 a2 a3 a4 : Int} (h1 : 0 ≤ a1) (h2 : a1 ≤ 1) (h3 : 0 ≤ a2) (h4 : a2 ≤ 4) (h5 : 0 ≤ a3) (h6 : a3 < y_pw (y_ch a2)) (h7 : 0 ≤ a4) (h8 : a4 ≤ 1) (C0 : y_CI σ) (k : ∀ τ, y_CI τ → (∀ q m, ¬ (q = 8 ∧ m = ((a1 * 5 + a2) * 4 + a3).toNat) → τ q m = σ q m) → τ 8 ((a1 * 5 + a2) * 4 + a3).toNat = a4 → Q none τ) : x_P E 24 [x_R 4, x_I a1, x_I a2, x_I a3, x_I a4] σ Q := by
  have hpw := y_pw_b (y_ch a2)
  refine x_Mt e_24 (h_24 E) (Nat.le_of_ble_eq_true rfl) t_24 rfl ?_
  refine x_blk (b := 0) (a_24 E) rfl ?_
  unfold b_24_0
  refine x_iload rfl ?_
  refine x_iload rfl ?_
  refine x_iload rfl ?_
  refine x_cS (fun _ => rfl) (Nat.le_of_ble_eq_true rfl) ?_
  refine ke_23 (by omega) (by omega) (by omega) (by omega) (by omega) (by omega) C0 (fun y1 => ?_) (fun y1 => absurd (by omega) y1)
  refine x_if_eq (by omega) (by omega) (fun z => absurd z (by omega)) (fun z2 => ?_)
  refine x_aload rfl ?_
  refine x_getR (r := 4) rfl (by decide) (by decide) rfl ?_
  refine x_iload rfl ?_
  refine x_push 5 rfl ?_
  refine x_imul ?_
  refine x_iload rfl ?_
  refine x_iadd ?_
  refine x_push 4 rfl ?_
  refine x_imul ?_
  refine x_iload rfl ?_
  refine x_iadd ?_
  refine x_iload rfl ?_
  refine x_astG y_a8 C0 (by decide) (y_fr_rf (lo := 0) (hi := 138)) (by omega) (by omega) (by omega) (by omega) (fun S3 e3 C3 F3 => ?_)
  refine x_fall ?_
  refine x_blk (b := 1) (a_24 E) rfl ?_
  unfold b_24_1
  refine x_vret ?_
  exact k _ C3 (fun q m hq => x_up_ne e3 (fun z => hq z)) (x_up_at e3)
theorem ke_24_11 {E : q_E} {σ : x_S} {Q : Option q_V → x_S → Prop} {a1 a2 a3 a4 : Int} (h1 : 0 ≤ a1) (h2 : a1 ≤ 1) (h3 : 0 ≤ a2) (h4 : a2 ≤ 4) (h5 : 0 ≤ a3) (h6 : a3 < y_pw (y_ch a2)) (h7 : 0 ≤ a4) (h8 : a4 ≤ 1) (C0 : y_CI σ) (k : ∀ τ, y_CI τ → (∀ q m, ¬ (q = 15 ∧ m = ((a1 * 5 + a2) * 4 + a3).toNat) → τ q m = σ q m) → τ 15 ((a1 * 5 + a2) * 4 + a3).toNat = a4 → Q none τ) : x_P E 24 [x_R 11, x_I a1, x_I a2, x_I a3, x_I a4] σ Q := by
  have hpw := y_pw_b (y_ch a2)
  refine x_Mt e_24 (h_24 E) (Nat.le_of_ble_eq_true rfl) t_24 rfl ?_
  refine x_blk (b := 0) (a_24 E) rfl ?_
  unfold b_24_0
  refine x_iload rfl ?_
  refine x_iload rfl ?_
  refine x_iload rfl ?_
  refine x_cS (fun _ => rfl) (Nat.le_of_ble_eq_true rfl) ?_
  refine ke_23 (by omega) (by omega) (by omega) (by omega) (by omega) (by omega) C0 (fun y1 => ?_) (fun y1 => absurd (by omega) y1)
  refine x_if_eq (by omega) (by omega) (fun z => absurd z (by omega)) (fun z2 => ?_)
  refine x_aload rfl ?_
  refine x_getR (r := 11) rfl (by decide) (by decide) rfl ?_
  refine x_iload rfl ?_
  refine x_push 5 rfl ?_
  refine x_imul ?_
  refine x_iload rfl ?_
  refine x_iadd ?_
  refine x_push 4 rfl ?_
  refine x_imul ?_
  refine x_iload rfl ?_
  refine x_iadd ?_
  refine x_iload rfl ?_
  refine x_astG y_a15 C0 (by decide) (y_fr_rf (lo := 0) (hi := 138)) (by omega) (by omega) (by omega) (by omega) (fun S3 e3 C3 F3 => ?_)
  refine x_fall ?_
  refine x_blk (b := 1) (a_24 E) rfl ?_
  unfold b_24_1
  refine x_vret ?_
  exact k _ C3 (fun q m hq => x_up_ne e3 (fun z => hq z)) (x_up_at e3)
theorem ke_21_11_3 {E : q_E} {σ : x_S} {Q : Option q_V → x_S → Prop} {a1 : Int} (h1 : 0 ≤ a1) (h2 : a1 ≤ σ 11 6) (h3 : a1 < 16) (C0 : y_CI σ) (k : ∀ τ, y_CI τ → (∀ q m, ¬ (q = 16 ∧ 12 * a1.toNat ≤ m ∧ m < 12 * a1.toNat + 12) → ¬ (q = 11 ∧ m = 6) → τ q m = σ q m) → (∀ c, c < 12 → τ 16 (12 * a1.toNat + c) = σ 3 c) → τ 11 6 = (if a1 = σ 11 6 then σ 11 6 + 1 else σ 11 6) → Q none τ) : x_P E 21 [x_R 11, x_I a1, x_R 3] σ Q := by
  have c6 : 0 ≤ σ 11 6 ∧ σ 11 6 ≤ 16 := C0 11 6 (by decide) (by decide) (by decide)
  refine x_Mt e_21 (h_21 E) (Nat.le_of_ble_eq_true rfl) t_21 rfl ?_
  refine x_blk (b := 0) (a_21 E) rfl ?_
  unfold b_21_0
  refine x_iload rfl ?_
  refine x_if_lt (by omega) (by omega) (fun z => absurd z (by omega)) (fun z1 => ?_)
  refine x_iload rfl ?_
  refine x_aload rfl ?_
  refine x_getIG y_f11_6 C0 ?_
  intro g2a g2b
  refine x_icmp_gt (by omega) (by omega) (by omega) (by omega) (fun z3 => ?_) (fun z => absurd (by omega) z)
  refine x_iload rfl ?_
  refine x_push 16 rfl ?_
  refine x_icmp_ge (by omega) (by omega) (by omega) (by omega) (fun z4 => ?_) (fun z => absurd (by omega) z)
  refine x_aload rfl ?_
  refine x_lenG (n := 12) (L := 12) rfl (by decide) rfl (by decide) rfl ?_
  refine x_push 12 rfl ?_
  refine x_icmp_ge (by omega) (by omega) (by omega) (by omega) (fun z => absurd z (by omega)) (fun z5 => ?_)
  refine x_blk (b := 2) (a_21 E) rfl ?_
  unfold b_21_2
  refine x_aload rfl ?_
  refine x_push 0 rfl ?_
  refine x_aload rfl ?_
  refine x_getR (r := 11) rfl (by decide) (by decide) rfl ?_
  refine x_iload rfl ?_
  refine x_push 12 rfl ?_
  refine x_imul ?_
  refine x_push 12 rfl ?_
  refine x_copyG y_a3 y_a16 (by decide) (by decide) C0 (by decide) (y_fr_rf (lo := 0) (hi := 138)) (by omega) (by omega) (by omega) (by omega) (by omega) (Nat.le_of_ble_eq_true rfl) (fun S6 e6 C6 F6 => ?_)
  refine x_iload rfl ?_
  refine x_aload rfl ?_
  refine x_getIG y_f11_6 C6 ?_
  have q7_0 : S6 11 6 = σ 11 6 := x_cp_nr e6 (by decide)
  simp only [q7_0]
  intro g7a g7b
  refine x_icmp_ne (by omega) (by omega) (by omega) (by omega) (fun z8 => ?_) (fun z8 => ?_)
  · skip
    refine x_aload rfl ?_
    refine x_dup rfl ?_
    refine x_getIG y_f11_6 C6 ?_
    have q9_0 : S6 11 6 = σ 11 6 := x_cp_nr e6 (by decide)
    simp only [q9_0]
    intro g9a g9b
    refine x_push 1 rfl ?_
    refine x_iadd ?_
    refine x_putIG y_f11_6 ⟨by decide, rfl⟩ (by decide) C6 (by decide) F6 (by omega) (by omega) (fun S10 e10 C10 F10 => ?_)
    refine x_fall ?_
    refine x_blk (b := 3) (a_21 E) rfl ?_
    unfold b_21_3
    refine x_vret ?_
    refine k _ C10 (fun q m h1 h2 => ?_) (fun c hc => ?_) ?_
    · rw [x_up_ne e10 h2]; rw [e6]; exact if_neg (fun z => h1 (by omega))
    · rw [x_up_nr e10 (by decide)]; rw [e6]; unfold x_cp; rw [if_pos ⟨rfl, by omega, by omega⟩]; congr 1; omega
    · rw [if_pos (by omega)]; exact x_up_at e10
  · skip
    refine x_blk (b := 3) (a_21 E) rfl ?_
    unfold b_21_3
    refine x_vret ?_
    refine k _ C6 (fun q m h1 h2 => ?_) (fun c hc => ?_) ?_
    · rw [e6]; exact if_neg (fun z => h1 (by omega))
    · rw [e6]; unfold x_cp; rw [if_pos ⟨rfl, by omega, by omega⟩]; congr 1; omega
    · rw [if_neg (by omega)]; exact x_cp_nr e6 (by decide)
theorem ke_21_4_137 {E : q_E} {σ : x_S} {Q : Option q_V → x_S → Prop} {a1 : Int} (h1 : 0 ≤ a1) (h2 : a1 ≤ σ 4 6) (h3 : a1 < 16) (C0 : y_CI σ) (k : ∀ τ, y_CI τ → (∀ q m, ¬ (q = 9 ∧ 12 * a1.toNat ≤ m ∧ m < 12 * a1.toNat + 12) → ¬ (q = 4 ∧ m = 6) → τ q m = σ q m) → (∀ c, c < 12 → τ 9 (12 * a1.toNat + c) = σ 137 c) → τ 4 6 = (if a1 = σ 4 6 then σ 4 6 + 1 else σ 4 6) → Q none τ) : x_P E 21 [x_R 4, x_I a1, x_R 137] σ Q := by
  have c6 : 0 ≤ σ 4 6 ∧ σ 4 6 ≤ 16 := C0 4 6 (by decide) (by decide) (by decide)
  refine x_Mt e_21 (h_21 E) (Nat.le_of_ble_eq_true rfl) t_21 rfl ?_
  refine x_blk (b := 0) (a_21 E) rfl ?_
  unfold b_21_0
  refine x_iload rfl ?_
  refine x_if_lt (by omega) (by omega) (fun z => absurd z (by omega)) (fun z1 => ?_)
  refine x_iload rfl ?_
  refine x_aload rfl ?_
  refine x_getIG y_f4_6 C0 ?_
  intro g2a g2b
  refine x_icmp_gt (by omega) (by omega) (by omega) (by omega) (fun z3 => ?_) (fun z => absurd (by omega) z)
  refine x_iload rfl ?_
  refine x_push 16 rfl ?_
  refine x_icmp_ge (by omega) (by omega) (by omega) (by omega) (fun z4 => ?_) (fun z => absurd (by omega) z)
  refine x_aload rfl ?_
  refine x_lenG (n := 12) (L := 12) rfl (by decide) rfl (by decide) rfl ?_
  refine x_push 12 rfl ?_
  refine x_icmp_ge (by omega) (by omega) (by omega) (by omega) (fun z => absurd z (by omega)) (fun z5 => ?_)
  refine x_blk (b := 2) (a_21 E) rfl ?_
  unfold b_21_2
  refine x_aload rfl ?_
  refine x_push 0 rfl ?_
  refine x_aload rfl ?_
  refine x_getR (r := 4) rfl (by decide) (by decide) rfl ?_
  refine x_iload rfl ?_
  refine x_push 12 rfl ?_
  refine x_imul ?_
  refine x_push 12 rfl ?_
  refine x_copyG y_a137 y_a9 (by decide) (by decide) C0 (by decide) (y_fr_rf (lo := 0) (hi := 138)) (by omega) (by omega) (by omega) (by omega) (by omega) (Nat.le_of_ble_eq_true rfl) (fun S6 e6 C6 F6 => ?_)
  refine x_iload rfl ?_
  refine x_aload rfl ?_
  refine x_getIG y_f4_6 C6 ?_
  have q7_0 : S6 4 6 = σ 4 6 := x_cp_nr e6 (by decide)
  simp only [q7_0]
  intro g7a g7b
  refine x_icmp_ne (by omega) (by omega) (by omega) (by omega) (fun z8 => ?_) (fun z8 => ?_)
  · skip
    refine x_aload rfl ?_
    refine x_dup rfl ?_
    refine x_getIG y_f4_6 C6 ?_
    have q9_0 : S6 4 6 = σ 4 6 := x_cp_nr e6 (by decide)
    simp only [q9_0]
    intro g9a g9b
    refine x_push 1 rfl ?_
    refine x_iadd ?_
    refine x_putIG y_f4_6 ⟨by decide, rfl⟩ (by decide) C6 (by decide) F6 (by omega) (by omega) (fun S10 e10 C10 F10 => ?_)
    refine x_fall ?_
    refine x_blk (b := 3) (a_21 E) rfl ?_
    unfold b_21_3
    refine x_vret ?_
    refine k _ C10 (fun q m h1 h2 => ?_) (fun c hc => ?_) ?_
    · rw [x_up_ne e10 h2]; rw [e6]; exact if_neg (fun z => h1 (by omega))
    · rw [x_up_nr e10 (by decide)]; rw [e6]; unfold x_cp; rw [if_pos ⟨rfl, by omega, by omega⟩]; congr 1; omega
    · rw [if_pos (by omega)]; exact x_up_at e10
  · skip
    refine x_blk (b := 3) (a_21 E) rfl ?_
    unfold b_21_3
    refine x_vret ?_
    refine k _ C6 (fun q m h1 h2 => ?_) (fun c hc => ?_) ?_
    · rw [e6]; exact if_neg (fun z => h1 (by omega))
    · rw [e6]; unfold x_cp; rw [if_pos ⟨rfl, by omega, by omega⟩]; congr 1; omega
    · rw [if_neg (by omega)]; exact x_cp_nr e6 (by decide)
theorem ke_52_11 {E : q_E} {σ : x_S} {Q : Option q_V → x_S → Prop} (C0 : y_CI σ) (k : ∀ τ, y_CI τ → (∀ q m, (q < 11 ∨ 15 < q ∨ (q = 11 ∧ m ≠ 6)) → τ q m = σ q m) → (∀ m, m < 33 → τ 12 m = 0) → (∀ m, m < 3 → τ 13 m = 1) → (∀ m, m < 2 → τ 14 m = 0) → (∀ m, m < 40 → τ 15 m = 0) → τ 11 6 = 0 → Q none τ) : x_P E 52 [x_R 11] σ Q := by
  refine x_Mt e_52 (h_52 E) (Nat.le_of_ble_eq_true rfl) t_52 rfl ?_
  refine x_blk (b := 0) (a_52 E) rfl ?_
  unfold b_52_0
  refine x_aload rfl ?_
  refine x_getR (r := 11) rfl (by decide) (by decide) rfl ?_
  refine x_push 0 rfl ?_
  refine x_cS (fun _ => rfl) (Nat.le_of_ble_eq_true rfl) ?_
  refine ke_27 y_a12 (by decide) (by decide) C0 (fun S1 C1 f1 w1 => ?_)
  refine x_aload rfl ?_
  refine x_getR (r := 11) rfl (by decide) (by decide) rfl ?_
  refine x_push 1 rfl ?_
  refine x_cS (fun _ => rfl) (Nat.le_of_ble_eq_true rfl) ?_
  refine ke_27 y_a13 (by decide) (by decide) C1 (fun S2 C2 f2 w2 => ?_)
  refine x_aload rfl ?_
  refine x_getR (r := 11) rfl (by decide) (by decide) rfl ?_
  refine x_push 0 rfl ?_
  refine x_cS (fun _ => rfl) (Nat.le_of_ble_eq_true rfl) ?_
  refine ke_27 y_a14 (by decide) (by decide) C2 (fun S3 C3 f3 w3 => ?_)
  refine x_aload rfl ?_
  refine x_getR (r := 11) rfl (by decide) (by decide) rfl ?_
  refine x_push 0 rfl ?_
  refine x_cS (fun _ => rfl) (Nat.le_of_ble_eq_true rfl) ?_
  refine ke_27 y_a15 (by decide) (by decide) C3 (fun S4 C4 f4 w4 => ?_)
  refine x_aload rfl ?_
  refine x_push 0 rfl ?_
  refine x_putIG y_f11_6 ⟨by decide, rfl⟩ (by decide) C4 (by decide) (y_fr_rf (lo := 0) (hi := 138)) (by omega) (by omega) (fun S5 e5 C5 F5 => ?_)
  refine x_vret ?_
  refine k _ C5 (fun q m hq => ?_) (fun m hm => ?_) (fun m hm => ?_) (fun m hm => ?_) (fun m hm => ?_) (x_up_at e5)
  · rw [x_up_ne e5 (by omega), f4 q m (by omega), f3 q m (by omega), f2 q m (by omega), f1 q m (by omega)]
  · rw [x_up_nr e5 (by decide), f4 _ m (by decide), f3 _ m (by decide), f2 _ m (by decide)]; exact w1 m hm
  · rw [x_up_nr e5 (by decide), f4 _ m (by decide), f3 _ m (by decide)]; exact w2 m hm
  · rw [x_up_nr e5 (by decide), f4 _ m (by decide)]; exact w3 m hm
  · rw [x_up_nr e5 (by decide)]; exact w4 m hm
theorem ke_19_1_3 {E : q_E} {σ : x_S} {Q : Option q_V → x_S → Prop} (h4 : σ 1 4 = 0) (C0 : y_CI σ) (kS : ∀ l e, y_iR (y_cx σ) (σ 1 3) = some (l, e) → ∀ τ, y_CI τ → y_sr 3 σ τ → τ 1 3 = e → τ 1 4 = 0 → (∀ c, c < 5 + l.length → τ 3 c = y_rr (y_cx σ) (σ 1 3) l c) → Q none τ) (kF : y_iR (y_cx σ) (σ 1 3) = none → ∀ τ, y_CI τ → y_sr 3 σ τ → τ 1 4 = 1 → Q none τ) : x_P E 19 [x_R 1, x_R 3] σ Q := by
  have c4 : 0 ≤ σ 1 4 ∧ σ 1 4 ≤ 1 := C0 1 4 (by decide) (by decide) (by decide)
  refine x_Mt e_19 (h_19 E) (Nat.le_of_ble_eq_true rfl) t_19 rfl ?_
  refine x_blk (b := 0) (a_19 E) rfl ?_
  unfold b_19_0
  refine x_aload rfl ?_
  refine x_lenG (n := 12) (L := 12) rfl (by decide) rfl (by decide) rfl ?_
  refine x_push 12 rfl ?_
  refine x_icmp_ge (by omega) (by omega) (by omega) (by omega) (fun z => absurd z (by omega)) (fun z1 => ?_)
  refine x_blk (b := 1) (a_19 E) rfl ?_
  unfold b_19_1
  refine x_aload rfl ?_
  refine x_push 0 rfl ?_
  refine x_aload rfl ?_
  refine x_push 2 rfl ?_
  refine x_cV (fun _ => rfl) rfl (by decide) (Nat.le_of_ble_eq_true rfl) ?_
  have Q2 := h4
  refine ke_8_1 (by omega) (by omega) C0 (fun s2 c2 S2 C2 f2 p2 q2 => ?_) (fun n2 S2 C2 f2 p2 q2 => ?_)
  · skip
    have cc2 := c2
    have P2b : S2 1 3 = σ 1 3 + 1 := by omega
    refine x_astG y_a3 C2 (by decide) (y_fr_rf (lo := 0) (hi := 138)) (by omega) (by omega) (by omega) (by omega) (fun S3 e3 C3 F3 => ?_)
    refine x_aload rfl ?_
    refine x_push 1 rfl ?_
    refine x_aload rfl ?_
    refine x_push 3 rfl ?_
    refine x_cV (fun _ => rfl) rfl (by decide) (Nat.le_of_ble_eq_true rfl) ?_
    have G4 : y_sr 3 σ S3 := y_sr_tr (y_sr_tr (y_sr_rf) (y_sr_sc f2)) (y_sr_up e3)
    have X4 : y_cx S3 = y_cx σ := y_sr_x (r := 3) (by decide) G4
    have P4 : S3 1 3 = σ 1 3 + 1 := (x_up_nr e3 (by decide)).trans (P2b)
    have Q4 : S3 1 4 = 0 := (x_up_nr e3 (by decide)).trans (q2)
    refine ke_8_1 (by omega) (by omega) C3 (fun s4 c4 S4 C4 f4 p4 q4 => ?_) (fun n4 S4 C4 f4 p4 q4 => ?_)
    · skip
      have cc4 := c4
      rw [X4, P4] at cc4
      have P4b : S4 1 3 = σ 1 3 + 2 := by omega
      refine x_astG y_a3 C4 (by decide) (y_fr_rf (lo := 0) (hi := 138)) (by omega) (by omega) (by omega) (by omega) (fun S5 e5 C5 F5 => ?_)
      refine x_aload rfl ?_
      refine x_push 2 rfl ?_
      refine x_aload rfl ?_
      refine x_cV (fun _ => rfl) rfl (by decide) (Nat.le_of_ble_eq_true rfl) ?_
      have G6 : y_sr 3 σ S5 := y_sr_tr (y_sr_tr (y_sr_tr (y_sr_tr (y_sr_rf) (y_sr_sc f2)) (y_sr_up e3)) (y_sr_sc f4)) (y_sr_up e5)
      have X6 : y_cx S5 = y_cx σ := y_sr_x (r := 3) (by decide) G6
      have P6 : S5 1 3 = σ 1 3 + 2 := (x_up_nr e5 (by decide)).trans (P4b)
      have Q6 : S5 1 4 = 0 := (x_up_nr e5 (by decide)).trans (q4)
      refine ke_15_1  C5 (fun s6 c6 S6 C6 f6 p6 q6 => ?_) (fun n6 S6 C6 f6 p6 q6 => ?_)
      · skip
        have cc6 := c6
        rw [X6, P6] at cc6
        have P6b : S6 1 3 = σ 1 3 + 3 := by omega
        refine x_astG y_a3 C6 (by decide) (y_fr_rf (lo := 0) (hi := 138)) (by omega) (by omega) (by omega) (by omega) (fun S7 e7 C7 F7 => ?_)
        refine x_aload rfl ?_
        refine x_push 3 rfl ?_
        refine x_aload rfl ?_
        refine x_cV (fun _ => rfl) rfl (by decide) (Nat.le_of_ble_eq_true rfl) ?_
        have G8 : y_sr 3 σ S7 := y_sr_tr (y_sr_tr (y_sr_tr (y_sr_tr (y_sr_tr (y_sr_tr (y_sr_rf) (y_sr_sc f2)) (y_sr_up e3)) (y_sr_sc f4)) (y_sr_up e5)) (y_sr_sc f6)) (y_sr_up e7)
        have X8 : y_cx S7 = y_cx σ := y_sr_x (r := 3) (by decide) G8
        have P8 : S7 1 3 = σ 1 3 + 3 := (x_up_nr e7 (by decide)).trans (P6b)
        have Q8 : S7 1 4 = 0 := (x_up_nr e7 (by decide)).trans (q6)
        refine ke_20_1  C7 (fun s8 c8 S8 C8 f8 p8 q8 => ?_) (fun n8 S8 C8 f8 p8 q8 => ?_)
        · skip
          have cc8 := c8
          rw [X8, P8] at cc8
          have P8b : S8 1 3 = σ 1 3 + 4 := by omega
          have lk8 : 0 ≤ y_lk (y_cx S7 (S7 1 3)) ∧ y_lk (y_cx S7 (S7 1 3)) ≤ 2 := by unfold y_lk; split <;> omega
          refine x_astG y_a3 C8 (by decide) (y_fr_rf (lo := 0) (hi := 138)) (by omega) (by omega) (by omega) (by omega) (fun S9 e9 C9 F9 => ?_)
          refine x_aload rfl ?_
          refine x_push 61 rfl ?_
          refine x_cV (fun _ => rfl) rfl (by decide) (Nat.le_of_ble_eq_true rfl) ?_
          have G10 : y_sr 3 σ S9 := y_sr_tr (y_sr_tr (y_sr_tr (y_sr_tr (y_sr_tr (y_sr_tr (y_sr_tr (y_sr_tr (y_sr_rf) (y_sr_sc f2)) (y_sr_up e3)) (y_sr_sc f4)) (y_sr_up e5)) (y_sr_sc f6)) (y_sr_up e7)) (y_sr_sc f8)) (y_sr_up e9)
          have X10 : y_cx S9 = y_cx σ := y_sr_x (r := 3) (by decide) G10
          have P10 : S9 1 3 = σ 1 3 + 4 := (x_up_nr e9 (by decide)).trans (P8b)
          have Q10 : S9 1 4 = 0 := (x_up_nr e9 (by decide)).trans (q8)
          refine ke_9_1 (by omega) (by omega) C9 (fun s10 c10 S10 C10 f10 p10 q10 => ?_) (fun n10 S10 C10 f10 p10 q10 => ?_)
          · skip
            have cc10 := c10
            rw [X10, P10] at cc10
            have P10b : S10 1 3 = σ 1 3 + 5 := by omega
            refine x_aload rfl ?_
            refine x_push 4 rfl ?_
            refine x_aload rfl ?_
            refine x_aload rfl ?_
            refine x_push 5 rfl ?_
            refine x_push 7 rfl ?_
            refine x_aload rfl ?_
            refine x_push 2 rfl ?_
            have hv : S10 3 2 = y_cx σ (σ 1 3 + 2) - 97 := ((f10 3 2 (fun z => absurd z (by decide))).trans ((x_up_ne e9 (by decide)).trans ((f8 3 2 (fun z => absurd z (by decide))).trans (x_up_at e7)))).trans (by rw [X6, P6])
            refine x_iald (r := 3) (n := 12) (m := 2) rfl rfl (by decide) (fun _ => rfl) rfl (by omega) (by omega) ?_
            rw [hv]
            intro g11a g11b
            refine x_cV (fun _ => rfl) rfl (by decide) (Nat.le_of_ble_eq_true rfl) ?_
            have G12 : y_sr 3 σ S10 := y_sr_tr (y_sr_tr (y_sr_tr (y_sr_tr (y_sr_tr (y_sr_tr (y_sr_tr (y_sr_tr (y_sr_tr (y_sr_rf) (y_sr_sc f2)) (y_sr_up e3)) (y_sr_sc f4)) (y_sr_up e5)) (y_sr_sc f6)) (y_sr_up e7)) (y_sr_sc f8)) (y_sr_up e9)) (y_sr_sc f10)
            have X12 : y_cx S10 = y_cx σ := y_sr_x (r := 3) (by decide) G12
            have P12 : S10 1 3 = σ 1 3 + 5 := P10b
            have Q12 : S10 1 4 = 0 := q10
            refine ke_16_1_3 (by omega) (by omega) (by omega) (by omega) (by omega) (by omega) C10 (fun l12 e12 h12 S12 C12 f12 p12 q12 c12 w12 => ?_) (fun n12 S12 b12 C12 f12 q12 w12 va12 vb12 => ?_)
            · skip
              rw [if_pos Q12, X12, P12] at h12
              have hl12 := y_rw_len h12
              have hl12_b : l12.length ≤ 7 := hl12.2
              refine x_astG y_a3 C12 (by decide) (y_fr_rf (lo := 0) (hi := 138)) (by omega) (by omega) (by omega) (by omega) (fun S13 e13 C13 F13 => ?_)
              refine x_vret ?_
              have hR : y_iR (y_cx σ) (σ 1 3) = some (l12, e12) := by
                unfold y_iR
                rw [if_pos ⟨by omega, by omega, by omega, by omega, by omega, by omega, by omega, by omega⟩]
                exact h12
              refine kS _ _ hR _ C13 (y_sr_tr (y_sr_tr (y_sr_tr (y_sr_tr (y_sr_tr (y_sr_tr (y_sr_tr (y_sr_tr (y_sr_tr (y_sr_tr (y_sr_tr (y_sr_rf) (y_sr_sc f2)) (y_sr_up e3)) (y_sr_sc f4)) (y_sr_up e5)) (y_sr_sc f6)) (y_sr_up e7)) (y_sr_sc f8)) (y_sr_up e9)) (y_sr_sc f10)) f12) (y_sr_up e13)) ((x_up_nr e13 (by decide)).trans p12) ((x_up_nr e13 (by decide)).trans q12) (fun c hc => ?_)
              have cs : c = 0 ∨ c = 1 ∨ c = 2 ∨ c = 3 ∨ c = 4 ∨ 5 ≤ c := by omega
              rcases cs with z | z | z | z | z | z
              · subst z; exact ((x_up_ne e13 (by decide)).trans ((w12 0 (by decide)).trans ((f10 3 0 (fun z => absurd z (by decide))).trans ((x_up_ne e9 (by decide)).trans ((f8 3 0 (fun z => absurd z (by decide))).trans ((x_up_ne e7 (by decide)).trans ((f6 3 0 (fun z => absurd z (by decide))).trans ((x_up_ne e5 (by decide)).trans ((f4 3 0 (fun z => absurd z (by decide))).trans (x_up_at e3)))))))))).trans (by rfl)
              · subst z; exact ((x_up_ne e13 (by decide)).trans ((w12 1 (by decide)).trans ((f10 3 1 (fun z => absurd z (by decide))).trans ((x_up_ne e9 (by decide)).trans ((f8 3 1 (fun z => absurd z (by decide))).trans ((x_up_ne e7 (by decide)).trans ((f6 3 1 (fun z => absurd z (by decide))).trans (x_up_at e5)))))))).trans (by rw [X4, P4]; rfl)
              · subst z; exact ((x_up_ne e13 (by decide)).trans ((w12 2 (by decide)).trans ((f10 3 2 (fun z => absurd z (by decide))).trans ((x_up_ne e9 (by decide)).trans ((f8 3 2 (fun z => absurd z (by decide))).trans (x_up_at e7)))))).trans (by rw [X6, P6]; rfl)
              · subst z; exact ((x_up_ne e13 (by decide)).trans ((w12 3 (by decide)).trans ((f10 3 3 (fun z => absurd z (by decide))).trans (x_up_at e9)))).trans (by rw [X8, P8]; rfl)
              · subst z; exact x_up_at e13
              · obtain ⟨i, hi⟩ : ∃ i, c = 5 + i := ⟨c - 5, by omega⟩
                subst hi
                rw [y_rr_p, x_up_ne e13 (fun z => absurd z.2 (by show ¬ 5 + i = 4; omega))]
                exact c12 i (by omega)
            · skip
              rw [if_pos Q12, X12, P12] at n12
              refine x_astG y_a3 C12 (by decide) (y_fr_rf (lo := 0) (hi := 138)) (by omega) (by omega) (by omega) (by omega) (fun S14 e14 C14 F14 => ?_)
              refine x_vret ?_
              refine kF ?_ _ C14 (y_sr_tr (y_sr_tr (y_sr_tr (y_sr_tr (y_sr_tr (y_sr_tr (y_sr_tr (y_sr_tr (y_sr_tr (y_sr_tr (y_sr_tr (y_sr_rf) (y_sr_sc f2)) (y_sr_up e3)) (y_sr_sc f4)) (y_sr_up e5)) (y_sr_sc f6)) (y_sr_up e7)) (y_sr_sc f8)) (y_sr_up e9)) (y_sr_sc f10)) f12) (y_sr_up e14)) ((x_up_nr e14 (by decide)).trans (q12))
              unfold y_iR
              rw [if_pos ⟨by omega, by omega, by omega, by omega, by omega, by omega, by omega, by omega⟩]
              exact n12
          · skip
            have nn10 : ¬ _ := fun z => n10 ⟨Q10, z⟩
            rw [X10, P10] at nn10
            refine x_aload rfl ?_
            refine x_push 4 rfl ?_
            refine x_aload rfl ?_
            refine x_aload rfl ?_
            refine x_push 5 rfl ?_
            refine x_push 7 rfl ?_
            refine x_aload rfl ?_
            refine x_push 2 rfl ?_
            have hv : S10 3 2 = y_cx σ (σ 1 3 + 2) - 97 := ((f10 3 2 (fun z => absurd z (by decide))).trans ((x_up_ne e9 (by decide)).trans ((f8 3 2 (fun z => absurd z (by decide))).trans (x_up_at e7)))).trans (by rw [X6, P6])
            refine x_iald (r := 3) (n := 12) (m := 2) rfl rfl (by decide) (fun _ => rfl) rfl (by omega) (by omega) ?_
            rw [hv]
            intro g15a g15b
            refine x_cV (fun _ => rfl) rfl (by decide) (Nat.le_of_ble_eq_true rfl) ?_
            have G16 : y_sr 3 σ S10 := y_sr_tr (y_sr_tr (y_sr_tr (y_sr_tr (y_sr_tr (y_sr_tr (y_sr_tr (y_sr_tr (y_sr_tr (y_sr_rf) (y_sr_sc f2)) (y_sr_up e3)) (y_sr_sc f4)) (y_sr_up e5)) (y_sr_sc f6)) (y_sr_up e7)) (y_sr_sc f8)) (y_sr_up e9)) (y_sr_sc f10)
            have X16 : y_cx S10 = y_cx σ := y_sr_x (r := 3) (by decide) G16
            have Q16 : S10 1 4 = 1 := q10
            refine ke_16_1_3 (by omega) (by omega) (by omega) (by omega) (by omega) (by omega) C10 (fun l e z => absurd z (by rw [if_neg (by omega)]; simp)) (fun n16 S16 b16 C16 f16 q16 w16 va16 vb16 => ?_)
            skip
            refine x_astG y_a3 C16 (by decide) (y_fr_rf (lo := 0) (hi := 138)) (by omega) (by omega) (by omega) (by omega) (fun S17 e17 C17 F17 => ?_)
            refine x_vret ?_
            refine kF ?_ _ C17 (y_sr_tr (y_sr_tr (y_sr_tr (y_sr_tr (y_sr_tr (y_sr_tr (y_sr_tr (y_sr_tr (y_sr_tr (y_sr_tr (y_sr_tr (y_sr_rf) (y_sr_sc f2)) (y_sr_up e3)) (y_sr_sc f4)) (y_sr_up e5)) (y_sr_sc f6)) (y_sr_up e7)) (y_sr_sc f8)) (y_sr_up e9)) (y_sr_sc f10)) f16) (y_sr_up e17)) ((x_up_nr e17 (by decide)).trans (q16))
            unfold y_iR
            exact if_neg (fun z => by omega)
        · skip
          have nn8 : ¬ _ := fun z => n8 ⟨Q8, z⟩
          rw [X8, P8] at nn8
          refine x_astG y_a3 C8 (by decide) (y_fr_rf (lo := 0) (hi := 138)) (by omega) (by omega) (by omega) (by omega) (fun S18 e18 C18 F18 => ?_)
          refine x_aload rfl ?_
          refine x_push 61 rfl ?_
          refine x_cV (fun _ => rfl) rfl (by decide) (Nat.le_of_ble_eq_true rfl) ?_
          have G19 : y_sr 3 σ S18 := y_sr_tr (y_sr_tr (y_sr_tr (y_sr_tr (y_sr_tr (y_sr_tr (y_sr_tr (y_sr_tr (y_sr_rf) (y_sr_sc f2)) (y_sr_up e3)) (y_sr_sc f4)) (y_sr_up e5)) (y_sr_sc f6)) (y_sr_up e7)) (y_sr_sc f8)) (y_sr_up e18)
          have X19 : y_cx S18 = y_cx σ := y_sr_x (r := 3) (by decide) G19
          have Q19 : S18 1 4 = 1 := (x_up_nr e18 (by decide)).trans (q8)
          refine ke_9_1 (by omega) (by omega) C18 (fun s19 => absurd s19 (by omega)) (fun n19 S19 C19 f19 p19 q19 => ?_)
          skip
          refine x_aload rfl ?_
          refine x_push 4 rfl ?_
          refine x_aload rfl ?_
          refine x_aload rfl ?_
          refine x_push 5 rfl ?_
          refine x_push 7 rfl ?_
          refine x_aload rfl ?_
          refine x_push 2 rfl ?_
          have hv : S19 3 2 = y_cx σ (σ 1 3 + 2) - 97 := ((f19 3 2 (fun z => absurd z (by decide))).trans ((x_up_ne e18 (by decide)).trans ((f8 3 2 (fun z => absurd z (by decide))).trans (x_up_at e7)))).trans (by rw [X6, P6])
          refine x_iald (r := 3) (n := 12) (m := 2) rfl rfl (by decide) (fun _ => rfl) rfl (by omega) (by omega) ?_
          rw [hv]
          intro g20a g20b
          refine x_cV (fun _ => rfl) rfl (by decide) (Nat.le_of_ble_eq_true rfl) ?_
          have G21 : y_sr 3 σ S19 := y_sr_tr (y_sr_tr (y_sr_tr (y_sr_tr (y_sr_tr (y_sr_tr (y_sr_tr (y_sr_tr (y_sr_tr (y_sr_rf) (y_sr_sc f2)) (y_sr_up e3)) (y_sr_sc f4)) (y_sr_up e5)) (y_sr_sc f6)) (y_sr_up e7)) (y_sr_sc f8)) (y_sr_up e18)) (y_sr_sc f19)
          have X21 : y_cx S19 = y_cx σ := y_sr_x (r := 3) (by decide) G21
          have Q21 : S19 1 4 = 1 := q19
          refine ke_16_1_3 (by omega) (by omega) (by omega) (by omega) (by omega) (by omega) C19 (fun l e z => absurd z (by rw [if_neg (by omega)]; simp)) (fun n21 S21 b21 C21 f21 q21 w21 va21 vb21 => ?_)
          skip
          refine x_astG y_a3 C21 (by decide) (y_fr_rf (lo := 0) (hi := 138)) (by omega) (by omega) (by omega) (by omega) (fun S22 e22 C22 F22 => ?_)
          refine x_vret ?_
          refine kF ?_ _ C22 (y_sr_tr (y_sr_tr (y_sr_tr (y_sr_tr (y_sr_tr (y_sr_tr (y_sr_tr (y_sr_tr (y_sr_tr (y_sr_tr (y_sr_tr (y_sr_rf) (y_sr_sc f2)) (y_sr_up e3)) (y_sr_sc f4)) (y_sr_up e5)) (y_sr_sc f6)) (y_sr_up e7)) (y_sr_sc f8)) (y_sr_up e18)) (y_sr_sc f19)) f21) (y_sr_up e22)) ((x_up_nr e22 (by decide)).trans (q21))
          unfold y_iR
          exact if_neg (fun z => by omega)
      · skip
        have nn6 : ¬ _ := fun z => n6 ⟨Q6, z⟩
        rw [X6, P6] at nn6
        refine x_astG y_a3 C6 (by decide) (y_fr_rf (lo := 0) (hi := 138)) (by omega) (by omega) (by omega) (by omega) (fun S23 e23 C23 F23 => ?_)
        refine x_aload rfl ?_
        refine x_push 3 rfl ?_
        refine x_aload rfl ?_
        refine x_cV (fun _ => rfl) rfl (by decide) (Nat.le_of_ble_eq_true rfl) ?_
        have G24 : y_sr 3 σ S23 := y_sr_tr (y_sr_tr (y_sr_tr (y_sr_tr (y_sr_tr (y_sr_tr (y_sr_rf) (y_sr_sc f2)) (y_sr_up e3)) (y_sr_sc f4)) (y_sr_up e5)) (y_sr_sc f6)) (y_sr_up e23)
        have X24 : y_cx S23 = y_cx σ := y_sr_x (r := 3) (by decide) G24
        have Q24 : S23 1 4 = 1 := (x_up_nr e23 (by decide)).trans (q6)
        refine ke_20_1  C23 (fun s24 => absurd s24 (by omega)) (fun n24 S24 C24 f24 p24 q24 => ?_)
        skip
        refine x_astG y_a3 C24 (by decide) (y_fr_rf (lo := 0) (hi := 138)) (by omega) (by omega) (by omega) (by omega) (fun S25 e25 C25 F25 => ?_)
        refine x_aload rfl ?_
        refine x_push 61 rfl ?_
        refine x_cV (fun _ => rfl) rfl (by decide) (Nat.le_of_ble_eq_true rfl) ?_
        have G26 : y_sr 3 σ S25 := y_sr_tr (y_sr_tr (y_sr_tr (y_sr_tr (y_sr_tr (y_sr_tr (y_sr_tr (y_sr_tr (y_sr_rf) (y_sr_sc f2)) (y_sr_up e3)) (y_sr_sc f4)) (y_sr_up e5)) (y_sr_sc f6)) (y_sr_up e23)) (y_sr_sc f24)) (y_sr_up e25)
        have X26 : y_cx S25 = y_cx σ := y_sr_x (r := 3) (by decide) G26
        have Q26 : S25 1 4 = 1 := (x_up_nr e25 (by decide)).trans (q24)
        refine ke_9_1 (by omega) (by omega) C25 (fun s26 => absurd s26 (by omega)) (fun n26 S26 C26 f26 p26 q26 => ?_)
        skip
        refine x_aload rfl ?_
        refine x_push 4 rfl ?_
        refine x_aload rfl ?_
        refine x_aload rfl ?_
        refine x_push 5 rfl ?_
        refine x_push 7 rfl ?_
        refine x_aload rfl ?_
        refine x_push 2 rfl ?_
        have hv : S26 3 2 = 0 := ((f26 3 2 (fun z => absurd z (by decide))).trans ((x_up_ne e25 (by decide)).trans ((f24 3 2 (fun z => absurd z (by decide))).trans (x_up_at e23)))).trans (by rfl)
        refine x_iald (r := 3) (n := 12) (m := 2) rfl rfl (by decide) (fun _ => rfl) rfl (by omega) (by omega) ?_
        rw [hv]
        intro g27a g27b
        refine x_cV (fun _ => rfl) rfl (by decide) (Nat.le_of_ble_eq_true rfl) ?_
        have G28 : y_sr 3 σ S26 := y_sr_tr (y_sr_tr (y_sr_tr (y_sr_tr (y_sr_tr (y_sr_tr (y_sr_tr (y_sr_tr (y_sr_tr (y_sr_rf) (y_sr_sc f2)) (y_sr_up e3)) (y_sr_sc f4)) (y_sr_up e5)) (y_sr_sc f6)) (y_sr_up e23)) (y_sr_sc f24)) (y_sr_up e25)) (y_sr_sc f26)
        have X28 : y_cx S26 = y_cx σ := y_sr_x (r := 3) (by decide) G28
        have Q28 : S26 1 4 = 1 := q26
        refine ke_16_1_3 (by omega) (by omega) (by omega) (by omega) (by omega) (by omega) C26 (fun l e z => absurd z (by rw [if_neg (by omega)]; simp)) (fun n28 S28 b28 C28 f28 q28 w28 va28 vb28 => ?_)
        skip
        refine x_astG y_a3 C28 (by decide) (y_fr_rf (lo := 0) (hi := 138)) (by omega) (by omega) (by omega) (by omega) (fun S29 e29 C29 F29 => ?_)
        refine x_vret ?_
        refine kF ?_ _ C29 (y_sr_tr (y_sr_tr (y_sr_tr (y_sr_tr (y_sr_tr (y_sr_tr (y_sr_tr (y_sr_tr (y_sr_tr (y_sr_tr (y_sr_tr (y_sr_rf) (y_sr_sc f2)) (y_sr_up e3)) (y_sr_sc f4)) (y_sr_up e5)) (y_sr_sc f6)) (y_sr_up e23)) (y_sr_sc f24)) (y_sr_up e25)) (y_sr_sc f26)) f28) (y_sr_up e29)) ((x_up_nr e29 (by decide)).trans (q28))
        unfold y_iR
        exact if_neg (fun z => by omega)
    · skip
      have nn4 : ¬ _ := fun z => n4 ⟨Q4, z⟩
      rw [X4, P4] at nn4
      refine x_astG y_a3 C4 (by decide) (y_fr_rf (lo := 0) (hi := 138)) (by omega) (by omega) (by omega) (by omega) (fun S30 e30 C30 F30 => ?_)
      refine x_aload rfl ?_
      refine x_push 2 rfl ?_
      refine x_aload rfl ?_
      refine x_cV (fun _ => rfl) rfl (by decide) (Nat.le_of_ble_eq_true rfl) ?_
      have G31 : y_sr 3 σ S30 := y_sr_tr (y_sr_tr (y_sr_tr (y_sr_tr (y_sr_rf) (y_sr_sc f2)) (y_sr_up e3)) (y_sr_sc f4)) (y_sr_up e30)
      have X31 : y_cx S30 = y_cx σ := y_sr_x (r := 3) (by decide) G31
      have Q31 : S30 1 4 = 1 := (x_up_nr e30 (by decide)).trans (q4)
      refine ke_15_1  C30 (fun s31 => absurd s31 (by omega)) (fun n31 S31 C31 f31 p31 q31 => ?_)
      skip
      refine x_astG y_a3 C31 (by decide) (y_fr_rf (lo := 0) (hi := 138)) (by omega) (by omega) (by omega) (by omega) (fun S32 e32 C32 F32 => ?_)
      refine x_aload rfl ?_
      refine x_push 3 rfl ?_
      refine x_aload rfl ?_
      refine x_cV (fun _ => rfl) rfl (by decide) (Nat.le_of_ble_eq_true rfl) ?_
      have G33 : y_sr 3 σ S32 := y_sr_tr (y_sr_tr (y_sr_tr (y_sr_tr (y_sr_tr (y_sr_tr (y_sr_rf) (y_sr_sc f2)) (y_sr_up e3)) (y_sr_sc f4)) (y_sr_up e30)) (y_sr_sc f31)) (y_sr_up e32)
      have X33 : y_cx S32 = y_cx σ := y_sr_x (r := 3) (by decide) G33
      have Q33 : S32 1 4 = 1 := (x_up_nr e32 (by decide)).trans (q31)
      refine ke_20_1  C32 (fun s33 => absurd s33 (by omega)) (fun n33 S33 C33 f33 p33 q33 => ?_)
      skip
      refine x_astG y_a3 C33 (by decide) (y_fr_rf (lo := 0) (hi := 138)) (by omega) (by omega) (by omega) (by omega) (fun S34 e34 C34 F34 => ?_)
      refine x_aload rfl ?_
      refine x_push 61 rfl ?_
      refine x_cV (fun _ => rfl) rfl (by decide) (Nat.le_of_ble_eq_true rfl) ?_
      have G35 : y_sr 3 σ S34 := y_sr_tr (y_sr_tr (y_sr_tr (y_sr_tr (y_sr_tr (y_sr_tr (y_sr_tr (y_sr_tr (y_sr_rf) (y_sr_sc f2)) (y_sr_up e3)) (y_sr_sc f4)) (y_sr_up e30)) (y_sr_sc f31)) (y_sr_up e32)) (y_sr_sc f33)) (y_sr_up e34)
      have X35 : y_cx S34 = y_cx σ := y_sr_x (r := 3) (by decide) G35
      have Q35 : S34 1 4 = 1 := (x_up_nr e34 (by decide)).trans (q33)
      refine ke_9_1 (by omega) (by omega) C34 (fun s35 => absurd s35 (by omega)) (fun n35 S35 C35 f35 p35 q35 => ?_)
      skip
      refine x_aload rfl ?_
      refine x_push 4 rfl ?_
      refine x_aload rfl ?_
      refine x_aload rfl ?_
      refine x_push 5 rfl ?_
      refine x_push 7 rfl ?_
      refine x_aload rfl ?_
      refine x_push 2 rfl ?_
      have hv : S35 3 2 = 0 := ((f35 3 2 (fun z => absurd z (by decide))).trans ((x_up_ne e34 (by decide)).trans ((f33 3 2 (fun z => absurd z (by decide))).trans (x_up_at e32)))).trans (by rfl)
      refine x_iald (r := 3) (n := 12) (m := 2) rfl rfl (by decide) (fun _ => rfl) rfl (by omega) (by omega) ?_
      rw [hv]
      intro g36a g36b
      refine x_cV (fun _ => rfl) rfl (by decide) (Nat.le_of_ble_eq_true rfl) ?_
      have G37 : y_sr 3 σ S35 := y_sr_tr (y_sr_tr (y_sr_tr (y_sr_tr (y_sr_tr (y_sr_tr (y_sr_tr (y_sr_tr (y_sr_tr (y_sr_rf) (y_sr_sc f2)) (y_sr_up e3)) (y_sr_sc f4)) (y_sr_up e30)) (y_sr_sc f31)) (y_sr_up e32)) (y_sr_sc f33)) (y_sr_up e34)) (y_sr_sc f35)
      have X37 : y_cx S35 = y_cx σ := y_sr_x (r := 3) (by decide) G37
      have Q37 : S35 1 4 = 1 := q35
      refine ke_16_1_3 (by omega) (by omega) (by omega) (by omega) (by omega) (by omega) C35 (fun l e z => absurd z (by rw [if_neg (by omega)]; simp)) (fun n37 S37 b37 C37 f37 q37 w37 va37 vb37 => ?_)
      skip
      refine x_astG y_a3 C37 (by decide) (y_fr_rf (lo := 0) (hi := 138)) (by omega) (by omega) (by omega) (by omega) (fun S38 e38 C38 F38 => ?_)
      refine x_vret ?_
      refine kF ?_ _ C38 (y_sr_tr (y_sr_tr (y_sr_tr (y_sr_tr (y_sr_tr (y_sr_tr (y_sr_tr (y_sr_tr (y_sr_tr (y_sr_tr (y_sr_tr (y_sr_rf) (y_sr_sc f2)) (y_sr_up e3)) (y_sr_sc f4)) (y_sr_up e30)) (y_sr_sc f31)) (y_sr_up e32)) (y_sr_sc f33)) (y_sr_up e34)) (y_sr_sc f35)) f37) (y_sr_up e38)) ((x_up_nr e38 (by decide)).trans (q37))
      unfold y_iR
      exact if_neg (fun z => by omega)
  · skip
    have nn2 : ¬ _ := fun z => n2 ⟨Q2, z⟩
    refine x_astG y_a3 C2 (by decide) (y_fr_rf (lo := 0) (hi := 138)) (by omega) (by omega) (by omega) (by omega) (fun S39 e39 C39 F39 => ?_)
    refine x_aload rfl ?_
    refine x_push 1 rfl ?_
    refine x_aload rfl ?_
    refine x_push 3 rfl ?_
    refine x_cV (fun _ => rfl) rfl (by decide) (Nat.le_of_ble_eq_true rfl) ?_
    have G40 : y_sr 3 σ S39 := y_sr_tr (y_sr_tr (y_sr_rf) (y_sr_sc f2)) (y_sr_up e39)
    have X40 : y_cx S39 = y_cx σ := y_sr_x (r := 3) (by decide) G40
    have Q40 : S39 1 4 = 1 := (x_up_nr e39 (by decide)).trans (q2)
    refine ke_8_1 (by omega) (by omega) C39 (fun s40 => absurd s40 (by omega)) (fun n40 S40 C40 f40 p40 q40 => ?_)
    skip
    refine x_astG y_a3 C40 (by decide) (y_fr_rf (lo := 0) (hi := 138)) (by omega) (by omega) (by omega) (by omega) (fun S41 e41 C41 F41 => ?_)
    refine x_aload rfl ?_
    refine x_push 2 rfl ?_
    refine x_aload rfl ?_
    refine x_cV (fun _ => rfl) rfl (by decide) (Nat.le_of_ble_eq_true rfl) ?_
    have G42 : y_sr 3 σ S41 := y_sr_tr (y_sr_tr (y_sr_tr (y_sr_tr (y_sr_rf) (y_sr_sc f2)) (y_sr_up e39)) (y_sr_sc f40)) (y_sr_up e41)
    have X42 : y_cx S41 = y_cx σ := y_sr_x (r := 3) (by decide) G42
    have Q42 : S41 1 4 = 1 := (x_up_nr e41 (by decide)).trans (q40)
    refine ke_15_1  C41 (fun s42 => absurd s42 (by omega)) (fun n42 S42 C42 f42 p42 q42 => ?_)
    skip
    refine x_astG y_a3 C42 (by decide) (y_fr_rf (lo := 0) (hi := 138)) (by omega) (by omega) (by omega) (by omega) (fun S43 e43 C43 F43 => ?_)
    refine x_aload rfl ?_
    refine x_push 3 rfl ?_
    refine x_aload rfl ?_
    refine x_cV (fun _ => rfl) rfl (by decide) (Nat.le_of_ble_eq_true rfl) ?_
    have G44 : y_sr 3 σ S43 := y_sr_tr (y_sr_tr (y_sr_tr (y_sr_tr (y_sr_tr (y_sr_tr (y_sr_rf) (y_sr_sc f2)) (y_sr_up e39)) (y_sr_sc f40)) (y_sr_up e41)) (y_sr_sc f42)) (y_sr_up e43)
    have X44 : y_cx S43 = y_cx σ := y_sr_x (r := 3) (by decide) G44
    have Q44 : S43 1 4 = 1 := (x_up_nr e43 (by decide)).trans (q42)
    refine ke_20_1  C43 (fun s44 => absurd s44 (by omega)) (fun n44 S44 C44 f44 p44 q44 => ?_)
    skip
    refine x_astG y_a3 C44 (by decide) (y_fr_rf (lo := 0) (hi := 138)) (by omega) (by omega) (by omega) (by omega) (fun S45 e45 C45 F45 => ?_)
    refine x_aload rfl ?_
    refine x_push 61 rfl ?_
    refine x_cV (fun _ => rfl) rfl (by decide) (Nat.le_of_ble_eq_true rfl) ?_
    have G46 : y_sr 3 σ S45 := y_sr_tr (y_sr_tr (y_sr_tr (y_sr_tr (y_sr_tr (y_sr_tr (y_sr_tr (y_sr_tr (y_sr_rf) (y_sr_sc f2)) (y_sr_up e39)) (y_sr_sc f40)) (y_sr_up e41)) (y_sr_sc f42)) (y_sr_up e43)) (y_sr_sc f44)) (y_sr_up e45)
    have X46 : y_cx S45 = y_cx σ := y_sr_x (r := 3) (by decide) G46
    have Q46 : S45 1 4 = 1 := (x_up_nr e45 (by decide)).trans (q44)
    refine ke_9_1 (by omega) (by omega) C45 (fun s46 => absurd s46 (by omega)) (fun n46 S46 C46 f46 p46 q46 => ?_)
    skip
    refine x_aload rfl ?_
    refine x_push 4 rfl ?_
    refine x_aload rfl ?_
    refine x_aload rfl ?_
    refine x_push 5 rfl ?_
    refine x_push 7 rfl ?_
    refine x_aload rfl ?_
    refine x_push 2 rfl ?_
    have hv : S46 3 2 = 0 := ((f46 3 2 (fun z => absurd z (by decide))).trans ((x_up_ne e45 (by decide)).trans ((f44 3 2 (fun z => absurd z (by decide))).trans (x_up_at e43)))).trans (by rfl)
    refine x_iald (r := 3) (n := 12) (m := 2) rfl rfl (by decide) (fun _ => rfl) rfl (by omega) (by omega) ?_
    rw [hv]
    intro g47a g47b
    refine x_cV (fun _ => rfl) rfl (by decide) (Nat.le_of_ble_eq_true rfl) ?_
    have G48 : y_sr 3 σ S46 := y_sr_tr (y_sr_tr (y_sr_tr (y_sr_tr (y_sr_tr (y_sr_tr (y_sr_tr (y_sr_tr (y_sr_tr (y_sr_rf) (y_sr_sc f2)) (y_sr_up e39)) (y_sr_sc f40)) (y_sr_up e41)) (y_sr_sc f42)) (y_sr_up e43)) (y_sr_sc f44)) (y_sr_up e45)) (y_sr_sc f46)
    have X48 : y_cx S46 = y_cx σ := y_sr_x (r := 3) (by decide) G48
    have Q48 : S46 1 4 = 1 := q46
    refine ke_16_1_3 (by omega) (by omega) (by omega) (by omega) (by omega) (by omega) C46 (fun l e z => absurd z (by rw [if_neg (by omega)]; simp)) (fun n48 S48 b48 C48 f48 q48 w48 va48 vb48 => ?_)
    skip
    refine x_astG y_a3 C48 (by decide) (y_fr_rf (lo := 0) (hi := 138)) (by omega) (by omega) (by omega) (by omega) (fun S49 e49 C49 F49 => ?_)
    refine x_vret ?_
    refine kF ?_ _ C49 (y_sr_tr (y_sr_tr (y_sr_tr (y_sr_tr (y_sr_tr (y_sr_tr (y_sr_tr (y_sr_tr (y_sr_tr (y_sr_tr (y_sr_tr (y_sr_rf) (y_sr_sc f2)) (y_sr_up e39)) (y_sr_sc f40)) (y_sr_up e41)) (y_sr_sc f42)) (y_sr_up e43)) (y_sr_sc f44)) (y_sr_up e45)) (y_sr_sc f46)) f48) (y_sr_up e49)) ((x_up_nr e49 (by decide)).trans (q48))
    unfold y_iR
    exact if_neg (fun z => by omega)
theorem ke_19_1_137 {E : q_E} {σ : x_S} {Q : Option q_V → x_S → Prop} (h4 : σ 1 4 = 0) (C0 : y_CI σ) (kS : ∀ l e, y_iR (y_cx σ) (σ 1 3) = some (l, e) → ∀ τ, y_CI τ → y_sr 137 σ τ → τ 1 3 = e → τ 1 4 = 0 → (∀ c, c < 5 + l.length → τ 137 c = y_rr (y_cx σ) (σ 1 3) l c) → Q none τ) (kF : y_iR (y_cx σ) (σ 1 3) = none → ∀ τ, y_CI τ → y_sr 137 σ τ → τ 1 4 = 1 → Q none τ) : x_P E 19 [x_R 1, x_R 137] σ Q := by
  have c4 : 0 ≤ σ 1 4 ∧ σ 1 4 ≤ 1 := C0 1 4 (by decide) (by decide) (by decide)
  refine x_Mt e_19 (h_19 E) (Nat.le_of_ble_eq_true rfl) t_19 rfl ?_
  refine x_blk (b := 0) (a_19 E) rfl ?_
  unfold b_19_0
  refine x_aload rfl ?_
  refine x_lenG (n := 12) (L := 12) rfl (by decide) rfl (by decide) rfl ?_
  refine x_push 12 rfl ?_
  refine x_icmp_ge (by omega) (by omega) (by omega) (by omega) (fun z => absurd z (by omega)) (fun z1 => ?_)
  refine x_blk (b := 1) (a_19 E) rfl ?_
  unfold b_19_1
  refine x_aload rfl ?_
  refine x_push 0 rfl ?_
  refine x_aload rfl ?_
  refine x_push 2 rfl ?_
  refine x_cV (fun _ => rfl) rfl (by decide) (Nat.le_of_ble_eq_true rfl) ?_
  have Q2 := h4
  refine ke_8_1 (by omega) (by omega) C0 (fun s2 c2 S2 C2 f2 p2 q2 => ?_) (fun n2 S2 C2 f2 p2 q2 => ?_)
  · skip
    have cc2 := c2
    have P2b : S2 1 3 = σ 1 3 + 1 := by omega
    refine x_astG y_a137 C2 (by decide) (y_fr_rf (lo := 0) (hi := 138)) (by omega) (by omega) (by omega) (by omega) (fun S3 e3 C3 F3 => ?_)
    refine x_aload rfl ?_
    refine x_push 1 rfl ?_
    refine x_aload rfl ?_
    refine x_push 3 rfl ?_
    refine x_cV (fun _ => rfl) rfl (by decide) (Nat.le_of_ble_eq_true rfl) ?_
    have G4 : y_sr 137 σ S3 := y_sr_tr (y_sr_tr (y_sr_rf) (y_sr_sc f2)) (y_sr_up e3)
    have X4 : y_cx S3 = y_cx σ := y_sr_x (r := 137) (by decide) G4
    have P4 : S3 1 3 = σ 1 3 + 1 := (x_up_nr e3 (by decide)).trans (P2b)
    have Q4 : S3 1 4 = 0 := (x_up_nr e3 (by decide)).trans (q2)
    refine ke_8_1 (by omega) (by omega) C3 (fun s4 c4 S4 C4 f4 p4 q4 => ?_) (fun n4 S4 C4 f4 p4 q4 => ?_)
    · skip
      have cc4 := c4
      rw [X4, P4] at cc4
      have P4b : S4 1 3 = σ 1 3 + 2 := by omega
      refine x_astG y_a137 C4 (by decide) (y_fr_rf (lo := 0) (hi := 138)) (by omega) (by omega) (by omega) (by omega) (fun S5 e5 C5 F5 => ?_)
      refine x_aload rfl ?_
      refine x_push 2 rfl ?_
      refine x_aload rfl ?_
      refine x_cV (fun _ => rfl) rfl (by decide) (Nat.le_of_ble_eq_true rfl) ?_
      have G6 : y_sr 137 σ S5 := y_sr_tr (y_sr_tr (y_sr_tr (y_sr_tr (y_sr_rf) (y_sr_sc f2)) (y_sr_up e3)) (y_sr_sc f4)) (y_sr_up e5)
      have X6 : y_cx S5 = y_cx σ := y_sr_x (r := 137) (by decide) G6
      have P6 : S5 1 3 = σ 1 3 + 2 := (x_up_nr e5 (by decide)).trans (P4b)
      have Q6 : S5 1 4 = 0 := (x_up_nr e5 (by decide)).trans (q4)
      refine ke_15_1  C5 (fun s6 c6 S6 C6 f6 p6 q6 => ?_) (fun n6 S6 C6 f6 p6 q6 => ?_)
      · skip
        have cc6 := c6
        rw [X6, P6] at cc6
        have P6b : S6 1 3 = σ 1 3 + 3 := by omega
        refine x_astG y_a137 C6 (by decide) (y_fr_rf (lo := 0) (hi := 138)) (by omega) (by omega) (by omega) (by omega) (fun S7 e7 C7 F7 => ?_)
        refine x_aload rfl ?_
        refine x_push 3 rfl ?_
        refine x_aload rfl ?_
        refine x_cV (fun _ => rfl) rfl (by decide) (Nat.le_of_ble_eq_true rfl) ?_
        have G8 : y_sr 137 σ S7 := y_sr_tr (y_sr_tr (y_sr_tr (y_sr_tr (y_sr_tr (y_sr_tr (y_sr_rf) (y_sr_sc f2)) (y_sr_up e3)) (y_sr_sc f4)) (y_sr_up e5)) (y_sr_sc f6)) (y_sr_up e7)
        have X8 : y_cx S7 = y_cx σ := y_sr_x (r := 137) (by decide) G8
        have P8 : S7 1 3 = σ 1 3 + 3 := (x_up_nr e7 (by decide)).trans (P6b)
        have Q8 : S7 1 4 = 0 := (x_up_nr e7 (by decide)).trans (q6)
        refine ke_20_1  C7 (fun s8 c8 S8 C8 f8 p8 q8 => ?_) (fun n8 S8 C8 f8 p8 q8 => ?_)
        · skip
          have cc8 := c8
          rw [X8, P8] at cc8
          have P8b : S8 1 3 = σ 1 3 + 4 := by omega
          have lk8 : 0 ≤ y_lk (y_cx S7 (S7 1 3)) ∧ y_lk (y_cx S7 (S7 1 3)) ≤ 2 := by unfold y_lk; split <;> omega
          refine x_astG y_a137 C8 (by decide) (y_fr_rf (lo := 0) (hi := 138)) (by omega) (by omega) (by omega) (by omega) (fun S9 e9 C9 F9 => ?_)
          refine x_aload rfl ?_
          refine x_push 61 rfl ?_
          refine x_cV (fun _ => rfl) rfl (by decide) (Nat.le_of_ble_eq_true rfl) ?_
          have G10 : y_sr 137 σ S9 := y_sr_tr (y_sr_tr (y_sr_tr (y_sr_tr (y_sr_tr (y_sr_tr (y_sr_tr (y_sr_tr (y_sr_rf) (y_sr_sc f2)) (y_sr_up e3)) (y_sr_sc f4)) (y_sr_up e5)) (y_sr_sc f6)) (y_sr_up e7)) (y_sr_sc f8)) (y_sr_up e9)
          have X10 : y_cx S9 = y_cx σ := y_sr_x (r := 137) (by decide) G10
          have P10 : S9 1 3 = σ 1 3 + 4 := (x_up_nr e9 (by decide)).trans (P8b)
          have Q10 : S9 1 4 = 0 := (x_up_nr e9 (by decide)).trans (q8)
          refine ke_9_1 (by omega) (by omega) C9 (fun s10 c10 S10 C10 f10 p10 q10 => ?_) (fun n10 S10 C10 f10 p10 q10 => ?_)
          · skip
            have cc10 := c10
            rw [X10, P10] at cc10
            have P10b : S10 1 3 = σ 1 3 + 5 := by omega
            refine x_aload rfl ?_
            refine x_push 4 rfl ?_
            refine x_aload rfl ?_
            refine x_aload rfl ?_
            refine x_push 5 rfl ?_
            refine x_push 7 rfl ?_
            refine x_aload rfl ?_
            refine x_push 2 rfl ?_
            have hv : S10 137 2 = y_cx σ (σ 1 3 + 2) - 97 := ((f10 137 2 (fun z => absurd z (by decide))).trans ((x_up_ne e9 (by decide)).trans ((f8 137 2 (fun z => absurd z (by decide))).trans (x_up_at e7)))).trans (by rw [X6, P6])
            refine x_iald (r := 137) (n := 12) (m := 2) rfl rfl (by decide) (fun _ => rfl) rfl (by omega) (by omega) ?_
            rw [hv]
            intro g11a g11b
            refine x_cV (fun _ => rfl) rfl (by decide) (Nat.le_of_ble_eq_true rfl) ?_
            have G12 : y_sr 137 σ S10 := y_sr_tr (y_sr_tr (y_sr_tr (y_sr_tr (y_sr_tr (y_sr_tr (y_sr_tr (y_sr_tr (y_sr_tr (y_sr_rf) (y_sr_sc f2)) (y_sr_up e3)) (y_sr_sc f4)) (y_sr_up e5)) (y_sr_sc f6)) (y_sr_up e7)) (y_sr_sc f8)) (y_sr_up e9)) (y_sr_sc f10)
            have X12 : y_cx S10 = y_cx σ := y_sr_x (r := 137) (by decide) G12
            have P12 : S10 1 3 = σ 1 3 + 5 := P10b
            have Q12 : S10 1 4 = 0 := q10
            refine ke_16_1_137 (by omega) (by omega) (by omega) (by omega) (by omega) (by omega) C10 (fun l12 e12 h12 S12 C12 f12 p12 q12 c12 w12 => ?_) (fun n12 S12 b12 C12 f12 q12 w12 va12 vb12 => ?_)
            · skip
              rw [if_pos Q12, X12, P12] at h12
              have hl12 := y_rw_len h12
              have hl12_b : l12.length ≤ 7 := hl12.2
              refine x_astG y_a137 C12 (by decide) (y_fr_rf (lo := 0) (hi := 138)) (by omega) (by omega) (by omega) (by omega) (fun S13 e13 C13 F13 => ?_)
              refine x_vret ?_
              have hR : y_iR (y_cx σ) (σ 1 3) = some (l12, e12) := by
                unfold y_iR
                rw [if_pos ⟨by omega, by omega, by omega, by omega, by omega, by omega, by omega, by omega⟩]
                exact h12
              refine kS _ _ hR _ C13 (y_sr_tr (y_sr_tr (y_sr_tr (y_sr_tr (y_sr_tr (y_sr_tr (y_sr_tr (y_sr_tr (y_sr_tr (y_sr_tr (y_sr_tr (y_sr_rf) (y_sr_sc f2)) (y_sr_up e3)) (y_sr_sc f4)) (y_sr_up e5)) (y_sr_sc f6)) (y_sr_up e7)) (y_sr_sc f8)) (y_sr_up e9)) (y_sr_sc f10)) f12) (y_sr_up e13)) ((x_up_nr e13 (by decide)).trans p12) ((x_up_nr e13 (by decide)).trans q12) (fun c hc => ?_)
              have cs : c = 0 ∨ c = 1 ∨ c = 2 ∨ c = 3 ∨ c = 4 ∨ 5 ≤ c := by omega
              rcases cs with z | z | z | z | z | z
              · subst z; exact ((x_up_ne e13 (by decide)).trans ((w12 0 (by decide)).trans ((f10 137 0 (fun z => absurd z (by decide))).trans ((x_up_ne e9 (by decide)).trans ((f8 137 0 (fun z => absurd z (by decide))).trans ((x_up_ne e7 (by decide)).trans ((f6 137 0 (fun z => absurd z (by decide))).trans ((x_up_ne e5 (by decide)).trans ((f4 137 0 (fun z => absurd z (by decide))).trans (x_up_at e3)))))))))).trans (by rfl)
              · subst z; exact ((x_up_ne e13 (by decide)).trans ((w12 1 (by decide)).trans ((f10 137 1 (fun z => absurd z (by decide))).trans ((x_up_ne e9 (by decide)).trans ((f8 137 1 (fun z => absurd z (by decide))).trans ((x_up_ne e7 (by decide)).trans ((f6 137 1 (fun z => absurd z (by decide))).trans (x_up_at e5)))))))).trans (by rw [X4, P4]; rfl)
              · subst z; exact ((x_up_ne e13 (by decide)).trans ((w12 2 (by decide)).trans ((f10 137 2 (fun z => absurd z (by decide))).trans ((x_up_ne e9 (by decide)).trans ((f8 137 2 (fun z => absurd z (by decide))).trans (x_up_at e7)))))).trans (by rw [X6, P6]; rfl)
              · subst z; exact ((x_up_ne e13 (by decide)).trans ((w12 3 (by decide)).trans ((f10 137 3 (fun z => absurd z (by decide))).trans (x_up_at e9)))).trans (by rw [X8, P8]; rfl)
              · subst z; exact x_up_at e13
              · obtain ⟨i, hi⟩ : ∃ i, c = 5 + i := ⟨c - 5, by omega⟩
                subst hi
                rw [y_rr_p, x_up_ne e13 (fun z => absurd z.2 (by show ¬ 5 + i = 4; omega))]
                exact c12 i (by omega)
            · skip
              rw [if_pos Q12, X12, P12] at n12
              refine x_astG y_a137 C12 (by decide) (y_fr_rf (lo := 0) (hi := 138)) (by omega) (by omega) (by omega) (by omega) (fun S14 e14 C14 F14 => ?_)
              refine x_vret ?_
              refine kF ?_ _ C14 (y_sr_tr (y_sr_tr (y_sr_tr (y_sr_tr (y_sr_tr (y_sr_tr (y_sr_tr (y_sr_tr (y_sr_tr (y_sr_tr (y_sr_tr (y_sr_rf) (y_sr_sc f2)) (y_sr_up e3)) (y_sr_sc f4)) (y_sr_up e5)) (y_sr_sc f6)) (y_sr_up e7)) (y_sr_sc f8)) (y_sr_up e9)) (y_sr_sc f10)) f12) (y_sr_up e14)) ((x_up_nr e14 (by decide)).trans (q12))
              unfold y_iR
              rw [if_pos ⟨by omega, by omega, by omega, by omega, by omega, by omega, by omega, by omega⟩]
              exact n12
          · skip
            have nn10 : ¬ _ := fun z => n10 ⟨Q10, z⟩
            rw [X10, P10] at nn10
            refine x_aload rfl ?_
            refine x_push 4 rfl ?_
            refine x_aload rfl ?_
            refine x_aload rfl ?_
            refine x_push 5 rfl ?_
            refine x_push 7 rfl ?_
            refine x_aload rfl ?_
            refine x_push 2 rfl ?_
            have hv : S10 137 2 = y_cx σ (σ 1 3 + 2) - 97 := ((f10 137 2 (fun z => absurd z (by decide))).trans ((x_up_ne e9 (by decide)).trans ((f8 137 2 (fun z => absurd z (by decide))).trans (x_up_at e7)))).trans (by rw [X6, P6])
            refine x_iald (r := 137) (n := 12) (m := 2) rfl rfl (by decide) (fun _ => rfl) rfl (by omega) (by omega) ?_
            rw [hv]
            intro g15a g15b
            refine x_cV (fun _ => rfl) rfl (by decide) (Nat.le_of_ble_eq_true rfl) ?_
            have G16 : y_sr 137 σ S10 := y_sr_tr (y_sr_tr (y_sr_tr (y_sr_tr (y_sr_tr (y_sr_tr (y_sr_tr (y_sr_tr (y_sr_tr (y_sr_rf) (y_sr_sc f2)) (y_sr_up e3)) (y_sr_sc f4)) (y_sr_up e5)) (y_sr_sc f6)) (y_sr_up e7)) (y_sr_sc f8)) (y_sr_up e9)) (y_sr_sc f10)
            have X16 : y_cx S10 = y_cx σ := y_sr_x (r := 137) (by decide) G16
            have Q16 : S10 1 4 = 1 := q10
            refine ke_16_1_137 (by omega) (by omega) (by omega) (by omega) (by omega) (by omega) C10 (fun l e z => absurd z (by rw [if_neg (by omega)]; simp)) (fun n16 S16 b16 C16 f16 q16 w16 va16 vb16 => ?_)
            skip
            refine x_astG y_a137 C16 (by decide) (y_fr_rf (lo := 0) (hi := 138)) (by omega) (by omega) (by omega) (by omega) (fun S17 e17 C17 F17 => ?_)
            refine x_vret ?_
            refine kF ?_ _ C17 (y_sr_tr (y_sr_tr (y_sr_tr (y_sr_tr (y_sr_tr (y_sr_tr (y_sr_tr (y_sr_tr (y_sr_tr (y_sr_tr (y_sr_tr (y_sr_rf) (y_sr_sc f2)) (y_sr_up e3)) (y_sr_sc f4)) (y_sr_up e5)) (y_sr_sc f6)) (y_sr_up e7)) (y_sr_sc f8)) (y_sr_up e9)) (y_sr_sc f10)) f16) (y_sr_up e17)) ((x_up_nr e17 (by decide)).trans (q16))
            unfold y_iR
            exact if_neg (fun z => by omega)
        · skip
          have nn8 : ¬ _ := fun z => n8 ⟨Q8, z⟩
          rw [X8, P8] at nn8
          refine x_astG y_a137 C8 (by decide) (y_fr_rf (lo := 0) (hi := 138)) (by omega) (by omega) (by omega) (by omega) (fun S18 e18 C18 F18 => ?_)
          refine x_aload rfl ?_
          refine x_push 61 rfl ?_
          refine x_cV (fun _ => rfl) rfl (by decide) (Nat.le_of_ble_eq_true rfl) ?_
          have G19 : y_sr 137 σ S18 := y_sr_tr (y_sr_tr (y_sr_tr (y_sr_tr (y_sr_tr (y_sr_tr (y_sr_tr (y_sr_tr (y_sr_rf) (y_sr_sc f2)) (y_sr_up e3)) (y_sr_sc f4)) (y_sr_up e5)) (y_sr_sc f6)) (y_sr_up e7)) (y_sr_sc f8)) (y_sr_up e18)
          have X19 : y_cx S18 = y_cx σ := y_sr_x (r := 137) (by decide) G19
          have Q19 : S18 1 4 = 1 := (x_up_nr e18 (by decide)).trans (q8)
          refine ke_9_1 (by omega) (by omega) C18 (fun s19 => absurd s19 (by omega)) (fun n19 S19 C19 f19 p19 q19 => ?_)
          skip
          refine x_aload rfl ?_
          refine x_push 4 rfl ?_
          refine x_aload rfl ?_
          refine x_aload rfl ?_
          refine x_push 5 rfl ?_
          refine x_push 7 rfl ?_
          refine x_aload rfl ?_
          refine x_push 2 rfl ?_
          have hv : S19 137 2 = y_cx σ (σ 1 3 + 2) - 97 := ((f19 137 2 (fun z => absurd z (by decide))).trans ((x_up_ne e18 (by decide)).trans ((f8 137 2 (fun z => absurd z (by decide))).trans (x_up_at e7)))).trans (by rw [X6, P6])
          refine x_iald (r := 137) (n := 12) (m := 2) rfl rfl (by decide) (fun _ => rfl) rfl (by omega) (by omega) ?_
          rw [hv]
          intro g20a g20b
          refine x_cV (fun _ => rfl) rfl (by decide) (Nat.le_of_ble_eq_true rfl) ?_
          have G21 : y_sr 137 σ S19 := y_sr_tr (y_sr_tr (y_sr_tr (y_sr_tr (y_sr_tr (y_sr_tr (y_sr_tr (y_sr_tr (y_sr_tr (y_sr_rf) (y_sr_sc f2)) (y_sr_up e3)) (y_sr_sc f4)) (y_sr_up e5)) (y_sr_sc f6)) (y_sr_up e7)) (y_sr_sc f8)) (y_sr_up e18)) (y_sr_sc f19)
          have X21 : y_cx S19 = y_cx σ := y_sr_x (r := 137) (by decide) G21
          have Q21 : S19 1 4 = 1 := q19
          refine ke_16_1_137 (by omega) (by omega) (by omega) (by omega) (by omega) (by omega) C19 (fun l e z => absurd z (by rw [if_neg (by omega)]; simp)) (fun n21 S21 b21 C21 f21 q21 w21 va21 vb21 => ?_)
          skip
          refine x_astG y_a137 C21 (by decide) (y_fr_rf (lo := 0) (hi := 138)) (by omega) (by omega) (by omega) (by omega) (fun S22 e22 C22 F22 => ?_)
          refine x_vret ?_
          refine kF ?_ _ C22 (y_sr_tr (y_sr_tr (y_sr_tr (y_sr_tr (y_sr_tr (y_sr_tr (y_sr_tr (y_sr_tr (y_sr_tr (y_sr_tr (y_sr_tr (y_sr_rf) (y_sr_sc f2)) (y_sr_up e3)) (y_sr_sc f4)) (y_sr_up e5)) (y_sr_sc f6)) (y_sr_up e7)) (y_sr_sc f8)) (y_sr_up e18)) (y_sr_sc f19)) f21) (y_sr_up e22)) ((x_up_nr e22 (by decide)).trans (q21))
          unfold y_iR
          exact if_neg (fun z => by omega)
      · skip
        have nn6 : ¬ _ := fun z => n6 ⟨Q6, z⟩
        rw [X6, P6] at nn6
        refine x_astG y_a137 C6 (by decide) (y_fr_rf (lo := 0) (hi := 138)) (by omega) (by omega) (by omega) (by omega) (fun S23 e23 C23 F23 => ?_)
        refine x_aload rfl ?_
        refine x_push 3 rfl ?_
        refine x_aload rfl ?_
        refine x_cV (fun _ => rfl) rfl (by decide) (Nat.le_of_ble_eq_true rfl) ?_
        have G24 : y_sr 137 σ S23 := y_sr_tr (y_sr_tr (y_sr_tr (y_sr_tr (y_sr_tr (y_sr_tr (y_sr_rf) (y_sr_sc f2)) (y_sr_up e3)) (y_sr_sc f4)) (y_sr_up e5)) (y_sr_sc f6)) (y_sr_up e23)
        have X24 : y_cx S23 = y_cx σ := y_sr_x (r := 137) (by decide) G24
        have Q24 : S23 1 4 = 1 := (x_up_nr e23 (by decide)).trans (q6)
        refine ke_20_1  C23 (fun s24 => absurd s24 (by omega)) (fun n24 S24 C24 f24 p24 q24 => ?_)
        skip
        refine x_astG y_a137 C24 (by decide) (y_fr_rf (lo := 0) (hi := 138)) (by omega) (by omega) (by omega) (by omega) (fun S25 e25 C25 F25 => ?_)
        refine x_aload rfl ?_
        refine x_push 61 rfl ?_
        refine x_cV (fun _ => rfl) rfl (by decide) (Nat.le_of_ble_eq_true rfl) ?_
        have G26 : y_sr 137 σ S25 := y_sr_tr (y_sr_tr (y_sr_tr (y_sr_tr (y_sr_tr (y_sr_tr (y_sr_tr (y_sr_tr (y_sr_rf) (y_sr_sc f2)) (y_sr_up e3)) (y_sr_sc f4)) (y_sr_up e5)) (y_sr_sc f6)) (y_sr_up e23)) (y_sr_sc f24)) (y_sr_up e25)
        have X26 : y_cx S25 = y_cx σ := y_sr_x (r := 137) (by decide) G26
        have Q26 : S25 1 4 = 1 := (x_up_nr e25 (by decide)).trans (q24)
        refine ke_9_1 (by omega) (by omega) C25 (fun s26 => absurd s26 (by omega)) (fun n26 S26 C26 f26 p26 q26 => ?_)
        skip
        refine x_aload rfl ?_
        refine x_push 4 rfl ?_
        refine x_aload rfl ?_
        refine x_aload rfl ?_
        refine x_push 5 rfl ?_
        refine x_push 7 rfl ?_
        refine x_aload rfl ?_
        refine x_push 2 rfl ?_
        have hv : S26 137 2 = 0 := ((f26 137 2 (fun z => absurd z (by decide))).trans ((x_up_ne e25 (by decide)).trans ((f24 137 2 (fun z => absurd z (by decide))).trans (x_up_at e23)))).trans (by rfl)
        refine x_iald (r := 137) (n := 12) (m := 2) rfl rfl (by decide) (fun _ => rfl) rfl (by omega) (by omega) ?_
        rw [hv]
        intro g27a g27b
        refine x_cV (fun _ => rfl) rfl (by decide) (Nat.le_of_ble_eq_true rfl) ?_
        have G28 : y_sr 137 σ S26 := y_sr_tr (y_sr_tr (y_sr_tr (y_sr_tr (y_sr_tr (y_sr_tr (y_sr_tr (y_sr_tr (y_sr_tr (y_sr_rf) (y_sr_sc f2)) (y_sr_up e3)) (y_sr_sc f4)) (y_sr_up e5)) (y_sr_sc f6)) (y_sr_up e23)) (y_sr_sc f24)) (y_sr_up e25)) (y_sr_sc f26)
        have X28 : y_cx S26 = y_cx σ := y_sr_x (r := 137) (by decide) G28
        have Q28 : S26 1 4 = 1 := q26
        refine ke_16_1_137 (by omega) (by omega) (by omega) (by omega) (by omega) (by omega) C26 (fun l e z => absurd z (by rw [if_neg (by omega)]; simp)) (fun n28 S28 b28 C28 f28 q28 w28 va28 vb28 => ?_)
        skip
        refine x_astG y_a137 C28 (by decide) (y_fr_rf (lo := 0) (hi := 138)) (by omega) (by omega) (by omega) (by omega) (fun S29 e29 C29 F29 => ?_)
        refine x_vret ?_
        refine kF ?_ _ C29 (y_sr_tr (y_sr_tr (y_sr_tr (y_sr_tr (y_sr_tr (y_sr_tr (y_sr_tr (y_sr_tr (y_sr_tr (y_sr_tr (y_sr_tr (y_sr_rf) (y_sr_sc f2)) (y_sr_up e3)) (y_sr_sc f4)) (y_sr_up e5)) (y_sr_sc f6)) (y_sr_up e23)) (y_sr_sc f24)) (y_sr_up e25)) (y_sr_sc f26)) f28) (y_sr_up e29)) ((x_up_nr e29 (by decide)).trans (q28))
        unfold y_iR
        exact if_neg (fun z => by omega)
    · skip
      have nn4 : ¬ _ := fun z => n4 ⟨Q4, z⟩
      rw [X4, P4] at nn4
      refine x_astG y_a137 C4 (by decide) (y_fr_rf (lo := 0) (hi := 138)) (by omega) (by omega) (by omega) (by omega) (fun S30 e30 C30 F30 => ?_)
      refine x_aload rfl ?_
      refine x_push 2 rfl ?_
      refine x_aload rfl ?_
      refine x_cV (fun _ => rfl) rfl (by decide) (Nat.le_of_ble_eq_true rfl) ?_
      have G31 : y_sr 137 σ S30 := y_sr_tr (y_sr_tr (y_sr_tr (y_sr_tr (y_sr_rf) (y_sr_sc f2)) (y_sr_up e3)) (y_sr_sc f4)) (y_sr_up e30)
      have X31 : y_cx S30 = y_cx σ := y_sr_x (r := 137) (by decide) G31
      have Q31 : S30 1 4 = 1 := (x_up_nr e30 (by decide)).trans (q4)
      refine ke_15_1  C30 (fun s31 => absurd s31 (by omega)) (fun n31 S31 C31 f31 p31 q31 => ?_)
      skip
      refine x_astG y_a137 C31 (by decide) (y_fr_rf (lo := 0) (hi := 138)) (by omega) (by omega) (by omega) (by omega) (fun S32 e32 C32 F32 => ?_)
      refine x_aload rfl ?_
      refine x_push 3 rfl ?_
      refine x_aload rfl ?_
      refine x_cV (fun _ => rfl) rfl (by decide) (Nat.le_of_ble_eq_true rfl) ?_
      have G33 : y_sr 137 σ S32 := y_sr_tr (y_sr_tr (y_sr_tr (y_sr_tr (y_sr_tr (y_sr_tr (y_sr_rf) (y_sr_sc f2)) (y_sr_up e3)) (y_sr_sc f4)) (y_sr_up e30)) (y_sr_sc f31)) (y_sr_up e32)
      have X33 : y_cx S32 = y_cx σ := y_sr_x (r := 137) (by decide) G33
      have Q33 : S32 1 4 = 1 := (x_up_nr e32 (by decide)).trans (q31)
      refine ke_20_1  C32 (fun s33 => absurd s33 (by omega)) (fun n33 S33 C33 f33 p33 q33 => ?_)
      skip
      refine x_astG y_a137 C33 (by decide) (y_fr_rf (lo := 0) (hi := 138)) (by omega) (by omega) (by omega) (by omega) (fun S34 e34 C34 F34 => ?_)
      refine x_aload rfl ?_
      refine x_push 61 rfl ?_
      refine x_cV (fun _ => rfl) rfl (by decide) (Nat.le_of_ble_eq_true rfl) ?_
      have G35 : y_sr 137 σ S34 := y_sr_tr (y_sr_tr (y_sr_tr (y_sr_tr (y_sr_tr (y_sr_tr (y_sr_tr (y_sr_tr (y_sr_rf) (y_sr_sc f2)) (y_sr_up e3)) (y_sr_sc f4)) (y_sr_up e30)) (y_sr_sc f31)) (y_sr_up e32)) (y_sr_sc f33)) (y_sr_up e34)
      have X35 : y_cx S34 = y_cx σ := y_sr_x (r := 137) (by decide) G35
      have Q35 : S34 1 4 = 1 := (x_up_nr e34 (by decide)).trans (q33)
      refine ke_9_1 (by omega) (by omega) C34 (fun s35 => absurd s35 (by omega)) (fun n35 S35 C35 f35 p35 q35 => ?_)
      skip
      refine x_aload rfl ?_
      refine x_push 4 rfl ?_
      refine x_aload rfl ?_
      refine x_aload rfl ?_
      refine x_push 5 rfl ?_
      refine x_push 7 rfl ?_
      refine x_aload rfl ?_
      refine x_push 2 rfl ?_
      have hv : S35 137 2 = 0 := ((f35 137 2 (fun z => absurd z (by decide))).trans ((x_up_ne e34 (by decide)).trans ((f33 137 2 (fun z => absurd z (by decide))).trans (x_up_at e32)))).trans (by rfl)
      refine x_iald (r := 137) (n := 12) (m := 2) rfl rfl (by decide) (fun _ => rfl) rfl (by omega) (by omega) ?_
      rw [hv]
      intro g36a g36b
      refine x_cV (fun _ => rfl) rfl (by decide) (Nat.le_of_ble_eq_true rfl) ?_
      have G37 : y_sr 137 σ S35 := y_sr_tr (y_sr_tr (y_sr_tr (y_sr_tr (y_sr_tr (y_sr_tr (y_sr_tr (y_sr_tr (y_sr_tr (y_sr_rf) (y_sr_sc f2)) (y_sr_up e3)) (y_sr_sc f4)) (y_sr_up e30)) (y_sr_sc f31)) (y_sr_up e32)) (y_sr_sc f33)) (y_sr_up e34)) (y_sr_sc f35)
      have X37 : y_cx S35 = y_cx σ := y_sr_x (r := 137) (by decide) G37
      have Q37 : S35 1 4 = 1 := q35
      refine ke_16_1_137 (by omega) (by omega) (by omega) (by omega) (by omega) (by omega) C35 (fun l e z => absurd z (by rw [if_neg (by omega)]; simp)) (fun n37 S37 b37 C37 f37 q37 w37 va37 vb37 => ?_)
      skip
      refine x_astG y_a137 C37 (by decide) (y_fr_rf (lo := 0) (hi := 138)) (by omega) (by omega) (by omega) (by omega) (fun S38 e38 C38 F38 => ?_)
      refine x_vret ?_
      refine kF ?_ _ C38 (y_sr_tr (y_sr_tr (y_sr_tr (y_sr_tr (y_sr_tr (y_sr_tr (y_sr_tr (y_sr_tr (y_sr_tr (y_sr_tr (y_sr_tr (y_sr_rf) (y_sr_sc f2)) (y_sr_up e3)) (y_sr_sc f4)) (y_sr_up e30)) (y_sr_sc f31)) (y_sr_up e32)) (y_sr_sc f33)) (y_sr_up e34)) (y_sr_sc f35)) f37) (y_sr_up e38)) ((x_up_nr e38 (by decide)).trans (q37))
      unfold y_iR
      exact if_neg (fun z => by omega)
  · skip
    have nn2 : ¬ _ := fun z => n2 ⟨Q2, z⟩
    refine x_astG y_a137 C2 (by decide) (y_fr_rf (lo := 0) (hi := 138)) (by omega) (by omega) (by omega) (by omega) (fun S39 e39 C39 F39 => ?_)
    refine x_aload rfl ?_
    refine x_push 1 rfl ?_
    refine x_aload rfl ?_
    refine x_push 3 rfl ?_
    refine x_cV (fun _ => rfl) rfl (by decide) (Nat.le_of_ble_eq_true rfl) ?_
    have G40 : y_sr 137 σ S39 := y_sr_tr (y_sr_tr (y_sr_rf) (y_sr_sc f2)) (y_sr_up e39)
    have X40 : y_cx S39 = y_cx σ := y_sr_x (r := 137) (by decide) G40
    have Q40 : S39 1 4 = 1 := (x_up_nr e39 (by decide)).trans (q2)
    refine ke_8_1 (by omega) (by omega) C39 (fun s40 => absurd s40 (by omega)) (fun n40 S40 C40 f40 p40 q40 => ?_)
    skip
    refine x_astG y_a137 C40 (by decide) (y_fr_rf (lo := 0) (hi := 138)) (by omega) (by omega) (by omega) (by omega) (fun S41 e41 C41 F41 => ?_)
    refine x_aload rfl ?_
    refine x_push 2 rfl ?_
    refine x_aload rfl ?_
    refine x_cV (fun _ => rfl) rfl (by decide) (Nat.le_of_ble_eq_true rfl) ?_
    have G42 : y_sr 137 σ S41 := y_sr_tr (y_sr_tr (y_sr_tr (y_sr_tr (y_sr_rf) (y_sr_sc f2)) (y_sr_up e39)) (y_sr_sc f40)) (y_sr_up e41)
    have X42 : y_cx S41 = y_cx σ := y_sr_x (r := 137) (by decide) G42
    have Q42 : S41 1 4 = 1 := (x_up_nr e41 (by decide)).trans (q40)
    refine ke_15_1  C41 (fun s42 => absurd s42 (by omega)) (fun n42 S42 C42 f42 p42 q42 => ?_)
    skip
    refine x_astG y_a137 C42 (by decide) (y_fr_rf (lo := 0) (hi := 138)) (by omega) (by omega) (by omega) (by omega) (fun S43 e43 C43 F43 => ?_)
    refine x_aload rfl ?_
    refine x_push 3 rfl ?_
    refine x_aload rfl ?_
    refine x_cV (fun _ => rfl) rfl (by decide) (Nat.le_of_ble_eq_true rfl) ?_
    have G44 : y_sr 137 σ S43 := y_sr_tr (y_sr_tr (y_sr_tr (y_sr_tr (y_sr_tr (y_sr_tr (y_sr_rf) (y_sr_sc f2)) (y_sr_up e39)) (y_sr_sc f40)) (y_sr_up e41)) (y_sr_sc f42)) (y_sr_up e43)
    have X44 : y_cx S43 = y_cx σ := y_sr_x (r := 137) (by decide) G44
    have Q44 : S43 1 4 = 1 := (x_up_nr e43 (by decide)).trans (q42)
    refine ke_20_1  C43 (fun s44 => absurd s44 (by omega)) (fun n44 S44 C44 f44 p44 q44 => ?_)
    skip
    refine x_astG y_a137 C44 (by decide) (y_fr_rf (lo := 0) (hi := 138)) (by omega) (by omega) (by omega) (by omega) (fun S45 e45 C45 F45 => ?_)
    refine x_aload rfl ?_
    refine x_push 61 rfl ?_
    refine x_cV (fun _ => rfl) rfl (by decide) (Nat.le_of_ble_eq_true rfl) ?_
    have G46 : y_sr 137 σ S45 := y_sr_tr (y_sr_tr (y_sr_tr (y_sr_tr (y_sr_tr (y_sr_tr (y_sr_tr (y_sr_tr (y_sr_rf) (y_sr_sc f2)) (y_sr_up e39)) (y_sr_sc f40)) (y_sr_up e41)) (y_sr_sc f42)) (y_sr_up e43)) (y_sr_sc f44)) (y_sr_up e45)
    have X46 : y_cx S45 = y_cx σ := y_sr_x (r := 137) (by decide) G46
    have Q46 : S45 1 4 = 1 := (x_up_nr e45 (by decide)).trans (q44)
    refine ke_9_1 (by omega) (by omega) C45 (fun s46 => absurd s46 (by omega)) (fun n46 S46 C46 f46 p46 q46 => ?_)
    skip
    refine x_aload rfl ?_
    refine x_push 4 rfl ?_
    refine x_aload rfl ?_
    refine x_aload rfl ?_
    refine x_push 5 rfl ?_
    refine x_push 7 rfl ?_
    refine x_aload rfl ?_
    refine x_push 2 rfl ?_
    have hv : S46 137 2 = 0 := ((f46 137 2 (fun z => absurd z (by decide))).trans ((x_up_ne e45 (by decide)).trans ((f44 137 2 (fun z => absurd z (by decide))).trans (x_up_at e43)))).trans (by rfl)
    refine x_iald (r := 137) (n := 12) (m := 2) rfl rfl (by decide) (fun _ => rfl) rfl (by omega) (by omega) ?_
    rw [hv]
    intro g47a g47b
    refine x_cV (fun _ => rfl) rfl (by decide) (Nat.le_of_ble_eq_true rfl) ?_
    have G48 : y_sr 137 σ S46 := y_sr_tr (y_sr_tr (y_sr_tr (y_sr_tr (y_sr_tr (y_sr_tr (y_sr_tr (y_sr_tr (y_sr_tr (y_sr_rf) (y_sr_sc f2)) (y_sr_up e39)) (y_sr_sc f40)) (y_sr_up e41)) (y_sr_sc f42)) (y_sr_up e43)) (y_sr_sc f44)) (y_sr_up e45)) (y_sr_sc f46)
    have X48 : y_cx S46 = y_cx σ := y_sr_x (r := 137) (by decide) G48
    have Q48 : S46 1 4 = 1 := q46
    refine ke_16_1_137 (by omega) (by omega) (by omega) (by omega) (by omega) (by omega) C46 (fun l e z => absurd z (by rw [if_neg (by omega)]; simp)) (fun n48 S48 b48 C48 f48 q48 w48 va48 vb48 => ?_)
    skip
    refine x_astG y_a137 C48 (by decide) (y_fr_rf (lo := 0) (hi := 138)) (by omega) (by omega) (by omega) (by omega) (fun S49 e49 C49 F49 => ?_)
    refine x_vret ?_
    refine kF ?_ _ C49 (y_sr_tr (y_sr_tr (y_sr_tr (y_sr_tr (y_sr_tr (y_sr_tr (y_sr_tr (y_sr_tr (y_sr_tr (y_sr_tr (y_sr_tr (y_sr_rf) (y_sr_sc f2)) (y_sr_up e39)) (y_sr_sc f40)) (y_sr_up e41)) (y_sr_sc f42)) (y_sr_up e43)) (y_sr_sc f44)) (y_sr_up e45)) (y_sr_sc f46)) f48) (y_sr_up e49)) ((x_up_nr e49 (by decide)).trans (q48))
    unfold y_iR
    exact if_neg (fun z => by omega)
theorem ke_35_1_11 {E : q_E} {σ : x_S} {Q : Option q_V → x_S → Prop} (h4 : σ 1 4 = 0) (C0 : y_CI σ) (kS : ∀ l e, y_iT (y_cx σ) (σ 1 3) = some (l, e) → ∀ τ, y_CI τ → (∀ q m, q ≠ 3 → q ≠ 12 → q ≠ 13 → (q = 1 → m ≠ 3 ∧ m ≠ 4) → τ q m = σ q m) → τ 1 3 = e → τ 1 4 = 0 → (∀ i, i < l.length → τ 12 (11 * (y_cx σ (σ 1 3) - 48).toNat + i) = l.getD i 0) → (∀ m, ¬ (11 * (y_cx σ (σ 1 3) - 48).toNat ≤ m ∧ m < 11 * (y_cx σ (σ 1 3) - 48).toNat + l.length) → τ 12 m = σ 12 m) → (∀ m, τ 13 m = if m = (y_cx σ (σ 1 3) - 48).toNat then (l.length : Int) else σ 13 m) → Q none τ) (kF : y_iT (y_cx σ) (σ 1 3) = none → ∀ τ, y_CI τ → y_sr 3 σ τ → τ 1 4 = 1 → Q none τ) : x_P E 35 [x_R 1, x_R 11] σ Q := by
  have c4 : 0 ≤ σ 1 4 ∧ σ 1 4 ≤ 1 := C0 1 4 (by decide) (by decide) (by decide)
  refine x_Mt e_35 (h_35 E) (Nat.le_of_ble_eq_true rfl) t_35 rfl ?_
  refine x_blk (b := 0) (a_35 E) rfl ?_
  unfold b_35_0
  refine x_aload rfl ?_
  refine x_push 3 rfl ?_
  refine x_cV (fun _ => rfl) rfl (by decide) (Nat.le_of_ble_eq_true rfl) ?_
  have Q1 := h4
  refine ke_8_1 (by omega) (by omega) C0 (fun s1 c1 S1 C1 f1 p1 q1 => ?_) (fun n1 S1 C1 f1 p1 q1 => ?_)
  · skip
    have cc1 := c1
    have P1b : S1 1 3 = σ 1 3 + 1 := by omega
    refine x_istore ?_
    refine x_aload rfl ?_
    refine x_push 61 rfl ?_
    refine x_cV (fun _ => rfl) rfl (by decide) (Nat.le_of_ble_eq_true rfl) ?_
    have G2 : y_sr 3 σ S1 := y_sr_tr (y_sr_rf) (y_sr_sc f1)
    have X2 : y_cx S1 = y_cx σ := y_sr_x (r := 3) (by decide) G2
    have P2 : S1 1 3 = σ 1 3 + 1 := P1b
    have Q2 : S1 1 4 = 0 := q1
    refine ke_9_1 (by omega) (by omega) C1 (fun s2 c2 S2 C2 f2 p2 q2 => ?_) (fun n2 S2 C2 f2 p2 q2 => ?_)
    · skip
      have cc2 := c2
      rw [X2, P2] at cc2
      have P2b : S2 1 3 = σ 1 3 + 2 := by omega
      refine x_aload rfl ?_
      refine x_aload rfl ?_
      refine x_getR (r := 1) rfl (by decide) (by decide) rfl ?_
      refine x_push 0 rfl ?_
      refine x_push 11 rfl ?_
      refine x_push (-1) rfl ?_
      refine x_cV (fun _ => rfl) rfl (by decide) (Nat.le_of_ble_eq_true rfl) ?_
      have G3 : y_sr 3 σ S2 := y_sr_tr (y_sr_tr (y_sr_rf) (y_sr_sc f1)) (y_sr_sc f2)
      have X3 : y_cx S2 = y_cx σ := y_sr_x (r := 3) (by decide) G3
      have P3 : S2 1 3 = σ 1 3 + 2 := P2b
      have Q3 : S2 1 4 = 0 := q2
      refine ke_16_1_3 (by omega) (by omega) (by omega) (by omega) (by omega) (by omega) C2 (fun l3 e3 h3 S3 C3 f3 p3 q3 c3 w3 => ?_) (fun n3 S3 b3 C3 f3 q3 w3 va3 vb3 => ?_)
      · skip
        rw [if_pos Q3, X3, P3] at h3
        have hl3 := y_rw_len h3
        have hl3_b : l3.length ≤ 11 := hl3.2
        refine x_istore ?_
        refine x_X_lo (lo' := [(0, x_R 1), (1, x_R 11), (2, x_I _), (3, x_I _)]) ⟨rfl, rfl, rfl, rfl, trivial⟩ ?_
        refine x_aload rfl ?_
        refine x_getIG y_f1_4 C3 ?_
        intro g4a g4b
        refine x_if_ne (by omega) (by omega) (fun z5 => ?_) (fun z => absurd (by omega) z)
        refine x_aload rfl ?_
        refine x_iload rfl ?_
        refine x_aload rfl ?_
        refine x_getR (r := 1) rfl (by decide) (by decide) rfl ?_
        refine x_iload rfl ?_
        refine x_cV (fun _ => rfl) rfl (by decide) (Nat.le_of_ble_eq_true rfl) ?_
        refine ke_36_11_3 (by omega) (by omega) (by omega) (by omega) C3 (fun S6 C6 f6 wa6 wb6 => ?_)
        refine x_fall ?_
        refine x_blk (b := 1) (a_35 E) rfl ?_
        unfold b_35_1
        refine x_vret ?_
        have hR : y_iT (y_cx σ) (σ 1 3) = some (l3, e3) := by
          unfold y_iT
          rw [if_pos ⟨by omega, by omega, by omega⟩]
          exact h3
        have gg : y_sr 3 σ S3 := y_sr_tr (y_sr_tr (y_sr_tr (y_sr_rf) (y_sr_sc f1)) (y_sr_sc f2)) f3
        refine kS _ _ hR _ C6 (fun q m h1 h2 h3 h4 => ?_) ?_ ?_ (fun i hi => ?_) (fun m hm => ?_) (fun m => ?_)
        · rw [f6 q m ⟨h2, h3⟩]; exact gg q m h1 h4
        · rw [f6 1 3 (by decide)]; exact p3
        · rw [f6 1 4 (by decide)]; exact q3
        · rw [wa6, if_pos (by omega)]
          have hk := c3 i hi
          rw [show (0 : Int).toNat + i = i by show 0 + i = i; omega] at hk
          rw [← hk]
          congr 1
          omega
        · rw [wa6, if_neg (fun z => hm (by omega))]; exact gg 12 m (by decide) (fun z => absurd z (by decide))
        · rw [wb6]
          by_cases cm : m = (y_cx σ (σ 1 3) - 48).toNat
          · rw [if_pos cm, if_pos cm]
          · rw [if_neg cm, if_neg cm]; exact gg 13 m (by decide) (fun z => absurd z (by decide))
      · skip
        rw [if_pos Q3, X3, P3] at n3
        refine x_istore ?_
        refine x_X_lo (lo' := [(0, x_R 1), (1, x_R 11), (2, x_I _), (3, x_I _)]) ⟨rfl, rfl, rfl, rfl, trivial⟩ ?_
        refine x_aload rfl ?_
        refine x_getIG y_f1_4 C3 ?_
        intro g7a g7b
        refine x_if_ne (by omega) (by omega) (fun z => absurd z (by omega)) (fun z8 => ?_)
        refine x_blk (b := 1) (a_35 E) rfl ?_
        unfold b_35_1
        refine x_vret ?_
        refine kF ?_ _ C3 (y_sr_tr (y_sr_tr (y_sr_tr (y_sr_rf) (y_sr_sc f1)) (y_sr_sc f2)) f3) (q3)
        unfold y_iT
        rw [if_pos ⟨by omega, by omega, by omega⟩]
        exact n3
    · skip
      have nn2 : ¬ _ := fun z => n2 ⟨Q2, z⟩
      rw [X2, P2] at nn2
      refine x_aload rfl ?_
      refine x_aload rfl ?_
      refine x_getR (r := 1) rfl (by decide) (by decide) rfl ?_
      refine x_push 0 rfl ?_
      refine x_push 11 rfl ?_
      refine x_push (-1) rfl ?_
      refine x_cV (fun _ => rfl) rfl (by decide) (Nat.le_of_ble_eq_true rfl) ?_
      have G9 : y_sr 3 σ S2 := y_sr_tr (y_sr_tr (y_sr_rf) (y_sr_sc f1)) (y_sr_sc f2)
      have X9 : y_cx S2 = y_cx σ := y_sr_x (r := 3) (by decide) G9
      have Q9 : S2 1 4 = 1 := q2
      refine ke_16_1_3 (by omega) (by omega) (by omega) (by omega) (by omega) (by omega) C2 (fun l e z => absurd z (by rw [if_neg (by omega)]; simp)) (fun n9 S9 b9 C9 f9 q9 w9 va9 vb9 => ?_)
      skip
      refine x_istore ?_
      refine x_X_lo (lo' := [(0, x_R 1), (1, x_R 11), (2, x_I _), (3, x_I _)]) ⟨rfl, rfl, rfl, rfl, trivial⟩ ?_
      refine x_aload rfl ?_
      refine x_getIG y_f1_4 C9 ?_
      intro g10a g10b
      refine x_if_ne (by omega) (by omega) (fun z => absurd z (by omega)) (fun z11 => ?_)
      refine x_blk (b := 1) (a_35 E) rfl ?_
      unfold b_35_1
      refine x_vret ?_
      refine kF ?_ _ C9 (y_sr_tr (y_sr_tr (y_sr_tr (y_sr_rf) (y_sr_sc f1)) (y_sr_sc f2)) f9) (q9)
      unfold y_iT
      exact if_neg (fun z => by omega)
  · skip
    have nn1 : ¬ _ := fun z => n1 ⟨Q1, z⟩
    refine x_istore ?_
    refine x_aload rfl ?_
    refine x_push 61 rfl ?_
    refine x_cV (fun _ => rfl) rfl (by decide) (Nat.le_of_ble_eq_true rfl) ?_
    have G12 : y_sr 3 σ S1 := y_sr_tr (y_sr_rf) (y_sr_sc f1)
    have X12 : y_cx S1 = y_cx σ := y_sr_x (r := 3) (by decide) G12
    have Q12 : S1 1 4 = 1 := q1
    refine ke_9_1 (by omega) (by omega) C1 (fun s12 => absurd s12 (by omega)) (fun n12 S12 C12 f12 p12 q12 => ?_)
    skip
    refine x_aload rfl ?_
    refine x_aload rfl ?_
    refine x_getR (r := 1) rfl (by decide) (by decide) rfl ?_
    refine x_push 0 rfl ?_
    refine x_push 11 rfl ?_
    refine x_push (-1) rfl ?_
    refine x_cV (fun _ => rfl) rfl (by decide) (Nat.le_of_ble_eq_true rfl) ?_
    have G13 : y_sr 3 σ S12 := y_sr_tr (y_sr_tr (y_sr_rf) (y_sr_sc f1)) (y_sr_sc f12)
    have X13 : y_cx S12 = y_cx σ := y_sr_x (r := 3) (by decide) G13
    have Q13 : S12 1 4 = 1 := q12
    refine ke_16_1_3 (by omega) (by omega) (by omega) (by omega) (by omega) (by omega) C12 (fun l e z => absurd z (by rw [if_neg (by omega)]; simp)) (fun n13 S13 b13 C13 f13 q13 w13 va13 vb13 => ?_)
    skip
    refine x_istore ?_
    refine x_X_lo (lo' := [(0, x_R 1), (1, x_R 11), (2, x_I _), (3, x_I _)]) ⟨rfl, rfl, rfl, rfl, trivial⟩ ?_
    refine x_aload rfl ?_
    refine x_getIG y_f1_4 C13 ?_
    intro g14a g14b
    refine x_if_ne (by omega) (by omega) (fun z => absurd z (by omega)) (fun z15 => ?_)
    refine x_blk (b := 1) (a_35 E) rfl ?_
    unfold b_35_1
    refine x_vret ?_
    refine kF ?_ _ C13 (y_sr_tr (y_sr_tr (y_sr_tr (y_sr_rf) (y_sr_sc f1)) (y_sr_sc f12)) f13) (q13)
    unfold y_iT
    exact if_neg (fun z => by omega)
theorem ke_28_1_11_b3 {E : q_E} {σ : x_S} {Q : Option q_V → x_S → Prop} (h4 : σ 1 4 = 0) (C0 : y_CI σ) (kS : y_iM (y_cx σ) (σ 1 3) = true → ∀ τ, y_CI τ → y_sr 15 σ τ → τ 1 3 = σ 1 3 + 3 + y_pw (y_ch (y_cx σ (σ 1 3 + 1) - 97)) → τ 1 4 = 0 → (∀ j : Nat, (j : Int) < y_pw (y_ch (y_cx σ (σ 1 3 + 1) - 97)) → τ 15 ((((y_cx σ (σ 1 3) - 48) * 5 + (y_cx σ (σ 1 3 + 1) - 97)) * 4).toNat + j) = y_cx σ (σ 1 3 + 3 + j) - 48) → (∀ x, ¬ ((((y_cx σ (σ 1 3) - 48) * 5 + (y_cx σ (σ 1 3 + 1) - 97)) * 4).toNat ≤ x ∧ x < (((y_cx σ (σ 1 3) - 48) * 5 + (y_cx σ (σ 1 3 + 1) - 97)) * 4).toNat + (y_pw (y_ch (y_cx σ (σ 1 3 + 1) - 97))).toNat) → τ 15 x = σ 15 x) → Q none τ) (kF : ¬ y_iM (y_cx σ) (σ 1 3) = true → ∀ τ, y_CI τ → y_sr 15 σ τ → τ 1 4 = 1 → Q none τ) {m f n : Int} (hm : m = y_cx σ (σ 1 3) - 48) (hf : f = y_cx σ (σ 1 3 + 1) - 97) (hn : n = y_pw (y_ch f)) (hh : 48 ≤ y_cx σ (σ 1 3) ∧ y_cx σ (σ 1 3) ≤ 49 ∧ 97 ≤ y_cx σ (σ 1 3 + 1) ∧ y_cx σ (σ 1 3 + 1) ≤ 101 ∧ y_cx σ (σ 1 3 + 2) = 61) : ∀ (N : Nat) (kq : Int) (τ : x_S), (n - kq).toNat = N → 0 ≤ kq → kq ≤ n → y_CI τ → y_sr 15 σ τ → τ 1 4 = 0 → τ 1 3 = σ 1 3 + 3 + kq → (∀ j : Nat, (j : Int) < kq → 48 ≤ y_cx σ (σ 1 3 + 3 + j) ∧ y_cx σ (σ 1 3 + 3 + j) ≤ 49 ∧ τ 15 (((m * 5 + f) * 4).toNat + j) = y_cx σ (σ 1 3 + 3 + j) - 48) → (∀ x, ¬ (((m * 5 + f) * 4).toNat ≤ x ∧ x < ((m * 5 + f) * 4).toNat + n.toNat) → τ 15 x = σ 15 x) → x_G E m_28 Q (t_28 3) [(0, x_R 1), (1, x_R 11), (2, x_I m), (3, x_I f), (4, x_I n), (5, x_I kq)] [] τ := by
  have c4 : 0 ≤ σ 1 4 ∧ σ 1 4 ≤ 1 := C0 1 4 (by decide) (by decide) (by decide)
  intro N
  induction N using Nat.strongRecOn with
  | ind N ih =>
    intro kq τ hN k1 k2 C gg t4 t3 hd ho
    have e2 := y_pwx (y_ch f)
    have e3 := y_chx f
    refine x_blk (b := 3) (a_28 E) rfl ?_
    unfold b_28_3
    refine x_iload rfl ?_
    refine x_iload rfl ?_
    refine x_icmp_ge (by omega) (by omega) (by omega) (by omega) (fun z1 => ?_) (fun z1 => ?_)
    · skip
      refine x_aload rfl ?_
      refine x_getIG y_f1_4 C ?_
      intro g2a g2b
      refine x_if_ne (by omega) (by omega) (fun z3 => ?_) (fun z => absurd (by omega) z)
      refine x_aload rfl ?_
      refine x_push 2 rfl ?_
      refine x_cV (fun _ => rfl) rfl (by decide) (Nat.le_of_ble_eq_true rfl) ?_
      have X4 : y_cx τ = y_cx σ := y_sr_x (r := 15) (by decide) gg
      have P4 := t3
      have Q4 := t4
      refine ke_8_1 (by omega) (by omega) C (fun s4 c4 S4 C4 f4 p4 q4 => ?_) (fun n4 S4 C4 f4 p4 q4 => ?_)
      · skip
        have cc4 := c4
        rw [X4, P4] at cc4
        refine x_istore ?_
        refine x_aload rfl ?_
        refine x_getIG y_f1_4 C4 ?_
        intro g5a g5b
        refine x_if_ne (by omega) (by omega) (fun z6 => ?_) (fun z => absurd (by omega) z)
        refine x_aload rfl ?_
        refine x_iload rfl ?_
        refine x_iload rfl ?_
        refine x_iload rfl ?_
        refine x_iload rfl ?_
        refine x_cV (fun _ => rfl) rfl (by decide) (Nat.le_of_ble_eq_true rfl) ?_
        refine ke_24_11 (by omega) (by omega) (by omega) (by omega) (by omega) (by omega) (by omega) (by omega) C4 (fun S7 C7 fs7 ws7 => ?_)
        refine x_fall ?_
        refine x_blk (b := 2) (a_28 E) rfl ?_
        unfold b_28_2
        refine x_iinc 1 rfl rfl ?_
        refine x_X_lo (lo' := [(0, x_R 1), (1, x_R 11), (2, x_I _), (3, x_I _), (4, x_I _), (5, x_I _), (6, x_I _)]) ⟨rfl, rfl, rfl, rfl, rfl, rfl, rfl, trivial⟩ ?_
        refine x_goto ?_
        refine x_G_lo (lo' := [(0, x_R 1), (1, x_R 11), (2, x_I _), (3, x_I _), (4, x_I _), (5, x_I _)]) ⟨rfl, rfl, rfl, rfl, rfl, rfl, trivial⟩ ?_
        have k9 : ((m * 5 + f) * 4 + kq).toNat = ((m * 5 + f) * 4).toNat + kq.toNat := by omega
        rw [k9] at fs7 ws7
        refine ih _ (by omega) (kq + 1) S7 rfl (by omega) (by omega) C7 ?_ ?_ ?_ (fun j hj => ?_) (fun x hx => ?_)
        · intro x y hx hy
          rw [fs7 x y (fun z => hx z.1), f4 x y hy]
          exact gg x y hx hy
        · rw [fs7 1 4 (fun z => absurd z.1 (by decide))]; exact q4
        · rw [fs7 1 3 (fun z => absurd z.1 (by decide))]; omega
        · by_cases cj : j = kq.toNat
          · subst cj
            have ek : (kq.toNat : Int) = kq := by omega
            rw [ek, ws7]
            refine ⟨by omega, by omega, ?_⟩
            rw [X4, P4]
          · have hj2 := hd j (by omega)
            refine ⟨hj2.1, hj2.2.1, ?_⟩
            rw [fs7 15 _ (fun z => cj (by omega)), f4 15 _ (fun z => absurd z (by decide))]
            exact hj2.2.2
        · rw [fs7 15 x (fun z => hx (by omega)), f4 15 x (fun z => absurd z (by decide))]
          exact ho x hx
      · skip
        have nn4 : ¬ _ := fun z => n4 ⟨Q4, z⟩
        rw [X4, P4] at nn4
        refine x_istore ?_
        refine x_aload rfl ?_
        refine x_getIG y_f1_4 C4 ?_
        intro g8a g8b
        refine x_if_ne (by omega) (by omega) (fun z => absurd z (by omega)) (fun z9 => ?_)
        refine x_blk (b := 2) (a_28 E) rfl ?_
        unfold b_28_2
        refine x_iinc 1 rfl rfl ?_
        refine x_X_lo (lo' := [(0, x_R 1), (1, x_R 11), (2, x_I _), (3, x_I _), (4, x_I _), (5, x_I _), (6, x_I _)]) ⟨rfl, rfl, rfl, rfl, rfl, rfl, rfl, trivial⟩ ?_
        refine x_goto ?_
        refine x_blk (b := 3) (a_28 E) rfl ?_
        unfold b_28_3
        refine x_iload rfl ?_
        refine x_iload rfl ?_
        refine x_icmp_ge (by omega) (by omega) (by omega) (by omega) (fun z10 => ?_) (fun z10 => ?_)
        · skip
          refine x_aload rfl ?_
          refine x_getIG y_f1_4 C4 ?_
          intro g11a g11b
          refine x_if_ne (by omega) (by omega) (fun z => absurd z (by omega)) (fun z12 => ?_)
          refine x_blk (b := 1) (a_28 E) rfl ?_
          unfold b_28_1
          refine x_vret ?_
          refine kF (fun z => ?_) _ C4 (y_sr_tr (gg) (y_sr_sc f4)) (q4)
          have z2 := (y_iM_i.mp z).2 kq.toNat (by rw [← hf, ← hn]; omega)
          rw [show (kq.toNat : Int) = kq by omega] at z2
          exact nn4 ⟨z2.1, by omega⟩
        · skip
          refine x_blk (b := 1) (a_28 E) rfl ?_
          unfold b_28_1
          refine x_vret ?_
          refine kF (fun z => ?_) _ C4 (y_sr_tr (gg) (y_sr_sc f4)) (q4)
          have z2 := (y_iM_i.mp z).2 kq.toNat (by rw [← hf, ← hn]; omega)
          rw [show (kq.toNat : Int) = kq by omega] at z2
          exact nn4 ⟨z2.1, by omega⟩
    · skip
      refine x_blk (b := 1) (a_28 E) rfl ?_
      unfold b_28_1
      refine x_vret ?_
      refine kS (y_iM_i.mpr ⟨hh, fun j hj => ?_⟩) τ C gg ?_ t4 (fun j hj => ?_) (fun x hx => ?_)
      · rw [← hf, ← hn] at hj
        have h9 := hd j (by omega)
        exact ⟨h9.1, h9.2.1⟩
      · rw [← hf, ← hn, t3]; omega
      · rw [← hf, ← hn] at hj
        rw [← hm, ← hf]
        exact (hd j (by omega)).2.2
      · rw [← hm, ← hf, ← hn] at hx; exact ho x hx
theorem ke_28_1_11 {E : q_E} {σ : x_S} {Q : Option q_V → x_S → Prop} (h4 : σ 1 4 = 0) (C0 : y_CI σ) (kS : y_iM (y_cx σ) (σ 1 3) = true → ∀ τ, y_CI τ → y_sr 15 σ τ → τ 1 3 = σ 1 3 + 3 + y_pw (y_ch (y_cx σ (σ 1 3 + 1) - 97)) → τ 1 4 = 0 → (∀ j : Nat, (j : Int) < y_pw (y_ch (y_cx σ (σ 1 3 + 1) - 97)) → τ 15 ((((y_cx σ (σ 1 3) - 48) * 5 + (y_cx σ (σ 1 3 + 1) - 97)) * 4).toNat + j) = y_cx σ (σ 1 3 + 3 + j) - 48) → (∀ x, ¬ ((((y_cx σ (σ 1 3) - 48) * 5 + (y_cx σ (σ 1 3 + 1) - 97)) * 4).toNat ≤ x ∧ x < (((y_cx σ (σ 1 3) - 48) * 5 + (y_cx σ (σ 1 3 + 1) - 97)) * 4).toNat + (y_pw (y_ch (y_cx σ (σ 1 3 + 1) - 97))).toNat) → τ 15 x = σ 15 x) → Q none τ) (kF : ¬ y_iM (y_cx σ) (σ 1 3) = true → ∀ τ, y_CI τ → y_sr 15 σ τ → τ 1 4 = 1 → Q none τ) : x_P E 28 [x_R 1, x_R 11] σ Q := by
  have c4 : 0 ≤ σ 1 4 ∧ σ 1 4 ≤ 1 := C0 1 4 (by decide) (by decide) (by decide)
  refine x_Mt e_28 (h_28 E) (Nat.le_of_ble_eq_true rfl) t_28 rfl ?_
  refine x_blk (b := 0) (a_28 E) rfl ?_
  unfold b_28_0
  refine x_aload rfl ?_
  refine x_push 2 rfl ?_
  refine x_cV (fun _ => rfl) rfl (by decide) (Nat.le_of_ble_eq_true rfl) ?_
  have Q1 := h4
  refine ke_8_1 (by omega) (by omega) C0 (fun s1 c1 S1 C1 f1 p1 q1 => ?_) (fun n1 S1 C1 f1 p1 q1 => ?_)
  · skip
    have cc1 := c1
    have P1b : S1 1 3 = σ 1 3 + 1 := by omega
    refine x_istore ?_
    refine x_aload rfl ?_
    refine x_cV (fun _ => rfl) rfl (by decide) (Nat.le_of_ble_eq_true rfl) ?_
    have G2 : y_sr 15 σ S1 := y_sr_tr (y_sr_rf) (y_sr_sc f1)
    have X2 : y_cx S1 = y_cx σ := y_sr_x (r := 15) (by decide) G2
    have P2 : S1 1 3 = σ 1 3 + 1 := P1b
    have Q2 : S1 1 4 = 0 := q1
    refine ke_15_1  C1 (fun s2 c2 S2 C2 f2 p2 q2 => ?_) (fun n2 S2 C2 f2 p2 q2 => ?_)
    · skip
      have cc2 := c2
      rw [X2, P2] at cc2
      have P2b : S2 1 3 = σ 1 3 + 2 := by omega
      refine x_istore ?_
      refine x_X_lo (lo' := [(0, x_R 1), (1, x_R 11), (2, x_I _), (3, x_I _)]) ⟨rfl, rfl, rfl, rfl, trivial⟩ ?_
      refine x_aload rfl ?_
      refine x_push 61 rfl ?_
      refine x_cV (fun _ => rfl) rfl (by decide) (Nat.le_of_ble_eq_true rfl) ?_
      have G3 : y_sr 15 σ S2 := y_sr_tr (y_sr_tr (y_sr_rf) (y_sr_sc f1)) (y_sr_sc f2)
      have X3 : y_cx S2 = y_cx σ := y_sr_x (r := 15) (by decide) G3
      have P3 : S2 1 3 = σ 1 3 + 2 := P2b
      have Q3 : S2 1 4 = 0 := q2
      refine ke_9_1 (by omega) (by omega) C2 (fun s3 c3 S3 C3 f3 p3 q3 => ?_) (fun n3 S3 C3 f3 p3 q3 => ?_)
      · skip
        have cc3 := c3
        rw [X3, P3] at cc3
        have P3b : S3 1 3 = σ 1 3 + 3 := by omega
        refine x_push 1 rfl ?_
        refine x_iload rfl ?_
        refine x_cS (fun _ => rfl) (Nat.le_of_ble_eq_true rfl) ?_
        refine ke_7 (by omega) (by omega) (fun v4 v4a v4b v4c => ?_)
        refine x_shl1 (by omega) (by omega) ?_
        have hwv4 := y_pwx v4
        refine x_istore ?_
        refine x_push 0 rfl ?_
        refine x_istore ?_
        refine x_X_lo (lo' := [(0, x_R 1), (1, x_R 11), (2, x_I _), (3, x_I _), (4, x_I _), (5, x_I _)]) ⟨rfl, rfl, rfl, rfl, rfl, rfl, trivial⟩ ?_
        refine x_fall ?_
        refine x_G_lo (lo' := [(0, x_R 1), (1, x_R 11), (2, x_I _), (3, x_I _), (4, x_I _), (5, x_I _)]) ⟨rfl, rfl, rfl, rfl, rfl, rfl, trivial⟩ ?_
        have gg : y_sr 15 σ S3 := y_sr_tr (y_sr_tr (y_sr_tr (y_sr_rf) (y_sr_sc f1)) (y_sr_sc f2)) (y_sr_sc f3)
        have tm : y_cx S1 (S1 1 3) - 97 = y_cx σ (σ 1 3 + 1) - 97 := by rw [X2, P2]
        have e1 := y_chx (y_cx S1 (S1 1 3) - 97)
        have e2 := y_pwx (y_ch (y_cx S1 (S1 1 3) - 97))
        exact ke_28_1_11_b3 h4 C0 kS kF (m := y_cx σ (σ 1 3) - 48) (f := y_cx S1 (S1 1 3) - 97) (n := y_pw v4) rfl tm (by omega) ⟨by omega, by omega, by omega, by omega, by omega⟩ _ 0 S3 rfl (by omega) (by omega) C3 gg (q3) (by omega) (fun j hj => absurd hj (by omega)) (fun x _ => (y_sc_tr (y_sc_tr f1 f2) f3) 15 x (fun z => absurd z (by decide)))
      · skip
        have nn3 : ¬ _ := fun z => n3 ⟨Q3, z⟩
        rw [X3, P3] at nn3
        refine x_push 1 rfl ?_
        refine x_iload rfl ?_
        refine x_cS (fun _ => rfl) (Nat.le_of_ble_eq_true rfl) ?_
        refine ke_7 (by omega) (by omega) (fun v5 v5a v5b v5c => ?_)
        refine x_shl1 (by omega) (by omega) ?_
        have hwv5 := y_pwx v5
        refine x_istore ?_
        refine x_push 0 rfl ?_
        refine x_istore ?_
        refine x_X_lo (lo' := [(0, x_R 1), (1, x_R 11), (2, x_I _), (3, x_I _), (4, x_I _), (5, x_I _)]) ⟨rfl, rfl, rfl, rfl, rfl, rfl, trivial⟩ ?_
        refine x_fall ?_
        refine x_blk (b := 3) (a_28 E) rfl ?_
        unfold b_28_3
        refine x_iload rfl ?_
        refine x_iload rfl ?_
        refine x_icmp_ge (by omega) (by omega) (by omega) (by omega) (fun z6 => ?_) (fun z => absurd (by omega) z)
        refine x_aload rfl ?_
        refine x_getIG y_f1_4 C3 ?_
        intro g7a g7b
        refine x_if_ne (by omega) (by omega) (fun z => absurd z (by omega)) (fun z8 => ?_)
        refine x_blk (b := 1) (a_28 E) rfl ?_
        unfold b_28_1
        refine x_vret ?_
        refine kF (fun z => ?_) _ C3 (y_sr_tr (y_sr_tr (y_sr_tr (y_sr_rf) (y_sr_sc f1)) (y_sr_sc f2)) (y_sr_sc f3)) (q3)
        have z2 := (y_iM_i.mp z).1
        omega
    · skip
      have nn2 : ¬ _ := fun z => n2 ⟨Q2, z⟩
      rw [X2, P2] at nn2
      refine x_istore ?_
      refine x_X_lo (lo' := [(0, x_R 1), (1, x_R 11), (2, x_I _), (3, x_I _)]) ⟨rfl, rfl, rfl, rfl, trivial⟩ ?_
      refine x_aload rfl ?_
      refine x_push 61 rfl ?_
      refine x_cV (fun _ => rfl) rfl (by decide) (Nat.le_of_ble_eq_true rfl) ?_
      have G9 : y_sr 15 σ S2 := y_sr_tr (y_sr_tr (y_sr_rf) (y_sr_sc f1)) (y_sr_sc f2)
      have X9 : y_cx S2 = y_cx σ := y_sr_x (r := 15) (by decide) G9
      have Q9 : S2 1 4 = 1 := q2
      refine ke_9_1 (by omega) (by omega) C2 (fun s9 => absurd s9 (by omega)) (fun n9 S9 C9 f9 p9 q9 => ?_)
      skip
      refine x_push 1 rfl ?_
      refine x_iload rfl ?_
      refine x_cS (fun _ => rfl) (Nat.le_of_ble_eq_true rfl) ?_
      refine ke_7 (by omega) (by omega) (fun v10 v10a v10b v10c => ?_)
      refine x_shl1 (by omega) (by omega) ?_
      have hwv10 := y_pwx v10
      refine x_istore ?_
      refine x_push 0 rfl ?_
      refine x_istore ?_
      refine x_X_lo (lo' := [(0, x_R 1), (1, x_R 11), (2, x_I _), (3, x_I _), (4, x_I _), (5, x_I _)]) ⟨rfl, rfl, rfl, rfl, rfl, rfl, trivial⟩ ?_
      refine x_fall ?_
      refine x_blk (b := 3) (a_28 E) rfl ?_
      unfold b_28_3
      refine x_iload rfl ?_
      refine x_iload rfl ?_
      refine x_icmp_ge (by omega) (by omega) (by omega) (by omega) (fun z11 => ?_) (fun z => absurd (by omega) z)
      refine x_aload rfl ?_
      refine x_getIG y_f1_4 C9 ?_
      intro g12a g12b
      refine x_if_ne (by omega) (by omega) (fun z => absurd z (by omega)) (fun z13 => ?_)
      refine x_blk (b := 1) (a_28 E) rfl ?_
      unfold b_28_1
      refine x_vret ?_
      refine kF (fun z => ?_) _ C9 (y_sr_tr (y_sr_tr (y_sr_tr (y_sr_rf) (y_sr_sc f1)) (y_sr_sc f2)) (y_sr_sc f9)) (q9)
      have z2 := (y_iM_i.mp z).1
      omega
  · skip
    have nn1 : ¬ _ := fun z => n1 ⟨Q1, z⟩
    refine x_istore ?_
    refine x_aload rfl ?_
    refine x_cV (fun _ => rfl) rfl (by decide) (Nat.le_of_ble_eq_true rfl) ?_
    have G14 : y_sr 15 σ S1 := y_sr_tr (y_sr_rf) (y_sr_sc f1)
    have X14 : y_cx S1 = y_cx σ := y_sr_x (r := 15) (by decide) G14
    have Q14 : S1 1 4 = 1 := q1
    refine ke_15_1  C1 (fun s14 => absurd s14 (by omega)) (fun n14 S14 C14 f14 p14 q14 => ?_)
    skip
    refine x_istore ?_
    refine x_X_lo (lo' := [(0, x_R 1), (1, x_R 11), (2, x_I _), (3, x_I _)]) ⟨rfl, rfl, rfl, rfl, trivial⟩ ?_
    refine x_aload rfl ?_
    refine x_push 61 rfl ?_
    refine x_cV (fun _ => rfl) rfl (by decide) (Nat.le_of_ble_eq_true rfl) ?_
    have G15 : y_sr 15 σ S14 := y_sr_tr (y_sr_tr (y_sr_rf) (y_sr_sc f1)) (y_sr_sc f14)
    have X15 : y_cx S14 = y_cx σ := y_sr_x (r := 15) (by decide) G15
    have Q15 : S14 1 4 = 1 := q14
    refine ke_9_1 (by omega) (by omega) C14 (fun s15 => absurd s15 (by omega)) (fun n15 S15 C15 f15 p15 q15 => ?_)
    skip
    refine x_push 1 rfl ?_
    refine x_iload rfl ?_
    refine x_cS (fun _ => rfl) (Nat.le_of_ble_eq_true rfl) ?_
    refine ke_7 (by omega) (by omega) (fun v16 v16a v16b v16c => ?_)
    refine x_shl1 (by omega) (by omega) ?_
    have hwv16 := y_pwx v16
    refine x_istore ?_
    refine x_push 0 rfl ?_
    refine x_istore ?_
    refine x_X_lo (lo' := [(0, x_R 1), (1, x_R 11), (2, x_I _), (3, x_I _), (4, x_I _), (5, x_I _)]) ⟨rfl, rfl, rfl, rfl, rfl, rfl, trivial⟩ ?_
    refine x_fall ?_
    refine x_blk (b := 3) (a_28 E) rfl ?_
    unfold b_28_3
    refine x_iload rfl ?_
    refine x_iload rfl ?_
    refine x_icmp_ge (by omega) (by omega) (by omega) (by omega) (fun z17 => ?_) (fun z => absurd (by omega) z)
    refine x_aload rfl ?_
    refine x_getIG y_f1_4 C15 ?_
    intro g18a g18b
    refine x_if_ne (by omega) (by omega) (fun z => absurd z (by omega)) (fun z19 => ?_)
    refine x_blk (b := 1) (a_28 E) rfl ?_
    unfold b_28_1
    refine x_vret ?_
    refine kF (fun z => ?_) _ C15 (y_sr_tr (y_sr_tr (y_sr_tr (y_sr_rf) (y_sr_sc f1)) (y_sr_sc f14)) (y_sr_sc f15)) (q15)
    have z2 := (y_iM_i.mp z).1
    omega
