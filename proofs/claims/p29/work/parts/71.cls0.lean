theorem sf_2 {E : q_E} {σ : x_S} {Q : Option q_V → x_S → Prop} {a0 a1 : Int} (a0l : (-2147483648) ≤ a0) (a0h : a0 ≤ 2147483647) (a1l : (-2147483648) ≤ a1) (a1h : a1 ≤ 2147483647) (C0 : y_CI σ) (k1 : 0 ≤ a0 ∧ a0 < a1 → Q (some (x_I 1)) σ) (k0 : ¬ (0 ≤ a0 ∧ a0 < a1) → Q (some (x_I 0)) σ) : x_P E 2 [x_I a0, x_I a1] σ Q := by
  refine x_Mt e_2 (h_2 E) (Nat.le_of_ble_eq_true rfl) t_2 rfl ?_
  refine x_blk (b := 0) (a_2 E) rfl ?_
  unfold b_2_0
  refine x_iload rfl ?_
  refine x_if_lt (by omega) (by omega) (fun z1 => ?_) (fun z1 => ?_)
  · skip
    refine x_blk (b := 1) (a_2 E) rfl ?_
    unfold b_2_1
    refine x_push 0 rfl ?_
    refine x_fall ?_
    refine x_blk (b := 2) (a_2 E) rfl ?_
    unfold b_2_2
    refine x_zret (by decide) ?_
    exact k0 (by omega)
  · skip
    refine x_iload rfl ?_
    refine x_iload rfl ?_
    refine x_icmp_ge (by omega) (by omega) (by omega) (by omega) (fun z2 => ?_) (fun z2 => ?_)
    · skip
      refine x_push 1 rfl ?_
      refine x_goto ?_
      refine x_blk (b := 2) (a_2 E) rfl ?_
      unfold b_2_2
      refine x_zret (by decide) ?_
      exact k1 (by omega)
    · skip
      refine x_blk (b := 1) (a_2 E) rfl ?_
      unfold b_2_1
      refine x_push 0 rfl ?_
      refine x_fall ?_
      refine x_blk (b := 2) (a_2 E) rfl ?_
      unfold b_2_2
      refine x_zret (by decide) ?_
      exact k0 (by omega)
theorem sf_7 {E : q_E} {σ : x_S} {Q : Option q_V → x_S → Prop} {a0 : Int} (a0l : (-2147483648) ≤ a0) (a0h : a0 ≤ 2147483647) (C0 : y_CI σ) (k : ∀ v, 0 ≤ v → v ≤ 2 → Q (some (x_I v)) σ) : x_P E 7 [x_I a0] σ Q := by
  refine x_Mt e_7 (h_7 E) (Nat.le_of_ble_eq_true rfl) t_7 rfl ?_
  refine x_blk (b := 0) (a_7 E) rfl ?_
  unfold b_7_0
  refine x_iload rfl ?_
  refine x_if_lt (by omega) (by omega) (fun z1 => ?_) (fun z1 => ?_)
  · skip
    refine x_blk (b := 1) (a_7 E) rfl ?_
    unfold b_7_1
    refine x_push 0 rfl ?_
    refine x_fall ?_
    refine x_blk (b := 2) (a_7 E) rfl ?_
    unfold b_7_2
    refine x_iret ?_
    exact k _ (by omega) (by omega) 
  · skip
    refine x_iload rfl ?_
    refine x_push 5 rfl ?_
    refine x_icmp_ge (by omega) (by omega) (by omega) (by omega) (fun z2 => ?_) (fun z2 => ?_)
    · skip
      refine x_pushv ?_
      refine x_iload rfl ?_
      refine x_chiG (by omega) (by omega) (fun v3 v3a v3b => ?_)
      refine x_goto ?_
      refine x_blk (b := 2) (a_7 E) rfl ?_
      unfold b_7_2
      refine x_iret ?_
      exact k _ (by omega) (by omega) 
    · skip
      refine x_blk (b := 1) (a_7 E) rfl ?_
      unfold b_7_1
      refine x_push 0 rfl ?_
      refine x_fall ?_
      refine x_blk (b := 2) (a_7 E) rfl ?_
      unfold b_7_2
      refine x_iret ?_
      exact k _ (by omega) (by omega) 
theorem sf_6_11 {E : q_E} {σ : x_S} {Q : Option q_V → x_S → Prop} {a1 a2 : Int} (a1l : (-2147483648) ≤ a1) (a1h : a1 ≤ 2147483647) (a2l : (-2147483648) ≤ a2) (a2h : a2 ≤ 2147483647) (C0 : y_CI σ) (k : ∀ v, 0 ≤ v → v ≤ 15 → Q (some (x_I v)) σ) : x_P E 6 [x_R 11, x_I a1, x_I a2] σ Q := by
  refine x_Mt e_6 (h_6 E) (Nat.le_of_ble_eq_true rfl) t_6 rfl ?_
  refine x_blk (b := 0) (a_6 E) rfl ?_
  unfold b_6_0
  refine x_iload rfl ?_
  refine x_push 16 rfl ?_
  refine x_cS (fun _ => rfl) (Nat.le_of_ble_eq_true rfl) ?_
  refine sf_2 (by omega) (by omega) (by omega) (by omega) C0 (fun y1 => ?_) (fun y1 => ?_)
  · skip
    refine x_if_eq (by omega) (by omega) (fun z => absurd z (by omega)) (fun z2 => ?_)
    refine x_iload rfl ?_
    refine x_push 12 rfl ?_
    refine x_cS (fun _ => rfl) (Nat.le_of_ble_eq_true rfl) ?_
    refine sf_2 (by omega) (by omega) (by omega) (by omega) C0 (fun y3 => ?_) (fun y3 => ?_)
    · skip
      refine x_if_eq (by omega) (by omega) (fun z => absurd z (by omega)) (fun z4 => ?_)
      refine x_aload rfl ?_
      refine x_getR (r := 11) rfl (by decide) (by decide) rfl ?_
      refine x_iload rfl ?_
      refine x_push 12 rfl ?_
      refine x_imul ?_
      refine x_iload rfl ?_
      refine x_iadd ?_
      refine x_ialdG y_a16 C0 (by omega) (by omega) (fun v5 v5a v5b => ?_)
      refine x_goto ?_
      refine x_blk (b := 2) (a_6 E) rfl ?_
      unfold b_6_2
      refine x_iret ?_
      exact k _ (by omega) (by omega) 
    · skip
      refine x_if_eq (by omega) (by omega) (fun z6 => ?_) (fun z => absurd (by omega) z)
      refine x_blk (b := 1) (a_6 E) rfl ?_
      unfold b_6_1
      refine x_push 0 rfl ?_
      refine x_fall ?_
      refine x_blk (b := 2) (a_6 E) rfl ?_
      unfold b_6_2
      refine x_iret ?_
      exact k _ (by omega) (by omega) 
  · skip
    refine x_if_eq (by omega) (by omega) (fun z7 => ?_) (fun z => absurd (by omega) z)
    refine x_blk (b := 1) (a_6 E) rfl ?_
    unfold b_6_1
    refine x_push 0 rfl ?_
    refine x_fall ?_
    refine x_blk (b := 2) (a_6 E) rfl ?_
    unfold b_6_2
    refine x_iret ?_
    exact k _ (by omega) (by omega) 
theorem sf_10 {E : q_E} {σ : x_S} {Q : Option q_V → x_S → Prop} {a0 a1 a2 a3 : Int} (a0l : 0 ≤ a0) (a0h : a0 ≤ 15) (a1l : 0 ≤ a1) (a1h : a1 ≤ 15) (a2l : 0 ≤ a2) (a2h : a2 ≤ 15) (a3l : 0 ≤ a3) (a3h : a3 ≤ 2) (C0 : y_CI σ) (k : ∀ v, 0 ≤ v → v ≤ 947 → v = ((a0 * 3 + a1) * 5 + a2) * 3 + a3 → Q (some (x_I v)) σ) : x_P E 10 [x_I a0, x_I a1, x_I a2, x_I a3] σ Q := by
  refine x_Mt e_10 (h_10 E) (Nat.le_of_ble_eq_true rfl) t_10 rfl ?_
  refine x_blk (b := 0) (a_10 E) rfl ?_
  unfold b_10_0
  refine x_iload rfl ?_
  refine x_push 3 rfl ?_
  refine x_imul ?_
  refine x_iload rfl ?_
  refine x_iadd ?_
  refine x_push 5 rfl ?_
  refine x_imul ?_
  refine x_iload rfl ?_
  refine x_iadd ?_
  refine x_push 3 rfl ?_
  refine x_imul ?_
  refine x_iload rfl ?_
  refine x_iadd ?_
  refine x_iret ?_
  exact k _ (by omega) (by omega) (by omega)
theorem sf_11_11 {E : q_E} {σ : x_S} {Q : Option q_V → x_S → Prop} {a1 : Int} (a1l : (-2147483648) ≤ a1) (a1h : a1 ≤ 2147483647) (C0 : y_CI σ) (k : ∀ v, 0 ≤ v → v ≤ 3 → Q (some (x_I v)) σ) : x_P E 11 [x_R 11, x_I a1] σ Q := by
  refine x_Mt e_11 (h_11 E) (Nat.le_of_ble_eq_true rfl) t_11 rfl ?_
  refine x_blk (b := 0) (a_11 E) rfl ?_
  unfold b_11_0
  refine x_iload rfl ?_
  refine x_push 2 rfl ?_
  refine x_cS (fun _ => rfl) (Nat.le_of_ble_eq_true rfl) ?_
  refine sf_2 (by omega) (by omega) (by omega) (by omega) C0 (fun y1 => ?_) (fun y1 => ?_)
  · skip
    refine x_if_eq (by omega) (by omega) (fun z => absurd z (by omega)) (fun z2 => ?_)
    refine x_aload rfl ?_
    refine x_getR (r := 11) rfl (by decide) (by decide) rfl ?_
    refine x_iload rfl ?_
    refine x_ialdG y_a14 C0 (by omega) (by omega) (fun v3 v3a v3b => ?_)
    refine x_goto ?_
    refine x_blk (b := 2) (a_11 E) rfl ?_
    unfold b_11_2
    refine x_iret ?_
    exact k _ (by omega) (by omega) 
  · skip
    refine x_if_eq (by omega) (by omega) (fun z4 => ?_) (fun z => absurd (by omega) z)
    refine x_blk (b := 1) (a_11 E) rfl ?_
    unfold b_11_1
    refine x_push 0 rfl ?_
    refine x_fall ?_
    refine x_blk (b := 2) (a_11 E) rfl ?_
    unfold b_11_2
    refine x_iret ?_
    exact k _ (by omega) (by omega) 
theorem sf_12_11 {E : q_E} {σ : x_S} {Q : Option q_V → x_S → Prop} {a1 a2 : Int} (a1l : 0 ≤ a1) (a1h : a1 ≤ 15) (a2l : 0 ≤ a2) (a2h : a2 ≤ 2) (C0 : y_CI σ) (k : ∀ τ, y_CI τ → y_fq 17 18 σ τ → Q none τ) : x_P E 12 [x_R 11, x_I a1, x_I a2] σ Q := by
  refine x_Mt e_12 (h_12 E) (Nat.le_of_ble_eq_true rfl) t_12 rfl ?_
  refine x_blk (b := 0) (a_12 E) rfl ?_
  unfold b_12_0
  refine x_aload rfl ?_
  refine x_iload rfl ?_
  refine x_push 0 rfl ?_
  refine x_cV (fun _ => rfl) rfl (by decide) (Nat.le_of_ble_eq_true rfl) ?_
  refine sf_6_11 (by omega) (by omega) (by omega) (by omega) C0 (fun v1 v1a v1b => ?_)
  refine x_istore ?_
  refine x_iload rfl ?_
  refine x_aload rfl ?_
  refine x_iload rfl ?_
  refine x_push 1 rfl ?_
  refine x_cV (fun _ => rfl) rfl (by decide) (Nat.le_of_ble_eq_true rfl) ?_
  refine sf_6_11 (by omega) (by omega) (by omega) (by omega) C0 (fun v2 v2a v2b => ?_)
  refine x_aload rfl ?_
  refine x_iload rfl ?_
  refine x_push 2 rfl ?_
  refine x_cV (fun _ => rfl) rfl (by decide) (Nat.le_of_ble_eq_true rfl) ?_
  refine sf_6_11 (by omega) (by omega) (by omega) (by omega) C0 (fun v3 v3a v3b => ?_)
  refine x_iload rfl ?_
  refine x_cS (fun _ => rfl) (Nat.le_of_ble_eq_true rfl) ?_
  refine sf_10 (by omega) (by omega) (by omega) (by omega) (by omega) (by omega) (by omega) (by omega) C0 (fun v4 v4a v4b k4_0 => ?_)
  refine x_istore ?_
  refine x_X_lo (lo' := [(0, x_R 11), (1, x_I _), (2, x_I _), (3, x_I _), (4, x_I _)]) ⟨rfl, rfl, rfl, rfl, rfl, trivial⟩ ?_
  refine x_aload rfl ?_
  refine x_iload rfl ?_
  refine x_cV (fun _ => rfl) rfl (by decide) (Nat.le_of_ble_eq_true rfl) ?_
  refine sf_11_11 (by omega) (by omega) C0 (fun v5 v5a v5b => ?_)
  refine x_push 1 rfl ?_
  refine x_iandM (by omega) (by omega) (fun v6 v6a v6b => ?_)
  refine x_if_eq (by omega) (by omega) (fun z7 => ?_) (fun z7 => ?_)
  · skip
    refine x_blk (b := 1) (a_12 E) rfl ?_
    unfold b_12_1
    refine x_push 0 rfl ?_
    refine x_fall ?_
    refine x_blk (b := 2) (a_12 E) rfl ?_
    unfold b_12_2
    refine x_istore ?_
    refine x_iload rfl ?_
    refine x_aload rfl ?_
    refine x_getR (r := 11) rfl (by decide) (by decide) rfl ?_
    refine x_lenG (n := 90) (L := 90) rfl (by decide) rfl (by decide) rfl ?_
    refine x_cS (fun _ => rfl) (Nat.le_of_ble_eq_true rfl) ?_
    refine sf_2 (by omega) (by omega) (by omega) (by omega) C0 (fun y8 => ?_) (fun y8 => ?_)
    · skip
      refine x_if_eq (by omega) (by omega) (fun z => absurd z (by omega)) (fun z9 => ?_)
      refine x_aload rfl ?_
      refine x_getR (r := 11) rfl (by decide) (by decide) rfl ?_
      refine x_iload rfl ?_
      refine x_ialdG y_a17 C0 (by omega) (by omega) (fun v10 v10a v10b => ?_)
      refine x_if_lt (by omega) (by omega) (fun z11 => ?_) (fun z11 => ?_)
      · skip
        refine x_blk (b := 4) (a_12 E) rfl ?_
        unfold b_12_4
        refine x_aload rfl ?_
        refine x_getR (r := 11) rfl (by decide) (by decide) rfl ?_
        refine x_iload rfl ?_
        refine x_iload rfl ?_
        refine x_astG y_a17 C0 (by decide) (y_fr_rf (lo := 17) (hi := 18)) (by omega) (by omega) (by omega) (by omega) (fun S12 e12 C12 F12 => ?_)
        refine x_fall ?_
        refine x_blk (b := 3) (a_12 E) rfl ?_
        unfold b_12_3
        refine x_vret ?_
        exact k _ C12 F12 
      · skip
        refine x_iload rfl ?_
        refine x_if_eq (by omega) (by omega) (fun z13 => ?_) (fun z => absurd (by omega) z)
        refine x_blk (b := 3) (a_12 E) rfl ?_
        unfold b_12_3
        refine x_vret ?_
        exact k _ C0 (y_fr_rf (lo := 17) (hi := 18)) 
    · skip
      refine x_if_eq (by omega) (by omega) (fun z14 => ?_) (fun z => absurd (by omega) z)
      refine x_blk (b := 3) (a_12 E) rfl ?_
      unfold b_12_3
      refine x_vret ?_
      exact k _ C0 (y_fr_rf (lo := 17) (hi := 18)) 
  · skip
    refine x_push 1 rfl ?_
    refine x_goto ?_
    refine x_blk (b := 2) (a_12 E) rfl ?_
    unfold b_12_2
    refine x_istore ?_
    refine x_iload rfl ?_
    refine x_aload rfl ?_
    refine x_getR (r := 11) rfl (by decide) (by decide) rfl ?_
    refine x_lenG (n := 90) (L := 90) rfl (by decide) rfl (by decide) rfl ?_
    refine x_cS (fun _ => rfl) (Nat.le_of_ble_eq_true rfl) ?_
    refine sf_2 (by omega) (by omega) (by omega) (by omega) C0 (fun y15 => ?_) (fun y15 => ?_)
    · skip
      refine x_if_eq (by omega) (by omega) (fun z => absurd z (by omega)) (fun z16 => ?_)
      refine x_aload rfl ?_
      refine x_getR (r := 11) rfl (by decide) (by decide) rfl ?_
      refine x_iload rfl ?_
      refine x_ialdG y_a17 C0 (by omega) (by omega) (fun v17 v17a v17b => ?_)
      refine x_if_lt (by omega) (by omega) (fun z18 => ?_) (fun z18 => ?_)
      · skip
        refine x_blk (b := 4) (a_12 E) rfl ?_
        unfold b_12_4
        refine x_aload rfl ?_
        refine x_getR (r := 11) rfl (by decide) (by decide) rfl ?_
        refine x_iload rfl ?_
        refine x_iload rfl ?_
        refine x_astG y_a17 C0 (by decide) (y_fr_rf (lo := 17) (hi := 18)) (by omega) (by omega) (by omega) (by omega) (fun S19 e19 C19 F19 => ?_)
        refine x_fall ?_
        refine x_blk (b := 3) (a_12 E) rfl ?_
        unfold b_12_3
        refine x_vret ?_
        exact k _ C19 F19 
      · skip
        refine x_iload rfl ?_
        refine x_if_eq (by omega) (by omega) (fun z => absurd z (by omega)) (fun z20 => ?_)
        refine x_fall ?_
        refine x_blk (b := 4) (a_12 E) rfl ?_
        unfold b_12_4
        refine x_aload rfl ?_
        refine x_getR (r := 11) rfl (by decide) (by decide) rfl ?_
        refine x_iload rfl ?_
        refine x_iload rfl ?_
        refine x_astG y_a17 C0 (by decide) (y_fr_rf (lo := 17) (hi := 18)) (by omega) (by omega) (by omega) (by omega) (fun S21 e21 C21 F21 => ?_)
        refine x_fall ?_
        refine x_blk (b := 3) (a_12 E) rfl ?_
        unfold b_12_3
        refine x_vret ?_
        exact k _ C21 F21 
    · skip
      refine x_if_eq (by omega) (by omega) (fun z22 => ?_) (fun z => absurd (by omega) z)
      refine x_blk (b := 3) (a_12 E) rfl ?_
      unfold b_12_3
      refine x_vret ?_
      exact k _ C0 (y_fr_rf (lo := 17) (hi := 18)) 
theorem sf_27_17_b2 {E : q_E} {σ : x_S} {Q : Option q_V → x_S → Prop} {a1 : Int} (a1l : (-4) ≤ a1) (a1h : a1 ≤ 15) (C0 : y_CI σ) (k : ∀ τ, y_CI τ → y_fq 17 18 σ τ → Q none τ) : ∀ (N : Nat) (i : Int) (τ : x_S), (100 - i).toNat = N → 0 ≤ i → i ≤ 100 → y_CI τ → y_fq 17 18 σ τ → x_G E m_27 Q (t_27 2) [(0, x_R 17), (1, x_I a1), (2, x_I i), (3, x_I 90)] [] τ := by
  intro N
  induction N using Nat.strongRecOn with
  | ind N ih =>
    intro i τ hN iL iH C F
    refine x_blk (b := 2) (a_27 E) rfl ?_
    unfold b_27_2
    refine x_iload rfl ?_
    refine x_iload rfl ?_
    refine x_icmp_ge (by omega) (by omega) (by omega) (by omega) (fun z1 => ?_) (fun z1 => ?_)
    · skip
      refine x_aload rfl ?_
      refine x_iload rfl ?_
      refine x_iload rfl ?_
      refine x_astG y_a17 C (by decide) F (by omega) (by omega) (by omega) (by omega) (fun S2 e2 C2 F2 => ?_)
      refine x_iinc 1 rfl rfl ?_
      refine x_goto ?_
      refine x_G_lo (lo' := [(0, x_R 17), (1, x_I _), (2, x_I _), (3, x_I _)]) ⟨rfl, rfl, rfl, rfl, trivial⟩ ?_
      exact ih _ (by omega) _ _ rfl (by omega) (by omega)  C2 F2
    · skip
      refine x_blk (b := 1) (a_27 E) rfl ?_
      unfold b_27_1
      refine x_vret ?_
      exact k _ C F 
theorem sf_27_17 {E : q_E} {σ : x_S} {Q : Option q_V → x_S → Prop} {a1 : Int} (a1l : (-4) ≤ a1) (a1h : a1 ≤ 15) (C0 : y_CI σ) (k : ∀ τ, y_CI τ → y_fq 17 18 σ τ → Q none τ) : x_P E 27 [x_R 17, x_I a1] σ Q := by
  refine x_Mt e_27 (h_27 E) (Nat.le_of_ble_eq_true rfl) t_27 rfl ?_
  refine x_blk (b := 0) (a_27 E) rfl ?_
  unfold b_27_0
  refine x_push 0 rfl ?_
  refine x_istore ?_
  refine x_aload rfl ?_
  refine x_lenG (n := 90) (L := 90) rfl (by decide) rfl (by decide) rfl ?_
  refine x_istore ?_
  refine x_X_lo (lo' := [(0, x_R 17), (1, x_I _), (2, x_I _), (3, x_I _)]) ⟨rfl, rfl, rfl, rfl, trivial⟩ ?_
  refine x_fall ?_
  refine x_G_lo (lo' := [(0, x_R 17), (1, x_I _), (2, x_I _), (3, x_I _)]) ⟨rfl, rfl, rfl, rfl, trivial⟩ ?_
  exact sf_27_17_b2 a1l a1h C0 k  _ _ _ rfl (by omega) (by omega)  C0 (y_fr_rf (lo := 17) (hi := 18))
theorem sf_48_11_b5 {E : q_E} {σ : x_S} {Q : Option q_V → x_S → Prop} (C0 : y_CI σ) (k : ∀ τ, y_CI τ → y_fq 17 18 σ τ → Q none τ) {r : Int} (rL : 0 ≤ r) (rH : r ≤ 15) (ho : ∀ (r' : Int) (τ' : x_S), (16 - r').toNat < (16 - r).toNat → 0 ≤ r' → r' ≤ 16 → y_CI τ' → y_fq 17 18 σ τ' → x_G E m_48 Q (t_48 6) [(0, x_R 11), (1, x_I r')] [] τ') : ∀ (N : Nat) (s l : Int) (τ : x_S), (3 - l).toNat = N → 0 ≤ s → s ≤ 15 → 0 ≤ l → l ≤ 3 → y_CI τ → y_fq 17 18 σ τ → x_G E m_48 Q (t_48 5) [(0, x_R 11), (1, x_I r), (2, x_I s), (3, x_I l)] [] τ := by
  intro N
  induction N using Nat.strongRecOn with
  | ind N ih =>
    intro s l τ hN sL sH lL lH C F
    refine x_blk (b := 5) (a_48 E) rfl ?_
    unfold b_48_5
    refine x_iload rfl ?_
    refine x_push 3 rfl ?_
    refine x_icmp_ge (by omega) (by omega) (by omega) (by omega) (fun z1 => ?_) (fun z1 => ?_)
    · skip
      refine x_iload rfl ?_
      refine x_push 2 rfl ?_
      refine x_icmp_eq (by omega) (by omega) (by omega) (by omega) (fun z2 => ?_) (fun z2 => ?_)
      · skip
        refine x_blk (b := 3) (a_48 E) rfl ?_
        unfold b_48_3
        refine x_aload rfl ?_
        refine x_iload rfl ?_
        refine x_iload rfl ?_
        refine x_cV (fun _ => rfl) rfl (by decide) (Nat.le_of_ble_eq_true rfl) ?_
        refine sf_12_11 (by omega) (by omega) (by omega) (by omega) C (fun S3 C3 f3 => ?_)
        have F3 := y_fq_tr (by decide) F f3
        refine x_fall ?_
        refine x_blk (b := 4) (a_48 E) rfl ?_
        unfold b_48_4
        refine x_iinc 1 rfl rfl ?_
        refine x_goto ?_
        refine x_G_lo (lo' := [(0, x_R 11), (1, x_I _), (2, x_I _), (3, x_I _)]) ⟨rfl, rfl, rfl, rfl, trivial⟩ ?_
        exact ih _ (by omega) _ _ _ rfl (by omega) (by omega) (by omega) (by omega)  C3 F3
      · skip
        refine x_iload rfl ?_
        refine x_iload rfl ?_
        refine x_icmp_ne (by omega) (by omega) (by omega) (by omega) (fun z4 => ?_) (fun z4 => ?_)
        · skip
          refine x_fall ?_
          refine x_blk (b := 3) (a_48 E) rfl ?_
          unfold b_48_3
          refine x_aload rfl ?_
          refine x_iload rfl ?_
          refine x_iload rfl ?_
          refine x_cV (fun _ => rfl) rfl (by decide) (Nat.le_of_ble_eq_true rfl) ?_
          refine sf_12_11 (by omega) (by omega) (by omega) (by omega) C (fun S5 C5 f5 => ?_)
          have F5 := y_fq_tr (by decide) F f5
          refine x_fall ?_
          refine x_blk (b := 4) (a_48 E) rfl ?_
          unfold b_48_4
          refine x_iinc 1 rfl rfl ?_
          refine x_goto ?_
          refine x_G_lo (lo' := [(0, x_R 11), (1, x_I _), (2, x_I _), (3, x_I _)]) ⟨rfl, rfl, rfl, rfl, trivial⟩ ?_
          exact ih _ (by omega) _ _ _ rfl (by omega) (by omega) (by omega) (by omega)  C5 F5
        · skip
          refine x_blk (b := 4) (a_48 E) rfl ?_
          unfold b_48_4
          refine x_iinc 1 rfl rfl ?_
          refine x_goto ?_
          refine x_G_lo (lo' := [(0, x_R 11), (1, x_I _), (2, x_I _), (3, x_I _)]) ⟨rfl, rfl, rfl, rfl, trivial⟩ ?_
          exact ih _ (by omega) _ _ _ rfl (by omega) (by omega) (by omega) (by omega)  C F
    · skip
      refine x_blk (b := 2) (a_48 E) rfl ?_
      unfold b_48_2
      refine x_iinc 1 rfl rfl ?_
      refine x_goto ?_
      refine x_G_lo (lo' := [(0, x_R 11), (1, x_I _)]) ⟨rfl, rfl, trivial⟩ ?_
      exact ho _ _ (by omega) (by omega) (by omega)  C F
theorem sf_48_11_b6 {E : q_E} {σ : x_S} {Q : Option q_V → x_S → Prop} (C0 : y_CI σ) (k : ∀ τ, y_CI τ → y_fq 17 18 σ τ → Q none τ) : ∀ (N : Nat) (r : Int) (τ : x_S), (16 - r).toNat = N → 0 ≤ r → r ≤ 16 → y_CI τ → y_fq 17 18 σ τ → x_G E m_48 Q (t_48 6) [(0, x_R 11), (1, x_I r)] [] τ := by
  intro N
  induction N using Nat.strongRecOn with
  | ind N ih =>
    intro r τ hN rL rH C F
    refine x_blk (b := 6) (a_48 E) rfl ?_
    unfold b_48_6
    refine x_iload rfl ?_
    refine x_aload rfl ?_
    refine x_getIG y_f11_6 C ?_
    intro g1a g1b
    refine x_icmp_ge (by omega) (by omega) (by omega) (by omega) (fun z2 => ?_) (fun z2 => ?_)
    · skip
      refine x_aload rfl ?_
      refine x_iload rfl ?_
      refine x_push 3 rfl ?_
      refine x_cV (fun _ => rfl) rfl (by decide) (Nat.le_of_ble_eq_true rfl) ?_
      refine sf_6_11 (by omega) (by omega) (by omega) (by omega) C (fun v3 v3a v3b => ?_)
      refine x_istore ?_
      refine x_push 0 rfl ?_
      refine x_istore ?_
      refine x_X_lo (lo' := [(0, x_R 11), (1, x_I _), (2, x_I _), (3, x_I _)]) ⟨rfl, rfl, rfl, rfl, trivial⟩ ?_
      refine x_fall ?_
      refine x_G_lo (lo' := [(0, x_R 11), (1, x_I _), (2, x_I _), (3, x_I _)]) ⟨rfl, rfl, rfl, rfl, trivial⟩ ?_
      exact sf_48_11_b5 C0 k (by omega) (by omega) (fun x0 t z h0 h1 c f => ih _ (by omega) x0 t rfl h0 h1 c f) _ _ _ _ rfl (by omega) (by omega) (by omega) (by omega)  C F
    · skip
      refine x_blk (b := 1) (a_48 E) rfl ?_
      unfold b_48_1
      refine x_vret ?_
      exact k _ C F 
theorem sf_48_11 {E : q_E} {σ : x_S} {Q : Option q_V → x_S → Prop} (C0 : y_CI σ) (k : ∀ τ, y_CI τ → y_fq 17 18 σ τ → Q none τ) : x_P E 48 [x_R 11] σ Q := by
  refine x_Mt e_48 (h_48 E) (Nat.le_of_ble_eq_true rfl) t_48 rfl ?_
  refine x_blk (b := 0) (a_48 E) rfl ?_
  unfold b_48_0
  refine x_aload rfl ?_
  refine x_getR (r := 11) rfl (by decide) (by decide) rfl ?_
  refine x_push (-4) rfl ?_
  refine x_cS (fun _ => rfl) (Nat.le_of_ble_eq_true rfl) ?_
  refine sf_27_17 (by omega) (by omega) C0 (fun S1 C1 f1 => ?_)
  have F1 := y_fq_tr (by decide) (y_fr_rf (lo := 17) (hi := 18)) f1
  refine x_push 0 rfl ?_
  refine x_istore ?_
  refine x_fall ?_
  refine x_G_lo (lo' := [(0, x_R 11), (1, x_I _)]) ⟨rfl, rfl, trivial⟩ ?_
  exact sf_48_11_b6 C0 k  _ _ _ rfl (by omega) (by omega)  C1 F1
