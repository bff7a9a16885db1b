/-! reads that are exact -/
section
variable {E : q_E} {M : q_M} {Q : Option q_V → x_S → Prop} {tg : Nat → Nat} {cs : List q_Op} {lo : q_Lo} {st : List q_V} {σ : x_S}
theorem x_ialdX {r n : Nat} {l h i : Int} (a : y_ar 0 r n l h) (C : y_CI σ) (hi : 0 ≤ i) (hn : i < n) (kk : ∀ v, v = σ r i.toNat → l ≤ v → v ≤ h → x_X E M Q tg cs lo (x_I v :: st) σ) : x_X E M Q tg (o_iald0 :: cs) lo (x_I i :: x_R r :: st) σ := by
  obtain ⟨a1, a2, a3, a4, a5, a6, a7, a8, a9, a10⟩ := a
  have c := C r i.toNat a5 (by omega) (by omega)
  rw [a6] at c
  exact x_iald a1 a2 (by omega) a4 rfl hi hn (fun _ _ => kk _ rfl c.1 c.2)
theorem x_iand1 {a : Int} (h1 : 0 ≤ a) (h2 : a ≤ 2147483647) (k : x_X E M Q tg cs lo (x_I (a % 2) :: st) σ) : x_X E M Q tg (o_bin f_iand :: cs) lo (x_I 1 :: x_I a :: st) σ := by
  have ha := x_c_nat h1 (by omega)
  refine x_bin (a % 2) ?_ k
  have e : f_iand (x_c a) (x_c 1) = x_c a % 2 := Nat.and_one_is_mod (x_c a)
  have h3 : 0 ≤ a % 2 ∧ a % 2 ≤ 1 := by omega
  have h4 := x_c_nat h3.1 (by omega)
  rw [e]
  omega
end
theorem kx_6_4 {E : q_E} {σ : x_S} {Q : Option q_V → x_S → Prop} {a1 a2 : Int} (a1l : -2147483648 ≤ a1) (a1h : a1 ≤ 2147483647) (a2l : -2147483648 ≤ a2) (a2h : a2 ≤ 2147483647) (C0 : y_CI σ) (k : ∀ v, 0 ≤ v → v ≤ 15 → (((0 ≤ a1 ∧ a1 < 16 ∧ 0 ≤ a2 ∧ a2 < 12) ∧ v = σ 9 (a1 * 12 + a2).toNat) ∨ (¬ (0 ≤ a1 ∧ a1 < 16 ∧ 0 ≤ a2 ∧ a2 < 12) ∧ v = 0)) → Q (some (x_I v)) σ) : x_P E 6 [x_R 4, x_I a1, x_I a2] σ Q := by
  refine x_Mt e_6 (h_6 E) (Nat.le_of_ble_eq_true rfl) t_6 rfl ?_
  refine x_blk (b := 0) (a_6 E) rfl ?_
  unfold b_6_0
  refine x_iload rfl ?_
  refine x_push 16 rfl ?_
  refine x_cS (fun _ => rfl) (Nat.le_of_ble_eq_true rfl) ?_
  refine sf_2 (by omega) (by omega) (by omega) (by omega) C0 (fun y1 => ?_) (fun y1 => ?_)
  · skip
    refine x_if_eq (by omega) (by omega) (fun z => absurd z (by omega)) (fun z2 => ?_)
    refine x_iload rfl ?_
    refine x_push 12 rfl ?_
    refine x_cS (fun _ => rfl) (Nat.le_of_ble_eq_true rfl) ?_
    refine sf_2 (by omega) (by omega) (by omega) (by omega) C0 (fun y3 => ?_) (fun y3 => ?_)
    · skip
      refine x_if_eq (by omega) (by omega) (fun z => absurd z (by omega)) (fun z4 => ?_)
      refine x_aload rfl ?_
      refine x_getR (r := 4) rfl (by decide) (by decide) rfl ?_
      refine x_iload rfl ?_
      refine x_push 12 rfl ?_
      refine x_imul ?_
      refine x_iload rfl ?_
      refine x_iadd ?_
      refine x_ialdX y_a9 C0 (by omega) (by omega) (fun v5 v5x v5a v5b => ?_)
      refine x_goto ?_
      refine x_blk (b := 2) (a_6 E) rfl ?_
      unfold b_6_2
      refine x_iret ?_
      exact k _ (by omega) (by omega) (by omega)
    · skip
      refine x_if_eq (by omega) (by omega) (fun z6 => ?_) (fun z => absurd (by omega) z)
      refine x_blk (b := 1) (a_6 E) rfl ?_
      unfold b_6_1
      refine x_push 0 rfl ?_
      refine x_fall ?_
      refine x_blk (b := 2) (a_6 E) rfl ?_
      unfold b_6_2
      refine x_iret ?_
      exact k _ (by omega) (by omega) (by omega)
  · skip
    refine x_if_eq (by omega) (by omega) (fun z7 => ?_) (fun z => absurd (by omega) z)
    refine x_blk (b := 1) (a_6 E) rfl ?_
    unfold b_6_1
    refine x_push 0 rfl ?_
    refine x_fall ?_
    refine x_blk (b := 2) (a_6 E) rfl ?_
    unfold b_6_2
    refine x_iret ?_
    exact k _ (by omega) (by omega) (by omega)
theorem kx_11_4 {E : q_E} {σ : x_S} {Q : Option q_V → x_S → Prop} {a1 : Int} (a1l : -2147483648 ≤ a1) (a1h : a1 ≤ 2147483647) (C0 : y_CI σ) (k : ∀ v, 0 ≤ v → v ≤ 3 → (((0 ≤ a1 ∧ a1 ≤ 1) ∧ v = σ 7 a1.toNat) ∨ (¬ (0 ≤ a1 ∧ a1 ≤ 1) ∧ v = 0)) → Q (some (x_I v)) σ) : x_P E 11 [x_R 4, x_I a1] σ Q := by
  refine x_Mt e_11 (h_11 E) (Nat.le_of_ble_eq_true rfl) t_11 rfl ?_
  refine x_blk (b := 0) (a_11 E) rfl ?_
  unfold b_11_0
  refine x_iload rfl ?_
  refine x_push 2 rfl ?_
  refine x_cS (fun _ => rfl) (Nat.le_of_ble_eq_true rfl) ?_
  refine sf_2 (by omega) (by omega) (by omega) (by omega) C0 (fun y1 => ?_) (fun y1 => ?_)
  · skip
    refine x_if_eq (by omega) (by omega) (fun z => absurd z (by omega)) (fun z2 => ?_)
    refine x_aload rfl ?_
    refine x_getR (r := 4) rfl (by decide) (by decide) rfl ?_
    refine x_iload rfl ?_
    refine x_ialdX y_a7 C0 (by omega) (by omega) (fun v3 v3x v3a v3b => ?_)
    refine x_goto ?_
    refine x_blk (b := 2) (a_11 E) rfl ?_
    unfold b_11_2
    refine x_iret ?_
    exact k _ (by omega) (by omega) (by omega)
  · skip
    refine x_if_eq (by omega) (by omega) (fun z4 => ?_) (fun z => absurd (by omega) z)
    refine x_blk (b := 1) (a_11 E) rfl ?_
    unfold b_11_1
    refine x_push 0 rfl ?_
    refine x_fall ?_
    refine x_blk (b := 2) (a_11 E) rfl ?_
    unfold b_11_2
    refine x_iret ?_
    exact k _ (by omega) (by omega) (by omega)
theorem kx_6_11 {E : q_E} {σ : x_S} {Q : Option q_V → x_S → Prop} {a1 a2 : Int} (a1l : -2147483648 ≤ a1) (a1h : a1 ≤ 2147483647) (a2l : -2147483648 ≤ a2) (a2h : a2 ≤ 2147483647) (C0 : y_CI σ) (k : ∀ v, 0 ≤ v → v ≤ 15 → (((0 ≤ a1 ∧ a1 < 16 ∧ 0 ≤ a2 ∧ a2 < 12) ∧ v = σ 16 (a1 * 12 + a2).toNat) ∨ (¬ (0 ≤ a1 ∧ a1 < 16 ∧ 0 ≤ a2 ∧ a2 < 12) ∧ v = 0)) → Q (some (x_I v)) σ) : x_P E 6 [x_R 11, x_I a1, x_I a2] σ Q := by
  refine x_Mt e_6 (h_6 E) (Nat.le_of_ble_eq_true rfl) t_6 rfl ?_
  refine x_blk (b := 0) (a_6 E) rfl ?_
  unfold b_6_0
  refine x_iload rfl ?_
  refine x_push 16 rfl ?_
  refine x_cS (fun _ => rfl) (Nat.le_of_ble_eq_true rfl) ?_
  refine sf_2 (by omega) (by omega) (by omega) (by omega) C0 (fun y1 => ?_) (fun y1 => ?_)
  · skip
    refine x_if_eq (by omega) (by omega) (fun z => absurd z (by omega)) (fun z2 => ?_)
    refine x_iload rfl ?_
    refine x_push 12 rfl ?_
    refine x_cS (fun _ => rfl) (Nat.le_of_ble_eq_true rfl) ?_
    refine sf_2 (by omega) (by omega) (by omega) (by omega) C0 (fun y3 => ?_) (fun y3 => ?_)
    · skip
      refine x_if_eq (by omega) (by omega) (fun z => absurd z (by omega)) (fun z4 => ?_)
      refine x_aload rfl ?_
      refine x_getR (r := 11) rfl (by decide) (by decide) rfl ?_
      refine x_iload rfl ?_
      refine x_push 12 rfl ?_
      refine x_imul ?_
      refine x_iload rfl ?_
      refine x_iadd ?_
      refine x_ialdX y_a16 C0 (by omega) (by omega) (fun v5 v5x v5a v5b => ?_)
      refine x_goto ?_
      refine x_blk (b := 2) (a_6 E) rfl ?_
      unfold b_6_2
      refine x_iret ?_
      exact k _ (by omega) (by omega) (by omega)
    · skip
      refine x_if_eq (by omega) (by omega) (fun z6 => ?_) (fun z => absurd (by omega) z)
      refine x_blk (b := 1) (a_6 E) rfl ?_
      unfold b_6_1
      refine x_push 0 rfl ?_
      refine x_fall ?_
      refine x_blk (b := 2) (a_6 E) rfl ?_
      unfold b_6_2
      refine x_iret ?_
      exact k _ (by omega) (by omega) (by omega)
  · skip
    refine x_if_eq (by omega) (by omega) (fun z7 => ?_) (fun z => absurd (by omega) z)
    refine x_blk (b := 1) (a_6 E) rfl ?_
    unfold b_6_1
    refine x_push 0 rfl ?_
    refine x_fall ?_
    refine x_blk (b := 2) (a_6 E) rfl ?_
    unfold b_6_2
    refine x_iret ?_
    exact k _ (by omega) (by omega) (by omega)
theorem kx_11_11 {E : q_E} {σ : x_S} {Q : Option q_V → x_S → Prop} {a1 : Int} (a1l : -2147483648 ≤ a1) (a1h : a1 ≤ 2147483647) (C0 : y_CI σ) (k : ∀ v, 0 ≤ v → v ≤ 3 → (((0 ≤ a1 ∧ a1 ≤ 1) ∧ v = σ 14 a1.toNat) ∨ (¬ (0 ≤ a1 ∧ a1 ≤ 1) ∧ v = 0)) → Q (some (x_I v)) σ) : x_P E 11 [x_R 11, x_I a1] σ Q := by
  refine x_Mt e_11 (h_11 E) (Nat.le_of_ble_eq_true rfl) t_11 rfl ?_
  refine x_blk (b := 0) (a_11 E) rfl ?_
  unfold b_11_0
  refine x_iload rfl ?_
  refine x_push 2 rfl ?_
  refine x_cS (fun _ => rfl) (Nat.le_of_ble_eq_true rfl) ?_
  refine sf_2 (by omega) (by omega) (by omega) (by omega) C0 (fun y1 => ?_) (fun y1 => ?_)
  · skip
    refine x_if_eq (by omega) (by omega) (fun z => absurd z (by omega)) (fun z2 => ?_)
    refine x_aload rfl ?_
    refine x_getR (r := 11) rfl (by decide) (by decide) rfl ?_
    refine x_iload rfl ?_
    refine x_ialdX y_a14 C0 (by omega) (by omega) (fun v3 v3x v3a v3b => ?_)
    refine x_goto ?_
    refine x_blk (b := 2) (a_11 E) rfl ?_
    unfold b_11_2
    refine x_iret ?_
    exact k _ (by omega) (by omega) (by omega)
  · skip
    refine x_if_eq (by omega) (by omega) (fun z4 => ?_) (fun z => absurd (by omega) z)
    refine x_blk (b := 1) (a_11 E) rfl ?_
    unfold b_11_1
    refine x_push 0 rfl ?_
    refine x_fall ?_
    refine x_blk (b := 2) (a_11 E) rfl ?_
    unfold b_11_2
    refine x_iret ?_
    exact k _ (by omega) (by omega) (by omega)
theorem kx_60_4 {E : q_E} {σ : x_S} {Q : Option q_V → x_S → Prop} {a1 : Int} (a1l : -2147483648 ≤ a1) (a1h : a1 ≤ 2147483647) (C0 : y_CI σ) (k1 : (0 ≤ a1 ∧ a1 < σ 4 6) → Q (some (x_I 1)) σ) (k0 : ¬ (0 ≤ a1 ∧ a1 < σ 4 6) → Q (some (x_I 0)) σ) : x_P E 60 [x_R 4, x_I a1] σ Q := by
  have c6 : 0 ≤ σ 4 6 ∧ σ 4 6 ≤ 16 := C0 4 6 (by decide) (by decide) (by decide)
  refine x_Mt e_60 (h_60 E) (Nat.le_of_ble_eq_true rfl) t_60 rfl ?_
  refine x_blk (b := 0) (a_60 E) rfl ?_
  unfold b_60_0
  refine x_iload rfl ?_
  refine x_push 16 rfl ?_
  refine x_cS (fun _ => rfl) (Nat.le_of_ble_eq_true rfl) ?_
  refine sf_2 (by omega) (by omega) (by omega) (by omega) C0 (fun y1 => ?_) (fun y1 => ?_)
  · skip
    refine x_if_eq (by omega) (by omega) (fun z => absurd z (by omega)) (fun z2 => ?_)
    refine x_iload rfl ?_
    refine x_aload rfl ?_
    refine x_getIG y_f4_6 C0 ?_
    intro g3a g3b
    refine x_icmp_ge (by omega) (by omega) (by omega) (by omega) (fun z4 => ?_) (fun z4 => ?_)
    · skip
      refine x_push 1 rfl ?_
      refine x_goto ?_
      refine x_blk (b := 2) (a_60 E) rfl ?_
      unfold b_60_2
      refine x_zret (by decide) ?_
      exact k1 (by omega)
    · skip
      refine x_blk (b := 1) (a_60 E) rfl ?_
      unfold b_60_1
      refine x_push 0 rfl ?_
      refine x_fall ?_
      refine x_blk (b := 2) (a_60 E) rfl ?_
      unfold b_60_2
      refine x_zret (by decide) ?_
      exact k0 (by omega)
  · skip
    refine x_if_eq (by omega) (by omega) (fun z5 => ?_) (fun z => absurd (by omega) z)
    refine x_blk (b := 1) (a_60 E) rfl ?_
    unfold b_60_1
    refine x_push 0 rfl ?_
    refine x_fall ?_
    refine x_blk (b := 2) (a_60 E) rfl ?_
    unfold b_60_2
    refine x_zret (by decide) ?_
    exact k0 (by omega)
theorem kx_53_4 {E : q_E} {σ : x_S} {Q : Option q_V → x_S → Prop} {a1 a2 : Int} (a1l : -2147483648 ≤ a1) (a1h : a1 ≤ 2147483647) (a2l : -2147483648 ≤ a2) (a2h : a2 ≤ 2147483647) (C0 : y_CI σ) (k : ∀ v, (-4) ≤ v → v ≤ 15 → (((0 ≤ a1 ∧ a1 < 16 ∧ 0 ≤ a2 ∧ a2 < 7 ∧ a2 < σ 9 (a1 * 12 + 4).toNat) ∧ v = σ 9 (a1 * 12 + 5 + a2).toNat ∧ 0 ≤ v) ∨ (¬ (0 ≤ a1 ∧ a1 < 16 ∧ 0 ≤ a2 ∧ a2 < 7 ∧ a2 < σ 9 (a1 * 12 + 4).toNat) ∧ v = -4)) → Q (some (x_I v)) σ) : x_P E 53 [x_R 4, x_I a1, x_I a2] σ Q := by
  refine x_Mt e_53 (h_53 E) (Nat.le_of_ble_eq_true rfl) t_53 rfl ?_
  refine x_blk (b := 0) (a_53 E) rfl ?_
  unfold b_53_0
  refine x_iload rfl ?_
  refine x_push 16 rfl ?_
  refine x_cS (fun _ => rfl) (Nat.le_of_ble_eq_true rfl) ?_
  refine sf_2 (by omega) (by omega) (by omega) (by omega) C0 (fun y1 => ?_) (fun y1 => ?_)
  · skip
    refine x_if_eq (by omega) (by omega) (fun z => absurd z (by omega)) (fun z2 => ?_)
    refine x_iload rfl ?_
    refine x_push 7 rfl ?_
    refine x_cS (fun _ => rfl) (Nat.le_of_ble_eq_true rfl) ?_
    refine sf_2 (by omega) (by omega) (by omega) (by omega) C0 (fun y3 => ?_) (fun y3 => ?_)
    · skip
      refine x_if_ne (by omega) (by omega) (fun z => absurd z (by omega)) (fun z4 => ?_)
      refine x_blk (b := 2) (a_53 E) rfl ?_
      unfold b_53_2
      refine x_iload rfl ?_
      refine x_push 12 rfl ?_
      refine x_imul ?_
      refine x_istore ?_
      refine x_iload rfl ?_
      refine x_aload rfl ?_
      refine x_getR (r := 4) rfl (by decide) (by decide) rfl ?_
      refine x_iload rfl ?_
      refine x_push 4 rfl ?_
      refine x_iadd ?_
      refine x_ialdX y_a9 C0 (by omega) (by omega) (fun v5 v5x v5a v5b => ?_)
      refine x_icmp_ge (by omega) (by omega) (by omega) (by omega) (fun z6 => ?_) (fun z6 => ?_)
      · skip
        refine x_aload rfl ?_
        refine x_getR (r := 4) rfl (by decide) (by decide) rfl ?_
        refine x_iload rfl ?_
        refine x_push 5 rfl ?_
        refine x_iadd ?_
        refine x_iload rfl ?_
        refine x_iadd ?_
        refine x_ialdX y_a9 C0 (by omega) (by omega) (fun v7 v7x v7a v7b => ?_)
        refine x_goto ?_
        refine x_blk (b := 4) (a_53 E) rfl ?_
        unfold b_53_4
        refine x_iret ?_
        exact k _ (by omega) (by omega) (by omega)
      · skip
        refine x_blk (b := 3) (a_53 E) rfl ?_
        unfold b_53_3
        refine x_push (-4) rfl ?_
        refine x_fall ?_
        refine x_blk (b := 4) (a_53 E) rfl ?_
        unfold b_53_4
        refine x_iret ?_
        exact k _ (by omega) (by omega) (by omega)
    · skip
      refine x_if_ne (by omega) (by omega) (fun z8 => ?_) (fun z => absurd (by omega) z)
      refine x_fall ?_
      refine x_blk (b := 1) (a_53 E) rfl ?_
      unfold b_53_1
      refine x_push (-4) rfl ?_
      refine x_iret ?_
      exact k _ (by omega) (by omega) (by omega)
  · skip
    refine x_if_eq (by omega) (by omega) (fun z9 => ?_) (fun z => absurd (by omega) z)
    refine x_blk (b := 1) (a_53 E) rfl ?_
    unfold b_53_1
    refine x_push (-4) rfl ?_
    refine x_iret ?_
    exact k _ (by omega) (by omega) (by omega)
theorem kx_44_4 {E : q_E} {σ : x_S} {Q : Option q_V → x_S → Prop} {a1 a2 : Int} (a1l : -2147483648 ≤ a1) (a1h : a1 ≤ 2147483647) (a2l : -2147483648 ≤ a2) (a2h : a2 ≤ 2147483647) (C0 : y_CI σ) (k1 : (0 ≤ a1 ∧ a1 ≤ 2 ∧ 0 ≤ a2 ∧ a2 < σ 6 a1.toNat) → Q (some (x_I 1)) σ) (k0 : ¬ (0 ≤ a1 ∧ a1 ≤ 2 ∧ 0 ≤ a2 ∧ a2 < σ 6 a1.toNat) → Q (some (x_I 0)) σ) : x_P E 44 [x_R 4, x_I a1, x_I a2] σ Q := by
  have h6 : ∀ z : Int, 0 ≤ z → z ≤ 2 → σ 6 z.toNat ≤ 11 := fun z z1 z2 => (C0 6 z.toNat (by decide) (by decide) (by show _ < 3; omega)).2
  have h6a := h6 a1
  refine x_Mt e_44 (h_44 E) (Nat.le_of_ble_eq_true rfl) t_44 rfl ?_
  refine x_blk (b := 0) (a_44 E) rfl ?_
  unfold b_44_0
  refine x_iload rfl ?_
  refine x_push 3 rfl ?_
  refine x_cS (fun _ => rfl) (Nat.le_of_ble_eq_true rfl) ?_
  refine sf_2 (by omega) (by omega) (by omega) (by omega) C0 (fun y1 => ?_) (fun y1 => ?_)
  · skip
    refine x_if_eq (by omega) (by omega) (fun z => absurd z (by omega)) (fun z2 => ?_)
    refine x_iload rfl ?_
    refine x_push 11 rfl ?_
    refine x_cS (fun _ => rfl) (Nat.le_of_ble_eq_true rfl) ?_
    refine sf_2 (by omega) (by omega) (by omega) (by omega) C0 (fun y3 => ?_) (fun y3 => ?_)
    · skip
      refine x_if_eq (by omega) (by omega) (fun z => absurd z (by omega)) (fun z4 => ?_)
      refine x_iload rfl ?_
      refine x_aload rfl ?_
      refine x_getR (r := 4) rfl (by decide) (by decide) rfl ?_
      refine x_iload rfl ?_
      refine x_ialdX y_a6 C0 (by omega) (by omega) (fun v5 v5x v5a v5b => ?_)
      refine x_icmp_ge (by omega) (by omega) (by omega) (by omega) (fun z6 => ?_) (fun z6 => ?_)
      · skip
        refine x_push 1 rfl ?_
        refine x_goto ?_
        refine x_blk (b := 2) (a_44 E) rfl ?_
        unfold b_44_2
        refine x_zret (by decide) ?_
        exact k1 (by omega)
      · skip
        refine x_blk (b := 1) (a_44 E) rfl ?_
        unfold b_44_1
        refine x_push 0 rfl ?_
        refine x_fall ?_
        refine x_blk (b := 2) (a_44 E) rfl ?_
        unfold b_44_2
        refine x_zret (by decide) ?_
        exact k0 (by omega)
    · skip
      refine x_if_eq (by omega) (by omega) (fun z7 => ?_) (fun z => absurd (by omega) z)
      refine x_blk (b := 1) (a_44 E) rfl ?_
      unfold b_44_1
      refine x_push 0 rfl ?_
      refine x_fall ?_
      refine x_blk (b := 2) (a_44 E) rfl ?_
      unfold b_44_2
      refine x_zret (by decide) ?_
      exact k0 (by omega)
  · skip
    refine x_if_eq (by omega) (by omega) (fun z8 => ?_) (fun z => absurd (by omega) z)
    refine x_blk (b := 1) (a_44 E) rfl ?_
    unfold b_44_1
    refine x_push 0 rfl ?_
    refine x_fall ?_
    refine x_blk (b := 2) (a_44 E) rfl ?_
    unfold b_44_2
    refine x_zret (by decide) ?_
    exact k0 (by omega)
theorem kx_63_4 {E : q_E} {σ : x_S} {Q : Option q_V → x_S → Prop} {a1 : Int} (a1l : -2147483648 ≤ a1) (a1h : a1 ≤ 2147483647) (C0 : y_CI σ) (k : ∀ v, 0 ≤ v → v ≤ 11 → (((0 ≤ a1 ∧ a1 ≤ 2) ∧ v = σ 6 a1.toNat) ∨ (¬ (0 ≤ a1 ∧ a1 ≤ 2) ∧ v = 0)) → Q (some (x_I v)) σ) : x_P E 63 [x_R 4, x_I a1] σ Q := by
  refine x_Mt e_63 (h_63 E) (Nat.le_of_ble_eq_true rfl) t_63 rfl ?_
  refine x_blk (b := 0) (a_63 E) rfl ?_
  unfold b_63_0
  refine x_iload rfl ?_
  refine x_push 3 rfl ?_
  refine x_cS (fun _ => rfl) (Nat.le_of_ble_eq_true rfl) ?_
  refine sf_2 (by omega) (by omega) (by omega) (by omega) C0 (fun y1 => ?_) (fun y1 => ?_)
  · skip
    refine x_if_eq (by omega) (by omega) (fun z => absurd z (by omega)) (fun z2 => ?_)
    refine x_aload rfl ?_
    refine x_getR (r := 4) rfl (by decide) (by decide) rfl ?_
    refine x_iload rfl ?_
    refine x_ialdX y_a6 C0 (by omega) (by omega) (fun v3 v3x v3a v3b => ?_)
    refine x_goto ?_
    refine x_blk (b := 2) (a_63 E) rfl ?_
    unfold b_63_2
    refine x_iret ?_
    exact k _ (by omega) (by omega) (by omega)
  · skip
    refine x_if_eq (by omega) (by omega) (fun z4 => ?_) (fun z => absurd (by omega) z)
    refine x_blk (b := 1) (a_63 E) rfl ?_
    unfold b_63_1
    refine x_push 0 rfl ?_
    refine x_fall ?_
    refine x_blk (b := 2) (a_63 E) rfl ?_
    unfold b_63_2
    refine x_iret ?_
    exact k _ (by omega) (by omega) (by omega)
theorem kx_47_4 {E : q_E} {σ : x_S} {Q : Option q_V → x_S → Prop} {a1 a2 : Int} (a1l : -2147483648 ≤ a1) (a1h : a1 ≤ 2147483647) (a2l : -2147483648 ≤ a2) (a2h : a2 ≤ 2147483647) (C0 : y_CI σ) (k : ∀ v, (-4) ≤ v → v ≤ 15 → (((0 ≤ a1 ∧ a1 ≤ 2 ∧ 0 ≤ a2 ∧ a2 < σ 6 a1.toNat) ∧ v = σ 5 (a1 * 11 + a2).toNat ∧ 0 ≤ v) ∨ (¬ (0 ≤ a1 ∧ a1 ≤ 2 ∧ 0 ≤ a2 ∧ a2 < σ 6 a1.toNat) ∧ v = -4)) → Q (some (x_I v)) σ) : x_P E 47 [x_R 4, x_I a1, x_I a2] σ Q := by
  have h6 : ∀ z : Int, 0 ≤ z → z ≤ 2 → σ 6 z.toNat ≤ 11 := fun z z1 z2 => (C0 6 z.toNat (by decide) (by decide) (by show _ < 3; omega)).2
  have h6a := h6 a1
  refine x_Mt e_47 (h_47 E) (Nat.le_of_ble_eq_true rfl) t_47 rfl ?_
  refine x_blk (b := 0) (a_47 E) rfl ?_
  unfold b_47_0
  refine x_aload rfl ?_
  refine x_iload rfl ?_
  refine x_iload rfl ?_
  refine x_cV (fun _ => rfl) rfl (by decide) (Nat.le_of_ble_eq_true rfl) ?_
  refine kx_44_4 (by omega) (by omega) (by omega) (by omega) C0 (fun y1 => ?_) (fun y1 => ?_)
  · skip
    refine x_if_eq (by omega) (by omega) (fun z => absurd z (by omega)) (fun z2 => ?_)
    refine x_aload rfl ?_
    refine x_getR (r := 4) rfl (by decide) (by decide) rfl ?_
    refine x_iload rfl ?_
    refine x_push 11 rfl ?_
    refine x_imul ?_
    refine x_iload rfl ?_
    refine x_iadd ?_
    refine x_ialdX y_a5 C0 (by omega) (by omega) (fun v3 v3x v3a v3b => ?_)
    refine x_goto ?_
    refine x_blk (b := 2) (a_47 E) rfl ?_
    unfold b_47_2
    refine x_iret ?_
    exact k _ (by omega) (by omega) (by omega)
  · skip
    refine x_if_eq (by omega) (by omega) (fun z4 => ?_) (fun z => absurd (by omega) z)
    refine x_blk (b := 1) (a_47 E) rfl ?_
    unfold b_47_1
    refine x_push (-4) rfl ?_
    refine x_fall ?_
    refine x_blk (b := 2) (a_47 E) rfl ?_
    unfold b_47_2
    refine x_iret ?_
    exact k _ (by omega) (by omega) (by omega)
theorem kx_30_4 {E : q_E} {σ : x_S} {Q : Option q_V → x_S → Prop} {a1 a2 a3 : Int} (a1l : -2147483648 ≤ a1) (a1h : a1 ≤ 2147483647) (a2l : -2147483648 ≤ a2) (a2h : a2 ≤ 2147483647) (a3l : -2147483648 ≤ a3) (a3h : a3 ≤ 2147483647) (C0 : y_CI σ) (k : ∀ v, 0 ≤ v → v ≤ 1 → (((0 ≤ a1 ∧ a1 ≤ 1 ∧ 0 ≤ a2 ∧ a2 ≤ 4 ∧ 0 ≤ a3 ∧ a3 ≤ 3) ∧ v = σ 8 ((a1 * 5 + a2) * 4 + a3).toNat) ∨ (¬ (0 ≤ a1 ∧ a1 ≤ 1 ∧ 0 ≤ a2 ∧ a2 ≤ 4 ∧ 0 ≤ a3 ∧ a3 ≤ 3) ∧ v = 0)) → Q (some (x_I v)) σ) : x_P E 30 [x_R 4, x_I a1, x_I a2, x_I a3] σ Q := by
  refine x_Mt e_30 (h_30 E) (Nat.le_of_ble_eq_true rfl) t_30 rfl ?_
  refine x_blk (b := 0) (a_30 E) rfl ?_
  unfold b_30_0
  refine x_iload rfl ?_
  refine x_push 2 rfl ?_
  refine x_cS (fun _ => rfl) (Nat.le_of_ble_eq_true rfl) ?_
  refine sf_2 (by omega) (by omega) (by omega) (by omega) C0 (fun y1 => ?_) (fun y1 => ?_)
  · skip
    refine x_if_eq (by omega) (by omega) (fun z => absurd z (by omega)) (fun z2 => ?_)
    refine x_iload rfl ?_
    refine x_push 5 rfl ?_
    refine x_cS (fun _ => rfl) (Nat.le_of_ble_eq_true rfl) ?_
    refine sf_2 (by omega) (by omega) (by omega) (by omega) C0 (fun y3 => ?_) (fun y3 => ?_)
    · skip
      refine x_if_eq (by omega) (by omega) (fun z => absurd z (by omega)) (fun z4 => ?_)
      refine x_iload rfl ?_
      refine x_push 4 rfl ?_
      refine x_cS (fun _ => rfl) (Nat.le_of_ble_eq_true rfl) ?_
      refine sf_2 (by omega) (by omega) (by omega) (by omega) C0 (fun y5 => ?_) (fun y5 => ?_)
      · skip
        refine x_if_ne (by omega) (by omega) (fun z => absurd z (by omega)) (fun z6 => ?_)
        refine x_blk (b := 2) (a_30 E) rfl ?_
        unfold b_30_2
        refine x_aload rfl ?_
        refine x_getR (r := 4) rfl (by decide) (by decide) rfl ?_
        refine x_iload rfl ?_
        refine x_push 5 rfl ?_
        refine x_imul ?_
        refine x_iload rfl ?_
        refine x_iadd ?_
        refine x_push 4 rfl ?_
        refine x_imul ?_
        refine x_iload rfl ?_
        refine x_iadd ?_
        refine x_ialdX y_a8 C0 (by omega) (by omega) (fun v7 v7x v7a v7b => ?_)
        refine x_iret ?_
        exact k _ (by omega) (by omega) (by omega)
      · skip
        refine x_if_ne (by omega) (by omega) (fun z8 => ?_) (fun z => absurd (by omega) z)
        refine x_fall ?_
        refine x_blk (b := 1) (a_30 E) rfl ?_
        unfold b_30_1
        refine x_push 0 rfl ?_
        refine x_iret ?_
        exact k _ (by omega) (by omega) (by omega)
    · skip
      refine x_if_eq (by omega) (by omega) (fun z9 => ?_) (fun z => absurd (by omega) z)
      refine x_blk (b := 1) (a_30 E) rfl ?_
      unfold b_30_1
      refine x_push 0 rfl ?_
      refine x_iret ?_
      exact k _ (by omega) (by omega) (by omega)
  · skip
    refine x_if_eq (by omega) (by omega) (fun z10 => ?_) (fun z => absurd (by omega) z)
    refine x_blk (b := 1) (a_30 E) rfl ?_
    unfold b_30_1
    refine x_push 0 rfl ?_
    refine x_iret ?_
    exact k _ (by omega) (by omega) (by omega)
