theorem sf_63_4 {E : q_E} {σ : x_S} {Q : Option q_V → x_S → Prop} {a1 : Int} (a1l : (-2147483648) ≤ a1) (a1h : a1 ≤ 2147483647) (C0 : y_CI σ) (k : ∀ v, 0 ≤ v → v ≤ 11 → Q (some (x_I v)) σ) : x_P E 63 [x_R 4, x_I a1] σ Q := by
  refine x_Mt e_63 (h_63 E) (Nat.le_of_ble_eq_true rfl) t_63 rfl ?_
  refine x_blk (b := 0) (a_63 E) rfl ?_
  unfold b_63_0
  refine x_iload rfl ?_
  refine x_push 3 rfl ?_
  refine x_cS (fun _ => rfl) (Nat.le_of_ble_eq_true rfl) ?_
  refine sf_2 (by omega) (by omega) (by omega) (by omega) C0 (fun y1 => ?_) (fun y1 => ?_)
  · skip
    refine x_if_eq (by omega) (by omega) (fun z => absurd z (by omega)) (fun z2 => ?_)
    refine x_aload rfl ?_
    refine x_getR (r := 4) rfl (by decide) (by decide) rfl ?_
    refine x_iload rfl ?_
    refine x_ialdG y_a6 C0 (by omega) (by omega) (fun v3 v3a v3b => ?_)
    refine x_goto ?_
    refine x_blk (b := 2) (a_63 E) rfl ?_
    unfold b_63_2
    refine x_iret ?_
    exact k _ (by omega) (by omega) 
  · skip
    refine x_if_eq (by omega) (by omega) (fun z4 => ?_) (fun z => absurd (by omega) z)
    refine x_blk (b := 1) (a_63 E) rfl ?_
    unfold b_63_1
    refine x_push 0 rfl ?_
    refine x_fall ?_
    refine x_blk (b := 2) (a_63 E) rfl ?_
    unfold b_63_2
    refine x_iret ?_
    exact k _ (by omega) (by omega) 
theorem sf_44_4 {E : q_E} {σ : x_S} {Q : Option q_V → x_S → Prop} {a1 a2 : Int} (a1l : (-2147483648) ≤ a1) (a1h : a1 ≤ 2147483647) (a2l : (-2147483648) ≤ a2) (a2h : a2 ≤ 2147483647) (C0 : y_CI σ) (k1 : 0 ≤ a1 ∧ a1 ≤ 2 ∧ 0 ≤ a2 ∧ a2 ≤ 10 → Q (some (x_I 1)) σ) (k0 : 0 ≤ (0 : Int) → Q (some (x_I 0)) σ) : x_P E 44 [x_R 4, x_I a1, x_I a2] σ Q := by
  refine x_Mt e_44 (h_44 E) (Nat.le_of_ble_eq_true rfl) t_44 rfl ?_
  refine x_blk (b := 0) (a_44 E) rfl ?_
  unfold b_44_0
  refine x_iload rfl ?_
  refine x_push 3 rfl ?_
  refine x_cS (fun _ => rfl) (Nat.le_of_ble_eq_true rfl) ?_
  refine sf_2 (by omega) (by omega) (by omega) (by omega) C0 (fun y1 => ?_) (fun y1 => ?_)
  · skip
    refine x_if_eq (by omega) (by omega) (fun z => absurd z (by omega)) (fun z2 => ?_)
    refine x_iload rfl ?_
    refine x_push 11 rfl ?_
    refine x_cS (fun _ => rfl) (Nat.le_of_ble_eq_true rfl) ?_
    refine sf_2 (by omega) (by omega) (by omega) (by omega) C0 (fun y3 => ?_) (fun y3 => ?_)
    · skip
      refine x_if_eq (by omega) (by omega) (fun z => absurd z (by omega)) (fun z4 => ?_)
      refine x_iload rfl ?_
      refine x_aload rfl ?_
      refine x_getR (r := 4) rfl (by decide) (by decide) rfl ?_
      refine x_iload rfl ?_
      refine x_ialdG y_a6 C0 (by omega) (by omega) (fun v5 v5a v5b => ?_)
      refine x_icmp_ge (by omega) (by omega) (by omega) (by omega) (fun z6 => ?_) (fun z6 => ?_)
      · skip
        refine x_push 1 rfl ?_
        refine x_goto ?_
        refine x_blk (b := 2) (a_44 E) rfl ?_
        unfold b_44_2
        refine x_zret (by decide) ?_
        exact k1 (by omega)
      · skip
        refine x_blk (b := 1) (a_44 E) rfl ?_
        unfold b_44_1
        refine x_push 0 rfl ?_
        refine x_fall ?_
        refine x_blk (b := 2) (a_44 E) rfl ?_
        unfold b_44_2
        refine x_zret (by decide) ?_
        exact k0 (by omega)
    · skip
      refine x_if_eq (by omega) (by omega) (fun z7 => ?_) (fun z => absurd (by omega) z)
      refine x_blk (b := 1) (a_44 E) rfl ?_
      unfold b_44_1
      refine x_push 0 rfl ?_
      refine x_fall ?_
      refine x_blk (b := 2) (a_44 E) rfl ?_
      unfold b_44_2
      refine x_zret (by decide) ?_
      exact k0 (by omega)
  · skip
    refine x_if_eq (by omega) (by omega) (fun z8 => ?_) (fun z => absurd (by omega) z)
    refine x_blk (b := 1) (a_44 E) rfl ?_
    unfold b_44_1
    refine x_push 0 rfl ?_
    refine x_fall ?_
    refine x_blk (b := 2) (a_44 E) rfl ?_
    unfold b_44_2
    refine x_zret (by decide) ?_
    exact k0 (by omega)
theorem sf_47_4 {E : q_E} {σ : x_S} {Q : Option q_V → x_S → Prop} {a1 a2 : Int} (a1l : (-2147483648) ≤ a1) (a1h : a1 ≤ 2147483647) (a2l : (-2147483648) ≤ a2) (a2h : a2 ≤ 2147483647) (C0 : y_CI σ) (k : ∀ v, (-4) ≤ v → v ≤ 15 → Q (some (x_I v)) σ) : x_P E 47 [x_R 4, x_I a1, x_I a2] σ Q := by
  refine x_Mt e_47 (h_47 E) (Nat.le_of_ble_eq_true rfl) t_47 rfl ?_
  refine x_blk (b := 0) (a_47 E) rfl ?_
  unfold b_47_0
  refine x_aload rfl ?_
  refine x_iload rfl ?_
  refine x_iload rfl ?_
  refine x_cV (fun _ => rfl) rfl (by decide) (Nat.le_of_ble_eq_true rfl) ?_
  refine sf_44_4 (by omega) (by omega) (by omega) (by omega) C0 (fun y1 => ?_) (fun y1 => ?_)
  · skip
    refine x_if_eq (by omega) (by omega) (fun z => absurd z (by omega)) (fun z2 => ?_)
    refine x_aload rfl ?_
    refine x_getR (r := 4) rfl (by decide) (by decide) rfl ?_
    refine x_iload rfl ?_
    refine x_push 11 rfl ?_
    refine x_imul ?_
    refine x_iload rfl ?_
    refine x_iadd ?_
    refine x_ialdG y_a5 C0 (by omega) (by omega) (fun v3 v3a v3b => ?_)
    refine x_goto ?_
    refine x_blk (b := 2) (a_47 E) rfl ?_
    unfold b_47_2
    refine x_iret ?_
    exact k _ (by omega) (by omega) 
  · skip
    refine x_if_eq (by omega) (by omega) (fun z4 => ?_) (fun z => absurd (by omega) z)
    refine x_blk (b := 1) (a_47 E) rfl ?_
    unfold b_47_1
    refine x_push (-4) rfl ?_
    refine x_fall ?_
    refine x_blk (b := 2) (a_47 E) rfl ?_
    unfold b_47_2
    refine x_iret ?_
    exact k _ (by omega) (by omega) 
theorem sf_30_4 {E : q_E} {σ : x_S} {Q : Option q_V → x_S → Prop} {a1 a2 a3 : Int} (a1l : (-2147483648) ≤ a1) (a1h : a1 ≤ 2147483647) (a2l : (-2147483648) ≤ a2) (a2h : a2 ≤ 2147483647) (a3l : (-2147483648) ≤ a3) (a3h : a3 ≤ 2147483647) (C0 : y_CI σ) (k : ∀ v, 0 ≤ v → v ≤ 1 → Q (some (x_I v)) σ) : x_P E 30 [x_R 4, x_I a1, x_I a2, x_I a3] σ Q := by
  refine x_Mt e_30 (h_30 E) (Nat.le_of_ble_eq_true rfl) t_30 rfl ?_
  refine x_blk (b := 0) (a_30 E) rfl ?_
  unfold b_30_0
  refine x_iload rfl ?_
  refine x_push 2 rfl ?_
  refine x_cS (fun _ => rfl) (Nat.le_of_ble_eq_true rfl) ?_
  refine sf_2 (by omega) (by omega) (by omega) (by omega) C0 (fun y1 => ?_) (fun y1 => ?_)
  · skip
    refine x_if_eq (by omega) (by omega) (fun z => absurd z (by omega)) (fun z2 => ?_)
    refine x_iload rfl ?_
    refine x_push 5 rfl ?_
    refine x_cS (fun _ => rfl) (Nat.le_of_ble_eq_true rfl) ?_
    refine sf_2 (by omega) (by omega) (by omega) (by omega) C0 (fun y3 => ?_) (fun y3 => ?_)
    · skip
      refine x_if_eq (by omega) (by omega) (fun z => absurd z (by omega)) (fun z4 => ?_)
      refine x_iload rfl ?_
      refine x_push 4 rfl ?_
      refine x_cS (fun _ => rfl) (Nat.le_of_ble_eq_true rfl) ?_
      refine sf_2 (by omega) (by omega) (by omega) (by omega) C0 (fun y5 => ?_) (fun y5 => ?_)
      · skip
        refine x_if_ne (by omega) (by omega) (fun z => absurd z (by omega)) (fun z6 => ?_)
        refine x_blk (b := 2) (a_30 E) rfl ?_
        unfold b_30_2
        refine x_aload rfl ?_
        refine x_getR (r := 4) rfl (by decide) (by decide) rfl ?_
        refine x_iload rfl ?_
        refine x_push 5 rfl ?_
        refine x_imul ?_
        refine x_iload rfl ?_
        refine x_iadd ?_
        refine x_push 4 rfl ?_
        refine x_imul ?_
        refine x_iload rfl ?_
        refine x_iadd ?_
        refine x_ialdG y_a8 C0 (by omega) (by omega) (fun v7 v7a v7b => ?_)
        refine x_iret ?_
        exact k _ (by omega) (by omega) 
      · skip
        refine x_if_ne (by omega) (by omega) (fun z8 => ?_) (fun z => absurd (by omega) z)
        refine x_fall ?_
        refine x_blk (b := 1) (a_30 E) rfl ?_
        unfold b_30_1
        refine x_push 0 rfl ?_
        refine x_iret ?_
        exact k _ (by omega) (by omega) 
    · skip
      refine x_if_eq (by omega) (by omega) (fun z9 => ?_) (fun z => absurd (by omega) z)
      refine x_blk (b := 1) (a_30 E) rfl ?_
      unfold b_30_1
      refine x_push 0 rfl ?_
      refine x_iret ?_
      exact k _ (by omega) (by omega) 
  · skip
    refine x_if_eq (by omega) (by omega) (fun z10 => ?_) (fun z => absurd (by omega) z)
    refine x_blk (b := 1) (a_30 E) rfl ?_
    unfold b_30_1
    refine x_push 0 rfl ?_
    refine x_iret ?_
    exact k _ (by omega) (by omega) 
theorem sf_73_92_4_b4 {E : q_E} {σ : x_S} {Q : Option q_V → x_S → Prop} {a2 : Int} (a2l : (-2147483648) ≤ a2) (a2h : a2 ≤ 2147483647) (C0 : y_CI σ) (k : ∀ τ, y_CI τ → y_fq 94 96 σ τ → Q none τ) {w : Int} (wL : 0 ≤ w) (wH : w ≤ 39) (ho : ∀ (w' : Int) (τ' : x_S), (w' + 1).toNat < (w + 1).toNat → (-1) ≤ w' → w' ≤ 39 → y_CI τ' → y_fq 94 96 σ τ' → x_G E m_73 Q (t_73 5) [(0, x_R 92), (1, x_R 4), (2, x_I a2), (3, x_I w')] [] τ') : ∀ (N : Nat) (s kq h : Int) (τ : x_S), (2 - h).toNat = N → (-2147483648) ≤ s → s ≤ 2147483647 → (-2147483648) ≤ kq → kq ≤ 2147483647 → 0 ≤ h → h ≤ 2 → y_CI τ → y_fq 94 96 σ τ → x_G E m_73 Q (t_73 4) [(0, x_R 92), (1, x_R 4), (2, x_I a2), (3, x_I w), (4, x_I s), (5, x_I kq), (6, x_I h)] [] τ := by
  intro N
  induction N using Nat.strongRecOn with
  | ind N ih =>
    intro s kq h τ hN sL sH kqL kqH hL hH C F
    refine x_blk (b := 4) (a_73 E) rfl ?_
    unfold b_73_4
    refine x_iload rfl ?_
    refine x_aload rfl ?_
    refine x_getR (r := 92) rfl (by decide) (by decide) rfl ?_
    refine x_iload rfl ?_
    refine x_ialdG y_a93 C (by omega) (by omega) (fun v1 v1a v1b => ?_)
    refine x_cS (fun _ => rfl) (Nat.le_of_ble_eq_true rfl) ?_
    refine sf_7 (by omega) (by omega) C (fun v2 v2a v2b => ?_)
    refine x_icmp_ge (by omega) (by omega) (by omega) (by omega) (fun z3 => ?_) (fun z3 => ?_)
    · skip
      refine x_iload rfl ?_
      refine x_iload rfl ?_
      refine x_iadd ?_
      refine x_wrp (fun v4 v4a v4b => ?_)
      refine x_istore ?_
      refine x_iload rfl ?_
      refine x_aload rfl ?_
      refine x_getIG y_f92_3 C ?_
      intro g5a g5b
      refine x_cS (fun _ => rfl) (Nat.le_of_ble_eq_true rfl) ?_
      refine sf_2 (by omega) (by omega) (by omega) (by omega) C (fun y6 => ?_) (fun y6 => ?_)
      · skip
        refine x_if_eq (by omega) (by omega) (fun z => absurd z (by omega)) (fun z7 => ?_)
        refine x_push 2 rfl ?_
        refine x_iload rfl ?_
        refine x_imul ?_
        refine x_wrp (fun v8 v8a v8b => ?_)
        refine x_aload rfl ?_
        refine x_getR (r := 92) rfl (by decide) (by decide) rfl ?_
        refine x_iload rfl ?_
        refine x_ialdG y_a95 C (by omega) (by omega) (fun v9 v9a v9b => ?_)
        refine x_iadd ?_
        refine x_wrp (fun v10 v10a v10b => ?_)
        refine x_istore ?_
        refine x_X_lo (lo' := [(0, x_R 92), (1, x_R 4), (2, x_I _), (3, x_I _), (4, x_I _), (5, x_I _), (6, x_I _), (7, x_I _)]) ⟨rfl, rfl, rfl, rfl, rfl, rfl, rfl, rfl, trivial⟩ ?_
        refine x_iload rfl ?_
        refine x_aload rfl ?_
        refine x_getR (r := 92) rfl (by decide) (by decide) rfl ?_
        refine x_iload rfl ?_
        refine x_ialdG y_a94 C (by omega) (by omega) (fun v11 v11a v11b => ?_)
        refine x_iadd ?_
        refine x_wrp (fun v12 v12a v12b => ?_)
        refine x_istore ?_
        refine x_fall ?_
        refine x_blk (b := 3) (a_73 E) rfl ?_
        unfold b_73_3
        refine x_iinc 1 rfl rfl ?_
        refine x_X_lo (lo' := [(0, x_R 92), (1, x_R 4), (2, x_I _), (3, x_I _), (4, x_I _), (5, x_I _), (6, x_I _), (7, x_I _)]) ⟨rfl, rfl, rfl, rfl, rfl, rfl, rfl, rfl, trivial⟩ ?_
        refine x_goto ?_
        refine x_G_lo (lo' := [(0, x_R 92), (1, x_R 4), (2, x_I _), (3, x_I _), (4, x_I _), (5, x_I _), (6, x_I _)]) ⟨rfl, rfl, rfl, rfl, rfl, rfl, rfl, trivial⟩ ?_
        exact ih _ (by omega) _ _ _ _ rfl (by omega) (by omega) (by omega) (by omega) (by omega) (by omega)  C F
      · skip
        refine x_if_eq (by omega) (by omega) (fun z13 => ?_) (fun z => absurd (by omega) z)
        refine x_blk (b := 3) (a_73 E) rfl ?_
        unfold b_73_3
        refine x_iinc 1 rfl rfl ?_
        refine x_X_lo (lo' := [(0, x_R 92), (1, x_R 4), (2, x_I _), (3, x_I _), (4, x_I _), (5, x_I _), (6, x_I _), (7, x_I _)]) ⟨rfl, rfl, rfl, rfl, rfl, rfl, rfl, rfl, trivial⟩ ?_
        refine x_goto ?_
        refine x_G_lo (lo' := [(0, x_R 92), (1, x_R 4), (2, x_I _), (3, x_I _), (4, x_I _), (5, x_I _), (6, x_I _)]) ⟨rfl, rfl, rfl, rfl, rfl, rfl, rfl, trivial⟩ ?_
        exact ih _ (by omega) _ _ _ _ rfl (by omega) (by omega) (by omega) (by omega) (by omega) (by omega)  C F
    · skip
      refine x_blk (b := 2) (a_73 E) rfl ?_
      unfold b_73_2
      refine x_aload rfl ?_
      refine x_getR (r := 92) rfl (by decide) (by decide) rfl ?_
      refine x_iload rfl ?_
      refine x_iload rfl ?_
      refine x_astG y_a94 C (by decide) F (by omega) (by omega) (by omega) (by omega) (fun S14 e14 C14 F14 => ?_)
      refine x_aload rfl ?_
      refine x_getR (r := 92) rfl (by decide) (by decide) rfl ?_
      refine x_iload rfl ?_
      refine x_aload rfl ?_
      refine x_iload rfl ?_
      refine x_aload rfl ?_
      refine x_getR (r := 92) rfl (by decide) (by decide) rfl ?_
      refine x_iload rfl ?_
      refine x_ialdG y_a93 C14 (by omega) (by omega) (fun v15 v15a v15b => ?_)
      refine x_iload rfl ?_
      refine x_cV (fun _ => rfl) rfl (by decide) (Nat.le_of_ble_eq_true rfl) ?_
      refine sf_30_4 (by omega) (by omega) (by omega) (by omega) (by omega) (by omega) C14 (fun v16 v16a v16b => ?_)
      refine x_astG y_a95 C14 (by decide) F14 (by omega) (by omega) (by omega) (by omega) (fun S17 e17 C17 F17 => ?_)
      refine x_iinc (-1) rfl rfl ?_
      refine x_goto ?_
      refine x_G_lo (lo' := [(0, x_R 92), (1, x_R 4), (2, x_I _), (3, x_I _)]) ⟨rfl, rfl, rfl, rfl, trivial⟩ ?_
      exact ho _ _ (by omega) (by omega) (by omega)  C17 F17
theorem sf_73_92_4_b5 {E : q_E} {σ : x_S} {Q : Option q_V → x_S → Prop} {a2 : Int} (a2l : (-2147483648) ≤ a2) (a2h : a2 ≤ 2147483647) (C0 : y_CI σ) (k : ∀ τ, y_CI τ → y_fq 94 96 σ τ → Q none τ) : ∀ (N : Nat) (w : Int) (τ : x_S), (w + 1).toNat = N → (-1) ≤ w → w ≤ 39 → y_CI τ → y_fq 94 96 σ τ → x_G E m_73 Q (t_73 5) [(0, x_R 92), (1, x_R 4), (2, x_I a2), (3, x_I w)] [] τ := by
  intro N
  induction N using Nat.strongRecOn with
  | ind N ih =>
    intro w τ hN wL wH C F
    refine x_blk (b := 5) (a_73 E) rfl ?_
    unfold b_73_5
    refine x_iload rfl ?_
    refine x_if_lt (by omega) (by omega) (fun z1 => ?_) (fun z1 => ?_)
    · skip
      refine x_blk (b := 1) (a_73 E) rfl ?_
      unfold b_73_1
      refine x_vret ?_
      exact k _ C F 
    · skip
      refine x_push 1 rfl ?_
      refine x_istore ?_
      refine x_push 0 rfl ?_
      refine x_istore ?_
      refine x_X_lo (lo' := [(0, x_R 92), (1, x_R 4), (2, x_I _), (3, x_I _), (4, x_I _), (5, x_I _)]) ⟨rfl, rfl, rfl, rfl, rfl, rfl, trivial⟩ ?_
      refine x_push 0 rfl ?_
      refine x_istore ?_
      refine x_fall ?_
      refine x_G_lo (lo' := [(0, x_R 92), (1, x_R 4), (2, x_I _), (3, x_I _), (4, x_I _), (5, x_I _), (6, x_I _)]) ⟨rfl, rfl, rfl, rfl, rfl, rfl, rfl, trivial⟩ ?_
      exact sf_73_92_4_b4 a2l a2h C0 k (by omega) (by omega) (fun x0 t z h0 h1 c f => ih _ (by omega) x0 t rfl h0 h1 c f) _ _ _ _ _ rfl (by omega) (by omega) (by omega) (by omega) (by omega) (by omega)  C F
theorem sf_73_92_4 {E : q_E} {σ : x_S} {Q : Option q_V → x_S → Prop} {a2 : Int} (a2l : (-2147483648) ≤ a2) (a2h : a2 ≤ 2147483647) (C0 : y_CI σ) (k : ∀ τ, y_CI τ → y_fq 94 96 σ τ → Q none τ) : x_P E 73 [x_R 92, x_R 4, x_I a2] σ Q := by
  refine x_Mt e_73 (h_73 E) (Nat.le_of_ble_eq_true rfl) t_73 rfl ?_
  refine x_blk (b := 0) (a_73 E) rfl ?_
  unfold b_73_0
  refine x_aload rfl ?_
  refine x_getIG y_f92_3 C0 ?_
  intro g1a g1b
  refine x_push 1 rfl ?_
  refine x_isub ?_
  refine x_istore ?_
  refine x_fall ?_
  refine x_G_lo (lo' := [(0, x_R 92), (1, x_R 4), (2, x_I _), (3, x_I _)]) ⟨rfl, rfl, rfl, rfl, trivial⟩ ?_
  exact sf_73_92_4_b5 a2l a2h C0 k  _ _ _ rfl (by omega) (by omega)  C0 (y_fr_rf (lo := 94) (hi := 96))
theorem sf_72_92_4_b2 {E : q_E} {σ : x_S} {Q : Option q_V → x_S → Prop} {a2 a3 : Int} (a2l : (-2147483648) ≤ a2) (a2h : a2 ≤ 2147483647) (a3l : (-2147483648) ≤ a3) (a3h : a3 ≤ 2147483647) (C0 : y_CI σ) (k : ∀ τ, y_CI τ → y_fq 92 96 σ τ → Q none τ) : ∀ (N : Nat) (w : Int) (τ : x_S), (40 - w).toNat = N → 0 ≤ w → w ≤ 40 → y_CI τ → y_fq 92 96 σ τ → x_G E m_72 Q (t_72 2) [(0, x_R 92), (1, x_R 4), (2, x_I a2), (3, x_I a3), (4, x_I w)] [] τ := by
  intro N
  induction N using Nat.strongRecOn with
  | ind N ih =>
    intro w τ hN wL wH C F
    refine x_blk (b := 2) (a_72 E) rfl ?_
    unfold b_72_2
    refine x_iload rfl ?_
    refine x_aload rfl ?_
    refine x_getIG y_f92_3 C ?_
    intro g1a g1b
    refine x_icmp_ge (by omega) (by omega) (by omega) (by omega) (fun z2 => ?_) (fun z2 => ?_)
    · skip
      refine x_aload rfl ?_
      refine x_getR (r := 92) rfl (by decide) (by decide) rfl ?_
      refine x_iload rfl ?_
      refine x_aload rfl ?_
      refine x_iload rfl ?_
      refine x_iload rfl ?_
      refine x_cV (fun _ => rfl) rfl (by decide) (Nat.le_of_ble_eq_true rfl) ?_
      refine sf_47_4 (by omega) (by omega) (by omega) (by omega) C (fun v3 v3a v3b => ?_)
      refine x_astG y_a93 C (by decide) F (by omega) (by omega) (by omega) (by omega) (fun S4 e4 C4 F4 => ?_)
      refine x_iinc 1 rfl rfl ?_
      refine x_goto ?_
      refine x_G_lo (lo' := [(0, x_R 92), (1, x_R 4), (2, x_I _), (3, x_I _), (4, x_I _)]) ⟨rfl, rfl, rfl, rfl, rfl, trivial⟩ ?_
      exact ih _ (by omega) _ _ rfl (by omega) (by omega)  C4 F4
    · skip
      refine x_blk (b := 1) (a_72 E) rfl ?_
      unfold b_72_1
      refine x_aload rfl ?_
      refine x_aload rfl ?_
      refine x_iload rfl ?_
      refine x_cV (fun _ => rfl) rfl (by decide) (Nat.le_of_ble_eq_true rfl) ?_
      refine sf_73_92_4 (by omega) (by omega) C (fun S5 C5 f5 => ?_)
      have F5 := y_fq_tr (by decide) F f5
      refine x_vret ?_
      exact k _ C5 F5 
theorem sf_72_92_4 {E : q_E} {σ : x_S} {Q : Option q_V → x_S → Prop} {a2 a3 : Int} (a2l : (-2147483648) ≤ a2) (a2h : a2 ≤ 2147483647) (a3l : (-2147483648) ≤ a3) (a3h : a3 ≤ 2147483647) (C0 : y_CI σ) (k : ∀ τ, y_CI τ → y_fq 92 96 σ τ → Q none τ) : x_P E 72 [x_R 92, x_R 4, x_I a2, x_I a3] σ Q := by
  refine x_Mt e_72 (h_72 E) (Nat.le_of_ble_eq_true rfl) t_72 rfl ?_
  refine x_blk (b := 0) (a_72 E) rfl ?_
  unfold b_72_0
  refine x_aload rfl ?_
  refine x_aload rfl ?_
  refine x_iload rfl ?_
  refine x_cV (fun _ => rfl) rfl (by decide) (Nat.le_of_ble_eq_true rfl) ?_
  refine sf_63_4 (by omega) (by omega) C0 (fun v1 v1a v1b => ?_)
  refine x_push 40 rfl ?_
  refine x_min (by omega) (by omega) (by omega) (by omega) (Nat.le_of_ble_eq_true rfl) (fun v2 v2a v2b v2c => ?_)
  refine x_putIG y_f92_3 ⟨by decide, rfl⟩ (by decide) C0 (by decide) (y_fr_rf (lo := 92) (hi := 96)) (by omega) (by omega) (fun S3 e3 C3 F3 => ?_)
  refine x_push 0 rfl ?_
  refine x_istore ?_
  refine x_fall ?_
  refine x_G_lo (lo' := [(0, x_R 92), (1, x_R 4), (2, x_I _), (3, x_I _), (4, x_I _)]) ⟨rfl, rfl, rfl, rfl, rfl, trivial⟩ ?_
  exact sf_72_92_4_b2 a2l a2h a3l a3h C0 k  _ _ _ rfl (by omega) (by omega)  C3 F3
theorem sf_74_92 {E : q_E} {σ : x_S} {Q : Option q_V → x_S → Prop} {a1 : Int} (a1l : (-2147483648) ≤ a1) (a1h : a1 ≤ 2147483647) (C0 : y_CI σ) (k : ∀ v, 0 ≤ v → v ≤ 1 → Q (some (x_I v)) σ) : x_P E 74 [x_R 92, x_I a1] σ Q := by
  refine x_Mt e_74 (h_74 E) (Nat.le_of_ble_eq_true rfl) t_74 rfl ?_
  refine x_blk (b := 0) (a_74 E) rfl ?_
  unfold b_74_0
  refine x_iload rfl ?_
  refine x_aload rfl ?_
  refine x_getIG y_f92_3 C0 ?_
  intro g1a g1b
  refine x_cS (fun _ => rfl) (Nat.le_of_ble_eq_true rfl) ?_
  refine sf_2 (by omega) (by omega) (by omega) (by omega) C0 (fun y2 => ?_) (fun y2 => ?_)
  · skip
    refine x_if_eq (by omega) (by omega) (fun z => absurd z (by omega)) (fun z3 => ?_)
    refine x_aload rfl ?_
    refine x_getR (r := 92) rfl (by decide) (by decide) rfl ?_
    refine x_iload rfl ?_
    refine x_ialdG y_a95 C0 (by omega) (by omega) (fun v4 v4a v4b => ?_)
    refine x_goto ?_
    refine x_blk (b := 2) (a_74 E) rfl ?_
    unfold b_74_2
    refine x_iret ?_
    exact k _ (by omega) (by omega) 
  · skip
    refine x_if_eq (by omega) (by omega) (fun z5 => ?_) (fun z => absurd (by omega) z)
    refine x_blk (b := 1) (a_74 E) rfl ?_
    unfold b_74_1
    refine x_push 0 rfl ?_
    refine x_fall ?_
    refine x_blk (b := 2) (a_74 E) rfl ?_
    unfold b_74_2
    refine x_iret ?_
    exact k _ (by omega) (by omega) 
theorem sf_127_0 {E : q_E} {σ : x_S} {Q : Option q_V → x_S → Prop} {a1 a2 a3 : Int} (a1l : (-2147483648) ≤ a1) (a1h : a1 ≤ 2147483647) (a2l : (-2147483648) ≤ a2) (a2h : a2 ≤ 2147483647) (a3l : (-2147483648) ≤ a3) (a3h : a3 ≤ 2147483647) (C0 : y_CI σ) (k : ∀ τ v, y_CI τ → y_fq 92 96 σ τ → (-2147483648) ≤ v → v ≤ 2147483647 → Q (some (x_I v)) τ) : x_P E 127 [x_R 0, x_I a1, x_I a2, x_I a3] σ Q := by
  refine x_Mt e_127 (h_127 E) (Nat.le_of_ble_eq_true rfl) t_127 rfl ?_
  refine x_blk (b := 0) (a_127 E) rfl ?_
  unfold b_127_0
  refine x_iload rfl ?_
  refine x_push 2 rfl ?_
  refine x_cS (fun _ => rfl) (Nat.le_of_ble_eq_true rfl) ?_
  refine sf_2 (by omega) (by omega) (by omega) (by omega) C0 (fun y1 => ?_) (fun y1 => ?_)
  · skip
    refine x_if_eq (by omega) (by omega) (fun z => absurd z (by omega)) (fun z2 => ?_)
    refine x_aload rfl ?_
    refine x_getR (r := 0) rfl (by decide) (by decide) rfl ?_
    refine x_iload rfl ?_
    refine x_iload rfl ?_
    refine x_cV (fun _ => rfl) rfl (by decide) (Nat.le_of_ble_eq_true rfl) ?_
    refine sf_44_4 (by omega) (by omega) (by omega) (by omega) C0 (fun y3 => ?_) (fun y3 => ?_)
    · skip
      refine x_if_ne (by omega) (by omega) (fun z => absurd z (by omega)) (fun z4 => ?_)
      refine x_blk (b := 2) (a_127 E) rfl ?_
      unfold b_127_2
      refine x_aload rfl ?_
      refine x_getR (r := 0) rfl (by decide) (by decide) rfl ?_
      refine x_aload rfl ?_
      refine x_getR (r := 0) rfl (by decide) (by decide) rfl ?_
      refine x_iload rfl ?_
      refine x_iload rfl ?_
      refine x_cV (fun _ => rfl) rfl (by decide) (Nat.le_of_ble_eq_true rfl) ?_
      refine sf_72_92_4 (by omega) (by omega) (by omega) (by omega) C0 (fun S5 C5 f5 => ?_)
      have F5 := y_fq_tr (by decide) (y_fr_rf (lo := 92) (hi := 96)) f5
      refine x_aload rfl ?_
      refine x_getR (r := 0) rfl (by decide) (by decide) rfl ?_
      refine x_iload rfl ?_
      refine x_cV (fun _ => rfl) rfl (by decide) (Nat.le_of_ble_eq_true rfl) ?_
      refine sf_74_92 (by omega) (by omega) C5 (fun v6 v6a v6b => ?_)
      refine x_iret ?_
      exact k _ _ C5 F5 (by omega) (by omega) 
    · skip
      refine x_if_ne (by omega) (by omega) (fun z7 => ?_) (fun z => absurd (by omega) z)
      refine x_fall ?_
      refine x_blk (b := 1) (a_127 E) rfl ?_
      unfold b_127_1
      refine x_push (-1) rfl ?_
      refine x_iret ?_
      exact k _ _ C0 (y_fr_rf (lo := 92) (hi := 96)) (by omega) (by omega) 
  · skip
    refine x_if_eq (by omega) (by omega) (fun z8 => ?_) (fun z => absurd (by omega) z)
    refine x_blk (b := 1) (a_127 E) rfl ?_
    unfold b_127_1
    refine x_push (-1) rfl ?_
    refine x_iret ?_
    exact k _ _ C0 (y_fr_rf (lo := 92) (hi := 96)) (by omega) (by omega) 
theorem sf_60_4 {E : q_E} {σ : x_S} {Q : Option q_V → x_S → Prop} {a1 : Int} (a1l : (-2147483648) ≤ a1) (a1h : a1 ≤ 2147483647) (C0 : y_CI σ) (k1 : 0 ≤ a1 ∧ a1 ≤ 15 ∧ a1 < σ 4 6 → Q (some (x_I 1)) σ) (k0 : 0 ≤ (0 : Int) → Q (some (x_I 0)) σ) : x_P E 60 [x_R 4, x_I a1] σ Q := by
  refine x_Mt e_60 (h_60 E) (Nat.le_of_ble_eq_true rfl) t_60 rfl ?_
  refine x_blk (b := 0) (a_60 E) rfl ?_
  unfold b_60_0
  refine x_iload rfl ?_
  refine x_push 16 rfl ?_
  refine x_cS (fun _ => rfl) (Nat.le_of_ble_eq_true rfl) ?_
  refine sf_2 (by omega) (by omega) (by omega) (by omega) C0 (fun y1 => ?_) (fun y1 => ?_)
  · skip
    refine x_if_eq (by omega) (by omega) (fun z => absurd z (by omega)) (fun z2 => ?_)
    refine x_iload rfl ?_
    refine x_aload rfl ?_
    refine x_getIG y_f4_6 C0 ?_
    intro g3a g3b
    refine x_icmp_ge (by omega) (by omega) (by omega) (by omega) (fun z4 => ?_) (fun z4 => ?_)
    · skip
      refine x_push 1 rfl ?_
      refine x_goto ?_
      refine x_blk (b := 2) (a_60 E) rfl ?_
      unfold b_60_2
      refine x_zret (by decide) ?_
      exact k1 (by omega)
    · skip
      refine x_blk (b := 1) (a_60 E) rfl ?_
      unfold b_60_1
      refine x_push 0 rfl ?_
      refine x_fall ?_
      refine x_blk (b := 2) (a_60 E) rfl ?_
      unfold b_60_2
      refine x_zret (by decide) ?_
      exact k0 (by omega)
  · skip
    refine x_if_eq (by omega) (by omega) (fun z5 => ?_) (fun z => absurd (by omega) z)
    refine x_blk (b := 1) (a_60 E) rfl ?_
    unfold b_60_1
    refine x_push 0 rfl ?_
    refine x_fall ?_
    refine x_blk (b := 2) (a_60 E) rfl ?_
    unfold b_60_2
    refine x_zret (by decide) ?_
    exact k0 (by omega)
theorem sf_6_4 {E : q_E} {σ : x_S} {Q : Option q_V → x_S → Prop} {a1 a2 : Int} (a1l : (-2147483648) ≤ a1) (a1h : a1 ≤ 2147483647) (a2l : (-2147483648) ≤ a2) (a2h : a2 ≤ 2147483647) (C0 : y_CI σ) (k : ∀ v, 0 ≤ v → v ≤ 15 → Q (some (x_I v)) σ) : x_P E 6 [x_R 4, x_I a1, x_I a2] σ Q := by
  refine x_Mt e_6 (h_6 E) (Nat.le_of_ble_eq_true rfl) t_6 rfl ?_
  refine x_blk (b := 0) (a_6 E) rfl ?_
  unfold b_6_0
  refine x_iload rfl ?_
  refine x_push 16 rfl ?_
  refine x_cS (fun _ => rfl) (Nat.le_of_ble_eq_true rfl) ?_
  refine sf_2 (by omega) (by omega) (by omega) (by omega) C0 (fun y1 => ?_) (fun y1 => ?_)
  · skip
    refine x_if_eq (by omega) (by omega) (fun z => absurd z (by omega)) (fun z2 => ?_)
    refine x_iload rfl ?_
    refine x_push 12 rfl ?_
    refine x_cS (fun _ => rfl) (Nat.le_of_ble_eq_true rfl) ?_
    refine sf_2 (by omega) (by omega) (by omega) (by omega) C0 (fun y3 => ?_) (fun y3 => ?_)
    · skip
      refine x_if_eq (by omega) (by omega) (fun z => absurd z (by omega)) (fun z4 => ?_)
      refine x_aload rfl ?_
      refine x_getR (r := 4) rfl (by decide) (by decide) rfl ?_
      refine x_iload rfl ?_
      refine x_push 12 rfl ?_
      refine x_imul ?_
      refine x_iload rfl ?_
      refine x_iadd ?_
      refine x_ialdG y_a9 C0 (by omega) (by omega) (fun v5 v5a v5b => ?_)
      refine x_goto ?_
      refine x_blk (b := 2) (a_6 E) rfl ?_
      unfold b_6_2
      refine x_iret ?_
      exact k _ (by omega) (by omega) 
    · skip
      refine x_if_eq (by omega) (by omega) (fun z6 => ?_) (fun z => absurd (by omega) z)
      refine x_blk (b := 1) (a_6 E) rfl ?_
      unfold b_6_1
      refine x_push 0 rfl ?_
      refine x_fall ?_
      refine x_blk (b := 2) (a_6 E) rfl ?_
      unfold b_6_2
      refine x_iret ?_
      exact k _ (by omega) (by omega) 
  · skip
    refine x_if_eq (by omega) (by omega) (fun z7 => ?_) (fun z => absurd (by omega) z)
    refine x_blk (b := 1) (a_6 E) rfl ?_
    unfold b_6_1
    refine x_push 0 rfl ?_
    refine x_fall ?_
    refine x_blk (b := 2) (a_6 E) rfl ?_
    unfold b_6_2
    refine x_iret ?_
    exact k _ (by omega) (by omega) 
theorem sf_53_4 {E : q_E} {σ : x_S} {Q : Option q_V → x_S → Prop} {a1 a2 : Int} (a1l : (-2147483648) ≤ a1) (a1h : a1 ≤ 2147483647) (a2l : (-2147483648) ≤ a2) (a2h : a2 ≤ 2147483647) (C0 : y_CI σ) (k : ∀ v, (-4) ≤ v → v ≤ 15 → Q (some (x_I v)) σ) : x_P E 53 [x_R 4, x_I a1, x_I a2] σ Q := by
  refine x_Mt e_53 (h_53 E) (Nat.le_of_ble_eq_true rfl) t_53 rfl ?_
  refine x_blk (b := 0) (a_53 E) rfl ?_
  unfold b_53_0
  refine x_iload rfl ?_
  refine x_push 16 rfl ?_
  refine x_cS (fun _ => rfl) (Nat.le_of_ble_eq_true rfl) ?_
  refine sf_2 (by omega) (by omega) (by omega) (by omega) C0 (fun y1 => ?_) (fun y1 => ?_)
  · skip
    refine x_if_eq (by omega) (by omega) (fun z => absurd z (by omega)) (fun z2 => ?_)
    refine x_iload rfl ?_
    refine x_push 7 rfl ?_
    refine x_cS (fun _ => rfl) (Nat.le_of_ble_eq_true rfl) ?_
    refine sf_2 (by omega) (by omega) (by omega) (by omega) C0 (fun y3 => ?_) (fun y3 => ?_)
    · skip
      refine x_if_ne (by omega) (by omega) (fun z => absurd z (by omega)) (fun z4 => ?_)
      refine x_blk (b := 2) (a_53 E) rfl ?_
      unfold b_53_2
      refine x_iload rfl ?_
      refine x_push 12 rfl ?_
      refine x_imul ?_
      refine x_istore ?_
      refine x_iload rfl ?_
      refine x_aload rfl ?_
      refine x_getR (r := 4) rfl (by decide) (by decide) rfl ?_
      refine x_iload rfl ?_
      refine x_push 4 rfl ?_
      refine x_iadd ?_
      refine x_ialdG y_a9 C0 (by omega) (by omega) (fun v5 v5a v5b => ?_)
      refine x_icmp_ge (by omega) (by omega) (by omega) (by omega) (fun z6 => ?_) (fun z6 => ?_)
      · skip
        refine x_aload rfl ?_
        refine x_getR (r := 4) rfl (by decide) (by decide) rfl ?_
        refine x_iload rfl ?_
        refine x_push 5 rfl ?_
        refine x_iadd ?_
        refine x_iload rfl ?_
        refine x_iadd ?_
        refine x_ialdG y_a9 C0 (by omega) (by omega) (fun v7 v7a v7b => ?_)
        refine x_goto ?_
        refine x_blk (b := 4) (a_53 E) rfl ?_
        unfold b_53_4
        refine x_iret ?_
        exact k _ (by omega) (by omega) 
      · skip
        refine x_blk (b := 3) (a_53 E) rfl ?_
        unfold b_53_3
        refine x_push (-4) rfl ?_
        refine x_fall ?_
        refine x_blk (b := 4) (a_53 E) rfl ?_
        unfold b_53_4
        refine x_iret ?_
        exact k _ (by omega) (by omega) 
    · skip
      refine x_if_ne (by omega) (by omega) (fun z8 => ?_) (fun z => absurd (by omega) z)
      refine x_fall ?_
      refine x_blk (b := 1) (a_53 E) rfl ?_
      unfold b_53_1
      refine x_push (-4) rfl ?_
      refine x_iret ?_
      exact k _ (by omega) (by omega) 
  · skip
    refine x_if_eq (by omega) (by omega) (fun z9 => ?_) (fun z => absurd (by omega) z)
    refine x_blk (b := 1) (a_53 E) rfl ?_
    unfold b_53_1
    refine x_push (-4) rfl ?_
    refine x_iret ?_
    exact k _ (by omega) (by omega) 
