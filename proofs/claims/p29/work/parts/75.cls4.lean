theorem sf_153_0 {E : q_E} {σ : x_S} {Q : Option q_V → x_S → Prop} {a1 a2 : Int} (a1l : (-2147483648) ≤ a1) (a1h : a1 ≤ 2147483647) (a2l : (-2147483648) ≤ a2) (a2h : a2 ≤ 2147483647) (C0 : y_CI σ) (k : ∀ τ v, y_CI τ → y_fq 92 111 σ τ → (-2147483648) ≤ v → v ≤ 2147483647 → Q (some (x_I v)) τ) : x_P E 153 [x_R 0, x_I a1, x_I a2] σ Q := by
  refine x_Mt e_153 (h_153 E) (Nat.le_of_ble_eq_true rfl) t_153 rfl ?_
  refine x_blk (b := 0) (a_153 E) rfl ?_
  unfold b_153_0
  refine x_iload rfl ?_
  refine x_push 3 rfl ?_
  refine x_cS (fun _ => rfl) (Nat.le_of_ble_eq_true rfl) ?_
  refine sf_2 (by omega) (by omega) (by omega) (by omega) C0 (fun y1 => ?_) (fun y1 => ?_)
  · skip
    refine x_if_eq (by omega) (by omega) (fun z => absurd z (by omega)) (fun z2 => ?_)
    refine x_iload rfl ?_
    refine x_push (-1) rfl ?_
    refine x_icmp_ge (by omega) (by omega) (by omega) (by omega) (fun z3 => ?_) (fun z3 => ?_)
    · skip
      refine x_fall ?_
      refine x_blk (b := 1) (a_153 E) rfl ?_
      unfold b_153_1
      refine x_push (-1) rfl ?_
      refine x_iret ?_
      exact k _ _ C0 (y_fr_rf (lo := 92) (hi := 111)) (by omega) (by omega) 
    · skip
      refine x_blk (b := 2) (a_153 E) rfl ?_
      unfold b_153_2
      refine x_aload rfl ?_
      refine x_getR (r := 0) rfl (by decide) (by decide) rfl ?_
      refine x_aload rfl ?_
      refine x_getR (r := 0) rfl (by decide) (by decide) rfl ?_
      refine x_iload rfl ?_
      refine x_push 0 rfl ?_
      refine x_cV (fun _ => rfl) rfl (by decide) (Nat.le_of_ble_eq_true rfl) ?_
      refine sf_72_92_4 (by omega) (by omega) (by omega) (by omega) C0 (fun S4 C4 f4 => ?_)
      have F4 := y_fq_tr (by decide) (y_fr_rf (lo := 92) (hi := 111)) f4
      refine x_aload rfl ?_
      refine x_getR (r := 0) rfl (by decide) (by decide) rfl ?_
      refine x_aload rfl ?_
      refine x_getR (r := 0) rfl (by decide) (by decide) rfl ?_
      refine x_aload rfl ?_
      refine x_getR (r := 0) rfl (by decide) (by decide) rfl ?_
      refine x_push 0 rfl ?_
      refine x_push 0 rfl ?_
      refine x_cV (fun _ => rfl) rfl (by decide) (Nat.le_of_ble_eq_true rfl) ?_
      refine sf_84_105_4_92 (by omega) (by omega) (by omega) (by omega) C4 (fun S5 v5 C5 f5 v5a v5b => ?_)
      have F5 := y_fq_tr (by decide) F4 f5
      refine x_istore ?_
      refine x_iload rfl ?_
      refine x_if_ge (by omega) (by omega) (fun z6 => ?_) (fun z6 => ?_)
      · skip
        refine x_iload rfl ?_
        refine x_iret ?_
        exact k _ _ C5 F5 (by omega) (by omega) 
      · skip
        refine x_blk (b := 3) (a_153 E) rfl ?_
        unfold b_153_3
        refine x_aload rfl ?_
        refine x_getR (r := 0) rfl (by decide) (by decide) rfl ?_
        refine x_aload rfl ?_
        refine x_getR (r := 0) rfl (by decide) (by decide) rfl ?_
        refine x_aload rfl ?_
        refine x_getR (r := 0) rfl (by decide) (by decide) rfl ?_
        refine x_getR (r := 105) rfl (by decide) (by decide) rfl ?_
        refine x_aload rfl ?_
        refine x_getR (r := 0) rfl (by decide) (by decide) rfl ?_
        refine x_getIG y_f105_5 C5 ?_
        intro g7a g7b
        refine x_cV (fun _ => rfl) rfl (by decide) (Nat.le_of_ble_eq_true rfl) ?_
        refine sf_154_96_4_106 (by omega) (by omega) C5 (fun S8 C8 f8 => ?_)
        have F8 := y_fq_tr (by decide) F5 f8
        refine x_aload rfl ?_
        refine x_getR (r := 0) rfl (by decide) (by decide) rfl ?_
        refine x_aload rfl ?_
        refine x_getR (r := 0) rfl (by decide) (by decide) rfl ?_
        refine x_aload rfl ?_
        refine x_getR (r := 0) rfl (by decide) (by decide) rfl ?_
        refine x_push 1 rfl ?_
        refine x_push 0 rfl ?_
        refine x_cV (fun _ => rfl) rfl (by decide) (Nat.le_of_ble_eq_true rfl) ?_
        refine sf_84_105_4_96 (by omega) (by omega) (by omega) (by omega) C8 (fun S9 v9 C9 f9 v9a v9b => ?_)
        have F9 := y_fq_tr (by decide) F8 f9
        refine x_istore ?_
        refine x_X_lo (lo' := [(0, x_R 0), (1, x_I _), (2, x_I _), (3, x_I _), (4, x_I _)]) ⟨rfl, rfl, rfl, rfl, rfl, trivial⟩ ?_
        refine x_aload rfl ?_
        refine x_iload rfl ?_
        refine x_push (-10) rfl ?_
        refine x_icmp_gt (by omega) (by omega) (by omega) (by omega) (fun z10 => ?_) (fun z10 => ?_)
        · skip
          refine x_iload rfl ?_
          refine x_push 50 rfl ?_
          refine x_isub ?_
          refine x_wrp (fun v11 v11a v11b => ?_)
          refine x_goto ?_
          refine x_blk (b := 5) (a_153 E) rfl ?_
          unfold b_153_5
          refine x_iload rfl ?_
          refine x_cV (fun _ => rfl) rfl (by decide) (Nat.le_of_ble_eq_true rfl) ?_
          refine sf_98_0 (by omega) (by omega) (by omega) (by omega) C9 (fun v12 v12a v12b => ?_)
          refine x_iret ?_
          exact k _ _ C9 F9 (by omega) (by omega) 
        · skip
          refine x_blk (b := 4) (a_153 E) rfl ?_
          unfold b_153_4
          refine x_iload rfl ?_
          refine x_fall ?_
          refine x_blk (b := 5) (a_153 E) rfl ?_
          unfold b_153_5
          refine x_iload rfl ?_
          refine x_cV (fun _ => rfl) rfl (by decide) (Nat.le_of_ble_eq_true rfl) ?_
          refine sf_98_0 (by omega) (by omega) (by omega) (by omega) C9 (fun v13 v13a v13b => ?_)
          refine x_iret ?_
          exact k _ _ C9 F9 (by omega) (by omega) 
  · skip
    refine x_if_eq (by omega) (by omega) (fun z14 => ?_) (fun z => absurd (by omega) z)
    refine x_blk (b := 1) (a_153 E) rfl ?_
    unfold b_153_1
    refine x_push (-1) rfl ?_
    refine x_iret ?_
    exact k _ _ C0 (y_fr_rf (lo := 92) (hi := 111)) (by omega) (by omega) 
theorem sf_73_101_4_b4 {E : q_E} {σ : x_S} {Q : Option q_V → x_S → Prop} {a2 : Int} (a2l : (-2147483648) ≤ a2) (a2h : a2 ≤ 2147483647) (C0 : y_CI σ) (k : ∀ τ, y_CI τ → y_fq 103 105 σ τ → Q none τ) {w : Int} (wL : 0 ≤ w) (wH : w ≤ 39) (ho : ∀ (w' : Int) (τ' : x_S), (w' + 1).toNat < (w + 1).toNat → (-1) ≤ w' → w' ≤ 39 → y_CI τ' → y_fq 103 105 σ τ' → x_G E m_73 Q (t_73 5) [(0, x_R 101), (1, x_R 4), (2, x_I a2), (3, x_I w')] [] τ') : ∀ (N : Nat) (s kq h : Int) (τ : x_S), (2 - h).toNat = N → (-2147483648) ≤ s → s ≤ 2147483647 → (-2147483648) ≤ kq → kq ≤ 2147483647 → 0 ≤ h → h ≤ 2 → y_CI τ → y_fq 103 105 σ τ → x_G E m_73 Q (t_73 4) [(0, x_R 101), (1, x_R 4), (2, x_I a2), (3, x_I w), (4, x_I s), (5, x_I kq), (6, x_I h)] [] τ := by
  intro N
  induction N using Nat.strongRecOn with
  | ind N ih =>
    intro s kq h τ hN sL sH kqL kqH hL hH C F
    refine x_blk (b := 4) (a_73 E) rfl ?_
    unfold b_73_4
    refine x_iload rfl ?_
    refine x_aload rfl ?_
    refine x_getR (r := 101) rfl (by decide) (by decide) rfl ?_
    refine x_iload rfl ?_
    refine x_ialdG y_a102 C (by omega) (by omega) (fun v1 v1a v1b => ?_)
    refine x_cS (fun _ => rfl) (Nat.le_of_ble_eq_true rfl) ?_
    refine sf_7 (by omega) (by omega) C (fun v2 v2a v2b => ?_)
    refine x_icmp_ge (by omega) (by omega) (by omega) (by omega) (fun z3 => ?_) (fun z3 => ?_)
    · skip
      refine x_iload rfl ?_
      refine x_iload rfl ?_
      refine x_iadd ?_
      refine x_wrp (fun v4 v4a v4b => ?_)
      refine x_istore ?_
      refine x_iload rfl ?_
      refine x_aload rfl ?_
      refine x_getIG y_f101_3 C ?_
      intro g5a g5b
      refine x_cS (fun _ => rfl) (Nat.le_of_ble_eq_true rfl) ?_
      refine sf_2 (by omega) (by omega) (by omega) (by omega) C (fun y6 => ?_) (fun y6 => ?_)
      · skip
        refine x_if_eq (by omega) (by omega) (fun z => absurd z (by omega)) (fun z7 => ?_)
        refine x_push 2 rfl ?_
        refine x_iload rfl ?_
        refine x_imul ?_
        refine x_wrp (fun v8 v8a v8b => ?_)
        refine x_aload rfl ?_
        refine x_getR (r := 101) rfl (by decide) (by decide) rfl ?_
        refine x_iload rfl ?_
        refine x_ialdG y_a104 C (by omega) (by omega) (fun v9 v9a v9b => ?_)
        refine x_iadd ?_
        refine x_wrp (fun v10 v10a v10b => ?_)
        refine x_istore ?_
        refine x_X_lo (lo' := [(0, x_R 101), (1, x_R 4), (2, x_I _), (3, x_I _), (4, x_I _), (5, x_I _), (6, x_I _), (7, x_I _)]) ⟨rfl, rfl, rfl, rfl, rfl, rfl, rfl, rfl, trivial⟩ ?_
        refine x_iload rfl ?_
        refine x_aload rfl ?_
        refine x_getR (r := 101) rfl (by decide) (by decide) rfl ?_
        refine x_iload rfl ?_
        refine x_ialdG y_a103 C (by omega) (by omega) (fun v11 v11a v11b => ?_)
        refine x_iadd ?_
        refine x_wrp (fun v12 v12a v12b => ?_)
        refine x_istore ?_
        refine x_fall ?_
        refine x_blk (b := 3) (a_73 E) rfl ?_
        unfold b_73_3
        refine x_iinc 1 rfl rfl ?_
        refine x_X_lo (lo' := [(0, x_R 101), (1, x_R 4), (2, x_I _), (3, x_I _), (4, x_I _), (5, x_I _), (6, x_I _), (7, x_I _)]) ⟨rfl, rfl, rfl, rfl, rfl, rfl, rfl, rfl, trivial⟩ ?_
        refine x_goto ?_
        refine x_G_lo (lo' := [(0, x_R 101), (1, x_R 4), (2, x_I _), (3, x_I _), (4, x_I _), (5, x_I _), (6, x_I _)]) ⟨rfl, rfl, rfl, rfl, rfl, rfl, rfl, trivial⟩ ?_
        exact ih _ (by omega) _ _ _ _ rfl (by omega) (by omega) (by omega) (by omega) (by omega) (by omega)  C F
      · skip
        refine x_if_eq (by omega) (by omega) (fun z13 => ?_) (fun z => absurd (by omega) z)
        refine x_blk (b := 3) (a_73 E) rfl ?_
        unfold b_73_3
        refine x_iinc 1 rfl rfl ?_
        refine x_X_lo (lo' := [(0, x_R 101), (1, x_R 4), (2, x_I _), (3, x_I _), (4, x_I _), (5, x_I _), (6, x_I _), (7, x_I _)]) ⟨rfl, rfl, rfl, rfl, rfl, rfl, rfl, rfl, trivial⟩ ?_
        refine x_goto ?_
        refine x_G_lo (lo' := [(0, x_R 101), (1, x_R 4), (2, x_I _), (3, x_I _), (4, x_I _), (5, x_I _), (6, x_I _)]) ⟨rfl, rfl, rfl, rfl, rfl, rfl, rfl, trivial⟩ ?_
        exact ih _ (by omega) _ _ _ _ rfl (by omega) (by omega) (by omega) (by omega) (by omega) (by omega)  C F
    · skip
      refine x_blk (b := 2) (a_73 E) rfl ?_
      unfold b_73_2
      refine x_aload rfl ?_
      refine x_getR (r := 101) rfl (by decide) (by decide) rfl ?_
      refine x_iload rfl ?_
      refine x_iload rfl ?_
      refine x_astG y_a103 C (by decide) F (by omega) (by omega) (by omega) (by omega) (fun S14 e14 C14 F14 => ?_)
      refine x_aload rfl ?_
      refine x_getR (r := 101) rfl (by decide) (by decide) rfl ?_
      refine x_iload rfl ?_
      refine x_aload rfl ?_
      refine x_iload rfl ?_
      refine x_aload rfl ?_
      refine x_getR (r := 101) rfl (by decide) (by decide) rfl ?_
      refine x_iload rfl ?_
      refine x_ialdG y_a102 C14 (by omega) (by omega) (fun v15 v15a v15b => ?_)
      refine x_iload rfl ?_
      refine x_cV (fun _ => rfl) rfl (by decide) (Nat.le_of_ble_eq_true rfl) ?_
      refine sf_30_4 (by omega) (by omega) (by omega) (by omega) (by omega) (by omega) C14 (fun v16 v16a v16b => ?_)
      refine x_astG y_a104 C14 (by decide) F14 (by omega) (by omega) (by omega) (by omega) (fun S17 e17 C17 F17 => ?_)
      refine x_iinc (-1) rfl rfl ?_
      refine x_goto ?_
      refine x_G_lo (lo' := [(0, x_R 101), (1, x_R 4), (2, x_I _), (3, x_I _)]) ⟨rfl, rfl, rfl, rfl, trivial⟩ ?_
      exact ho _ _ (by omega) (by omega) (by omega)  C17 F17
theorem sf_73_101_4_b5 {E : q_E} {σ : x_S} {Q : Option q_V → x_S → Prop} {a2 : Int} (a2l : (-2147483648) ≤ a2) (a2h : a2 ≤ 2147483647) (C0 : y_CI σ) (k : ∀ τ, y_CI τ → y_fq 103 105 σ τ → Q none τ) : ∀ (N : Nat) (w : Int) (τ : x_S), (w + 1).toNat = N → (-1) ≤ w → w ≤ 39 → y_CI τ → y_fq 103 105 σ τ → x_G E m_73 Q (t_73 5) [(0, x_R 101), (1, x_R 4), (2, x_I a2), (3, x_I w)] [] τ := by
  intro N
  induction N using Nat.strongRecOn with
  | ind N ih =>
    intro w τ hN wL wH C F
    refine x_blk (b := 5) (a_73 E) rfl ?_
    unfold b_73_5
    refine x_iload rfl ?_
    refine x_if_lt (by omega) (by omega) (fun z1 => ?_) (fun z1 => ?_)
    · skip
      refine x_blk (b := 1) (a_73 E) rfl ?_
      unfold b_73_1
      refine x_vret ?_
      exact k _ C F 
    · skip
      refine x_push 1 rfl ?_
      refine x_istore ?_
      refine x_push 0 rfl ?_
      refine x_istore ?_
      refine x_X_lo (lo' := [(0, x_R 101), (1, x_R 4), (2, x_I _), (3, x_I _), (4, x_I _), (5, x_I _)]) ⟨rfl, rfl, rfl, rfl, rfl, rfl, trivial⟩ ?_
      refine x_push 0 rfl ?_
      refine x_istore ?_
      refine x_fall ?_
      refine x_G_lo (lo' := [(0, x_R 101), (1, x_R 4), (2, x_I _), (3, x_I _), (4, x_I _), (5, x_I _), (6, x_I _)]) ⟨rfl, rfl, rfl, rfl, rfl, rfl, rfl, trivial⟩ ?_
      exact sf_73_101_4_b4 a2l a2h C0 k (by omega) (by omega) (fun x0 t z h0 h1 c f => ih _ (by omega) x0 t rfl h0 h1 c f) _ _ _ _ _ rfl (by omega) (by omega) (by omega) (by omega) (by omega) (by omega)  C F
theorem sf_73_101_4 {E : q_E} {σ : x_S} {Q : Option q_V → x_S → Prop} {a2 : Int} (a2l : (-2147483648) ≤ a2) (a2h : a2 ≤ 2147483647) (C0 : y_CI σ) (k : ∀ τ, y_CI τ → y_fq 103 105 σ τ → Q none τ) : x_P E 73 [x_R 101, x_R 4, x_I a2] σ Q := by
  refine x_Mt e_73 (h_73 E) (Nat.le_of_ble_eq_true rfl) t_73 rfl ?_
  refine x_blk (b := 0) (a_73 E) rfl ?_
  unfold b_73_0
  refine x_aload rfl ?_
  refine x_getIG y_f101_3 C0 ?_
  intro g1a g1b
  refine x_push 1 rfl ?_
  refine x_isub ?_
  refine x_istore ?_
  refine x_fall ?_
  refine x_G_lo (lo' := [(0, x_R 101), (1, x_R 4), (2, x_I _), (3, x_I _)]) ⟨rfl, rfl, rfl, rfl, trivial⟩ ?_
  exact sf_73_101_4_b5 a2l a2h C0 k  _ _ _ rfl (by omega) (by omega)  C0 (y_fr_rf (lo := 103) (hi := 105))
theorem sf_72_101_4_b2 {E : q_E} {σ : x_S} {Q : Option q_V → x_S → Prop} {a2 a3 : Int} (a2l : (-2147483648) ≤ a2) (a2h : a2 ≤ 2147483647) (a3l : (-2147483648) ≤ a3) (a3h : a3 ≤ 2147483647) (C0 : y_CI σ) (k : ∀ τ, y_CI τ → y_fq 101 105 σ τ → Q none τ) : ∀ (N : Nat) (w : Int) (τ : x_S), (40 - w).toNat = N → 0 ≤ w → w ≤ 40 → y_CI τ → y_fq 101 105 σ τ → x_G E m_72 Q (t_72 2) [(0, x_R 101), (1, x_R 4), (2, x_I a2), (3, x_I a3), (4, x_I w)] [] τ := by
  intro N
  induction N using Nat.strongRecOn with
  | ind N ih =>
    intro w τ hN wL wH C F
    refine x_blk (b := 2) (a_72 E) rfl ?_
    unfold b_72_2
    refine x_iload rfl ?_
    refine x_aload rfl ?_
    refine x_getIG y_f101_3 C ?_
    intro g1a g1b
    refine x_icmp_ge (by omega) (by omega) (by omega) (by omega) (fun z2 => ?_) (fun z2 => ?_)
    · skip
      refine x_aload rfl ?_
      refine x_getR (r := 101) rfl (by decide) (by decide) rfl ?_
      refine x_iload rfl ?_
      refine x_aload rfl ?_
      refine x_iload rfl ?_
      refine x_iload rfl ?_
      refine x_cV (fun _ => rfl) rfl (by decide) (Nat.le_of_ble_eq_true rfl) ?_
      refine sf_47_4 (by omega) (by omega) (by omega) (by omega) C (fun v3 v3a v3b => ?_)
      refine x_astG y_a102 C (by decide) F (by omega) (by omega) (by omega) (by omega) (fun S4 e4 C4 F4 => ?_)
      refine x_iinc 1 rfl rfl ?_
      refine x_goto ?_
      refine x_G_lo (lo' := [(0, x_R 101), (1, x_R 4), (2, x_I _), (3, x_I _), (4, x_I _)]) ⟨rfl, rfl, rfl, rfl, rfl, trivial⟩ ?_
      exact ih _ (by omega) _ _ rfl (by omega) (by omega)  C4 F4
    · skip
      refine x_blk (b := 1) (a_72 E) rfl ?_
      unfold b_72_1
      refine x_aload rfl ?_
      refine x_aload rfl ?_
      refine x_iload rfl ?_
      refine x_cV (fun _ => rfl) rfl (by decide) (Nat.le_of_ble_eq_true rfl) ?_
      refine sf_73_101_4 (by omega) (by omega) C (fun S5 C5 f5 => ?_)
      have F5 := y_fq_tr (by decide) F f5
      refine x_vret ?_
      exact k _ C5 F5 
theorem sf_72_101_4 {E : q_E} {σ : x_S} {Q : Option q_V → x_S → Prop} {a2 a3 : Int} (a2l : (-2147483648) ≤ a2) (a2h : a2 ≤ 2147483647) (a3l : (-2147483648) ≤ a3) (a3h : a3 ≤ 2147483647) (C0 : y_CI σ) (k : ∀ τ, y_CI τ → y_fq 101 105 σ τ → Q none τ) : x_P E 72 [x_R 101, x_R 4, x_I a2, x_I a3] σ Q := by
  refine x_Mt e_72 (h_72 E) (Nat.le_of_ble_eq_true rfl) t_72 rfl ?_
  refine x_blk (b := 0) (a_72 E) rfl ?_
  unfold b_72_0
  refine x_aload rfl ?_
  refine x_aload rfl ?_
  refine x_iload rfl ?_
  refine x_cV (fun _ => rfl) rfl (by decide) (Nat.le_of_ble_eq_true rfl) ?_
  refine sf_63_4 (by omega) (by omega) C0 (fun v1 v1a v1b => ?_)
  refine x_push 40 rfl ?_
  refine x_min (by omega) (by omega) (by omega) (by omega) (Nat.le_of_ble_eq_true rfl) (fun v2 v2a v2b v2c => ?_)
  refine x_putIG y_f101_3 ⟨by decide, rfl⟩ (by decide) C0 (by decide) (y_fr_rf (lo := 101) (hi := 105)) (by omega) (by omega) (fun S3 e3 C3 F3 => ?_)
  refine x_push 0 rfl ?_
  refine x_istore ?_
  refine x_fall ?_
  refine x_G_lo (lo' := [(0, x_R 101), (1, x_R 4), (2, x_I _), (3, x_I _), (4, x_I _)]) ⟨rfl, rfl, rfl, rfl, rfl, trivial⟩ ?_
  exact sf_72_101_4_b2 a2l a2h a3l a3h C0 k  _ _ _ rfl (by omega) (by omega)  C3 F3
theorem sf_106_100_4 {E : q_E} {σ : x_S} {Q : Option q_V → x_S → Prop} {a2 : Int} (a2l : (-2147483648) ≤ a2) (a2h : a2 ≤ 2147483647) (C0 : y_CI σ) (k : ∀ τ, y_CI τ → y_fq 101 105 σ τ → Q none τ) : x_P E 106 [x_R 100, x_R 4, x_I a2] σ Q := by
  refine x_Mt e_106 (h_106 E) (Nat.le_of_ble_eq_true rfl) t_106 rfl ?_
  refine x_blk (b := 0) (a_106 E) rfl ?_
  unfold b_106_0
  refine x_aload rfl ?_
  refine x_getR (r := 100) rfl (by decide) (by decide) rfl ?_
  refine x_aload rfl ?_
  refine x_iload rfl ?_
  refine x_push 0 rfl ?_
  refine x_cV (fun _ => rfl) rfl (by decide) (Nat.le_of_ble_eq_true rfl) ?_
  refine sf_72_101_4 (by omega) (by omega) (by omega) (by omega) C0 (fun S1 C1 f1 => ?_)
  have F1 := y_fq_tr (by decide) (y_fr_rf (lo := 101) (hi := 105)) f1
  refine x_vret ?_
  exact k _ C1 F1 
theorem sf_145 {E : q_E} {σ : x_S} {Q : Option q_V → x_S → Prop} {a0 : Int} (a0l : 0 ≤ a0) (a0h : a0 ≤ 2147483647) (C0 : y_CI σ) (k : ∀ v, 0 ≤ v → v ≤ 15 → Q (some (x_I v)) σ) : x_P E 145 [x_I a0] σ Q := by
  refine x_Mt e_145 (h_145 E) (Nat.le_of_ble_eq_true rfl) t_145 rfl ?_
  refine x_blk (b := 0) (a_145 E) rfl ?_
  unfold b_145_0
  refine x_iload rfl ?_
  refine x_push 7 rfl ?_
  refine x_idiv (by omega) (by omega) (by omega) (by omega) ?_
  refine x_push 16 rfl ?_
  refine x_irem (by omega) (by omega) (by omega) (by omega) ?_
  refine x_iret ?_
  exact k _ (by omega) (by omega) 
theorem sf_146 {E : q_E} {σ : x_S} {Q : Option q_V → x_S → Prop} {a0 : Int} (a0l : 0 ≤ a0) (a0h : a0 ≤ 2147483647) (C0 : y_CI σ) (k : ∀ v, 0 ≤ v → v ≤ 6 → Q (some (x_I v)) σ) : x_P E 146 [x_I a0] σ Q := by
  refine x_Mt e_146 (h_146 E) (Nat.le_of_ble_eq_true rfl) t_146 rfl ?_
  refine x_blk (b := 0) (a_146 E) rfl ?_
  unfold b_146_0
  refine x_iload rfl ?_
  refine x_push 7 rfl ?_
  refine x_irem (by omega) (by omega) (by omega) (by omega) ?_
  refine x_iret ?_
  exact k _ (by omega) (by omega) 
theorem sf_144_100_4 {E : q_E} {σ : x_S} {Q : Option q_V → x_S → Prop} {a2 : Int} (a2l : 0 ≤ a2) (a2h : a2 ≤ 2147483647) (C0 : y_CI σ) (k : ∀ v, (-4) ≤ v → v ≤ 15 → Q (some (x_I v)) σ) : x_P E 144 [x_R 100, x_R 4, x_I a2] σ Q := by
  refine x_Mt e_144 (h_144 E) (Nat.le_of_ble_eq_true rfl) t_144 rfl ?_
  refine x_blk (b := 0) (a_144 E) rfl ?_
  unfold b_144_0
  refine x_aload rfl ?_
  refine x_iload rfl ?_
  refine x_cS (fun _ => rfl) (Nat.le_of_ble_eq_true rfl) ?_
  refine sf_145 (by omega) (by omega) C0 (fun v1 v1a v1b => ?_)
  refine x_iload rfl ?_
  refine x_cS (fun _ => rfl) (Nat.le_of_ble_eq_true rfl) ?_
  refine sf_146 (by omega) (by omega) C0 (fun v2 v2a v2b => ?_)
  refine x_cV (fun _ => rfl) rfl (by decide) (Nat.le_of_ble_eq_true rfl) ?_
  refine sf_53_4 (by omega) (by omega) (by omega) (by omega) C0 (fun v3 v3a v3b => ?_)
  refine x_iret ?_
  exact k _ (by omega) (by omega) 
theorem sf_151_4_b2 {E : q_E} {σ : x_S} {Q : Option q_V → x_S → Prop} {a1 a2 : Int} (a1l : (-2147483648) ≤ a1) (a1h : a1 ≤ 2147483647) (a2l : 0 ≤ a2) (a2h : a2 ≤ 7) (C0 : y_CI σ) (k : ∀ v, 0 ≤ v → v ≤ 7 → Q (some (x_I v)) σ) : ∀ (N : Nat) (d t : Int), (7 - t).toNat = N → (-2147483648) ≤ d → d ≤ 2147483647 → 0 ≤ t → t ≤ 7 → x_G E m_151 Q (t_151 2) [(0, x_R 4), (1, x_I a1), (3, x_I d), (4, x_I t)] [] σ := by
  intro N
  induction N using Nat.strongRecOn with
  | ind N ih =>
    intro d t hN dL dH tL tH
    refine x_blk (b := 2) (a_151 E) rfl ?_
    unfold b_151_2
    refine x_iload rfl ?_
    refine x_if_le (by omega) (by omega) (fun z1 => ?_) (fun z1 => ?_)
    · skip
      refine x_blk (b := 1) (a_151 E) rfl ?_
      unfold b_151_1
      refine x_iload rfl ?_
      refine x_iret ?_
      exact k _ (by omega) (by omega) 
    · skip
      refine x_iload rfl ?_
      refine x_push 7 rfl ?_
      refine x_icmp_ge (by omega) (by omega) (by omega) (by omega) (fun z2 => ?_) (fun z2 => ?_)
      · skip
        refine x_iload rfl ?_
        refine x_aload rfl ?_
        refine x_iload rfl ?_
        refine x_iload rfl ?_
        refine x_cV (fun _ => rfl) rfl (by decide) (Nat.le_of_ble_eq_true rfl) ?_
        refine sf_53_4 (by omega) (by omega) (by omega) (by omega) C0 (fun v3 v3a v3b => ?_)
        refine x_cS (fun _ => rfl) (Nat.le_of_ble_eq_true rfl) ?_
        refine sf_7 (by omega) (by omega) C0 (fun v4 v4a v4b => ?_)
        refine x_push 1 rfl ?_
        refine x_isub ?_
        refine x_iadd ?_
        refine x_wrp (fun v5 v5a v5b => ?_)
        refine x_istore ?_
        refine x_iinc 1 rfl rfl ?_
        refine x_X_lo (lo' := [(0, x_R 4), (1, x_I _), (3, x_I _), (4, x_I _)]) ⟨rfl, rfl, rfl, rfl, trivial⟩ ?_
        refine x_goto ?_
        refine x_G_lo (lo' := [(0, x_R 4), (1, x_I _), (3, x_I _), (4, x_I _)]) ⟨rfl, rfl, rfl, rfl, trivial⟩ ?_
        exact ih _ (by omega) _ _  rfl (by omega) (by omega) (by omega) (by omega)  
      · skip
        refine x_blk (b := 1) (a_151 E) rfl ?_
        unfold b_151_1
        refine x_iload rfl ?_
        refine x_iret ?_
        exact k _ (by omega) (by omega) 
theorem sf_151_4 {E : q_E} {σ : x_S} {Q : Option q_V → x_S → Prop} {a1 a2 : Int} (a1l : (-2147483648) ≤ a1) (a1h : a1 ≤ 2147483647) (a2l : 0 ≤ a2) (a2h : a2 ≤ 7) (C0 : y_CI σ) (k : ∀ v, 0 ≤ v → v ≤ 7 → Q (some (x_I v)) σ) : x_P E 151 [x_R 4, x_I a1, x_I a2] σ Q := by
  refine x_Mt e_151 (h_151 E) (Nat.le_of_ble_eq_true rfl) t_151 rfl ?_
  refine x_blk (b := 0) (a_151 E) rfl ?_
  unfold b_151_0
  refine x_push 1 rfl ?_
  refine x_istore ?_
  refine x_iload rfl ?_
  refine x_istore ?_
  refine x_X_lo (lo' := [(0, x_R 4), (1, x_I _), (2, x_I _), (3, x_I _), (4, x_I _)]) ⟨rfl, rfl, rfl, rfl, rfl, trivial⟩ ?_
  refine x_fall ?_
  refine x_G_lo (lo' := [(0, x_R 4), (1, x_I _), (3, x_I _), (4, x_I _)]) ⟨rfl, rfl, rfl, rfl, trivial⟩ ?_
  exact sf_151_4_b2 a1l a1h a2l a2h C0 k  _ _ _  rfl (by omega) (by omega) (by omega) (by omega)  
theorem sf_143_100 {E : q_E} {σ : x_S} {Q : Option q_V → x_S → Prop} {a1 : Int} (a1l : 0 ≤ a1) (a1h : a1 ≤ 2147483647) (C0 : y_CI σ) (k : ∀ v, 0 ≤ v → v ≤ 2147483647 → Q (some (x_I v)) σ) : x_P E 143 [x_R 100, x_I a1] σ Q := by
  refine x_Mt e_143 (h_143 E) (Nat.le_of_ble_eq_true rfl) t_143 rfl ?_
  refine x_blk (b := 0) (a_143 E) rfl ?_
  unfold b_143_0
  refine x_iload rfl ?_
  refine x_push 112 rfl ?_
  refine x_idiv (by omega) (by omega) (by omega) (by omega) ?_
  refine x_iret ?_
  exact k _ (by omega) (by omega) 
theorem sf_141 {E : q_E} {σ : x_S} {Q : Option q_V → x_S → Prop} {a0 a1 a2 : Int} (a0l : (-2147483648) ≤ a0) (a0h : a0 ≤ 2147483647) (a1l : (-2147483648) ≤ a1) (a1h : a1 ≤ 2147483647) (a2l : (-2147483648) ≤ a2) (a2h : a2 ≤ 2147483647) (C0 : y_CI σ) (k : ∀ v, (-2147483648) ≤ v → v ≤ 2147483647 → Q (some (x_I v)) σ) : x_P E 141 [x_I a0, x_I a1, x_I a2] σ Q := by
  refine x_Mt e_141 (h_141 E) (Nat.le_of_ble_eq_true rfl) t_141 rfl ?_
  refine x_blk (b := 0) (a_141 E) rfl ?_
  unfold b_141_0
  refine x_iload rfl ?_
  refine x_push 16 rfl ?_
  refine x_imul ?_
  refine x_wrp (fun v1 v1a v1b => ?_)
  refine x_iload rfl ?_
  refine x_iadd ?_
  refine x_wrp (fun v2 v2a v2b => ?_)
  refine x_push 7 rfl ?_
  refine x_imul ?_
  refine x_wrp (fun v3 v3a v3b => ?_)
  refine x_iload rfl ?_
  refine x_iadd ?_
  refine x_wrp (fun v4 v4a v4b => ?_)
  refine x_iret ?_
  exact k _ (by omega) (by omega) 
theorem sf_85_101_4 {E : q_E} {σ : x_S} {Q : Option q_V → x_S → Prop} {a2 : Int} (a2l : (-2147483648) ≤ a2) (a2h : a2 ≤ 2147483647) (C0 : y_CI σ) (k : ∀ v, (-4) ≤ v → v ≤ 15 → Q (some (x_I v)) σ) : x_P E 85 [x_R 101, x_R 4, x_I a2] σ Q := by
  refine x_Mt e_85 (h_85 E) (Nat.le_of_ble_eq_true rfl) t_85 rfl ?_
  refine x_blk (b := 0) (a_85 E) rfl ?_
  unfold b_85_0
  refine x_iload rfl ?_
  refine x_aload rfl ?_
  refine x_getIG y_f101_3 C0 ?_
  intro g1a g1b
  refine x_cS (fun _ => rfl) (Nat.le_of_ble_eq_true rfl) ?_
  refine sf_2 (by omega) (by omega) (by omega) (by omega) C0 (fun y2 => ?_) (fun y2 => ?_)
  · skip
    refine x_if_eq (by omega) (by omega) (fun z => absurd z (by omega)) (fun z3 => ?_)
    refine x_aload rfl ?_
    refine x_getR (r := 101) rfl (by decide) (by decide) rfl ?_
    refine x_iload rfl ?_
    refine x_ialdG y_a102 C0 (by omega) (by omega) (fun v4 v4a v4b => ?_)
    refine x_goto ?_
    refine x_blk (b := 2) (a_85 E) rfl ?_
    unfold b_85_2
    refine x_iret ?_
    exact k _ (by omega) (by omega) 
  · skip
    refine x_if_eq (by omega) (by omega) (fun z5 => ?_) (fun z => absurd (by omega) z)
    refine x_blk (b := 1) (a_85 E) rfl ?_
    unfold b_85_1
    refine x_push (-4) rfl ?_
    refine x_fall ?_
    refine x_blk (b := 2) (a_85 E) rfl ?_
    unfold b_85_2
    refine x_iret ?_
    exact k _ (by omega) (by omega) 
theorem sf_142_101_4 {E : q_E} {σ : x_S} {Q : Option q_V → x_S → Prop} {a2 a3 : Int} (a2l : (-2147483648) ≤ a2) (a2h : a2 ≤ 2147483647) (a3l : (-2147483648) ≤ a3) (a3h : a3 ≤ 2147483647) (C0 : y_CI σ) (k : ∀ v, (-2147483648) ≤ v → v ≤ 2147483647 → Q (some (x_I v)) σ) : x_P E 142 [x_R 101, x_R 4, x_I a2, x_I a3] σ Q := by
  refine x_Mt e_142 (h_142 E) (Nat.le_of_ble_eq_true rfl) t_142 rfl ?_
  refine x_blk (b := 0) (a_142 E) rfl ?_
  unfold b_142_0
  refine x_iload rfl ?_
  refine x_push 1 rfl ?_
  refine x_iadd ?_
  refine x_wrp (fun v1 v1a v1b => ?_)
  refine x_istore ?_
  refine x_iload rfl ?_
  refine x_if_eq (by omega) (by omega) (fun z2 => ?_) (fun z2 => ?_)
  · skip
    refine x_blk (b := 1) (a_142 E) rfl ?_
    unfold b_142_1
    refine x_iload rfl ?_
    refine x_goto ?_
    refine x_blk (b := 3) (a_142 E) rfl ?_
    unfold b_142_3
    refine x_iret ?_
    exact k _ (by omega) (by omega) 
  · skip
    refine x_iload rfl ?_
    refine x_aload rfl ?_
    refine x_getIG y_f101_3 C0 ?_
    intro g3a g3b
    refine x_cS (fun _ => rfl) (Nat.le_of_ble_eq_true rfl) ?_
    refine sf_2 (by omega) (by omega) (by omega) (by omega) C0 (fun y4 => ?_) (fun y4 => ?_)
    · skip
      refine x_if_ne (by omega) (by omega) (fun z => absurd z (by omega)) (fun z5 => ?_)
      refine x_blk (b := 2) (a_142 E) rfl ?_
      unfold b_142_2
      refine x_iload rfl ?_
      refine x_aload rfl ?_
      refine x_getR (r := 101) rfl (by decide) (by decide) rfl ?_
      refine x_iload rfl ?_
      refine x_ialdG y_a103 C0 (by omega) (by omega) (fun v6 v6a v6b => ?_)
      refine x_iadd ?_
      refine x_wrp (fun v7 v7a v7b => ?_)
      refine x_fall ?_
      refine x_blk (b := 3) (a_142 E) rfl ?_
      unfold b_142_3
      refine x_iret ?_
      exact k _ (by omega) (by omega) 
    · skip
      refine x_if_ne (by omega) (by omega) (fun z8 => ?_) (fun z => absurd (by omega) z)
      refine x_fall ?_
      refine x_blk (b := 1) (a_142 E) rfl ?_
      unfold b_142_1
      refine x_iload rfl ?_
      refine x_goto ?_
      refine x_blk (b := 3) (a_142 E) rfl ?_
      unfold b_142_3
      refine x_iret ?_
      exact k _ (by omega) (by omega) 
theorem sf_74_101 {E : q_E} {σ : x_S} {Q : Option q_V → x_S → Prop} {a1 : Int} (a1l : (-2147483648) ≤ a1) (a1h : a1 ≤ 2147483647) (C0 : y_CI σ) (k : ∀ v, 0 ≤ v → v ≤ 1 → Q (some (x_I v)) σ) : x_P E 74 [x_R 101, x_I a1] σ Q := by
  refine x_Mt e_74 (h_74 E) (Nat.le_of_ble_eq_true rfl) t_74 rfl ?_
  refine x_blk (b := 0) (a_74 E) rfl ?_
  unfold b_74_0
  refine x_iload rfl ?_
  refine x_aload rfl ?_
  refine x_getIG y_f101_3 C0 ?_
  intro g1a g1b
  refine x_cS (fun _ => rfl) (Nat.le_of_ble_eq_true rfl) ?_
  refine sf_2 (by omega) (by omega) (by omega) (by omega) C0 (fun y2 => ?_) (fun y2 => ?_)
  · skip
    refine x_if_eq (by omega) (by omega) (fun z => absurd z (by omega)) (fun z3 => ?_)
    refine x_aload rfl ?_
    refine x_getR (r := 101) rfl (by decide) (by decide) rfl ?_
    refine x_iload rfl ?_
    refine x_ialdG y_a104 C0 (by omega) (by omega) (fun v4 v4a v4b => ?_)
    refine x_goto ?_
    refine x_blk (b := 2) (a_74 E) rfl ?_
    unfold b_74_2
    refine x_iret ?_
    exact k _ (by omega) (by omega) 
  · skip
    refine x_if_eq (by omega) (by omega) (fun z5 => ?_) (fun z => absurd (by omega) z)
    refine x_blk (b := 1) (a_74 E) rfl ?_
    unfold b_74_1
    refine x_push 0 rfl ?_
    refine x_fall ?_
    refine x_blk (b := 2) (a_74 E) rfl ?_
    unfold b_74_2
    refine x_iret ?_
    exact k _ (by omega) (by omega) 
theorem sf_105_100_4_b4 {E : q_E} {σ : x_S} {Q : Option q_V → x_S → Prop} {a2 a3 : Int} (a2l : (-2147483648) ≤ a2) (a2h : a2 ≤ 2147483647) (a3l : (-2147483648) ≤ a3) (a3h : a3 ≤ 2147483647) (C0 : y_CI σ) (k : ∀ v, (-2147483648) ≤ v → v ≤ 2147483647 → Q (some (x_I v)) σ) : ∀ (N : Nat) (s n d : Int), (11 - d).toNat = N → (-2147483648) ≤ s → s ≤ 2147483647 → (-2147483648) ≤ n → n ≤ 2147483647 → 0 ≤ d → d ≤ 11 → x_G E m_105 Q (t_105 4) [(0, x_R 100), (1, x_R 4), (4, x_I s), (5, x_I n), (6, x_I d)] [] σ := by
  intro N
  induction N using Nat.strongRecOn with
  | ind N ih =>
    intro s n d hN sL sH nL nH dL dH
    refine x_blk (b := 4) (a_105 E) rfl ?_
    unfold b_105_4
    refine x_iload rfl ?_
    refine x_push 11 rfl ?_
    refine x_icmp_ge (by omega) (by omega) (by omega) (by omega) (fun z1 => ?_) (fun z1 => ?_)
    · skip
      refine x_aload rfl ?_
      refine x_getR (r := 100) rfl (by decide) (by decide) rfl ?_
      refine x_aload rfl ?_
      refine x_iload rfl ?_
      refine x_cV (fun _ => rfl) rfl (by decide) (Nat.le_of_ble_eq_true rfl) ?_
      refine sf_85_101_4 (by omega) (by omega) C0 (fun v2 v2a v2b => ?_)
      refine x_istore ?_
      refine x_aload rfl ?_
      refine x_push 0 rfl ?_
      refine x_iload rfl ?_
      refine x_iload rfl ?_
      refine x_aload rfl ?_
      refine x_getR (r := 100) rfl (by decide) (by decide) rfl ?_
      refine x_iload rfl ?_
      refine x_cV (fun _ => rfl) rfl (by decide) (Nat.le_of_ble_eq_true rfl) ?_
      refine sf_74_101 (by omega) (by omega) C0 (fun v3 v3a v3b => ?_)
      refine x_cV (fun _ => rfl) rfl (by decide) (Nat.le_of_ble_eq_true rfl) ?_
      refine sf_46_4 (by omega) (by omega) (by omega) (by omega) (by omega) (by omega) (by omega) (by omega) C0 (fun v4 v4a v4b => ?_)
      refine x_istore ?_
      refine x_X_lo (lo' := [(0, x_R 100), (1, x_R 4), (4, x_I _), (5, x_I _), (6, x_I _), (7, x_I _), (8, x_I _)]) ⟨rfl, rfl, rfl, rfl, rfl, rfl, rfl, trivial⟩ ?_
      refine x_iload rfl ?_
      refine x_if_ge (by omega) (by omega) (fun z5 => ?_) (fun z5 => ?_)
      · skip
        refine x_push (-10) rfl ?_
        refine x_iload rfl ?_
        refine x_isub ?_
        refine x_wrp (fun v6 v6a v6b => ?_)
        refine x_iret ?_
        exact k _ (by omega) (by omega) 
      · skip
        refine x_blk (b := 2) (a_105 E) rfl ?_
        unfold b_105_2
        refine x_aload rfl ?_
        refine x_iload rfl ?_
        refine x_push 0 rfl ?_
        refine x_cV (fun _ => rfl) rfl (by decide) (Nat.le_of_ble_eq_true rfl) ?_
        refine sf_53_4 (by omega) (by omega) (by omega) (by omega) C0 (fun v7 v7a v7b => ?_)
        refine x_istore ?_
        refine x_iload rfl ?_
        refine x_push 10 rfl ?_
        refine x_icmp_ge (by omega) (by omega) (by omega) (by omega) (fun z8 => ?_) (fun z8 => ?_)
        · skip
          refine x_iload rfl ?_
          refine x_iload rfl ?_
          refine x_push 0 rfl ?_
          refine x_cS (fun _ => rfl) (Nat.le_of_ble_eq_true rfl) ?_
          refine sf_141 (by omega) (by omega) (by omega) (by omega) (by omega) (by omega) C0 (fun v9 v9a v9b => ?_)
          refine x_iret ?_
          exact k _ (by omega) (by omega) 
        · skip
          refine x_blk (b := 3) (a_105 E) rfl ?_
          unfold b_105_3
          refine x_iload rfl ?_
          refine x_cS (fun _ => rfl) (Nat.le_of_ble_eq_true rfl) ?_
          refine sf_68 (by omega) (by omega) C0 (fun v10 v10a v10b => ?_)
          refine x_istore ?_
          refine x_X_lo (lo' := [(0, x_R 100), (1, x_R 4), (4, x_I _), (5, x_I _), (6, x_I _), (7, x_I _), (8, x_I _), (9, x_I _)]) ⟨rfl, rfl, rfl, rfl, rfl, rfl, rfl, rfl, trivial⟩ ?_
          refine x_aload rfl ?_
          refine x_getR (r := 100) rfl (by decide) (by decide) rfl ?_
          refine x_aload rfl ?_
          refine x_iload rfl ?_
          refine x_aload rfl ?_
          refine x_push 0 rfl ?_
          refine x_iload rfl ?_
          refine x_iload rfl ?_
          refine x_cV (fun _ => rfl) rfl (by decide) (Nat.le_of_ble_eq_true rfl) ?_
          refine sf_69_4 (by omega) (by omega) (by omega) (by omega) (by omega) (by omega) C0 (fun v11 v11a v11b => ?_)
          refine x_cV (fun _ => rfl) rfl (by decide) (Nat.le_of_ble_eq_true rfl) ?_
          refine sf_142_101_4 (by omega) (by omega) (by omega) (by omega) C0 (fun v12 v12a v12b => ?_)
          refine x_istore ?_
          refine x_iinc 1 rfl rfl ?_
          refine x_X_lo (lo' := [(0, x_R 100), (1, x_R 4), (4, x_I _), (5, x_I _), (6, x_I _), (7, x_I _), (8, x_I _), (9, x_I _)]) ⟨rfl, rfl, rfl, rfl, rfl, rfl, rfl, rfl, trivial⟩ ?_
          refine x_goto ?_
          refine x_G_lo (lo' := [(0, x_R 100), (1, x_R 4), (4, x_I _), (5, x_I _), (6, x_I _)]) ⟨rfl, rfl, rfl, rfl, rfl, trivial⟩ ?_
          exact ih _ (by omega) _ _ _  rfl (by omega) (by omega) (by omega) (by omega) (by omega) (by omega)  
    · skip
      refine x_blk (b := 1) (a_105 E) rfl ?_
      unfold b_105_1
      refine x_push (-10) rfl ?_
      refine x_iload rfl ?_
      refine x_isub ?_
      refine x_wrp (fun v13 v13a v13b => ?_)
      refine x_iret ?_
      exact k _ (by omega) (by omega) 
theorem sf_105_100_4 {E : q_E} {σ : x_S} {Q : Option q_V → x_S → Prop} {a2 a3 : Int} (a2l : (-2147483648) ≤ a2) (a2h : a2 ≤ 2147483647) (a3l : (-2147483648) ≤ a3) (a3h : a3 ≤ 2147483647) (C0 : y_CI σ) (k : ∀ v, (-2147483648) ≤ v → v ≤ 2147483647 → Q (some (x_I v)) σ) : x_P E 105 [x_R 100, x_R 4, x_I a2, x_I a3] σ Q := by
  refine x_Mt e_105 (h_105 E) (Nat.le_of_ble_eq_true rfl) t_105 rfl ?_
  refine x_blk (b := 0) (a_105 E) rfl ?_
  unfold b_105_0
  refine x_iload rfl ?_
  refine x_istore ?_
  refine x_iload rfl ?_
  refine x_istore ?_
  refine x_X_lo (lo' := [(0, x_R 100), (1, x_R 4), (2, x_I _), (3, x_I _), (4, x_I _), (5, x_I _)]) ⟨rfl, rfl, rfl, rfl, rfl, rfl, trivial⟩ ?_
  refine x_push 0 rfl ?_
  refine x_istore ?_
  refine x_fall ?_
  refine x_G_lo (lo' := [(0, x_R 100), (1, x_R 4), (4, x_I _), (5, x_I _), (6, x_I _)]) ⟨rfl, rfl, rfl, rfl, rfl, trivial⟩ ?_
  exact sf_105_100_4_b4 a2l a2h a3l a3h C0 k  _ _ _ _  rfl (by omega) (by omega) (by omega) (by omega) (by omega) (by omega)  
theorem sf_150_100_4 {E : q_E} {σ : x_S} {Q : Option q_V → x_S → Prop} {a2 a3 : Int} (a2l : 0 ≤ a2) (a2h : a2 ≤ 2147483647) (a3l : (-2147483648) ≤ a3) (a3h : a3 ≤ 2147483647) (C0 : y_CI σ) (k : ∀ v, (-2147483648) ≤ v → v ≤ 2147483647 → Q (some (x_I v)) σ) : x_P E 150 [x_R 100, x_R 4, x_I a2, x_I a3] σ Q := by
  refine x_Mt e_150 (h_150 E) (Nat.le_of_ble_eq_true rfl) t_150 rfl ?_
  refine x_blk (b := 0) (a_150 E) rfl ?_
  unfold b_150_0
  refine x_iload rfl ?_
  refine x_cS (fun _ => rfl) (Nat.le_of_ble_eq_true rfl) ?_
  refine sf_145 (by omega) (by omega) C0 (fun v1 v1a v1b => ?_)
  refine x_istore ?_
  refine x_iload rfl ?_
  refine x_cS (fun _ => rfl) (Nat.le_of_ble_eq_true rfl) ?_
  refine sf_146 (by omega) (by omega) C0 (fun v2 v2a v2b => ?_)
  refine x_push 1 rfl ?_
  refine x_iadd ?_
  refine x_istore ?_
  refine x_X_lo (lo' := [(0, x_R 100), (1, x_R 4), (2, x_I _), (3, x_I _), (4, x_I _), (5, x_I _)]) ⟨rfl, rfl, rfl, rfl, rfl, rfl, trivial⟩ ?_
  refine x_iload rfl ?_
  refine x_push 1 rfl ?_
  refine x_icmp_ne (by omega) (by omega) (by omega) (by omega) (fun z3 => ?_) (fun z3 => ?_)
  · skip
    refine x_aload rfl ?_
    refine x_iload rfl ?_
    refine x_iload rfl ?_
    refine x_cS (fun _ => rfl) (Nat.le_of_ble_eq_true rfl) ?_
    refine sf_151_4 (by omega) (by omega) (by omega) (by omega) C0 (fun v4 v4a v4b => ?_)
    refine x_istore ?_
    refine x_fall ?_
    refine x_blk (b := 1) (a_150 E) rfl ?_
    unfold b_150_1
    refine x_aload rfl ?_
    refine x_iload rfl ?_
    refine x_iload rfl ?_
    refine x_cV (fun _ => rfl) rfl (by decide) (Nat.le_of_ble_eq_true rfl) ?_
    refine sf_53_4 (by omega) (by omega) (by omega) (by omega) C0 (fun v5 v5a v5b => ?_)
    refine x_istore ?_
    refine x_X_lo (lo' := [(0, x_R 100), (1, x_R 4), (2, x_I _), (3, x_I _), (4, x_I _), (5, x_I _), (6, x_I _)]) ⟨rfl, rfl, rfl, rfl, rfl, rfl, rfl, trivial⟩ ?_
    refine x_aload rfl ?_
    refine x_iload rfl ?_
    refine x_cV (fun _ => rfl) rfl (by decide) (Nat.le_of_ble_eq_true rfl) ?_
    refine sf_143_100 (by omega) (by omega) C0 (fun v6 v6a v6b => ?_)
    refine x_istore ?_
    refine x_iload rfl ?_
    refine x_push 10 rfl ?_
    refine x_icmp_ge (by omega) (by omega) (by omega) (by omega) (fun z7 => ?_) (fun z7 => ?_)
    · skip
      refine x_iload rfl ?_
      refine x_iload rfl ?_
      refine x_iload rfl ?_
      refine x_cS (fun _ => rfl) (Nat.le_of_ble_eq_true rfl) ?_
      refine sf_141 (by omega) (by omega) (by omega) (by omega) (by omega) (by omega) C0 (fun v8 v8a v8b => ?_)
      refine x_iret ?_
      exact k _ (by omega) (by omega) 
    · skip
      refine x_blk (b := 2) (a_150 E) rfl ?_
      unfold b_150_2
      refine x_aload rfl ?_
      refine x_push 0 rfl ?_
      refine x_aload rfl ?_
      refine x_getR (r := 100) rfl (by decide) (by decide) rfl ?_
      refine x_aload rfl ?_
      refine x_iload rfl ?_
      refine x_cV (fun _ => rfl) rfl (by decide) (Nat.le_of_ble_eq_true rfl) ?_
      refine sf_85_101_4 (by omega) (by omega) C0 (fun v9 v9a v9b => ?_)
      refine x_iload rfl ?_
      refine x_cV (fun _ => rfl) rfl (by decide) (Nat.le_of_ble_eq_true rfl) ?_
      refine sf_69_4 (by omega) (by omega) (by omega) (by omega) (by omega) (by omega) C0 (fun v10 v10a v10b => ?_)
      refine x_istore ?_
      refine x_X_lo (lo' := [(0, x_R 100), (1, x_R 4), (2, x_I _), (3, x_I _), (4, x_I _), (5, x_I _), (6, x_I _), (7, x_I _), (8, x_I _)]) ⟨rfl, rfl, rfl, rfl, rfl, rfl, rfl, rfl, rfl, trivial⟩ ?_
      refine x_aload rfl ?_
      refine x_aload rfl ?_
      refine x_iload rfl ?_
      refine x_cS (fun _ => rfl) (Nat.le_of_ble_eq_true rfl) ?_
      refine sf_68 (by omega) (by omega) C0 (fun v11 v11a v11b => ?_)
      refine x_aload rfl ?_
      refine x_getR (r := 100) rfl (by decide) (by decide) rfl ?_
      refine x_aload rfl ?_
      refine x_iload rfl ?_
      refine x_iload rfl ?_
      refine x_cV (fun _ => rfl) rfl (by decide) (Nat.le_of_ble_eq_true rfl) ?_
      refine sf_142_101_4 (by omega) (by omega) (by omega) (by omega) C0 (fun v12 v12a v12b => ?_)
      refine x_cV (fun _ => rfl) rfl (by decide) (Nat.le_of_ble_eq_true rfl) ?_
      refine sf_105_100_4 (by omega) (by omega) (by omega) (by omega) C0 (fun v13 v13a v13b => ?_)
      refine x_iret ?_
      exact k _ (by omega) (by omega) 
  · skip
    refine x_blk (b := 1) (a_150 E) rfl ?_
    unfold b_150_1
    refine x_aload rfl ?_
    refine x_iload rfl ?_
    refine x_iload rfl ?_
    refine x_cV (fun _ => rfl) rfl (by decide) (Nat.le_of_ble_eq_true rfl) ?_
    refine sf_53_4 (by omega) (by omega) (by omega) (by omega) C0 (fun v14 v14a v14b => ?_)
    refine x_istore ?_
    refine x_aload rfl ?_
    refine x_iload rfl ?_
    refine x_cV (fun _ => rfl) rfl (by decide) (Nat.le_of_ble_eq_true rfl) ?_
    refine sf_143_100 (by omega) (by omega) C0 (fun v15 v15a v15b => ?_)
    refine x_istore ?_
    refine x_X_lo (lo' := [(0, x_R 100), (1, x_R 4), (2, x_I _), (3, x_I _), (4, x_I _), (5, x_I _), (6, x_I _), (7, x_I _)]) ⟨rfl, rfl, rfl, rfl, rfl, rfl, rfl, rfl, trivial⟩ ?_
    refine x_iload rfl ?_
    refine x_push 10 rfl ?_
    refine x_icmp_ge (by omega) (by omega) (by omega) (by omega) (fun z16 => ?_) (fun z16 => ?_)
    · skip
      refine x_iload rfl ?_
      refine x_iload rfl ?_
      refine x_iload rfl ?_
      refine x_cS (fun _ => rfl) (Nat.le_of_ble_eq_true rfl) ?_
      refine sf_141 (by omega) (by omega) (by omega) (by omega) (by omega) (by omega) C0 (fun v17 v17a v17b => ?_)
      refine x_iret ?_
      exact k _ (by omega) (by omega) 
    · skip
      refine x_blk (b := 2) (a_150 E) rfl ?_
      unfold b_150_2
      refine x_aload rfl ?_
      refine x_push 0 rfl ?_
      refine x_aload rfl ?_
      refine x_getR (r := 100) rfl (by decide) (by decide) rfl ?_
      refine x_aload rfl ?_
      refine x_iload rfl ?_
      refine x_cV (fun _ => rfl) rfl (by decide) (Nat.le_of_ble_eq_true rfl) ?_
      refine sf_85_101_4 (by omega) (by omega) C0 (fun v18 v18a v18b => ?_)
      refine x_iload rfl ?_
      refine x_cV (fun _ => rfl) rfl (by decide) (Nat.le_of_ble_eq_true rfl) ?_
      refine sf_69_4 (by omega) (by omega) (by omega) (by omega) (by omega) (by omega) C0 (fun v19 v19a v19b => ?_)
      refine x_istore ?_
      refine x_aload rfl ?_
      refine x_aload rfl ?_
      refine x_iload rfl ?_
      refine x_cS (fun _ => rfl) (Nat.le_of_ble_eq_true rfl) ?_
      refine sf_68 (by omega) (by omega) C0 (fun v20 v20a v20b => ?_)
      refine x_aload rfl ?_
      refine x_getR (r := 100) rfl (by decide) (by decide) rfl ?_
      refine x_aload rfl ?_
      refine x_iload rfl ?_
      refine x_iload rfl ?_
      refine x_cV (fun _ => rfl) rfl (by decide) (Nat.le_of_ble_eq_true rfl) ?_
      refine sf_142_101_4 (by omega) (by omega) (by omega) (by omega) C0 (fun v21 v21a v21b => ?_)
      refine x_cV (fun _ => rfl) rfl (by decide) (Nat.le_of_ble_eq_true rfl) ?_
      refine sf_105_100_4 (by omega) (by omega) (by omega) (by omega) C0 (fun v22 v22a v22b => ?_)
      refine x_iret ?_
      exact k _ (by omega) (by omega) 
theorem sf_147_100 {E : q_E} {σ : x_S} {Q : Option q_V → x_S → Prop} {a1 : Int} (a1l : (-2147483648) ≤ a1) (a1h : a1 ≤ 2147483647) (C0 : y_CI σ) (k : ∀ v, 2 ≤ v → v ≤ 2 → Q (some (x_I v)) σ) : x_P E 147 [x_R 100, x_I a1] σ Q := by
  refine x_Mt e_147 (h_147 E) (Nat.le_of_ble_eq_true rfl) t_147 rfl ?_
  refine x_blk (b := 0) (a_147 E) rfl ?_
  unfold b_147_0
  refine x_push 2 rfl ?_
  refine x_iret ?_
  exact k _ (by omega) (by omega) 
theorem sf_86_105_4_100 {E : q_E} {σ : x_S} {Q : Option q_V → x_S → Prop} {a3 a4 a5 : Int} (a3l : (-2147483648) ≤ a3) (a3h : a3 ≤ 2147483647) (a4l : (-2147483648) ≤ a4) (a4h : a4 ≤ 2147483647) (a5l : (-2147483648) ≤ a5) (a5h : a5 ≤ 2147483647) (C0 : y_CI σ) (k : ∀ τ v, y_CI τ → y_fq 105 111 σ τ → (-2147483648) ≤ v → v ≤ 2147483647 → Q (some (x_I v)) τ) : x_P E 86 [x_R 105, x_R 4, x_R 100, x_I a3, x_I a4, x_I a5] σ Q := by
  refine x_Mt e_86 (h_86 E) (Nat.le_of_ble_eq_true rfl) t_86 rfl ?_
  refine x_blk (b := 0) (a_86 E) rfl ?_
  unfold b_86_0
  refine x_iload rfl ?_
  refine x_if_ge (by omega) (by omega) (fun z1 => ?_) (fun z1 => ?_)
  · skip
    refine x_iload rfl ?_
    refine x_iret ?_
    exact k _ _ C0 (y_fr_rf (lo := 105) (hi := 111)) (by omega) (by omega) 
  · skip
    refine x_blk (b := 1) (a_86 E) rfl ?_
    unfold b_86_1
    refine x_aload rfl ?_
    refine x_iload rfl ?_
    refine x_cU2 (fun _ => rfl) rfl (by decide) (by decide) (Nat.le_of_ble_eq_true rfl) ?_
    refine sf_143_100 (by omega) (by omega) C0 (fun v2 v2a v2b => ?_)
    refine x_istore ?_
    refine x_iload rfl ?_
    refine x_push 40 rfl ?_
    refine x_cS (fun _ => rfl) (Nat.le_of_ble_eq_true rfl) ?_
    refine sf_2 (by omega) (by omega) (by omega) (by omega) C0 (fun y3 => ?_) (fun y3 => ?_)
    · skip
      refine x_if_eq (by omega) (by omega) (fun z => absurd z (by omega)) (fun z4 => ?_)
      refine x_aload rfl ?_
      refine x_getR (r := 105) rfl (by decide) (by decide) rfl ?_
      refine x_iload rfl ?_
      refine x_dup2 rfl rfl ?_
      refine x_ialdG y_a107 C0 (by omega) (by omega) (fun v5 v5a v5b => ?_)
      refine x_push 1 rfl ?_
      refine x_iadd ?_
      refine x_wrp (fun v6 v6a v6b => ?_)
      refine x_astG y_a107 C0 (by decide) (y_fr_rf (lo := 105) (hi := 111)) (by omega) (by omega) (by omega) (by omega) (fun S7 e7 C7 F7 => ?_)
      refine x_fall ?_
      refine x_blk (b := 2) (a_86 E) rfl ?_
      unfold b_86_2
      refine x_aload rfl ?_
      refine x_iload rfl ?_
      refine x_iload rfl ?_
      refine x_aload rfl ?_
      refine x_aload rfl ?_
      refine x_iload rfl ?_
      refine x_cU2 (fun _ => rfl) rfl (by decide) (by decide) (Nat.le_of_ble_eq_true rfl) ?_
      refine sf_144_100_4 (by omega) (by omega) C7 (fun v8 v8a v8b => ?_)
      refine x_aload rfl ?_
      refine x_iload rfl ?_
      refine x_cU2 (fun _ => rfl) rfl (by decide) (by decide) (Nat.le_of_ble_eq_true rfl) ?_
      refine sf_147_100 (by omega) (by omega) C7 (fun v9 v9a v9b => ?_)
      refine x_cV (fun _ => rfl) rfl (by decide) (Nat.le_of_ble_eq_true rfl) ?_
      refine sf_46_4 (by omega) (by omega) (by omega) (by omega) (by omega) (by omega) (by omega) (by omega) C7 (fun v10 v10a v10b => ?_)
      refine x_istore ?_
      refine x_X_lo (lo' := [(0, x_R 105), (1, x_R 4), (2, x_R 100), (3, x_I _), (4, x_I _), (5, x_I _), (6, x_I _), (7, x_I _)]) ⟨rfl, rfl, rfl, rfl, rfl, rfl, rfl, rfl, trivial⟩ ?_
      refine x_iload rfl ?_
      refine x_if_ge (by omega) (by omega) (fun z11 => ?_) (fun z11 => ?_)
      · skip
        refine x_push (-10) rfl ?_
        refine x_iload rfl ?_
        refine x_isub ?_
        refine x_iret ?_
        exact k _ _ C7 F7 (by omega) (by omega) 
      · skip
        refine x_blk (b := 3) (a_86 E) rfl ?_
        unfold b_86_3
        refine x_aload rfl ?_
        refine x_getIG y_f105_6 C7 ?_
        have q12_0 : S7 105 6 = σ 105 6 := x_up_nr e7 (by decide)
        simp only [q12_0]
        intro g12a g12b
        refine x_push 80 rfl ?_
        refine x_cS (fun _ => rfl) (Nat.le_of_ble_eq_true rfl) ?_
        refine sf_2 (by omega) (by omega) (by omega) (by omega) C7 (fun y13 => ?_) (fun y13 => ?_)
        · skip
          refine x_if_ne (by omega) (by omega) (fun z => absurd z (by omega)) (fun z14 => ?_)
          refine x_blk (b := 4) (a_86 E) rfl ?_
          unfold b_86_4
          refine x_aload rfl ?_
          refine x_getR (r := 105) rfl (by decide) (by decide) rfl ?_
          refine x_aload rfl ?_
          refine x_getIG y_f105_6 C7 ?_
          have q15_0 : S7 105 6 = σ 105 6 := x_up_nr e7 (by decide)
          simp only [q15_0]
          intro g15a g15b
          refine x_iload rfl ?_
          refine x_astG y_a108 C7 (by decide) F7 (by omega) (by omega) (by omega) (by omega) (fun S16 e16 C16 F16 => ?_)
          refine x_aload rfl ?_
          refine x_getR (r := 105) rfl (by decide) (by decide) rfl ?_
          refine x_aload rfl ?_
          refine x_getIG y_f105_6 C16 ?_
          have q17_0 : S16 105 6 = S7 105 6 := x_up_nr e16 (by decide)
          have q17_1 : S7 105 6 = σ 105 6 := x_up_nr e7 (by decide)
          simp only [q17_0, q17_1]
          intro g17a g17b
          refine x_iload rfl ?_
          refine x_astG y_a109 C16 (by decide) F16 (by omega) (by omega) (by omega) (by omega) (fun S18 e18 C18 F18 => ?_)
          refine x_aload rfl ?_
          refine x_getR (r := 105) rfl (by decide) (by decide) rfl ?_
          refine x_aload rfl ?_
          refine x_getIG y_f105_6 C18 ?_
          have q19_0 : S18 105 6 = S16 105 6 := x_up_nr e18 (by decide)
          have q19_1 : S16 105 6 = S7 105 6 := x_up_nr e16 (by decide)
          have q19_2 : S7 105 6 = σ 105 6 := x_up_nr e7 (by decide)
          simp only [q19_0, q19_1, q19_2]
          intro g19a g19b
          refine x_push 0 rfl ?_
          refine x_astG y_a110 C18 (by decide) F18 (by omega) (by omega) (by omega) (by omega) (fun S20 e20 C20 F20 => ?_)
          refine x_aload rfl ?_
          refine x_dup rfl ?_
          refine x_getIG y_f105_6 C20 ?_
          have q21_0 : S20 105 6 = S18 105 6 := x_up_nr e20 (by decide)
          have q21_1 : S18 105 6 = S16 105 6 := x_up_nr e18 (by decide)
          have q21_2 : S16 105 6 = S7 105 6 := x_up_nr e16 (by decide)
          have q21_3 : S7 105 6 = σ 105 6 := x_up_nr e7 (by decide)
          simp only [q21_0, q21_1, q21_2, q21_3]
          intro g21a g21b
          refine x_push 1 rfl ?_
          refine x_iadd ?_
          refine x_putIG y_f105_6 ⟨by decide, rfl⟩ (by decide) C20 (by decide) F20 (by omega) (by omega) (fun S22 e22 C22 F22 => ?_)
          refine x_push 0 rfl ?_
          refine x_iret ?_
          exact k _ _ C22 F22 (by omega) (by omega) 
        · skip
          refine x_if_ne (by omega) (by omega) (fun z23 => ?_) (fun z => absurd (by omega) z)
          refine x_push (-3) rfl ?_
          refine x_iret ?_
          exact k _ _ C7 F7 (by omega) (by omega) 
    · skip
      refine x_if_eq (by omega) (by omega) (fun z24 => ?_) (fun z => absurd (by omega) z)
      refine x_blk (b := 2) (a_86 E) rfl ?_
      unfold b_86_2
      refine x_aload rfl ?_
      refine x_iload rfl ?_
      refine x_iload rfl ?_
      refine x_aload rfl ?_
      refine x_aload rfl ?_
      refine x_iload rfl ?_
      refine x_cU2 (fun _ => rfl) rfl (by decide) (by decide) (Nat.le_of_ble_eq_true rfl) ?_
      refine sf_144_100_4 (by omega) (by omega) C0 (fun v25 v25a v25b => ?_)
      refine x_aload rfl ?_
      refine x_iload rfl ?_
      refine x_cU2 (fun _ => rfl) rfl (by decide) (by decide) (Nat.le_of_ble_eq_true rfl) ?_
      refine sf_147_100 (by omega) (by omega) C0 (fun v26 v26a v26b => ?_)
      refine x_cV (fun _ => rfl) rfl (by decide) (Nat.le_of_ble_eq_true rfl) ?_
      refine sf_46_4 (by omega) (by omega) (by omega) (by omega) (by omega) (by omega) (by omega) (by omega) C0 (fun v27 v27a v27b => ?_)
      refine x_istore ?_
      refine x_X_lo (lo' := [(0, x_R 105), (1, x_R 4), (2, x_R 100), (3, x_I _), (4, x_I _), (5, x_I _), (6, x_I _), (7, x_I _)]) ⟨rfl, rfl, rfl, rfl, rfl, rfl, rfl, rfl, trivial⟩ ?_
      refine x_iload rfl ?_
      refine x_if_ge (by omega) (by omega) (fun z28 => ?_) (fun z28 => ?_)
      · skip
        refine x_push (-10) rfl ?_
        refine x_iload rfl ?_
        refine x_isub ?_
        refine x_wrp (fun v29 v29a v29b => ?_)
        refine x_iret ?_
        exact k _ _ C0 (y_fr_rf (lo := 105) (hi := 111)) (by omega) (by omega) 
      · skip
        refine x_blk (b := 3) (a_86 E) rfl ?_
        unfold b_86_3
        refine x_aload rfl ?_
        refine x_getIG y_f105_6 C0 ?_
        intro g30a g30b
        refine x_push 80 rfl ?_
        refine x_cS (fun _ => rfl) (Nat.le_of_ble_eq_true rfl) ?_
        refine sf_2 (by omega) (by omega) (by omega) (by omega) C0 (fun y31 => ?_) (fun y31 => ?_)
        · skip
          refine x_if_ne (by omega) (by omega) (fun z => absurd z (by omega)) (fun z32 => ?_)
          refine x_blk (b := 4) (a_86 E) rfl ?_
          unfold b_86_4
          refine x_aload rfl ?_
          refine x_getR (r := 105) rfl (by decide) (by decide) rfl ?_
          refine x_aload rfl ?_
          refine x_getIG y_f105_6 C0 ?_
          intro g33a g33b
          refine x_iload rfl ?_
          refine x_astG y_a108 C0 (by decide) (y_fr_rf (lo := 105) (hi := 111)) (by omega) (by omega) (by omega) (by omega) (fun S34 e34 C34 F34 => ?_)
          refine x_aload rfl ?_
          refine x_getR (r := 105) rfl (by decide) (by decide) rfl ?_
          refine x_aload rfl ?_
          refine x_getIG y_f105_6 C34 ?_
          have q35_0 : S34 105 6 = σ 105 6 := x_up_nr e34 (by decide)
          simp only [q35_0]
          intro g35a g35b
          refine x_iload rfl ?_
          refine x_astG y_a109 C34 (by decide) F34 (by omega) (by omega) (by omega) (by omega) (fun S36 e36 C36 F36 => ?_)
          refine x_aload rfl ?_
          refine x_getR (r := 105) rfl (by decide) (by decide) rfl ?_
          refine x_aload rfl ?_
          refine x_getIG y_f105_6 C36 ?_
          have q37_0 : S36 105 6 = S34 105 6 := x_up_nr e36 (by decide)
          have q37_1 : S34 105 6 = σ 105 6 := x_up_nr e34 (by decide)
          simp only [q37_0, q37_1]
          intro g37a g37b
          refine x_push 0 rfl ?_
          refine x_astG y_a110 C36 (by decide) F36 (by omega) (by omega) (by omega) (by omega) (fun S38 e38 C38 F38 => ?_)
          refine x_aload rfl ?_
          refine x_dup rfl ?_
          refine x_getIG y_f105_6 C38 ?_
          have q39_0 : S38 105 6 = S36 105 6 := x_up_nr e38 (by decide)
          have q39_1 : S36 105 6 = S34 105 6 := x_up_nr e36 (by decide)
          have q39_2 : S34 105 6 = σ 105 6 := x_up_nr e34 (by decide)
          simp only [q39_0, q39_1, q39_2]
          intro g39a g39b
          refine x_push 1 rfl ?_
          refine x_iadd ?_
          refine x_putIG y_f105_6 ⟨by decide, rfl⟩ (by decide) C38 (by decide) F38 (by omega) (by omega) (fun S40 e40 C40 F40 => ?_)
          refine x_push 0 rfl ?_
          refine x_iret ?_
          exact k _ _ C40 F40 (by omega) (by omega) 
        · skip
          refine x_if_ne (by omega) (by omega) (fun z41 => ?_) (fun z => absurd (by omega) z)
          refine x_push (-3) rfl ?_
          refine x_iret ?_
          exact k _ _ C0 (y_fr_rf (lo := 105) (hi := 111)) (by omega) (by omega) 
theorem sf_148_105_4_100 {E : q_E} {σ : x_S} {Q : Option q_V → x_S → Prop} {a3 : Int} (a3l : (-2147483648) ≤ a3) (a3h : a3 ≤ 2147483647) (C0 : y_CI σ) (k : ∀ τ v, y_CI τ → y_fq 105 111 σ τ → (-2147483648) ≤ v → v ≤ 2147483647 → Q (some (x_I v)) τ) : x_P E 148 [x_R 105, x_R 4, x_R 100, x_I a3] σ Q := by
  refine x_Mt e_148 (h_148 E) (Nat.le_of_ble_eq_true rfl) t_148 rfl ?_
  refine x_blk (b := 0) (a_148 E) rfl ?_
  unfold b_148_0
  refine x_aload rfl ?_
  refine x_getIG y_f105_6 C0 ?_
  intro g1a g1b
  refine x_push 1 rfl ?_
  refine x_isub ?_
  refine x_istore ?_
  refine x_iload rfl ?_
  refine x_push 80 rfl ?_
  refine x_cS (fun _ => rfl) (Nat.le_of_ble_eq_true rfl) ?_
  refine sf_2 (by omega) (by omega) (by omega) (by omega) C0 (fun y2 => ?_) (fun y2 => ?_)
  · skip
    refine x_if_ne (by omega) (by omega) (fun z => absurd z (by omega)) (fun z3 => ?_)
    refine x_blk (b := 1) (a_148 E) rfl ?_
    unfold b_148_1
    refine x_aload rfl ?_
    refine x_aload rfl ?_
    refine x_getR (r := 105) rfl (by decide) (by decide) rfl ?_
    refine x_iload rfl ?_
    refine x_ialdG y_a109 C0 (by omega) (by omega) (fun v4 v4a v4b => ?_)
    refine x_aload rfl ?_
    refine x_getR (r := 105) rfl (by decide) (by decide) rfl ?_
    refine x_iload rfl ?_
    refine x_ialdG y_a110 C0 (by omega) (by omega) (fun v5 v5a v5b => ?_)
    refine x_cV (fun _ => rfl) rfl (by decide) (Nat.le_of_ble_eq_true rfl) ?_
    refine sf_53_4 (by omega) (by omega) (by omega) (by omega) C0 (fun v6 v6a v6b => ?_)
    refine x_istore ?_
    refine x_X_lo (lo' := [(0, x_R 105), (1, x_R 4), (2, x_R 100), (3, x_I _), (4, x_I _), (5, x_I _)]) ⟨rfl, rfl, rfl, rfl, rfl, rfl, trivial⟩ ?_
    refine x_iload rfl ?_
    refine x_push (-4) rfl ?_
    refine x_icmp_ne (by omega) (by omega) (by omega) (by omega) (fun z7 => ?_) (fun z7 => ?_)
    · skip
      refine x_aload rfl ?_
      refine x_dup rfl ?_
      refine x_getIG y_f105_6 C0 ?_
      intro g8a g8b
      refine x_push 1 rfl ?_
      refine x_isub ?_
      refine x_putIG y_f105_6 ⟨by decide, rfl⟩ (by decide) C0 (by decide) (y_fr_rf (lo := 105) (hi := 111)) (by omega) (by omega) (fun S9 e9 C9 F9 => ?_)
      refine x_push 0 rfl ?_
      refine x_iret ?_
      exact k _ _ C9 F9 (by omega) (by omega) 
    · skip
      refine x_blk (b := 2) (a_148 E) rfl ?_
      unfold b_148_2
      refine x_aload rfl ?_
      refine x_getR (r := 105) rfl (by decide) (by decide) rfl ?_
      refine x_iload rfl ?_
      refine x_dup2 rfl rfl ?_
      refine x_ialdG y_a110 C0 (by omega) (by omega) (fun v10 v10a v10b => ?_)
      refine x_push 1 rfl ?_
      refine x_iadd ?_
      refine x_wrp (fun v11 v11a v11b => ?_)
      refine x_astG y_a110 C0 (by decide) (y_fr_rf (lo := 105) (hi := 111)) (by omega) (by omega) (by omega) (by omega) (fun S12 e12 C12 F12 => ?_)
      refine x_iload rfl ?_
      refine x_push 10 rfl ?_
      refine x_icmp_ge (by omega) (by omega) (by omega) (by omega) (fun z13 => ?_) (fun z13 => ?_)
      · skip
        refine x_aload rfl ?_
        refine x_iload rfl ?_
        refine x_cV (fun _ => rfl) rfl (by decide) (Nat.le_of_ble_eq_true rfl) ?_
        refine sf_149_105 (by omega) (by omega) C12 (fun S14 v14 C14 f14 v14a v14b => ?_)
        have F14 := y_fq_tr (by decide) F12 f14
        refine x_iret ?_
        exact k _ _ C14 F14 (by omega) (by omega) 
      · skip
        refine x_blk (b := 3) (a_148 E) rfl ?_
        unfold b_148_3
        refine x_aload rfl ?_
        refine x_getR (r := 105) rfl (by decide) (by decide) rfl ?_
        refine x_iload rfl ?_
        refine x_ialdG y_a108 C12 (by omega) (by omega) (fun v15 v15a v15b => ?_)
        refine x_istore ?_
        refine x_aload rfl ?_
        refine x_iload rfl ?_
        refine x_aload rfl ?_
        refine x_aload rfl ?_
        refine x_iload rfl ?_
        refine x_cU2 (fun _ => rfl) rfl (by decide) (by decide) (Nat.le_of_ble_eq_true rfl) ?_
        refine sf_144_100_4 (by omega) (by omega) C12 (fun v16 v16a v16b => ?_)
        refine x_iload rfl ?_
        refine x_cV (fun _ => rfl) rfl (by decide) (Nat.le_of_ble_eq_true rfl) ?_
        refine sf_69_4 (by omega) (by omega) (by omega) (by omega) (by omega) (by omega) C12 (fun v17 v17a v17b => ?_)
        refine x_istore ?_
        refine x_X_lo (lo' := [(0, x_R 105), (1, x_R 4), (2, x_R 100), (3, x_I _), (4, x_I _), (5, x_I _), (6, x_I _), (7, x_I _)]) ⟨rfl, rfl, rfl, rfl, rfl, rfl, rfl, rfl, trivial⟩ ?_
        refine x_aload rfl ?_
        refine x_aload rfl ?_
        refine x_aload rfl ?_
        refine x_iload rfl ?_
        refine x_iload rfl ?_
        refine x_cS (fun _ => rfl) (Nat.le_of_ble_eq_true rfl) ?_
        refine sf_68 (by omega) (by omega) C12 (fun v18 v18a v18b => ?_)
        refine x_aload rfl ?_
        refine x_aload rfl ?_
        refine x_iload rfl ?_
        refine x_iload rfl ?_
        refine x_cU2 (fun _ => rfl) rfl (by decide) (by decide) (Nat.le_of_ble_eq_true rfl) ?_
        refine sf_150_100_4 (by omega) (by omega) (by omega) (by omega) C12 (fun v19 v19a v19b => ?_)
        refine x_cV (fun _ => rfl) rfl (by decide) (Nat.le_of_ble_eq_true rfl) ?_
        refine sf_86_105_4_100 (by omega) (by omega) (by omega) (by omega) (by omega) (by omega) C12 (fun S20 v20 C20 f20 v20a v20b => ?_)
        have F20 := y_fq_tr (by decide) F12 f20
        refine x_iret ?_
        exact k _ _ C20 F20 (by omega) (by omega) 
  · skip
    refine x_if_ne (by omega) (by omega) (fun z21 => ?_) (fun z => absurd (by omega) z)
    refine x_push (-3) rfl ?_
    refine x_iret ?_
    exact k _ _ C0 (y_fr_rf (lo := 105) (hi := 111)) (by omega) (by omega) 
theorem sf_104_100_4 {E : q_E} {σ : x_S} {Q : Option q_V → x_S → Prop} (C0 : y_CI σ) (k : ∀ v, (-2147483648) ≤ v → v ≤ 2147483647 → Q (some (x_I v)) σ) : x_P E 104 [x_R 100, x_R 4] σ Q := by
  refine x_Mt e_104 (h_104 E) (Nat.le_of_ble_eq_true rfl) t_104 rfl ?_
  refine x_blk (b := 0) (a_104 E) rfl ?_
  unfold b_104_0
  refine x_aload rfl ?_
  refine x_aload rfl ?_
  refine x_push 0 rfl ?_
  refine x_push 0 rfl ?_
  refine x_cV (fun _ => rfl) rfl (by decide) (Nat.le_of_ble_eq_true rfl) ?_
  refine sf_105_100_4 (by omega) (by omega) (by omega) (by omega) C0 (fun v1 v1a v1b => ?_)
  refine x_iret ?_
  exact k _ (by omega) (by omega) 
theorem sf_84_105_4_100_b2 {E : q_E} {σ : x_S} {Q : Option q_V → x_S → Prop} {a3 a4 : Int} (a3l : (-2147483648) ≤ a3) (a3h : a3 ≤ 2147483647) (a4l : (-2147483648) ≤ a4) (a4h : a4 ≤ 2147483647) (C0 : y_CI σ) (k : ∀ τ v, y_CI τ → y_fq 105 111 σ τ → (-2147483648) ≤ v → v ≤ 2147483647 → Q (some (x_I v)) τ) : ∀ (N : Nat) (s n : Int) (τ : x_S), (100000 - n).toNat = N → (-2147483648) ≤ s → s ≤ 2147483647 → 0 ≤ n → n ≤ 100000 → y_CI τ → y_fq 105 111 σ τ → x_G E m_84 Q (t_84 2) [(0, x_R 105), (1, x_R 4), (2, x_R 100), (3, x_I a3), (4, x_I a4), (5, x_I s), (6, x_I n)] [] τ := by
  intro N
  induction N using Nat.strongRecOn with
  | ind N ih =>
    intro s n τ hN sL sH nL nH C F
    refine x_blk (b := 2) (a_84 E) rfl ?_
    unfold b_84_2
    refine x_iload rfl ?_
    refine x_push 100000 rfl ?_
    refine x_icmp_ge (by omega) (by omega) (by omega) (by omega) (fun z1 => ?_) (fun z1 => ?_)
    · skip
      refine x_iload rfl ?_
      refine x_if_ne (by omega) (by omega) (fun z2 => ?_) (fun z2 => ?_)
      · skip
        refine x_aload rfl ?_
        refine x_getIG y_f105_6 C ?_
        intro g3a g3b
        refine x_if_le (by omega) (by omega) (fun z4 => ?_) (fun z4 => ?_)
        · skip
          refine x_blk (b := 1) (a_84 E) rfl ?_
          unfold b_84_1
          refine x_iload rfl ?_
          refine x_if_ge (by omega) (by omega) (fun z => absurd z (by omega)) (fun z5 => ?_)
          refine x_blk (b := 3) (a_84 E) rfl ?_
          unfold b_84_3
          refine x_aload rfl ?_
          refine x_getIG y_f105_5 C ?_
          intro g6a g6b
          refine x_fall ?_
          refine x_blk (b := 4) (a_84 E) rfl ?_
          unfold b_84_4
          refine x_iret ?_
          exact k _ _ C F (by omega) (by omega) 
        · skip
          refine x_aload rfl ?_
          refine x_aload rfl ?_
          refine x_aload rfl ?_
          refine x_iload rfl ?_
          refine x_cV (fun _ => rfl) rfl (by decide) (Nat.le_of_ble_eq_true rfl) ?_
          refine sf_148_105_4_100 (by omega) (by omega) C (fun S7 v7 C7 f7 v7a v7b => ?_)
          have F7 := y_fq_tr (by decide) F f7
          refine x_istore ?_
          refine x_iinc 1 rfl rfl ?_
          refine x_X_lo (lo' := [(0, x_R 105), (1, x_R 4), (2, x_R 100), (3, x_I _), (4, x_I _), (5, x_I _), (6, x_I _)]) ⟨rfl, rfl, rfl, rfl, rfl, rfl, rfl, trivial⟩ ?_
          refine x_goto ?_
          refine x_G_lo (lo' := [(0, x_R 105), (1, x_R 4), (2, x_R 100), (3, x_I _), (4, x_I _), (5, x_I _), (6, x_I _)]) ⟨rfl, rfl, rfl, rfl, rfl, rfl, rfl, trivial⟩ ?_
          exact ih _ (by omega) _ _ _ rfl (by omega) (by omega) (by omega) (by omega)  C7 F7
      · skip
        refine x_blk (b := 1) (a_84 E) rfl ?_
        unfold b_84_1
        refine x_iload rfl ?_
        refine x_if_ge (by omega) (by omega) (fun z8 => ?_) (fun z8 => ?_)
        · skip
          refine x_iload rfl ?_
          refine x_goto ?_
          refine x_blk (b := 4) (a_84 E) rfl ?_
          unfold b_84_4
          refine x_iret ?_
          exact k _ _ C F (by omega) (by omega) 
        · skip
          refine x_blk (b := 3) (a_84 E) rfl ?_
          unfold b_84_3
          refine x_aload rfl ?_
          refine x_getIG y_f105_5 C ?_
          intro g9a g9b
          refine x_fall ?_
          refine x_blk (b := 4) (a_84 E) rfl ?_
          unfold b_84_4
          refine x_iret ?_
          exact k _ _ C F (by omega) (by omega) 
    · skip
      refine x_blk (b := 1) (a_84 E) rfl ?_
      unfold b_84_1
      refine x_iload rfl ?_
      refine x_if_ge (by omega) (by omega) (fun z10 => ?_) (fun z10 => ?_)
      · skip
        refine x_iload rfl ?_
        refine x_goto ?_
        refine x_blk (b := 4) (a_84 E) rfl ?_
        unfold b_84_4
        refine x_iret ?_
        exact k _ _ C F (by omega) (by omega) 
      · skip
        refine x_blk (b := 3) (a_84 E) rfl ?_
        unfold b_84_3
        refine x_aload rfl ?_
        refine x_getIG y_f105_5 C ?_
        intro g11a g11b
        refine x_fall ?_
        refine x_blk (b := 4) (a_84 E) rfl ?_
        unfold b_84_4
        refine x_iret ?_
        exact k _ _ C F (by omega) (by omega) 
theorem sf_84_105_4_100 {E : q_E} {σ : x_S} {Q : Option q_V → x_S → Prop} {a3 a4 : Int} (a3l : (-2147483648) ≤ a3) (a3h : a3 ≤ 2147483647) (a4l : (-2147483648) ≤ a4) (a4h : a4 ≤ 2147483647) (C0 : y_CI σ) (k : ∀ τ v, y_CI τ → y_fq 105 111 σ τ → (-2147483648) ≤ v → v ≤ 2147483647 → Q (some (x_I v)) τ) : x_P E 84 [x_R 105, x_R 4, x_R 100, x_I a3, x_I a4] σ Q := by
  refine x_Mt e_84 (h_84 E) (Nat.le_of_ble_eq_true rfl) t_84 rfl ?_
  refine x_blk (b := 0) (a_84 E) rfl ?_
  unfold b_84_0
  refine x_aload rfl ?_
  refine x_getR (r := 105) rfl (by decide) (by decide) rfl ?_
  refine x_push 0 rfl ?_
  refine x_cS (fun _ => rfl) (Nat.le_of_ble_eq_true rfl) ?_
  refine sf_27_107 (by omega) (by omega) C0 (fun S1 C1 f1 => ?_)
  have F1 := y_fq_tr (by decide) (y_fr_rf (lo := 105) (hi := 111)) f1
  refine x_aload rfl ?_
  refine x_push 0 rfl ?_
  refine x_putIG y_f105_5 ⟨by decide, rfl⟩ (by decide) C1 (by decide) F1 (by omega) (by omega) (fun S2 e2 C2 F2 => ?_)
  refine x_aload rfl ?_
  refine x_push 0 rfl ?_
  refine x_putIG y_f105_6 ⟨by decide, rfl⟩ (by decide) C2 (by decide) F2 (by omega) (by omega) (fun S3 e3 C3 F3 => ?_)
  refine x_aload rfl ?_
  refine x_aload rfl ?_
  refine x_aload rfl ?_
  refine x_iload rfl ?_
  refine x_iload rfl ?_
  refine x_aload rfl ?_
  refine x_aload rfl ?_
  refine x_cU2 (fun _ => rfl) rfl (by decide) (by decide) (Nat.le_of_ble_eq_true rfl) ?_
  refine sf_104_100_4  C3 (fun v4 v4a v4b => ?_)
  refine x_cV (fun _ => rfl) rfl (by decide) (Nat.le_of_ble_eq_true rfl) ?_
  refine sf_86_105_4_100 (by omega) (by omega) (by omega) (by omega) (by omega) (by omega) C3 (fun S5 v5 C5 f5 v5a v5b => ?_)
  have F5 := y_fq_tr (by decide) F3 f5
  refine x_istore ?_
  refine x_push 0 rfl ?_
  refine x_istore ?_
  refine x_X_lo (lo' := [(0, x_R 105), (1, x_R 4), (2, x_R 100), (3, x_I _), (4, x_I _), (5, x_I _), (6, x_I _)]) ⟨rfl, rfl, rfl, rfl, rfl, rfl, rfl, trivial⟩ ?_
  refine x_fall ?_
  refine x_G_lo (lo' := [(0, x_R 105), (1, x_R 4), (2, x_R 100), (3, x_I _), (4, x_I _), (5, x_I _), (6, x_I _)]) ⟨rfl, rfl, rfl, rfl, rfl, rfl, rfl, trivial⟩ ?_
  exact sf_84_105_4_100_b2 a3l a3h a4l a4h C0 k  _ _ _ _ rfl (by omega) (by omega) (by omega) (by omega)  C5 F5
theorem sf_155_0 {E : q_E} {σ : x_S} {Q : Option q_V → x_S → Prop} {a1 a2 : Int} (a1l : (-2147483648) ≤ a1) (a1h : a1 ≤ 2147483647) (a2l : (-2147483648) ≤ a2) (a2h : a2 ≤ 2147483647) (C0 : y_CI σ) (k : ∀ τ v, y_CI τ → y_fq 101 111 σ τ → (-2147483648) ≤ v → v ≤ 2147483647 → Q (some (x_I v)) τ) : x_P E 155 [x_R 0, x_I a1, x_I a2] σ Q := by
  refine x_Mt e_155 (h_155 E) (Nat.le_of_ble_eq_true rfl) t_155 rfl ?_
  refine x_blk (b := 0) (a_155 E) rfl ?_
  unfold b_155_0
  refine x_iload rfl ?_
  refine x_push 3 rfl ?_
  refine x_cS (fun _ => rfl) (Nat.le_of_ble_eq_true rfl) ?_
  refine sf_2 (by omega) (by omega) (by omega) (by omega) C0 (fun y1 => ?_) (fun y1 => ?_)
  · skip
    refine x_if_eq (by omega) (by omega) (fun z => absurd z (by omega)) (fun z2 => ?_)
    refine x_iload rfl ?_
    refine x_push (-1) rfl ?_
    refine x_icmp_ge (by omega) (by omega) (by omega) (by omega) (fun z3 => ?_) (fun z3 => ?_)
    · skip
      refine x_fall ?_
      refine x_blk (b := 1) (a_155 E) rfl ?_
      unfold b_155_1
      refine x_push (-1) rfl ?_
      refine x_iret ?_
      exact k _ _ C0 (y_fr_rf (lo := 101) (hi := 111)) (by omega) (by omega) 
    · skip
      refine x_blk (b := 2) (a_155 E) rfl ?_
      unfold b_155_2
      refine x_aload rfl ?_
      refine x_getR (r := 0) rfl (by decide) (by decide) rfl ?_
      refine x_aload rfl ?_
      refine x_getR (r := 0) rfl (by decide) (by decide) rfl ?_
      refine x_iload rfl ?_
      refine x_cV (fun _ => rfl) rfl (by decide) (Nat.le_of_ble_eq_true rfl) ?_
      refine sf_106_100_4 (by omega) (by omega) C0 (fun S4 C4 f4 => ?_)
      have F4 := y_fq_tr (by decide) (y_fr_rf (lo := 101) (hi := 111)) f4
      refine x_aload rfl ?_
      refine x_aload rfl ?_
      refine x_getR (r := 0) rfl (by decide) (by decide) rfl ?_
      refine x_aload rfl ?_
      refine x_getR (r := 0) rfl (by decide) (by decide) rfl ?_
      refine x_aload rfl ?_
      refine x_getR (r := 0) rfl (by decide) (by decide) rfl ?_
      refine x_push 1 rfl ?_
      refine x_push 0 rfl ?_
      refine x_cV (fun _ => rfl) rfl (by decide) (Nat.le_of_ble_eq_true rfl) ?_
      refine sf_84_105_4_100 (by omega) (by omega) (by omega) (by omega) C4 (fun S5 v5 C5 f5 v5a v5b => ?_)
      have F5 := y_fq_tr (by decide) F4 f5
      refine x_iload rfl ?_
      refine x_cV (fun _ => rfl) rfl (by decide) (Nat.le_of_ble_eq_true rfl) ?_
      refine sf_98_0 (by omega) (by omega) (by omega) (by omega) C5 (fun v6 v6a v6b => ?_)
      refine x_iret ?_
      exact k _ _ C5 F5 (by omega) (by omega) 
  · skip
    refine x_if_eq (by omega) (by omega) (fun z7 => ?_) (fun z => absurd (by omega) z)
    refine x_blk (b := 1) (a_155 E) rfl ?_
    unfold b_155_1
    refine x_push (-1) rfl ?_
    refine x_iret ?_
    exact k _ _ C0 (y_fr_rf (lo := 101) (hi := 111)) (by omega) (by omega) 
theorem sf_107_105 {E : q_E} {σ : x_S} {Q : Option q_V → x_S → Prop} {a1 : Int} (a1l : (-2147483648) ≤ a1) (a1h : a1 ≤ 2147483647) (C0 : y_CI σ) (k : ∀ v, (-2147483648) ≤ v → v ≤ 2147483647 → Q (some (x_I v)) σ) : x_P E 107 [x_R 105, x_I a1] σ Q := by
  refine x_Mt e_107 (h_107 E) (Nat.le_of_ble_eq_true rfl) t_107 rfl ?_
  refine x_blk (b := 0) (a_107 E) rfl ?_
  unfold b_107_0
  refine x_iload rfl ?_
  refine x_push 40 rfl ?_
  refine x_cS (fun _ => rfl) (Nat.le_of_ble_eq_true rfl) ?_
  refine sf_2 (by omega) (by omega) (by omega) (by omega) C0 (fun y1 => ?_) (fun y1 => ?_)
  · skip
    refine x_if_eq (by omega) (by omega) (fun z => absurd z (by omega)) (fun z2 => ?_)
    refine x_aload rfl ?_
    refine x_getR (r := 105) rfl (by decide) (by decide) rfl ?_
    refine x_iload rfl ?_
    refine x_ialdG y_a107 C0 (by omega) (by omega) (fun v3 v3a v3b => ?_)
    refine x_goto ?_
    refine x_blk (b := 2) (a_107 E) rfl ?_
    unfold b_107_2
    refine x_iret ?_
    exact k _ (by omega) (by omega) 
  · skip
    refine x_if_eq (by omega) (by omega) (fun z4 => ?_) (fun z => absurd (by omega) z)
    refine x_blk (b := 1) (a_107 E) rfl ?_
    unfold b_107_1
    refine x_push 0 rfl ?_
    refine x_fall ?_
    refine x_blk (b := 2) (a_107 E) rfl ?_
    unfold b_107_2
    refine x_iret ?_
    exact k _ (by omega) (by omega) 
theorem sf_158_0 {E : q_E} {σ : x_S} {Q : Option q_V → x_S → Prop} {a1 a2 a3 : Int} (a1l : (-2147483648) ≤ a1) (a1h : a1 ≤ 2147483647) (a2l : (-2147483648) ≤ a2) (a2h : a2 ≤ 2147483647) (a3l : (-2147483648) ≤ a3) (a3h : a3 ≤ 2147483647) (C0 : y_CI σ) (k : ∀ τ v, y_CI τ → y_fq 92 111 σ τ → (-2147483648) ≤ v → v ≤ 2147483647 → Q (some (x_I v)) τ) : x_P E 158 [x_R 0, x_I a1, x_I a2, x_I a3] σ Q := by
  refine x_Mt e_158 (h_158 E) (Nat.le_of_ble_eq_true rfl) t_158 rfl ?_
  refine x_blk (b := 0) (a_158 E) rfl ?_
  unfold b_158_0
  refine x_iload rfl ?_
  refine x_push 2 rfl ?_
  refine x_cS (fun _ => rfl) (Nat.le_of_ble_eq_true rfl) ?_
  refine sf_2 (by omega) (by omega) (by omega) (by omega) C0 (fun y1 => ?_) (fun y1 => ?_)
  · skip
    refine x_if_eq (by omega) (by omega) (fun z => absurd z (by omega)) (fun z2 => ?_)
    refine x_aload rfl ?_
    refine x_getR (r := 0) rfl (by decide) (by decide) rfl ?_
    refine x_iload rfl ?_
    refine x_iload rfl ?_
    refine x_cV (fun _ => rfl) rfl (by decide) (Nat.le_of_ble_eq_true rfl) ?_
    refine sf_44_4 (by omega) (by omega) (by omega) (by omega) C0 (fun y3 => ?_) (fun y3 => ?_)
    · skip
      refine x_if_ne (by omega) (by omega) (fun z => absurd z (by omega)) (fun z4 => ?_)
      refine x_blk (b := 2) (a_158 E) rfl ?_
      unfold b_158_2
      refine x_aload rfl ?_
      refine x_getR (r := 0) rfl (by decide) (by decide) rfl ?_
      refine x_aload rfl ?_
      refine x_getR (r := 0) rfl (by decide) (by decide) rfl ?_
      refine x_iload rfl ?_
      refine x_push 0 rfl ?_
      refine x_cV (fun _ => rfl) rfl (by decide) (Nat.le_of_ble_eq_true rfl) ?_
      refine sf_72_92_4 (by omega) (by omega) (by omega) (by omega) C0 (fun S5 C5 f5 => ?_)
      have F5 := y_fq_tr (by decide) (y_fr_rf (lo := 92) (hi := 111)) f5
      refine x_aload rfl ?_
      refine x_getR (r := 0) rfl (by decide) (by decide) rfl ?_
      refine x_aload rfl ?_
      refine x_getR (r := 0) rfl (by decide) (by decide) rfl ?_
      refine x_aload rfl ?_
      refine x_getR (r := 0) rfl (by decide) (by decide) rfl ?_
      refine x_iload rfl ?_
      refine x_push 0 rfl ?_
      refine x_cV (fun _ => rfl) rfl (by decide) (Nat.le_of_ble_eq_true rfl) ?_
      refine sf_84_105_4_92 (by omega) (by omega) (by omega) (by omega) C5 (fun S6 v6 C6 f6 v6a v6b => ?_)
      have F6 := y_fq_tr (by decide) F5 f6
      refine x_pop rfl ?_
      refine x_aload rfl ?_
      refine x_getR (r := 0) rfl (by decide) (by decide) rfl ?_
      refine x_iload rfl ?_
      refine x_cV (fun _ => rfl) rfl (by decide) (Nat.le_of_ble_eq_true rfl) ?_
      refine sf_107_105 (by omega) (by omega) C6 (fun v7 v7a v7b => ?_)
      refine x_iret ?_
      exact k _ _ C6 F6 (by omega) (by omega) 
    · skip
      refine x_if_ne (by omega) (by omega) (fun z8 => ?_) (fun z => absurd (by omega) z)
      refine x_fall ?_
      refine x_blk (b := 1) (a_158 E) rfl ?_
      unfold b_158_1
      refine x_push (-1) rfl ?_
      refine x_iret ?_
      exact k _ _ C0 (y_fr_rf (lo := 92) (hi := 111)) (by omega) (by omega) 
  · skip
    refine x_if_eq (by omega) (by omega) (fun z9 => ?_) (fun z => absurd (by omega) z)
    refine x_blk (b := 1) (a_158 E) rfl ?_
    unfold b_158_1
    refine x_push (-1) rfl ?_
    refine x_iret ?_
    exact k _ _ C0 (y_fr_rf (lo := 92) (hi := 111)) (by omega) (by omega) 
theorem sf_108_0 {E : q_E} {σ : x_S} {Q : Option q_V → x_S → Prop} {a1 : Int} (a1l : (-2147483648) ≤ a1) (a1h : a1 ≤ 2147483647) (C0 : y_CI σ) (k0 : a1 = 0 → Q (some (x_R 111)) σ) (k1 : ¬ a1 = 0 → Q (some (x_R 124)) σ) : x_P E 108 [x_R 0, x_I a1] σ Q := by
  refine x_Mt e_108 (h_108 E) (Nat.le_of_ble_eq_true rfl) t_108 rfl ?_
  refine x_blk (b := 0) (a_108 E) rfl ?_
  unfold b_108_0
  refine x_iload rfl ?_
  refine x_if_ne (by omega) (by omega) (fun z1 => ?_) (fun z1 => ?_)
  · skip
    refine x_aload rfl ?_
    refine x_getR (r := 0) rfl (by decide) (by decide) rfl ?_
    refine x_goto ?_
    refine x_blk (b := 2) (a_108 E) rfl ?_
    unfold b_108_2
    refine x_aret ?_
    exact k0 (by omega)
  · skip
    refine x_blk (b := 1) (a_108 E) rfl ?_
    unfold b_108_1
    refine x_aload rfl ?_
    refine x_getR (r := 0) rfl (by decide) (by decide) rfl ?_
    refine x_fall ?_
    refine x_blk (b := 2) (a_108 E) rfl ?_
    unfold b_108_2
    refine x_aret ?_
    exact k1 (by omega)
theorem sf_40_111_4_b9 {E : q_E} {σ : x_S} {Q : Option q_V → x_S → Prop} {a2 a3 a4 : Int} (a2l : 0 ≤ a2) (a2h : a2 ≤ 4) (a3l : (-4) ≤ a3) (a3h : a3 ≤ 53) (a4l : (-4) ≤ a4) (a4h : a4 ≤ 53) (C0 : y_CI σ) (k : ∀ v, (-2147483648) ≤ v → v ≤ 2147483647 → Q (some (x_I v)) σ) : ∀ (N : Nat) (lk on pf w t q : Int), (3 - q).toNat = N → 0 ≤ lk → lk ≤ 63 → 0 ≤ on → on ≤ 63 → (-2147483648) ≤ pf → pf ≤ 2147483647 → (-2147483648) ≤ w → w ≤ 2147483647 → 0 ≤ t → t ≤ 30 → 0 ≤ q → q ≤ 3 → x_G E m_40 Q (t_40 9) [(0, x_R 111), (6, x_I lk), (7, x_I on), (9, x_I pf), (10, x_I w), (11, x_I t), (12, x_I q)] [] σ := by
  intro N
  induction N using Nat.strongRecOn with
  | ind N ih =>
    intro lk on pf w t q hN lkL lkH onL onH pfL pfH wL wH tL tH qL qH
    refine x_blk (b := 9) (a_40 E) rfl ?_
    unfold b_40_9
    refine x_iload rfl ?_
    refine x_push 3 rfl ?_
    refine x_icmp_ge (by omega) (by omega) (by omega) (by omega) (fun z1 => ?_) (fun z1 => ?_)
    · skip
      refine x_iload rfl ?_
      refine x_iload rfl ?_
      refine x_iadd ?_
      refine x_aload rfl ?_
      refine x_getR (r := 111) rfl (by decide) (by decide) rfl ?_
      refine x_lenG (n := 30) (L := 30) rfl (by decide) rfl (by decide) rfl ?_
      refine x_cS (fun _ => rfl) (Nat.le_of_ble_eq_true rfl) ?_
      refine sf_2 (by omega) (by omega) (by omega) (by omega) C0 (fun y2 => ?_) (fun y2 => ?_)
      · skip
        refine x_if_eq (by omega) (by omega) (fun z => absurd z (by omega)) (fun z3 => ?_)
        refine x_aload rfl ?_
        refine x_getR (r := 111) rfl (by decide) (by decide) rfl ?_
        refine x_iload rfl ?_
        refine x_iload rfl ?_
        refine x_iadd ?_
        refine x_ialdG y_a120 C0 (by omega) (by omega) (fun v4 v4a v4b => ?_)
        refine x_istore ?_
        refine x_iload rfl ?_
        refine x_push 16 rfl ?_
        refine x_cS (fun _ => rfl) (Nat.le_of_ble_eq_true rfl) ?_
        refine sf_2 (by omega) (by omega) (by omega) (by omega) C0 (fun y5 => ?_) (fun y5 => ?_)
        · skip
          refine x_if_eq (by omega) (by omega) (fun z => absurd z (by omega)) (fun z6 => ?_)
          refine x_aload rfl ?_
          refine x_getR (r := 111) rfl (by decide) (by decide) rfl ?_
          refine x_iload rfl ?_
          refine x_ialdG y_a121 C0 (by omega) (by omega) (fun v7 v7a v7b => ?_)
          refine x_iload rfl ?_
          refine x_iandM (by omega) (by omega) (fun v8 v8a v8b => ?_)
          refine x_if_eq (by omega) (by omega) (fun z9 => ?_) (fun z9 => ?_)
          · skip
            refine x_blk (b := 5) (a_40 E) rfl ?_
            unfold b_40_5
            refine x_push 0 rfl ?_
            refine x_fall ?_
            refine x_blk (b := 6) (a_40 E) rfl ?_
            unfold b_40_6
            refine x_istore ?_
            refine x_X_lo (lo' := [(0, x_R 111), (6, x_I _), (7, x_I _), (9, x_I _), (10, x_I _), (11, x_I _), (12, x_I _), (13, x_I _), (14, x_I _)]) ⟨rfl, rfl, rfl, rfl, rfl, rfl, rfl, rfl, rfl, trivial⟩ ?_
            refine x_iload rfl ?_
            refine x_iload rfl ?_
            refine x_iload rfl ?_
            refine x_if_eq (by omega) (by omega) (fun z10 => ?_) (fun z => absurd (by omega) z)
            refine x_blk (b := 7) (a_40 E) rfl ?_
            unfold b_40_7
            refine x_aload rfl ?_
            refine x_getR (r := 111) rfl (by decide) (by decide) rfl ?_
            refine x_iload rfl ?_
            refine x_lald (r := 122) (n := 16) rfl rfl (by decide) (by omega) (by omega) (fun n11 => ?_)
            refine x_iload rfl ?_
            refine x_lushr (by omega) (by omega) (fun n12 => ?_)
            refine x_pushv ?_
            refine x_lbin (fun n13 => ?_)
            refine x_l2i (fun v14 v14a v14b => ?_)
            refine x_fall ?_
            refine x_blk (b := 8) (a_40 E) rfl ?_
            unfold b_40_8
            refine x_imul ?_
            refine x_wrp (fun v15 v15a v15b => ?_)
            refine x_iadd ?_
            refine x_wrp (fun v16 v16a v16b => ?_)
            refine x_istore ?_
            refine x_iload rfl ?_
            refine x_push 3 rfl ?_
            refine x_imul ?_
            refine x_wrp (fun v17 v17a v17b => ?_)
            refine x_istore ?_
            refine x_X_lo (lo' := [(0, x_R 111), (6, x_I _), (7, x_I _), (9, x_I _), (10, x_I _), (11, x_I _), (12, x_I _), (13, x_I _), (14, x_I _)]) ⟨rfl, rfl, rfl, rfl, rfl, rfl, rfl, rfl, rfl, trivial⟩ ?_
            refine x_iinc 1 rfl rfl ?_
            refine x_goto ?_
            refine x_G_lo (lo' := [(0, x_R 111), (6, x_I _), (7, x_I _), (9, x_I _), (10, x_I _), (11, x_I _), (12, x_I _)]) ⟨rfl, rfl, rfl, rfl, rfl, rfl, rfl, trivial⟩ ?_
            exact ih _ (by omega) _ _ _ _ _ _  rfl (by omega) (by omega) (by omega) (by omega) (by omega) (by omega) (by omega) (by omega) (by omega) (by omega) (by omega) (by omega)  
          · skip
            refine x_fall ?_
            refine x_blk (b := 4) (a_40 E) rfl ?_
            unfold b_40_4
            refine x_push 1 rfl ?_
            refine x_goto ?_
            refine x_blk (b := 6) (a_40 E) rfl ?_
            unfold b_40_6
            refine x_istore ?_
            refine x_X_lo (lo' := [(0, x_R 111), (6, x_I _), (7, x_I _), (9, x_I _), (10, x_I _), (11, x_I _), (12, x_I _), (13, x_I _), (14, x_I _)]) ⟨rfl, rfl, rfl, rfl, rfl, rfl, rfl, rfl, rfl, trivial⟩ ?_
            refine x_iload rfl ?_
            refine x_iload rfl ?_
            refine x_iload rfl ?_
            refine x_if_eq (by omega) (by omega) (fun z => absurd z (by omega)) (fun z18 => ?_)
            refine x_push 2 rfl ?_
            refine x_goto ?_
            refine x_blk (b := 8) (a_40 E) rfl ?_
            unfold b_40_8
            refine x_imul ?_
            refine x_wrp (fun v19 v19a v19b => ?_)
            refine x_iadd ?_
            refine x_wrp (fun v20 v20a v20b => ?_)
            refine x_istore ?_
            refine x_iload rfl ?_
            refine x_push 3 rfl ?_
            refine x_imul ?_
            refine x_wrp (fun v21 v21a v21b => ?_)
            refine x_istore ?_
            refine x_X_lo (lo' := [(0, x_R 111), (6, x_I _), (7, x_I _), (9, x_I _), (10, x_I _), (11, x_I _), (12, x_I _), (13, x_I _), (14, x_I _)]) ⟨rfl, rfl, rfl, rfl, rfl, rfl, rfl, rfl, rfl, trivial⟩ ?_
            refine x_iinc 1 rfl rfl ?_
            refine x_goto ?_
            refine x_G_lo (lo' := [(0, x_R 111), (6, x_I _), (7, x_I _), (9, x_I _), (10, x_I _), (11, x_I _), (12, x_I _)]) ⟨rfl, rfl, rfl, rfl, rfl, rfl, rfl, trivial⟩ ?_
            exact ih _ (by omega) _ _ _ _ _ _  rfl (by omega) (by omega) (by omega) (by omega) (by omega) (by omega) (by omega) (by omega) (by omega) (by omega) (by omega) (by omega)  
        · skip
          refine x_if_eq (by omega) (by omega) (fun z22 => ?_) (fun z => absurd (by omega) z)
          refine x_blk (b := 4) (a_40 E) rfl ?_
          unfold b_40_4
          refine x_push 1 rfl ?_
          refine x_goto ?_
          refine x_blk (b := 6) (a_40 E) rfl ?_
          unfold b_40_6
          refine x_istore ?_
          refine x_X_lo (lo' := [(0, x_R 111), (6, x_I _), (7, x_I _), (9, x_I _), (10, x_I _), (11, x_I _), (12, x_I _), (13, x_I _), (14, x_I _)]) ⟨rfl, rfl, rfl, rfl, rfl, rfl, rfl, rfl, rfl, trivial⟩ ?_
          refine x_iload rfl ?_
          refine x_iload rfl ?_
          refine x_iload rfl ?_
          refine x_if_eq (by omega) (by omega) (fun z => absurd z (by omega)) (fun z23 => ?_)
          refine x_push 2 rfl ?_
          refine x_goto ?_
          refine x_blk (b := 8) (a_40 E) rfl ?_
          unfold b_40_8
          refine x_imul ?_
          refine x_wrp (fun v24 v24a v24b => ?_)
          refine x_iadd ?_
          refine x_wrp (fun v25 v25a v25b => ?_)
          refine x_istore ?_
          refine x_iload rfl ?_
          refine x_push 3 rfl ?_
          refine x_imul ?_
          refine x_wrp (fun v26 v26a v26b => ?_)
          refine x_istore ?_
          refine x_X_lo (lo' := [(0, x_R 111), (6, x_I _), (7, x_I _), (9, x_I _), (10, x_I _), (11, x_I _), (12, x_I _), (13, x_I _), (14, x_I _)]) ⟨rfl, rfl, rfl, rfl, rfl, rfl, rfl, rfl, rfl, trivial⟩ ?_
          refine x_iinc 1 rfl rfl ?_
          refine x_goto ?_
          refine x_G_lo (lo' := [(0, x_R 111), (6, x_I _), (7, x_I _), (9, x_I _), (10, x_I _), (11, x_I _), (12, x_I _)]) ⟨rfl, rfl, rfl, rfl, rfl, rfl, rfl, trivial⟩ ?_
          exact ih _ (by omega) _ _ _ _ _ _  rfl (by omega) (by omega) (by omega) (by omega) (by omega) (by omega) (by omega) (by omega) (by omega) (by omega) (by omega) (by omega)  
      · skip
        refine x_if_eq (by omega) (by omega) (fun z27 => ?_) (fun z => absurd (by omega) z)
        refine x_blk (b := 3) (a_40 E) rfl ?_
        unfold b_40_3
        refine x_iload rfl ?_
        refine x_iret ?_
        exact k _ (by omega) (by omega) 
    · skip
      refine x_blk (b := 3) (a_40 E) rfl ?_
      unfold b_40_3
      refine x_iload rfl ?_
      refine x_iret ?_
      exact k _ (by omega) (by omega) 
theorem sf_40_111_4 {E : q_E} {σ : x_S} {Q : Option q_V → x_S → Prop} {a2 a3 a4 : Int} (a2l : 0 ≤ a2) (a2h : a2 ≤ 4) (a3l : (-4) ≤ a3) (a3h : a3 ≤ 53) (a4l : (-4) ≤ a4) (a4h : a4 ≤ 53) (C0 : y_CI σ) (k : ∀ v, (-2147483648) ≤ v → v ≤ 2147483647 → Q (some (x_I v)) σ) : x_P E 40 [x_R 111, x_R 4, x_I a2, x_I a3, x_I a4] σ Q := by
  refine x_Mt e_40 (h_40 E) (Nat.le_of_ble_eq_true rfl) t_40 rfl ?_
  refine x_blk (b := 0) (a_40 E) rfl ?_
  unfold b_40_0
  refine x_push 0 rfl ?_
  refine x_istore ?_
  refine x_push 0 rfl ?_
  refine x_istore ?_
  refine x_X_lo (lo' := [(0, x_R 111), (1, x_R 4), (2, x_I _), (3, x_I _), (4, x_I _), (5, x_I _), (6, x_I _)]) ⟨rfl, rfl, rfl, rfl, rfl, rfl, rfl, trivial⟩ ?_
  refine x_push 0 rfl ?_
  refine x_istore ?_
  refine x_iload rfl ?_
  refine x_push 54 rfl ?_
  refine x_cS (fun _ => rfl) (Nat.le_of_ble_eq_true rfl) ?_
  refine sf_2 (by omega) (by omega) (by omega) (by omega) C0 (fun y1 => ?_) (fun y1 => ?_)
  · skip
    refine x_if_eq (by omega) (by omega) (fun z => absurd z (by omega)) (fun z2 => ?_)
    refine x_iload rfl ?_
    refine x_push 1 rfl ?_
    refine x_iandM (by omega) (by omega) (fun v3 v3a v3b => ?_)
    refine x_istore ?_
    refine x_X_lo (lo' := [(0, x_R 111), (1, x_R 4), (2, x_I _), (3, x_I _), (4, x_I _), (5, x_I _), (6, x_I _), (7, x_I _)]) ⟨rfl, rfl, rfl, rfl, rfl, rfl, rfl, rfl, trivial⟩ ?_
    refine x_aload rfl ?_
    refine x_getR (r := 111) rfl (by decide) (by decide) rfl ?_
    refine x_iload rfl ?_
    refine x_ialdG y_a119 C0 (by omega) (by omega) (fun v4 v4a v4b => ?_)
    refine x_istore ?_
    refine x_aload rfl ?_
    refine x_getR (r := 111) rfl (by decide) (by decide) rfl ?_
    refine x_iload rfl ?_
    refine x_ialdG y_a118 C0 (by omega) (by omega) (fun v5 v5a v5b => ?_)
    refine x_istore ?_
    refine x_X_lo (lo' := [(0, x_R 111), (1, x_R 4), (2, x_I _), (3, x_I _), (4, x_I _), (5, x_I _), (6, x_I _), (7, x_I _)]) ⟨rfl, rfl, rfl, rfl, rfl, rfl, rfl, rfl, trivial⟩ ?_
    refine x_fall ?_
    refine x_blk (b := 1) (a_40 E) rfl ?_
    unfold b_40_1
    refine x_iload rfl ?_
    refine x_push 54 rfl ?_
    refine x_cS (fun _ => rfl) (Nat.le_of_ble_eq_true rfl) ?_
    refine sf_2 (by omega) (by omega) (by omega) (by omega) C0 (fun y6 => ?_) (fun y6 => ?_)
    · skip
      refine x_if_eq (by omega) (by omega) (fun z => absurd z (by omega)) (fun z7 => ?_)
      refine x_push 2 rfl ?_
      refine x_iload rfl ?_
      refine x_imul ?_
      refine x_iload rfl ?_
      refine x_push 1 rfl ?_
      refine x_iandM (by omega) (by omega) (fun v8 v8a v8b => ?_)
      refine x_iadd ?_
      refine x_istore ?_
      refine x_iload rfl ?_
      refine x_aload rfl ?_
      refine x_getR (r := 111) rfl (by decide) (by decide) rfl ?_
      refine x_iload rfl ?_
      refine x_ialdG y_a119 C0 (by omega) (by omega) (fun v9 v9a v9b => ?_)
      refine x_push 3 rfl ?_
      refine x_shl3 (by omega) (by omega) ?_
      refine x_iorM 6 (p := 64) (by decide) (by decide) (by omega) (by omega) (by omega) (by omega) (fun v10 v10a v10b => ?_)
      refine x_istore ?_
      refine x_X_lo (lo' := [(0, x_R 111), (1, x_R 4), (2, x_I _), (3, x_I _), (4, x_I _), (5, x_I _), (6, x_I _), (7, x_I _)]) ⟨rfl, rfl, rfl, rfl, rfl, rfl, rfl, rfl, trivial⟩ ?_
      refine x_iload rfl ?_
      refine x_aload rfl ?_
      refine x_getR (r := 111) rfl (by decide) (by decide) rfl ?_
      refine x_iload rfl ?_
      refine x_ialdG y_a118 C0 (by omega) (by omega) (fun v11 v11a v11b => ?_)
      refine x_push 3 rfl ?_
      refine x_shl3 (by omega) (by omega) ?_
      refine x_iorM 6 (p := 64) (by decide) (by decide) (by omega) (by omega) (by omega) (by omega) (fun v12 v12a v12b => ?_)
      refine x_istore ?_
      refine x_fall ?_
      refine x_blk (b := 2) (a_40 E) rfl ?_
      unfold b_40_2
      refine x_aload rfl ?_
      refine x_push 0 rfl ?_
      refine x_iload rfl ?_
      refine x_iload rfl ?_
      refine x_cV (fun _ => rfl) rfl (by decide) (Nat.le_of_ble_eq_true rfl) ?_
      refine sf_30_4 (by omega) (by omega) (by omega) (by omega) (by omega) (by omega) C0 (fun v13 v13a v13b => ?_)
      refine x_istore ?_
      refine x_X_lo (lo' := [(0, x_R 111), (1, x_R 4), (2, x_I _), (3, x_I _), (4, x_I _), (5, x_I _), (6, x_I _), (7, x_I _), (8, x_I _)]) ⟨rfl, rfl, rfl, rfl, rfl, rfl, rfl, rfl, rfl, trivial⟩ ?_
      refine x_iload rfl ?_
      refine x_istore ?_
      refine x_push 2 rfl ?_
      refine x_istore ?_
      refine x_X_lo (lo' := [(0, x_R 111), (1, x_R 4), (2, x_I _), (3, x_I _), (4, x_I _), (5, x_I _), (6, x_I _), (7, x_I _), (8, x_I _), (9, x_I _), (10, x_I _)]) ⟨rfl, rfl, rfl, rfl, rfl, rfl, rfl, rfl, rfl, rfl, rfl, trivial⟩ ?_
      refine x_iload rfl ?_
      refine x_push 2 rfl ?_
      refine x_imul ?_
      refine x_iload rfl ?_
      refine x_iadd ?_
      refine x_push 3 rfl ?_
      refine x_imul ?_
      refine x_istore ?_
      refine x_push 0 rfl ?_
      refine x_istore ?_
      refine x_X_lo (lo' := [(0, x_R 111), (1, x_R 4), (2, x_I _), (3, x_I _), (4, x_I _), (5, x_I _), (6, x_I _), (7, x_I _), (8, x_I _), (9, x_I _), (10, x_I _), (11, x_I _), (12, x_I _)]) ⟨rfl, rfl, rfl, rfl, rfl, rfl, rfl, rfl, rfl, rfl, rfl, rfl, rfl, trivial⟩ ?_
      refine x_fall ?_
      refine x_G_lo (lo' := [(0, x_R 111), (6, x_I _), (7, x_I _), (9, x_I _), (10, x_I _), (11, x_I _), (12, x_I _)]) ⟨rfl, rfl, rfl, rfl, rfl, rfl, rfl, trivial⟩ ?_
      exact sf_40_111_4_b9 a2l a2h a3l a3h a4l a4h C0 k  _ _ _ _ _ _ _  rfl (by omega) (by omega) (by omega) (by omega) (by omega) (by omega) (by omega) (by omega) (by omega) (by omega) (by omega) (by omega)  
    · skip
      refine x_if_eq (by omega) (by omega) (fun z14 => ?_) (fun z => absurd (by omega) z)
      refine x_blk (b := 2) (a_40 E) rfl ?_
      unfold b_40_2
      refine x_aload rfl ?_
      refine x_push 0 rfl ?_
      refine x_iload rfl ?_
      refine x_iload rfl ?_
      refine x_cV (fun _ => rfl) rfl (by decide) (Nat.le_of_ble_eq_true rfl) ?_
      refine sf_30_4 (by omega) (by omega) (by omega) (by omega) (by omega) (by omega) C0 (fun v15 v15a v15b => ?_)
      refine x_istore ?_
      refine x_iload rfl ?_
      refine x_istore ?_
      refine x_X_lo (lo' := [(0, x_R 111), (1, x_R 4), (2, x_I _), (3, x_I _), (4, x_I _), (5, x_I _), (6, x_I _), (7, x_I _), (8, x_I _), (9, x_I _)]) ⟨rfl, rfl, rfl, rfl, rfl, rfl, rfl, rfl, rfl, rfl, trivial⟩ ?_
      refine x_push 2 rfl ?_
      refine x_istore ?_
      refine x_iload rfl ?_
      refine x_push 2 rfl ?_
      refine x_imul ?_
      refine x_iload rfl ?_
      refine x_iadd ?_
      refine x_push 3 rfl ?_
      refine x_imul ?_
      refine x_istore ?_
      refine x_X_lo (lo' := [(0, x_R 111), (1, x_R 4), (2, x_I _), (3, x_I _), (4, x_I _), (5, x_I _), (6, x_I _), (7, x_I _), (8, x_I _), (9, x_I _), (10, x_I _), (11, x_I _)]) ⟨rfl, rfl, rfl, rfl, rfl, rfl, rfl, rfl, rfl, rfl, rfl, rfl, trivial⟩ ?_
      refine x_push 0 rfl ?_
      refine x_istore ?_
      refine x_fall ?_
      refine x_G_lo (lo' := [(0, x_R 111), (6, x_I _), (7, x_I _), (9, x_I _), (10, x_I _), (11, x_I _), (12, x_I _)]) ⟨rfl, rfl, rfl, rfl, rfl, rfl, rfl, trivial⟩ ?_
      exact sf_40_111_4_b9 a2l a2h a3l a3h a4l a4h C0 k  _ _ _ _ _ _ _  rfl (by omega) (by omega) (by omega) (by omega) (by omega) (by omega) (by omega) (by omega) (by omega) (by omega) (by omega) (by omega)  
  · skip
    refine x_if_eq (by omega) (by omega) (fun z16 => ?_) (fun z => absurd (by omega) z)
    refine x_blk (b := 1) (a_40 E) rfl ?_
    unfold b_40_1
    refine x_iload rfl ?_
    refine x_push 54 rfl ?_
    refine x_cS (fun _ => rfl) (Nat.le_of_ble_eq_true rfl) ?_
    refine sf_2 (by omega) (by omega) (by omega) (by omega) C0 (fun y17 => ?_) (fun y17 => ?_)
    · skip
      refine x_if_eq (by omega) (by omega) (fun z => absurd z (by omega)) (fun z18 => ?_)
      refine x_push 2 rfl ?_
      refine x_iload rfl ?_
      refine x_imul ?_
      refine x_iload rfl ?_
      refine x_push 1 rfl ?_
      refine x_iandM (by omega) (by omega) (fun v19 v19a v19b => ?_)
      refine x_iadd ?_
      refine x_istore ?_
      refine x_X_lo (lo' := [(0, x_R 111), (1, x_R 4), (2, x_I _), (3, x_I _), (4, x_I _), (5, x_I _), (6, x_I _), (7, x_I _)]) ⟨rfl, rfl, rfl, rfl, rfl, rfl, rfl, rfl, trivial⟩ ?_
      refine x_iload rfl ?_
      refine x_aload rfl ?_
      refine x_getR (r := 111) rfl (by decide) (by decide) rfl ?_
      refine x_iload rfl ?_
      refine x_ialdG y_a119 C0 (by omega) (by omega) (fun v20 v20a v20b => ?_)
      refine x_push 3 rfl ?_
      refine x_shl3 (by omega) (by omega) ?_
      refine x_iorM 6 (p := 64) (by decide) (by decide) (by omega) (by omega) (by omega) (by omega) (fun v21 v21a v21b => ?_)
      refine x_istore ?_
      refine x_iload rfl ?_
      refine x_aload rfl ?_
      refine x_getR (r := 111) rfl (by decide) (by decide) rfl ?_
      refine x_iload rfl ?_
      refine x_ialdG y_a118 C0 (by omega) (by omega) (fun v22 v22a v22b => ?_)
      refine x_push 3 rfl ?_
      refine x_shl3 (by omega) (by omega) ?_
      refine x_iorM 6 (p := 64) (by decide) (by decide) (by omega) (by omega) (by omega) (by omega) (fun v23 v23a v23b => ?_)
      refine x_istore ?_
      refine x_X_lo (lo' := [(0, x_R 111), (1, x_R 4), (2, x_I _), (3, x_I _), (4, x_I _), (5, x_I _), (6, x_I _), (7, x_I _)]) ⟨rfl, rfl, rfl, rfl, rfl, rfl, rfl, rfl, trivial⟩ ?_
      refine x_fall ?_
      refine x_blk (b := 2) (a_40 E) rfl ?_
      unfold b_40_2
      refine x_aload rfl ?_
      refine x_push 0 rfl ?_
      refine x_iload rfl ?_
      refine x_iload rfl ?_
      refine x_cV (fun _ => rfl) rfl (by decide) (Nat.le_of_ble_eq_true rfl) ?_
      refine sf_30_4 (by omega) (by omega) (by omega) (by omega) (by omega) (by omega) C0 (fun v24 v24a v24b => ?_)
      refine x_istore ?_
      refine x_iload rfl ?_
      refine x_istore ?_
      refine x_X_lo (lo' := [(0, x_R 111), (1, x_R 4), (2, x_I _), (3, x_I _), (4, x_I _), (5, x_I _), (6, x_I _), (7, x_I _), (8, x_I _), (9, x_I _)]) ⟨rfl, rfl, rfl, rfl, rfl, rfl, rfl, rfl, rfl, rfl, trivial⟩ ?_
      refine x_push 2 rfl ?_
      refine x_istore ?_
      refine x_iload rfl ?_
      refine x_push 2 rfl ?_
      refine x_imul ?_
      refine x_iload rfl ?_
      refine x_iadd ?_
      refine x_push 3 rfl ?_
      refine x_imul ?_
      refine x_istore ?_
      refine x_X_lo (lo' := [(0, x_R 111), (1, x_R 4), (2, x_I _), (3, x_I _), (4, x_I _), (5, x_I _), (6, x_I _), (7, x_I _), (8, x_I _), (9, x_I _), (10, x_I _), (11, x_I _)]) ⟨rfl, rfl, rfl, rfl, rfl, rfl, rfl, rfl, rfl, rfl, rfl, rfl, trivial⟩ ?_
      refine x_push 0 rfl ?_
      refine x_istore ?_
      refine x_fall ?_
      refine x_G_lo (lo' := [(0, x_R 111), (6, x_I _), (7, x_I _), (9, x_I _), (10, x_I _), (11, x_I _), (12, x_I _)]) ⟨rfl, rfl, rfl, rfl, rfl, rfl, rfl, trivial⟩ ?_
      exact sf_40_111_4_b9 a2l a2h a3l a3h a4l a4h C0 k  _ _ _ _ _ _ _  rfl (by omega) (by omega) (by omega) (by omega) (by omega) (by omega) (by omega) (by omega) (by omega) (by omega) (by omega) (by omega)  
    · skip
      refine x_if_eq (by omega) (by omega) (fun z25 => ?_) (fun z => absurd (by omega) z)
      refine x_blk (b := 2) (a_40 E) rfl ?_
      unfold b_40_2
      refine x_aload rfl ?_
      refine x_push 0 rfl ?_
      refine x_iload rfl ?_
      refine x_iload rfl ?_
      refine x_cV (fun _ => rfl) rfl (by decide) (Nat.le_of_ble_eq_true rfl) ?_
      refine sf_30_4 (by omega) (by omega) (by omega) (by omega) (by omega) (by omega) C0 (fun v26 v26a v26b => ?_)
      refine x_istore ?_
      refine x_X_lo (lo' := [(0, x_R 111), (1, x_R 4), (2, x_I _), (3, x_I _), (4, x_I _), (5, x_I _), (6, x_I _), (7, x_I _), (8, x_I _)]) ⟨rfl, rfl, rfl, rfl, rfl, rfl, rfl, rfl, rfl, trivial⟩ ?_
      refine x_iload rfl ?_
      refine x_istore ?_
      refine x_push 2 rfl ?_
      refine x_istore ?_
      refine x_X_lo (lo' := [(0, x_R 111), (1, x_R 4), (2, x_I _), (3, x_I _), (4, x_I _), (5, x_I _), (6, x_I _), (7, x_I _), (8, x_I _), (9, x_I _), (10, x_I _)]) ⟨rfl, rfl, rfl, rfl, rfl, rfl, rfl, rfl, rfl, rfl, rfl, trivial⟩ ?_
      refine x_iload rfl ?_
      refine x_push 2 rfl ?_
      refine x_imul ?_
      refine x_iload rfl ?_
      refine x_iadd ?_
      refine x_push 3 rfl ?_
      refine x_imul ?_
      refine x_istore ?_
      refine x_push 0 rfl ?_
      refine x_istore ?_
      refine x_X_lo (lo' := [(0, x_R 111), (1, x_R 4), (2, x_I _), (3, x_I _), (4, x_I _), (5, x_I _), (6, x_I _), (7, x_I _), (8, x_I _), (9, x_I _), (10, x_I _), (11, x_I _), (12, x_I _)]) ⟨rfl, rfl, rfl, rfl, rfl, rfl, rfl, rfl, rfl, rfl, rfl, rfl, rfl, trivial⟩ ?_
      refine x_fall ?_
      refine x_G_lo (lo' := [(0, x_R 111), (6, x_I _), (7, x_I _), (9, x_I _), (10, x_I _), (11, x_I _), (12, x_I _)]) ⟨rfl, rfl, rfl, rfl, rfl, rfl, rfl, trivial⟩ ?_
      exact sf_40_111_4_b9 a2l a2h a3l a3h a4l a4h C0 k  _ _ _ _ _ _ _  rfl (by omega) (by omega) (by omega) (by omega) (by omega) (by omega) (by omega) (by omega) (by omega) (by omega) (by omega) (by omega)  
