theorem sf_153_0 {E : q_E} {σ : x_S} {Q : Option q_V → x_S → Prop} {a1 a2 : Int} (a1l : (-2147483648) ≤ a1) (a1h : a1 ≤ 2147483647) (a2l : (-2147483648) ≤ a2) (a2h : a2 ≤ 2147483647) (C0 : y_CI σ) (k : ∀ τ v, y_CI τ → y_fq 92 111 σ τ → (-2147483648) ≤ v → v ≤ 2147483647 → Q (some (x_I v)) τ) : x_P E 153 [x_R 0, x_I a1, x_I a2] σ Q := by
  refine x_Mt e_153 (h_153 E) (Nat.le_of_ble_eq_true rfl) t_153 rfl ?_
  refine x_blk (b := 0) (a_153 E) rfl ?_
  unfold b_153_0
  refine x_iload rfl ?_
  refine x_push 3 rfl ?_
  refine x_cS (fun _ => rfl) (Nat.le_of_ble_eq_true rfl) ?_
  refine sf_2 (by omega) (by omega) (by omega) (by omega) C0 (fun y1 => ?_) (fun y1 => ?_)
  · skip
    refine x_if_eq (by omega) (by omega) (fun z => absurd z (by omega)) (fun z2 => ?_)
    refine x_iload rfl ?_
    refine x_push (-1) rfl ?_
    refine x_icmp_ge (by omega) (by omega) (by omega) (by omega) (fun z3 => ?_) (fun z3 => ?_)
    · skip
      refine x_fall ?_
      refine x_blk (b := 1) (a_153 E) rfl ?_
      unfold b_153_1
      refine x_push (-1) rfl ?_
      refine x_iret ?_
      exact k _ _ C0 (y_fr_rf (lo := 92) (hi := 111)) (by omega) (by omega) 
    · skip
      refine x_blk (b := 2) (a_153 E) rfl ?_
      unfold b_153_2
      refine x_aload rfl ?_
      refine x_getR (r := 0) rfl (by decide) (by decide) rfl ?_
      refine x_aload rfl ?_
      refine x_getR (r := 0) rfl (by decide) (by decide) rfl ?_
      refine x_iload rfl ?_
      refine x_push 0 rfl ?_
      refine x_cV (fun _ => rfl) rfl (by decide) (Nat.le_of_ble_eq_true rfl) ?_
      refine sf_72_92_4 (by omega) (by omega) (by omega) (by omega) C0 (fun S4 C4 f4 => ?_)
      have F4 := y_fq_tr (by decide) (y_fr_rf (lo := 92) (hi := 111)) f4
      refine x_aload rfl ?_
      refine x_getR (r := 0) rfl (by decide) (by decide) rfl ?_
      refine x_aload rfl ?_
      refine x_getR (r := 0) rfl (by decide) (by decide) rfl ?_
      refine x_aload rfl ?_
      refine x_getR (r := 0) rfl (by decide) (by decide) rfl ?_
      refine x_push 0 rfl ?_
      refine x_push 0 rfl ?_
      refine x_cV (fun _ => rfl) rfl (by decide) (Nat.le_of_ble_eq_true rfl) ?_
      refine sf_84_105_4_92 (by omega) (by omega) (by omega) (by omega) C4 (fun S5 v5 C5 f5 v5a v5b => ?_)
      have F5 := y_fq_tr (by decide) F4 f5
      refine x_istore ?_
      refine x_iload rfl ?_
      refine x_if_ge (by omega) (by omega) (fun z6 => ?_) (fun z6 => ?_)
      · skip
        refine x_iload rfl ?_
        refine x_iret ?_
        exact k _ _ C5 F5 (by omega) (by omega) 
      · skip
        refine x_blk (b := 3) (a_153 E) rfl ?_
        unfold b_153_3
        refine x_aload rfl ?_
        refine x_getR (r := 0) rfl (by decide) (by decide) rfl ?_
        refine x_aload rfl ?_
        refine x_getR (r := 0) rfl (by decide) (by decide) rfl ?_
        refine x_aload rfl ?_
        refine x_getR (r := 0) rfl (by decide) (by decide) rfl ?_
        refine x_getR (r := 105) rfl (by decide) (by decide) rfl ?_
        refine x_aload rfl ?_
        refine x_getR (r := 0) rfl (by decide) (by decide) rfl ?_
        refine x_getIG y_f105_5 C5 ?_
        intro g7a g7b
        refine x_cV (fun _ => rfl) rfl (by decide) (Nat.le_of_ble_eq_true rfl) ?_
        refine sf_154_96_4_106 (by omega) (by omega) C5 (fun S8 C8 f8 => ?_)
        have F8 := y_fq_tr (by decide) F5 f8
        refine x_aload rfl ?_
        refine x_getR (r := 0) rfl (by decide) (by decide) rfl ?_
        refine x_aload rfl ?_
        refine x_getR (r := 0) rfl (by decide) (by decide) rfl ?_
        refine x_aload rfl ?_
        refine x_getR (r := 0) rfl (by decide) (by decide) rfl ?_
        refine x_push 1 rfl ?_
        refine x_push 0 rfl ?_
        refine x_cV (fun _ => rfl) rfl (by decide) (Nat.le_of_ble_eq_true rfl) ?_
        refine sf_84_105_4_96 (by omega) (by omega) (by omega) (by omega) C8 (fun S9 v9 C9 f9 v9a v9b => ?_)
        have F9 := y_fq_tr (by decide) F8 f9
        refine x_istore ?_
        refine x_X_lo (lo' := [(0, x_R 0), (1, x_I _), (2, x_I _), (3, x_I _), (4, x_I _)]) ⟨rfl, rfl, rfl, rfl, rfl, trivial⟩ ?_
        refine x_aload rfl ?_
        refine x_iload rfl ?_
        refine x_push (-10) rfl ?_
        refine x_icmp_gt (by omega) (by omega) (by omega) (by omega) (fun z10 => ?_) (fun z10 => ?_)
        · skip
          refine x_iload rfl ?_
          refine x_push 50 rfl ?_
          refine x_isub ?_
          refine x_wrp (fun v11 v11a v11b => ?_)
          refine x_goto ?_
          refine x_blk (b := 5) (a_153 E) rfl ?_
          unfold b_153_5
          refine x_iload rfl ?_
          refine x_cV (fun _ => rfl) rfl (by decide) (Nat.le_of_ble_eq_true rfl) ?_
          refine sf_98_0 (by omega) (by omega) (by omega) (by omega) C9 (fun v12 v12a v12b => ?_)
          refine x_iret ?_
          exact k _ _ C9 F9 (by omega) (by omega) 
        · skip
          refine x_blk (b := 4) (a_153 E) rfl ?_
          unfold b_153_4
          refine x_iload rfl ?_
          refine x_fall ?_
          refine x_blk (b := 5) (a_153 E) rfl ?_
          unfold b_153_5
          refine x_iload rfl ?_
          refine x_cV (fun _ => rfl) rfl (by decide) (Nat.le_of_ble_eq_true rfl) ?_
          refine sf_98_0 (by omega) (by omega) (by omega) (by omega) C9 (fun v13 v13a v13b => ?_)
          refine x_iret ?_
          exact k _ _ C9 F9 (by omega) (by omega) 
  · skip
    refine x_if_eq (by omega) (by omega) (fun z14 => ?_) (fun z => absurd (by omega) z)
    refine x_blk (b := 1) (a_153 E) rfl ?_
    unfold b_153_1
    refine x_push (-1) rfl ?_
    refine x_iret ?_
    exact k _ _ C0 (y_fr_rf (lo := 92) (hi := 111)) (by omega) (by omega) 
theorem sf_107_105 {E : q_E} {σ : x_S} {Q : Option q_V → x_S → Prop} {a1 : Int} (a1l : (-2147483648) ≤ a1) (a1h : a1 ≤ 2147483647) (C0 : y_CI σ) (k : ∀ v, (-2147483648) ≤ v → v ≤ 2147483647 → Q (some (x_I v)) σ) : x_P E 107 [x_R 105, x_I a1] σ Q := by
  refine x_Mt e_107 (h_107 E) (Nat.le_of_ble_eq_true rfl) t_107 rfl ?_
  refine x_blk (b := 0) (a_107 E) rfl ?_
  unfold b_107_0
  refine x_iload rfl ?_
  refine x_push 40 rfl ?_
  refine x_cS (fun _ => rfl) (Nat.le_of_ble_eq_true rfl) ?_
  refine sf_2 (by omega) (by omega) (by omega) (by omega) C0 (fun y1 => ?_) (fun y1 => ?_)
  · skip
    refine x_if_eq (by omega) (by omega) (fun z => absurd z (by omega)) (fun z2 => ?_)
    refine x_aload rfl ?_
    refine x_getR (r := 105) rfl (by decide) (by decide) rfl ?_
    refine x_iload rfl ?_
    refine x_ialdG y_a107 C0 (by omega) (by omega) (fun v3 v3a v3b => ?_)
    refine x_goto ?_
    refine x_blk (b := 2) (a_107 E) rfl ?_
    unfold b_107_2
    refine x_iret ?_
    exact k _ (by omega) (by omega) 
  · skip
    refine x_if_eq (by omega) (by omega) (fun z4 => ?_) (fun z => absurd (by omega) z)
    refine x_blk (b := 1) (a_107 E) rfl ?_
    unfold b_107_1
    refine x_push 0 rfl ?_
    refine x_fall ?_
    refine x_blk (b := 2) (a_107 E) rfl ?_
    unfold b_107_2
    refine x_iret ?_
    exact k _ (by omega) (by omega) 
theorem sf_158_0 {E : q_E} {σ : x_S} {Q : Option q_V → x_S → Prop} {a1 a2 a3 : Int} (a1l : (-2147483648) ≤ a1) (a1h : a1 ≤ 2147483647) (a2l : (-2147483648) ≤ a2) (a2h : a2 ≤ 2147483647) (a3l : (-2147483648) ≤ a3) (a3h : a3 ≤ 2147483647) (C0 : y_CI σ) (k : ∀ τ v, y_CI τ → y_fq 92 111 σ τ → (-2147483648) ≤ v → v ≤ 2147483647 → Q (some (x_I v)) τ) : x_P E 158 [x_R 0, x_I a1, x_I a2, x_I a3] σ Q := by
  refine x_Mt e_158 (h_158 E) (Nat.le_of_ble_eq_true rfl) t_158 rfl ?_
  refine x_blk (b := 0) (a_158 E) rfl ?_
  unfold b_158_0
  refine x_iload rfl ?_
  refine x_push 2 rfl ?_
  refine x_cS (fun _ => rfl) (Nat.le_of_ble_eq_true rfl) ?_
  refine sf_2 (by omega) (by omega) (by omega) (by omega) C0 (fun y1 => ?_) (fun y1 => ?_)
  · skip
    refine x_if_eq (by omega) (by omega) (fun z => absurd z (by omega)) (fun z2 => ?_)
    refine x_aload rfl ?_
    refine x_getR (r := 0) rfl (by decide) (by decide) rfl ?_
    refine x_iload rfl ?_
    refine x_iload rfl ?_
    refine x_cV (fun _ => rfl) rfl (by decide) (Nat.le_of_ble_eq_true rfl) ?_
    refine sf_44_4 (by omega) (by omega) (by omega) (by omega) C0 (fun y3 => ?_) (fun y3 => ?_)
    · skip
      refine x_if_ne (by omega) (by omega) (fun z => absurd z (by omega)) (fun z4 => ?_)
      refine x_blk (b := 2) (a_158 E) rfl ?_
      unfold b_158_2
      refine x_aload rfl ?_
      refine x_getR (r := 0) rfl (by decide) (by decide) rfl ?_
      refine x_aload rfl ?_
      refine x_getR (r := 0) rfl (by decide) (by decide) rfl ?_
      refine x_iload rfl ?_
      refine x_push 0 rfl ?_
      refine x_cV (fun _ => rfl) rfl (by decide) (Nat.le_of_ble_eq_true rfl) ?_
      refine sf_72_92_4 (by omega) (by omega) (by omega) (by omega) C0 (fun S5 C5 f5 => ?_)
      have F5 := y_fq_tr (by decide) (y_fr_rf (lo := 92) (hi := 111)) f5
      refine x_aload rfl ?_
      refine x_getR (r := 0) rfl (by decide) (by decide) rfl ?_
      refine x_aload rfl ?_
      refine x_getR (r := 0) rfl (by decide) (by decide) rfl ?_
      refine x_aload rfl ?_
      refine x_getR (r := 0) rfl (by decide) (by decide) rfl ?_
      refine x_iload rfl ?_
      refine x_push 0 rfl ?_
      refine x_cV (fun _ => rfl) rfl (by decide) (Nat.le_of_ble_eq_true rfl) ?_
      refine sf_84_105_4_92 (by omega) (by omega) (by omega) (by omega) C5 (fun S6 v6 C6 f6 v6a v6b => ?_)
      have F6 := y_fq_tr (by decide) F5 f6
      refine x_pop rfl ?_
      refine x_aload rfl ?_
      refine x_getR (r := 0) rfl (by decide) (by decide) rfl ?_
      refine x_iload rfl ?_
      refine x_cV (fun _ => rfl) rfl (by decide) (Nat.le_of_ble_eq_true rfl) ?_
      refine sf_107_105 (by omega) (by omega) C6 (fun v7 v7a v7b => ?_)
      refine x_iret ?_
      exact k _ _ C6 F6 (by omega) (by omega) 
    · skip
      refine x_if_ne (by omega) (by omega) (fun z8 => ?_) (fun z => absurd (by omega) z)
      refine x_fall ?_
      refine x_blk (b := 1) (a_158 E) rfl ?_
      unfold b_158_1
      refine x_push (-1) rfl ?_
      refine x_iret ?_
      exact k _ _ C0 (y_fr_rf (lo := 92) (hi := 111)) (by omega) (by omega) 
  · skip
    refine x_if_eq (by omega) (by omega) (fun z9 => ?_) (fun z => absurd (by omega) z)
    refine x_blk (b := 1) (a_158 E) rfl ?_
    unfold b_158_1
    refine x_push (-1) rfl ?_
    refine x_iret ?_
    exact k _ _ C0 (y_fr_rf (lo := 92) (hi := 111)) (by omega) (by omega) 
theorem sf_108_0 {E : q_E} {σ : x_S} {Q : Option q_V → x_S → Prop} {a1 : Int} (a1l : (-2147483648) ≤ a1) (a1h : a1 ≤ 2147483647) (C0 : y_CI σ) (k0 : a1 = 0 → Q (some (x_R 111)) σ) (k1 : ¬ a1 = 0 → Q (some (x_R 124)) σ) : x_P E 108 [x_R 0, x_I a1] σ Q := by
  refine x_Mt e_108 (h_108 E) (Nat.le_of_ble_eq_true rfl) t_108 rfl ?_
  refine x_blk (b := 0) (a_108 E) rfl ?_
  unfold b_108_0
  refine x_iload rfl ?_
  refine x_if_ne (by omega) (by omega) (fun z1 => ?_) (fun z1 => ?_)
  · skip
    refine x_aload rfl ?_
    refine x_getR (r := 0) rfl (by decide) (by decide) rfl ?_
    refine x_goto ?_
    refine x_blk (b := 2) (a_108 E) rfl ?_
    unfold b_108_2
    refine x_aret ?_
    exact k0 (by omega)
  · skip
    refine x_blk (b := 1) (a_108 E) rfl ?_
    unfold b_108_1
    refine x_aload rfl ?_
    refine x_getR (r := 0) rfl (by decide) (by decide) rfl ?_
    refine x_fall ?_
    refine x_blk (b := 2) (a_108 E) rfl ?_
    unfold b_108_2
    refine x_aret ?_
    exact k1 (by omega)
theorem sf_40_111_4_b9 {E : q_E} {σ : x_S} {Q : Option q_V → x_S → Prop} {a2 a3 a4 : Int} (a2l : 0 ≤ a2) (a2h : a2 ≤ 4) (a3l : (-4) ≤ a3) (a3h : a3 ≤ 53) (a4l : (-4) ≤ a4) (a4h : a4 ≤ 53) (C0 : y_CI σ) (k : ∀ v, (-2147483648) ≤ v → v ≤ 2147483647 → Q (some (x_I v)) σ) : ∀ (N : Nat) (lk on pf w t q : Int), (3 - q).toNat = N → 0 ≤ lk → lk ≤ 63 → 0 ≤ on → on ≤ 63 → (-2147483648) ≤ pf → pf ≤ 2147483647 → (-2147483648) ≤ w → w ≤ 2147483647 → 0 ≤ t → t ≤ 30 → 0 ≤ q → q ≤ 3 → x_G E m_40 Q (t_40 9) [(0, x_R 111), (6, x_I lk), (7, x_I on), (9, x_I pf), (10, x_I w), (11, x_I t), (12, x_I q)] [] σ := by
  intro N
  induction N using Nat.strongRecOn with
  | ind N ih =>
    intro lk on pf w t q hN lkL lkH onL onH pfL pfH wL wH tL tH qL qH
    refine x_blk (b := 9) (a_40 E) rfl ?_
    unfold b_40_9
    refine x_iload rfl ?_
    refine x_push 3 rfl ?_
    refine x_icmp_ge (by omega) (by omega) (by omega) (by omega) (fun z1 => ?_) (fun z1 => ?_)
    · skip
      refine x_iload rfl ?_
      refine x_iload rfl ?_
      refine x_iadd ?_
      refine x_aload rfl ?_
      refine x_getR (r := 111) rfl (by decide) (by decide) rfl ?_
      refine x_lenG (n := 30) (L := 30) rfl (by decide) rfl (by decide) rfl ?_
      refine x_cS (fun _ => rfl) (Nat.le_of_ble_eq_true rfl) ?_
      refine sf_2 (by omega) (by omega) (by omega) (by omega) C0 (fun y2 => ?_) (fun y2 => ?_)
      · skip
        refine x_if_eq (by omega) (by omega) (fun z => absurd z (by omega)) (fun z3 => ?_)
        refine x_aload rfl ?_
        refine x_getR (r := 111) rfl (by decide) (by decide) rfl ?_
        refine x_iload rfl ?_
        refine x_iload rfl ?_
        refine x_iadd ?_
        refine x_ialdG y_a120 C0 (by omega) (by omega) (fun v4 v4a v4b => ?_)
        refine x_istore ?_
        refine x_iload rfl ?_
        refine x_push 16 rfl ?_
        refine x_cS (fun _ => rfl) (Nat.le_of_ble_eq_true rfl) ?_
        refine sf_2 (by omega) (by omega) (by omega) (by omega) C0 (fun y5 => ?_) (fun y5 => ?_)
        · skip
          refine x_if_eq (by omega) (by omega) (fun z => absurd z (by omega)) (fun z6 => ?_)
          refine x_aload rfl ?_
          refine x_getR (r := 111) rfl (by decide) (by decide) rfl ?_
          refine x_iload rfl ?_
          refine x_ialdG y_a121 C0 (by omega) (by omega) (fun v7 v7a v7b => ?_)
          refine x_iload rfl ?_
          refine x_iandM (by omega) (by omega) (fun v8 v8a v8b => ?_)
          refine x_if_eq (by omega) (by omega) (fun z9 => ?_) (fun z9 => ?_)
          · skip
            refine x_blk (b := 5) (a_40 E) rfl ?_
            unfold b_40_5
            refine x_push 0 rfl ?_
            refine x_fall ?_
            refine x_blk (b := 6) (a_40 E) rfl ?_
            unfold b_40_6
            refine x_istore ?_
            refine x_X_lo (lo' := [(0, x_R 111), (6, x_I _), (7, x_I _), (9, x_I _), (10, x_I _), (11, x_I _), (12, x_I _), (13, x_I _), (14, x_I _)]) ⟨rfl, rfl, rfl, rfl, rfl, rfl, rfl, rfl, rfl, trivial⟩ ?_
            refine x_iload rfl ?_
            refine x_iload rfl ?_
            refine x_iload rfl ?_
            refine x_if_eq (by omega) (by omega) (fun z10 => ?_) (fun z => absurd (by omega) z)
            refine x_blk (b := 7) (a_40 E) rfl ?_
            unfold b_40_7
            refine x_aload rfl ?_
            refine x_getR (r := 111) rfl (by decide) (by decide) rfl ?_
            refine x_iload rfl ?_
            refine x_lald (r := 122) (n := 16) rfl rfl (by decide) (by omega) (by omega) (fun n11 => ?_)
            refine x_iload rfl ?_
            refine x_lushr (by omega) (by omega) (fun n12 => ?_)
            refine x_pushv ?_
            refine x_lbin (fun n13 => ?_)
            refine x_l2i (fun v14 v14a v14b => ?_)
            refine x_fall ?_
            refine x_blk (b := 8) (a_40 E) rfl ?_
            unfold b_40_8
            refine x_imul ?_
            refine x_wrp (fun v15 v15a v15b => ?_)
            refine x_iadd ?_
            refine x_wrp (fun v16 v16a v16b => ?_)
            refine x_istore ?_
            refine x_iload rfl ?_
            refine x_push 3 rfl ?_
            refine x_imul ?_
            refine x_wrp (fun v17 v17a v17b => ?_)
            refine x_istore ?_
            refine x_X_lo (lo' := [(0, x_R 111), (6, x_I _), (7, x_I _), (9, x_I _), (10, x_I _), (11, x_I _), (12, x_I _), (13, x_I _), (14, x_I _)]) ⟨rfl, rfl, rfl, rfl, rfl, rfl, rfl, rfl, rfl, trivial⟩ ?_
            refine x_iinc 1 rfl rfl ?_
            refine x_goto ?_
            refine x_G_lo (lo' := [(0, x_R 111), (6, x_I _), (7, x_I _), (9, x_I _), (10, x_I _), (11, x_I _), (12, x_I _)]) ⟨rfl, rfl, rfl, rfl, rfl, rfl, rfl, trivial⟩ ?_
            exact ih _ (by omega) _ _ _ _ _ _  rfl (by omega) (by omega) (by omega) (by omega) (by omega) (by omega) (by omega) (by omega) (by omega) (by omega) (by omega) (by omega)  
          · skip
            refine x_fall ?_
            refine x_blk (b := 4) (a_40 E) rfl ?_
            unfold b_40_4
            refine x_push 1 rfl ?_
            refine x_goto ?_
            refine x_blk (b := 6) (a_40 E) rfl ?_
            unfold b_40_6
            refine x_istore ?_
            refine x_X_lo (lo' := [(0, x_R 111), (6, x_I _), (7, x_I _), (9, x_I _), (10, x_I _), (11, x_I _), (12, x_I _), (13, x_I _), (14, x_I _)]) ⟨rfl, rfl, rfl, rfl, rfl, rfl, rfl, rfl, rfl, trivial⟩ ?_
            refine x_iload rfl ?_
            refine x_iload rfl ?_
            refine x_iload rfl ?_
            refine x_if_eq (by omega) (by omega) (fun z => absurd z (by omega)) (fun z18 => ?_)
            refine x_push 2 rfl ?_
            refine x_goto ?_
            refine x_blk (b := 8) (a_40 E) rfl ?_
            unfold b_40_8
            refine x_imul ?_
            refine x_wrp (fun v19 v19a v19b => ?_)
            refine x_iadd ?_
            refine x_wrp (fun v20 v20a v20b => ?_)
            refine x_istore ?_
            refine x_iload rfl ?_
            refine x_push 3 rfl ?_
            refine x_imul ?_
            refine x_wrp (fun v21 v21a v21b => ?_)
            refine x_istore ?_
            refine x_X_lo (lo' := [(0, x_R 111), (6, x_I _), (7, x_I _), (9, x_I _), (10, x_I _), (11, x_I _), (12, x_I _), (13, x_I _), (14, x_I _)]) ⟨rfl, rfl, rfl, rfl, rfl, rfl, rfl, rfl, rfl, trivial⟩ ?_
            refine x_iinc 1 rfl rfl ?_
            refine x_goto ?_
            refine x_G_lo (lo' := [(0, x_R 111), (6, x_I _), (7, x_I _), (9, x_I _), (10, x_I _), (11, x_I _), (12, x_I _)]) ⟨rfl, rfl, rfl, rfl, rfl, rfl, rfl, trivial⟩ ?_
            exact ih _ (by omega) _ _ _ _ _ _  rfl (by omega) (by omega) (by omega) (by omega) (by omega) (by omega) (by omega) (by omega) (by omega) (by omega) (by omega) (by omega)  
        · skip
          refine x_if_eq (by omega) (by omega) (fun z22 => ?_) (fun z => absurd (by omega) z)
          refine x_blk (b := 4) (a_40 E) rfl ?_
          unfold b_40_4
          refine x_push 1 rfl ?_
          refine x_goto ?_
          refine x_blk (b := 6) (a_40 E) rfl ?_
          unfold b_40_6
          refine x_istore ?_
          refine x_X_lo (lo' := [(0, x_R 111), (6, x_I _), (7, x_I _), (9, x_I _), (10, x_I _), (11, x_I _), (12, x_I _), (13, x_I _), (14, x_I _)]) ⟨rfl, rfl, rfl, rfl, rfl, rfl, rfl, rfl, rfl, trivial⟩ ?_
          refine x_iload rfl ?_
          refine x_iload rfl ?_
          refine x_iload rfl ?_
          refine x_if_eq (by omega) (by omega) (fun z => absurd z (by omega)) (fun z23 => ?_)
          refine x_push 2 rfl ?_
          refine x_goto ?_
          refine x_blk (b := 8) (a_40 E) rfl ?_
          unfold b_40_8
          refine x_imul ?_
          refine x_wrp (fun v24 v24a v24b => ?_)
          refine x_iadd ?_
          refine x_wrp (fun v25 v25a v25b => ?_)
          refine x_istore ?_
          refine x_iload rfl ?_
          refine x_push 3 rfl ?_
          refine x_imul ?_
          refine x_wrp (fun v26 v26a v26b => ?_)
          refine x_istore ?_
          refine x_X_lo (lo' := [(0, x_R 111), (6, x_I _), (7, x_I _), (9, x_I _), (10, x_I _), (11, x_I _), (12, x_I _), (13, x_I _), (14, x_I _)]) ⟨rfl, rfl, rfl, rfl, rfl, rfl, rfl, rfl, rfl, trivial⟩ ?_
          refine x_iinc 1 rfl rfl ?_
          refine x_goto ?_
          refine x_G_lo (lo' := [(0, x_R 111), (6, x_I _), (7, x_I _), (9, x_I _), (10, x_I _), (11, x_I _), (12, x_I _)]) ⟨rfl, rfl, rfl, rfl, rfl, rfl, rfl, trivial⟩ ?_
          exact ih _ (by omega) _ _ _ _ _ _  rfl (by omega) (by omega) (by omega) (by omega) (by omega) (by omega) (by omega) (by omega) (by omega) (by omega) (by omega) (by omega)  
      · skip
        refine x_if_eq (by omega) (by omega) (fun z27 => ?_) (fun z => absurd (by omega) z)
        refine x_blk (b := 3) (a_40 E) rfl ?_
        unfold b_40_3
        refine x_iload rfl ?_
        refine x_iret ?_
        exact k _ (by omega) (by omega) 
    · skip
      refine x_blk (b := 3) (a_40 E) rfl ?_
      unfold b_40_3
      refine x_iload rfl ?_
      refine x_iret ?_
      exact k _ (by omega) (by omega) 
theorem sf_40_111_4 {E : q_E} {σ : x_S} {Q : Option q_V → x_S → Prop} {a2 a3 a4 : Int} (a2l : 0 ≤ a2) (a2h : a2 ≤ 4) (a3l : (-4) ≤ a3) (a3h : a3 ≤ 53) (a4l : (-4) ≤ a4) (a4h : a4 ≤ 53) (C0 : y_CI σ) (k : ∀ v, (-2147483648) ≤ v → v ≤ 2147483647 → Q (some (x_I v)) σ) : x_P E 40 [x_R 111, x_R 4, x_I a2, x_I a3, x_I a4] σ Q := by
  refine x_Mt e_40 (h_40 E) (Nat.le_of_ble_eq_true rfl) t_40 rfl ?_
  refine x_blk (b := 0) (a_40 E) rfl ?_
  unfold b_40_0
  refine x_push 0 rfl ?_
  refine x_istore ?_
  refine x_push 0 rfl ?_
  refine x_istore ?_
  refine x_X_lo (lo' := [(0, x_R 111), (1, x_R 4), (2, x_I _), (3, x_I _), (4, x_I _), (5, x_I _), (6, x_I _)]) ⟨rfl, rfl, rfl, rfl, rfl, rfl, rfl, trivial⟩ ?_
  refine x_push 0 rfl ?_
  refine x_istore ?_
  refine x_iload rfl ?_
  refine x_push 54 rfl ?_
  refine x_cS (fun _ => rfl) (Nat.le_of_ble_eq_true rfl) ?_
  refine sf_2 (by omega) (by omega) (by omega) (by omega) C0 (fun y1 => ?_) (fun y1 => ?_)
  · skip
    refine x_if_eq (by omega) (by omega) (fun z => absurd z (by omega)) (fun z2 => ?_)
    refine x_iload rfl ?_
    refine x_push 1 rfl ?_
    refine x_iandM (by omega) (by omega) (fun v3 v3a v3b => ?_)
    refine x_istore ?_
    refine x_X_lo (lo' := [(0, x_R 111), (1, x_R 4), (2, x_I _), (3, x_I _), (4, x_I _), (5, x_I _), (6, x_I _), (7, x_I _)]) ⟨rfl, rfl, rfl, rfl, rfl, rfl, rfl, rfl, trivial⟩ ?_
    refine x_aload rfl ?_
    refine x_getR (r := 111) rfl (by decide) (by decide) rfl ?_
    refine x_iload rfl ?_
    refine x_ialdG y_a119 C0 (by omega) (by omega) (fun v4 v4a v4b => ?_)
    refine x_istore ?_
    refine x_aload rfl ?_
    refine x_getR (r := 111) rfl (by decide) (by decide) rfl ?_
    refine x_iload rfl ?_
    refine x_ialdG y_a118 C0 (by omega) (by omega) (fun v5 v5a v5b => ?_)
    refine x_istore ?_
    refine x_X_lo (lo' := [(0, x_R 111), (1, x_R 4), (2, x_I _), (3, x_I _), (4, x_I _), (5, x_I _), (6, x_I _), (7, x_I _)]) ⟨rfl, rfl, rfl, rfl, rfl, rfl, rfl, rfl, trivial⟩ ?_
    refine x_fall ?_
    refine x_blk (b := 1) (a_40 E) rfl ?_
    unfold b_40_1
    refine x_iload rfl ?_
    refine x_push 54 rfl ?_
    refine x_cS (fun _ => rfl) (Nat.le_of_ble_eq_true rfl) ?_
    refine sf_2 (by omega) (by omega) (by omega) (by omega) C0 (fun y6 => ?_) (fun y6 => ?_)
    · skip
      refine x_if_eq (by omega) (by omega) (fun z => absurd z (by omega)) (fun z7 => ?_)
      refine x_push 2 rfl ?_
      refine x_iload rfl ?_
      refine x_imul ?_
      refine x_iload rfl ?_
      refine x_push 1 rfl ?_
      refine x_iandM (by omega) (by omega) (fun v8 v8a v8b => ?_)
      refine x_iadd ?_
      refine x_istore ?_
      refine x_iload rfl ?_
      refine x_aload rfl ?_
      refine x_getR (r := 111) rfl (by decide) (by decide) rfl ?_
      refine x_iload rfl ?_
      refine x_ialdG y_a119 C0 (by omega) (by omega) (fun v9 v9a v9b => ?_)
      refine x_push 3 rfl ?_
      refine x_shl3 (by omega) (by omega) ?_
      refine x_iorM 6 (p := 64) (by decide) (by decide) (by omega) (by omega) (by omega) (by omega) (fun v10 v10a v10b => ?_)
      refine x_istore ?_
      refine x_X_lo (lo' := [(0, x_R 111), (1, x_R 4), (2, x_I _), (3, x_I _), (4, x_I _), (5, x_I _), (6, x_I _), (7, x_I _)]) ⟨rfl, rfl, rfl, rfl, rfl, rfl, rfl, rfl, trivial⟩ ?_
      refine x_iload rfl ?_
      refine x_aload rfl ?_
      refine x_getR (r := 111) rfl (by decide) (by decide) rfl ?_
      refine x_iload rfl ?_
      refine x_ialdG y_a118 C0 (by omega) (by omega) (fun v11 v11a v11b => ?_)
      refine x_push 3 rfl ?_
      refine x_shl3 (by omega) (by omega) ?_
      refine x_iorM 6 (p := 64) (by decide) (by decide) (by omega) (by omega) (by omega) (by omega) (fun v12 v12a v12b => ?_)
      refine x_istore ?_
      refine x_fall ?_
      refine x_blk (b := 2) (a_40 E) rfl ?_
      unfold b_40_2
      refine x_aload rfl ?_
      refine x_push 0 rfl ?_
      refine x_iload rfl ?_
      refine x_iload rfl ?_
      refine x_cV (fun _ => rfl) rfl (by decide) (Nat.le_of_ble_eq_true rfl) ?_
      refine sf_30_4 (by omega) (by omega) (by omega) (by omega) (by omega) (by omega) C0 (fun v13 v13a v13b => ?_)
      refine x_istore ?_
      refine x_X_lo (lo' := [(0, x_R 111), (1, x_R 4), (2, x_I _), (3, x_I _), (4, x_I _), (5, x_I _), (6, x_I _), (7, x_I _), (8, x_I _)]) ⟨rfl, rfl, rfl, rfl, rfl, rfl, rfl, rfl, rfl, trivial⟩ ?_
      refine x_iload rfl ?_
      refine x_istore ?_
      refine x_push 2 rfl ?_
      refine x_istore ?_
      refine x_X_lo (lo' := [(0, x_R 111), (1, x_R 4), (2, x_I _), (3, x_I _), (4, x_I _), (5, x_I _), (6, x_I _), (7, x_I _), (8, x_I _), (9, x_I _), (10, x_I _)]) ⟨rfl, rfl, rfl, rfl, rfl, rfl, rfl, rfl, rfl, rfl, rfl, trivial⟩ ?_
      refine x_iload rfl ?_
      refine x_push 2 rfl ?_
      refine x_imul ?_
      refine x_iload rfl ?_
      refine x_iadd ?_
      refine x_push 3 rfl ?_
      refine x_imul ?_
      refine x_istore ?_
      refine x_push 0 rfl ?_
      refine x_istore ?_
      refine x_X_lo (lo' := [(0, x_R 111), (1, x_R 4), (2, x_I _), (3, x_I _), (4, x_I _), (5, x_I _), (6, x_I _), (7, x_I _), (8, x_I _), (9, x_I _), (10, x_I _), (11, x_I _), (12, x_I _)]) ⟨rfl, rfl, rfl, rfl, rfl, rfl, rfl, rfl, rfl, rfl, rfl, rfl, rfl, trivial⟩ ?_
      refine x_fall ?_
      refine x_G_lo (lo' := [(0, x_R 111), (6, x_I _), (7, x_I _), (9, x_I _), (10, x_I _), (11, x_I _), (12, x_I _)]) ⟨rfl, rfl, rfl, rfl, rfl, rfl, rfl, trivial⟩ ?_
      exact sf_40_111_4_b9 a2l a2h a3l a3h a4l a4h C0 k  _ _ _ _ _ _ _  rfl (by omega) (by omega) (by omega) (by omega) (by omega) (by omega) (by omega) (by omega) (by omega) (by omega) (by omega) (by omega)  
    · skip
      refine x_if_eq (by omega) (by omega) (fun z14 => ?_) (fun z => absurd (by omega) z)
      refine x_blk (b := 2) (a_40 E) rfl ?_
      unfold b_40_2
      refine x_aload rfl ?_
      refine x_push 0 rfl ?_
      refine x_iload rfl ?_
      refine x_iload rfl ?_
      refine x_cV (fun _ => rfl) rfl (by decide) (Nat.le_of_ble_eq_true rfl) ?_
      refine sf_30_4 (by omega) (by omega) (by omega) (by omega) (by omega) (by omega) C0 (fun v15 v15a v15b => ?_)
      refine x_istore ?_
      refine x_iload rfl ?_
      refine x_istore ?_
      refine x_X_lo (lo' := [(0, x_R 111), (1, x_R 4), (2, x_I _), (3, x_I _), (4, x_I _), (5, x_I _), (6, x_I _), (7, x_I _), (8, x_I _), (9, x_I _)]) ⟨rfl, rfl, rfl, rfl, rfl, rfl, rfl, rfl, rfl, rfl, trivial⟩ ?_
      refine x_push 2 rfl ?_
      refine x_istore ?_
      refine x_iload rfl ?_
      refine x_push 2 rfl ?_
      refine x_imul ?_
      refine x_iload rfl ?_
      refine x_iadd ?_
      refine x_push 3 rfl ?_
      refine x_imul ?_
      refine x_istore ?_
      refine x_X_lo (lo' := [(0, x_R 111), (1, x_R 4), (2, x_I _), (3, x_I _), (4, x_I _), (5, x_I _), (6, x_I _), (7, x_I _), (8, x_I _), (9, x_I _), (10, x_I _), (11, x_I _)]) ⟨rfl, rfl, rfl, rfl, rfl, rfl, rfl, rfl, rfl, rfl, rfl, rfl, trivial⟩ ?_
      refine x_push 0 rfl ?_
      refine x_istore ?_
      refine x_fall ?_
      refine x_G_lo (lo' := [(0, x_R 111), (6, x_I _), (7, x_I _), (9, x_I _), (10, x_I _), (11, x_I _), (12, x_I _)]) ⟨rfl, rfl, rfl, rfl, rfl, rfl, rfl, trivial⟩ ?_
      exact sf_40_111_4_b9 a2l a2h a3l a3h a4l a4h C0 k  _ _ _ _ _ _ _  rfl (by omega) (by omega) (by omega) (by omega) (by omega) (by omega) (by omega) (by omega) (by omega) (by omega) (by omega) (by omega)  
  · skip
    refine x_if_eq (by omega) (by omega) (fun z16 => ?_) (fun z => absurd (by omega) z)
    refine x_blk (b := 1) (a_40 E) rfl ?_
    unfold b_40_1
    refine x_iload rfl ?_
    refine x_push 54 rfl ?_
    refine x_cS (fun _ => rfl) (Nat.le_of_ble_eq_true rfl) ?_
    refine sf_2 (by omega) (by omega) (by omega) (by omega) C0 (fun y17 => ?_) (fun y17 => ?_)
    · skip
      refine x_if_eq (by omega) (by omega) (fun z => absurd z (by omega)) (fun z18 => ?_)
      refine x_push 2 rfl ?_
      refine x_iload rfl ?_
      refine x_imul ?_
      refine x_iload rfl ?_
      refine x_push 1 rfl ?_
      refine x_iandM (by omega) (by omega) (fun v19 v19a v19b => ?_)
      refine x_iadd ?_
      refine x_istore ?_
      refine x_X_lo (lo' := [(0, x_R 111), (1, x_R 4), (2, x_I _), (3, x_I _), (4, x_I _), (5, x_I _), (6, x_I _), (7, x_I _)]) ⟨rfl, rfl, rfl, rfl, rfl, rfl, rfl, rfl, trivial⟩ ?_
      refine x_iload rfl ?_
      refine x_aload rfl ?_
      refine x_getR (r := 111) rfl (by decide) (by decide) rfl ?_
      refine x_iload rfl ?_
      refine x_ialdG y_a119 C0 (by omega) (by omega) (fun v20 v20a v20b => ?_)
      refine x_push 3 rfl ?_
      refine x_shl3 (by omega) (by omega) ?_
      refine x_iorM 6 (p := 64) (by decide) (by decide) (by omega) (by omega) (by omega) (by omega) (fun v21 v21a v21b => ?_)
      refine x_istore ?_
      refine x_iload rfl ?_
      refine x_aload rfl ?_
      refine x_getR (r := 111) rfl (by decide) (by decide) rfl ?_
      refine x_iload rfl ?_
      refine x_ialdG y_a118 C0 (by omega) (by omega) (fun v22 v22a v22b => ?_)
      refine x_push 3 rfl ?_
      refine x_shl3 (by omega) (by omega) ?_
      refine x_iorM 6 (p := 64) (by decide) (by decide) (by omega) (by omega) (by omega) (by omega) (fun v23 v23a v23b => ?_)
      refine x_istore ?_
      refine x_X_lo (lo' := [(0, x_R 111), (1, x_R 4), (2, x_I _), (3, x_I _), (4, x_I _), (5, x_I _), (6, x_I _), (7, x_I _)]) ⟨rfl, rfl, rfl, rfl, rfl, rfl, rfl, rfl, trivial⟩ ?_
      refine x_fall ?_
      refine x_blk (b := 2) (a_40 E) rfl ?_
      unfold b_40_2
      refine x_aload rfl ?_
      refine x_push 0 rfl ?_
      refine x_iload rfl ?_
      refine x_iload rfl ?_
      refine x_cV (fun _ => rfl) rfl (by decide) (Nat.le_of_ble_eq_true rfl) ?_
      refine sf_30_4 (by omega) (by omega) (by omega) (by omega) (by omega) (by omega) C0 (fun v24 v24a v24b => ?_)
      refine x_istore ?_
      refine x_iload rfl ?_
      refine x_istore ?_
      refine x_X_lo (lo' := [(0, x_R 111), (1, x_R 4), (2, x_I _), (3, x_I _), (4, x_I _), (5, x_I _), (6, x_I _), (7, x_I _), (8, x_I _), (9, x_I _)]) ⟨rfl, rfl, rfl, rfl, rfl, rfl, rfl, rfl, rfl, rfl, trivial⟩ ?_
      refine x_push 2 rfl ?_
      refine x_istore ?_
      refine x_iload rfl ?_
      refine x_push 2 rfl ?_
      refine x_imul ?_
      refine x_iload rfl ?_
      refine x_iadd ?_
      refine x_push 3 rfl ?_
      refine x_imul ?_
      refine x_istore ?_
      refine x_X_lo (lo' := [(0, x_R 111), (1, x_R 4), (2, x_I _), (3, x_I _), (4, x_I _), (5, x_I _), (6, x_I _), (7, x_I _), (8, x_I _), (9, x_I _), (10, x_I _), (11, x_I _)]) ⟨rfl, rfl, rfl, rfl, rfl, rfl, rfl, rfl, rfl, rfl, rfl, rfl, trivial⟩ ?_
      refine x_push 0 rfl ?_
      refine x_istore ?_
      refine x_fall ?_
      refine x_G_lo (lo' := [(0, x_R 111), (6, x_I _), (7, x_I _), (9, x_I _), (10, x_I _), (11, x_I _), (12, x_I _)]) ⟨rfl, rfl, rfl, rfl, rfl, rfl, rfl, trivial⟩ ?_
      exact sf_40_111_4_b9 a2l a2h a3l a3h a4l a4h C0 k  _ _ _ _ _ _ _  rfl (by omega) (by omega) (by omega) (by omega) (by omega) (by omega) (by omega) (by omega) (by omega) (by omega) (by omega) (by omega)  
    · skip
      refine x_if_eq (by omega) (by omega) (fun z25 => ?_) (fun z => absurd (by omega) z)
      refine x_blk (b := 2) (a_40 E) rfl ?_
      unfold b_40_2
      refine x_aload rfl ?_
      refine x_push 0 rfl ?_
      refine x_iload rfl ?_
      refine x_iload rfl ?_
      refine x_cV (fun _ => rfl) rfl (by decide) (Nat.le_of_ble_eq_true rfl) ?_
      refine sf_30_4 (by omega) (by omega) (by omega) (by omega) (by omega) (by omega) C0 (fun v26 v26a v26b => ?_)
      refine x_istore ?_
      refine x_X_lo (lo' := [(0, x_R 111), (1, x_R 4), (2, x_I _), (3, x_I _), (4, x_I _), (5, x_I _), (6, x_I _), (7, x_I _), (8, x_I _)]) ⟨rfl, rfl, rfl, rfl, rfl, rfl, rfl, rfl, rfl, trivial⟩ ?_
      refine x_iload rfl ?_
      refine x_istore ?_
      refine x_push 2 rfl ?_
      refine x_istore ?_
      refine x_X_lo (lo' := [(0, x_R 111), (1, x_R 4), (2, x_I _), (3, x_I _), (4, x_I _), (5, x_I _), (6, x_I _), (7, x_I _), (8, x_I _), (9, x_I _), (10, x_I _)]) ⟨rfl, rfl, rfl, rfl, rfl, rfl, rfl, rfl, rfl, rfl, rfl, trivial⟩ ?_
      refine x_iload rfl ?_
      refine x_push 2 rfl ?_
      refine x_imul ?_
      refine x_iload rfl ?_
      refine x_iadd ?_
      refine x_push 3 rfl ?_
      refine x_imul ?_
      refine x_istore ?_
      refine x_push 0 rfl ?_
      refine x_istore ?_
      refine x_X_lo (lo' := [(0, x_R 111), (1, x_R 4), (2, x_I _), (3, x_I _), (4, x_I _), (5, x_I _), (6, x_I _), (7, x_I _), (8, x_I _), (9, x_I _), (10, x_I _), (11, x_I _), (12, x_I _)]) ⟨rfl, rfl, rfl, rfl, rfl, rfl, rfl, rfl, rfl, rfl, rfl, rfl, rfl, trivial⟩ ?_
      refine x_fall ?_
      refine x_G_lo (lo' := [(0, x_R 111), (6, x_I _), (7, x_I _), (9, x_I _), (10, x_I _), (11, x_I _), (12, x_I _)]) ⟨rfl, rfl, rfl, rfl, rfl, rfl, rfl, trivial⟩ ?_
      exact sf_40_111_4_b9 a2l a2h a3l a3h a4l a4h C0 k  _ _ _ _ _ _ _  rfl (by omega) (by omega) (by omega) (by omega) (by omega) (by omega) (by omega) (by omega) (by omega) (by omega) (by omega) (by omega)  
