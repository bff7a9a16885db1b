theorem c_54_b {E : q_E} {σ : x_S} {Q : Option q_V → x_S → Prop} (k : ∀ τ, y_sm [141] [] σ τ → (∀ m : Nat, m < 256 → τ 141 m = if 2 ≤ m ∧ m < 5 then 1 else 0) → Q none τ) : ∀ (N : Nat) (i : Int) (τ : x_S), 0 ≤ i → i ≤ 3 → (3 - i).toNat = N → y_sm [141] [] σ τ → (∀ m : Nat, m < 256 → τ 141 m = if 2 ≤ m ∧ (m : Int) < 2 + i then 1 else 0) → x_G E m_54 Q (t_54 4) [(0, x_R 138), (1, x_I i)] [] τ := by
  intro N
  induction N using Nat.strongRecOn with
  | ind N ih =>
    intro i τ h1 h2 hN hsm hz
    refine x_blk (b := 4) (a_54 E) rfl ?_
    unfold b_54_4
    refine x_iload rfl ?_
    refine x_push 3 rfl ?_
    refine x_icmp_ge (by omega) (by omega) (by omega) (by omega) (fun z1 => ?_) (fun z1 => ?_)
    · skip
      refine x_aload rfl ?_
      refine x_getR (r := 138) rfl (by decide) (by decide) rfl ?_
      refine x_push 2 rfl ?_
      refine x_iload rfl ?_
      refine x_iadd ?_
      refine x_push 1 rfl ?_
      refine x_ast (r := 141) (n := 256)  rfl rfl (by decide) (fun _ => rfl) rfl (by omega) (by omega) (by omega) (by omega) (fun S2 e2 => ?_)
      have w2 := x_up_at e2
      refine x_iinc 1 rfl rfl ?_
      refine x_goto ?_
      refine x_G_lo (lo' := [(0, x_R 138), (1, x_I (i + 1))]) ⟨rfl, rfl, trivial⟩ ?_
      refine ih _ (by omega) (i + 1) _ (by omega) (by omega) rfl (y_sm_tr hsm (y_sm_e e2 (Or.inl (by decide)))) (fun m hm => ?_)
      by_cases c : m = (2 + i).toNat
      · rw [c, if_pos (by omega)]; exact w2
      · rw [x_up_ne e2 (fun z => c z.2), hz m hm]
        by_cases d : 2 ≤ m ∧ (m : Int) < 2 + i
        · rw [if_pos d, if_pos (by omega)]
        · rw [if_neg d, if_neg (by omega)]
    · skip
      refine x_blk (b := 3) (a_54 E) rfl ?_
      unfold b_54_3
      refine x_vret ?_
      refine k τ hsm (fun m hm => ?_)
      rw [hz m hm]
      by_cases d : 2 ≤ m ∧ m < 5
      · rw [if_pos d, if_pos (by omega)]
      · rw [if_neg d, if_neg (by omega)]
theorem c_54_a {E : q_E} {σ : x_S} {Q : Option q_V → x_S → Prop} (k : ∀ τ, y_sm [141] [] σ τ → (∀ m : Nat, m < 256 → τ 141 m = if 2 ≤ m ∧ m < 5 then 1 else 0) → Q none τ) : ∀ (N : Nat) (i : Int) (τ : x_S), 0 ≤ i → i ≤ 256 → (256 - i).toNat = N → y_sm [141] [] σ τ → (∀ m : Nat, (m : Int) < i → τ 141 m = 0) → x_G E m_54 Q (t_54 2) [(0, x_R 138), (1, x_I i)] [] τ := by
  intro N
  induction N using Nat.strongRecOn with
  | ind N ih =>
    intro i τ h1 h2 hN hsm hz
    refine x_blk (b := 2) (a_54 E) rfl ?_
    unfold b_54_2
    refine x_iload rfl ?_
    refine x_push 256 rfl ?_
    refine x_icmp_ge (by omega) (by omega) (by omega) (by omega) (fun z1 => ?_) (fun z1 => ?_)
    · skip
      refine x_aload rfl ?_
      refine x_getR (r := 138) rfl (by decide) (by decide) rfl ?_
      refine x_iload rfl ?_
      refine x_push 0 rfl ?_
      refine x_ast (r := 141) (n := 256)  rfl rfl (by decide) (fun _ => rfl) rfl (by omega) (by omega) (by omega) (by omega) (fun S2 e2 => ?_)
      have w2 := x_up_at e2
      refine x_iinc 1 rfl rfl ?_
      refine x_goto ?_
      refine x_G_lo (lo' := [(0, x_R 138), (1, x_I (i + 1))]) ⟨rfl, rfl, trivial⟩ ?_
      refine ih _ (by omega) (i + 1) _ (by omega) (by omega) rfl (y_sm_tr hsm (y_sm_e e2 (Or.inl (by decide)))) (fun m hm => ?_)
      by_cases c : m = i.toNat
      · rw [c]; exact w2
      · rw [x_up_ne e2 (fun z => c z.2)]; exact hz m (by omega)
    · skip
      refine x_blk (b := 1) (a_54 E) rfl ?_
      unfold b_54_1
      refine x_push 0 rfl ?_
      refine x_istore ?_
      refine x_fall ?_
      refine x_G_lo (lo' := [(0, x_R 138), (1, x_I 0)]) ⟨rfl, rfl, trivial⟩ ?_
      refine c_54_b k _ 0 τ (by omega) (by omega) rfl hsm (fun m hm => ?_)
      rw [if_neg (by omega)]
      exact hz m (by omega)
theorem c_54 {E : q_E} {σ : x_S} {Q : Option q_V → x_S → Prop} (k : ∀ τ, y_sm [141] [] σ τ → (∀ m : Nat, m < 256 → τ 141 m = if 2 ≤ m ∧ m < 5 then 1 else 0) → Q none τ) : x_P E 54 [x_R 138] σ Q := by
  refine x_Mt e_54 (h_54 E) (Nat.le_of_ble_eq_true rfl) t_54 rfl ?_
  refine x_blk (b := 0) (a_54 E) rfl ?_
  unfold b_54_0
  refine x_push 0 rfl ?_
  refine x_istore ?_
  refine x_fall ?_
  refine x_G_lo (lo' := [(0, x_R 138), (1, x_I 0)]) ⟨rfl, rfl, trivial⟩ ?_
  exact c_54_a k _ 0 σ (by omega) (by omega) rfl y_sm_rf (fun m hm => absurd hm (by omega))
theorem c_59_a {E : q_E} {σ : x_S} {Q : Option q_V → x_S → Prop} (k : ∀ τ, y_sm [140] [5, 7] σ τ → (∀ m : Nat, m < 256 → τ 140 m = σ 141 m) → τ 138 5 = 0 → τ 138 7 = 0 → Q none τ) : ∀ (N : Nat) (i : Int) (τ : x_S), 0 ≤ i → i ≤ 256 → (256 - i).toNat = N → y_sm [140] [5, 7] σ τ → (∀ m : Nat, (m : Int) < i → τ 140 m = σ 141 m) → x_G E m_59 Q (t_59 2) [(0, x_R 138), (1, x_I i)] [] τ := by
  intro N
  induction N using Nat.strongRecOn with
  | ind N ih =>
    intro i τ h1 h2 hN hsm hz
    refine x_blk (b := 2) (a_59 E) rfl ?_
    unfold b_59_2
    refine x_iload rfl ?_
    refine x_push 256 rfl ?_
    refine x_icmp_ge (by omega) (by omega) (by omega) (by omega) (fun z1 => ?_) (fun z1 => ?_)
    · skip
      refine x_aload rfl ?_
      refine x_getR (r := 138) rfl (by decide) (by decide) rfl ?_
      refine x_iload rfl ?_
      refine x_aload rfl ?_
      refine x_getR (r := 138) rfl (by decide) (by decide) rfl ?_
      refine x_iload rfl ?_
      refine x_iald (r := 141) (n := 256)  rfl rfl (by decide) (fun _ => rfl) rfl (by omega) (by omega) ?_
      intro g2a g2b
      refine x_ast (r := 140) (n := 256)  rfl rfl (by decide) (fun _ => rfl) rfl (by omega) (by omega) (by omega) (by omega) (fun S3 e3 => ?_)
      have w3 := x_up_at e3
      refine x_iinc 1 rfl rfl ?_
      refine x_goto ?_
      refine x_G_lo (lo' := [(0, x_R 138), (1, x_I (i + 1))]) ⟨rfl, rfl, trivial⟩ ?_
      refine ih _ (by omega) (i + 1) _ (by omega) (by omega) rfl (y_sm_tr hsm (y_sm_e e3 (Or.inl (by decide)))) (fun m hm => ?_)
      by_cases c : m = i.toNat
      · rw [c, w3]; exact y_sm_a hsm 141 (by decide) (by decide) _
      · rw [x_up_ne e3 (fun z => c z.2)]; exact hz m (by omega)
    · skip
      refine x_blk (b := 1) (a_59 E) rfl ?_
      unfold b_59_1
      refine x_aload rfl ?_
      refine x_push 0 rfl ?_
      refine x_putI (r := 138) rfl (by decide) (by decide) (by decide) rfl ⟨by decide, rfl⟩ (by omega) (by omega) (fun S4 e4 => ?_)
      have w4 := x_up_at e4
      refine x_aload rfl ?_
      refine x_push 0 rfl ?_
      refine x_putI (r := 138) rfl (by decide) (by decide) (by decide) rfl ⟨by decide, rfl⟩ (by omega) (by omega) (fun S5 e5 => ?_)
      have w5 := x_up_at e5
      refine x_vret ?_
      have q1 := x_up_ne e5 (r' := 138) (k' := 5) (by decide)
      exact k _ (y_sm_tr (y_sm_tr hsm (y_sm_e e4 (Or.inr ⟨rfl, by decide⟩))) (y_sm_e e5 (Or.inr ⟨rfl, by decide⟩))) (fun m hm => by rw [x_up_nr e5 (by decide), x_up_nr e4 (by decide)]; exact hz m (by omega)) (q1.trans w4) w5
theorem c_59 {E : q_E} {σ : x_S} {Q : Option q_V → x_S → Prop} (k : ∀ τ, y_sm [140] [5, 7] σ τ → (∀ m : Nat, m < 256 → τ 140 m = σ 141 m) → τ 138 5 = 0 → τ 138 7 = 0 → Q none τ) : x_P E 59 [x_R 138] σ Q := by
  refine x_Mt e_59 (h_59 E) (Nat.le_of_ble_eq_true rfl) t_59 rfl ?_
  refine x_blk (b := 0) (a_59 E) rfl ?_
  unfold b_59_0
  refine x_push 0 rfl ?_
  refine x_istore ?_
  refine x_fall ?_
  refine x_G_lo (lo' := [(0, x_R 138), (1, x_I 0)]) ⟨rfl, rfl, trivial⟩ ?_
  exact c_59_a k _ 0 σ (by omega) (by omega) rfl y_sm_rf (fun m hm => absurd hm (by omega))
theorem c_175_a {E : q_E} {σ : x_S} {Q : Option q_V → x_S → Prop} (ln1 : 0 ≤ σ 138 0) (ln2 : σ 138 0 ≤ 200) (s1 : 0 ≤ σ 138 8) (s2 : σ 138 8 ≤ σ 138 0) (hP : y_PI (σ 141)) (k1 : ∀ τ, y_sm [141] [8] σ τ → σ 138 8 ≤ τ 138 8 → τ 138 8 ≤ σ 138 0 → y_PI (τ 141) → Q (some (x_I 1)) τ) (k0 : ∀ τ, y_sm [141] [8] σ τ → σ 138 8 ≤ τ 138 8 → τ 138 8 ≤ σ 138 0 → Q (some (x_I 0)) τ) {t : Int} (t1 : 0 ≤ t) (t2 : t ≤ 2) : ∀ (N : Nat) (n o : Int) (τ : x_S), 0 ≤ n → n ≤ 11 → (11 - n).toNat = N → y_sm [141] [8] σ τ → σ 138 8 ≤ τ 138 8 → τ 138 8 ≤ σ 138 0 → y_PX t.toNat (τ 141) → o = y_op (fun v => τ 141 (5 + 11 * t.toNat + v)) n.toNat → (∀ m : Nat, m < n.toNat → 0 ≤ τ 141 (5 + 11 * t.toNat + m) ∧ τ 141 (5 + 11 * t.toNat + m) ≤ 4 ∧ 1 ≤ y_op (fun v => τ 141 (5 + 11 * t.toNat + v)) m) → 0 ≤ o → o ≤ n + 1 → (1 ≤ n ∨ o = 1) → x_G E m_175 Q (t_175 7) [(0, x_R 138), (1, x_I t), (2, x_I o), (3, x_I n)] [] τ := by
  intro N
  induction N using Nat.strongRecOn with
  | ind N ih =>
    intro n o τ n1 n2 hN hsm p1 p2 hX ho hA o1 o2 o3
    have l0 : τ 138 0 = σ 138 0 := hsm 138 0 (by decide) (by decide)
    refine x_blk (b := 7) (a_175 E) rfl ?_
    unfold b_175_7
    refine x_iload rfl ?_
    refine x_if_le (by omega) (by omega) (fun z1 => ?_) (fun z1 => ?_)
    · skip
      refine x_blk (b := 3) (a_175 E) rfl ?_
      unfold b_175_3
      refine x_aload rfl ?_
      refine x_getR (r := 138) rfl (by decide) (by decide) rfl ?_
      refine x_push 2 rfl ?_
      refine x_iload rfl ?_
      refine x_iadd ?_
      refine x_iload rfl ?_
      refine x_ast (r := 141) (n := 256)  rfl rfl (by decide) (fun _ => rfl) rfl (by omega) (by omega) (by omega) (by omega) (fun S2 e2 => ?_)
      have w2 := x_up_at e2
      refine x_push 1 rfl ?_
      refine x_zret (by first | decide | omega) ?_
      have q8 : S2 138 8 = τ 138 8 := x_up_nr e2 (by decide)
      refine k1 _ (y_sm_tr hsm (y_sm_e e2 (Or.inl (by decide)))) (by omega) (by omega) ?_
      refine y_PX_in (T := t.toNat) (y_PX_ext (by omega) (fun q h1 h2 h3 => ?_) hX) ?_
      · exact (x_up_ne e2 (fun z => absurd z.2 (by omega))).symm
      · have hsz : S2 141 (2 + t.toNat) = n := by rw [← w2]; congr 1; omega
        refine ⟨by rw [hsz]; omega, ?_⟩
        rw [hsz]
        refine y_tr_ext (fun i hi => (x_up_ne e2 (fun z => absurd z.2 (by omega))).symm) (p := fun v => τ 141 (5 + 11 * t.toNat + v)) ⟨hA, ?_⟩
        omega
    · skip
      refine x_iload rfl ?_
      refine x_push 11 rfl ?_
      refine x_icmp_ne (by omega) (by omega) (by omega) (by omega) (fun z3 => ?_) (fun z3 => ?_)
      · skip
        refine x_push (-1) rfl ?_
        refine x_goto ?_
        refine x_blk (b := 5) (a_175 E) rfl ?_
        unfold b_175_5
        refine x_istore ?_
        refine x_iload rfl ?_
        refine x_if_ge (by decide) (by decide) (fun _ => ?_) (fun z => absurd (by decide) z)
        refine x_push 0 rfl ?_
        refine x_zret (by first | decide | omega) ?_
        exact k0 _ hsm (by omega) (by omega)
      · skip
        refine x_blk (b := 4) (a_175 E) rfl ?_
        unfold b_175_4
        refine x_aload rfl ?_
        refine x_push 97 rfl ?_
        refine x_push 101 rfl ?_
        refine x_cV (fun _ => rfl) rfl (by decide) (Nat.le_of_ble_eq_true rfl) ?_
        refine c_112 (by omega) (by omega) (by omega) (by omega) (by omega) (by omega) (by omega) (by omega) (fun S5 f5 k5_a k5_b k5_c k5_d => ?_) (fun n5 => ?_)
        · have l5 : S5 138 0 = _ := f5 138 0 (by decide) (by decide)
          refine x_fall ?_
          refine x_blk (b := 5) (a_175 E) rfl ?_
          unfold b_175_5
          refine x_istore ?_
          refine x_iload rfl ?_
          refine x_if_ge (by omega) (by omega) (fun z => absurd z (by omega)) (fun _ => ?_)
          refine x_blk (b := 6) (a_175 E) rfl ?_
          unfold b_175_6
          refine x_aload rfl ?_
          refine x_getR (r := 138) rfl (by decide) (by decide) rfl ?_
          refine x_push 5 rfl ?_
          refine x_push 11 rfl ?_
          refine x_iload rfl ?_
          refine x_imul ?_
          refine x_iadd ?_
          refine x_iload rfl ?_
          refine x_iadd ?_
          refine x_iload rfl ?_
          refine x_ast (r := 141) (n := 256) (m := 5 + 11 * t.toNat + n.toNat) rfl rfl (by decide) (fun _ => rfl) (by omega) (by omega) (by omega) (by omega) (by omega) (fun S7 e7 => ?_)
          have w7 := x_up_at e7
          refine x_iload rfl ?_
          refine x_iload rfl ?_
          refine x_cS (fun _ => rfl) (Nat.le_of_ble_eq_true rfl) ?_
          refine c_0 (by omega) (by omega) ?_
          refine x_push 1 rfl ?_
          refine x_isub ?_
          refine x_iadd ?_
          refine x_istore ?_
          refine x_iinc 1 rfl rfl ?_
          refine x_goto ?_
          have hm : ∀ m, m < n.toNat → S7 141 (5 + 11 * t.toNat + m) = τ 141 (5 + 11 * t.toNat + m) := fun m hm => by
            rw [x_up_ne e7 (fun z => absurd z.2 (by omega))]; exact y_sm_a f5 141 (by decide) (by decide) _
          have hs8 : S7 138 8 = τ 138 8 + 1 := by rw [x_up_nr e7 (by decide)]; exact k5_a
          have hnn : (n + 1).toNat = n.toNat + 1 := by omega
          have hb := y_ch_b (y_tx τ (τ 138 8) - 97)
          refine x_G_lo (lo' := [(0, x_R 138), (1, x_I t), (2, x_I (o + (y_ch (y_tx τ (τ 138 8) - 97) - 1))), (3, x_I (n + 1))]) ⟨rfl, rfl, rfl, rfl, trivial⟩ ?_
          refine ih _ (by omega) (n + 1) (o + (y_ch (y_tx τ (τ 138 8) - 97) - 1)) S7 (by omega) (by omega) rfl (y_sm_tr (y_sm_tr hsm (y_sm_w (by decide) (by decide) f5)) (y_sm_e e7 (Or.inl (by decide)))) (by omega) (by omega) ?_ ?_ ?_ (by omega) (by omega) (by omega)
          · refine y_PX_ext (by omega) (fun q h1 h2 h3 => ?_) hX
            rw [x_up_ne e7 (fun z => absurd z.2 (by omega))]; exact (y_sm_a f5 141 (by decide) (by decide) _).symm
          · rw [hnn]; exact y_step ho hm w7 (by omega)
          · rw [hnn]; exact y_stepA ho (by omega) hm w7 (by omega) (by omega) hA
        · skip
          refine x_fall ?_
          refine x_blk (b := 5) (a_175 E) rfl ?_
          unfold b_175_5
          refine x_istore ?_
          refine x_iload rfl ?_
          refine x_if_ge (by decide) (by decide) (fun _ => ?_) (fun z => absurd (by decide) z)
          refine x_push 0 rfl ?_
          refine x_zret (by first | decide | omega) ?_
          exact k0 _ hsm (by omega) (by omega)
theorem c_175 {E : q_E} {σ : x_S} {Q : Option q_V → x_S → Prop} (ln1 : 0 ≤ σ 138 0) (ln2 : σ 138 0 ≤ 200) (s1 : 0 ≤ σ 138 8) (s2 : σ 138 8 ≤ σ 138 0) (hP : y_PI (σ 141)) (k1 : ∀ τ, y_sm [141] [8] σ τ → σ 138 8 ≤ τ 138 8 → τ 138 8 ≤ σ 138 0 → y_PI (τ 141) → Q (some (x_I 1)) τ) (k0 : ∀ τ, y_sm [141] [8] σ τ → σ 138 8 ≤ τ 138 8 → τ 138 8 ≤ σ 138 0 → Q (some (x_I 0)) τ) : x_P E 175 [x_R 138] σ Q := by
  refine x_Mt e_175 (h_175 E) (Nat.le_of_ble_eq_true rfl) t_175 rfl ?_
  refine x_blk (b := 0) (a_175 E) rfl ?_
  unfold b_175_0
  refine x_aload rfl ?_
  refine x_push 48 rfl ?_
  refine x_push 50 rfl ?_
  refine x_cV (fun _ => rfl) rfl (by decide) (Nat.le_of_ble_eq_true rfl) ?_
  refine c_112 (by omega) (by omega) (by omega) (by omega) (by omega) (by omega) (by omega) (by omega) (fun S1 f1 k1_a k1_b k1_c k1_d => ?_) (fun n1 => ?_)
  · have l1 : S1 138 0 = _ := f1 138 0 (by decide) (by decide)
    refine x_istore ?_
    refine x_iload rfl ?_
    refine x_if_lt (by omega) (by omega) (fun z => absurd z (by omega)) (fun _ => ?_)
    refine x_aload rfl ?_
    refine x_push 61 rfl ?_
    refine x_push 61 rfl ?_
    refine x_cV (fun _ => rfl) rfl (by decide) (Nat.le_of_ble_eq_true rfl) ?_
    refine c_112 (by omega) (by omega) (by omega) (by omega) (by omega) (by omega) (by omega) (by omega) (fun S3 f3 k3_a k3_b k3_c k3_d => ?_) (fun n3 => ?_)
    · have l3 : S3 138 0 = _ := f3 138 0 (by decide) (by decide)
      refine x_if_ge (by omega) (by omega) (fun z => absurd z (by omega)) (fun _ => ?_)
      refine x_blk (b := 2) (a_175 E) rfl ?_
      unfold b_175_2
      refine x_push 1 rfl ?_
      refine x_istore ?_
      refine x_push 0 rfl ?_
      refine x_istore ?_
      refine x_fall ?_
      refine x_G_lo (lo' := [(0, x_R 138), (1, x_I (y_tx σ (σ 138 8) - 48)), (2, x_I 1), (3, x_I 0)]) ⟨rfl, rfl, rfl, rfl, trivial⟩ ?_
      have q141 : ∀ m, S3 141 m = σ 141 m := fun m => (y_sm_a f3 141 (by decide) (by decide) m).trans (y_sm_a f1 141 (by decide) (by decide) m)
      refine c_175_a ln1 ln2 s1 s2 hP k1 k0 (by omega) (by omega) _ 0 1 S3 (by omega) (by omega) rfl (y_sm_tr (y_sm_tr y_sm_rf (y_sm_w (by decide) (by decide) f1)) (y_sm_w (by decide) (by decide) f3)) (by omega) (by omega) ?_ rfl (fun m hm => absurd hm (by omega)) (by omega) (by omega) (by omega)
      exact y_PX_ext (by omega) (fun q _ _ _ => (q141 q).symm) (y_PX_of hP)
    · skip
      refine x_if_ge (by decide) (by decide) (fun _ => ?_) (fun z => absurd (by decide) z)
      refine x_fall ?_
      refine x_blk (b := 1) (a_175 E) rfl ?_
      unfold b_175_1
      refine x_push 0 rfl ?_
      refine x_zret (by first | decide | omega) ?_
      exact k0 _ (y_sm_tr y_sm_rf (y_sm_w (by decide) (by decide) f1)) (by omega) (by omega)
  · skip
    refine x_istore ?_
    refine x_iload rfl ?_
    refine x_if_lt (by decide) (by decide) (fun _ => ?_) (fun z => absurd (by decide) z)
    refine x_blk (b := 1) (a_175 E) rfl ?_
    unfold b_175_1
    refine x_push 0 rfl ?_
    refine x_zret (by first | decide | omega) ?_
    exact k0 _ y_sm_rf (by omega) (by omega)
theorem c_176 {E : q_E} {σ : x_S} {Q : Option q_V → x_S → Prop} (ln1 : 0 ≤ σ 138 0) (ln2 : σ 138 0 ≤ 200) (s1 : 0 ≤ σ 138 8) (s2 : σ 138 8 ≤ σ 138 0) (hP : y_PI (σ 141)) (k1 : ∀ τ, y_sm [141] [8] σ τ → σ 138 8 ≤ τ 138 8 → τ 138 8 ≤ σ 138 0 → y_PI (τ 141) → Q (some (x_I 1)) τ) (k0 : ∀ τ, y_sm [141] [8] σ τ → σ 138 8 ≤ τ 138 8 → τ 138 8 ≤ σ 138 0 → Q (some (x_I 0)) τ) : x_P E 176 [x_R 138] σ Q := by
  refine x_Mt e_176 (h_176 E) (Nat.le_of_ble_eq_true rfl) t_176 rfl ?_
  refine x_blk (b := 0) (a_176 E) rfl ?_
  unfold b_176_0
  refine x_aload rfl ?_
  refine x_push 48 rfl ?_
  refine x_push 49 rfl ?_
  refine x_cV (fun _ => rfl) rfl (by decide) (Nat.le_of_ble_eq_true rfl) ?_
  refine c_112 (by omega) (by omega) (by omega) (by omega) (by omega) (by omega) (by omega) (by omega) (fun S1 f1 k1_a k1_b k1_c k1_d => ?_) (fun n1 => ?_)
  · have l1 : S1 138 0 = _ := f1 138 0 (by decide) (by decide)
    refine x_istore ?_
    refine x_iload rfl ?_
    refine x_if_ge (by omega) (by omega) (fun z => absurd z (by omega)) (fun _ => ?_)
    refine x_blk (b := 1) (a_176 E) rfl ?_
    unfold b_176_1
    refine x_aload rfl ?_
    refine x_push 48 rfl ?_
    refine x_push 51 rfl ?_
    refine x_cV (fun _ => rfl) rfl (by decide) (Nat.le_of_ble_eq_true rfl) ?_
    refine c_112 (by omega) (by omega) (by omega) (by omega) (by omega) (by omega) (by omega) (by omega) (fun S3 f3 k3_a k3_b k3_c k3_d => ?_) (fun n3 => ?_)
    · have l3 : S3 138 0 = _ := f3 138 0 (by decide) (by decide)
      refine x_fall ?_
      refine x_blk (b := 2) (a_176 E) rfl ?_
      unfold b_176_2
      refine x_istore ?_
      refine x_iload rfl ?_
      refine x_if_ge (by omega) (by omega) (fun z => absurd z (by omega)) (fun _ => ?_)
      refine x_blk (b := 3) (a_176 E) rfl ?_
      unfold b_176_3
      refine x_aload rfl ?_
      refine x_getR (r := 138) rfl (by decide) (by decide) rfl ?_
      refine x_iload rfl ?_
      refine x_iload rfl ?_
      refine x_ast (r := 141) (n := 256)  rfl rfl (by decide) (fun _ => rfl) rfl (by omega) (by omega) (by omega) (by omega) (fun S5 e5 => ?_)
      have w5 := x_up_at e5
      refine x_push 1 rfl ?_
      refine x_zret (by first | decide | omega) ?_
      have q8 : S5 138 8 = S3 138 8 := x_up_nr e5 (by decide)
      have q141 : ∀ m, S3 141 m = σ 141 m := fun m => (y_sm_a f3 141 (by decide) (by decide) m).trans (y_sm_a f1 141 (by decide) (by decide) m)
      refine k1 _ (y_sm_tr (y_sm_tr (y_sm_tr y_sm_rf (y_sm_w (by decide) (by decide) f1)) (y_sm_w (by decide) (by decide) f3)) (y_sm_e e5 (Or.inl (by decide)))) (by omega) (by omega) (y_PI_k (fun q h1 h2 => ?_) ?_ hP)
      · rw [x_up_ne e5 (fun z => absurd z.2 (by omega)), q141]
      · have hk := hP.1
        unfold y_PK at hk ⊢
        have c : (y_tx σ (σ 138 8) - 48).toNat = 0 ∨ (y_tx σ (σ 138 8) - 48).toNat = 1 := by omega
        rcases c with c | c
        · rw [c] at w5 e5
          have q1 := x_up_ne e5 (r' := 141) (k' := 1) (by decide)
          have q2 := q141 1
          omega
        · rw [c] at w5 e5
          have q1 := x_up_ne e5 (r' := 141) (k' := 0) (by decide)
          have q2 := q141 0
          omega
    · skip
      refine x_fall ?_
      refine x_blk (b := 2) (a_176 E) rfl ?_
      unfold b_176_2
      refine x_istore ?_
      refine x_iload rfl ?_
      refine x_if_ge (by decide) (by decide) (fun _ => ?_) (fun z => absurd (by decide) z)
      refine x_push 0 rfl ?_
      refine x_zret (by first | decide | omega) ?_
      exact k0 _ (y_sm_tr y_sm_rf (y_sm_w (by decide) (by decide) f1)) (by omega) (by omega)
  · skip
    refine x_istore ?_
    refine x_iload rfl ?_
    refine x_if_ge (by decide) (by decide) (fun _ => ?_) (fun z => absurd (by decide) z)
    refine x_push (-1) rfl ?_
    refine x_goto ?_
    refine x_blk (b := 2) (a_176 E) rfl ?_
    unfold b_176_2
    refine x_istore ?_
    refine x_iload rfl ?_
    refine x_if_ge (by decide) (by decide) (fun _ => ?_) (fun z => absurd (by decide) z)
    refine x_push 0 rfl ?_
    refine x_zret (by first | decide | omega) ?_
    exact k0 _ y_sm_rf (by omega) (by omega)
theorem c_177_a {E : q_E} {σ : x_S} {Q : Option q_V → x_S → Prop} (ln1 : 0 ≤ σ 138 0) (ln2 : σ 138 0 ≤ 200) (s1 : 0 ≤ σ 138 8) (s2 : σ 138 8 ≤ σ 138 0) (hP : y_PI (σ 141)) (k1 : ∀ τ, y_sm [141] [8] σ τ → σ 138 8 ≤ τ 138 8 → τ 138 8 ≤ σ 138 0 → y_PI (τ 141) → Q (some (x_I 1)) τ) (k0 : ∀ τ, y_sm [141] [8] σ τ → σ 138 8 ≤ τ 138 8 → τ 138 8 ≤ σ 138 0 → Q (some (x_I 0)) τ) {m f : Int} (m1 : 0 ≤ m) (m2 : m ≤ 1) (f1 : 0 ≤ f) (f2 : f ≤ 4) : ∀ (N : Nat) (i : Int) (τ : x_S), 0 ≤ i → i ≤ 4 → (4 - i).toNat = N → y_sm [141] [8] σ τ → σ 138 8 ≤ τ 138 8 → τ 138 8 ≤ σ 138 0 → y_PI (τ 141) → x_G E m_177 Q (t_177 7) [(0, x_R 138), (1, x_I m), (2, x_I f), (3, x_I i)] [] τ := by
  intro N
  induction N using Nat.strongRecOn with
  | ind N ih =>
    intro i τ i1 i2 hN hsm p1 p2 hI
    have l0 : τ 138 0 = σ 138 0 := hsm 138 0 (by decide) (by decide)
    refine x_blk (b := 7) (a_177 E) rfl ?_
    unfold b_177_7
    have hb := y_ch_b f
    have hw := y_pw_b (y_ch f)
    refine x_iload rfl ?_
    refine x_push 1 rfl ?_
    refine x_iload rfl ?_
    refine x_cS (fun _ => rfl) (Nat.le_of_ble_eq_true rfl) ?_
    refine c_0 (by omega) (by omega) ?_
    refine x_shl1 (by omega) (by omega) ?_
    refine x_icmp_ge (by omega) (by omega) (by omega) (by omega) (fun z2 => ?_) (fun z2 => ?_)
    · skip
      refine x_aload rfl ?_
      refine x_push 48 rfl ?_
      refine x_push 49 rfl ?_
      refine x_cV (fun _ => rfl) rfl (by decide) (Nat.le_of_ble_eq_true rfl) ?_
      refine c_112 (by omega) (by omega) (by omega) (by omega) (by omega) (by omega) (by omega) (by omega) (fun S3 f3 k3_a k3_b k3_c k3_d => ?_) (fun n3 => ?_)
      · have l3 : S3 138 0 = _ := f3 138 0 (by decide) (by decide)
        refine x_istore ?_
        refine x_iload rfl ?_
        refine x_if_ge (by omega) (by omega) (fun z => absurd z (by omega)) (fun _ => ?_)
        refine x_blk (b := 6) (a_177 E) rfl ?_
        unfold b_177_6
        have ht := y_tab_b m1 m2 f1 f2 i1 (by omega)
        refine x_aload rfl ?_
        refine x_getR (r := 138) rfl (by decide) (by decide) rfl ?_
        refine x_iload rfl ?_
        refine x_iload rfl ?_
        refine x_iload rfl ?_
        refine x_cS (fun _ => rfl) (Nat.le_of_ble_eq_true rfl) ?_
        refine c_17 (by omega) (by omega) ?_
        refine x_iload rfl ?_
        refine x_ast (r := 141) (n := 256)  rfl rfl (by decide) (fun _ => rfl) rfl (by omega) (by omega) (by omega) (by omega) (fun S6 e6 => ?_)
        have w6 := x_up_at e6
        refine x_iinc 1 rfl rfl ?_
        refine x_goto ?_
        have q8 : S6 138 8 = S3 138 8 := x_up_nr e6 (by decide)
        have q141 : ∀ m, S3 141 m = τ 141 m := fun m => y_sm_a f3 141 (by decide) (by decide) m
        refine x_G_lo (lo' := [(0, x_R 138), (1, x_I m), (2, x_I f), (3, x_I (i + 1))]) ⟨rfl, rfl, rfl, rfl, trivial⟩ ?_
        refine ih _ (by omega) (i + 1) S6 (by omega) (by omega) rfl (y_sm_tr (y_sm_tr hsm (y_sm_w (by decide) (by decide) f3)) (y_sm_e e6 (Or.inl (by decide)))) (by omega) (by omega) (y_PI_e (fun q h1 h2 => ?_) (fun q h1 h2 => ?_) hI)
        · rw [x_up_ne e6 (fun z => absurd z.2 (by omega)), q141]
        · by_cases c : q = (y_tab m f i).toNat
          · rw [c, w6]; omega
          · rw [x_up_ne e6 (fun z => c z.2), q141]; exact hI.2.2.1 q h1 h2
      · skip
        refine x_istore ?_
        refine x_iload rfl ?_
        refine x_if_ge (by decide) (by decide) (fun _ => ?_) (fun z => absurd (by decide) z)
        refine x_push 0 rfl ?_
        refine x_zret (by first | decide | omega) ?_
        exact k0 _ hsm (by omega) (by omega)
    · skip
      refine x_blk (b := 5) (a_177 E) rfl ?_
      unfold b_177_5
      refine x_push 1 rfl ?_
      refine x_zret (by first | decide | omega) ?_
      exact k1 _ hsm (by omega) (by omega) hI
theorem c_177 {E : q_E} {σ : x_S} {Q : Option q_V → x_S → Prop} (ln1 : 0 ≤ σ 138 0) (ln2 : σ 138 0 ≤ 200) (s1 : 0 ≤ σ 138 8) (s2 : σ 138 8 ≤ σ 138 0) (hP : y_PI (σ 141)) (k1 : ∀ τ, y_sm [141] [8] σ τ → σ 138 8 ≤ τ 138 8 → τ 138 8 ≤ σ 138 0 → y_PI (τ 141) → Q (some (x_I 1)) τ) (k0 : ∀ τ, y_sm [141] [8] σ τ → σ 138 8 ≤ τ 138 8 → τ 138 8 ≤ σ 138 0 → Q (some (x_I 0)) τ) : x_P E 177 [x_R 138] σ Q := by
  refine x_Mt e_177 (h_177 E) (Nat.le_of_ble_eq_true rfl) t_177 rfl ?_
  refine x_blk (b := 0) (a_177 E) rfl ?_
  unfold b_177_0
  refine x_aload rfl ?_
  refine x_push 48 rfl ?_
  refine x_push 49 rfl ?_
  refine x_cV (fun _ => rfl) rfl (by decide) (Nat.le_of_ble_eq_true rfl) ?_
  refine c_112 (by omega) (by omega) (by omega) (by omega) (by omega) (by omega) (by omega) (by omega) (fun S1 f1 k1_a k1_b k1_c k1_d => ?_) (fun n1 => ?_)
  · have l1 : S1 138 0 = _ := f1 138 0 (by decide) (by decide)
    refine x_istore ?_
    refine x_iload rfl ?_
    refine x_if_ge (by omega) (by omega) (fun z => absurd z (by omega)) (fun _ => ?_)
    refine x_blk (b := 1) (a_177 E) rfl ?_
    unfold b_177_1
    refine x_aload rfl ?_
    refine x_push 97 rfl ?_
    refine x_push 101 rfl ?_
    refine x_cV (fun _ => rfl) rfl (by decide) (Nat.le_of_ble_eq_true rfl) ?_
    refine c_112 (by omega) (by omega) (by omega) (by omega) (by omega) (by omega) (by omega) (by omega) (fun S3 f3 k3_a k3_b k3_c k3_d => ?_) (fun n3 => ?_)
    · have l3 : S3 138 0 = _ := f3 138 0 (by decide) (by decide)
      refine x_fall ?_
      refine x_blk (b := 2) (a_177 E) rfl ?_
      unfold b_177_2
      refine x_istore ?_
      refine x_iload rfl ?_
      refine x_if_lt (by omega) (by omega) (fun z => absurd z (by omega)) (fun _ => ?_)
      refine x_aload rfl ?_
      refine x_push 61 rfl ?_
      refine x_push 61 rfl ?_
      refine x_cV (fun _ => rfl) rfl (by decide) (Nat.le_of_ble_eq_true rfl) ?_
      refine c_112 (by omega) (by omega) (by omega) (by omega) (by omega) (by omega) (by omega) (by omega) (fun S5 f5 k5_a k5_b k5_c k5_d => ?_) (fun n5 => ?_)
      · have l5 : S5 138 0 = _ := f5 138 0 (by decide) (by decide)
        refine x_if_ge (by omega) (by omega) (fun z => absurd z (by omega)) (fun _ => ?_)
        refine x_blk (b := 4) (a_177 E) rfl ?_
        unfold b_177_4
        refine x_push 0 rfl ?_
        refine x_istore ?_
        refine x_fall ?_
        refine x_G_lo (lo' := [(0, x_R 138), (1, x_I (y_tx σ (σ 138 8) - 48)), (2, x_I (y_tx S1 (S1 138 8) - 97)), (3, x_I 0)]) ⟨rfl, rfl, rfl, rfl, trivial⟩ ?_
        refine c_177_a ln1 ln2 s1 s2 hP k1 k0 (by omega) (by omega) (by omega) (by omega) _ 0 S5 (by omega) (by omega) rfl (y_sm_tr (y_sm_tr (y_sm_tr y_sm_rf (y_sm_w (by decide) (by decide) f1)) (y_sm_w (by decide) (by decide) f3)) (y_sm_w (by decide) (by decide) f5)) (by omega) (by omega) ?_
        exact y_PI_ext (fun q _ => ((y_sm_a f5 141 (by decide) (by decide) q).trans ((y_sm_a f3 141 (by decide) (by decide) q).trans (y_sm_a f1 141 (by decide) (by decide) q))).symm) hP
      · skip
        refine x_if_ge (by decide) (by decide) (fun _ => ?_) (fun z => absurd (by decide) z)
        refine x_fall ?_
        refine x_blk (b := 3) (a_177 E) rfl ?_
        unfold b_177_3
        refine x_push 0 rfl ?_
        refine x_zret (by first | decide | omega) ?_
        exact k0 _ (y_sm_tr (y_sm_tr y_sm_rf (y_sm_w (by decide) (by decide) f1)) (y_sm_w (by decide) (by decide) f3)) (by omega) (by omega)
    · skip
      refine x_fall ?_
      refine x_blk (b := 2) (a_177 E) rfl ?_
      unfold b_177_2
      refine x_istore ?_
      refine x_iload rfl ?_
      refine x_if_lt (by decide) (by decide) (fun _ => ?_) (fun z => absurd (by decide) z)
      refine x_blk (b := 3) (a_177 E) rfl ?_
      unfold b_177_3
      refine x_push 0 rfl ?_
      refine x_zret (by first | decide | omega) ?_
      exact k0 _ (y_sm_tr y_sm_rf (y_sm_w (by decide) (by decide) f1)) (by omega) (by omega)
  · skip
    refine x_istore ?_
    refine x_iload rfl ?_
    refine x_if_ge (by decide) (by decide) (fun _ => ?_) (fun z => absurd (by decide) z)
    refine x_push (-1) rfl ?_
    refine x_goto ?_
    refine x_blk (b := 2) (a_177 E) rfl ?_
    unfold b_177_2
    refine x_istore ?_
    refine x_iload rfl ?_
    refine x_if_lt (by decide) (by decide) (fun _ => ?_) (fun z => absurd (by decide) z)
    refine x_blk (b := 3) (a_177 E) rfl ?_
    unfold b_177_3
    refine x_push 0 rfl ?_
    refine x_zret (by first | decide | omega) ?_
    exact k0 _ y_sm_rf (by omega) (by omega)

