theorem c_93d_a {E : q_E} {σ : x_S} {Q : Option q_V → x_S → Prop} {r : Int} (r1 : 0 ≤ r) (r2 : r < σ 140 62) (ru : σ 140 62 ≤ 16) (k : ∀ τ, y_sm [140] [] σ τ → τ 140 62 = σ 140 62 - 1 → (∀ m : Nat, m ≠ 62 → τ 140 m = if 63 + 12 * r.toNat ≤ m ∧ (m : Int) < 51 + 12 * σ 140 62 then σ 140 (m + 12) else σ 140 m) → Q none τ) : ∀ (N : Nat) (i : Int) (τ : x_S), 0 ≤ i → i ≤ 12 * σ 140 62 - 12 * (r + 1) → (12 * σ 140 62 - 12 * (r + 1) - i).toNat = N → y_sm [140] [] σ τ → (∀ m : Nat, τ 140 m = if 63 + 12 * r.toNat ≤ m ∧ (m : Int) < 63 + 12 * r + i then σ 140 (m + 12) else σ 140 m) → x_G E m_93 Q (t_93 4) [(0, x_R 138), (1, x_I (r + 1)), (2, x_I r), (3, x_I (63 + 12 * σ 140 62)), (4, x_I (12 * (r - (r + 1)))), (5, x_I (63 + 12 * (r + 1))), (6, x_I i)] [] τ := by
  intro N
  induction N using Nat.strongRecOn with
  | ind N ih =>
    intro i τ i1 i2 hN hsm hv
    refine x_blk (b := 4) (a_93 E) rfl ?_
    unfold b_93_4
    refine x_iload rfl ?_
    refine x_iload rfl ?_
    refine x_iload rfl ?_
    refine x_isub ?_
    refine x_icmp_ge (by omega) (by omega) (by omega) (by omega) (fun z1 => ?_) (fun z1 => ?_)
    · skip
      refine x_iload rfl ?_
      refine x_if_le (by omega) (by omega) (fun z2 => ?_) (fun z => absurd (by omega) z)
      refine x_blk (b := 2) (a_93 E) rfl ?_
      unfold b_93_2
      refine x_iload rfl ?_
      refine x_iload rfl ?_
      refine x_iadd ?_
      refine x_fall ?_
      refine x_blk (b := 3) (a_93 E) rfl ?_
      unfold b_93_3
      refine x_istore ?_
      refine x_aload rfl ?_
      refine x_getR (r := 138) rfl (by decide) (by decide) rfl ?_
      refine x_iload rfl ?_
      refine x_iload rfl ?_
      refine x_iadd ?_
      refine x_aload rfl ?_
      refine x_getR (r := 138) rfl (by decide) (by decide) rfl ?_
      refine x_iload rfl ?_
      refine x_iald (r := 140) (n := 256)  rfl rfl (by decide) (fun _ => rfl) rfl (by omega) (by omega) ?_
      intro g3a g3b
      refine x_ast (r := 140) (n := 256)  rfl rfl (by decide) (fun _ => rfl) rfl (by omega) (by omega) (by omega) (by omega) (fun S4 e4 => ?_)
      have w4 := x_up_at e4
      refine x_iinc 1 rfl rfl ?_
      refine x_goto ?_
      refine x_G_lo (lo' := [(0, x_R 138), (1, x_I (r + 1)), (2, x_I r), (3, x_I (63 + 12 * σ 140 62)), (4, x_I (12 * (r - (r + 1)))), (5, x_I (63 + 12 * (r + 1))), (6, x_I (i + 1))]) ⟨rfl, rfl, rfl, rfl, rfl, rfl, rfl, trivial⟩ ?_
      refine ih _ (by omega) (i + 1) S4 (by omega) (by omega) rfl (y_sm_tr hsm (y_sm_e e4 (Or.inl (by decide)))) (fun m => ?_)
      by_cases c : m = (63 + 12 * (r + 1) + i + 12 * (r - (r + 1))).toNat
      · subst c
        rw [w4, hv, if_neg (by omega), if_pos (by omega)]
        congr 1
        omega
      · rw [x_up_ne e4 (fun z => c z.2), hv]
        by_cases d : 63 + 12 * r.toNat ≤ m ∧ (m : Int) < 63 + 12 * r + i
        · rw [if_pos d, if_pos (by omega)]
        · rw [if_neg d, if_neg (by omega)]
    · skip
      refine x_blk (b := 1) (a_93 E) rfl ?_
      unfold b_93_1
      refine x_aload rfl ?_
      refine x_getR (r := 138) rfl (by decide) (by decide) rfl ?_
      refine x_push 62 rfl ?_
      refine x_dup2 rfl rfl ?_
      refine x_iald (r := 140) (n := 256) (m := 62) rfl rfl (by decide) (fun _ => rfl) rfl (by omega) (by omega) ?_
      intro g5a g5b
      have p62 := hv 62
      rw [if_neg (by omega)] at p62
      refine x_iload rfl ?_
      refine x_iload rfl ?_
      refine x_isub ?_
      refine x_iadd ?_
      refine x_ast (r := 140) (n := 256) (m := 62) rfl rfl (by decide) (fun _ => rfl) rfl (by omega) (by omega) (by omega) (by omega) (fun S6 e6 => ?_)
      have w6 := x_up_at e6
      refine x_vret ?_
      have q62 := hv 62
      rw [if_neg (by omega)] at q62
      refine k _ (y_sm_tr hsm (y_sm_e e6 (Or.inl (by decide)))) (by have := w6; omega) (fun m hm => ?_)
      rw [x_up_ne e6 (fun z => hm z.2), hv]
      by_cases d : 63 + 12 * r.toNat ≤ m ∧ (m : Int) < 63 + 12 * r + i
      · rw [if_pos d, if_pos (by omega)]
      · rw [if_neg d, if_neg (by omega)]
theorem c_93d {E : q_E} {σ : x_S} {Q : Option q_V → x_S → Prop} {r : Int} (r1 : 0 ≤ r) (r2 : r < σ 140 62) (ru : σ 140 62 ≤ 16) (k : ∀ τ, y_sm [140] [] σ τ → τ 140 62 = σ 140 62 - 1 → (∀ m : Nat, m ≠ 62 → τ 140 m = if 63 + 12 * r.toNat ≤ m ∧ (m : Int) < 51 + 12 * σ 140 62 then σ 140 (m + 12) else σ 140 m) → Q none τ) : x_P E 93 [x_R 138, x_I (r + 1), x_I r] σ Q := by
  refine x_Mt e_93 (h_93 E) (Nat.le_of_ble_eq_true rfl) t_93 rfl ?_
  refine x_blk (b := 0) (a_93 E) rfl ?_
  unfold b_93_0
  refine x_push 63 rfl ?_
  refine x_push 12 rfl ?_
  refine x_aload rfl ?_
  refine x_getR (r := 138) rfl (by decide) (by decide) rfl ?_
  refine x_push 62 rfl ?_
  refine x_iald (r := 140) (n := 256) (m := 62) rfl rfl (by decide) (fun _ => rfl) rfl (by omega) (by omega) ?_
  intro g1a g1b
  refine x_imul ?_
  refine x_iadd ?_
  refine x_istore ?_
  refine x_push 12 rfl ?_
  refine x_iload rfl ?_
  refine x_iload rfl ?_
  refine x_isub ?_
  refine x_imul ?_
  refine x_istore ?_
  refine x_X_lo (lo' := [(0, x_R 138), (1, x_I _), (2, x_I _), (3, x_I _), (4, x_I _)]) ⟨rfl, rfl, rfl, rfl, rfl, trivial⟩ ?_
  refine x_push 63 rfl ?_
  refine x_push 12 rfl ?_
  refine x_iload rfl ?_
  refine x_imul ?_
  refine x_iadd ?_
  refine x_istore ?_
  refine x_X_lo (lo' := [(0, x_R 138), (1, x_I _), (2, x_I _), (3, x_I _), (4, x_I _), (5, x_I _)]) ⟨rfl, rfl, rfl, rfl, rfl, rfl, trivial⟩ ?_
  refine x_push 0 rfl ?_
  refine x_istore ?_
  refine x_fall ?_
  refine x_G_lo (lo' := [(0, x_R 138), (1, x_I (r + 1)), (2, x_I r), (3, x_I (63 + 12 * σ 140 62)), (4, x_I (12 * (r - (r + 1)))), (5, x_I (63 + 12 * (r + 1))), (6, x_I 0)]) ⟨rfl, rfl, rfl, rfl, rfl, rfl, rfl, trivial⟩ ?_
  exact c_93d_a r1 r2 ru k _ 0 σ (by omega) (by omega) rfl y_sm_rf (fun m => by rw [if_neg (by omega)])
theorem c_93u_a {E : q_E} {σ : x_S} {Q : Option q_V → x_S → Prop} {t : Int} (t1 : 0 ≤ t) (t2 : t ≤ σ 140 62) (ru : σ 140 62 ≤ 15) (k : ∀ τ, y_sm [140] [] σ τ → τ 140 62 = σ 140 62 + 1 → (∀ m : Nat, m ≠ 62 → τ 140 m = if 75 + 12 * t.toNat ≤ m ∧ (m : Int) < 75 + 12 * σ 140 62 then σ 140 (m - 12) else σ 140 m) → Q none τ) : ∀ (N : Nat) (i : Int) (τ : x_S), 0 ≤ i → i ≤ 12 * σ 140 62 - 12 * t → (12 * σ 140 62 - 12 * t - i).toNat = N → y_sm [140] [] σ τ → (∀ m : Nat, τ 140 m = if 75 + 12 * σ 140 62 - i ≤ m ∧ (m : Int) < 75 + 12 * σ 140 62 then σ 140 (m - 12) else σ 140 m) → x_G E m_93 Q (t_93 4) [(0, x_R 138), (1, x_I t), (2, x_I (t + 1)), (3, x_I (63 + 12 * σ 140 62)), (4, x_I (12 * (t + 1 - t))), (5, x_I (63 + 12 * t)), (6, x_I i)] [] τ := by
  intro N
  induction N using Nat.strongRecOn with
  | ind N ih =>
    intro i τ i1 i2 hN hsm hv
    refine x_blk (b := 4) (a_93 E) rfl ?_
    unfold b_93_4
    refine x_iload rfl ?_
    refine x_iload rfl ?_
    refine x_iload rfl ?_
    refine x_isub ?_
    refine x_icmp_ge (by omega) (by omega) (by omega) (by omega) (fun z1 => ?_) (fun z1 => ?_)
    · skip
      refine x_iload rfl ?_
      refine x_if_le (by omega) (by omega) (fun z => absurd z (by omega)) (fun z2 => ?_)
      refine x_iload rfl ?_
      refine x_push 1 rfl ?_
      refine x_isub ?_
      refine x_iload rfl ?_
      refine x_isub ?_
      refine x_goto ?_
      refine x_blk (b := 3) (a_93 E) rfl ?_
      unfold b_93_3
      refine x_istore ?_
      refine x_aload rfl ?_
      refine x_getR (r := 138) rfl (by decide) (by decide) rfl ?_
      refine x_iload rfl ?_
      refine x_iload rfl ?_
      refine x_iadd ?_
      refine x_aload rfl ?_
      refine x_getR (r := 138) rfl (by decide) (by decide) rfl ?_
      refine x_iload rfl ?_
      refine x_iald (r := 140) (n := 256)  rfl rfl (by decide) (fun _ => rfl) rfl (by omega) (by omega) ?_
      intro g3a g3b
      refine x_ast (r := 140) (n := 256)  rfl rfl (by decide) (fun _ => rfl) rfl (by omega) (by omega) (by omega) (by omega) (fun S4 e4 => ?_)
      have w4 := x_up_at e4
      refine x_iinc 1 rfl rfl ?_
      refine x_goto ?_
      refine x_G_lo (lo' := [(0, x_R 138), (1, x_I t), (2, x_I (t + 1)), (3, x_I (63 + 12 * σ 140 62)), (4, x_I (12 * (t + 1 - t))), (5, x_I (63 + 12 * t)), (6, x_I (i + 1))]) ⟨rfl, rfl, rfl, rfl, rfl, rfl, rfl, trivial⟩ ?_
      refine ih _ (by omega) (i + 1) S4 (by omega) (by omega) rfl (y_sm_tr hsm (y_sm_e e4 (Or.inl (by decide)))) (fun m => ?_)
      by_cases c : m = (63 + 12 * σ 140 62 - 1 - i + 12 * (t + 1 - t)).toNat
      · subst c
        rw [w4, hv, if_neg (by omega), if_pos (by omega)]
        congr 1
        omega
      · rw [x_up_ne e4 (fun z => c z.2), hv]
        by_cases d : 75 + 12 * σ 140 62 - i ≤ m ∧ (m : Int) < 75 + 12 * σ 140 62
        · rw [if_pos d, if_pos (by omega)]
        · rw [if_neg d, if_neg (by omega)]
    · skip
      refine x_blk (b := 1) (a_93 E) rfl ?_
      unfold b_93_1
      refine x_aload rfl ?_
      refine x_getR (r := 138) rfl (by decide) (by decide) rfl ?_
      refine x_push 62 rfl ?_
      refine x_dup2 rfl rfl ?_
      refine x_iald (r := 140) (n := 256) (m := 62) rfl rfl (by decide) (fun _ => rfl) rfl (by omega) (by omega) ?_
      intro g5a g5b
      have p62 := hv 62
      rw [if_neg (by omega)] at p62
      refine x_iload rfl ?_
      refine x_iload rfl ?_
      refine x_isub ?_
      refine x_iadd ?_
      refine x_ast (r := 140) (n := 256) (m := 62) rfl rfl (by decide) (fun _ => rfl) rfl (by omega) (by omega) (by omega) (by omega) (fun S6 e6 => ?_)
      have w6 := x_up_at e6
      refine x_vret ?_
      have q62 := hv 62
      rw [if_neg (by omega)] at q62
      refine k _ (y_sm_tr hsm (y_sm_e e6 (Or.inl (by decide)))) (by have := w6; omega) (fun m hm => ?_)
      rw [x_up_ne e6 (fun z => hm z.2), hv]
      by_cases d : 75 + 12 * σ 140 62 - i ≤ m ∧ (m : Int) < 75 + 12 * σ 140 62
      · rw [if_pos d, if_pos (by omega)]
      · rw [if_neg d, if_neg (by omega)]
theorem c_93u {E : q_E} {σ : x_S} {Q : Option q_V → x_S → Prop} {t : Int} (t1 : 0 ≤ t) (t2 : t ≤ σ 140 62) (ru : σ 140 62 ≤ 15) (k : ∀ τ, y_sm [140] [] σ τ → τ 140 62 = σ 140 62 + 1 → (∀ m : Nat, m ≠ 62 → τ 140 m = if 75 + 12 * t.toNat ≤ m ∧ (m : Int) < 75 + 12 * σ 140 62 then σ 140 (m - 12) else σ 140 m) → Q none τ) : x_P E 93 [x_R 138, x_I t, x_I (t + 1)] σ Q := by
  refine x_Mt e_93 (h_93 E) (Nat.le_of_ble_eq_true rfl) t_93 rfl ?_
  refine x_blk (b := 0) (a_93 E) rfl ?_
  unfold b_93_0
  refine x_push 63 rfl ?_
  refine x_push 12 rfl ?_
  refine x_aload rfl ?_
  refine x_getR (r := 138) rfl (by decide) (by decide) rfl ?_
  refine x_push 62 rfl ?_
  refine x_iald (r := 140) (n := 256) (m := 62) rfl rfl (by decide) (fun _ => rfl) rfl (by omega) (by omega) ?_
  intro g1a g1b
  refine x_imul ?_
  refine x_iadd ?_
  refine x_istore ?_
  refine x_push 12 rfl ?_
  refine x_iload rfl ?_
  refine x_iload rfl ?_
  refine x_isub ?_
  refine x_imul ?_
  refine x_istore ?_
  refine x_X_lo (lo' := [(0, x_R 138), (1, x_I _), (2, x_I _), (3, x_I _), (4, x_I _)]) ⟨rfl, rfl, rfl, rfl, rfl, trivial⟩ ?_
  refine x_push 63 rfl ?_
  refine x_push 12 rfl ?_
  refine x_iload rfl ?_
  refine x_imul ?_
  refine x_iadd ?_
  refine x_istore ?_
  refine x_X_lo (lo' := [(0, x_R 138), (1, x_I _), (2, x_I _), (3, x_I _), (4, x_I _), (5, x_I _)]) ⟨rfl, rfl, rfl, rfl, rfl, rfl, trivial⟩ ?_
  refine x_push 0 rfl ?_
  refine x_istore ?_
  refine x_fall ?_
  refine x_G_lo (lo' := [(0, x_R 138), (1, x_I t), (2, x_I (t + 1)), (3, x_I (63 + 12 * σ 140 62)), (4, x_I (12 * (t + 1 - t))), (5, x_I (63 + 12 * t)), (6, x_I 0)]) ⟨rfl, rfl, rfl, rfl, rfl, rfl, rfl, trivial⟩ ?_
  exact c_93u_a t1 t2 ru k _ 0 σ (by omega) (by omega) rfl y_sm_rf (fun m => by rw [if_neg (by omega)])
