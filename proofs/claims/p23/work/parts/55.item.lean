theorem c_178_a {E : q_E} {σ : x_S} {Q : Option q_V → x_S → Prop} (hP : y_PI (σ 141)) (hT : y_rl (σ 144)) (hc : σ 141 62 < 16) (k1 : ∀ τ, y_sm [141] [] σ τ → τ 138 8 = σ 138 8 → y_PI (τ 141) → Q (some (x_I 1)) τ) : ∀ (N : Nat) (i : Int) (τ : x_S), 0 ≤ i → i ≤ 12 → (12 - i).toNat = N → y_sm [141] [] σ τ → (∀ m : Nat, ¬ (63 + 12 * (σ 141 62).toNat ≤ m ∧ m < 75 + 12 * (σ 141 62).toNat) → m < 256 → τ 141 m = σ 141 m) → (∀ m : Nat, (m : Int) < i → (m : Int) < 5 + σ 144 4 → τ 141 (63 + 12 * (σ 141 62).toNat + m) = σ 144 m) → x_G E m_178 Q (t_178 6) [(0, x_R 138), (1, x_I i)] [] τ := by
  intro N
  induction N using Nat.strongRecOn with
  | ind N ih =>
    intro i τ i1 i2 hN hsm hu hv
    have h0 := hP.2.2.2.1
    have h4 := hT.2.2.2.2.1
    have q62 : τ 141 62 = σ 141 62 := hu 62 (by omega) (by omega)
    have t144 : ∀ m, τ 144 m = σ 144 m := fun m => y_sm_a hsm 144 (by decide) (by decide) m
    have t4 := t144 4
    refine x_blk (b := 6) (a_178 E) rfl ?_
    unfold b_178_6
    refine x_iload rfl ?_
    refine x_push 12 rfl ?_
    refine x_icmp_ge (by omega) (by omega) (by omega) (by omega) (fun z1 => ?_) (fun z1 => ?_)
    · skip
      refine x_aload rfl ?_
      refine x_getR (r := 138) rfl (by decide) (by decide) rfl ?_
      refine x_push 63 rfl ?_
      refine x_push 12 rfl ?_
      refine x_aload rfl ?_
      refine x_getR (r := 138) rfl (by decide) (by decide) rfl ?_
      refine x_push 62 rfl ?_
      refine x_iald (r := 141) (n := 256) (m := 62) rfl rfl (by decide) (fun _ => rfl) rfl (by omega) (by omega) ?_
      intro g2a g2b
      refine x_imul ?_
      refine x_iadd ?_
      refine x_iload rfl ?_
      refine x_iadd ?_
      refine x_iload rfl ?_
      refine x_push 5 rfl ?_
      refine x_aload rfl ?_
      refine x_getR (r := 138) rfl (by decide) (by decide) rfl ?_
      refine x_push 4 rfl ?_
      refine x_iald (r := 144) (n := 12) (m := 4) rfl rfl (by decide) (fun _ => rfl) rfl (by omega) (by omega) ?_
      intro g3a g3b
      refine x_iadd ?_
      refine x_icmp_ge (by omega) (by omega) (by omega) (by omega) (fun z4 => ?_) (fun z4 => ?_)
      · skip
        refine x_aload rfl ?_
        refine x_getR (r := 138) rfl (by decide) (by decide) rfl ?_
        refine x_iload rfl ?_
        refine x_iald (r := 144) (n := 12)  rfl rfl (by decide) (fun _ => rfl) rfl (by omega) (by omega) ?_
        intro g5a g5b
        refine x_goto ?_
        refine x_blk (b := 5) (a_178 E) rfl ?_
        unfold b_178_5
        refine x_ast (r := 141) (n := 256)  rfl rfl (by decide) (fun _ => rfl) rfl (by omega) (by omega) (by omega) (by omega) (fun S6 e6 => ?_)
        have w6 := x_up_at e6
        refine x_iinc 1 rfl rfl ?_
        refine x_goto ?_
        rw [q62] at w6 e6
        refine x_G_lo (lo' := [(0, x_R 138), (1, x_I (i + 1))]) ⟨rfl, rfl, trivial⟩ ?_
        refine ih _ (by omega) (i + 1) S6 (by omega) (by omega) rfl (y_sm_tr hsm (y_sm_e e6 (Or.inl (by decide)))) (fun m h1 h2 => ?_) (fun m hm hm2 => ?_)
        · rw [x_up_ne e6 (fun z => absurd z.2 (by omega))]; exact hu m h1 h2
        · by_cases c : m = i.toNat
          · rw [c, ← show (63 + 12 * σ 141 62 + i).toNat = 63 + 12 * (σ 141 62).toNat + i.toNat by omega, w6]
            first | (exact t144 _) | (exact absurd hm2 (by omega))
          · rw [x_up_ne e6 (fun z => absurd z.2 (by omega))]; exact hv m (by omega) hm2
      · skip
        refine x_blk (b := 4) (a_178 E) rfl ?_
        unfold b_178_4
        refine x_push 0 rfl ?_
        refine x_fall ?_
        refine x_blk (b := 5) (a_178 E) rfl ?_
        unfold b_178_5
        refine x_ast (r := 141) (n := 256)  rfl rfl (by decide) (fun _ => rfl) rfl (by omega) (by omega) (by omega) (by omega) (fun S7 e7 => ?_)
        have w7 := x_up_at e7
        refine x_iinc 1 rfl rfl ?_
        refine x_goto ?_
        rw [q62] at w7 e7
        refine x_G_lo (lo' := [(0, x_R 138), (1, x_I (i + 1))]) ⟨rfl, rfl, trivial⟩ ?_
        refine ih _ (by omega) (i + 1) S7 (by omega) (by omega) rfl (y_sm_tr hsm (y_sm_e e7 (Or.inl (by decide)))) (fun m h1 h2 => ?_) (fun m hm hm2 => ?_)
        · rw [x_up_ne e7 (fun z => absurd z.2 (by omega))]; exact hu m h1 h2
        · by_cases c : m = i.toNat
          · rw [c, ← show (63 + 12 * σ 141 62 + i).toNat = 63 + 12 * (σ 141 62).toNat + i.toNat by omega, w7]
            first | (exact t144 _) | (exact absurd hm2 (by omega))
          · rw [x_up_ne e7 (fun z => absurd z.2 (by omega))]; exact hv m (by omega) hm2
    · skip
      refine x_blk (b := 3) (a_178 E) rfl ?_
      unfold b_178_3
      refine x_aload rfl ?_
      refine x_getR (r := 138) rfl (by decide) (by decide) rfl ?_
      refine x_push 62 rfl ?_
      refine x_dup2 rfl rfl ?_
      refine x_iald (r := 141) (n := 256) (m := 62) rfl rfl (by decide) (fun _ => rfl) rfl (by omega) (by omega) ?_
      intro g8a g8b
      refine x_push 1 rfl ?_
      refine x_iadd ?_
      refine x_ast (r := 141) (n := 256) (m := 62) rfl rfl (by decide) (fun _ => rfl) rfl (by omega) (by omega) (by omega) (by omega) (fun S9 e9 => ?_)
      have w9 := x_up_at e9
      refine x_push 1 rfl ?_
      refine x_zret (by first | decide | omega) ?_
      refine k1 _ (y_sm_tr hsm (y_sm_e e9 (Or.inl (by decide)))) (by rw [x_up_nr e9 (by decide)]; exact hsm 138 8 (by decide) (by decide)) (y_PI_r (fun q hq => ?_) ?_ hP)
      · rw [x_up_ne e9 (fun z => absurd z.2 (by omega))]; exact (hu q (by omega) (by omega)).symm
      · have hc : S9 141 62 = σ 141 62 + 1 := by omega
        refine ⟨by omega, fun r hr => ?_⟩
        have hr4 := hT.2.2.2.2.1
        by_cases c : r = (σ 141 62).toNat
        · refine y_rl_ext (p := σ 144) (fun m hm => ?_) hT
          rw [x_up_ne e9 (fun z => absurd z.2 (by omega)), c]
          exact (hv m (by omega) (by omega)).symm
        · refine y_rl_ext (p := fun k => σ 141 (63 + 12 * r + k)) (fun m hm => ?_) (hP.2.2.2.2 r (by omega))
          have hr5 : 1 ≤ σ 141 (63 + 12 * r + 4) ∧ σ 141 (63 + 12 * r + 4) ≤ 7 := (hP.2.2.2.2 r (by omega)).2.2.2.2.1
          have hm : m < 5 + (σ 141 (63 + 12 * r + 4)).toNat := hm
          rw [x_up_ne e9 (fun z => absurd z.2 (by omega))]
          exact (hu _ (by omega) (by omega)).symm
theorem c_178 {E : q_E} {σ : x_S} {Q : Option q_V → x_S → Prop} (ln1 : 0 ≤ σ 138 0) (ln2 : σ 138 0 ≤ 200) (s1 : 0 ≤ σ 138 8) (s2 : σ 138 8 ≤ σ 138 0) (hP : y_PI (σ 141)) (k1 : ∀ τ, y_sm [141, 144] [8] σ τ → σ 138 8 ≤ τ 138 8 → τ 138 8 ≤ σ 138 0 → y_PI (τ 141) → Q (some (x_I 1)) τ) (k0 : ∀ τ, y_sm [141, 144] [8] σ τ → σ 138 8 ≤ τ 138 8 → τ 138 8 ≤ σ 138 0 → Q (some (x_I 0)) τ) : x_P E 178 [x_R 138] σ Q := by
  refine x_Mt e_178 (h_178 E) (Nat.le_of_ble_eq_true rfl) t_178 rfl ?_
  refine x_blk (b := 0) (a_178 E) rfl ?_
  unfold b_178_0
  have h0 := hP.2.2.2.1
  refine x_aload rfl ?_
  refine x_getR (r := 138) rfl (by decide) (by decide) rfl ?_
  refine x_push 62 rfl ?_
  refine x_iald (r := 141) (n := 256) (m := 62) rfl rfl (by decide) (fun _ => rfl) rfl (by omega) (by omega) ?_
  intro g1a g1b
  refine x_push 16 rfl ?_
  refine x_icmp_eq (by omega) (by omega) (by omega) (by omega) (fun z2 => ?_) (fun z2 => ?_)
  · skip
    refine x_blk (b := 1) (a_178 E) rfl ?_
    unfold b_178_1
    refine x_push 0 rfl ?_
    refine x_zret (by first | decide | omega) ?_
    exact k0 _ y_sm_rf (by omega) (by omega)
  · skip
    refine x_aload rfl ?_
    refine x_cV (fun _ => rfl) rfl (by decide) (Nat.le_of_ble_eq_true rfl) ?_
    refine c_113 (by omega) (by omega) (by omega) (by omega) (fun S3 f3 k3_a k3_b k3_c => ?_) (fun S3 f3 k3_a k3_b => ?_)
    · have l3 : S3 138 0 = _ := f3 138 0 (by decide) (by decide)
      refine x_if_ne (by decide) (by decide) (fun z => absurd z (by decide)) (fun _ => ?_)
      refine x_blk (b := 2) (a_178 E) rfl ?_
      unfold b_178_2
      refine x_push 0 rfl ?_
      refine x_istore ?_
      refine x_fall ?_
      refine x_G_lo (lo' := [(0, x_R 138), (1, x_I 0)]) ⟨rfl, rfl, trivial⟩ ?_
      have q141 : ∀ m, S3 141 m = σ 141 m := fun m => y_sm_a f3 141 (by decide) (by decide) m
      have q62 := q141 62
      refine c_178_a (σ := S3) (y_PI_ext (fun q _ => (q141 q).symm) hP) k3_c (by omega) (fun τ' h1 h2 h3 => ?_) _ 0 S3 (by omega) (by omega) rfl y_sm_rf (fun m _ _ => rfl) (fun m hm => absurd hm (by omega))
      exact k1 τ' (y_sm_tr (y_sm_w (by decide) (by decide) f3) (y_sm_w (by decide) (by decide) h1)) (by omega) (by omega) h3
    · have l3 : S3 138 0 = _ := f3 138 0 (by decide) (by decide)
      refine x_if_ne (by decide) (by decide) (fun _ => ?_) (fun z => absurd (by decide) z)
      refine x_fall ?_
      refine x_blk (b := 1) (a_178 E) rfl ?_
      unfold b_178_1
      refine x_push 0 rfl ?_
      refine x_zret (by first | decide | omega) ?_
      exact k0 _ (y_sm_tr y_sm_rf (y_sm_w (by decide) (by decide) f3)) (by omega) (by omega)
theorem c_174 {E : q_E} {σ : x_S} {Q : Option q_V → x_S → Prop} (ln1 : 0 ≤ σ 138 0) (ln2 : σ 138 0 ≤ 200) (s1 : 0 ≤ σ 138 8) (s2 : σ 138 8 < σ 138 0) (hP : y_PI (σ 141)) (k1 : ∀ τ, y_sm [141, 144] [8] σ τ → σ 138 8 < τ 138 8 → τ 138 8 ≤ σ 138 0 → y_PI (τ 141) → Q (some (x_I 1)) τ) (k0 : ∀ τ, y_sm [141, 144] [8] σ τ → σ 138 8 < τ 138 8 → τ 138 8 ≤ σ 138 0 → Q (some (x_I 0)) τ) : x_P E 174 [x_R 138] σ Q := by
  refine x_Mt e_174 (h_174 E) (Nat.le_of_ble_eq_true rfl) t_174 rfl ?_
  refine x_blk (b := 0) (a_174 E) rfl ?_
  unfold b_174_0
  refine x_aload rfl ?_
  refine x_aload rfl ?_
  refine x_getI (r := 138) rfl (by decide) (by decide) (by decide) rfl ?_
  intro g1a g1b
  refine x_cV (fun _ => rfl) rfl (by decide) (Nat.le_of_ble_eq_true rfl) ?_
  refine c_111 (by omega) (by omega) (by omega) (by omega) (fun t2a t2b => ?_)
  refine x_istore ?_
  refine x_aload rfl ?_
  refine x_dup rfl ?_
  refine x_getI (r := 138) rfl (by decide) (by decide) (by decide) rfl ?_
  intro g3a g3b
  refine x_push 1 rfl ?_
  refine x_iadd ?_
  refine x_putI (r := 138) rfl (by decide) (by decide) (by decide) rfl ⟨by decide, rfl⟩ (by omega) (by omega) (fun S4 e4 => ?_)
  have w4 := x_up_at e4
  have hP4 : y_PI (S4 141) := y_PI_ext (fun q _ => (x_up_nr e4 (by decide)).symm) hP
  have l4 : S4 138 0 = σ 138 0 := x_up_ne e4 (by decide)
  refine x_iload rfl ?_
  refine x_tsw (109) rfl rfl (by omega) (by omega) (fun z5 => ?_) (fun i5 b5 hb5 z5 => ?_) (fun z5 => ?_)
  · skip
    refine x_blk (b := 2) (a_174 E) rfl ?_
    unfold b_174_2
    refine x_push 0 rfl ?_
    refine x_zret (by first | decide | omega) ?_
    exact k0 _ (y_sm_tr y_sm_rf (y_sm_e e4 (Or.inr ⟨rfl, by decide⟩))) (by omega) (by omega)
  · match i5, hb5 with
    | 0, hb5 =>
      cases hb5
      refine x_blk (b := 1) (a_174 E) rfl ?_
      unfold b_174_1
      refine x_aload rfl ?_
      refine x_cV (fun _ => rfl) rfl (by decide) (Nat.le_of_ble_eq_true rfl) ?_
      refine c_177 (by omega) (by omega) (by omega) (by omega) (by assumption) (fun S6 f6 k6_a k6_b k6_c => ?_) (fun S6 f6 k6_a k6_b => ?_)
      · have l6 : S6 138 0 = _ := f6 138 0 (by decide) (by decide)
        refine x_zret (by first | decide | omega) ?_
        exact k1 _ (y_sm_tr (y_sm_tr y_sm_rf (y_sm_e e4 (Or.inr ⟨rfl, by decide⟩))) (y_sm_w (by decide) (by decide) f6)) (by omega) (by omega) (by assumption)
      · have l6 : S6 138 0 = _ := f6 138 0 (by decide) (by decide)
        refine x_zret (by first | decide | omega) ?_
        exact k0 _ (y_sm_tr (y_sm_tr y_sm_rf (y_sm_e e4 (Or.inr ⟨rfl, by decide⟩))) (y_sm_w (by decide) (by decide) f6)) (by omega) (by omega)
    | 1, hb5 =>
      cases hb5
      refine x_blk (b := 2) (a_174 E) rfl ?_
      unfold b_174_2
      refine x_push 0 rfl ?_
      refine x_zret (by first | decide | omega) ?_
      exact k0 _ (y_sm_tr y_sm_rf (y_sm_e e4 (Or.inr ⟨rfl, by decide⟩))) (by omega) (by omega)
    | 2, hb5 =>
      cases hb5
      refine x_blk (b := 2) (a_174 E) rfl ?_
      unfold b_174_2
      refine x_push 0 rfl ?_
      refine x_zret (by first | decide | omega) ?_
      exact k0 _ (y_sm_tr y_sm_rf (y_sm_e e4 (Or.inr ⟨rfl, by decide⟩))) (by omega) (by omega)
    | 3, hb5 =>
      cases hb5
      refine x_blk (b := 3) (a_174 E) rfl ?_
      unfold b_174_3
      refine x_aload rfl ?_
      refine x_cV (fun _ => rfl) rfl (by decide) (Nat.le_of_ble_eq_true rfl) ?_
      refine c_176 (by omega) (by omega) (by omega) (by omega) (by assumption) (fun S7 f7 k7_a k7_b k7_c => ?_) (fun S7 f7 k7_a k7_b => ?_)
      · have l7 : S7 138 0 = _ := f7 138 0 (by decide) (by decide)
        refine x_zret (by first | decide | omega) ?_
        exact k1 _ (y_sm_tr (y_sm_tr y_sm_rf (y_sm_e e4 (Or.inr ⟨rfl, by decide⟩))) (y_sm_w (by decide) (by decide) f7)) (by omega) (by omega) (by assumption)
      · have l7 : S7 138 0 = _ := f7 138 0 (by decide) (by decide)
        refine x_zret (by first | decide | omega) ?_
        exact k0 _ (y_sm_tr (y_sm_tr y_sm_rf (y_sm_e e4 (Or.inr ⟨rfl, by decide⟩))) (y_sm_w (by decide) (by decide) f7)) (by omega) (by omega)
    | 4, hb5 =>
      cases hb5
      refine x_blk (b := 2) (a_174 E) rfl ?_
      unfold b_174_2
      refine x_push 0 rfl ?_
      refine x_zret (by first | decide | omega) ?_
      exact k0 _ (y_sm_tr y_sm_rf (y_sm_e e4 (Or.inr ⟨rfl, by decide⟩))) (by omega) (by omega)
    | 5, hb5 =>
      cases hb5
      refine x_blk (b := 4) (a_174 E) rfl ?_
      unfold b_174_4
      refine x_aload rfl ?_
      refine x_cV (fun _ => rfl) rfl (by decide) (Nat.le_of_ble_eq_true rfl) ?_
      refine c_178 (by omega) (by omega) (by omega) (by omega) (by assumption) (fun S8 f8 k8_a k8_b k8_c => ?_) (fun S8 f8 k8_a k8_b => ?_)
      · have l8 : S8 138 0 = _ := f8 138 0 (by decide) (by decide)
        refine x_zret (by first | decide | omega) ?_
        exact k1 _ (y_sm_tr (y_sm_tr y_sm_rf (y_sm_e e4 (Or.inr ⟨rfl, by decide⟩))) (y_sm_w (by decide) (by decide) f8)) (by omega) (by omega) (by assumption)
      · have l8 : S8 138 0 = _ := f8 138 0 (by decide) (by decide)
        refine x_zret (by first | decide | omega) ?_
        exact k0 _ (y_sm_tr (y_sm_tr y_sm_rf (y_sm_e e4 (Or.inr ⟨rfl, by decide⟩))) (y_sm_w (by decide) (by decide) f8)) (by omega) (by omega)
    | 6, hb5 =>
      cases hb5
      refine x_blk (b := 2) (a_174 E) rfl ?_
      unfold b_174_2
      refine x_push 0 rfl ?_
      refine x_zret (by first | decide | omega) ?_
      exact k0 _ (y_sm_tr y_sm_rf (y_sm_e e4 (Or.inr ⟨rfl, by decide⟩))) (by omega) (by omega)
    | 7, hb5 =>
      cases hb5
      refine x_blk (b := 5) (a_174 E) rfl ?_
      unfold b_174_5
      refine x_aload rfl ?_
      refine x_cV (fun _ => rfl) rfl (by decide) (Nat.le_of_ble_eq_true rfl) ?_
      refine c_175 (by omega) (by omega) (by omega) (by omega) (by assumption) (fun S9 f9 k9_a k9_b k9_c => ?_) (fun S9 f9 k9_a k9_b => ?_)
      · have l9 : S9 138 0 = _ := f9 138 0 (by decide) (by decide)
        refine x_zret (by first | decide | omega) ?_
        exact k1 _ (y_sm_tr (y_sm_tr y_sm_rf (y_sm_e e4 (Or.inr ⟨rfl, by decide⟩))) (y_sm_w (by decide) (by decide) f9)) (by omega) (by omega) (by assumption)
      · have l9 : S9 138 0 = _ := f9 138 0 (by decide) (by decide)
        refine x_zret (by first | decide | omega) ?_
        exact k0 _ (y_sm_tr (y_sm_tr y_sm_rf (y_sm_e e4 (Or.inr ⟨rfl, by decide⟩))) (y_sm_w (by decide) (by decide) f9)) (by omega) (by omega)
    | (n + 8), hb5 => simp at hb5
  · skip
    refine x_blk (b := 2) (a_174 E) rfl ?_
    unfold b_174_2
    refine x_push 0 rfl ?_
    refine x_zret (by first | decide | omega) ?_
    exact k0 _ (y_sm_tr y_sm_rf (y_sm_e e4 (Or.inr ⟨rfl, by decide⟩))) (by omega) (by omega)
theorem c_99_a {E : q_E} {σ : x_S} {Q : Option q_V → x_S → Prop} (ln1 : 0 ≤ σ 138 0) (ln2 : σ 138 0 ≤ 200) (kN : ∀ τ, y_sm [141, 144] [8] σ τ → y_PI (τ 141) → Q (some (x_I (-4))) τ) (kF : ∀ (τ : x_S) (b : Int), y_sm [141, 144] [8] σ τ → 0 ≤ b → b < 200 → Q (some (x_I b)) τ) : ∀ (N : Nat) (τ : x_S), (200 - τ 138 8).toNat = N → y_sm [141, 144] [8] σ τ → 0 ≤ τ 138 8 → τ 138 8 ≤ 200 → y_PI (τ 141) → x_G E m_99 Q (t_99 4) [(0, x_R 138)] [] τ := by
  intro N
  induction N using Nat.strongRecOn with
  | ind N ih =>
    intro τ hN hsm p1 p2 hP
    have l0 : τ 138 0 = σ 138 0 := hsm 138 0 (by decide) (by decide)
    refine x_blk (b := 4) (a_99 E) rfl ?_
    unfold b_99_4
    refine x_aload rfl ?_
    refine x_getI (r := 138) rfl (by decide) (by decide) (by decide) rfl ?_
    intro g1a g1b
    refine x_aload rfl ?_
    refine x_getI (r := 138) rfl (by decide) (by decide) (by decide) rfl ?_
    intro g2a g2b
    refine x_icmp_ge (by omega) (by omega) (by omega) (by omega) (fun z3 => ?_) (fun z3 => ?_)
    · skip
      refine x_aload rfl ?_
      refine x_getI (r := 138) rfl (by decide) (by decide) (by decide) rfl ?_
      intro g4a g4b
      refine x_istore ?_
      refine x_aload rfl ?_
      refine x_cV (fun _ => rfl) rfl (by decide) (Nat.le_of_ble_eq_true rfl) ?_
      refine c_174 (by omega) (by omega) (by omega) (by omega) (by assumption) (fun S5 f5 k5_a k5_b k5_c => ?_) (fun S5 f5 k5_a k5_b => ?_)
      · have l5 : S5 138 0 = _ := f5 138 0 (by decide) (by decide)
        refine x_if_eq (by decide) (by decide) (fun z => absurd z (by decide)) (fun _ => ?_)
        refine x_aload rfl ?_
        refine x_push 59 rfl ?_
        refine x_push 59 rfl ?_
        refine x_cV (fun _ => rfl) rfl (by decide) (Nat.le_of_ble_eq_true rfl) ?_
        refine c_112 (by omega) (by omega) (by omega) (by omega) (by omega) (by omega) (by omega) (by omega) (fun S7 f7 k7_a k7_b k7_c k7_d => ?_) (fun n7 => ?_)
        · have l7 : S7 138 0 = _ := f7 138 0 (by decide) (by decide)
          refine x_if_ge (by omega) (by omega) (fun z => absurd z (by omega)) (fun _ => ?_)
          refine x_blk (b := 3) (a_99 E) rfl ?_
          unfold b_99_3
          refine x_goto ?_
          refine x_G_lo (lo' := [(0, x_R 138)]) ⟨rfl, trivial⟩ ?_
          exact ih _ (by omega) S7 rfl (y_sm_tr (y_sm_tr hsm (y_sm_w (by decide) (by decide) f5)) (y_sm_w (by decide) (by decide) f7)) (by omega) (by omega) (y_PI_ext (fun q _ => (y_sm_a f7 141 (by decide) (by decide) q).symm) k5_c)
        · skip
          refine x_if_ge (by decide) (by decide) (fun _ => ?_) (fun z => absurd (by decide) z)
          refine x_fall ?_
          refine x_blk (b := 2) (a_99 E) rfl ?_
          unfold b_99_2
          refine x_iload rfl ?_
          refine x_iret ?_
          exact kF _ _ (y_sm_tr hsm (y_sm_w (by decide) (by decide) f5)) (by omega) (by omega)
      · have l5 : S5 138 0 = _ := f5 138 0 (by decide) (by decide)
        refine x_if_eq (by decide) (by decide) (fun _ => ?_) (fun z => absurd (by decide) z)
        refine x_blk (b := 2) (a_99 E) rfl ?_
        unfold b_99_2
        refine x_iload rfl ?_
        refine x_iret ?_
        exact kF _ _ (y_sm_tr hsm (y_sm_w (by decide) (by decide) f5)) (by omega) (by omega)
    · skip
      refine x_blk (b := 1) (a_99 E) rfl ?_
      unfold b_99_1
      refine x_push (-4) rfl ?_
      refine x_iret ?_
      exact kN _ hsm hP
theorem y_PI_0 {ρ : Nat → Int} (h : ∀ m : Nat, m < 256 → ρ m = if 2 ≤ m ∧ m < 5 then 1 else 0) : y_PI ρ := by
  have h0 := h 0 (by decide)
  have h1 := h 1 (by decide)
  have h62 := h 62 (by decide)
  rw [if_neg (by omega)] at h0 h1 h62
  refine ⟨⟨by omega, by omega⟩, fun t ht => ?_, fun k k1 k2 => ?_, ⟨by omega, fun r hr => absurd hr (by omega)⟩⟩
  · have hs := h (2 + t) (by omega)
    have hl := h (5 + 11 * t + 0) (by omega)
    rw [if_pos (by omega)] at hs
    rw [if_neg (by omega)] at hl
    refine ⟨by omega, ?_⟩
    rw [hs]
    refine ⟨fun k hk => ?_, ?_⟩
    · have : k = 0 := by omega
      subst this
      exact ⟨by show 0 ≤ ρ (5 + 11 * t + 0); omega, by show ρ (5 + 11 * t + 0) ≤ 4; omega, by show (1 : Int) ≤ 1; omega⟩
    · show (1 : Int) + y_c9 (ρ (5 + 11 * t + 0)) - 1 = 0
      rw [hl]
      rfl
  · have := h k (by omega)
    rw [if_neg (by omega)] at this
    omega
theorem c_99 {E : q_E} {σ : x_S} {Q : Option q_V → x_S → Prop} (ln1 : 0 ≤ σ 138 0) (ln2 : σ 138 0 ≤ 200) (kN : ∀ τ, y_sm [141, 144] [8] σ τ → y_PI (τ 141) → Q (some (x_I (-4))) τ) (kF : ∀ (τ : x_S) (b : Int), y_sm [141, 144] [8] σ τ → 0 ≤ b → b < 200 → Q (some (x_I b)) τ) : x_P E 99 [x_R 138] σ Q := by
  refine x_Mt e_99 (h_99 E) (Nat.le_of_ble_eq_true rfl) t_99 rfl ?_
  refine x_blk (b := 0) (a_99 E) rfl ?_
  unfold b_99_0
  refine x_aload rfl ?_
  refine x_cV (fun _ => rfl) rfl (by decide) (Nat.le_of_ble_eq_true rfl) ?_
  refine c_54 (fun S1 f1 k1 => ?_)
  refine x_aload rfl ?_
  refine x_push 0 rfl ?_
  refine x_putI (r := 138) rfl (by decide) (by decide) (by decide) rfl ⟨by decide, rfl⟩ (by omega) (by omega) (fun S2 e2 => ?_)
  have w2 := x_up_at e2
  refine x_fall ?_
  refine x_G_lo (lo' := [(0, x_R 138)]) ⟨rfl, trivial⟩ ?_
  refine c_99_a ln1 ln2 kN kF _ S2 rfl (y_sm_tr (y_sm_tr y_sm_rf (y_sm_w (by decide) (by decide) f1)) (y_sm_e e2 (Or.inr ⟨rfl, by decide⟩))) (by omega) (by omega) ?_
  exact y_PI_ext (fun q _ => (x_up_nr e2 (by decide)).symm) (y_PI_0 k1)

