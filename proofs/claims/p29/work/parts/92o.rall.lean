theorem ce_178_a {E : q_E} {σ : x_S} {Q : Option q_V → x_S → Prop} (r1 : 0 ≤ σ 141 62) (r2 : σ 141 62 < 16) (n1 : 1 ≤ σ 144 4) (n2 : σ 144 4 ≤ 7) (k : ∀ τ, y_sm [141] [] σ τ → (∀ m, m ≠ 62 → ¬ (63 + 12 * (σ 141 62).toNat ≤ m ∧ m < 75 + 12 * (σ 141 62).toNat) → τ 141 m = σ 141 m) → τ 141 62 = σ 141 62 + 1 → (∀ c : Nat, (c : Int) < 5 + σ 144 4 → τ 141 (63 + 12 * (σ 141 62).toNat + c) = σ 144 c) → Q (some (x_I 1)) τ) : ∀ (N : Nat) (i : Int) (τ : x_S), (12 - i).toNat = N → 0 ≤ i → i ≤ 12 → y_sm [141] [] σ τ → (∀ m, ¬ (63 + 12 * (σ 141 62).toNat ≤ m ∧ m < 75 + 12 * (σ 141 62).toNat) → τ 141 m = σ 141 m) → (∀ c : Nat, (c : Int) < i → (c : Int) < 5 + σ 144 4 → τ 141 (63 + 12 * (σ 141 62).toNat + c) = σ 144 c) → x_G E m_178 Q (t_178 6) [(0, x_R 138), (1, x_I i)] [] τ := by
  intro N
  induction N using Nat.strongRecOn with
  | ind N ih =>
    intro i τ hN i1 i2 hsm ho hv
    have e62 : τ 141 62 = σ 141 62 := ho 62 (by omega)
    have e4 : τ 144 4 = σ 144 4 := y_sm_a hsm 144 (by decide) (by decide) 4
    have step : ∀ v : Int, -2147483648 ≤ v → v ≤ 2147483647 → (i < 5 + σ 144 4 → v = σ 144 i.toNat) → x_G E m_178 Q (t_178 5) [(0, x_R 138), (1, x_I i)] [x_I v, x_I (63 + 12 * τ 141 62 + i), x_R 141] τ ∨ ¬ i < 12 := fun v v1 v2 hvv => by
      by_cases c : i < 12
      · left
        refine x_blk (b := 5) (a_178 E) rfl ?_
        unfold b_178_5
        refine x_ast (r := 141) (n := 256) (m := 63 + 12 * (σ 141 62).toNat + i.toNat) rfl rfl (by decide) (fun _ => rfl) (by omega) (by omega) (by omega) (by omega) (by omega) (fun S e => ?_)
        refine x_iinc 1 rfl rfl ?_
        refine x_goto ?_
        refine x_G_lo (lo' := [(0, x_R 138), (1, x_I (i + 1))]) ⟨rfl, rfl, trivial⟩ ?_
        refine ih _ (by omega) (i + 1) S rfl (by omega) (by omega) (y_sm_tr hsm (y_sm_e e (Or.inl (by decide)))) (fun m hm => ?_) (fun c h1 h2 => ?_)
        · rw [x_up_ne e (fun z => hm (by omega))]; exact ho m hm
        · by_cases d : c = i.toNat
          · subst d
            rw [x_up_at e]; exact hvv (by omega)
          · rw [x_up_ne e (fun z => d (by omega))]; exact hv c (by omega) h2
      · right; exact c
    refine x_blk (b := 6) (a_178 E) rfl ?_
    unfold b_178_6
    refine x_iload rfl ?_
    refine x_push 12 rfl ?_
    refine x_icmp_ge (by omega) (by omega) (by omega) (by omega) (fun z => ?_) (fun z => ?_)
    · refine x_aload rfl ?_
      refine x_getR (r := 138) rfl (by decide) (by decide) rfl ?_
      refine x_push 63 rfl ?_
      refine x_push 12 rfl ?_
      refine x_aload rfl ?_
      refine x_getR (r := 138) rfl (by decide) (by decide) rfl ?_
      refine x_push 62 rfl ?_
      refine x_iald (r := 141) (n := 256) (m := 62) rfl rfl (by decide) (fun _ => rfl) rfl (by omega) (by omega) ?_
      intro g1a g1b
      refine x_imul ?_
      refine x_iadd ?_
      refine x_iload rfl ?_
      refine x_iadd ?_
      refine x_iload rfl ?_
      refine x_push 5 rfl ?_
      refine x_aload rfl ?_
      refine x_getR (r := 138) rfl (by decide) (by decide) rfl ?_
      refine x_push 4 rfl ?_
      refine x_iald (r := 144) (n := 12) (m := 4) rfl rfl (by decide) (fun _ => rfl) rfl (by omega) (by omega) ?_
      intro g2a g2b
      refine x_iadd ?_
      refine x_icmp_ge (by omega) (by omega) (by omega) (by omega) (fun z2 => ?_) (fun z2 => ?_)
      · refine x_aload rfl ?_
        refine x_getR (r := 138) rfl (by decide) (by decide) rfl ?_
        refine x_iload rfl ?_
        refine x_iald (r := 144) (n := 12) (m := i.toNat) rfl rfl (by decide) (fun _ => rfl) rfl (by omega) (by omega) ?_
        intro g3a g3b
        refine x_goto ?_
        rcases step (τ 144 i.toNat) g3a g3b (fun _ => y_sm_a hsm 144 (by decide) (by decide) _) with h | h
        · exact h
        · exact absurd z h
      · refine x_blk (b := 4) (a_178 E) rfl ?_
        unfold b_178_4
        refine x_push 0 rfl ?_
        refine x_fall ?_
        rcases step 0 (by omega) (by omega) (fun h => absurd h (by omega)) with h | h
        · exact h
        · exact absurd z h
    · refine x_blk (b := 3) (a_178 E) rfl ?_
      unfold b_178_3
      refine x_aload rfl ?_
      refine x_getR (r := 138) rfl (by decide) (by decide) rfl ?_
      refine x_push 62 rfl ?_
      refine x_dup2 rfl rfl ?_
      refine x_iald (r := 141) (n := 256) (m := 62) rfl rfl (by decide) (fun _ => rfl) rfl (by omega) (by omega) ?_
      intro g4a g4b
      refine x_push 1 rfl ?_
      refine x_iadd ?_
      refine x_ast (r := 141) (n := 256) (m := 62) rfl rfl (by decide) (fun _ => rfl) rfl (by omega) (by omega) (by omega) (by omega) (fun S e => ?_)
      refine x_push 1 rfl ?_
      refine x_zret (by decide) ?_
      refine k S (y_sm_tr hsm (y_sm_e e (Or.inl (by decide)))) (fun m h1 h2 => ?_) ?_ (fun c h1 => ?_)
      · rw [x_up_ne e (fun z => h1 z.2)]; exact ho m h2
      · rw [x_up_at e, e62]
      · rw [x_up_ne e (by omega)]; exact hv c (by omega) h1

theorem ce_178 {E : q_E} {σ : x_S} {Q : Option q_V → x_S → Prop} (ln1 : 0 ≤ σ 138 0) (ln2 : σ 138 0 ≤ 200) (s1 : 0 ≤ σ 138 8) (s2 : σ 138 8 ≤ σ 138 0) {A : Nat → Int} (hP : y_PI A) (hA : y_AG (σ 141) A) (k1 : ∀ l e, ¬ A 62 = 16 → y_iR (y_tx σ) (σ 138 8) = some (l, e) → ∀ τ, y_sm [141, 144] [8] σ τ → τ 138 8 = e → y_AG (τ 141) (y_wR A (y_rr (y_tx σ) (σ 138 8) l)) → Q (some (x_I 1)) τ) (k0 : (A 62 = 16 ∨ y_iR (y_tx σ) (σ 138 8) = none) → ∀ τ, y_sm [141, 144] [8] σ τ → Q (some (x_I 0)) τ) : x_P E 178 [x_R 138] σ Q := by
  have a62 := hA.2.2.1 62 (by decide) (by decide)
  have c62 := hP.2.2.2.1
  refine x_Mt e_178 (h_178 E) (Nat.le_of_ble_eq_true rfl) t_178 rfl ?_
  refine x_blk (b := 0) (a_178 E) rfl ?_
  unfold b_178_0
  refine x_aload rfl ?_
  refine x_getR (r := 138) rfl (by decide) (by decide) rfl ?_
  refine x_push 62 rfl ?_
  refine x_iald (r := 141) (n := 256) (m := 62) rfl rfl (by decide) (fun _ => rfl) rfl (by omega) (by omega) ?_
  intro g1a g1b
  refine x_push 16 rfl ?_
  refine x_icmp_eq (by omega) (by omega) (by omega) (by omega) (fun z => ?_) (fun z => ?_)
  · refine x_blk (b := 1) (a_178 E) rfl ?_
    unfold b_178_1
    refine x_push 0 rfl ?_
    refine x_zret (by decide) ?_
    exact k0 (Or.inl (by omega)) σ y_sm_rf
  · refine x_aload rfl ?_
    refine x_cV (fun _ => rfl) rfl (by decide) (Nat.le_of_ble_eq_true rfl) ?_
    refine ce_113 ln1 ln2 s1 s2 (fun l e h S f1 p1 q1 w1 => ?_) (fun h S f1 => ?_)
    · refine x_if_ne (by omega) (by omega) (fun z => absurd z (by omega)) (fun _ => ?_)
      refine x_blk (b := 2) (a_178 E) rfl ?_
      unfold b_178_2
      refine x_push 0 rfl ?_
      refine x_istore ?_
      refine x_fall ?_
      refine x_G_lo (lo' := [(0, x_R 138), (1, x_I 0)]) ⟨rfl, rfl, trivial⟩ ?_
      have hb := y_rl_rr h
      have w4 := w1 4 (by omega)
      have r4 : y_rr (y_tx σ) (σ 138 8) l 4 = l.length := rfl
      have m141 := y_sm_a f1 141 (by decide) (by decide)
      have m62 := m141 62
      refine ce_178_a (σ := S) (by omega) (by omega) (by omega) (by omega) (fun T f2 h2 h3 h4 => ?_) _ 0 S rfl (by omega) (by omega) y_sm_rf (fun m _ => rfl) (fun c hc => absurd hc (by omega))
      have tn : (S 141 62).toNat = (A 62).toNat := by omega
      rw [tn] at h2 h4
      refine k1 l e (by omega) h T (y_sm_tr (y_sm_w (by decide) (by decide) f1) (y_sm_w (by decide) (by decide) f2)) ((f2 138 8 (by decide) (by decide)).trans p1) ?_
      refine y_AG_R hP hA (by omega) (by omega) (fun m hm n1 n2 => (h2 m n1 n2).trans (m141 m)) (by omega) (fun c hc => ?_)
      rw [h4 c (by omega)]
      exact w1 c (by omega)
    · refine x_if_ne (by omega) (by omega) (fun _ => ?_) (fun z => absurd rfl z)
      refine x_fall ?_
      refine x_blk (b := 1) (a_178 E) rfl ?_
      unfold b_178_1
      refine x_push 0 rfl ?_
      refine x_zret (by decide) ?_
      exact k0 (Or.inr h) S (y_sm_w (by decide) (by decide) f1)

theorem ce_174 {E : q_E} {σ : x_S} {Q : Option q_V → x_S → Prop} (ln1 : 0 ≤ σ 138 0) (ln2 : σ 138 0 ≤ 200) (s1 : 0 ≤ σ 138 8) (s2 : σ 138 8 < σ 138 0) {A : Nat → Int} (hP : y_PI A) (hA : y_AG (σ 141) A) (k1 : ∀ A' e, y_it (y_tx σ) A (σ 138 8) = some (A', e) → ∀ τ, y_sm [141, 144] [8] σ τ → τ 138 8 = e → y_AG (τ 141) A' → Q (some (x_I 1)) τ) (k0 : y_it (y_tx σ) A (σ 138 8) = none → ∀ τ, y_sm [141, 144] [8] σ τ → Q (some (x_I 0)) τ) : x_P E 174 [x_R 138] σ Q := by
  refine x_Mt e_174 (h_174 E) (Nat.le_of_ble_eq_true rfl) t_174 rfl ?_
  refine x_blk (b := 0) (a_174 E) rfl ?_
  unfold b_174_0
  refine x_aload rfl ?_
  refine x_aload rfl ?_
  refine x_getI (r := 138) rfl (by decide) (by decide) (by decide) rfl ?_
  intro g1 g2
  refine x_cV (fun _ => rfl) rfl (by decide) (Nat.le_of_ble_eq_true rfl) ?_
  refine c_111 (by omega) (by omega) (by omega) (by omega) (fun ta tb => ?_)
  refine x_istore ?_
  refine x_aload rfl ?_
  refine x_dup rfl ?_
  refine x_getI (r := 138) rfl (by decide) (by decide) (by decide) rfl ?_
  intro g3 g4
  refine x_push 1 rfl ?_
  refine x_iadd ?_
  refine x_putI (r := 138) rfl (by decide) (by decide) (by decide) rfl ⟨by decide, rfl⟩ (by omega) (by omega) (fun S1 e1 => ?_)
  have p1 : S1 138 8 = σ 138 8 + 1 := x_up_at e1
  have l1 : S1 138 0 = σ 138 0 := x_up_ne e1 (by decide)
  have x1 : y_tx S1 = y_tx σ := funext (y_tx_s l1 (fun _ => x_up_nr e1 (by decide)))
  have sm1 : y_sm [141, 144] [8] σ S1 := y_sm_e e1 (Or.inr (by decide))
  have m1 : ∀ m, S1 141 m = σ 141 m := fun m => x_up_nr e1 (by decide)
  refine x_iload rfl ?_
  refine x_tsw 109 rfl rfl (by omega) (by omega) (fun z => ?_) (fun i b hb z => ?_) (fun z => ?_)
  · skip
    refine x_blk (b := 2) (a_174 E) rfl ?_
    unfold b_174_2
    refine x_push 0 rfl ?_
    refine x_zret (by decide) ?_
    exact k0 (y_it_n ⟨by omega, by omega, by omega, by omega⟩) S1 sm1
  · match i, hb with
    | 0, hb =>
      cases hb
      refine x_blk (b := 1) (a_174 E) rfl ?_
      unfold b_174_1
      refine x_aload rfl ?_
      refine x_cV (fun _ => rfl) rfl (by decide) (Nat.le_of_ble_eq_true rfl) ?_
      have hg : y_tx σ (σ 138 8) = 109 := by omega
      refine ce_177 (by omega) (by omega) (by omega) (by omega) (fun h T f2 w w2 w3 => ?_) (fun h T f2 => ?_)
      · refine x_zret (by decide) ?_
        rw [x1, p1] at h w w2 w3
        rw [show σ 138 8 + 1 + 1 = σ 138 8 + 2 by omega] at w w2 w3
        rw [show σ 138 8 + 1 + 3 = σ 138 8 + 4 by omega] at w w2
        have hM := y_iM_i.mp h
        rw [show σ 138 8 + 1 + 1 = σ 138 8 + 2 by omega] at hM
        have ht := y_tab_n (m := y_tx σ (σ 138 8 + 1) - 48) (f := y_tx σ (σ 138 8 + 2) - 97) (by omega) (by omega) (by omega) (by omega)
        have hw := y_pw_b (y_ch (y_tx σ (σ 138 8 + 2) - 97))
        refine k1 _ _ ((y_it_m hg).trans (if_pos h)) T (y_sm_tr sm1 (y_sm_w (by decide) (by decide) f2)) w ?_
        exact y_AG_M hP hA ht.1 ht.2 (fun m _ hm => (w3 m hm).trans (m1 m)) (fun j hj => w2 j (by omega))
      · refine x_zret (by decide) ?_
        rw [x1, p1] at h
        exact k0 ((y_it_m hg).trans (if_neg h)) T (y_sm_tr sm1 (y_sm_w (by decide) (by decide) f2))
    | 1, hb =>
      cases hb
      refine x_blk (b := 2) (a_174 E) rfl ?_
      unfold b_174_2
      refine x_push 0 rfl ?_
      refine x_zret (by decide) ?_
      exact k0 (y_it_n ⟨by omega, by omega, by omega, by omega⟩) S1 sm1
    | 2, hb =>
      cases hb
      refine x_blk (b := 2) (a_174 E) rfl ?_
      unfold b_174_2
      refine x_push 0 rfl ?_
      refine x_zret (by decide) ?_
      exact k0 (y_it_n ⟨by omega, by omega, by omega, by omega⟩) S1 sm1
    | 3, hb =>
      cases hb
      refine x_blk (b := 3) (a_174 E) rfl ?_
      unfold b_174_3
      refine x_aload rfl ?_
      refine x_cV (fun _ => rfl) rfl (by decide) (Nat.le_of_ble_eq_true rfl) ?_
      have hg : y_tx σ (σ 138 8) = 112 := by omega
      refine ce_176 (by omega) (by omega) (by omega) (by omega) (fun h T f2 w w2 w3 => ?_) (fun h T f2 => ?_)
      · refine x_zret (by decide) ?_
        rw [x1, p1] at h w2 w3
        rw [show σ 138 8 + 1 + 1 = σ 138 8 + 2 by omega] at h w2
        refine k1 _ _ ((y_it_p hg).trans (if_pos (y_iK_i.mpr ?_))) T (y_sm_tr sm1 (y_sm_w (by decide) (by decide) f2)) (by omega) ?_
        · rw [show σ 138 8 + 1 + 1 = σ 138 8 + 2 by omega]; exact h
        · exact y_AG_K hP hA (by omega) (fun m _ hm => (w3 m hm).trans (m1 m)) w2
      · refine x_zret (by decide) ?_
        rw [x1, p1] at h
        exact k0 ((y_it_p hg).trans (if_neg (fun z => h (y_iK_i.mp z)))) T (y_sm_tr sm1 (y_sm_w (by decide) (by decide) f2))
    | 4, hb =>
      cases hb
      refine x_blk (b := 2) (a_174 E) rfl ?_
      unfold b_174_2
      refine x_push 0 rfl ?_
      refine x_zret (by decide) ?_
      exact k0 (y_it_n ⟨by omega, by omega, by omega, by omega⟩) S1 sm1
    | 5, hb =>
      cases hb
      refine x_blk (b := 4) (a_174 E) rfl ?_
      unfold b_174_4
      refine x_aload rfl ?_
      refine x_cV (fun _ => rfl) rfl (by decide) (Nat.le_of_ble_eq_true rfl) ?_
      have hg : y_tx σ (σ 138 8) = 114 := by omega
      refine ce_178 (A := A) (by omega) (by omega) (by omega) (by omega) hP (y_AG_ex hA m1) (fun l e h0 h T f2 w w2 => ?_) (fun h T f2 => ?_)
      · refine x_zret (by decide) ?_
        rw [x1, p1] at h w2
        refine k1 _ _ ?_ T (y_sm_tr sm1 f2) w w2
        rw [y_it_r hg, if_neg h0, h]
      · refine x_zret (by decide) ?_
        rw [x1, p1] at h
        refine k0 ?_ T (y_sm_tr sm1 f2)
        rw [y_it_r hg]
        rcases h with h | h
        · rw [if_pos h]
        · rw [h]; split <;> rfl
    | 6, hb =>
      cases hb
      refine x_blk (b := 2) (a_174 E) rfl ?_
      unfold b_174_2
      refine x_push 0 rfl ?_
      refine x_zret (by decide) ?_
      exact k0 (y_it_n ⟨by omega, by omega, by omega, by omega⟩) S1 sm1
    | 7, hb =>
      cases hb
      refine x_blk (b := 5) (a_174 E) rfl ?_
      unfold b_174_5
      refine x_aload rfl ?_
      refine x_cV (fun _ => rfl) rfl (by decide) (Nat.le_of_ble_eq_true rfl) ?_
      have hg : y_tx σ (σ 138 8) = 116 := by omega
      refine ce_175 (by omega) (by omega) (by omega) (by omega) (fun l e h T f2 w w2 w3 w4 => ?_) (fun h T f2 => ?_)
      · refine x_zret (by decide) ?_
        rw [x1, p1] at h w2 w3 w4
        have hb := y_iT_i h
        have hl := y_rw_len hb.2
        refine k1 _ _ ?_ T (y_sm_tr sm1 (y_sm_w (by decide) (by decide) f2)) w (y_AG_T hP hA (by omega) (by omega) (fun m _ h1 h2 => (w4 m h1 h2).trans (m1 m)) w2 w3)
        rw [y_it_t hg, h]
      · refine x_zret (by decide) ?_
        rw [x1, p1] at h
        refine k0 ?_ T (y_sm_tr sm1 (y_sm_w (by decide) (by decide) f2))
        rw [y_it_t hg, h]
    | (n + 8), hb => simp at hb
  · skip
    refine x_blk (b := 2) (a_174 E) rfl ?_
    unfold b_174_2
    refine x_push 0 rfl ?_
    refine x_zret (by decide) ?_
    exact k0 (y_it_n ⟨by omega, by omega, by omega, by omega⟩) S1 sm1

theorem y_tx_g {σ : x_S} : ∀ k, 1 ≤ y_tx σ k → k < σ 138 0 := fun _ h => y_tx_p h
theorem ce_99_b {E : q_E} {σ : x_S} {Q : Option q_V → x_S → Prop} (ln1 : 0 ≤ σ 138 0) (ln2 : σ 138 0 ≤ 200) (kN : (y_rs (y_tx σ) (σ 138 0)).1 = -4 → ∀ τ, y_sm [141, 144] [8] σ τ → y_AG (τ 141) (y_rs (y_tx σ) (σ 138 0)).2 → y_PI (y_rs (y_tx σ) (σ 138 0)).2 → Q (some (x_I (-4))) τ) (kF : 0 ≤ (y_rs (y_tx σ) (σ 138 0)).1 → (y_rs (y_tx σ) (σ 138 0)).1 ≤ 200 → ∀ τ, y_sm [141, 144] [8] σ τ → Q (some (x_I (y_rs (y_tx σ) (σ 138 0)).1)) τ) : ∀ (N : Nat) (A : Nat → Int) (τ : x_S), y_sm [141, 144] [8] σ τ → 0 ≤ τ 138 8 → τ 138 8 ≤ σ 138 0 → (σ 138 0 - τ 138 8).toNat ≤ N → y_PI A → y_AG (τ 141) A → y_run (y_tx σ) (σ 138 0) N A (τ 138 8) = y_rs (y_tx σ) (σ 138 0) → x_G E m_99 Q (t_99 4) [(0, x_R 138)] [] τ := by
  intro N
  induction N using Nat.strongRecOn with
  | ind N ih =>
    intro A τ hsm t1 t2 hN hP hA hr
    have l0 : τ 138 0 = σ 138 0 := hsm 138 0 (by decide) (by decide)
    have hx : y_tx τ = y_tx σ := y_tx_m hsm (by decide) (by decide)
    refine x_blk (b := 4) (a_99 E) rfl ?_
    unfold b_99_4
    refine x_aload rfl ?_
    refine x_getI (r := 138) rfl (by decide) (by decide) (by decide) rfl ?_
    intro g1 g2
    refine x_aload rfl ?_
    refine x_getI (r := 138) rfl (by decide) (by decide) (by decide) rfl ?_
    intro g3 g4
    refine x_icmp_ge (by omega) (by omega) (by omega) (by omega) (fun z => ?_) (fun z => ?_)
    · obtain ⟨w, hw⟩ : ∃ w, N = w + 1 := ⟨N - 1, by omega⟩
      subst hw
      refine x_aload rfl ?_
      refine x_getI (r := 138) rfl (by decide) (by decide) (by decide) rfl ?_
      intro g5 g6
      refine x_istore ?_
      refine x_X_lo (lo' := [(0, x_R 138), (1, x_I (τ 138 8))]) ⟨rfl, rfl, trivial⟩ ?_
      refine x_aload rfl ?_
      refine x_cV (fun _ => rfl) rfl (by decide) (Nat.le_of_ble_eq_true rfl) ?_
      refine ce_174 (by omega) (by omega) t1 z hP hA (fun A' e h S f1 p1 a1 => ?_) (fun h S f1 => ?_)
      · rw [hx] at h
        have gt := y_it_gt (n' := σ 138 0) y_tx_g h
        have fj := y_sm_tr hsm f1
        have x1 : y_tx S = y_tx σ := y_tx_m fj (by decide) (by decide)
        refine x_if_eq (by omega) (by omega) (fun z => absurd z (by omega)) (fun _ => ?_)
        refine x_aload rfl ?_
        refine x_push 59 rfl ?_
        refine x_push 59 rfl ?_
        refine x_cV (fun _ => rfl) rfl (by decide) (Nat.le_of_ble_eq_true rfl) ?_
        refine ct_112 (σ := σ) x1 p1 (fj 138 0 (by decide) (by decide)) (by omega) (by omega) (by omega) (by omega) ln1 ln2 (by omega) (by omega) (fun S2 f2 p2 x2 q2 a2 b2 c2 => ?_) (fun n2 => ?_)
        · refine x_if_ge (by omega) (by omega) (fun z => absurd z (by omega)) (fun _ => ?_)
          refine x_blk (b := 3) (a_99 E) rfl ?_
          unfold b_99_3
          refine x_goto ?_
          refine x_G_lo (lo' := [(0, x_R 138)]) ⟨rfl, trivial⟩ ?_
          rw [y_run_s (by omega) h (by omega), ← p2] at hr
          exact ih w (by omega) A' S2 (y_sm_tr fj (y_sm_w (by decide) (by decide) f2)) (by omega) (by omega) (by omega) (y_it_P hP h) (y_AG_ex a1 (y_sm_a f2 141 (by decide) (by decide))) hr
        · refine x_if_ge (by omega) (by omega) (fun _ => ?_) (fun z => absurd (by omega) z)
          refine x_fall ?_
          refine x_blk (b := 2) (a_99 E) rfl ?_
          unfold b_99_2
          refine x_iload rfl ?_
          refine x_iret ?_
          rw [y_run_g (by omega) h (by omega)] at hr
          have r1 : (y_rs (y_tx σ) (σ 138 0)).1 = τ 138 8 := by rw [← hr]
          refine x_fin (b := (y_rs (y_tx σ) (σ 138 0)).1) r1.symm ?_
          exact kF (by omega) (by omega) S fj
      · rw [hx] at h
        refine x_if_eq (by omega) (by omega) (fun _ => ?_) (fun z => absurd rfl z)
        refine x_blk (b := 2) (a_99 E) rfl ?_
        unfold b_99_2
        refine x_iload rfl ?_
        refine x_iret ?_
        rw [y_run_f (by omega) h] at hr
        have r1 : (y_rs (y_tx σ) (σ 138 0)).1 = τ 138 8 := by rw [← hr]
        refine x_fin (b := (y_rs (y_tx σ) (σ 138 0)).1) r1.symm ?_
        exact kF (by omega) (by omega) S (y_sm_tr hsm f1)
    · rw [y_run_e (by omega)] at hr
      refine x_blk (b := 1) (a_99 E) rfl ?_
      unfold b_99_1
      refine x_push (-4) rfl ?_
      refine x_iret ?_
      have r1 : (y_rs (y_tx σ) (σ 138 0)).1 = -4 := by rw [← hr]
      have r2 : (y_rs (y_tx σ) (σ 138 0)).2 = A := by rw [← hr]
      exact kN r1 τ hsm (by rw [r2]; exact hA) (by rw [r2]; exact hP)
theorem ce_99 {E : q_E} {σ : x_S} {Q : Option q_V → x_S → Prop} (ln1 : 0 ≤ σ 138 0) (ln2 : σ 138 0 ≤ 200) (kN : (y_rs (y_tx σ) (σ 138 0)).1 = -4 → ∀ τ, y_sm [141, 144] [8] σ τ → y_AG (τ 141) (y_rs (y_tx σ) (σ 138 0)).2 → y_PI (y_rs (y_tx σ) (σ 138 0)).2 → Q (some (x_I (-4))) τ) (kF : 0 ≤ (y_rs (y_tx σ) (σ 138 0)).1 → (y_rs (y_tx σ) (σ 138 0)).1 ≤ 200 → ∀ τ, y_sm [141, 144] [8] σ τ → Q (some (x_I (y_rs (y_tx σ) (σ 138 0)).1)) τ) : x_P E 99 [x_R 138] σ Q := by
  refine x_Mt e_99 (h_99 E) (Nat.le_of_ble_eq_true rfl) t_99 rfl ?_
  refine x_blk (b := 0) (a_99 E) rfl ?_
  unfold b_99_0
  refine x_aload rfl ?_
  refine x_cV (fun _ => rfl) rfl (by decide) (Nat.le_of_ble_eq_true rfl) ?_
  refine c_54 (fun S1 f1 w1 => ?_)
  refine x_aload rfl ?_
  refine x_push 0 rfl ?_
  refine x_putI (r := 138) rfl (by decide) (by decide) (by decide) rfl ⟨by decide, rfl⟩ (by omega) (by omega) (fun S2 e2 => ?_)
  have p2 : S2 138 8 = 0 := x_up_at e2
  have l2 : S2 138 0 = σ 138 0 := (x_up_ne e2 (by decide)).trans (f1 138 0 (by decide) (by decide))
  refine x_fall ?_
  refine ce_99_b ln1 ln2 kN kF 200 y_A0 S2 (y_sm_tr (y_sm_w (by decide) (by decide) f1) (y_sm_e e2 (Or.inr (by decide)))) (by omega) (by omega) (by omega) y_A0_P ?_ (by rw [p2]; rfl)
  have q : ∀ m, m < 256 → S2 141 m = y_A0 m := fun m hm => (x_up_nr e2 (by decide)).trans (w1 m hm)
  refine ⟨fun m hm => q m (by omega), fun t v ht hv => ?_, fun m m1 m2 => q m (by omega), fun r c hr _ => ?_⟩
  · unfold y_A0 at hv
    rw [if_pos (by omega)] at hv
    exact q _ (by omega)
  · have a62 : y_A0 62 = 0 := rfl
    rw [a62] at hr; omega
theorem ce_173 {E : q_E} {σ : x_S} {Q : Option q_V → x_S → Prop} (ln1 : 0 ≤ σ 138 0) (ln2 : σ 138 0 ≤ 200) (k : ∀ τ, y_sm [141, 144] [8] σ τ → Q (some (x_I (y_rs (y_tx σ) (σ 138 0)).1)) τ) : x_P E 173 [x_R 138] σ Q := by
  refine x_Mt e_173 (h_173 E) (Nat.le_of_ble_eq_true rfl) t_173 rfl ?_
  refine x_blk (b := 0) (a_173 E) rfl ?_
  unfold b_173_0
  refine x_aload rfl ?_
  refine x_cV (fun _ => rfl) rfl (by decide) (Nat.le_of_ble_eq_true rfl) ?_
  refine ce_99 ln1 ln2 (fun r1 τ f _ _ => ?_) (fun _ _ τ f => ?_)
  · refine x_iret ?_
    refine x_fin (b := (y_rs (y_tx σ) (σ 138 0)).1) r1.symm ?_
    exact k τ f
  · refine x_iret ?_
    exact k τ f
