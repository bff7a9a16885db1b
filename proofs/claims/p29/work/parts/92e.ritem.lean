theorem ce_175_a {E : q_E} {σ : x_S} {Q : Option q_V → x_S → Prop} (ln1 : 0 ≤ σ 138 0) (ln2 : σ 138 0 ≤ 200) (s1 : 0 ≤ σ 138 8) (s2 : σ 138 8 ≤ σ 138 0) (k1 : ∀ l e, y_iT (y_tx σ) (σ 138 8) = some (l, e) → ∀ τ, y_sm [141] [8] σ τ → τ 138 8 = e → τ 141 (2 + (y_tx σ (σ 138 8) - 48).toNat) = l.length → (∀ i, i < l.length → τ 141 (5 + 11 * (y_tx σ (σ 138 8) - 48).toNat + i) = l.getD i 0) → (∀ m, m ≠ 2 + (y_tx σ (σ 138 8) - 48).toNat → ¬ (5 + 11 * (y_tx σ (σ 138 8) - 48).toNat ≤ m ∧ m < 16 + 11 * (y_tx σ (σ 138 8) - 48).toNat) → τ 141 m = σ 141 m) → Q (some (x_I 1)) τ) (k0 : y_iT (y_tx σ) (σ 138 8) = none → ∀ τ, y_sm [141] [8] σ τ → Q (some (x_I 0)) τ) {t : Int} (t1 : 0 ≤ t) (t2 : t ≤ 2) (ht : t.toNat = (y_tx σ (σ 138 8) - 48).toNat) : ∀ (N : Nat) (n o : Int) (pre : List Int) (τ : x_S), 0 ≤ n → n ≤ 11 → (11 - n).toNat = N → (pre.length : Int) = n → 0 ≤ o → o ≤ n + 1 → y_sm [141] [8] σ τ → σ 138 8 ≤ τ 138 8 → τ 138 8 ≤ σ 138 0 → y_iT (y_tx σ) (σ 138 8) = y_lnk (y_rw (y_tx σ) (-1) (11 - n).toNat o (τ 138 8)) pre → (∀ i, i < pre.length → τ 141 (5 + 11 * t.toNat + i) = pre.getD i 0) → (∀ m, m ≠ 2 + t.toNat → ¬ (5 + 11 * t.toNat ≤ m ∧ m < 16 + 11 * t.toNat) → τ 141 m = σ 141 m) → x_G E m_175 Q (t_175 7) [(0, x_R 138), (1, x_I t), (2, x_I o), (3, x_I n)] [] τ := by
  intro N
  induction N using Nat.strongRecOn with
  | ind N ih =>
    intro n o pre τ n1 n2 hN hpl o1 o2 hsm p1 p2 hlk hv ho
    have l0 : τ 138 0 = σ 138 0 := hsm 138 0 (by decide) (by decide)
    have gx : ∀ k, y_tx τ k = y_tx σ k := y_tx_s l0 (y_sm_a hsm 139 (by decide) (by decide))
    refine x_blk (b := 7) (a_175 E) rfl ?_
    unfold b_175_7
    refine x_iload rfl ?_
    refine x_if_le (by omega) (by omega) (fun z1 => ?_) (fun z1 => ?_)
    · skip
      refine x_blk (b := 3) (a_175 E) rfl ?_
      unfold b_175_3
      refine x_aload rfl ?_
      refine x_getR (r := 138) rfl (by decide) (by decide) rfl ?_
      refine x_push 2 rfl ?_
      refine x_iload rfl ?_
      refine x_iadd ?_
      refine x_iload rfl ?_
      refine x_ast (r := 141) (n := 256)  rfl rfl (by decide) (fun _ => rfl) rfl (by omega) (by omega) (by omega) (by omega) (fun S2 e2 => ?_)
      have w2 := x_up_at e2
      refine x_push 1 rfl ?_
      refine x_zret (by first | decide | omega) ?_
      have hR : y_iT (y_tx σ) (σ 138 8) = some (pre, τ 138 8) := by
        rw [hlk, y_rw_0 (by omega)]
        show some (pre ++ [], τ 138 8) = _
        rw [List.append_nil]
      refine k1 pre _ hR _ (y_sm_tr hsm (y_sm_e e2 (Or.inl (by decide)))) (x_up_nr e2 (by decide)) ?_ (fun i hi => ?_) (fun m h1 h2 => ?_)
      · rw [← ht, show 2 + t.toNat = (2 + t).toNat by omega, w2]; omega
      · rw [← ht, x_up_ne e2 (fun z => by omega)]; exact hv i hi
      · rw [← ht] at h1 h2
        rw [x_up_ne e2 (fun z => by omega)]; exact ho m h1 h2
    · skip
      refine x_iload rfl ?_
      refine x_push 11 rfl ?_
      refine x_icmp_ne (by omega) (by omega) (by omega) (by omega) (fun z3 => ?_) (fun z3 => ?_)
      · skip
        refine x_push (-1) rfl ?_
        refine x_goto ?_
        refine x_blk (b := 5) (a_175 E) rfl ?_
        unfold b_175_5
        refine x_istore ?_
        refine x_iload rfl ?_
        refine x_if_ge (by decide) (by decide) (fun _ => ?_) (fun z => absurd (by decide) z)
        refine x_push 0 rfl ?_
        refine x_zret (by first | decide | omega) ?_
        refine k0 ?_ _ hsm
        rw [hlk]
        first
          | (rw [show (11 - n).toNat = 0 by omega, y_rw_n (by omega)]; rfl)
          | (obtain ⟨w, hw⟩ : ∃ w : Nat, (11 - n).toNat = w + 1 := ⟨(11 - n).toNat - 1, by omega⟩
             cases hp : y_pc1 (y_tx σ) (-1) (τ 138 8) with
             | none => rw [hw, y_rw_x (by omega) hp]; rfl
             | some q =>
               obtain ⟨a, b⟩ := q
               have h3 := y_pc1_i hp
               rw [← gx] at h3
               omega)
      · skip
        refine x_blk (b := 4) (a_175 E) rfl ?_
        unfold b_175_4
        refine x_aload rfl ?_
        refine x_push 97 rfl ?_
        refine x_push 101 rfl ?_
        refine x_cV (fun _ => rfl) rfl (by decide) (Nat.le_of_ble_eq_true rfl) ?_
        refine c_112 (by omega) (by omega) (by omega) (by omega) (by omega) (by omega) (by omega) (by omega) (fun S5 f5 k5_a k5_b k5_c k5_d => ?_) (fun n5 => ?_)
        · have l5 : S5 138 0 = _ := f5 138 0 (by decide) (by decide)
          refine x_fall ?_
          refine x_blk (b := 5) (a_175 E) rfl ?_
          unfold b_175_5
          refine x_istore ?_
          refine x_iload rfl ?_
          refine x_if_ge (by omega) (by omega) (fun z => absurd z (by omega)) (fun _ => ?_)
          refine x_blk (b := 6) (a_175 E) rfl ?_
          unfold b_175_6
          refine x_aload rfl ?_
          refine x_getR (r := 138) rfl (by decide) (by decide) rfl ?_
          refine x_push 5 rfl ?_
          refine x_push 11 rfl ?_
          refine x_iload rfl ?_
          refine x_imul ?_
          refine x_iadd ?_
          refine x_iload rfl ?_
          refine x_iadd ?_
          refine x_iload rfl ?_
          refine x_ast (r := 141) (n := 256) (m := (5 + 11 * t + n).toNat) rfl rfl (by decide) (fun _ => rfl) rfl (by omega) (by omega) (by omega) (by omega) (fun S7 e7 => ?_)
          have w7 := x_up_at e7
          refine x_iload rfl ?_
          refine x_iload rfl ?_
          refine x_cS (fun _ => rfl) (Nat.le_of_ble_eq_true rfl) ?_
          refine c_0 (by omega) (by omega) ?_
          refine x_push 1 rfl ?_
          refine x_isub ?_
          refine x_iadd ?_
          refine x_istore ?_
          refine x_iinc 1 rfl rfl ?_
          refine x_goto ?_
          have hp : y_pc1 (y_tx σ) (-1) (τ 138 8) = some (y_tx σ (τ 138 8) - 97, τ 138 8 + 1) := y_pc1_m (Or.inr ⟨by omega, by rw [← gx]; omega, by rw [← gx]; omega, rfl, rfl⟩)
          have hs8 : S7 138 8 = τ 138 8 + 1 := by rw [x_up_nr e7 (by decide)]; exact k5_a
          have hb := y_ch_b (y_tx τ (τ 138 8) - 97)
          refine x_G_lo (lo' := [(0, x_R 138), (1, x_I t), (2, x_I (o + (y_ch (y_tx τ (τ 138 8) - 97) - 1))), (3, x_I (n + 1))]) ⟨rfl, rfl, rfl, rfl, trivial⟩ ?_
          refine ih _ (by omega) (n + 1) (o + (y_ch (y_tx τ (τ 138 8) - 97) - 1)) (pre ++ [y_tx σ (τ 138 8) - 97]) S7 (by omega) (by omega) rfl (by rw [List.length_append]; simp; omega) (by omega) (by omega) (y_sm_tr (y_sm_tr hsm (y_sm_w (by decide) (by decide) f5)) (y_sm_e e7 (Or.inl (by decide)))) (by omega) (by omega) ?_ (fun i hi => ?_) (fun m h1 h2 => ?_)
          · rw [hlk, hs8]
            obtain ⟨w, hw⟩ : ∃ w : Nat, (11 - n).toNat = w + 1 := ⟨(11 - n).toNat - 1, by omega⟩
            rw [hw, show (11 - (n + 1)).toNat = w by omega, y_lnk_s (by omega) hp]
            have hc : y_c9 (y_tx σ (τ 138 8) - 97) = y_ch (y_tx τ (τ 138 8) - 97) := by rw [gx]; exact if_neg (by rw [← gx]; omega)
            rw [hc]
            congr 2
            omega
          · rw [List.length_append] at hi
            by_cases ci : i = pre.length
            · subst ci
              rw [y_gl, show 5 + 11 * t.toNat + pre.length = (5 + 11 * t + n).toNat by omega, w7, gx]
            · have hi2 : i < pre.length := by simp at hi; omega
              rw [y_gl2 hi2, x_up_ne e7 (fun z => by omega), y_sm_a f5 141 (by decide) (by decide)]
              exact hv i hi2
          · rw [x_up_ne e7 (fun z => by omega), y_sm_a f5 141 (by decide) (by decide)]
            exact ho m h1 h2
        · skip
          refine x_fall ?_
          refine x_blk (b := 5) (a_175 E) rfl ?_
          unfold b_175_5
          refine x_istore ?_
          refine x_iload rfl ?_
          refine x_if_ge (by decide) (by decide) (fun _ => ?_) (fun z => absurd (by decide) z)
          refine x_push 0 rfl ?_
          refine x_zret (by first | decide | omega) ?_
          refine k0 ?_ _ hsm
          rw [hlk]
          first
            | (rw [show (11 - n).toNat = 0 by omega, y_rw_n (by omega)]; rfl)
            | (obtain ⟨w, hw⟩ : ∃ w : Nat, (11 - n).toNat = w + 1 := ⟨(11 - n).toNat - 1, by omega⟩
               cases hp : y_pc1 (y_tx σ) (-1) (τ 138 8) with
               | none => rw [hw, y_rw_x (by omega) hp]; rfl
               | some q =>
                 obtain ⟨a, b⟩ := q
                 have h3 := y_pc1_i hp
                 rw [← gx] at h3
                 omega)
theorem ce_175 {E : q_E} {σ : x_S} {Q : Option q_V → x_S → Prop} (ln1 : 0 ≤ σ 138 0) (ln2 : σ 138 0 ≤ 200) (s1 : 0 ≤ σ 138 8) (s2 : σ 138 8 ≤ σ 138 0) (k1 : ∀ l e, y_iT (y_tx σ) (σ 138 8) = some (l, e) → ∀ τ, y_sm [141] [8] σ τ → τ 138 8 = e → τ 141 (2 + (y_tx σ (σ 138 8) - 48).toNat) = l.length → (∀ i, i < l.length → τ 141 (5 + 11 * (y_tx σ (σ 138 8) - 48).toNat + i) = l.getD i 0) → (∀ m, m ≠ 2 + (y_tx σ (σ 138 8) - 48).toNat → ¬ (5 + 11 * (y_tx σ (σ 138 8) - 48).toNat ≤ m ∧ m < 16 + 11 * (y_tx σ (σ 138 8) - 48).toNat) → τ 141 m = σ 141 m) → Q (some (x_I 1)) τ) (k0 : y_iT (y_tx σ) (σ 138 8) = none → ∀ τ, y_sm [141] [8] σ τ → Q (some (x_I 0)) τ) : x_P E 175 [x_R 138] σ Q := by
  refine x_Mt e_175 (h_175 E) (Nat.le_of_ble_eq_true rfl) t_175 rfl ?_
  refine x_blk (b := 0) (a_175 E) rfl ?_
  unfold b_175_0
  refine x_aload rfl ?_
  refine x_push 48 rfl ?_
  refine x_push 50 rfl ?_
  refine x_cV (fun _ => rfl) rfl (by decide) (Nat.le_of_ble_eq_true rfl) ?_
  refine c_112 (by omega) (by omega) (by omega) (by omega) (by omega) (by omega) (by omega) (by omega) (fun S1 f1 k1_a k1_b k1_c k1_d => ?_) (fun n1 => ?_)
  · have l1 : S1 138 0 = _ := f1 138 0 (by decide) (by decide)
    refine x_istore ?_
    refine x_iload rfl ?_
    refine x_if_lt (by omega) (by omega) (fun z => absurd z (by omega)) (fun _ => ?_)
    refine x_aload rfl ?_
    refine x_push 61 rfl ?_
    refine x_push 61 rfl ?_
    refine x_cV (fun _ => rfl) rfl (by decide) (Nat.le_of_ble_eq_true rfl) ?_
    refine c_112 (by omega) (by omega) (by omega) (by omega) (by omega) (by omega) (by omega) (by omega) (fun S3 f3 k3_a k3_b k3_c k3_d => ?_) (fun n3 => ?_)
    · have l3 : S3 138 0 = _ := f3 138 0 (by decide) (by decide)
      refine x_if_ge (by omega) (by omega) (fun z => absurd z (by omega)) (fun _ => ?_)
      refine x_blk (b := 2) (a_175 E) rfl ?_
      unfold b_175_2
      refine x_push 1 rfl ?_
      refine x_istore ?_
      refine x_push 0 rfl ?_
      refine x_istore ?_
      refine x_fall ?_
      have gx : ∀ k, y_tx S1 k = y_tx σ k := y_tx_s (f1 138 0 (by decide) (by decide)) (y_sm_a f1 139 (by decide) (by decide))
      rw [k1_a, gx] at k3_b k3_c
      refine x_G_lo (lo' := [(0, x_R 138), (1, x_I (y_tx σ (σ 138 8) - 48)), (2, x_I 1), (3, x_I 0)]) ⟨rfl, rfl, rfl, rfl, trivial⟩ ?_
      refine ce_175_a ln1 ln2 s1 s2 k1 k0 (by omega) (by omega) rfl _ 0 1 [] S3 (by omega) (by omega) rfl rfl (by omega) (by omega) (y_sm_tr (y_sm_tr y_sm_rf (y_sm_w (by decide) (by decide) f1)) (y_sm_w (by decide) (by decide) f3)) (by omega) (by omega) ?_ (fun i hi => absurd hi (by simp)) (fun m _ _ => ?_)
      · unfold y_iT
        rw [if_pos ⟨by omega, by omega, by omega⟩, show S3 138 8 = σ 138 8 + 2 by omega]
        show y_rw (y_tx σ) (-1) 11 1 (σ 138 8 + 2) = _
        rw [show (11 - (0 : Int)).toNat = 11 from rfl]
        cases y_rw (y_tx σ) (-1) 11 1 (σ 138 8 + 2) with
        | none => rfl
        | some q => rfl
      · rw [y_sm_a f3 141 (by decide) (by decide), y_sm_a f1 141 (by decide) (by decide)]
    · skip
      refine x_if_ge (by decide) (by decide) (fun _ => ?_) (fun z => absurd (by decide) z)
      refine x_fall ?_
      refine x_blk (b := 1) (a_175 E) rfl ?_
      unfold b_175_1
      refine x_push 0 rfl ?_
      refine x_zret (by first | decide | omega) ?_
      have gx : ∀ k, y_tx S1 k = y_tx σ k := y_tx_s (f1 138 0 (by decide) (by decide)) (y_sm_a f1 139 (by decide) (by decide))
      refine k0 ?_ _ (y_sm_tr y_sm_rf (y_sm_w (by decide) (by decide) f1))
      unfold y_iT
      refine if_neg (fun z => ?_)
      have h1 := gx (σ 138 8 + 1)
      rw [k1_a] at n3
      omega
  · skip
    refine x_istore ?_
    refine x_iload rfl ?_
    refine x_if_lt (by decide) (by decide) (fun _ => ?_) (fun z => absurd (by decide) z)
    refine x_blk (b := 1) (a_175 E) rfl ?_
    unfold b_175_1
    refine x_push 0 rfl ?_
    refine x_zret (by first | decide | omega) ?_
    refine k0 ?_ _ y_sm_rf
    unfold y_iT
    rw [if_neg (fun z => by omega)]
theorem ce_176 {E : q_E} {σ : x_S} {Q : Option q_V → x_S → Prop} (ln1 : 0 ≤ σ 138 0) (ln2 : σ 138 0 ≤ 200) (s1 : 0 ≤ σ 138 8) (s2 : σ 138 8 ≤ σ 138 0) (k1 : (48 ≤ y_tx σ (σ 138 8) ∧ y_tx σ (σ 138 8) ≤ 49 ∧ 48 ≤ y_tx σ (σ 138 8 + 1) ∧ y_tx σ (σ 138 8 + 1) ≤ 51) → ∀ τ, y_sm [141] [8] σ τ → τ 138 8 = σ 138 8 + 2 → τ 141 (y_tx σ (σ 138 8) - 48).toNat = y_tx σ (σ 138 8 + 1) - 48 → (∀ m, m ≠ (y_tx σ (σ 138 8) - 48).toNat → τ 141 m = σ 141 m) → Q (some (x_I 1)) τ) (k0 : ¬ (48 ≤ y_tx σ (σ 138 8) ∧ y_tx σ (σ 138 8) ≤ 49 ∧ 48 ≤ y_tx σ (σ 138 8 + 1) ∧ y_tx σ (σ 138 8 + 1) ≤ 51) → ∀ τ, y_sm [141] [8] σ τ → Q (some (x_I 0)) τ) : x_P E 176 [x_R 138] σ Q := by
  refine x_Mt e_176 (h_176 E) (Nat.le_of_ble_eq_true rfl) t_176 rfl ?_
  refine x_blk (b := 0) (a_176 E) rfl ?_
  unfold b_176_0
  refine x_aload rfl ?_
  refine x_push 48 rfl ?_
  refine x_push 49 rfl ?_
  refine x_cV (fun _ => rfl) rfl (by decide) (Nat.le_of_ble_eq_true rfl) ?_
  refine c_112 (by omega) (by omega) (by omega) (by omega) (by omega) (by omega) (by omega) (by omega) (fun S1 f1 k1_a k1_b k1_c k1_d => ?_) (fun n1 => ?_)
  · have l1 : S1 138 0 = _ := f1 138 0 (by decide) (by decide)
    refine x_istore ?_
    refine x_iload rfl ?_
    refine x_if_ge (by omega) (by omega) (fun z => absurd z (by omega)) (fun _ => ?_)
    refine x_blk (b := 1) (a_176 E) rfl ?_
    unfold b_176_1
    refine x_aload rfl ?_
    refine x_push 48 rfl ?_
    refine x_push 51 rfl ?_
    refine x_cV (fun _ => rfl) rfl (by decide) (Nat.le_of_ble_eq_true rfl) ?_
    refine c_112 (by omega) (by omega) (by omega) (by omega) (by omega) (by omega) (by omega) (by omega) (fun S3 f3 k3_a k3_b k3_c k3_d => ?_) (fun n3 => ?_)
    · have l3 : S3 138 0 = _ := f3 138 0 (by decide) (by decide)
      refine x_fall ?_
      refine x_blk (b := 2) (a_176 E) rfl ?_
      unfold b_176_2
      refine x_istore ?_
      refine x_iload rfl ?_
      refine x_if_ge (by omega) (by omega) (fun z => absurd z (by omega)) (fun _ => ?_)
      refine x_blk (b := 3) (a_176 E) rfl ?_
      unfold b_176_3
      refine x_aload rfl ?_
      refine x_getR (r := 138) rfl (by decide) (by decide) rfl ?_
      refine x_iload rfl ?_
      refine x_iload rfl ?_
      refine x_ast (r := 141) (n := 256)  rfl rfl (by decide) (fun _ => rfl) rfl (by omega) (by omega) (by omega) (by omega) (fun S5 e5 => ?_)
      have w5 := x_up_at e5
      refine x_push 1 rfl ?_
      refine x_zret (by first | decide | omega) ?_
      have gx : y_tx S1 (σ 138 8 + 1) = y_tx σ (σ 138 8 + 1) := y_tx_s (f1 138 0 (by decide) (by decide)) (y_sm_a f1 139 (by decide) (by decide)) _
      rw [k1_a, gx] at k3_b k3_c w5
      refine k1 (by omega) _ (y_sm_tr (y_sm_tr (y_sm_tr y_sm_rf (y_sm_w (by decide) (by decide) f1)) (y_sm_w (by decide) (by decide) f3)) (y_sm_e e5 (Or.inl (by decide)))) ?_ w5 (fun m hm => ?_)
      · rw [x_up_nr e5 (by decide)]; omega
      · rw [x_up_ne e5 (fun z => hm z.2), y_sm_a f3 141 (by decide) (by decide), y_sm_a f1 141 (by decide) (by decide)]
    · skip
      refine x_fall ?_
      refine x_blk (b := 2) (a_176 E) rfl ?_
      unfold b_176_2
      refine x_istore ?_
      refine x_iload rfl ?_
      refine x_if_ge (by decide) (by decide) (fun _ => ?_) (fun z => absurd (by decide) z)
      refine x_push 0 rfl ?_
      refine x_zret (by first | decide | omega) ?_
      have gx : y_tx S1 (σ 138 8 + 1) = y_tx σ (σ 138 8 + 1) := y_tx_s (f1 138 0 (by decide) (by decide)) (y_sm_a f1 139 (by decide) (by decide)) _
      rw [k1_a, gx] at n3
      exact k0 (by omega) _ (y_sm_tr y_sm_rf (y_sm_w (by decide) (by decide) f1))
  · skip
    refine x_istore ?_
    refine x_iload rfl ?_
    refine x_if_ge (by decide) (by decide) (fun _ => ?_) (fun z => absurd (by decide) z)
    refine x_push (-1) rfl ?_
    refine x_goto ?_
    refine x_blk (b := 2) (a_176 E) rfl ?_
    unfold b_176_2
    refine x_istore ?_
    refine x_iload rfl ?_
    refine x_if_ge (by decide) (by decide) (fun _ => ?_) (fun z => absurd (by decide) z)
    refine x_push 0 rfl ?_
    refine x_zret (by first | decide | omega) ?_
    exact k0 (by omega) _ y_sm_rf
