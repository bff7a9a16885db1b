/-! the reference reads its text: exact -/
theorem y_tx_m {L F : List Nat} {σ τ : x_S} (f : y_sm L F σ τ) (h : 138 ∉ L ∧ 139 ∉ L) (h0 : 0 ∉ F) : y_tx τ = y_tx σ := funext (y_tx_s (f 138 0 h.1 (fun _ => h0)) (y_sm_a f 139 h.2 (by decide)))
/-- a sign taken, over a state whose text is that of another -/
theorem ct_112 {E : q_E} {σ τ : x_S} {Q : Option q_V → x_S → Prop} {a b s : Int} (hx : y_tx τ = y_tx σ) (hs : τ 138 8 = s) (h0 : τ 138 0 = σ 138 0) (h1 : 1 ≤ a) (h2 : a ≤ 200) (h3 : a ≤ b) (h4 : b ≤ 200) (ln1 : 0 ≤ σ 138 0) (ln2 : σ 138 0 ≤ 200) (s1 : 0 ≤ s) (s2 : s ≤ 1000) (k1 : ∀ τ', y_sm [] [8] τ τ' → τ' 138 8 = s + 1 → y_tx τ' = y_tx σ → τ' 138 0 = σ 138 0 → a ≤ y_tx σ s → y_tx σ s ≤ b → s < σ 138 0 → Q (some (x_I (y_tx σ s - a))) τ') (k0 : ¬ (a ≤ y_tx σ s ∧ y_tx σ s ≤ b) → Q (some (x_I (-1))) τ) : x_P E 112 [x_R 138, x_I a, x_I b] τ Q := by
  subst hs
  refine c_112 h1 h2 h3 h4 (by omega) (by omega) s1 s2 (fun S f p c d e => ?_) (fun n => ?_)
  · rw [hx] at c d ⊢
    exact k1 S f p ((y_tx_m f (by decide) (by decide)).trans hx) ((f 138 0 (by decide) (by decide)).trans h0) c d (by omega)
  · rw [hx] at n
    exact k0 n
theorem ce_177_a {E : q_E} {σ : x_S} {Q : Option q_V → x_S → Prop} (ln1 : 0 ≤ σ 138 0) (ln2 : σ 138 0 ≤ 200) (s1 : 0 ≤ σ 138 8) (s2 : σ 138 8 ≤ σ 138 0) (k1 : y_iM (y_tx σ) (σ 138 8) = true → ∀ τ, y_sm [141] [8] σ τ → τ 138 8 = σ 138 8 + 3 + y_pw (y_ch (y_tx σ (σ 138 8 + 1) - 97)) → (∀ j : Nat, (j : Int) < y_pw (y_ch (y_tx σ (σ 138 8 + 1) - 97)) → τ 141 ((y_tab (y_tx σ (σ 138 8) - 48) (y_tx σ (σ 138 8 + 1) - 97) 0).toNat + j) = y_tx σ (σ 138 8 + 3 + j) - 48) → (∀ m, ¬ ((y_tab (y_tx σ (σ 138 8) - 48) (y_tx σ (σ 138 8 + 1) - 97) 0).toNat ≤ m ∧ m < (y_tab (y_tx σ (σ 138 8) - 48) (y_tx σ (σ 138 8 + 1) - 97) 0).toNat + (y_pw (y_ch (y_tx σ (σ 138 8 + 1) - 97))).toNat) → τ 141 m = σ 141 m) → Q (some (x_I 1)) τ) (k0 : ¬ y_iM (y_tx σ) (σ 138 8) = true → ∀ τ, y_sm [141] [8] σ τ → Q (some (x_I 0)) τ) {m f : Int} (hm : m = y_tx σ (σ 138 8) - 48) (hf : f = y_tx σ (σ 138 8 + 1) - 97) (hh : 48 ≤ y_tx σ (σ 138 8) ∧ y_tx σ (σ 138 8) ≤ 49 ∧ 97 ≤ y_tx σ (σ 138 8 + 1) ∧ y_tx σ (σ 138 8 + 1) ≤ 101 ∧ y_tx σ (σ 138 8 + 2) = 61) : ∀ (N : Nat) (i : Int) (τ : x_S), (4 - i).toNat = N → 0 ≤ i → i ≤ y_pw (y_ch f) → y_sm [141] [8] σ τ → τ 138 8 = σ 138 8 + 3 + i → (∀ j : Nat, (j : Int) < i → 48 ≤ y_tx σ (σ 138 8 + 3 + j) ∧ y_tx σ (σ 138 8 + 3 + j) ≤ 49 ∧ τ 141 ((y_tab m f 0).toNat + j) = y_tx σ (σ 138 8 + 3 + j) - 48) → (∀ x, ¬ ((y_tab m f 0).toNat ≤ x ∧ x < (y_tab m f 0).toNat + (y_pw (y_ch f)).toNat) → τ 141 x = σ 141 x) → x_G E m_177 Q (t_177 7) [(0, x_R 138), (1, x_I m), (2, x_I f), (3, x_I i)] [] τ := by
  have hb := y_ch_b f
  have hw := y_pw_b (y_ch f)
  intro N
  induction N using Nat.strongRecOn with
  | ind N ih =>
    intro i τ hN i1 i2 hsm t8 hd ho
    have hx : y_tx τ = y_tx σ := y_tx_m hsm (by decide) (by decide)
    have l0 : τ 138 0 = σ 138 0 := hsm 138 0 (by decide) (by decide)
    refine x_blk (b := 7) (a_177 E) rfl ?_
    unfold b_177_7
    refine x_iload rfl ?_
    refine x_push 1 rfl ?_
    refine x_iload rfl ?_
    refine x_cS (fun _ => rfl) (Nat.le_of_ble_eq_true rfl) ?_
    refine c_0 (by omega) (by omega) ?_
    refine x_shl1 (by omega) (by omega) ?_
    refine x_icmp_ge (by omega) (by omega) (by omega) (by omega) (fun z => ?_) (fun z => ?_)
    · have ht := y_tab_b (m := m) (f := f) (e := i) (by omega) (by omega) (by omega) (by omega) i1 z
      have ht2 : (y_tab m f i).toNat = (y_tab m f 0).toNat + i.toNat := by
        have h5 := y_tab_b (m := m) (f := f) (e := 0) (by omega) (by omega) (by omega) (by omega) (by omega) (by omega)
        unfold y_tab at ht h5 ⊢
        omega
      refine x_aload rfl ?_
      refine x_push 48 rfl ?_
      refine x_push 49 rfl ?_
      refine x_cV (fun _ => rfl) rfl (by decide) (Nat.le_of_ble_eq_true rfl) ?_
      refine ct_112 (σ := σ) hx t8 l0 (by omega) (by omega) (by omega) (by omega) ln1 ln2 (by omega) (by omega) (fun S f1 p1 x1 q1 c1 c2 c3 => ?_) (fun n1 => ?_)
      · refine x_istore ?_
        refine x_iload rfl ?_
        refine x_if_ge (by omega) (by omega) (fun z => absurd z (by omega)) (fun _ => ?_)
        refine x_blk (b := 6) (a_177 E) rfl ?_
        unfold b_177_6
        refine x_aload rfl ?_
        refine x_getR (r := 138) rfl (by decide) (by decide) rfl ?_
        refine x_iload rfl ?_
        refine x_iload rfl ?_
        refine x_iload rfl ?_
        refine x_cS (fun _ => rfl) (Nat.le_of_ble_eq_true rfl) ?_
        refine c_17 (by omega) (by omega) ?_
        refine x_iload rfl ?_
        refine x_ast (r := 141) (n := 256) (m := (y_tab m f i).toNat) rfl rfl (by decide) (fun _ => rfl) rfl (by omega) (by omega) (by omega) (by omega) (fun S2 e2 => ?_)
        rw [ht2] at e2
        refine x_iinc 1 rfl rfl ?_
        refine x_goto ?_
        refine x_G_lo (lo' := [(0, x_R 138), (1, x_I m), (2, x_I f), (3, x_I (i + 1))]) ⟨rfl, rfl, rfl, rfl, trivial⟩ ?_
        refine ih _ (by omega) (i + 1) S2 rfl (by omega) (by omega) (y_sm_tr (y_sm_tr hsm (y_sm_w (by decide) (by decide) f1)) (y_sm_e e2 (Or.inl (by decide)))) ?_ (fun j hj => ?_) (fun x hx => ?_)
        · rw [x_up_nr e2 (by decide)]; omega
        · by_cases cj : j = i.toNat
          · subst cj
            rw [x_up_at e2, show (i.toNat : Int) = i by omega]
            exact ⟨c1, c2, rfl⟩
          · have h9 := hd j (by omega)
            refine ⟨h9.1, h9.2.1, ?_⟩
            rw [x_up_ne e2 (fun z => cj (by omega)), y_sm_a f1 141 (by decide) (by decide)]
            exact h9.2.2
        · rw [x_up_ne e2 (fun z => hx (by omega)), y_sm_a f1 141 (by decide) (by decide)]
          exact ho x hx
      · refine x_istore ?_
        refine x_iload rfl ?_
        refine x_if_ge (by omega) (by omega) (fun _ => ?_) (fun z => absurd (by omega) z)
        refine x_push 0 rfl ?_
        refine x_zret (by decide) ?_
        refine k0 (fun w => ?_) τ hsm
        have w2 := (y_iM_i.mp w).2 i.toNat (by rw [← hf]; omega)
        rw [show (i.toNat : Int) = i by omega] at w2
        exact n1 w2
    · refine x_blk (b := 5) (a_177 E) rfl ?_
      unfold b_177_5
      refine x_push 1 rfl ?_
      refine x_zret (by decide) ?_
      have ei : i = y_pw (y_ch f) := by omega
      refine k1 (y_iM_i.mpr ⟨hh, fun j hj => ?_⟩) τ hsm ?_ (fun j hj => ?_) (fun x hx => ?_)
      · rw [← hf] at hj
        have h9 := hd j (by omega)
        exact ⟨h9.1, h9.2.1⟩
      · rw [← hf, t8]; omega
      · rw [← hf] at hj
        rw [← hm, ← hf]
        exact (hd j (by omega)).2.2
      · rw [← hm, ← hf] at hx; exact ho x hx
theorem ce_177 {E : q_E} {σ : x_S} {Q : Option q_V → x_S → Prop} (ln1 : 0 ≤ σ 138 0) (ln2 : σ 138 0 ≤ 200) (s1 : 0 ≤ σ 138 8) (s2 : σ 138 8 ≤ σ 138 0) (k1 : y_iM (y_tx σ) (σ 138 8) = true → ∀ τ, y_sm [141] [8] σ τ → τ 138 8 = σ 138 8 + 3 + y_pw (y_ch (y_tx σ (σ 138 8 + 1) - 97)) → (∀ j : Nat, (j : Int) < y_pw (y_ch (y_tx σ (σ 138 8 + 1) - 97)) → τ 141 ((y_tab (y_tx σ (σ 138 8) - 48) (y_tx σ (σ 138 8 + 1) - 97) 0).toNat + j) = y_tx σ (σ 138 8 + 3 + j) - 48) → (∀ m, ¬ ((y_tab (y_tx σ (σ 138 8) - 48) (y_tx σ (σ 138 8 + 1) - 97) 0).toNat ≤ m ∧ m < (y_tab (y_tx σ (σ 138 8) - 48) (y_tx σ (σ 138 8 + 1) - 97) 0).toNat + (y_pw (y_ch (y_tx σ (σ 138 8 + 1) - 97))).toNat) → τ 141 m = σ 141 m) → Q (some (x_I 1)) τ) (k0 : ¬ y_iM (y_tx σ) (σ 138 8) = true → ∀ τ, y_sm [141] [8] σ τ → Q (some (x_I 0)) τ) : x_P E 177 [x_R 138] σ Q := by
  have no : ¬ (48 ≤ y_tx σ (σ 138 8) ∧ y_tx σ (σ 138 8) ≤ 49 ∧ 97 ≤ y_tx σ (σ 138 8 + 1) ∧ y_tx σ (σ 138 8 + 1) ≤ 101 ∧ y_tx σ (σ 138 8 + 2) = 61) → ¬ y_iM (y_tx σ) (σ 138 8) = true := fun h w => h (y_iM_i.mp w).1
  refine x_Mt e_177 (h_177 E) (Nat.le_of_ble_eq_true rfl) t_177 rfl ?_
  refine x_blk (b := 0) (a_177 E) rfl ?_
  unfold b_177_0
  refine x_aload rfl ?_
  refine x_push 48 rfl ?_
  refine x_push 49 rfl ?_
  refine x_cV (fun _ => rfl) rfl (by decide) (Nat.le_of_ble_eq_true rfl) ?_
  refine ct_112 (σ := σ) rfl rfl rfl (by omega) (by omega) (by omega) (by omega) ln1 ln2 (by omega) (by omega) (fun S1 f1 p1 x1 q1 a1 b1 c1 => ?_) (fun n1 => ?_)
  · refine x_istore ?_
    refine x_iload rfl ?_
    refine x_if_ge (by omega) (by omega) (fun z => absurd z (by omega)) (fun _ => ?_)
    refine x_blk (b := 1) (a_177 E) rfl ?_
    unfold b_177_1
    refine x_aload rfl ?_
    refine x_push 97 rfl ?_
    refine x_push 101 rfl ?_
    refine x_cV (fun _ => rfl) rfl (by decide) (Nat.le_of_ble_eq_true rfl) ?_
    refine ct_112 (σ := σ) x1 p1 q1 (by omega) (by omega) (by omega) (by omega) ln1 ln2 (by omega) (by omega) (fun S2 f2 p2 x2 q2 a2 b2 c2 => ?_) (fun n2 => ?_)
    · refine x_fall ?_
      refine x_blk (b := 2) (a_177 E) rfl ?_
      unfold b_177_2
      refine x_istore ?_
      refine x_iload rfl ?_
      refine x_if_lt (by omega) (by omega) (fun z => absurd z (by omega)) (fun _ => ?_)
      refine x_aload rfl ?_
      refine x_push 61 rfl ?_
      refine x_push 61 rfl ?_
      refine x_cV (fun _ => rfl) rfl (by decide) (Nat.le_of_ble_eq_true rfl) ?_
      rw [show σ 138 8 + 1 + 1 = σ 138 8 + 2 by omega] at p2
      refine ct_112 (σ := σ) x2 p2 q2 (by omega) (by omega) (by omega) (by omega) ln1 ln2 (by omega) (by omega) (fun S3 f3 p3 x3 q3 a3 b3 c3 => ?_) (fun n3 => ?_)
      · refine x_if_ge (by omega) (by omega) (fun z => absurd z (by omega)) (fun _ => ?_)
        refine x_blk (b := 4) (a_177 E) rfl ?_
        unfold b_177_4
        refine x_push 0 rfl ?_
        refine x_istore ?_
        refine x_fall ?_
        refine x_G_lo (lo' := [(0, x_R 138), (1, x_I (y_tx σ (σ 138 8) - 48)), (2, x_I (y_tx σ (σ 138 8 + 1) - 97)), (3, x_I 0)]) ⟨rfl, rfl, rfl, rfl, trivial⟩ ?_
        have hw := y_pw_b (y_ch (y_tx σ (σ 138 8 + 1) - 97))
        refine ce_177_a ln1 ln2 s1 s2 k1 k0 rfl rfl ⟨a1, b1, a2, b2, by omega⟩ _ 0 S3 rfl (by omega) (by omega) (y_sm_tr (y_sm_tr (y_sm_w (by decide) (by decide) f1) (y_sm_w (by decide) (by decide) f2)) (y_sm_w (by decide) (by decide) f3)) (by omega) (fun j hj => absurd hj (by omega)) (fun x _ => ?_)
        rw [y_sm_a f3 141 (by decide) (by decide), y_sm_a f2 141 (by decide) (by decide), y_sm_a f1 141 (by decide) (by decide)]
      · refine x_if_ge (by omega) (by omega) (fun _ => ?_) (fun z => absurd (by omega) z)
        refine x_fall ?_
        refine x_blk (b := 3) (a_177 E) rfl ?_
        unfold b_177_3
        refine x_push 0 rfl ?_
        refine x_zret (by decide) ?_
        exact k0 (no (by omega)) S2 (y_sm_tr (y_sm_w (by decide) (by decide) f1) (y_sm_w (by decide) (by decide) f2))
    · refine x_fall ?_
      refine x_blk (b := 2) (a_177 E) rfl ?_
      unfold b_177_2
      refine x_istore ?_
      refine x_iload rfl ?_
      refine x_if_lt (by omega) (by omega) (fun _ => ?_) (fun z => absurd (by omega) z)
      refine x_blk (b := 3) (a_177 E) rfl ?_
      unfold b_177_3
      refine x_push 0 rfl ?_
      refine x_zret (by decide) ?_
      exact k0 (no (by omega)) S1 (y_sm_w (by decide) (by decide) f1)
  · refine x_istore ?_
    refine x_iload rfl ?_
    refine x_if_ge (by omega) (by omega) (fun _ => ?_) (fun z => absurd (by omega) z)
    refine x_push (-1) rfl ?_
    refine x_goto ?_
    refine x_blk (b := 2) (a_177 E) rfl ?_
    unfold b_177_2
    refine x_istore ?_
    refine x_iload rfl ?_
    refine x_if_lt (by omega) (by omega) (fun _ => ?_) (fun z => absurd (by omega) z)
    refine x_blk (b := 3) (a_177 E) rfl ?_
    unfold b_177_3
    refine x_push 0 rfl ?_
    refine x_zret (by decide) ?_
    exact k0 (no (by omega)) σ y_sm_rf
