theorem ce_113_tl {E : q_E} {Q : Option q_V → x_S → Prop} {τ : x_S} {f o : Int} {n : Nat} (f1 : 0 ≤ f) (f2 : f ≤ 4) (o1 : 1 ≤ o) (o2 : o ≤ 8) (hn : n ≤ 6) {st pc : Int} (h4 : τ 144 4 = n) (hs : st = -1) (p1 : 0 ≤ pc) (p2 : pc ≤ 4) (k : ∀ τ', y_sm [144] [8] τ τ' → τ' 138 8 = τ 138 8 → τ' 144 (5 + n) = pc → τ' 144 4 = n + 1 → (∀ c, c ≠ 4 → c ≠ 5 + n → τ' 144 c = τ 144 c) → x_G E m_113 Q (t_113 26) [(0, x_R 138), (3, x_I f), (5, x_I (o + (y_ch pc - 1)))] [] τ') : x_G E m_113 Q (t_113 21) [(0, x_R 138), (3, x_I f), (5, x_I o), (6, x_I st), (7, x_I pc)] [] τ := by
  have hb := y_ch_b pc
  refine x_blk (b := 21) (a_113 E) rfl ?_
  unfold b_113_21
  refine x_aload rfl ?_
  refine x_getR (r := 138) rfl (by decide) (by decide) rfl ?_
  refine x_push 5 rfl ?_
  refine x_aload rfl ?_
  refine x_getR (r := 138) rfl (by decide) (by decide) rfl ?_
  refine x_push 4 rfl ?_
  refine x_iald (r := 144) (n := 12) (m := 4) rfl rfl (by decide) (fun _ => rfl) rfl (by omega) (by omega) ?_
  intro ga gb
  refine x_iadd ?_
  refine x_iload rfl ?_
  refine x_if_ge (by omega) (by omega) (fun _ => ?_) (fun z => absurd (by omega) z)
  refine x_iload rfl ?_
  refine x_goto ?_
  refine x_blk (b := 23) (a_113 E) rfl ?_
  unfold b_113_23
  refine x_ast (r := 144) (n := 12) (m := 5 + n) rfl rfl (by decide) (fun _ => rfl) (by omega) (by omega) (by omega) (by omega) (by omega) (fun S1 e1 => ?_)
  refine x_iload rfl ?_
  refine x_iload rfl ?_
  refine x_if_ge (by omega) (by omega) (fun _ => ?_) (fun z => absurd (by omega) z)
  refine x_iload rfl ?_
  refine x_cS (fun _ => rfl) (Nat.le_of_ble_eq_true rfl) ?_
  refine c_0 (by omega) (by omega) ?_
  refine x_push 1 rfl ?_
  refine x_isub ?_
  refine x_goto ?_
  refine x_blk (b := 25) (a_113 E) rfl ?_
  unfold b_113_25
  refine x_iadd ?_
  refine x_istore ?_
  have h41 : S1 144 4 = n := (x_up_ne e1 (by omega)).trans h4
  refine x_aload rfl ?_
  refine x_getR (r := 138) rfl (by decide) (by decide) rfl ?_
  refine x_push 4 rfl ?_
  refine x_dup2 rfl rfl ?_
  refine x_iald (r := 144) (n := 12) (m := 4) rfl rfl (by decide) (fun _ => rfl) rfl (by omega) (by omega) ?_
  intro gc gd
  refine x_push 1 rfl ?_
  refine x_iadd ?_
  refine x_ast (r := 144) (n := 12) (m := 4) rfl rfl (by decide) (fun _ => rfl) rfl (by omega) (by omega) (by omega) (by omega) (fun S2 e2 => ?_)
  refine x_goto ?_
  refine x_G_lo (lo' := [(0, x_R 138), (3, x_I f), (5, x_I (o + (y_ch pc - 1)))]) ⟨rfl, rfl, rfl, trivial⟩ ?_
  refine k S2 (y_sm_tr (y_sm_e e1 (Or.inl (by decide))) (y_sm_e e2 (Or.inl (by decide)))) ?_ ?_ ?_ (fun c c1 c2 => ?_)
  · rw [x_up_nr e2 (by decide), x_up_nr e1 (by decide)]
  · rw [x_up_ne e2 (by omega)]; exact x_up_at e1
  · rw [x_up_at e2, h41]
  · rw [x_up_ne e2 (by omega), x_up_ne e1 (by omega)]

theorem ce_113_tc {E : q_E} {Q : Option q_V → x_S → Prop} {τ : x_S} {f o : Int} {n : Nat} (f1 : 0 ≤ f) (f2 : f ≤ 4) (o1 : 1 ≤ o) (o2 : o ≤ 8) (hn : n ≤ 6) {st pc : Int} (h4 : τ 144 4 = n) (s1 : 0 ≤ st) (s2 : st ≤ 2) (p1 : 0 ≤ pc) (p2 : pc ≤ 1) (k : ∀ τ', y_sm [144] [8] τ τ' → τ' 138 8 = τ 138 8 → τ' 144 (5 + n) = 10 + 2 * st + pc → τ' 144 4 = n + 1 → (∀ c, c ≠ 4 → c ≠ 5 + n → τ' 144 c = τ 144 c) → x_G E m_113 Q (t_113 26) [(0, x_R 138), (3, x_I f), (5, x_I (o + -1))] [] τ') : x_G E m_113 Q (t_113 21) [(0, x_R 138), (3, x_I f), (5, x_I o), (6, x_I st), (7, x_I pc)] [] τ := by
  have hb := y_ch_b pc
  refine x_blk (b := 21) (a_113 E) rfl ?_
  unfold b_113_21
  refine x_aload rfl ?_
  refine x_getR (r := 138) rfl (by decide) (by decide) rfl ?_
  refine x_push 5 rfl ?_
  refine x_aload rfl ?_
  refine x_getR (r := 138) rfl (by decide) (by decide) rfl ?_
  refine x_push 4 rfl ?_
  refine x_iald (r := 144) (n := 12) (m := 4) rfl rfl (by decide) (fun _ => rfl) rfl (by omega) (by omega) ?_
  intro ga gb
  refine x_iadd ?_
  refine x_iload rfl ?_
  refine x_if_ge (by omega) (by omega) (fun z => absurd z (by omega)) (fun _ => ?_)
  refine x_blk (b := 22) (a_113 E) rfl ?_
  unfold b_113_22
  refine x_push 10 rfl ?_
  refine x_push 2 rfl ?_
  refine x_iload rfl ?_
  refine x_imul ?_
  refine x_iadd ?_
  refine x_iload rfl ?_
  refine x_iadd ?_
  refine x_fall ?_
  refine x_blk (b := 23) (a_113 E) rfl ?_
  unfold b_113_23
  refine x_ast (r := 144) (n := 12) (m := 5 + n) rfl rfl (by decide) (fun _ => rfl) (by omega) (by omega) (by omega) (by omega) (by omega) (fun S1 e1 => ?_)
  refine x_iload rfl ?_
  refine x_iload rfl ?_
  refine x_if_ge (by omega) (by omega) (fun z => absurd z (by omega)) (fun _ => ?_)
  refine x_blk (b := 24) (a_113 E) rfl ?_
  unfold b_113_24
  refine x_push (-1) rfl ?_
  refine x_fall ?_
  refine x_blk (b := 25) (a_113 E) rfl ?_
  unfold b_113_25
  refine x_iadd ?_
  refine x_istore ?_
  have h41 : S1 144 4 = n := (x_up_ne e1 (by omega)).trans h4
  refine x_aload rfl ?_
  refine x_getR (r := 138) rfl (by decide) (by decide) rfl ?_
  refine x_push 4 rfl ?_
  refine x_dup2 rfl rfl ?_
  refine x_iald (r := 144) (n := 12) (m := 4) rfl rfl (by decide) (fun _ => rfl) rfl (by omega) (by omega) ?_
  intro gc gd
  refine x_push 1 rfl ?_
  refine x_iadd ?_
  refine x_ast (r := 144) (n := 12) (m := 4) rfl rfl (by decide) (fun _ => rfl) rfl (by omega) (by omega) (by omega) (by omega) (fun S2 e2 => ?_)
  refine x_goto ?_
  refine x_G_lo (lo' := [(0, x_R 138), (3, x_I f), (5, x_I (o + -1))]) ⟨rfl, rfl, rfl, trivial⟩ ?_
  refine k S2 (y_sm_tr (y_sm_e e1 (Or.inl (by decide))) (y_sm_e e2 (Or.inl (by decide)))) ?_ ?_ ?_ (fun c c1 c2 => ?_)
  · rw [x_up_nr e2 (by decide), x_up_nr e1 (by decide)]
  · rw [x_up_ne e2 (by omega)]; exact x_up_at e1
  · rw [x_up_at e2, h41]
  · rw [x_up_ne e2 (by omega), x_up_ne e1 (by omega)]

theorem ce_113_l {E : q_E} {σ : x_S} {Q : Option q_V → x_S → Prop} {f o : Int} {n : Nat} (f1 : 0 ≤ f) (f2 : f ≤ 4) (o1 : 1 ≤ o) (o2 : o ≤ 8) (hn : n ≤ 6) {τ : x_S} (hx : y_tx τ = y_tx σ) (l0 : τ 138 0 = σ 138 0) (ln1 : 0 ≤ σ 138 0) (ln2 : σ 138 0 ≤ 200) (s1 : 0 ≤ τ 138 8) (s2 : τ 138 8 ≤ σ 138 0) (h4 : τ 144 4 = n) (nd : ¬ (2 ≤ f ∧ 48 ≤ y_tx σ (τ 138 8) ∧ y_tx σ (τ 138 8) ≤ 50)) (kN : y_pc1 (y_tx σ) f (τ 138 8) = none → ∀ τ', y_sm [] [8] τ τ' → Q (some (x_I 0)) τ') (kL : ∀ P k1 τ', y_pc1 (y_tx σ) f (τ 138 8) = some (P, k1) → y_sm [144] [8] τ τ' → τ' 138 8 = k1 → k1 ≤ σ 138 0 → τ' 144 (5 + n) = P → τ' 144 4 = n + 1 → (∀ c, c ≠ 4 → c ≠ 5 + n → τ' 144 c = τ 144 c) → x_G E m_113 Q (t_113 26) [(0, x_R 138), (3, x_I f), (5, x_I (o + y_c9 P - 1))] [] τ') : x_G E m_113 Q (t_113 15) [(0, x_R 138), (3, x_I f), (5, x_I o)] [x_I (-1)] τ := by
  refine x_blk (b := 15) (a_113 E) rfl ?_
  unfold b_113_15
  refine x_istore ?_
  refine x_aload rfl ?_
  refine x_getR (r := 138) rfl (by decide) (by decide) rfl ?_
  refine x_push 4 rfl ?_
  refine x_iald (r := 144) (n := 12) (m := 4) rfl rfl (by decide) (fun _ => rfl) rfl (by omega) (by omega) ?_
  intro ga gb
  refine x_push 7 rfl ?_
  refine x_icmp_ne (by omega) (by omega) (by omega) (by omega) (fun z => absurd z (by omega)) (fun _ => ?_)
  refine x_blk (b := 16) (a_113 E) rfl ?_
  unfold b_113_16
  refine x_iload rfl ?_
  refine x_if_ge (by omega) (by omega) (fun _ => ?_) (fun z => absurd (by omega) z)
  refine x_aload rfl ?_
  refine x_push 97 rfl ?_
  refine x_push 101 rfl ?_
  refine x_cV (fun _ => rfl) rfl (by decide) (Nat.le_of_ble_eq_true rfl) ?_
  refine ct_112 (σ := σ) hx rfl l0 (by omega) (by omega) (by omega) (by omega) ln1 ln2 (by omega) (by omega) (fun S1 f1' p1 x1 q1 a1 b1 c1 => ?_) (fun n1 => ?_)
  · refine x_goto ?_
    refine x_blk (b := 17) (a_113 E) rfl ?_
    unfold b_113_17
    refine x_istore ?_
    refine x_iload rfl ?_
    refine x_if_ge (by omega) (by omega) (fun z => absurd z (by omega)) (fun _ => ?_)
    refine x_G_lo (lo' := [(0, x_R 138), (3, x_I f), (5, x_I o), (6, x_I (-1)), (7, x_I (y_tx σ (τ 138 8) - 97))]) ⟨rfl, rfl, rfl, rfl, rfl, trivial⟩ ?_
    refine ce_113_tl f1 f2 o1 o2 hn ((y_sm_a f1' 144 (by decide) (by decide) 4).trans h4) rfl (by omega) (by omega) (fun S2 g1 g2 g3 g4 g5 => ?_)
    have hp : y_pc1 (y_tx σ) f (τ 138 8) = some (y_tx σ (τ 138 8) - 97, τ 138 8 + 1) := y_pc1_m (Or.inr ⟨nd, a1, b1, rfl, rfl⟩)
    have h9 := y_c9v (y_tx σ (τ 138 8) - 97)
    have h8 := y_chx (y_tx σ (τ 138 8) - 97)
    rw [show o + (y_ch (y_tx σ (τ 138 8) - 97) - 1) = o + y_c9 (y_tx σ (τ 138 8) - 97) - 1 by omega]
    refine kL _ _ S2 hp (y_sm_tr (y_sm_w (by decide) (by decide) f1') g1) (by omega) (by omega) g3 g4 (fun c z1 z2 => ?_)
    rw [g5 c z1 z2, y_sm_a f1' 144 (by decide) (by decide)]
  · refine x_goto ?_
    refine x_blk (b := 17) (a_113 E) rfl ?_
    unfold b_113_17
    refine x_istore ?_
    refine x_iload rfl ?_
    refine x_if_ge (by omega) (by omega) (fun _ => ?_) (fun z => absurd (by omega) z)
    refine x_push 0 rfl ?_
    refine x_zret (by decide) ?_
    refine kN ?_ τ y_sm_rf
    unfold y_pc1
    rw [if_neg nd, if_neg n1]

theorem ce_113_p {E : q_E} {σ : x_S} {Q : Option q_V → x_S → Prop} {f o : Int} {n : Nat} (f1 : 0 ≤ f) (f2 : f ≤ 4) (o1 : 1 ≤ o) (o2 : o ≤ 8) (hn : n ≤ 6) {τ : x_S} (hx : y_tx τ = y_tx σ) (l0 : τ 138 0 = σ 138 0) (ln1 : 0 ≤ σ 138 0) (ln2 : σ 138 0 ≤ 200) (s1 : 0 ≤ τ 138 8) (s2 : τ 138 8 ≤ σ 138 0) (h4 : τ 144 4 = n) (kN : y_pc1 (y_tx σ) f (τ 138 8) = none → ∀ τ', y_sm [] [8] τ τ' → Q (some (x_I 0)) τ') (kL : ∀ P k1 τ', y_pc1 (y_tx σ) f (τ 138 8) = some (P, k1) → y_sm [144] [8] τ τ' → τ' 138 8 = k1 → k1 ≤ σ 138 0 → τ' 144 (5 + n) = P → τ' 144 4 = n + 1 → (∀ c, c ≠ 4 → c ≠ 5 + n → τ' 144 c = τ 144 c) → x_G E m_113 Q (t_113 26) [(0, x_R 138), (3, x_I f), (5, x_I (o + y_c9 P - 1))] [] τ') : x_G E m_113 Q (t_113 26) [(0, x_R 138), (3, x_I f), (5, x_I o)] [] τ := by
  refine x_blk (b := 26) (a_113 E) rfl ?_
  unfold b_113_26
  refine x_iload rfl ?_
  refine x_if_le (by omega) (by omega) (fun z => absurd z (by omega)) (fun _ => ?_)
  refine x_aload rfl ?_
  refine x_getR (r := 138) rfl (by decide) (by decide) rfl ?_
  refine x_push 4 rfl ?_
  refine x_iald (r := 144) (n := 12) (m := 4) rfl rfl (by decide) (fun _ => rfl) rfl (by omega) (by omega) ?_
  intro ga gb
  refine x_push 7 rfl ?_
  refine x_icmp_eq (by omega) (by omega) (by omega) (by omega) (fun z => absurd z (by omega)) (fun _ => ?_)
  refine x_iload rfl ?_
  refine x_push 2 rfl ?_
  refine x_icmp_ge (by omega) (by omega) (by omega) (by omega) (fun z => ?_) (fun z => ?_)
  · refine x_fall ?_
    refine x_blk (b := 13) (a_113 E) rfl ?_
    unfold b_113_13
    refine x_push (-1) rfl ?_
    refine x_goto ?_
    exact ce_113_l f1 f2 o1 o2 hn hx l0 ln1 ln2 s1 s2 h4 (by omega) kN kL
  · refine x_blk (b := 14) (a_113 E) rfl ?_
    unfold b_113_14
    refine x_aload rfl ?_
    refine x_push 48 rfl ?_
    refine x_push 50 rfl ?_
    refine x_cV (fun _ => rfl) rfl (by decide) (Nat.le_of_ble_eq_true rfl) ?_
    refine ct_112 (σ := σ) hx rfl l0 (by omega) (by omega) (by omega) (by omega) ln1 ln2 (by omega) (by omega) (fun S1 f1' p1 x1 q1 a1 b1 c1 => ?_) (fun n1 => ?_)
    · refine x_fall ?_
      have h41 : S1 144 4 = n := (y_sm_a f1' 144 (by decide) (by decide) 4).trans h4
      refine x_blk (b := 15) (a_113 E) rfl ?_
      unfold b_113_15
      refine x_istore ?_
      refine x_aload rfl ?_
      refine x_getR (r := 138) rfl (by decide) (by decide) rfl ?_
      refine x_push 4 rfl ?_
      refine x_iald (r := 144) (n := 12) (m := 4) rfl rfl (by decide) (fun _ => rfl) rfl (by omega) (by omega) ?_
      intro gc gd
      refine x_push 7 rfl ?_
      refine x_icmp_ne (by omega) (by omega) (by omega) (by omega) (fun z => absurd z (by omega)) (fun _ => ?_)
      refine x_blk (b := 16) (a_113 E) rfl ?_
      unfold b_113_16
      refine x_iload rfl ?_
      refine x_if_ge (by omega) (by omega) (fun z => absurd z (by omega)) (fun _ => ?_)
      have call : ∀ hi : Int, (hi = 120 ∧ ¬ 2 < f ∨ hi = 121 ∧ 2 < f) → x_G E m_113 Q (t_113 20) [(0, x_R 138), (3, x_I f), (5, x_I o), (6, x_I (y_tx σ (τ 138 8) - 48))] [x_I hi, x_I 120, x_R 138] S1 := fun hi hh => by
        refine x_blk (b := 20) (a_113 E) rfl ?_
        unfold b_113_20
        refine x_cV (fun _ => rfl) rfl (by decide) (Nat.le_of_ble_eq_true rfl) ?_
        refine ct_112 (σ := σ) x1 p1 q1 (by omega) (by omega) (by omega) (by omega) ln1 ln2 (by omega) (by omega) (fun S2 f2' p2 x2 q2 a2 b2 c2 => ?_) (fun n2 => ?_)
        · refine x_fall ?_
          refine x_blk (b := 17) (a_113 E) rfl ?_
          unfold b_113_17
          refine x_istore ?_
          refine x_iload rfl ?_
          refine x_if_ge (by omega) (by omega) (fun z => absurd z (by omega)) (fun _ => ?_)
          refine x_G_lo (lo' := [(0, x_R 138), (3, x_I f), (5, x_I o), (6, x_I (y_tx σ (τ 138 8) - 48)), (7, x_I (y_tx σ (τ 138 8 + 1) - 120))]) ⟨rfl, rfl, rfl, rfl, rfl, trivial⟩ ?_
          refine ce_113_tc f1 f2 o1 o2 hn ((y_sm_a f2' 144 (by decide) (by decide) 4).trans h41) (by omega) (by omega) (by omega) (by omega) (fun S3 g1 g2 g3 g4 g5 => ?_)
          have hp : y_pc1 (y_tx σ) f (τ 138 8) = some (10 + 2 * (y_tx σ (τ 138 8) - 48) + (y_tx σ (τ 138 8 + 1) - 120), τ 138 8 + 2) := y_pc1_m (Or.inl ⟨by omega, a1, b1, a2, by omega, rfl, rfl⟩)
          have h9 := y_c9v (10 + 2 * (y_tx σ (τ 138 8) - 48) + (y_tx σ (τ 138 8 + 1) - 120))
          rw [show o + -1 = o + y_c9 (10 + 2 * (y_tx σ (τ 138 8) - 48) + (y_tx σ (τ 138 8 + 1) - 120)) - 1 by omega]
          refine kL _ _ S3 hp (y_sm_tr (y_sm_tr (y_sm_w (by decide) (by decide) f1') (y_sm_w (by decide) (by decide) f2')) g1) (by omega) (by omega) g3 g4 (fun c z1 z2 => ?_)
          rw [g5 c z1 z2, y_sm_a f2' 144 (by decide) (by decide), y_sm_a f1' 144 (by decide) (by decide)]
        · refine x_fall ?_
          refine x_blk (b := 17) (a_113 E) rfl ?_
          unfold b_113_17
          refine x_istore ?_
          refine x_iload rfl ?_
          refine x_if_ge (by omega) (by omega) (fun _ => ?_) (fun z => absurd (by omega) z)
          refine x_push 0 rfl ?_
          refine x_zret (by decide) ?_
          refine kN ?_ S1 f1'
          unfold y_pc1
          rw [if_pos ⟨by omega, a1, b1⟩, if_neg (by omega)]
      refine x_blk (b := 18) (a_113 E) rfl ?_
      unfold b_113_18
      refine x_aload rfl ?_
      refine x_push 120 rfl ?_
      refine x_iload rfl ?_
      refine x_push 2 rfl ?_
      refine x_icmp_le (by omega) (by omega) (by omega) (by omega) (fun z2 => ?_) (fun z2 => ?_)
      · refine x_blk (b := 19) (a_113 E) rfl ?_
        unfold b_113_19
        refine x_push 120 rfl ?_
        refine x_fall ?_
        refine x_G_lo (lo' := [(0, x_R 138), (3, x_I f), (5, x_I o), (6, x_I (y_tx σ (τ 138 8) - 48))]) ⟨rfl, rfl, rfl, rfl, trivial⟩ ?_
        exact call 120 (by omega)
      · refine x_push 121 rfl ?_
        refine x_goto ?_
        refine x_G_lo (lo' := [(0, x_R 138), (3, x_I f), (5, x_I o), (6, x_I (y_tx σ (τ 138 8) - 48))]) ⟨rfl, rfl, rfl, rfl, trivial⟩ ?_
        exact call 121 (by omega)
    · refine x_fall ?_
      exact ce_113_l f1 f2 o1 o2 hn hx l0 ln1 ln2 s1 s2 h4 (by omega) kN kL

theorem ce_113_b {E : q_E} {σ : x_S} {Q : Option q_V → x_S → Prop} (ln1 : 0 ≤ σ 138 0) (ln2 : σ 138 0 ≤ 200) (s1 : 0 ≤ σ 138 8) (s2 : σ 138 8 ≤ σ 138 0) (k1 : ∀ l e, y_iR (y_tx σ) (σ 138 8) = some (l, e) → ∀ τ, y_sm [144] [8] σ τ → τ 138 8 = e → e ≤ σ 138 0 → (∀ c, c < 5 + l.length → τ 144 c = y_rr (y_tx σ) (σ 138 8) l c) → Q (some (x_I 1)) τ) (k0 : y_iR (y_tx σ) (σ 138 8) = none → ∀ τ, y_sm [144] [8] σ τ → Q (some (x_I 0)) τ) {f : Int} (f1 : 0 ≤ f) (f2 : f ≤ 4) : ∀ (N : Nat) (o : Int) (pre : List Int) (τ : x_S), 7 - pre.length = N → pre.length ≤ 7 → 0 ≤ o → o ≤ pre.length + 1 → y_sm [144] [8] σ τ → 0 ≤ τ 138 8 → τ 138 8 ≤ σ 138 0 → τ 144 4 = pre.length → y_iR (y_tx σ) (σ 138 8) = y_lnk (y_rw (y_tx σ) f (7 - pre.length) o (τ 138 8)) pre → (∀ i, i < pre.length → τ 144 (5 + i) = pre.getD i 0) → (∀ c, c < 4 → τ 144 c = y_rr (y_tx σ) (σ 138 8) [] c) → x_G E m_113 Q (t_113 26) [(0, x_R 138), (3, x_I f), (5, x_I o)] [] τ := by
  intro N
  induction N using Nat.strongRecOn with
  | ind N ih =>
    intro o pre τ hN hl o1 o2 hsm p1 p2 h4 hlk hv hc
    have hx : y_tx τ = y_tx σ := y_tx_m hsm (by decide) (by decide)
    have l0 : τ 138 0 = σ 138 0 := hsm 138 0 (by decide) (by decide)
    by_cases c0 : o ≤ 0
    · rw [y_rw_0 c0] at hlk
      have hR : y_iR (y_tx σ) (σ 138 8) = some (pre, τ 138 8) := by
        rw [hlk]
        show some (pre ++ [], τ 138 8) = _
        rw [List.append_nil]
      refine x_blk (b := 26) (a_113 E) rfl ?_
      unfold b_113_26
      refine x_iload rfl ?_
      refine x_if_le (by omega) (by omega) (fun _ => ?_) (fun z => absurd c0 z)
      refine x_blk (b := 12) (a_113 E) rfl ?_
      unfold b_113_12
      refine x_push 1 rfl ?_
      refine x_zret (by decide) ?_
      refine k1 _ _ hR τ hsm rfl p2 (fun c hcc => ?_)
      have cs : c < 4 ∨ c = 4 ∨ 5 ≤ c := by omega
      rcases cs with z | z | z
      · rw [hc c z]
        have cs : c = 0 ∨ c = 1 ∨ c = 2 ∨ c = 3 := by omega
        rcases cs with w | w | w | w <;> (subst w; rfl)
      · subst z; rw [h4]; rfl
      · obtain ⟨i, hi⟩ : ∃ i, c = 5 + i := ⟨c - 5, by omega⟩
        subst hi
        rw [y_rr_p]; exact hv i (by omega)
    · by_cases c7 : pre.length = 7
      · refine x_blk (b := 26) (a_113 E) rfl ?_
        unfold b_113_26
        refine x_iload rfl ?_
        refine x_if_le (by omega) (by omega) (fun z => absurd z c0) (fun _ => ?_)
        refine x_aload rfl ?_
        refine x_getR (r := 138) rfl (by decide) (by decide) rfl ?_
        refine x_push 4 rfl ?_
        refine x_iald (r := 144) (n := 12) (m := 4) rfl rfl (by decide) (fun _ => rfl) rfl (by omega) (by omega) ?_
        intro ga gb
        refine x_push 7 rfl ?_
        refine x_icmp_eq (by omega) (by omega) (by omega) (by omega) (fun _ => ?_) (fun z => absurd (by omega) z)
        refine x_blk (b := 13) (a_113 E) rfl ?_
        unfold b_113_13
        refine x_push (-1) rfl ?_
        refine x_goto ?_
        refine x_blk (b := 15) (a_113 E) rfl ?_
        unfold b_113_15
        refine x_istore ?_
        refine x_aload rfl ?_
        refine x_getR (r := 138) rfl (by decide) (by decide) rfl ?_
        refine x_push 4 rfl ?_
        refine x_iald (r := 144) (n := 12) (m := 4) rfl rfl (by decide) (fun _ => rfl) rfl (by omega) (by omega) ?_
        intro ga gb
        refine x_push 7 rfl ?_
        refine x_icmp_ne (by omega) (by omega) (by omega) (by omega) (fun _ => ?_) (fun z => absurd (by omega) z)
        refine x_push (-1) rfl ?_
        refine x_goto ?_
        refine x_blk (b := 17) (a_113 E) rfl ?_
        unfold b_113_17
        refine x_istore ?_
        refine x_iload rfl ?_
        refine x_if_ge (by omega) (by omega) (fun _ => ?_) (fun z => absurd (by omega) z)
        refine x_push 0 rfl ?_
        refine x_zret (by decide) ?_
        refine k0 ?_ τ hsm
        rw [hlk, c7, y_rw_n (by omega)]
        rfl
      · obtain ⟨w, hw⟩ : ∃ w, 7 - pre.length = w + 1 := ⟨6 - pre.length, by omega⟩
        refine ce_113_p f1 f2 (by omega) (by omega) (n := pre.length) (by omega) hx l0 ln1 ln2 p1 p2 h4 (fun hp S g1 => ?_) (fun P k1' S hp g1 g2 g3 g4 g5 g6 => ?_)
        · refine k0 ?_ S (y_sm_tr hsm (y_sm_w (by decide) (by decide) g1))
          rw [hlk, hw, y_rw_x (by omega) hp]
          rfl
        · have hok := y_pc1_ok hp
          have h9 := y_c9_b P
          refine ih (7 - (pre ++ [P]).length) (by rw [List.length_append]; simp; omega) _ (pre ++ [P]) S rfl (by rw [List.length_append]; simp; omega) (by omega) ?_ (y_sm_tr hsm g1) (by omega) (by omega) (by rw [g5, List.length_append]; rfl) ?_ (fun i hi => ?_) (fun c hcc => ?_)
          · rw [List.length_append]; simp; omega
          · rw [hlk, hw, y_lnk_s (by omega) hp, g2, show 7 - (pre ++ [P]).length = w by rw [List.length_append]; simp; omega]
          · rw [List.length_append] at hi
            by_cases ci : i = pre.length
            · subst ci
              rw [y_gl]; exact g4
            · have hi2 : i < pre.length := by simp at hi; omega
              rw [y_gl2 hi2, g6 _ (by omega) (by omega)]; exact hv i hi2
          · rw [g6 c (by omega) (by omega)]; exact hc c hcc

theorem ce_113_5 {E : q_E} {σ : x_S} {Q : Option q_V → x_S → Prop} (ln1 : 0 ≤ σ 138 0) (ln2 : σ 138 0 ≤ 200) (s1 : 0 ≤ σ 138 8) (s2 : σ 138 8 ≤ σ 138 0) (k1 : ∀ l e, y_iR (y_tx σ) (σ 138 8) = some (l, e) → ∀ τ, y_sm [144] [8] σ τ → τ 138 8 = e → e ≤ σ 138 0 → (∀ c, c < 5 + l.length → τ 144 c = y_rr (y_tx σ) (σ 138 8) l c) → Q (some (x_I 1)) τ) (k0 : y_iR (y_tx σ) (σ 138 8) = none → ∀ τ, y_sm [144] [8] σ τ → Q (some (x_I 0)) τ) {p q f lk : Int} {τ : x_S} (hsm : y_sm [144] [8] σ τ) (hs : τ 138 8 = σ 138 8 + 5) (hp : p = y_tx σ (σ 138 8) - 48) (hq : q = y_tx σ (σ 138 8 + 1) - 48) (hf : f = y_tx σ (σ 138 8 + 2) - 97) (hk : lk = y_lk (y_tx σ (σ 138 8 + 3))) (hc : 48 ≤ y_tx σ (σ 138 8) ∧ y_tx σ (σ 138 8) ≤ 49 ∧ 48 ≤ y_tx σ (σ 138 8 + 1) ∧ y_tx σ (σ 138 8 + 1) ≤ 50 ∧ 97 ≤ y_tx σ (σ 138 8 + 2) ∧ y_tx σ (σ 138 8 + 2) ≤ 101 ∧ (y_tx σ (σ 138 8 + 3) = 42 ∨ (48 ≤ y_tx σ (σ 138 8 + 3) ∧ y_tx σ (σ 138 8 + 3) ≤ 49)) ∧ y_tx σ (σ 138 8 + 4) = 61) (h5 : σ 138 8 + 5 ≤ σ 138 0) : x_G E m_113 Q (t_113 11) [(0, x_R 138), (1, x_I p), (2, x_I q), (3, x_I f), (4, x_I lk)] [] τ := by
  have lkb : 0 ≤ lk ∧ lk ≤ 2 := by
    rw [hk]; unfold y_lk; split <;> omega
  refine x_blk (b := 11) (a_113 E) rfl ?_
  unfold b_113_11
  refine x_aload rfl ?_
  refine x_getR (r := 138) rfl (by decide) (by decide) rfl ?_
  refine x_push 0 rfl ?_
  refine x_iload rfl ?_
  refine x_ast (r := 144) (n := 12) (m := 0) rfl rfl (by decide) (fun _ => rfl) rfl (by omega) (by omega) (by omega) (by omega) (fun S0 e0 => ?_)
  refine x_aload rfl ?_
  refine x_getR (r := 138) rfl (by decide) (by decide) rfl ?_
  refine x_push 1 rfl ?_
  refine x_iload rfl ?_
  refine x_ast (r := 144) (n := 12) (m := 1) rfl rfl (by decide) (fun _ => rfl) rfl (by omega) (by omega) (by omega) (by omega) (fun S1 e1 => ?_)
  refine x_aload rfl ?_
  refine x_getR (r := 138) rfl (by decide) (by decide) rfl ?_
  refine x_push 2 rfl ?_
  refine x_iload rfl ?_
  refine x_ast (r := 144) (n := 12) (m := 2) rfl rfl (by decide) (fun _ => rfl) rfl (by omega) (by omega) (by omega) (by omega) (fun S2 e2 => ?_)
  refine x_aload rfl ?_
  refine x_getR (r := 138) rfl (by decide) (by decide) rfl ?_
  refine x_push 3 rfl ?_
  refine x_iload rfl ?_
  refine x_ast (r := 144) (n := 12) (m := 3) rfl rfl (by decide) (fun _ => rfl) rfl (by omega) (by omega) (by omega) (by omega) (fun S3 e3 => ?_)
  refine x_aload rfl ?_
  refine x_getR (r := 138) rfl (by decide) (by decide) rfl ?_
  refine x_push 4 rfl ?_
  refine x_push 0 rfl ?_
  refine x_ast (r := 144) (n := 12) (m := 4) rfl rfl (by decide) (fun _ => rfl) rfl (by omega) (by omega) (by omega) (by omega) (fun S4 e4 => ?_)
  refine x_push 1 rfl ?_
  refine x_istore ?_
  refine x_fall ?_
  refine x_G_lo (lo' := [(0, x_R 138), (3, x_I f), (5, x_I 1)]) ⟨rfl, rfl, rfl, trivial⟩ ?_
  have t8 : S4 138 8 = σ 138 8 + 5 := by rw [x_up_nr e4 (by decide), x_up_nr e3 (by decide), x_up_nr e2 (by decide), x_up_nr e1 (by decide), x_up_nr e0 (by decide)]; exact hs
  refine ce_113_b ln1 ln2 s1 s2 k1 k0 (by omega) (by omega) _ 1 [] S4 rfl (by simp) (by omega) (by simp) (y_sm_tr (y_sm_tr (y_sm_tr (y_sm_tr (y_sm_tr hsm (y_sm_e e0 (Or.inl (by decide)))) (y_sm_e e1 (Or.inl (by decide)))) (y_sm_e e2 (Or.inl (by decide)))) (y_sm_e e3 (Or.inl (by decide)))) (y_sm_e e4 (Or.inl (by decide)))) (by omega) (by omega) (x_up_at e4) ?_ (fun i hi => absurd hi (by simp)) (fun c hcc => ?_)
  · unfold y_iR
    rw [if_pos hc, t8, ← hf]
    show _ = y_lnk (y_rw (y_tx σ) f 7 1 (σ 138 8 + 5)) []
    cases y_rw (y_tx σ) f 7 1 (σ 138 8 + 5) with
    | none => rfl
    | some q => rfl
  · have cs : c = 0 ∨ c = 1 ∨ c = 2 ∨ c = 3 := by omega
    rcases cs with w | w | w | w
    · subst w; rw [x_up_ne e4 (by decide), x_up_ne e3 (by decide), x_up_ne e2 (by decide), x_up_ne e1 (by decide), x_up_at e0, hp]; rfl
    · subst w; rw [x_up_ne e4 (by decide), x_up_ne e3 (by decide), x_up_ne e2 (by decide), x_up_at e1, hq]; rfl
    · subst w; rw [x_up_ne e4 (by decide), x_up_ne e3 (by decide), x_up_at e2, hf]; rfl
    · subst w; rw [x_up_ne e4 (by decide), x_up_at e3, hk]; rfl

theorem ce_113 {E : q_E} {σ : x_S} {Q : Option q_V → x_S → Prop} (ln1 : 0 ≤ σ 138 0) (ln2 : σ 138 0 ≤ 200) (s1 : 0 ≤ σ 138 8) (s2 : σ 138 8 ≤ σ 138 0) (k1 : ∀ l e, y_iR (y_tx σ) (σ 138 8) = some (l, e) → ∀ τ, y_sm [144] [8] σ τ → τ 138 8 = e → e ≤ σ 138 0 → (∀ c, c < 5 + l.length → τ 144 c = y_rr (y_tx σ) (σ 138 8) l c) → Q (some (x_I 1)) τ) (k0 : y_iR (y_tx σ) (σ 138 8) = none → ∀ τ, y_sm [144] [8] σ τ → Q (some (x_I 0)) τ) : x_P E 113 [x_R 138] σ Q := by
  unfold y_iR at k0
  have fl : ∀ (S : x_S) (lo : q_Lo) (b : Int), b = -1 → ¬ (48 ≤ y_tx σ (σ 138 8) ∧ y_tx σ (σ 138 8) ≤ 49 ∧ 48 ≤ y_tx σ (σ 138 8 + 1) ∧ y_tx σ (σ 138 8 + 1) ≤ 50 ∧ 97 ≤ y_tx σ (σ 138 8 + 2) ∧ y_tx σ (σ 138 8 + 2) ≤ 101) → y_sm [144] [8] σ S → x_G E m_113 Q (t_113 4) lo [x_I b] S := fun S lo b hb hn hs => by
    subst hb
    refine x_blk (b := 4) (a_113 E) rfl ?_
    unfold b_113_4
    refine x_istore ?_
    refine x_iload rfl ?_
    refine x_if_ge (by omega) (by omega) (fun _ => ?_) (fun z => absurd (by omega) z)
    refine x_push 0 rfl ?_
    refine x_zret (by decide) ?_
    exact k0 (if_neg (fun w => hn ⟨w.1, w.2.1, w.2.2.1, w.2.2.2.1, w.2.2.2.2.1, w.2.2.2.2.2.1⟩)) S hs
  refine x_Mt e_113 (h_113 E) (Nat.le_of_ble_eq_true rfl) t_113 rfl ?_
  refine x_blk (b := 0) (a_113 E) rfl ?_
  unfold b_113_0
  refine x_aload rfl ?_
  refine x_push 48 rfl ?_
  refine x_push 49 rfl ?_
  refine x_cV (fun _ => rfl) rfl (by decide) (Nat.le_of_ble_eq_true rfl) ?_
  refine ct_112 (σ := σ) rfl rfl rfl (by omega) (by omega) (by omega) (by omega) ln1 ln2 (by omega) (by omega) (fun S1 f1 p1 x1 q1 a1 b1 c1 => ?_) (fun n1 => ?_)
  · refine x_istore ?_
    refine x_iload rfl ?_
    refine x_if_ge (by omega) (by omega) (fun z => absurd z (by omega)) (fun _ => ?_)
    refine x_blk (b := 1) (a_113 E) rfl ?_
    unfold b_113_1
    refine x_aload rfl ?_
    refine x_push 48 rfl ?_
    refine x_push 50 rfl ?_
    refine x_cV (fun _ => rfl) rfl (by decide) (Nat.le_of_ble_eq_true rfl) ?_
    refine ct_112 (σ := σ) x1 p1 q1 (by omega) (by omega) (by omega) (by omega) ln1 ln2 (by omega) (by omega) (fun S2 f2 p2 x2 q2 a2 b2 c2 => ?_) (fun n2 => ?_)
    · refine x_fall ?_
      rw [show σ 138 8 + 1 + 1 = σ 138 8 + 2 by omega] at p2
      refine x_blk (b := 2) (a_113 E) rfl ?_
      unfold b_113_2
      refine x_istore ?_
      refine x_iload rfl ?_
      refine x_if_ge (by omega) (by omega) (fun z => absurd z (by omega)) (fun _ => ?_)
      refine x_blk (b := 3) (a_113 E) rfl ?_
      unfold b_113_3
      refine x_aload rfl ?_
      refine x_push 97 rfl ?_
      refine x_push 101 rfl ?_
      refine x_cV (fun _ => rfl) rfl (by decide) (Nat.le_of_ble_eq_true rfl) ?_
      refine ct_112 (σ := σ) x2 p2 q2 (by omega) (by omega) (by omega) (by omega) ln1 ln2 (by omega) (by omega) (fun S3 f3 p3 x3 q3 a3 b3 c3 => ?_) (fun n3 => ?_)
      · refine x_fall ?_
        rw [show σ 138 8 + 2 + 1 = σ 138 8 + 3 by omega] at p3
        have sm3 : y_sm [144] [8] σ S3 := y_sm_tr (y_sm_tr (y_sm_w (by decide) (by decide) f1) (y_sm_w (by decide) (by decide) f2)) (y_sm_w (by decide) (by decide) f3)
        refine x_blk (b := 4) (a_113 E) rfl ?_
        unfold b_113_4
        refine x_istore ?_
        refine x_iload rfl ?_
        refine x_if_ge (by omega) (by omega) (fun z => absurd z (by omega)) (fun _ => ?_)
        refine x_G_lo (lo' := [(0, x_R 138), (1, x_I (y_tx σ (σ 138 8) - 48)), (2, x_I (y_tx σ (σ 138 8 + 1) - 48)), (3, x_I (y_tx σ (σ 138 8 + 2) - 97))]) ⟨rfl, rfl, rfl, rfl, trivial⟩ ?_
        refine x_blk (b := 5) (a_113 E) rfl ?_
        unfold b_113_5
        refine x_aload rfl ?_
        refine x_aload rfl ?_
        refine x_getI (r := 138) rfl (by decide) (by decide) (by decide) rfl ?_
        intro ga gb
        refine x_cV (fun _ => rfl) rfl (by decide) (Nat.le_of_ble_eq_true rfl) ?_
        refine c_111 (by omega) (by omega) (by omega) (by omega) (fun ta tb => ?_)
        rw [x3, p3] at ta tb ⊢
        refine x_push 42 rfl ?_
        refine x_icmp_ne (by omega) (by omega) (by omega) (by omega) (fun zs => ?_) (fun zs => ?_)
        · refine x_push 2 rfl ?_
          refine x_goto ?_
          refine x_blk (b := 7) (a_113 E) rfl ?_
          unfold b_113_7
          refine x_istore ?_
          refine x_X_lo (lo' := [(0, x_R 138), (1, x_I (y_tx σ (σ 138 8) - 48)), (2, x_I (y_tx σ (σ 138 8 + 1) - 48)), (3, x_I (y_tx σ (σ 138 8 + 2) - 97)), (4, x_I (2))]) ⟨rfl, rfl, rfl, rfl, rfl, trivial⟩ ?_
          refine x_aload rfl ?_
          refine x_dup rfl ?_
          refine x_getI (r := 138) rfl (by decide) (by decide) (by decide) rfl ?_
          intro ga gb
          refine x_iload rfl ?_
          refine x_push 2 rfl ?_
          refine x_icmp_ne (by omega) (by omega) (by omega) (by omega) (fun _ => ?_) (fun z => absurd (by omega) z)
          refine x_push 1 rfl ?_
          refine x_goto ?_
          refine x_blk (b := 9) (a_113 E) rfl ?_
          unfold b_113_9
          refine x_iadd ?_
          refine x_putI (r := 138) rfl (by decide) (by decide) (by decide) rfl ⟨by decide, rfl⟩ (by omega) (by omega) (fun S9 e9 => ?_)
          have p9 : S9 138 8 = σ 138 8 + 4 := (x_up_at e9).trans (by omega)
          have l9 : S9 138 0 = σ 138 0 := (x_up_ne e9 (by decide)).trans q3
          have x9 : y_tx S9 = y_tx σ := (funext (y_tx_s (x_up_ne e9 (by decide)) (fun _ => x_up_nr e9 (by decide)))).trans x3
          have sm9 : y_sm [144] [8] σ S9 := y_sm_tr (sm3) (y_sm_e e9 (Or.inr (by decide)))
          refine x_iload rfl ?_
          refine x_if_lt (by omega) (by omega) (fun z => absurd z (by omega)) (fun _ => ?_)
          refine x_aload rfl ?_
          refine x_push 61 rfl ?_
          refine x_push 61 rfl ?_
          refine x_cV (fun _ => rfl) rfl (by decide) (Nat.le_of_ble_eq_true rfl) ?_
          refine ct_112 (σ := σ) x9 p9 l9 (by omega) (by omega) (by omega) (by omega) ln1 ln2 (by omega) (by omega) (fun S5 f5 p5 x5 q5 a5 b5 c5 => ?_) (fun n5 => ?_)
          · refine x_if_ge (by omega) (by omega) (fun z => absurd z (by omega)) (fun _ => ?_)
            refine x_G_lo (lo' := [(0, x_R 138), (1, x_I (y_tx σ (σ 138 8) - 48)), (2, x_I (y_tx σ (σ 138 8 + 1) - 48)), (3, x_I (y_tx σ (σ 138 8 + 2) - 97)), (4, x_I (2))]) ⟨rfl, rfl, rfl, rfl, rfl, trivial⟩ ?_
            exact ce_113_5 ln1 ln2 s1 s2 k1 k0 (y_sm_tr sm9 (y_sm_w (by decide) (by decide) f5)) (by omega) rfl rfl rfl (by unfold y_lk; rw [if_pos (by omega)]) ⟨a1, b1, a2, b2, a3, b3, by omega, by omega⟩ (by omega)
          · refine x_if_ge (by omega) (by omega) (fun _ => ?_) (fun z => absurd (by omega) z)
            refine x_fall ?_
            refine x_blk (b := 10) (a_113 E) rfl ?_
            unfold b_113_10
            refine x_push 0 rfl ?_
            refine x_zret (by decide) ?_
            exact k0 (if_neg (fun w => by omega)) _ (sm9)
        · refine x_blk (b := 6) (a_113 E) rfl ?_
          unfold b_113_6
          refine x_aload rfl ?_
          refine x_push 48 rfl ?_
          refine x_push 49 rfl ?_
          refine x_cV (fun _ => rfl) rfl (by decide) (Nat.le_of_ble_eq_true rfl) ?_
          refine ct_112 (σ := σ) x3 p3 q3 (by omega) (by omega) (by omega) (by omega) ln1 ln2 (by omega) (by omega) (fun S4 f4 p4 x4 q4 a4 b4 c4 => ?_) (fun n4 => ?_)
          · refine x_fall ?_
            rw [show σ 138 8 + 3 + 1 = σ 138 8 + 4 by omega] at p4
            refine x_blk (b := 7) (a_113 E) rfl ?_
            unfold b_113_7
            refine x_istore ?_
            refine x_X_lo (lo' := [(0, x_R 138), (1, x_I (y_tx σ (σ 138 8) - 48)), (2, x_I (y_tx σ (σ 138 8 + 1) - 48)), (3, x_I (y_tx σ (σ 138 8 + 2) - 97)), (4, x_I (y_tx σ (σ 138 8 + 3) - 48))]) ⟨rfl, rfl, rfl, rfl, rfl, trivial⟩ ?_
            refine x_aload rfl ?_
            refine x_dup rfl ?_
            refine x_getI (r := 138) rfl (by decide) (by decide) (by decide) rfl ?_
            intro ga gb
            refine x_iload rfl ?_
            refine x_push 2 rfl ?_
            refine x_icmp_ne (by omega) (by omega) (by omega) (by omega) (fun z => absurd z (by omega)) (fun _ => ?_)
            refine x_blk (b := 8) (a_113 E) rfl ?_
            unfold b_113_8
            refine x_push 0 rfl ?_
            refine x_fall ?_
            refine x_blk (b := 9) (a_113 E) rfl ?_
            unfold b_113_9
            refine x_iadd ?_
            refine x_putI (r := 138) rfl (by decide) (by decide) (by decide) rfl ⟨by decide, rfl⟩ (by omega) (by omega) (fun S9 e9 => ?_)
            have p9 : S9 138 8 = σ 138 8 + 4 := (x_up_at e9).trans (by omega)
            have l9 : S9 138 0 = σ 138 0 := (x_up_ne e9 (by decide)).trans q4
            have x9 : y_tx S9 = y_tx σ := (funext (y_tx_s (x_up_ne e9 (by decide)) (fun _ => x_up_nr e9 (by decide)))).trans x4
            have sm9 : y_sm [144] [8] σ S9 := y_sm_tr (y_sm_tr sm3 (y_sm_w (by decide) (by decide) f4)) (y_sm_e e9 (Or.inr (by decide)))
            refine x_iload rfl ?_
            refine x_if_lt (by omega) (by omega) (fun z => absurd z (by omega)) (fun _ => ?_)
            refine x_aload rfl ?_
            refine x_push 61 rfl ?_
            refine x_push 61 rfl ?_
            refine x_cV (fun _ => rfl) rfl (by decide) (Nat.le_of_ble_eq_true rfl) ?_
            refine ct_112 (σ := σ) x9 p9 l9 (by omega) (by omega) (by omega) (by omega) ln1 ln2 (by omega) (by omega) (fun S5 f5 p5 x5 q5 a5 b5 c5 => ?_) (fun n5 => ?_)
            · refine x_if_ge (by omega) (by omega) (fun z => absurd z (by omega)) (fun _ => ?_)
              refine x_G_lo (lo' := [(0, x_R 138), (1, x_I (y_tx σ (σ 138 8) - 48)), (2, x_I (y_tx σ (σ 138 8 + 1) - 48)), (3, x_I (y_tx σ (σ 138 8 + 2) - 97)), (4, x_I (y_tx σ (σ 138 8 + 3) - 48))]) ⟨rfl, rfl, rfl, rfl, rfl, trivial⟩ ?_
              exact ce_113_5 ln1 ln2 s1 s2 k1 k0 (y_sm_tr sm9 (y_sm_w (by decide) (by decide) f5)) (by omega) rfl rfl rfl (by unfold y_lk; rw [if_neg (by omega)]) ⟨a1, b1, a2, b2, a3, b3, by omega, by omega⟩ (by omega)
            · refine x_if_ge (by omega) (by omega) (fun _ => ?_) (fun z => absurd (by omega) z)
              refine x_fall ?_
              refine x_blk (b := 10) (a_113 E) rfl ?_
              unfold b_113_10
              refine x_push 0 rfl ?_
              refine x_zret (by decide) ?_
              exact k0 (if_neg (fun w => by omega)) _ (sm9)
          · refine x_fall ?_
            refine x_blk (b := 7) (a_113 E) rfl ?_
            unfold b_113_7
            refine x_istore ?_
            refine x_aload rfl ?_
            refine x_dup rfl ?_
            refine x_getI (r := 138) rfl (by decide) (by decide) (by decide) rfl ?_
            intro gc gd
            refine x_iload rfl ?_
            refine x_push 2 rfl ?_
            refine x_icmp_ne (by omega) (by omega) (by omega) (by omega) (fun z => absurd z (by omega)) (fun _ => ?_)
            refine x_blk (b := 8) (a_113 E) rfl ?_
            unfold b_113_8
            refine x_push 0 rfl ?_
            refine x_fall ?_
            refine x_blk (b := 9) (a_113 E) rfl ?_
            unfold b_113_9
            refine x_iadd ?_
            refine x_putI (r := 138) rfl (by decide) (by decide) (by decide) rfl ⟨by decide, rfl⟩ (by omega) (by omega) (fun S9 e9 => ?_)
            refine x_iload rfl ?_
            refine x_if_lt (by omega) (by omega) (fun _ => ?_) (fun z => absurd (by omega) z)
            refine x_blk (b := 10) (a_113 E) rfl ?_
            unfold b_113_10
            refine x_push 0 rfl ?_
            refine x_zret (by decide) ?_
            exact k0 (if_neg (fun w => by omega)) _ (y_sm_tr sm3 (y_sm_e e9 (Or.inr (by decide))))
      · refine x_fall ?_
        exact fl _ _ _ rfl (by omega) (y_sm_tr (y_sm_w (by decide) (by decide) f1) (y_sm_w (by decide) (by decide) f2))
    · refine x_fall ?_
      refine x_blk (b := 2) (a_113 E) rfl ?_
      unfold b_113_2
      refine x_istore ?_
      refine x_iload rfl ?_
      refine x_if_ge (by omega) (by omega) (fun _ => ?_) (fun z => absurd (by omega) z)
      refine x_push (-1) rfl ?_
      refine x_goto ?_
      exact fl _ _ _ rfl (by omega) (y_sm_w (by decide) (by decide) f1)
  · refine x_istore ?_
    refine x_iload rfl ?_
    refine x_if_ge (by omega) (by omega) (fun _ => ?_) (fun z => absurd (by omega) z)
    refine x_push (-1) rfl ?_
    refine x_goto ?_
    refine x_blk (b := 2) (a_113 E) rfl ?_
    unfold b_113_2
    refine x_istore ?_
    refine x_iload rfl ?_
    refine x_if_ge (by omega) (by omega) (fun _ => ?_) (fun z => absurd (by omega) z)
    refine x_push (-1) rfl ?_
    refine x_goto ?_
    exact fl _ _ _ rfl (by omega) y_sm_rf
