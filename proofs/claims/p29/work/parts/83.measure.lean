set_option maxHeartbeats 8000000 in
theorem rs_81_b10 {E : q_E} {σ : x_S} {Q : Option q_V → x_S → Prop} {a1 : Int} (a1l : 0 ≤ a1) (a1h : a1 ≤ 1) (rq0 : (1 ≤ σ 138 10 ∧ σ 138 10 ≤ 40) ∧ y_tr (σ 145) (σ 138 10).toNat) (hP : y_PI (σ 140)) (k : ∀ τ, y_rf σ τ → y_gd τ → τ 138 10 = σ 138 10 → Q none τ) : ∀ (N : Nat) (v : Int) (τ : x_S), (v + 1).toNat = N → -1 ≤ v → v < σ 138 10 → y_rf σ τ → τ 138 10 = σ 138 10 → (∀ m, τ 145 m = σ 145 m) → (∀ u : Nat, v < u → (u : Int) < σ 138 10 → (u : Int) < τ 146 u ∧ τ 146 u ≤ σ 138 10 ∧ y_op (σ 145) (τ 146 u).toNat = y_op (σ 145) u - 1) → (∀ u : Nat, v < u → (u : Int) < σ 138 10 → 0 ≤ τ 147 u ∧ τ 147 u ≤ 1) → x_G E m_81 Q (t_81 10) [(0, x_R 138), (1, x_I a1), (2, x_I v)] [] τ := by
  have ru := hP.2.2.2.1
  have kd := hP.1
  intro N
  induction N using Nat.strongRecOn with
  | ind N ih =>
    intro v τ hN v1 v2 F hg hl hp hv
    refine x_blk (b := 10) (a_81 E) rfl ?_
    unfold b_81_10
    refine x_iload rfl ?_
    refine x_if_lt (by omega) (by omega) (fun z1 => ?_) (fun z1 => ?_)
    · skip
      refine x_blk (b := 1) (a_81 E) rfl ?_
      unfold b_81_1
      refine x_vret ?_
      refine k τ F ⟨by omega, ?_, fun u hu => ?_⟩ hg
      · rw [hg]; exact y_tr_ext (fun i _ => (hl i).symm) rq0.2
      · have h := hp u (by omega) (by omega)
        refine ⟨h.1, by omega, ?_⟩
        rw [y_op_ext (p := τ 145) (q := σ 145) (fun i _ => hl i), y_op_ext (p := τ 145) (q := σ 145) (fun i _ => hl i)]
        exact h.2.2
    · skip
      obtain ⟨w, hw⟩ : ∃ w : Nat, v = w := ⟨v.toNat, by omega⟩
      subst hw
      obtain ⟨d1, d2, d3, d4, d5, d6, d7⟩ := y_gdn (p := σ 145) (past := τ 146) (g := σ 138 10) (v := w) rq0.2 (by omega) (fun u h1 h2 => hp u (by omega) h2)
      refine x_aload rfl ?_
      refine x_getR (r := 138) rfl (by decide) (by decide) rfl ?_
      refine x_iload rfl ?_
      refine x_iald (r := 145) (n := 40) (m := w) rfl rfl (by decide) (fun _ => rfl) (by omega) (by omega) (by omega) ?_
      rw [hl]
      intro g2a g2b
      refine x_cS (fun _ => rfl) (Nat.le_of_ble_eq_true rfl) ?_
      refine rs_0 (by omega) (by omega) (fun v3 v3a v3b v3c => ?_)
      refine x_istore ?_
      refine x_iload rfl ?_
      refine x_push 1 rfl ?_
      refine x_icmp_le (by omega) (by omega) (by omega) (by omega) (fun z4 => ?_) (fun z4 => ?_)
      · skip
        refine x_blk (b := 2) (a_81 E) rfl ?_
        unfold b_81_2
        refine x_push 0 rfl ?_
        refine x_fall ?_
        refine x_blk (b := 3) (a_81 E) rfl ?_
        unfold b_81_3
        refine x_istore ?_
        refine x_X_lo (lo' := [(0, x_R 138), (1, x_I _), (2, x_I _), (3, x_I _), (4, x_I _)]) ⟨rfl, rfl, rfl, rfl, rfl, trivial⟩ ?_
        refine x_aload rfl ?_
        refine x_getR (r := 138) rfl (by decide) (by decide) rfl ?_
        refine x_iload rfl ?_
        refine x_iload rfl ?_
        refine x_if_ne (by omega) (by omega) (fun z5 => ?_) (fun z5 => ?_)
        · skip
          refine x_iload rfl ?_
          refine x_push 1 rfl ?_
          refine x_iadd ?_
          refine x_goto ?_
          refine x_blk (b := 5) (a_81 E) rfl ?_
          unfold b_81_5
          refine x_astN (m := w) y_m146 F (by omega) (by omega) (by omega) (by omega) (by omega) (fun S6 e6 F6 => ?_)
          have w6 := x_up_at e6
          refine x_iload rfl ?_
          refine x_if_ne (by omega) (by omega) (fun z7 => ?_) (fun z => absurd (by omega) z)
          refine x_push 0 rfl ?_
          refine x_goto ?_
          refine x_blk (b := 8) (a_81 E) rfl ?_
          unfold b_81_8
          refine x_istore ?_
          refine x_aload rfl ?_
          refine x_getR (r := 138) rfl (by decide) (by decide) rfl ?_
          refine x_iload rfl ?_
          refine x_aload rfl ?_
          refine x_getR (r := 138) rfl (by decide) (by decide) rfl ?_
          refine x_iload rfl ?_
          refine x_aload rfl ?_
          refine x_getR (r := 138) rfl (by decide) (by decide) rfl ?_
          refine x_iload rfl ?_
          refine x_iald (r := 145) (n := 40) (m := w) rfl rfl (by decide) (fun _ => rfl) (by omega) (by omega) (by omega) ?_
          have q8_0 : S6 145 (w) = τ 145 (w) := x_up_nr e6 (by decide)
          rw [q8_0]
          rw [hl]
          intro g8a g8b
          refine x_iload rfl ?_
          refine x_cS (fun _ => rfl) (Nat.le_of_ble_eq_true rfl) ?_
          refine rs_17 (by omega) (by omega) (by omega) (by omega) (by omega) (by omega) (fun v9 v9a v9b => ?_)
          refine x_iald140 F6 (by omega) (by omega) ?_
          intro g10a g10b
          have en10 := hP.2.2.1 (v9).toNat (by omega) (by omega)
          refine x_astN (m := w) y_m147 F6 (by omega) (by omega) (by omega) (by omega) (by omega) (fun S11 e11 F11 => ?_)
          have w11 := x_up_at e11
          refine x_iinc (-1) rfl rfl ?_
          refine x_X_lo (lo' := [(0, x_R 138), (1, x_I _), (2, x_I _), (3, x_I _), (4, x_I _), (5, x_I _)]) ⟨rfl, rfl, rfl, rfl, rfl, rfl, trivial⟩ ?_
          refine x_goto ?_
          refine x_G_lo (lo' := [(0, x_R 138), (1, x_I _), (2, x_I _)]) ⟨rfl, rfl, rfl, trivial⟩ ?_
          refine ih _ (by omega) _ S11 rfl (by omega) (by omega) F11 ?_ (fun m => ?_) (fun x h1 h2 => ?_) (fun x h1 h2 => ?_)
          · rw [x_up_nr e11 (by decide), x_up_nr e6 (by decide)]; exact hg
          · rw [x_up_nr e11 (by decide), x_up_nr e6 (by decide)]; exact hl m
          · by_cases cx : x = w
            · subst cx
              have q1 : S11 146 x = _ := (x_up_nr e11 (by decide)).trans w6
              rw [q1]
              refine ⟨by omega, by omega, by omega⟩
            · rw [x_up_nr e11 (by decide), x_up_ne e6 (fun z => cx z.2)]; exact hp x (by omega) h2
          · by_cases cx : x = w
            · subst cx
              rw [w11]; omega
            · rw [x_up_ne e11 (fun z => cx z.2), x_up_nr e6 (by decide)]; exact hv x (by omega) h2
        · skip
          refine x_blk (b := 4) (a_81 E) rfl ?_
          unfold b_81_4
          refine x_iload rfl ?_
          refine x_push 1 rfl ?_
          refine x_icmp_ne (by omega) (by omega) (by omega) (by omega) (fun z12 => ?_) (fun z => absurd (by omega) z)
          refine x_aload rfl ?_
          refine x_getR (r := 138) rfl (by decide) (by decide) rfl ?_
          refine x_iload rfl ?_
          refine x_push 1 rfl ?_
          refine x_iadd ?_
          refine x_iald (r := 146) (n := 40) (m := w + 1) rfl rfl (by decide) (fun _ => rfl) (by omega) (by omega) (by omega) ?_
          intro g13a g13b
          refine x_goto ?_
          refine x_blk (b := 5) (a_81 E) rfl ?_
          unfold b_81_5
          refine x_astN (m := w) y_m146 F (by omega) (by omega) (by omega) (by omega) (by omega) (fun S14 e14 F14 => ?_)
          have w14 := x_up_at e14
          refine x_iload rfl ?_
          refine x_if_ne (by omega) (by omega) (fun z => absurd z (by omega)) (fun z15 => ?_)
          refine x_blk (b := 7) (a_81 E) rfl ?_
          unfold b_81_7
          refine x_iload rfl ?_
          refine x_push 1 rfl ?_
          refine x_icmp_ne (by omega) (by omega) (by omega) (by omega) (fun z16 => ?_) (fun z => absurd (by omega) z)
          have V1 := hv (w + 1) (by omega) (by omega)
          refine x_aload rfl ?_
          refine x_getR (r := 138) rfl (by decide) (by decide) rfl ?_
          refine x_iload rfl ?_
          refine x_push 1 rfl ?_
          refine x_iadd ?_
          refine x_iald (r := 147) (n := 40) (m := w + 1) rfl rfl (by decide) (fun _ => rfl) (by omega) (by omega) (by omega) ?_
          have q17_0 : S14 147 (w + 1) = τ 147 (w + 1) := x_up_nr e14 (by decide)
          rw [q17_0]
          intro g17a g17b
          refine x_goto ?_
          refine x_blk (b := 8) (a_81 E) rfl ?_
          unfold b_81_8
          refine x_istore ?_
          refine x_aload rfl ?_
          refine x_getR (r := 138) rfl (by decide) (by decide) rfl ?_
          refine x_iload rfl ?_
          refine x_aload rfl ?_
          refine x_getR (r := 138) rfl (by decide) (by decide) rfl ?_
          refine x_iload rfl ?_
          refine x_aload rfl ?_
          refine x_getR (r := 138) rfl (by decide) (by decide) rfl ?_
          refine x_iload rfl ?_
          refine x_iald (r := 145) (n := 40) (m := w) rfl rfl (by decide) (fun _ => rfl) (by omega) (by omega) (by omega) ?_
          have q18_0 : S14 145 (w) = τ 145 (w) := x_up_nr e14 (by decide)
          rw [q18_0]
          rw [hl]
          intro g18a g18b
          refine x_iload rfl ?_
          refine x_cS (fun _ => rfl) (Nat.le_of_ble_eq_true rfl) ?_
          refine rs_17 (by omega) (by omega) (by omega) (by omega) (by omega) (by omega) (fun v19 v19a v19b => ?_)
          refine x_iald140 F14 (by omega) (by omega) ?_
          intro g20a g20b
          have en20 := hP.2.2.1 (v19).toNat (by omega) (by omega)
          refine x_astN (m := w) y_m147 F14 (by omega) (by omega) (by omega) (by omega) (by omega) (fun S21 e21 F21 => ?_)
          have w21 := x_up_at e21
          refine x_iinc (-1) rfl rfl ?_
          refine x_X_lo (lo' := [(0, x_R 138), (1, x_I _), (2, x_I _), (3, x_I _), (4, x_I _), (5, x_I _)]) ⟨rfl, rfl, rfl, rfl, rfl, rfl, trivial⟩ ?_
          refine x_goto ?_
          refine x_G_lo (lo' := [(0, x_R 138), (1, x_I _), (2, x_I _)]) ⟨rfl, rfl, rfl, trivial⟩ ?_
          refine ih _ (by omega) _ S21 rfl (by omega) (by omega) F21 ?_ (fun m => ?_) (fun x h1 h2 => ?_) (fun x h1 h2 => ?_)
          · rw [x_up_nr e21 (by decide), x_up_nr e14 (by decide)]; exact hg
          · rw [x_up_nr e21 (by decide), x_up_nr e14 (by decide)]; exact hl m
          · by_cases cx : x = w
            · subst cx
              have q1 : S21 146 x = _ := (x_up_nr e21 (by decide)).trans w14
              rw [q1]
              refine ⟨by omega, by omega, by omega⟩
            · rw [x_up_nr e21 (by decide), x_up_ne e14 (fun z => cx z.2)]; exact hp x (by omega) h2
          · by_cases cx : x = w
            · subst cx
              rw [w21]; omega
            · rw [x_up_ne e21 (fun z => cx z.2), x_up_nr e14 (by decide)]; exact hv x (by omega) h2
      · skip
        refine x_aload rfl ?_
        refine x_getR (r := 138) rfl (by decide) (by decide) rfl ?_
        refine x_iload rfl ?_
        refine x_push 1 rfl ?_
        refine x_iadd ?_
        refine x_iald (r := 146) (n := 40) (m := w + 1) rfl rfl (by decide) (fun _ => rfl) (by omega) (by omega) (by omega) ?_
        intro g22a g22b
        refine x_goto ?_
        refine x_blk (b := 3) (a_81 E) rfl ?_
        unfold b_81_3
        refine x_istore ?_
        refine x_X_lo (lo' := [(0, x_R 138), (1, x_I _), (2, x_I _), (3, x_I _), (4, x_I _)]) ⟨rfl, rfl, rfl, rfl, rfl, trivial⟩ ?_
        refine x_aload rfl ?_
        refine x_getR (r := 138) rfl (by decide) (by decide) rfl ?_
        refine x_iload rfl ?_
        refine x_iload rfl ?_
        refine x_if_ne (by omega) (by omega) (fun z => absurd z (by omega)) (fun z23 => ?_)
        refine x_blk (b := 4) (a_81 E) rfl ?_
        unfold b_81_4
        refine x_iload rfl ?_
        refine x_push 1 rfl ?_
        refine x_icmp_ne (by omega) (by omega) (by omega) (by omega) (fun z => absurd z (by omega)) (fun z24 => ?_)
        refine x_blk (b := 6) (a_81 E) rfl ?_
        unfold b_81_6
        refine x_aload rfl ?_
        refine x_getR (r := 138) rfl (by decide) (by decide) rfl ?_
        refine x_iload rfl ?_
        refine x_iald (r := 146) (n := 40) (m := (τ 146 (w + 1)).toNat) rfl rfl (by decide) (fun _ => rfl) (by omega) (by omega) (by omega) ?_
        intro g25a g25b
        refine x_fall ?_
        refine x_blk (b := 5) (a_81 E) rfl ?_
        unfold b_81_5
        refine x_astN (m := w) y_m146 F (by omega) (by omega) (by omega) (by omega) (by omega) (fun S26 e26 F26 => ?_)
        have w26 := x_up_at e26
        refine x_iload rfl ?_
        refine x_if_ne (by omega) (by omega) (fun z => absurd z (by omega)) (fun z27 => ?_)
        refine x_blk (b := 7) (a_81 E) rfl ?_
        unfold b_81_7
        refine x_iload rfl ?_
        refine x_push 1 rfl ?_
        refine x_icmp_ne (by omega) (by omega) (by omega) (by omega) (fun z => absurd z (by omega)) (fun z28 => ?_)
        refine x_blk (b := 9) (a_81 E) rfl ?_
        unfold b_81_9
        have V1 := hv (w + 1) (by omega) (by omega)
        have V2 := hv (τ 146 (w + 1)).toNat (by omega) (by omega)
        refine x_push 2 rfl ?_
        refine x_aload rfl ?_
        refine x_getR (r := 138) rfl (by decide) (by decide) rfl ?_
        refine x_iload rfl ?_
        refine x_push 1 rfl ?_
        refine x_iadd ?_
        refine x_iald (r := 147) (n := 40) (m := w + 1) rfl rfl (by decide) (fun _ => rfl) (by omega) (by omega) (by omega) ?_
        have q29_0 : S26 147 (w + 1) = τ 147 (w + 1) := x_up_nr e26 (by decide)
        rw [q29_0]
        intro g29a g29b
        refine x_imul ?_
        refine x_aload rfl ?_
        refine x_getR (r := 138) rfl (by decide) (by decide) rfl ?_
        refine x_iload rfl ?_
        refine x_iald (r := 147) (n := 40) (m := (τ 146 (w + 1)).toNat) rfl rfl (by decide) (fun _ => rfl) (by omega) (by omega) (by omega) ?_
        have q30_0 : S26 147 ((τ 146 (w + 1)).toNat) = τ 147 ((τ 146 (w + 1)).toNat) := x_up_nr e26 (by decide)
        rw [q30_0]
        intro g30a g30b
        refine x_iadd ?_
        refine x_fall ?_
        refine x_blk (b := 8) (a_81 E) rfl ?_
        unfold b_81_8
        refine x_istore ?_
        refine x_aload rfl ?_
        refine x_getR (r := 138) rfl (by decide) (by decide) rfl ?_
        refine x_iload rfl ?_
        refine x_aload rfl ?_
        refine x_getR (r := 138) rfl (by decide) (by decide) rfl ?_
        refine x_iload rfl ?_
        refine x_aload rfl ?_
        refine x_getR (r := 138) rfl (by decide) (by decide) rfl ?_
        refine x_iload rfl ?_
        refine x_iald (r := 145) (n := 40) (m := w) rfl rfl (by decide) (fun _ => rfl) (by omega) (by omega) (by omega) ?_
        have q31_0 : S26 145 (w) = τ 145 (w) := x_up_nr e26 (by decide)
        rw [q31_0]
        rw [hl]
        intro g31a g31b
        refine x_iload rfl ?_
        refine x_cS (fun _ => rfl) (Nat.le_of_ble_eq_true rfl) ?_
        refine rs_17 (by omega) (by omega) (by omega) (by omega) (by omega) (by omega) (fun v32 v32a v32b => ?_)
        refine x_iald140 F26 (by omega) (by omega) ?_
        intro g33a g33b
        have en33 := hP.2.2.1 (v32).toNat (by omega) (by omega)
        refine x_astN (m := w) y_m147 F26 (by omega) (by omega) (by omega) (by omega) (by omega) (fun S34 e34 F34 => ?_)
        have w34 := x_up_at e34
        refine x_iinc (-1) rfl rfl ?_
        refine x_X_lo (lo' := [(0, x_R 138), (1, x_I _), (2, x_I _), (3, x_I _), (4, x_I _), (5, x_I _)]) ⟨rfl, rfl, rfl, rfl, rfl, rfl, trivial⟩ ?_
        refine x_goto ?_
        refine x_G_lo (lo' := [(0, x_R 138), (1, x_I _), (2, x_I _)]) ⟨rfl, rfl, rfl, trivial⟩ ?_
        refine ih _ (by omega) _ S34 rfl (by omega) (by omega) F34 ?_ (fun m => ?_) (fun x h1 h2 => ?_) (fun x h1 h2 => ?_)
        · rw [x_up_nr e34 (by decide), x_up_nr e26 (by decide)]; exact hg
        · rw [x_up_nr e34 (by decide), x_up_nr e26 (by decide)]; exact hl m
        · by_cases cx : x = w
          · subst cx
            have q1 : S34 146 x = _ := (x_up_nr e34 (by decide)).trans w26
            rw [q1]
            refine ⟨by omega, by omega, by omega⟩
          · rw [x_up_nr e34 (by decide), x_up_ne e26 (fun z => cx z.2)]; exact hp x (by omega) h2
        · by_cases cx : x = w
          · subst cx
            rw [w34]; omega
          · rw [x_up_ne e34 (fun z => cx z.2), x_up_nr e26 (by decide)]; exact hv x (by omega) h2
theorem rs_81 {E : q_E} {σ : x_S} {Q : Option q_V → x_S → Prop} {a1 : Int} (a1l : 0 ≤ a1) (a1h : a1 ≤ 1) (rq0 : (1 ≤ σ 138 10 ∧ σ 138 10 ≤ 40) ∧ y_tr (σ 145) (σ 138 10).toNat) (hP : y_PI (σ 140)) (k : ∀ τ, y_rf σ τ → y_gd τ → τ 138 10 = σ 138 10 → Q none τ) : x_P E 81 [x_R 138, x_I a1] σ Q := by
  have ru := hP.2.2.2.1
  have kd := hP.1
  refine x_Mt e_81 (h_81 E) (Nat.le_of_ble_eq_true rfl) t_81 rfl ?_
  refine x_blk (b := 0) (a_81 E) rfl ?_
  unfold b_81_0
  refine x_aload rfl ?_
  refine x_getI (r := 138) rfl (by decide) (by decide) (by decide) rfl ?_
  intro g1a g1b
  refine x_push 1 rfl ?_
  refine x_isub ?_
  refine x_istore ?_
  refine x_fall ?_
  refine x_G_lo (lo' := [(0, x_R 138), (1, x_I _), (2, x_I _)]) ⟨rfl, rfl, rfl, trivial⟩ ?_
  exact rs_81_b10 a1l a1h rq0 hP k _ _ σ rfl (by omega) (by omega) y_rf_rf rfl (fun _ => rfl) (fun u h1 h2 => absurd h1 (by omega)) (fun u h1 h2 => absurd h1 (by omega))
theorem rs_80_b2 {E : q_E} {σ : x_S} {Q : Option q_V → x_S → Prop} {a1 a2 : Int} (a1l : 0 ≤ a1) (a1h : a1 ≤ 2) (a2l : 0 ≤ a2) (a2h : a2 ≤ 1) (hP : y_PI (σ 140)) (k : ∀ τ, y_rf σ τ → y_gd τ → τ 138 10 ≤ 11 → Q none τ) : ∀ (N : Nat) (v : Int) (τ : x_S), (11 - v).toNat = N → 0 ≤ v → v ≤ σ 140 (2 + a1.toNat) → y_rf σ τ → τ 138 10 = σ 140 (2 + a1.toNat) → (∀ m : Nat, (m : Int) < v → τ 145 m = σ 140 (5 + 11 * a1.toNat + m)) → x_G E m_80 Q (t_80 2) [(0, x_R 138), (1, x_I a1), (2, x_I a2), (3, x_I v)] [] τ := by
  have ru := hP.2.2.2.1
  have kd := hP.1
  intro N
  induction N using Nat.strongRecOn with
  | ind N ih =>
    intro v τ hN v1 v2 F hg hl
    have sz := (hP.2.1 a1.toNat (by omega)).1
    have rq81 : (1 ≤ τ 138 10 ∧ τ 138 10 ≤ 40) ∧ (v = σ 140 (2 + a1.toNat) → y_tr (τ 145) (τ 138 10).toNat) := ⟨by omega, fun hv => by rw [hg]; exact y_tr_ext (fun i hi => (hl i (by omega)).symm) (hP.2.1 a1.toNat (by omega)).2⟩
    refine x_blk (b := 2) (a_80 E) rfl ?_
    unfold b_80_2
    refine x_iload rfl ?_
    refine x_aload rfl ?_
    refine x_getI (r := 138) rfl (by decide) (by decide) (by decide) rfl ?_
    intro g1a g1b
    refine x_icmp_ge (by omega) (by omega) (by omega) (by omega) (fun z2 => ?_) (fun z2 => ?_)
    · skip
      refine x_aload rfl ?_
      refine x_getR (r := 138) rfl (by decide) (by decide) rfl ?_
      refine x_iload rfl ?_
      refine x_aload rfl ?_
      refine x_getR (r := 138) rfl (by decide) (by decide) rfl ?_
      refine x_push 5 rfl ?_
      refine x_push 11 rfl ?_
      refine x_iload rfl ?_
      refine x_imul ?_
      refine x_iadd ?_
      refine x_iload rfl ?_
      refine x_iadd ?_
      refine x_iald140N (m := 5 + 11 * a1.toNat + v.toNat) F (by omega) (by omega) (by omega) ?_
      intro g3a g3b
      refine x_astN (m := v.toNat) y_m145 F (by omega) (by omega) (by omega) (by omega) (by omega) (fun S4 e4 F4 => ?_)
      have w4 := x_up_at e4
      refine x_iinc 1 rfl rfl ?_
      refine x_goto ?_
      refine x_G_lo (lo' := [(0, x_R 138), (1, x_I _), (2, x_I _), (3, x_I _)]) ⟨rfl, rfl, rfl, rfl, trivial⟩ ?_
      refine ih _ (by omega) _ S4 rfl (by omega) (by omega) F4 ?_ (fun m h1 => ?_)
      · rw [x_up_nr e4 (by decide)]; exact hg
      · by_cases cx : m = v.toNat
        · subst cx
          exact w4
        · rw [x_up_ne e4 (fun z => cx z.2)]; exact hl m (by omega)
    · skip
      refine x_blk (b := 1) (a_80 E) rfl ?_
      unfold b_80_1
      refine x_aload rfl ?_
      refine x_iload rfl ?_
      refine x_cV (fun _ => rfl) rfl (by decide) (Nat.le_of_ble_eq_true rfl) ?_
      refine rs_81 (by omega) (by omega) ⟨by omega, rq81.2 (by omega)⟩ (y_rf_P F hP) (fun S5 f5 k5_0 k5_1 => ?_)
      have F5 := y_rf_tr F f5
      refine x_vret ?_
      exact k _ F5 k5_0 (by omega)
theorem rs_80 {E : q_E} {σ : x_S} {Q : Option q_V → x_S → Prop} {a1 a2 : Int} (a1l : 0 ≤ a1) (a1h : a1 ≤ 2) (a2l : 0 ≤ a2) (a2h : a2 ≤ 1) (hP : y_PI (σ 140)) (k : ∀ τ, y_rf σ τ → y_gd τ → τ 138 10 ≤ 11 → Q none τ) : x_P E 80 [x_R 138, x_I a1, x_I a2] σ Q := by
  have ru := hP.2.2.2.1
  have kd := hP.1
  refine x_Mt e_80 (h_80 E) (Nat.le_of_ble_eq_true rfl) t_80 rfl ?_
  refine x_blk (b := 0) (a_80 E) rfl ?_
  unfold b_80_0
  have hz : (2 + a1).toNat = 2 + a1.toNat := by omega
  have sz := (hP.2.1 a1.toNat (by omega)).1
  refine x_aload rfl ?_
  refine x_aload rfl ?_
  refine x_getR (r := 138) rfl (by decide) (by decide) rfl ?_
  refine x_push 2 rfl ?_
  refine x_iload rfl ?_
  refine x_iadd ?_
  refine x_iald140 y_rf_rf (by omega) (by omega) ?_
  intro g1a g1b
  refine x_put138 (by decide) rfl ⟨by decide, rfl⟩ (by decide) y_rf_rf (by omega) (by omega) (fun S2 e2 F2 => ?_)
  refine x_push 0 rfl ?_
  refine x_istore ?_
  refine x_fall ?_
  refine x_G_lo (lo' := [(0, x_R 138), (1, x_I _), (2, x_I _), (3, x_I _)]) ⟨rfl, rfl, rfl, rfl, trivial⟩ ?_
  exact rs_80_b2 a1l a1h a2l a2h hP k _ _ S2 rfl (by omega) (by omega) F2 ((x_up_at e2).trans (by rw [hz])) (fun m h => absurd h (by omega))
