theorem rs_1 {E : q_E} {σ : x_S} {Q : Option q_V → x_S → Prop} {a1 a2 a3 : Int} (a1l : 0 ≤ a1) (a1h : a1 ≤ 4) (a2l : 0 ≤ a2) (a2h : a2 ≤ 53) (a3l : 0 ≤ a3) (a3h : a3 ≤ 53) (C0 : y_SI σ) (k : ∀ v, 0 ≤ v → v ≤ 1 → Q (some (x_I v)) σ) : x_P E 1 [x_R 138, x_I a1, x_I a2, x_I a3] σ Q := by
  refine x_Mt e_1 (h_1 E) (Nat.le_of_ble_eq_true rfl) t_1 rfl ?_
  refine x_blk (b := 0) (a_1 E) rfl ?_
  unfold b_1_0
  refine x_iload rfl ?_
  refine x_cS (fun _ => rfl) (Nat.le_of_ble_eq_true rfl) ?_
  refine rs_0 (by omega) (by omega) (fun v1 v1a v1b v1c => ?_)
  refine x_istore ?_
  refine x_iload rfl ?_
  refine x_if_le (by omega) (by omega) (fun z2 => ?_) (fun z2 => ?_)
  · skip
    refine x_blk (b := 1) (a_1 E) rfl ?_
    unfold b_1_1
    refine x_iload rfl ?_
    refine x_if_ne (by omega) (by omega) (fun z3 => ?_) (fun z3 => ?_)
    · skip
      refine x_fall ?_
      refine x_blk (b := 3) (a_1 E) rfl ?_
      unfold b_1_3
      refine x_iload rfl ?_
      refine x_push 1 rfl ?_
      refine x_icmp_le (by omega) (by omega) (by omega) (by omega) (fun z4 => ?_) (fun z => absurd (by omega) z)
      refine x_blk (b := 4) (a_1 E) rfl ?_
      unfold b_1_4
      refine x_iload rfl ?_
      refine x_if_ne (by omega) (by omega) (fun z5 => ?_) (fun z5 => ?_)
      · skip
        refine x_fall ?_
        refine x_blk (b := 5) (a_1 E) rfl ?_
        unfold b_1_5
        refine x_push 1 rfl ?_
        refine x_goto ?_
        refine x_blk (b := 6) (a_1 E) rfl ?_
        unfold b_1_6
        refine x_zret (by decide) ?_
        exact k _ (by omega) (by omega) 
      · skip
        refine x_blk (b := 2) (a_1 E) rfl ?_
        unfold b_1_2
        refine x_push 0 rfl ?_
        refine x_fall ?_
        refine x_blk (b := 6) (a_1 E) rfl ?_
        unfold b_1_6
        refine x_zret (by decide) ?_
        exact k _ (by omega) (by omega) 
    · skip
      refine x_blk (b := 2) (a_1 E) rfl ?_
      unfold b_1_2
      refine x_push 0 rfl ?_
      refine x_fall ?_
      refine x_blk (b := 6) (a_1 E) rfl ?_
      unfold b_1_6
      refine x_zret (by decide) ?_
      exact k _ (by omega) (by omega) 
  · skip
    refine x_aload rfl ?_
    refine x_getR (r := 138) rfl (by decide) (by decide) rfl ?_
    refine x_iload rfl ?_
    refine x_aldS C0 (by omega) (by omega) ?_
    intro g6a g6b
    refine x_if_eq (by omega) (by omega) (fun z7 => ?_) (fun z7 => ?_)
    · skip
      refine x_blk (b := 2) (a_1 E) rfl ?_
      unfold b_1_2
      refine x_push 0 rfl ?_
      refine x_fall ?_
      refine x_blk (b := 6) (a_1 E) rfl ?_
      unfold b_1_6
      refine x_zret (by decide) ?_
      exact k _ (by omega) (by omega) 
    · skip
      refine x_goto ?_
      refine x_blk (b := 3) (a_1 E) rfl ?_
      unfold b_1_3
      refine x_iload rfl ?_
      refine x_push 1 rfl ?_
      refine x_icmp_le (by omega) (by omega) (by omega) (by omega) (fun z8 => ?_) (fun z8 => ?_)
      · skip
        refine x_blk (b := 4) (a_1 E) rfl ?_
        unfold b_1_4
        refine x_iload rfl ?_
        refine x_if_ne (by omega) (by omega) (fun z9 => ?_) (fun z9 => ?_)
        · skip
          refine x_fall ?_
          refine x_blk (b := 5) (a_1 E) rfl ?_
          unfold b_1_5
          refine x_push 1 rfl ?_
          refine x_goto ?_
          refine x_blk (b := 6) (a_1 E) rfl ?_
          unfold b_1_6
          refine x_zret (by decide) ?_
          exact k _ (by omega) (by omega) 
        · skip
          refine x_blk (b := 2) (a_1 E) rfl ?_
          unfold b_1_2
          refine x_push 0 rfl ?_
          refine x_fall ?_
          refine x_blk (b := 6) (a_1 E) rfl ?_
          unfold b_1_6
          refine x_zret (by decide) ?_
          exact k _ (by omega) (by omega) 
      · skip
        refine x_aload rfl ?_
        refine x_getR (r := 138) rfl (by decide) (by decide) rfl ?_
        refine x_iload rfl ?_
        refine x_aldS C0 (by omega) (by omega) ?_
        intro g10a g10b
        refine x_if_eq (by omega) (by omega) (fun z11 => ?_) (fun z11 => ?_)
        · skip
          refine x_blk (b := 2) (a_1 E) rfl ?_
          unfold b_1_2
          refine x_push 0 rfl ?_
          refine x_fall ?_
          refine x_blk (b := 6) (a_1 E) rfl ?_
          unfold b_1_6
          refine x_zret (by decide) ?_
          exact k _ (by omega) (by omega) 
        · skip
          refine x_goto ?_
          refine x_blk (b := 5) (a_1 E) rfl ?_
          unfold b_1_5
          refine x_push 1 rfl ?_
          refine x_goto ?_
          refine x_blk (b := 6) (a_1 E) rfl ?_
          unfold b_1_6
          refine x_zret (by decide) ?_
          exact k _ (by omega) (by omega) 
theorem rs_29_b10 {E : q_E} {σ : x_S} {Q : Option q_V → x_S → Prop} {a1 a2 a3 a4 : Int} (a1l : 0 ≤ a1) (a1h : a1 ≤ 1) (a2l : 0 ≤ a2) (a2h : a2 ≤ 4) (a3l : 0 ≤ a3) (a3h : a3 ≤ 53) (a4l : 0 ≤ a4) (a4h : a4 ≤ 53) (hP : y_PI (σ 140)) (k : ∀ τ v, y_rf σ τ → 0 ≤ v → v ≤ 53 → y_so σ τ → Q (some (x_I v)) τ) : ∀ (N : Nat) (lk pf q : Int) (τ : x_S), (3 - q).toNat = N → 0 ≤ lk → lk ≤ 1 → 0 ≤ pf → pf ≤ 53 → 0 ≤ q → q ≤ 3 → ((q = 0 ∧ pf ≤ 1) ∨ (q = 1 ∧ pf ≤ 5) ∨ (q = 2 ∧ pf ≤ 17) ∨ (q = 3 ∧ pf ≤ 53)) → y_so σ τ → y_rf σ τ → x_G E m_29 Q (t_29 10) [(0, x_R 138), (1, x_I a1), (2, x_I a2), (3, x_I a3), (4, x_I a4), (6, x_I lk), (7, x_I pf), (8, x_I q)] [] τ := by
  have ru := hP.2.2.2.1
  have kd := hP.1
  intro N
  induction N using Nat.strongRecOn with
  | ind N ih =>
    intro lk pf q τ hN lkL lkH pfL pfH qL qH ex0 ex1 F
    refine x_blk (b := 10) (a_29 E) rfl ?_
    unfold b_29_10
    refine x_iload rfl ?_
    refine x_push 3 rfl ?_
    refine x_icmp_ge (by omega) (by omega) (by omega) (by omega) (fun z1 => ?_) (fun z1 => ?_)
    · skip
      refine x_aload rfl ?_
      refine x_iload rfl ?_
      refine x_iload rfl ?_
      refine x_iload rfl ?_
      refine x_iload rfl ?_
      refine x_cV (fun _ => rfl) rfl (by decide) (Nat.le_of_ble_eq_true rfl) ?_
      refine rs_18 (by omega) (by omega) (by omega) (by omega) (by omega) (by omega) (by omega) (by omega) (y_rf_P F hP) (fun v2 v2a v2b k2_0 => ?_)
      refine x_istore ?_
      refine x_iload rfl ?_
      refine x_push (-4) rfl ?_
      refine x_icmp_ne (by omega) (by omega) (by omega) (by omega) (fun z3 => ?_) (fun z3 => ?_)
      · skip
        refine x_push 2 rfl ?_
        refine x_goto ?_
        refine x_blk (b := 6) (a_29 E) rfl ?_
        unfold b_29_6
        refine x_istore ?_
        refine x_X_lo (lo' := [(0, x_R 138), (1, x_I _), (2, x_I _), (3, x_I _), (4, x_I _), (6, x_I _), (7, x_I _), (8, x_I _), (9, x_I _), (10, x_I _)]) ⟨rfl, rfl, rfl, rfl, rfl, rfl, rfl, rfl, rfl, rfl, trivial⟩ ?_
        refine x_iload rfl ?_
        refine x_iload rfl ?_
        refine x_iload rfl ?_
        refine x_if_ne (by omega) (by omega) (fun z4 => ?_) (fun z4 => ?_)
        · skip
          refine x_push 2 rfl ?_
          refine x_goto ?_
          refine x_blk (b := 8) (a_29 E) rfl ?_
          unfold b_29_8
          refine x_imul ?_
          refine x_iadd ?_
          refine x_istore ?_
          refine x_iinc 1 rfl rfl ?_
          refine x_X_lo (lo' := [(0, x_R 138), (1, x_I _), (2, x_I _), (3, x_I _), (4, x_I _), (6, x_I _), (7, x_I _), (8, x_I _), (9, x_I _), (10, x_I _)]) ⟨rfl, rfl, rfl, rfl, rfl, rfl, rfl, rfl, rfl, rfl, trivial⟩ ?_
          refine x_goto ?_
          refine x_G_lo (lo' := [(0, x_R 138), (1, x_I _), (2, x_I _), (3, x_I _), (4, x_I _), (6, x_I _), (7, x_I _), (8, x_I _)]) ⟨rfl, rfl, rfl, rfl, rfl, rfl, rfl, rfl, trivial⟩ ?_
          exact ih _ (by omega) _ _ _ _ rfl (by omega) (by omega) (by omega) (by omega) (by omega) (by omega) (by omega) (by first | exact y_so_rf | assumption | exact y_so_tr (by assumption) (by assumption)) F
        · skip
          refine x_blk (b := 7) (a_29 E) rfl ?_
          unfold b_29_7
          refine x_iload rfl ?_
          refine x_push 1 rfl ?_
          refine x_icmp_ne (by omega) (by omega) (by omega) (by omega) (fun z5 => ?_) (fun z5 => ?_)
          · skip
            refine x_push 6 rfl ?_
            refine x_goto ?_
            refine x_blk (b := 8) (a_29 E) rfl ?_
            unfold b_29_8
            refine x_imul ?_
            refine x_iadd ?_
            refine x_istore ?_
            refine x_iinc 1 rfl rfl ?_
            refine x_X_lo (lo' := [(0, x_R 138), (1, x_I _), (2, x_I _), (3, x_I _), (4, x_I _), (6, x_I _), (7, x_I _), (8, x_I _), (9, x_I _), (10, x_I _)]) ⟨rfl, rfl, rfl, rfl, rfl, rfl, rfl, rfl, rfl, rfl, trivial⟩ ?_
            refine x_goto ?_
            refine x_G_lo (lo' := [(0, x_R 138), (1, x_I _), (2, x_I _), (3, x_I _), (4, x_I _), (6, x_I _), (7, x_I _), (8, x_I _)]) ⟨rfl, rfl, rfl, rfl, rfl, rfl, rfl, rfl, trivial⟩ ?_
            exact ih _ (by omega) _ _ _ _ rfl (by omega) (by omega) (by omega) (by omega) (by omega) (by omega) (by omega) (by first | exact y_so_rf | assumption | exact y_so_tr (by assumption) (by assumption)) F
          · skip
            refine x_blk (b := 9) (a_29 E) rfl ?_
            unfold b_29_9
            refine x_push 18 rfl ?_
            refine x_fall ?_
            refine x_blk (b := 8) (a_29 E) rfl ?_
            unfold b_29_8
            refine x_imul ?_
            refine x_iadd ?_
            refine x_istore ?_
            refine x_iinc 1 rfl rfl ?_
            refine x_X_lo (lo' := [(0, x_R 138), (1, x_I _), (2, x_I _), (3, x_I _), (4, x_I _), (6, x_I _), (7, x_I _), (8, x_I _), (9, x_I _), (10, x_I _)]) ⟨rfl, rfl, rfl, rfl, rfl, rfl, rfl, rfl, rfl, rfl, trivial⟩ ?_
            refine x_goto ?_
            refine x_G_lo (lo' := [(0, x_R 138), (1, x_I _), (2, x_I _), (3, x_I _), (4, x_I _), (6, x_I _), (7, x_I _), (8, x_I _)]) ⟨rfl, rfl, rfl, rfl, rfl, rfl, rfl, rfl, trivial⟩ ?_
            exact ih _ (by omega) _ _ _ _ rfl (by omega) (by omega) (by omega) (by omega) (by omega) (by omega) (by omega) (by first | exact y_so_rf | assumption | exact y_so_tr (by assumption) (by assumption)) F
      · skip
        refine x_blk (b := 5) (a_29 E) rfl ?_
        unfold b_29_5
        refine x_aload rfl ?_
        refine x_iload rfl ?_
        refine x_iload rfl ?_
        refine x_iload rfl ?_
        refine x_iload rfl ?_
        refine x_cV (fun _ => rfl) rfl (by decide) (Nat.le_of_ble_eq_true rfl) ?_
        refine rs_38 (by omega) (by omega) (by omega) (by omega) (by omega) (by omega) (by omega) (by omega) (by omega) (y_rf_P F hP) (fun S6 v6 f6 v6a v6b k6_0 => ?_)
        have F6 := y_rf_tr F f6
        refine x_fall ?_
        refine x_blk (b := 6) (a_29 E) rfl ?_
        unfold b_29_6
        refine x_istore ?_
        refine x_X_lo (lo' := [(0, x_R 138), (1, x_I _), (2, x_I _), (3, x_I _), (4, x_I _), (6, x_I _), (7, x_I _), (8, x_I _), (9, x_I _), (10, x_I _)]) ⟨rfl, rfl, rfl, rfl, rfl, rfl, rfl, rfl, rfl, rfl, trivial⟩ ?_
        refine x_iload rfl ?_
        refine x_iload rfl ?_
        refine x_iload rfl ?_
        refine x_if_ne (by omega) (by omega) (fun z7 => ?_) (fun z7 => ?_)
        · skip
          refine x_push 2 rfl ?_
          refine x_goto ?_
          refine x_blk (b := 8) (a_29 E) rfl ?_
          unfold b_29_8
          refine x_imul ?_
          refine x_iadd ?_
          refine x_istore ?_
          refine x_iinc 1 rfl rfl ?_
          refine x_X_lo (lo' := [(0, x_R 138), (1, x_I _), (2, x_I _), (3, x_I _), (4, x_I _), (6, x_I _), (7, x_I _), (8, x_I _), (9, x_I _), (10, x_I _)]) ⟨rfl, rfl, rfl, rfl, rfl, rfl, rfl, rfl, rfl, rfl, trivial⟩ ?_
          refine x_goto ?_
          refine x_G_lo (lo' := [(0, x_R 138), (1, x_I _), (2, x_I _), (3, x_I _), (4, x_I _), (6, x_I _), (7, x_I _), (8, x_I _)]) ⟨rfl, rfl, rfl, rfl, rfl, rfl, rfl, rfl, trivial⟩ ?_
          exact ih _ (by omega) _ _ _ _ rfl (by omega) (by omega) (by omega) (by omega) (by omega) (by omega) (by omega) (by first | exact y_so_rf | assumption | exact y_so_tr (by assumption) (by assumption)) F6
        · skip
          refine x_blk (b := 7) (a_29 E) rfl ?_
          unfold b_29_7
          refine x_iload rfl ?_
          refine x_push 1 rfl ?_
          refine x_icmp_ne (by omega) (by omega) (by omega) (by omega) (fun z8 => ?_) (fun z8 => ?_)
          · skip
            refine x_push 6 rfl ?_
            refine x_goto ?_
            refine x_blk (b := 8) (a_29 E) rfl ?_
            unfold b_29_8
            refine x_imul ?_
            refine x_iadd ?_
            refine x_istore ?_
            refine x_iinc 1 rfl rfl ?_
            refine x_X_lo (lo' := [(0, x_R 138), (1, x_I _), (2, x_I _), (3, x_I _), (4, x_I _), (6, x_I _), (7, x_I _), (8, x_I _), (9, x_I _), (10, x_I _)]) ⟨rfl, rfl, rfl, rfl, rfl, rfl, rfl, rfl, rfl, rfl, trivial⟩ ?_
            refine x_goto ?_
            refine x_G_lo (lo' := [(0, x_R 138), (1, x_I _), (2, x_I _), (3, x_I _), (4, x_I _), (6, x_I _), (7, x_I _), (8, x_I _)]) ⟨rfl, rfl, rfl, rfl, rfl, rfl, rfl, rfl, trivial⟩ ?_
            exact ih _ (by omega) _ _ _ _ rfl (by omega) (by omega) (by omega) (by omega) (by omega) (by omega) (by omega) (by first | exact y_so_rf | assumption | exact y_so_tr (by assumption) (by assumption)) F6
          · skip
            refine x_blk (b := 9) (a_29 E) rfl ?_
            unfold b_29_9
            refine x_push 18 rfl ?_
            refine x_fall ?_
            refine x_blk (b := 8) (a_29 E) rfl ?_
            unfold b_29_8
            refine x_imul ?_
            refine x_iadd ?_
            refine x_istore ?_
            refine x_iinc 1 rfl rfl ?_
            refine x_X_lo (lo' := [(0, x_R 138), (1, x_I _), (2, x_I _), (3, x_I _), (4, x_I _), (6, x_I _), (7, x_I _), (8, x_I _), (9, x_I _), (10, x_I _)]) ⟨rfl, rfl, rfl, rfl, rfl, rfl, rfl, rfl, rfl, rfl, trivial⟩ ?_
            refine x_goto ?_
            refine x_G_lo (lo' := [(0, x_R 138), (1, x_I _), (2, x_I _), (3, x_I _), (4, x_I _), (6, x_I _), (7, x_I _), (8, x_I _)]) ⟨rfl, rfl, rfl, rfl, rfl, rfl, rfl, rfl, trivial⟩ ?_
            exact ih _ (by omega) _ _ _ _ rfl (by omega) (by omega) (by omega) (by omega) (by omega) (by omega) (by omega) (by first | exact y_so_rf | assumption | exact y_so_tr (by assumption) (by assumption)) F6
    · skip
      refine x_blk (b := 4) (a_29 E) rfl ?_
      unfold b_29_4
      refine x_iload rfl ?_
      refine x_iret ?_
      exact k _ _ F (by omega) (by omega) (by first | exact y_so_rf | assumption | exact y_so_tr (by assumption) (by assumption))
theorem rs_29 {E : q_E} {σ : x_S} {Q : Option q_V → x_S → Prop} {a1 a2 a3 a4 : Int} (a1l : 0 ≤ a1) (a1h : a1 ≤ 1) (a2l : 0 ≤ a2) (a2h : a2 ≤ 4) (a3l : 0 ≤ a3) (a3h : a3 ≤ 53) (a4l : 0 ≤ a4) (a4h : a4 ≤ 53) (hP : y_PI (σ 140)) (k : ∀ τ v, y_rf σ τ → 0 ≤ v → v ≤ 53 → y_so σ τ → Q (some (x_I v)) τ) : x_P E 29 [x_R 138, x_I a1, x_I a2, x_I a3, x_I a4] σ Q := by
  have ru := hP.2.2.2.1
  have kd := hP.1
  refine x_Mt e_29 (h_29 E) (Nat.le_of_ble_eq_true rfl) t_29 rfl ?_
  refine x_blk (b := 0) (a_29 E) rfl ?_
  unfold b_29_0
  refine x_iload rfl ?_
  refine x_cS (fun _ => rfl) (Nat.le_of_ble_eq_true rfl) ?_
  refine rs_0 (by omega) (by omega) (fun v1 v1a v1b v1c => ?_)
  refine x_istore ?_
  refine x_aload rfl ?_
  refine x_getR (r := 138) rfl (by decide) (by decide) rfl ?_
  refine x_push 0 rfl ?_
  refine x_iload rfl ?_
  refine x_iload rfl ?_
  refine x_if_ne (by omega) (by omega) (fun z2 => ?_) (fun z2 => ?_)
  · skip
    refine x_push 0 rfl ?_
    refine x_goto ?_
    refine x_blk (b := 2) (a_29 E) rfl ?_
    unfold b_29_2
    refine x_cS (fun _ => rfl) (Nat.le_of_ble_eq_true rfl) ?_
    refine rs_17 (by omega) (by omega) (by omega) (by omega) (by omega) (by omega) (fun v3 v3a v3b => ?_)
    refine x_iald140 y_rf_rf (by omega) (by omega) ?_
    intro g4a g4b
    have en4 := hP.2.2.1 (v3).toNat (by omega) (by omega)
    refine x_istore ?_
    refine x_X_lo (lo' := [(0, x_R 138), (1, x_I _), (2, x_I _), (3, x_I _), (4, x_I _), (5, x_I _), (6, x_I _)]) ⟨rfl, rfl, rfl, rfl, rfl, rfl, rfl, trivial⟩ ?_
    refine x_iload rfl ?_
    refine x_istore ?_
    refine x_push 0 rfl ?_
    refine x_istore ?_
    refine x_X_lo (lo' := [(0, x_R 138), (1, x_I _), (2, x_I _), (3, x_I _), (4, x_I _), (5, x_I _), (6, x_I _), (7, x_I _), (8, x_I _)]) ⟨rfl, rfl, rfl, rfl, rfl, rfl, rfl, rfl, rfl, trivial⟩ ?_
    refine x_fall ?_
    refine x_G_lo (lo' := [(0, x_R 138), (1, x_I _), (2, x_I _), (3, x_I _), (4, x_I _), (6, x_I _), (7, x_I _), (8, x_I _)]) ⟨rfl, rfl, rfl, rfl, rfl, rfl, rfl, rfl, trivial⟩ ?_
    exact rs_29_b10 a1l a1h a2l a2h a3l a3h a4l a4h hP k  _ _ _ _ _ rfl (by omega) (by omega) (by omega) (by omega) (by omega) (by omega) (by omega) (by first | exact y_so_rf | assumption | exact y_so_tr (by assumption) (by assumption)) y_rf_rf
  · skip
    refine x_blk (b := 1) (a_29 E) rfl ?_
    unfold b_29_1
    refine x_iload rfl ?_
    refine x_push 1 rfl ?_
    refine x_icmp_ne (by omega) (by omega) (by omega) (by omega) (fun z5 => ?_) (fun z5 => ?_)
    · skip
      refine x_iload rfl ?_
      refine x_push 2 rfl ?_
      refine x_irem (by omega) (by omega) (by omega) (by omega) ?_
      refine x_goto ?_
      refine x_blk (b := 2) (a_29 E) rfl ?_
      unfold b_29_2
      refine x_cS (fun _ => rfl) (Nat.le_of_ble_eq_true rfl) ?_
      refine rs_17 (by omega) (by omega) (by omega) (by omega) (by omega) (by omega) (fun v6 v6a v6b => ?_)
      refine x_iald140 y_rf_rf (by omega) (by omega) ?_
      intro g7a g7b
      have en7 := hP.2.2.1 (v6).toNat (by omega) (by omega)
      refine x_istore ?_
      refine x_X_lo (lo' := [(0, x_R 138), (1, x_I _), (2, x_I _), (3, x_I _), (4, x_I _), (5, x_I _), (6, x_I _)]) ⟨rfl, rfl, rfl, rfl, rfl, rfl, rfl, trivial⟩ ?_
      refine x_iload rfl ?_
      refine x_istore ?_
      refine x_push 0 rfl ?_
      refine x_istore ?_
      refine x_X_lo (lo' := [(0, x_R 138), (1, x_I _), (2, x_I _), (3, x_I _), (4, x_I _), (5, x_I _), (6, x_I _), (7, x_I _), (8, x_I _)]) ⟨rfl, rfl, rfl, rfl, rfl, rfl, rfl, rfl, rfl, trivial⟩ ?_
      refine x_fall ?_
      refine x_G_lo (lo' := [(0, x_R 138), (1, x_I _), (2, x_I _), (3, x_I _), (4, x_I _), (6, x_I _), (7, x_I _), (8, x_I _)]) ⟨rfl, rfl, rfl, rfl, rfl, rfl, rfl, rfl, trivial⟩ ?_
      exact rs_29_b10 a1l a1h a2l a2h a3l a3h a4l a4h hP k  _ _ _ _ _ rfl (by omega) (by omega) (by omega) (by omega) (by omega) (by omega) (by omega) (by first | exact y_so_rf | assumption | exact y_so_tr (by assumption) (by assumption)) y_rf_rf
    · skip
      refine x_blk (b := 3) (a_29 E) rfl ?_
      unfold b_29_3
      refine x_push 2 rfl ?_
      refine x_iload rfl ?_
      refine x_push 2 rfl ?_
      refine x_irem (by omega) (by omega) (by omega) (by omega) ?_
      refine x_imul ?_
      refine x_iload rfl ?_
      refine x_push 2 rfl ?_
      refine x_irem (by omega) (by omega) (by omega) (by omega) ?_
      refine x_iadd ?_
      refine x_fall ?_
      refine x_blk (b := 2) (a_29 E) rfl ?_
      unfold b_29_2
      refine x_cS (fun _ => rfl) (Nat.le_of_ble_eq_true rfl) ?_
      refine rs_17 (by omega) (by omega) (by omega) (by omega) (by omega) (by omega) (fun v8 v8a v8b => ?_)
      refine x_iald140 y_rf_rf (by omega) (by omega) ?_
      intro g9a g9b
      have en9 := hP.2.2.1 (v8).toNat (by omega) (by omega)
      refine x_istore ?_
      refine x_X_lo (lo' := [(0, x_R 138), (1, x_I _), (2, x_I _), (3, x_I _), (4, x_I _), (5, x_I _), (6, x_I _)]) ⟨rfl, rfl, rfl, rfl, rfl, rfl, rfl, trivial⟩ ?_
      refine x_iload rfl ?_
      refine x_istore ?_
      refine x_push 0 rfl ?_
      refine x_istore ?_
      refine x_X_lo (lo' := [(0, x_R 138), (1, x_I _), (2, x_I _), (3, x_I _), (4, x_I _), (5, x_I _), (6, x_I _), (7, x_I _), (8, x_I _)]) ⟨rfl, rfl, rfl, rfl, rfl, rfl, rfl, rfl, rfl, trivial⟩ ?_
      refine x_fall ?_
      refine x_G_lo (lo' := [(0, x_R 138), (1, x_I _), (2, x_I _), (3, x_I _), (4, x_I _), (6, x_I _), (7, x_I _), (8, x_I _)]) ⟨rfl, rfl, rfl, rfl, rfl, rfl, rfl, rfl, trivial⟩ ?_
      exact rs_29_b10 a1l a1h a2l a2h a3l a3h a4l a4h hP k  _ _ _ _ _ rfl (by omega) (by omega) (by omega) (by omega) (by omega) (by omega) (by omega) (by first | exact y_so_rf | assumption | exact y_so_tr (by assumption) (by assumption)) y_rf_rf
set_option maxHeartbeats 8000000 in
theorem rs_118_b8 {E : q_E} {σ : x_S} {Q : Option q_V → x_S → Prop} {a1 : Int} (a1l : 0 ≤ a1) (a1h : a1 ≤ 1) (hP : y_PI (σ 140)) (k : ∀ τ, y_SI τ → y_rf σ τ → Q none τ) {h : Int} (ho : ∀ τ' : x_S, y_SI τ' → τ' 138 27 = y_sum (τ' 155) 54 → h ≤ τ' 138 27 → y_rf σ τ' → x_G E m_118 Q (t_118 9) [(0, x_R 138), (1, x_I a1), (2, x_I h)] [] τ') : ∀ (N : Nat) (cd : Int) (τ : x_S), (14580 - cd).toNat = N → 0 ≤ cd → cd ≤ 14580 → h ≤ τ 138 27 → y_SI τ → τ 138 27 = y_sum (τ 155) 54 → y_rf σ τ → x_G E m_118 Q (t_118 8) [(0, x_R 138), (1, x_I a1), (2, x_I h), (3, x_I cd)] [] τ := by
  have ru := hP.2.2.2.1
  have kd := hP.1
  intro N
  induction N using Nat.strongRecOn with
  | ind N ih =>
    intro cd τ hN cd1 cd2 hcm C hJ F
    have b54 : 0 ≤ τ 138 27 ∧ τ 138 27 ≤ 54 := by
      rw [hJ]
      exact ⟨y_sum_nn (fun i hi => (C i hi).1.1), (y_sum_le (c := 1) (n := 54) (fun i hi => (C i hi).1.2))⟩
    refine x_blk (b := 8) (a_118 E) rfl ?_
    unfold b_118_8
    refine x_iload rfl ?_
    refine x_push 14580 rfl ?_
    refine x_icmp_ge (by omega) (by omega) (by omega) (by omega) (fun z1 => ?_) (fun z1 => ?_)
    · skip
      refine x_iload rfl ?_
      refine x_push 2916 rfl ?_
      refine x_idiv (by omega) (by omega) (by omega) (by omega) ?_
      refine x_istore ?_
      refine x_iload rfl ?_
      refine x_push 54 rfl ?_
      refine x_idiv (by omega) (by omega) (by omega) (by omega) ?_
      refine x_push 54 rfl ?_
      refine x_irem (by omega) (by omega) (by omega) (by omega) ?_
      refine x_istore ?_
      refine x_X_lo (lo' := [(0, x_R 138), (1, x_I _), (2, x_I _), (3, x_I _), (4, x_I _), (5, x_I _)]) ⟨rfl, rfl, rfl, rfl, rfl, rfl, trivial⟩ ?_
      refine x_iload rfl ?_
      refine x_push 54 rfl ?_
      refine x_irem (by omega) (by omega) (by omega) (by omega) ?_
      refine x_istore ?_
      refine x_aload rfl ?_
      refine x_iload rfl ?_
      refine x_iload rfl ?_
      refine x_iload rfl ?_
      refine x_cV (fun _ => rfl) rfl (by decide) (Nat.le_of_ble_eq_true rfl) ?_
      refine rs_1 (by omega) (by omega) (by omega) (by omega) (by omega) (by omega) C (fun v2 v2a v2b => ?_)
      refine x_if_eq (by omega) (by omega) (fun z3 => ?_) (fun z3 => ?_)
      · skip
        refine x_blk (b := 5) (a_118 E) rfl ?_
        unfold b_118_5
        refine x_iinc 1 rfl rfl ?_
        refine x_X_lo (lo' := [(0, x_R 138), (1, x_I _), (2, x_I _), (3, x_I _), (4, x_I _), (5, x_I _), (6, x_I _)]) ⟨rfl, rfl, rfl, rfl, rfl, rfl, rfl, trivial⟩ ?_
        refine x_goto ?_
        refine x_G_lo (lo' := [(0, x_R 138), (1, x_I _), (2, x_I _), (3, x_I _)]) ⟨rfl, rfl, rfl, rfl, trivial⟩ ?_
        exact ih _ (by omega) _ _ rfl (by omega) (by omega) hcm C hJ F
      · skip
        refine x_aload rfl ?_
        refine x_iload rfl ?_
        refine x_iload rfl ?_
        refine x_iload rfl ?_
        refine x_iload rfl ?_
        refine x_cV (fun _ => rfl) rfl (by decide) (Nat.le_of_ble_eq_true rfl) ?_
        refine rs_29 (by omega) (by omega) (by omega) (by omega) (by omega) (by omega) (by omega) (by omega) (y_rf_P F hP) (fun S4 v4 f4 v4a v4b k4_0 => ?_)
        have F4 := y_rf_tr F f4
        have C4 := y_so_C C k4_0
        refine x_istore ?_
        refine x_X_lo (lo' := [(0, x_R 138), (1, x_I _), (2, x_I _), (3, x_I _), (4, x_I _), (5, x_I _), (6, x_I _), (7, x_I _)]) ⟨rfl, rfl, rfl, rfl, rfl, rfl, rfl, rfl, trivial⟩ ?_
        refine x_aload rfl ?_
        refine x_dup rfl ?_
        have j4 := k4_0 138 27 (by decide)
        refine x_getI (r := 138) rfl (by decide) (by decide) (by decide) rfl ?_
        intro g5a g5b
        refine x_aload rfl ?_
        refine x_getR (r := 138) rfl (by decide) (by decide) rfl ?_
        refine x_iload rfl ?_
        refine x_aldS C4 (by omega) (by omega) ?_
        intro g6a g6b
        refine x_if_eq (by omega) (by omega) (fun z7 => ?_) (fun z7 => ?_)
        · skip
          refine x_blk (b := 6) (a_118 E) rfl ?_
          unfold b_118_6
          refine x_push 1 rfl ?_
          refine x_fall ?_
          refine x_blk (b := 7) (a_118 E) rfl ?_
          unfold b_118_7
          refine x_iadd ?_
          refine x_put138 (by decide) rfl ⟨by decide, rfl⟩ (by decide) F4 (by omega) (by omega) (fun S8 e8 F8 => ?_)
          have C8 := y_SI_up C4 e8 (fun z => absurd z (by decide)) (fun z => absurd z (by decide))
          refine x_aload rfl ?_
          refine x_getR (r := 138) rfl (by decide) (by decide) rfl ?_
          refine x_iload rfl ?_
          refine x_push 1 rfl ?_
          refine x_ast155 F8 (by omega) (by omega) (by omega) (fun S9 e9 F9 => ?_)
          have C9 := y_SI_up C8 e9 (fun _ => by omega) (fun z => absurd z (by decide))
          refine x_fall ?_
          refine x_blk (b := 5) (a_118 E) rfl ?_
          unfold b_118_5
          refine x_iinc 1 rfl rfl ?_
          refine x_goto ?_
          refine x_G_lo (lo' := [(0, x_R 138), (1, x_I _), (2, x_I _), (3, x_I _)]) ⟨rfl, rfl, rfl, rfl, trivial⟩ ?_
          have j1 : S9 155 v4.toNat = 1 := x_up_at e9
          have j2 := y_sum_up (f := τ 155) (g := S9 155) (p := v4.toNat) (fun i hi => by rw [x_up_ne e9 (fun z => hi z.2), x_up_nr e8 (by decide), k4_0 155 i (by decide)]) (n := 54) (by omega)
          have j3 : S9 138 27 = _ := (x_up_nr e9 (by decide)).trans (x_up_at e8)
          have j5 := k4_0 155 v4.toNat (by decide)
          exact ih _ (by omega) _ S9 rfl (by omega) (by omega) (by omega) C9 (by omega) F9
        · skip
          refine x_push 0 rfl ?_
          refine x_goto ?_
          refine x_blk (b := 7) (a_118 E) rfl ?_
          unfold b_118_7
          refine x_iadd ?_
          refine x_put138 (by decide) rfl ⟨by decide, rfl⟩ (by decide) F4 (by omega) (by omega) (fun S10 e10 F10 => ?_)
          have C10 := y_SI_up C4 e10 (fun z => absurd z (by decide)) (fun z => absurd z (by decide))
          refine x_aload rfl ?_
          refine x_getR (r := 138) rfl (by decide) (by decide) rfl ?_
          refine x_iload rfl ?_
          refine x_push 1 rfl ?_
          refine x_ast155 F10 (by omega) (by omega) (by omega) (fun S11 e11 F11 => ?_)
          have C11 := y_SI_up C10 e11 (fun _ => by omega) (fun z => absurd z (by decide))
          refine x_fall ?_
          refine x_blk (b := 5) (a_118 E) rfl ?_
          unfold b_118_5
          refine x_iinc 1 rfl rfl ?_
          refine x_goto ?_
          refine x_G_lo (lo' := [(0, x_R 138), (1, x_I _), (2, x_I _), (3, x_I _)]) ⟨rfl, rfl, rfl, rfl, trivial⟩ ?_
          have j1 : S11 155 v4.toNat = 1 := x_up_at e11
          have j2 := y_sum_up (f := τ 155) (g := S11 155) (p := v4.toNat) (fun i hi => by rw [x_up_ne e11 (fun z => hi z.2), x_up_nr e10 (by decide), k4_0 155 i (by decide)]) (n := 54) (by omega)
          have j3 : S11 138 27 = _ := (x_up_nr e11 (by decide)).trans (x_up_at e10)
          have j5 := k4_0 155 v4.toNat (by decide)
          exact ih _ (by omega) _ S11 rfl (by omega) (by omega) (by omega) C11 (by omega) F11
    · skip
      refine x_blk (b := 4) (a_118 E) rfl ?_
      unfold b_118_4
      refine x_goto ?_
      refine x_G_lo (lo' := [(0, x_R 138), (1, x_I _), (2, x_I _)]) ⟨rfl, rfl, rfl, trivial⟩ ?_
      exact ho τ C hJ hcm F
set_option maxHeartbeats 8000000 in
theorem rs_118_b9 {E : q_E} {σ : x_S} {Q : Option q_V → x_S → Prop} {a1 : Int} (a1l : 0 ≤ a1) (a1h : a1 ≤ 1) (hP : y_PI (σ 140)) (k : ∀ τ, y_SI τ → y_rf σ τ → Q none τ) : ∀ (N : Nat) (hd : Int) (τ : x_S), (54 - hd).toNat = N → -1 ≤ hd → hd ≤ τ 138 27 → y_SI τ → τ 138 27 = y_sum (τ 155) 54 → y_rf σ τ → x_G E m_118 Q (t_118 9) [(0, x_R 138), (1, x_I a1), (2, x_I hd)] [] τ := by
  have ru := hP.2.2.2.1
  have kd := hP.1
  intro N
  induction N using Nat.strongRecOn with
  | ind N ih =>
    intro hd τ hN hd1 hd2 C hJ F
    have b54 : 0 ≤ τ 138 27 ∧ τ 138 27 ≤ 54 := by
      rw [hJ]
      exact ⟨y_sum_nn (fun i hi => (C i hi).1.1), (y_sum_le (c := 1) (n := 54) (fun i hi => (C i hi).1.2))⟩
    refine x_blk (b := 9) (a_118 E) rfl ?_
    unfold b_118_9
    refine x_aload rfl ?_
    refine x_getI (r := 138) rfl (by decide) (by decide) (by decide) rfl ?_
    intro g1a g1b
    refine x_iload rfl ?_
    refine x_icmp_eq (by omega) (by omega) (by omega) (by omega) (fun z2 => ?_) (fun z2 => ?_)
    · skip
      refine x_blk (b := 3) (a_118 E) rfl ?_
      unfold b_118_3
      refine x_vret ?_
      exact k _ C F
    · skip
      refine x_aload rfl ?_
      refine x_getI (r := 138) rfl (by decide) (by decide) (by decide) rfl ?_
      intro g3a g3b
      refine x_istore ?_
      refine x_push 0 rfl ?_
      refine x_istore ?_
      refine x_X_lo (lo' := [(0, x_R 138), (1, x_I _), (2, x_I _), (3, x_I _)]) ⟨rfl, rfl, rfl, rfl, trivial⟩ ?_
      refine x_fall ?_
      refine x_G_lo (lo' := [(0, x_R 138), (1, x_I _), (2, x_I _), (3, x_I _)]) ⟨rfl, rfl, rfl, rfl, trivial⟩ ?_
      exact rs_118_b8 a1l a1h hP k (h := τ 138 27) (fun τ' c j l f => ih _ (by omega) _ τ' rfl (by omega) l c j f) _ _ τ rfl (by omega) (by omega) (Int.le_refl _) C hJ F
set_option maxHeartbeats 8000000 in
theorem rs_118_b2 {E : q_E} {σ : x_S} {Q : Option q_V → x_S → Prop} {a1 : Int} (a1l : 0 ≤ a1) (a1h : a1 ≤ 1) (hP : y_PI (σ 140)) (k : ∀ τ, y_SI τ → y_rf σ τ → Q none τ) : ∀ (N : Nat) (i : Int) (τ : x_S), (54 - i).toNat = N → 0 ≤ i → i ≤ 54 → y_rf σ τ → τ 138 27 = 0 → (∀ m : Nat, (m : Int) < i → τ 155 m = 0 ∧ τ 156 m = 41) → x_G E m_118 Q (t_118 2) [(0, x_R 138), (1, x_I a1), (2, x_I i)] [] τ := by
  have ru := hP.2.2.2.1
  have kd := hP.1
  intro N
  induction N using Nat.strongRecOn with
  | ind N ih =>
    intro i τ hN i1 i2 F h27 hz
    refine x_blk (b := 2) (a_118 E) rfl ?_
    unfold b_118_2
    refine x_iload rfl ?_
    refine x_push 54 rfl ?_
    refine x_icmp_ge (by omega) (by omega) (by omega) (by omega) (fun z1 => ?_) (fun z1 => ?_)
    · skip
      refine x_aload rfl ?_
      refine x_getR (r := 138) rfl (by decide) (by decide) rfl ?_
      refine x_iload rfl ?_
      refine x_push 0 rfl ?_
      refine x_ast155 F (by omega) (by omega) (by omega) (fun S2 e2 F2 => ?_)
      refine x_aload rfl ?_
      refine x_getR (r := 138) rfl (by decide) (by decide) rfl ?_
      refine x_iload rfl ?_
      refine x_push 41 rfl ?_
      refine x_astM y_m156 F2 (by omega) (by omega) (by omega) (by omega) (fun S3 e3 F3 => ?_)
      refine x_iinc 1 rfl rfl ?_
      refine x_goto ?_
      refine x_G_lo (lo' := [(0, x_R 138), (1, x_I _), (2, x_I _)]) ⟨rfl, rfl, rfl, trivial⟩ ?_
      refine ih _ (by omega) _ S3 rfl (by omega) (by omega) F3 ?_ (fun m hm => ?_)
      · rw [x_up_nr e3 (by decide), x_up_nr e2 (by decide)]; exact h27
      · by_cases cx : m = i.toNat
        · subst cx
          exact ⟨(x_up_nr e3 (by decide)).trans (x_up_at e2), x_up_at e3⟩
        · rw [x_up_nr e3 (by decide), x_up_ne e2 (fun z => cx z.2), x_up_ne e3 (fun z => cx z.2), x_up_nr e2 (by decide)]; exact hz m (by omega)
    · skip
      refine x_blk (b := 1) (a_118 E) rfl ?_
      unfold b_118_1
      refine x_push (-1) rfl ?_
      refine x_istore ?_
      refine x_fall ?_
      refine x_G_lo (lo' := [(0, x_R 138), (1, x_I _), (2, x_I _)]) ⟨rfl, rfl, rfl, trivial⟩ ?_
      have hJ : τ 138 27 = y_sum (τ 155) 54 := by
        rw [h27, y_sum_ext (f := τ 155) (g := fun _ => 0) (fun m hm => (hz m (by omega)).1)]
        decide
      exact rs_118_b9 a1l a1h hP k _ _ τ rfl (by omega) (by omega) (fun m hm => by rw [(hz m (by omega)).1, (hz m (by omega)).2]; omega) hJ F
theorem rs_118 {E : q_E} {σ : x_S} {Q : Option q_V → x_S → Prop} {a1 : Int} (a1l : 0 ≤ a1) (a1h : a1 ≤ 1) (hP : y_PI (σ 140)) (k : ∀ τ, y_SI τ → y_rf σ τ → Q none τ) : x_P E 118 [x_R 138, x_I a1] σ Q := by
  have ru := hP.2.2.2.1
  have kd := hP.1
  refine x_Mt e_118 (h_118 E) (Nat.le_of_ble_eq_true rfl) t_118 rfl ?_
  refine x_blk (b := 0) (a_118 E) rfl ?_
  unfold b_118_0
  refine x_aload rfl ?_
  refine x_push 0 rfl ?_
  refine x_put138 (by decide) rfl ⟨by decide, rfl⟩ (by decide) y_rf_rf (by omega) (by omega) (fun S1 e1 F1 => ?_)
  refine x_push 0 rfl ?_
  refine x_istore ?_
  refine x_fall ?_
  refine x_G_lo (lo' := [(0, x_R 138), (1, x_I _), (2, x_I _)]) ⟨rfl, rfl, rfl, trivial⟩ ?_
  exact rs_118_b2 a1l a1h hP k _ _ S1 rfl (by omega) (by omega) F1 (x_up_at e1) (fun m hm => absurd hm (by omega))
