set_option maxHeartbeats 8000000 in
theorem rx_29_b10 {E : q_E} {σ : x_S} {Q : Option q_V → x_S → Prop} {a1 a2 a3 a4 : Int} (a1l : 0 ≤ a1) (a1h : a1 ≤ 1) (a2l : 0 ≤ a2) (a2h : a2 ≤ 4) (a3l : 0 ≤ a3) (a3h : a3 ≤ 53) (a4l : 0 ≤ a4) (a4h : a4 ≤ 53) (hP : y_PI (σ 140)) (k : ∀ τ v, y_rf σ τ → 0 ≤ v → v ≤ 53 → y_so σ τ → v = cn_pI (σ 140) a1 a2 a3 a4 → Q (some (x_I v)) τ) {lk : Int} (lk1 : 0 ≤ lk) (lk2 : lk ≤ 1) (lkx : lk = cn_lk (σ 140) a2 a3 a4) : ∀ (N : Nat) (pf q : Int) (τ : x_S), (3 - q).toNat = N → 0 ≤ q → q ≤ 3 → y_so σ τ → y_rf σ τ → ((q = 0 ∧ pf = lk) ∨ (q = 1 ∧ pf = lk + 2 * cn_tq (σ 140) a1 0 a2 lk a3 a4) ∨ (q = 2 ∧ pf = lk + 2 * cn_tq (σ 140) a1 0 a2 lk a3 a4 + 6 * cn_tq (σ 140) a1 1 a2 lk a3 a4) ∨ (q = 3 ∧ pf = lk + 2 * cn_tq (σ 140) a1 0 a2 lk a3 a4 + 6 * cn_tq (σ 140) a1 1 a2 lk a3 a4 + 18 * cn_tq (σ 140) a1 2 a2 lk a3 a4)) → x_G E m_29 Q (t_29 10) [(0, x_R 138), (1, x_I a1), (2, x_I a2), (3, x_I a3), (4, x_I a4), (6, x_I lk), (7, x_I pf), (8, x_I q)] [] τ := by
  have ru := hP.2.2.2.1
  have kd := hP.1
  have chx := y_chx a2
  have pwx := y_pwx (y_ch a2)
  intro N
  induction N using Nat.strongRecOn with
  | ind N ih =>
    intro pf q τ hN q0 q3 hso F hq
    have b0 := cn_tq_b (A := σ 140) (p := a1) (q := 0) (f := a2) (lk := lk) (one := a3) (two := a4) hP
    have b1 := cn_tq_b (A := σ 140) (p := a1) (q := 1) (f := a2) (lk := lk) (one := a3) (two := a4) hP
    have b2 := cn_tq_b (A := σ 140) (p := a1) (q := 2) (f := a2) (lk := lk) (one := a3) (two := a4) hP
    refine x_blk (b := 10) (a_29 E) rfl ?_
    unfold b_29_10
    refine x_iload rfl ?_
    refine x_push 3 rfl ?_
    refine x_icmp_ge (by omega) (by omega) (by omega) (by omega) (fun z1 => ?_) (fun z1 => ?_)
    · skip
      refine x_aload rfl ?_
      refine x_iload rfl ?_
      refine x_iload rfl ?_
      refine x_iload rfl ?_
      refine x_iload rfl ?_
      refine x_cV (fun _ => rfl) rfl (by decide) (Nat.le_of_ble_eq_true rfl) ?_
      refine rx_18 (by omega) (by omega) (by omega) (by omega) (by omega) (by omega) (by omega) (by omega) (y_rf_P F hP) (fun v2 v2a v2b v2c => ?_)
      have sl : v2 = y_sel (σ 140) a1 q a2 lk (σ 140 62).toNat := by
        rw [cn_soF hso] at v2c
        exact v2c
      have slb := y_sel_b (A := σ 140) (p := a1) (q := q) (f := a2) (l := lk) (n := (σ 140 62).toNat)
      rw [← sl] at slb
      refine x_istore ?_
      refine x_iload rfl ?_
      refine x_push (-4) rfl ?_
      refine x_icmp_ne (by omega) (by omega) (by omega) (by omega) (fun z3 => ?_) (fun z3 => ?_)
      · skip
        refine x_push 2 rfl ?_
        refine x_goto ?_
        refine x_blk (b := 6) (a_29 E) rfl ?_
        unfold b_29_6
        refine x_istore ?_
        refine x_X_lo (lo' := [(0, x_R 138), (1, x_I _), (2, x_I _), (3, x_I _), (4, x_I _), (6, x_I _), (7, x_I _), (8, x_I _), (9, x_I _), (10, x_I _)]) ⟨rfl, rfl, rfl, rfl, rfl, rfl, rfl, rfl, rfl, rfl, trivial⟩ ?_
        refine x_iload rfl ?_
        refine x_iload rfl ?_
        refine x_iload rfl ?_
        refine x_if_ne (by omega) (by omega) (fun z4 => ?_) (fun z4 => ?_)
        · skip
          refine x_push 2 rfl ?_
          refine x_goto ?_
          refine x_blk (b := 8) (a_29 E) rfl ?_
          unfold b_29_8
          refine x_imul ?_
          refine x_iadd ?_
          refine x_istore ?_
          refine x_iinc 1 rfl rfl ?_
          refine x_X_lo (lo' := [(0, x_R 138), (1, x_I _), (2, x_I _), (3, x_I _), (4, x_I _), (6, x_I _), (7, x_I _), (8, x_I _), (9, x_I _), (10, x_I _)]) ⟨rfl, rfl, rfl, rfl, rfl, rfl, rfl, rfl, rfl, rfl, trivial⟩ ?_
          refine x_goto ?_
          refine x_G_lo (lo' := [(0, x_R 138), (1, x_I _), (2, x_I _), (3, x_I _), (4, x_I _), (6, x_I _), (7, x_I _), (8, x_I _)]) ⟨rfl, rfl, rfl, rfl, rfl, rfl, rfl, rfl, trivial⟩ ?_
          have q0 : q = 0 := by omega
          subst q0
          have tq : (2 : Int) = cn_tq (σ 140) a1 0 a2 lk a3 a4 := (cn_tq_n sl (by omega)).symm
          exact ih _ (by omega) _ _ _ rfl (by omega) (by omega) hso F (by omega)
        · skip
          refine x_blk (b := 7) (a_29 E) rfl ?_
          unfold b_29_7
          refine x_iload rfl ?_
          refine x_push 1 rfl ?_
          refine x_icmp_ne (by omega) (by omega) (by omega) (by omega) (fun z5 => ?_) (fun z5 => ?_)
          · skip
            refine x_push 6 rfl ?_
            refine x_goto ?_
            refine x_blk (b := 8) (a_29 E) rfl ?_
            unfold b_29_8
            refine x_imul ?_
            refine x_iadd ?_
            refine x_istore ?_
            refine x_iinc 1 rfl rfl ?_
            refine x_X_lo (lo' := [(0, x_R 138), (1, x_I _), (2, x_I _), (3, x_I _), (4, x_I _), (6, x_I _), (7, x_I _), (8, x_I _), (9, x_I _), (10, x_I _)]) ⟨rfl, rfl, rfl, rfl, rfl, rfl, rfl, rfl, rfl, rfl, trivial⟩ ?_
            refine x_goto ?_
            refine x_G_lo (lo' := [(0, x_R 138), (1, x_I _), (2, x_I _), (3, x_I _), (4, x_I _), (6, x_I _), (7, x_I _), (8, x_I _)]) ⟨rfl, rfl, rfl, rfl, rfl, rfl, rfl, rfl, trivial⟩ ?_
            have q1 : q = 1 := by omega
            subst q1
            have tq : (2 : Int) = cn_tq (σ 140) a1 1 a2 lk a3 a4 := (cn_tq_n sl (by omega)).symm
            exact ih _ (by omega) _ _ _ rfl (by omega) (by omega) hso F (by omega)
          · skip
            refine x_blk (b := 9) (a_29 E) rfl ?_
            unfold b_29_9
            refine x_push 18 rfl ?_
            refine x_fall ?_
            refine x_blk (b := 8) (a_29 E) rfl ?_
            unfold b_29_8
            refine x_imul ?_
            refine x_iadd ?_
            refine x_istore ?_
            refine x_iinc 1 rfl rfl ?_
            refine x_X_lo (lo' := [(0, x_R 138), (1, x_I _), (2, x_I _), (3, x_I _), (4, x_I _), (6, x_I _), (7, x_I _), (8, x_I _), (9, x_I _), (10, x_I _)]) ⟨rfl, rfl, rfl, rfl, rfl, rfl, rfl, rfl, rfl, rfl, trivial⟩ ?_
            refine x_goto ?_
            refine x_G_lo (lo' := [(0, x_R 138), (1, x_I _), (2, x_I _), (3, x_I _), (4, x_I _), (6, x_I _), (7, x_I _), (8, x_I _)]) ⟨rfl, rfl, rfl, rfl, rfl, rfl, rfl, rfl, trivial⟩ ?_
            have q2 : q = 2 := by omega
            subst q2
            have tq : (2 : Int) = cn_tq (σ 140) a1 2 a2 lk a3 a4 := (cn_tq_n sl (by omega)).symm
            exact ih _ (by omega) _ _ _ rfl (by omega) (by omega) hso F (by omega)
      · skip
        refine x_blk (b := 5) (a_29 E) rfl ?_
        unfold b_29_5
        refine x_aload rfl ?_
        refine x_iload rfl ?_
        refine x_iload rfl ?_
        refine x_iload rfl ?_
        refine x_iload rfl ?_
        refine x_cV (fun _ => rfl) rfl (by decide) (Nat.le_of_ble_eq_true rfl) ?_
        have e140 := cn_soF hso
        refine rx_38 (by omega) (by omega) (by omega) (by omega) (by omega) (by omega) (by omega) (by omega) (by rw [e140]; omega) (y_rf_P F hP) (fun S6 v6 f6 v6a v6b k6_0 k6_1 => ?_)
        have F6 := y_rf_tr F f6
        rw [e140] at k6_1
        refine x_fall ?_
        refine x_blk (b := 6) (a_29 E) rfl ?_
        unfold b_29_6
        refine x_istore ?_
        refine x_X_lo (lo' := [(0, x_R 138), (1, x_I _), (2, x_I _), (3, x_I _), (4, x_I _), (6, x_I _), (7, x_I _), (8, x_I _), (9, x_I _), (10, x_I _)]) ⟨rfl, rfl, rfl, rfl, rfl, rfl, rfl, rfl, rfl, rfl, trivial⟩ ?_
        refine x_iload rfl ?_
        refine x_iload rfl ?_
        refine x_iload rfl ?_
        refine x_if_ne (by omega) (by omega) (fun z7 => ?_) (fun z7 => ?_)
        · skip
          refine x_push 2 rfl ?_
          refine x_goto ?_
          refine x_blk (b := 8) (a_29 E) rfl ?_
          unfold b_29_8
          refine x_imul ?_
          refine x_iadd ?_
          refine x_istore ?_
          refine x_iinc 1 rfl rfl ?_
          refine x_X_lo (lo' := [(0, x_R 138), (1, x_I _), (2, x_I _), (3, x_I _), (4, x_I _), (6, x_I _), (7, x_I _), (8, x_I _), (9, x_I _), (10, x_I _)]) ⟨rfl, rfl, rfl, rfl, rfl, rfl, rfl, rfl, rfl, rfl, trivial⟩ ?_
          refine x_goto ?_
          refine x_G_lo (lo' := [(0, x_R 138), (1, x_I _), (2, x_I _), (3, x_I _), (4, x_I _), (6, x_I _), (7, x_I _), (8, x_I _)]) ⟨rfl, rfl, rfl, rfl, rfl, rfl, rfl, rfl, trivial⟩ ?_
          have q0 : q = 0 := by omega
          subst q0
          have tq : v6 = cn_tq (σ 140) a1 0 a2 lk a3 a4 := k6_1.trans (cn_tq_r sl (by omega)).symm
          exact ih _ (by omega) _ _ S6 rfl (by omega) (by omega) (y_so_tr hso k6_0) F6 (by omega)
        · skip
          refine x_blk (b := 7) (a_29 E) rfl ?_
          unfold b_29_7
          refine x_iload rfl ?_
          refine x_push 1 rfl ?_
          refine x_icmp_ne (by omega) (by omega) (by omega) (by omega) (fun z8 => ?_) (fun z8 => ?_)
          · skip
            refine x_push 6 rfl ?_
            refine x_goto ?_
            refine x_blk (b := 8) (a_29 E) rfl ?_
            unfold b_29_8
            refine x_imul ?_
            refine x_iadd ?_
            refine x_istore ?_
            refine x_iinc 1 rfl rfl ?_
            refine x_X_lo (lo' := [(0, x_R 138), (1, x_I _), (2, x_I _), (3, x_I _), (4, x_I _), (6, x_I _), (7, x_I _), (8, x_I _), (9, x_I _), (10, x_I _)]) ⟨rfl, rfl, rfl, rfl, rfl, rfl, rfl, rfl, rfl, rfl, trivial⟩ ?_
            refine x_goto ?_
            refine x_G_lo (lo' := [(0, x_R 138), (1, x_I _), (2, x_I _), (3, x_I _), (4, x_I _), (6, x_I _), (7, x_I _), (8, x_I _)]) ⟨rfl, rfl, rfl, rfl, rfl, rfl, rfl, rfl, trivial⟩ ?_
            have q1 : q = 1 := by omega
            subst q1
            have tq : v6 = cn_tq (σ 140) a1 1 a2 lk a3 a4 := k6_1.trans (cn_tq_r sl (by omega)).symm
            exact ih _ (by omega) _ _ S6 rfl (by omega) (by omega) (y_so_tr hso k6_0) F6 (by omega)
          · skip
            refine x_blk (b := 9) (a_29 E) rfl ?_
            unfold b_29_9
            refine x_push 18 rfl ?_
            refine x_fall ?_
            refine x_blk (b := 8) (a_29 E) rfl ?_
            unfold b_29_8
            refine x_imul ?_
            refine x_iadd ?_
            refine x_istore ?_
            refine x_iinc 1 rfl rfl ?_
            refine x_X_lo (lo' := [(0, x_R 138), (1, x_I _), (2, x_I _), (3, x_I _), (4, x_I _), (6, x_I _), (7, x_I _), (8, x_I _), (9, x_I _), (10, x_I _)]) ⟨rfl, rfl, rfl, rfl, rfl, rfl, rfl, rfl, rfl, rfl, trivial⟩ ?_
            refine x_goto ?_
            refine x_G_lo (lo' := [(0, x_R 138), (1, x_I _), (2, x_I _), (3, x_I _), (4, x_I _), (6, x_I _), (7, x_I _), (8, x_I _)]) ⟨rfl, rfl, rfl, rfl, rfl, rfl, rfl, rfl, trivial⟩ ?_
            have q2 : q = 2 := by omega
            subst q2
            have tq : v6 = cn_tq (σ 140) a1 2 a2 lk a3 a4 := k6_1.trans (cn_tq_r sl (by omega)).symm
            exact ih _ (by omega) _ _ S6 rfl (by omega) (by omega) (y_so_tr hso k6_0) F6 (by omega)
    · skip
      refine x_blk (b := 4) (a_29 E) rfl ?_
      unfold b_29_4
      refine x_iload rfl ?_
      refine x_iret ?_
      have pb := cn_pI_b (A := σ 140) (p := a1) (f := a2) (one := a3) (two := a4) hP (by omega) (by omega)
      have e : pf = cn_pI (σ 140) a1 a2 a3 a4 := by
        unfold cn_pI
        rw [← lkx]
        omega
      exact k _ _ F (by omega) (by omega) hso e
theorem rx_29 {E : q_E} {σ : x_S} {Q : Option q_V → x_S → Prop} {a1 a2 a3 a4 : Int} (a1l : 0 ≤ a1) (a1h : a1 ≤ 1) (a2l : 0 ≤ a2) (a2h : a2 ≤ 4) (a3l : 0 ≤ a3) (a3h : a3 ≤ 53) (a4l : 0 ≤ a4) (a4h : a4 ≤ 53) (hP : y_PI (σ 140)) (k : ∀ τ v, y_rf σ τ → 0 ≤ v → v ≤ 53 → y_so σ τ → v = cn_pI (σ 140) a1 a2 a3 a4 → Q (some (x_I v)) τ) : x_P E 29 [x_R 138, x_I a1, x_I a2, x_I a3, x_I a4] σ Q := by
  have ru := hP.2.2.2.1
  have kd := hP.1
  have chx := y_chx a2
  have pwx := y_pwx (y_ch a2)
  refine x_Mt e_29 (h_29 E) (Nat.le_of_ble_eq_true rfl) t_29 rfl ?_
  refine x_blk (b := 0) (a_29 E) rfl ?_
  unfold b_29_0
  refine x_iload rfl ?_
  refine x_cS (fun _ => rfl) (Nat.le_of_ble_eq_true rfl) ?_
  refine rs_0 (by omega) (by omega) (fun v1 v1a v1b v1c => ?_)
  refine x_istore ?_
  refine x_aload rfl ?_
  refine x_getR (r := 138) rfl (by decide) (by decide) rfl ?_
  refine x_push 0 rfl ?_
  refine x_iload rfl ?_
  refine x_iload rfl ?_
  refine x_if_ne (by omega) (by omega) (fun z2 => ?_) (fun z2 => ?_)
  · skip
    refine x_push 0 rfl ?_
    refine x_goto ?_
    refine x_blk (b := 2) (a_29 E) rfl ?_
    unfold b_29_2
    refine x_cS (fun _ => rfl) (Nat.le_of_ble_eq_true rfl) ?_
    refine rs_17x (by omega) (by omega) (by omega) (by omega) (by omega) (by omega) (fun v3 v3a v3b v3c => ?_)
    refine x_iald140 y_rf_rf (by omega) (by omega) ?_
    intro g4a g4b
    have en4 := hP.2.2.1 (v3).toNat (by omega) (by omega)
    refine x_istore ?_
    refine x_X_lo (lo' := [(0, x_R 138), (1, x_I _), (2, x_I _), (3, x_I _), (4, x_I _), (5, x_I _), (6, x_I _)]) ⟨rfl, rfl, rfl, rfl, rfl, rfl, rfl, trivial⟩ ?_
    refine x_iload rfl ?_
    refine x_istore ?_
    refine x_push 0 rfl ?_
    refine x_istore ?_
    refine x_X_lo (lo' := [(0, x_R 138), (1, x_I _), (2, x_I _), (3, x_I _), (4, x_I _), (5, x_I _), (6, x_I _), (7, x_I _), (8, x_I _)]) ⟨rfl, rfl, rfl, rfl, rfl, rfl, rfl, rfl, rfl, trivial⟩ ?_
    refine x_fall ?_
    refine x_G_lo (lo' := [(0, x_R 138), (1, x_I _), (2, x_I _), (3, x_I _), (4, x_I _), (6, x_I _), (7, x_I _), (8, x_I _)]) ⟨rfl, rfl, rfl, rfl, rfl, rfl, rfl, rfl, trivial⟩ ?_
    have lkx : σ 140 v3.toNat = cn_lk (σ 140) a2 a3 a4 := by
      unfold cn_lk
      have kx := cn_kkx a2 a3 a4
      rw [v3c]
      congr 2
      unfold y_tab
      omega
    exact rx_29_b10 a1l a1h a2l a2h a3l a3h a4l a4h hP k (by omega) (by omega) (by omega) _ _ 0 σ rfl (by omega) (by omega) y_so_rf y_rf_rf (Or.inl ⟨rfl, rfl⟩)
  · skip
    refine x_blk (b := 1) (a_29 E) rfl ?_
    unfold b_29_1
    refine x_iload rfl ?_
    refine x_push 1 rfl ?_
    refine x_icmp_ne (by omega) (by omega) (by omega) (by omega) (fun z5 => ?_) (fun z5 => ?_)
    · skip
      refine x_iload rfl ?_
      refine x_push 2 rfl ?_
      refine x_irem (by omega) (by omega) (by omega) (by omega) ?_
      refine x_goto ?_
      refine x_blk (b := 2) (a_29 E) rfl ?_
      unfold b_29_2
      refine x_cS (fun _ => rfl) (Nat.le_of_ble_eq_true rfl) ?_
      refine rs_17x (by omega) (by omega) (by omega) (by omega) (by omega) (by omega) (fun v6 v6a v6b v6c => ?_)
      refine x_iald140 y_rf_rf (by omega) (by omega) ?_
      intro g7a g7b
      have en7 := hP.2.2.1 (v6).toNat (by omega) (by omega)
      refine x_istore ?_
      refine x_X_lo (lo' := [(0, x_R 138), (1, x_I _), (2, x_I _), (3, x_I _), (4, x_I _), (5, x_I _), (6, x_I _)]) ⟨rfl, rfl, rfl, rfl, rfl, rfl, rfl, trivial⟩ ?_
      refine x_iload rfl ?_
      refine x_istore ?_
      refine x_push 0 rfl ?_
      refine x_istore ?_
      refine x_X_lo (lo' := [(0, x_R 138), (1, x_I _), (2, x_I _), (3, x_I _), (4, x_I _), (5, x_I _), (6, x_I _), (7, x_I _), (8, x_I _)]) ⟨rfl, rfl, rfl, rfl, rfl, rfl, rfl, rfl, rfl, trivial⟩ ?_
      refine x_fall ?_
      refine x_G_lo (lo' := [(0, x_R 138), (1, x_I _), (2, x_I _), (3, x_I _), (4, x_I _), (6, x_I _), (7, x_I _), (8, x_I _)]) ⟨rfl, rfl, rfl, rfl, rfl, rfl, rfl, rfl, trivial⟩ ?_
      have lkx : σ 140 v6.toNat = cn_lk (σ 140) a2 a3 a4 := by
        unfold cn_lk
        have kx := cn_kkx a2 a3 a4
        rw [v6c]
        congr 2
        unfold y_tab
        omega
      exact rx_29_b10 a1l a1h a2l a2h a3l a3h a4l a4h hP k (by omega) (by omega) (by omega) _ _ 0 σ rfl (by omega) (by omega) y_so_rf y_rf_rf (Or.inl ⟨rfl, rfl⟩)
    · skip
      refine x_blk (b := 3) (a_29 E) rfl ?_
      unfold b_29_3
      refine x_push 2 rfl ?_
      refine x_iload rfl ?_
      refine x_push 2 rfl ?_
      refine x_irem (by omega) (by omega) (by omega) (by omega) ?_
      refine x_imul ?_
      refine x_iload rfl ?_
      refine x_push 2 rfl ?_
      refine x_irem (by omega) (by omega) (by omega) (by omega) ?_
      refine x_iadd ?_
      refine x_fall ?_
      refine x_blk (b := 2) (a_29 E) rfl ?_
      unfold b_29_2
      refine x_cS (fun _ => rfl) (Nat.le_of_ble_eq_true rfl) ?_
      refine rs_17x (by omega) (by omega) (by omega) (by omega) (by omega) (by omega) (fun v8 v8a v8b v8c => ?_)
      refine x_iald140 y_rf_rf (by omega) (by omega) ?_
      intro g9a g9b
      have en9 := hP.2.2.1 (v8).toNat (by omega) (by omega)
      refine x_istore ?_
      refine x_X_lo (lo' := [(0, x_R 138), (1, x_I _), (2, x_I _), (3, x_I _), (4, x_I _), (5, x_I _), (6, x_I _)]) ⟨rfl, rfl, rfl, rfl, rfl, rfl, rfl, trivial⟩ ?_
      refine x_iload rfl ?_
      refine x_istore ?_
      refine x_push 0 rfl ?_
      refine x_istore ?_
      refine x_X_lo (lo' := [(0, x_R 138), (1, x_I _), (2, x_I _), (3, x_I _), (4, x_I _), (5, x_I _), (6, x_I _), (7, x_I _), (8, x_I _)]) ⟨rfl, rfl, rfl, rfl, rfl, rfl, rfl, rfl, rfl, trivial⟩ ?_
      refine x_fall ?_
      refine x_G_lo (lo' := [(0, x_R 138), (1, x_I _), (2, x_I _), (3, x_I _), (4, x_I _), (6, x_I _), (7, x_I _), (8, x_I _)]) ⟨rfl, rfl, rfl, rfl, rfl, rfl, rfl, rfl, trivial⟩ ?_
      have lkx : σ 140 v8.toNat = cn_lk (σ 140) a2 a3 a4 := by
        unfold cn_lk
        have kx := cn_kkx a2 a3 a4
        rw [v8c]
        congr 2
        unfold y_tab
        omega
      exact rx_29_b10 a1l a1h a2l a2h a3l a3h a4l a4h hP k (by omega) (by omega) (by omega) _ _ 0 σ rfl (by omega) (by omega) y_so_rf y_rf_rf (Or.inl ⟨rfl, rfl⟩)
set_option maxHeartbeats 8000000 in
theorem rx_118_b8 {E : q_E} {σ : x_S} {Q : Option q_V → x_S → Prop} {a1 : Int} (a1l : 0 ≤ a1) (a1h : a1 ≤ 1) (hP : y_PI (σ 140)) (k : ∀ τ, y_SI τ → y_rf σ τ → cn_FC (σ 140) a1 (τ 155) (τ 138 27) → (∀ m : Nat, (m : Int) < 54 → τ 156 m = 41) → Q none τ) {h : Int} (h0 : 0 ≤ h) (ho : ∀ τ' : x_S, y_SI τ' → τ' 138 27 = y_sum (τ' 155) 54 → h ≤ τ' 138 27 → y_rf σ τ' → (∀ m : Nat, (m : Int) < 54 → τ' 156 m = 41) → cn_mi (cn_pf (σ 140) a1) (fun k => τ' 155 k = 1) → (0 ≤ h → h = τ' 138 27 → cn_cl (cn_pf (σ 140) a1) (fun k => τ' 155 k = 1)) → x_G E m_118 Q (t_118 9) [(0, x_R 138), (1, x_I a1), (2, x_I h)] [] τ') : ∀ (N : Nat) (cd : Int) (τ : x_S), (14580 - cd).toNat = N → 0 ≤ cd → cd ≤ 14580 → h ≤ τ 138 27 → y_SI τ → τ 138 27 = y_sum (τ 155) 54 → y_rf σ τ → (∀ m : Nat, (m : Int) < 54 → τ 156 m = 41) → cn_mi (cn_pf (σ 140) a1) (fun k => τ 155 k = 1) → (τ 138 27 = h → ∀ (f : Int) (l r : Nat), cn_tri (fun k => τ 155 k = 1) f l r → f * 2916 + l * 54 + r < cd → τ 155 (cn_pf (σ 140) a1 f l r) = 1) → x_G E m_118 Q (t_118 8) [(0, x_R 138), (1, x_I a1), (2, x_I h), (3, x_I cd)] [] τ := by
  have ru := hP.2.2.2.1
  have kd := hP.1
  intro N
  induction N using Nat.strongRecOn with
  | ind N ih =>
    intro cd τ hN cd1 cd2 hcm C hJ F s41 hmi hd
    have b54 : 0 ≤ τ 138 27 ∧ τ 138 27 ≤ 54 := by
      rw [hJ]
      exact ⟨y_sum_nn (fun i hi => (C i hi).1.1), (y_sum_le (c := 1) (n := 54) (fun i hi => (C i hi).1.2))⟩
    refine x_blk (b := 8) (a_118 E) rfl ?_
    unfold b_118_8
    refine x_iload rfl ?_
    refine x_push 14580 rfl ?_
    refine x_icmp_ge (by omega) (by omega) (by omega) (by omega) (fun z1 => ?_) (fun z1 => ?_)
    · skip
      refine x_iload rfl ?_
      refine x_push 2916 rfl ?_
      refine x_idiv (by omega) (by omega) (by omega) (by omega) ?_
      refine x_istore ?_
      refine x_iload rfl ?_
      refine x_push 54 rfl ?_
      refine x_idiv (by omega) (by omega) (by omega) (by omega) ?_
      refine x_push 54 rfl ?_
      refine x_irem (by omega) (by omega) (by omega) (by omega) ?_
      refine x_istore ?_
      refine x_X_lo (lo' := [(0, x_R 138), (1, x_I _), (2, x_I _), (3, x_I _), (4, x_I _), (5, x_I _)]) ⟨rfl, rfl, rfl, rfl, rfl, rfl, trivial⟩ ?_
      refine x_iload rfl ?_
      refine x_push 54 rfl ?_
      refine x_irem (by omega) (by omega) (by omega) (by omega) ?_
      refine x_istore ?_
      refine x_aload rfl ?_
      refine x_iload rfl ?_
      refine x_iload rfl ?_
      refine x_iload rfl ?_
      refine x_cV (fun _ => rfl) rfl (by decide) (Nat.le_of_ble_eq_true rfl) ?_
      refine rx_1 (by omega) (by omega) (by omega) (by omega) (by omega) (by omega) C (fun y2 => ?_) (fun y2 => ?_)
      · skip
        refine x_if_eq (by omega) (by omega) (fun z => absurd z (by omega)) (fun z3 => ?_)
        refine x_aload rfl ?_
        refine x_iload rfl ?_
        refine x_iload rfl ?_
        refine x_iload rfl ?_
        refine x_iload rfl ?_
        refine x_cV (fun _ => rfl) rfl (by decide) (Nat.le_of_ble_eq_true rfl) ?_
        refine rx_29 (by omega) (by omega) (by omega) (by omega) (by omega) (by omega) (by omega) (by omega) (y_rf_P F hP) (fun S4 v4 f4 v4a v4b k4_0 k4_1 => ?_)
        have F4 := y_rf_tr F f4
        have C4 := y_so_C C k4_0
        refine x_istore ?_
        refine x_X_lo (lo' := [(0, x_R 138), (1, x_I _), (2, x_I _), (3, x_I _), (4, x_I _), (5, x_I _), (6, x_I _), (7, x_I _)]) ⟨rfl, rfl, rfl, rfl, rfl, rfl, rfl, rfl, trivial⟩ ?_
        refine x_aload rfl ?_
        refine x_dup rfl ?_
        have j4 := k4_0 138 27 (by decide)
        refine x_getI (r := 138) rfl (by decide) (by decide) (by decide) rfl ?_
        intro g5a g5b
        refine x_aload rfl ?_
        refine x_getR (r := 138) rfl (by decide) (by decide) rfl ?_
        refine x_iload rfl ?_
        refine x_aldS C4 (by omega) (by omega) ?_
        intro g6a g6b
        refine x_if_eq (by omega) (by omega) (fun z7 => ?_) (fun z7 => ?_)
        · skip
          refine x_blk (b := 6) (a_118 E) rfl ?_
          unfold b_118_6
          refine x_push 1 rfl ?_
          refine x_fall ?_
          refine x_blk (b := 7) (a_118 E) rfl ?_
          unfold b_118_7
          refine x_iadd ?_
          refine x_put138 (by decide) rfl ⟨by decide, rfl⟩ (by decide) F4 (by omega) (by omega) (fun S8 e8 F8 => ?_)
          have C8 := y_SI_up C4 e8 (fun z => absurd z (by decide)) (fun z => absurd z (by decide))
          refine x_aload rfl ?_
          refine x_getR (r := 138) rfl (by decide) (by decide) rfl ?_
          refine x_iload rfl ?_
          refine x_push 1 rfl ?_
          refine x_ast155 F8 (by omega) (by omega) (by omega) (fun S9 e9 F9 => ?_)
          have C9 := y_SI_up C8 e9 (fun _ => by omega) (fun z => absurd z (by decide))
          refine x_fall ?_
          refine x_blk (b := 5) (a_118 E) rfl ?_
          unfold b_118_5
          refine x_iinc 1 rfl rfl ?_
          refine x_goto ?_
          refine x_G_lo (lo' := [(0, x_R 138), (1, x_I _), (2, x_I _), (3, x_I _)]) ⟨rfl, rfl, rfl, rfl, trivial⟩ ?_
          have j1 : S9 155 v4.toNat = 1 := x_up_at e9
          have jo : ∀ m, m ≠ v4.toNat → S9 155 m = τ 155 m := fun m hm => by rw [x_up_ne e9 (fun z => hm z.2), x_up_nr e8 (by decide), k4_0 155 m (by decide)]
          have j2 := y_sum_up (f := τ 155) (g := S9 155) (p := v4.toNat) jo (n := 54) (by omega)
          have j3 : S9 138 27 = _ := (x_up_nr e9 (by decide)).trans (x_up_at e8)
          have j5 := k4_0 155 v4.toNat (by decide)
          have s41' : ∀ m : Nat, (m : Int) < 54 → S9 156 m = 41 := fun m hm => by rw [x_up_nr e9 (by decide), x_up_nr e8 (by decide), k4_0 156 m (by decide)]; exact s41 m hm
          have pe : cn_pf (σ 140) a1 (cd / 2916) (cd / 54 % 54).toNat (cd % 54).toNat = v4.toNat := by
            rw [cn_e140 F] at k4_1
            show (cn_pI (σ 140) a1 (cd / 2916) (((cd / 54 % 54).toNat : Nat) : Int) (((cd % 54).toNat : Nat) : Int)).toNat = _
            rw [show (((cd / 54 % 54).toNat : Nat) : Int) = cd / 54 % 54 by omega, show (((cd % 54).toNat : Nat) : Int) = cd % 54 by omega, ← k4_1]
          have ad : ∀ k, k < 54 → S9 155 k = 1 → k = v4.toNat ∨ τ 155 k = 1 := fun k hk hs => by
            by_cases q : k = v4.toNat
            · exact Or.inl q
            · rw [jo k q] at hs; exact Or.inr hs
          have hmi' := cn_mi_a hmi y2 pe ad
          exact ih _ (by omega) _ S9 rfl (by omega) (by omega) (by omega) C9 (by omega) F9 s41' hmi' (fun e => absurd e (by omega))
        · skip
          refine x_push 0 rfl ?_
          refine x_goto ?_
          refine x_blk (b := 7) (a_118 E) rfl ?_
          unfold b_118_7
          refine x_iadd ?_
          refine x_put138 (by decide) rfl ⟨by decide, rfl⟩ (by decide) F4 (by omega) (by omega) (fun S10 e10 F10 => ?_)
          have C10 := y_SI_up C4 e10 (fun z => absurd z (by decide)) (fun z => absurd z (by decide))
          refine x_aload rfl ?_
          refine x_getR (r := 138) rfl (by decide) (by decide) rfl ?_
          refine x_iload rfl ?_
          refine x_push 1 rfl ?_
          refine x_ast155 F10 (by omega) (by omega) (by omega) (fun S11 e11 F11 => ?_)
          have C11 := y_SI_up C10 e11 (fun _ => by omega) (fun z => absurd z (by decide))
          refine x_fall ?_
          refine x_blk (b := 5) (a_118 E) rfl ?_
          unfold b_118_5
          refine x_iinc 1 rfl rfl ?_
          refine x_goto ?_
          refine x_G_lo (lo' := [(0, x_R 138), (1, x_I _), (2, x_I _), (3, x_I _)]) ⟨rfl, rfl, rfl, rfl, trivial⟩ ?_
          have j1 : S11 155 v4.toNat = 1 := x_up_at e11
          have jo : ∀ m, m ≠ v4.toNat → S11 155 m = τ 155 m := fun m hm => by rw [x_up_ne e11 (fun z => hm z.2), x_up_nr e10 (by decide), k4_0 155 m (by decide)]
          have j2 := y_sum_up (f := τ 155) (g := S11 155) (p := v4.toNat) jo (n := 54) (by omega)
          have j3 : S11 138 27 = _ := (x_up_nr e11 (by decide)).trans (x_up_at e10)
          have j5 := k4_0 155 v4.toNat (by decide)
          have s41' : ∀ m : Nat, (m : Int) < 54 → S11 156 m = 41 := fun m hm => by rw [x_up_nr e11 (by decide), x_up_nr e10 (by decide), k4_0 156 m (by decide)]; exact s41 m hm
          have pe : cn_pf (σ 140) a1 (cd / 2916) (cd / 54 % 54).toNat (cd % 54).toNat = v4.toNat := by
            rw [cn_e140 F] at k4_1
            show (cn_pI (σ 140) a1 (cd / 2916) (((cd / 54 % 54).toNat : Nat) : Int) (((cd % 54).toNat : Nat) : Int)).toNat = _
            rw [show (((cd / 54 % 54).toNat : Nat) : Int) = cd / 54 % 54 by omega, show (((cd % 54).toNat : Nat) : Int) = cd % 54 by omega, ← k4_1]
          have ad : ∀ k, k < 54 → S11 155 k = 1 → k = v4.toNat ∨ τ 155 k = 1 := fun k hk hs => by
            by_cases q : k = v4.toNat
            · exact Or.inl q
            · rw [jo k q] at hs; exact Or.inr hs
          have hmi' := cn_mi_a hmi y2 pe ad
          have same : ∀ k, S11 155 k = τ 155 k := fun k => by
            by_cases q : k = v4.toNat
            · rw [q]; omega
            · exact jo k q
          exact ih _ (by omega) _ S11 rfl (by omega) (by omega) (by omega) C11 (by omega) F11 s41' hmi' (fun e f l r t z => by
            have t : cn_tri (fun k => τ 155 k = 1) f l r := cn_tri_m (fun k _ h => by rw [← same k]; exact h) t
            show S11 155 _ = 1
            rw [same]
            by_cases q : f * 2916 + l * 54 + r < cd
            · exact hd (by omega) f l r t q
            · have tc := cn_tri_cd t
              have f0 : f = cd / 2916 := by omega
              have l0 : l = (cd / 54 % 54).toNat := by omega
              have r0 : r = (cd % 54).toNat := by omega
              rw [f0, l0, r0, pe]
              omega)
      · skip
        refine x_if_eq (by omega) (by omega) (fun z12 => ?_) (fun z => absurd (by omega) z)
        refine x_blk (b := 5) (a_118 E) rfl ?_
        unfold b_118_5
        refine x_iinc 1 rfl rfl ?_
        refine x_X_lo (lo' := [(0, x_R 138), (1, x_I _), (2, x_I _), (3, x_I _), (4, x_I _), (5, x_I _), (6, x_I _)]) ⟨rfl, rfl, rfl, rfl, rfl, rfl, rfl, trivial⟩ ?_
        refine x_goto ?_
        refine x_G_lo (lo' := [(0, x_R 138), (1, x_I _), (2, x_I _), (3, x_I _)]) ⟨rfl, rfl, rfl, rfl, trivial⟩ ?_
        exact ih _ (by omega) _ _ rfl (by omega) (by omega) hcm C hJ F s41 hmi (fun e f l r t z => by
          by_cases q : f * 2916 + l * 54 + r < cd
          · exact hd e f l r t q
          · have tc := cn_tri_cd t
            have f0 : f = cd / 2916 := by omega
            have l0 : l = (cd / 54 % 54).toNat := by omega
            have r0 : r = (cd % 54).toNat := by omega
            rw [f0, l0, r0] at t
            exact absurd t y2)
    · skip
      refine x_blk (b := 4) (a_118 E) rfl ?_
      unfold b_118_4
      refine x_goto ?_
      refine x_G_lo (lo' := [(0, x_R 138), (1, x_I _), (2, x_I _)]) ⟨rfl, rfl, rfl, trivial⟩ ?_
      refine ho τ C hJ hcm F s41 hmi (fun _ e f l r t => ?_)
      have tc := cn_tri_cd t
      exact hd (by omega) f l r t (by omega)
set_option maxHeartbeats 8000000 in
theorem rx_118_b9 {E : q_E} {σ : x_S} {Q : Option q_V → x_S → Prop} {a1 : Int} (a1l : 0 ≤ a1) (a1h : a1 ≤ 1) (hP : y_PI (σ 140)) (k : ∀ τ, y_SI τ → y_rf σ τ → cn_FC (σ 140) a1 (τ 155) (τ 138 27) → (∀ m : Nat, (m : Int) < 54 → τ 156 m = 41) → Q none τ) : ∀ (N : Nat) (hd : Int) (τ : x_S), (54 - hd).toNat = N → -1 ≤ hd → hd ≤ τ 138 27 → y_SI τ → τ 138 27 = y_sum (τ 155) 54 → y_rf σ τ → (∀ m : Nat, (m : Int) < 54 → τ 156 m = 41) → cn_mi (cn_pf (σ 140) a1) (fun k => τ 155 k = 1) → (0 ≤ hd → hd = τ 138 27 → cn_cl (cn_pf (σ 140) a1) (fun k => τ 155 k = 1)) → x_G E m_118 Q (t_118 9) [(0, x_R 138), (1, x_I a1), (2, x_I hd)] [] τ := by
  have ru := hP.2.2.2.1
  have kd := hP.1
  intro N
  induction N using Nat.strongRecOn with
  | ind N ih =>
    intro hd τ hN hd1 hd2 C hJ F s41 hmi hcl
    have b54 : 0 ≤ τ 138 27 ∧ τ 138 27 ≤ 54 := by
      rw [hJ]
      exact ⟨y_sum_nn (fun i hi => (C i hi).1.1), (y_sum_le (c := 1) (n := 54) (fun i hi => (C i hi).1.2))⟩
    refine x_blk (b := 9) (a_118 E) rfl ?_
    unfold b_118_9
    refine x_aload rfl ?_
    refine x_getI (r := 138) rfl (by decide) (by decide) (by decide) rfl ?_
    intro g1a g1b
    refine x_iload rfl ?_
    refine x_icmp_eq (by omega) (by omega) (by omega) (by omega) (fun z2 => ?_) (fun z2 => ?_)
    · skip
      refine x_blk (b := 3) (a_118 E) rfl ?_
      unfold b_118_3
      refine x_vret ?_
      exact k _ C F ⟨hJ, fun k hk => (C k hk).1, hcl (by omega) (by omega), hmi⟩ s41
    · skip
      refine x_aload rfl ?_
      refine x_getI (r := 138) rfl (by decide) (by decide) (by decide) rfl ?_
      intro g3a g3b
      refine x_istore ?_
      refine x_push 0 rfl ?_
      refine x_istore ?_
      refine x_X_lo (lo' := [(0, x_R 138), (1, x_I _), (2, x_I _), (3, x_I _)]) ⟨rfl, rfl, rfl, rfl, trivial⟩ ?_
      refine x_fall ?_
      refine x_G_lo (lo' := [(0, x_R 138), (1, x_I _), (2, x_I _), (3, x_I _)]) ⟨rfl, rfl, rfl, rfl, trivial⟩ ?_
      exact rx_118_b8 a1l a1h hP k (h := τ 138 27) (by omega) (fun τ' c j l f s m q => ih _ (by omega) _ τ' rfl (by omega) l c j f s m q) _ _ τ rfl (by omega) (by omega) (Int.le_refl _) C hJ F s41 hmi (fun _ f l r t z => absurd z (by have := cn_tri_cd t; omega))
set_option maxHeartbeats 8000000 in
theorem rx_118_b2 {E : q_E} {σ : x_S} {Q : Option q_V → x_S → Prop} {a1 : Int} (a1l : 0 ≤ a1) (a1h : a1 ≤ 1) (hP : y_PI (σ 140)) (k : ∀ τ, y_SI τ → y_rf σ τ → cn_FC (σ 140) a1 (τ 155) (τ 138 27) → (∀ m : Nat, (m : Int) < 54 → τ 156 m = 41) → Q none τ) : ∀ (N : Nat) (i : Int) (τ : x_S), (54 - i).toNat = N → 0 ≤ i → i ≤ 54 → y_rf σ τ → τ 138 27 = 0 → (∀ m : Nat, (m : Int) < i → τ 155 m = 0 ∧ τ 156 m = 41) → x_G E m_118 Q (t_118 2) [(0, x_R 138), (1, x_I a1), (2, x_I i)] [] τ := by
  have ru := hP.2.2.2.1
  have kd := hP.1
  intro N
  induction N using Nat.strongRecOn with
  | ind N ih =>
    intro i τ hN i1 i2 F h27 hz
    refine x_blk (b := 2) (a_118 E) rfl ?_
    unfold b_118_2
    refine x_iload rfl ?_
    refine x_push 54 rfl ?_
    refine x_icmp_ge (by omega) (by omega) (by omega) (by omega) (fun z1 => ?_) (fun z1 => ?_)
    · skip
      refine x_aload rfl ?_
      refine x_getR (r := 138) rfl (by decide) (by decide) rfl ?_
      refine x_iload rfl ?_
      refine x_push 0 rfl ?_
      refine x_ast155 F (by omega) (by omega) (by omega) (fun S2 e2 F2 => ?_)
      refine x_aload rfl ?_
      refine x_getR (r := 138) rfl (by decide) (by decide) rfl ?_
      refine x_iload rfl ?_
      refine x_push 41 rfl ?_
      refine x_astM y_m156 F2 (by omega) (by omega) (by omega) (by omega) (fun S3 e3 F3 => ?_)
      refine x_iinc 1 rfl rfl ?_
      refine x_goto ?_
      refine x_G_lo (lo' := [(0, x_R 138), (1, x_I _), (2, x_I _)]) ⟨rfl, rfl, rfl, trivial⟩ ?_
      refine ih _ (by omega) _ S3 rfl (by omega) (by omega) F3 ?_ (fun m hm => ?_)
      · rw [x_up_nr e3 (by decide), x_up_nr e2 (by decide)]; exact h27
      · by_cases cx : m = i.toNat
        · subst cx
          exact ⟨(x_up_nr e3 (by decide)).trans (x_up_at e2), x_up_at e3⟩
        · rw [x_up_nr e3 (by decide), x_up_ne e2 (fun z => cx z.2), x_up_ne e3 (fun z => cx z.2), x_up_nr e2 (by decide)]; exact hz m (by omega)
    · skip
      refine x_blk (b := 1) (a_118 E) rfl ?_
      unfold b_118_1
      refine x_push (-1) rfl ?_
      refine x_istore ?_
      refine x_fall ?_
      refine x_G_lo (lo' := [(0, x_R 138), (1, x_I _), (2, x_I _)]) ⟨rfl, rfl, rfl, trivial⟩ ?_
      have hJ : τ 138 27 = y_sum (τ 155) 54 := by
        rw [h27, y_sum_0 (fun m hm => (hz m (by omega)).1)]
      exact rx_118_b9 a1l a1h hP k _ _ τ rfl (by omega) (by omega) (fun m hm => by rw [(hz m (by omega)).1, (hz m (by omega)).2]; omega) hJ F (fun m hm => (hz m (by omega)).2) (fun X hX k hk h => absurd h (by show ¬ τ 155 k = 1; rw [(hz k (by omega)).1]; decide)) (fun z => absurd z (by omega))
theorem rx_118 {E : q_E} {σ : x_S} {Q : Option q_V → x_S → Prop} {a1 : Int} (a1l : 0 ≤ a1) (a1h : a1 ≤ 1) (hP : y_PI (σ 140)) (k : ∀ τ, y_SI τ → y_rf σ τ → cn_FC (σ 140) a1 (τ 155) (τ 138 27) → (∀ m : Nat, (m : Int) < 54 → τ 156 m = 41) → Q none τ) : x_P E 118 [x_R 138, x_I a1] σ Q := by
  have ru := hP.2.2.2.1
  have kd := hP.1
  refine x_Mt e_118 (h_118 E) (Nat.le_of_ble_eq_true rfl) t_118 rfl ?_
  refine x_blk (b := 0) (a_118 E) rfl ?_
  unfold b_118_0
  refine x_aload rfl ?_
  refine x_push 0 rfl ?_
  refine x_put138 (by decide) rfl ⟨by decide, rfl⟩ (by decide) y_rf_rf (by omega) (by omega) (fun S1 e1 F1 => ?_)
  refine x_push 0 rfl ?_
  refine x_istore ?_
  refine x_fall ?_
  refine x_G_lo (lo' := [(0, x_R 138), (1, x_I _), (2, x_I _)]) ⟨rfl, rfl, rfl, trivial⟩ ?_
  exact rx_118_b2 a1l a1h hP k _ _ S1 rfl (by omega) (by omega) F1 (x_up_at e1) (fun m hm => absurd hm (by omega))
