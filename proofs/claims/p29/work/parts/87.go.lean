theorem rs_95 {E : q_E} {σ : x_S} {Q : Option q_V → x_S → Prop} {a1 a2 a3 : Int} (a1l : 0 ≤ a1) (a1h : a1 ≤ 1) (a2l : (-2147483648) ≤ a2) (a2h : a2 ≤ 2147483647) (a3l : 0 ≤ a3) (a3h : a3 ≤ 39) (rq0 : 0 ≤ σ 138 14 ∧ σ 138 14 ≤ 127) (hP : y_PI (σ 140)) (k1 : ∀ (τ : x_S) (r : Int), y_sm [148, 149, 150, 152] [14] σ τ → 0 ≤ r → r < σ 140 62 → σ 140 (63 + 12 * r.toNat + 2) = σ 145 a3.toNat → τ 138 14 = σ 138 14 + 1 → τ 148 (σ 138 14).toNat = r → τ 149 (σ 138 14).toNat = 0 → τ 150 (σ 138 14).toNat = a3 → (∀ m : Nat, m ≠ (σ 138 14).toNat → τ 148 m = σ 148 m ∧ τ 149 m = σ 149 m ∧ τ 150 m = σ 150 m) → Q (some (x_I 1)) τ) (k0 : ∀ τ, y_sm [152] [21] σ τ → Q (some (x_I 0)) τ) : x_P E 95 [x_R 138, x_I a1, x_I a2, x_I a3] σ Q := by
  have ru := hP.2.2.2.1
  have kd := hP.1
  refine x_Mt e_95 (h_95 E) (Nat.le_of_ble_eq_true rfl) t_95 rfl ?_
  refine x_blk (b := 0) (a_95 E) rfl ?_
  unfold b_95_0
  refine x_aload rfl ?_
  refine x_getR (r := 138) rfl (by decide) (by decide) rfl ?_
  refine x_iload rfl ?_
  refine x_dup2 rfl rfl ?_
  refine x_ialdM y_m152 (by omega) (by omega) (fun v1 v1a v1b => ?_)
  refine x_push 1 rfl ?_
  refine x_iadd ?_
  refine x_wrp (fun v2 v2a v2b => ?_)
  refine x_astM y_m152 y_rf_rf (by omega) (by omega) (by omega) (by omega) (fun S3 e3 F3 => ?_)
  refine x_aload rfl ?_
  refine x_iload rfl ?_
  refine x_iload rfl ?_
  refine x_aload rfl ?_
  refine x_getR (r := 138) rfl (by decide) (by decide) rfl ?_
  refine x_iload rfl ?_
  refine x_iald (r := 145) (n := 40) (m := a3.toNat) rfl rfl (by decide) (fun _ => rfl) (by omega) (by omega) (by omega) ?_
  have q4_0 : S3 145 (a3.toNat) = σ 145 (a3.toNat) := x_up_nr e3 (by decide)
  rw [q4_0]
  intro g4a g4b
  refine x_aload rfl ?_
  refine x_getR (r := 138) rfl (by decide) (by decide) rfl ?_
  refine x_iload rfl ?_
  refine x_ialdM y_m147 (by omega) (by omega) (fun v5 v5a v5b => ?_)
  refine x_cV (fun _ => rfl) rfl (by decide) (Nat.le_of_ble_eq_true rfl) ?_
  refine rs_18 (by omega) (by omega) (by omega) (by omega) (by omega) (by omega) (by omega) (by omega) (y_rf_P F3 hP) (fun v6 v6a v6b k6_0 => ?_)
  have n62 := y_rf_n F3 62
  have nL := y_rf_n F3 (63 + 12 * v6.toNat + 2)
  refine x_istore ?_
  refine x_iload rfl ?_
  refine x_push (-4) rfl ?_
  refine x_icmp_ne (by omega) (by omega) (by omega) (by omega) (fun z7 => ?_) (fun z7 => ?_)
  · skip
    refine x_aload rfl ?_
    refine x_iload rfl ?_
    refine x_put138 (by decide) rfl ⟨by decide, rfl⟩ (by decide) F3 (by omega) (by omega) (fun S8 e8 F8 => ?_)
    refine x_push 0 rfl ?_
    refine x_zret (by decide) ?_
    exact k0 _ (y_sm_tr (y_sm_tr y_sm_rf (y_sm_e e3 (Or.inl (by decide)))) (y_sm_e e8 (Or.inr ⟨rfl, by decide⟩)))
  · skip
    refine x_blk (b := 1) (a_95 E) rfl ?_
    unfold b_95_1
    refine x_aload rfl ?_
    refine x_getR (r := 138) rfl (by decide) (by decide) rfl ?_
    refine x_aload rfl ?_
    refine x_getI (r := 138) rfl (by decide) (by decide) (by decide) rfl ?_
    have q9_0 : S3 138 14 = σ 138 14 := x_up_nr e3 (by decide)
    simp only [q9_0]
    intro g9a g9b
    refine x_iload rfl ?_
    refine x_astM y_m148 F3 (by omega) (by omega) (by omega) (by omega) (fun S10 e10 F10 => ?_)
    refine x_aload rfl ?_
    refine x_getR (r := 138) rfl (by decide) (by decide) rfl ?_
    refine x_aload rfl ?_
    refine x_getI (r := 138) rfl (by decide) (by decide) (by decide) rfl ?_
    have q11_0 : S10 138 14 = S3 138 14 := x_up_nr e10 (by decide)
    have q11_1 : S3 138 14 = σ 138 14 := x_up_nr e3 (by decide)
    simp only [q11_0, q11_1]
    intro g11a g11b
    refine x_push 0 rfl ?_
    refine x_astM y_m149 F10 (by omega) (by omega) (by omega) (by omega) (fun S12 e12 F12 => ?_)
    refine x_aload rfl ?_
    refine x_getR (r := 138) rfl (by decide) (by decide) rfl ?_
    refine x_aload rfl ?_
    refine x_getI (r := 138) rfl (by decide) (by decide) (by decide) rfl ?_
    have q13_0 : S12 138 14 = S10 138 14 := x_up_nr e12 (by decide)
    have q13_1 : S10 138 14 = S3 138 14 := x_up_nr e10 (by decide)
    have q13_2 : S3 138 14 = σ 138 14 := x_up_nr e3 (by decide)
    simp only [q13_0, q13_1, q13_2]
    intro g13a g13b
    refine x_iload rfl ?_
    refine x_astM y_m150 F12 (by omega) (by omega) (by omega) (by omega) (fun S14 e14 F14 => ?_)
    refine x_aload rfl ?_
    refine x_dup rfl ?_
    refine x_getI (r := 138) rfl (by decide) (by decide) (by decide) rfl ?_
    have q15_0 : S14 138 14 = S12 138 14 := x_up_nr e14 (by decide)
    have q15_1 : S12 138 14 = S10 138 14 := x_up_nr e12 (by decide)
    have q15_2 : S10 138 14 = S3 138 14 := x_up_nr e10 (by decide)
    have q15_3 : S3 138 14 = σ 138 14 := x_up_nr e3 (by decide)
    simp only [q15_0, q15_1, q15_2, q15_3]
    intro g15a g15b
    refine x_push 1 rfl ?_
    refine x_iadd ?_
    refine x_put138 (by decide) rfl ⟨by decide, rfl⟩ (by decide) F14 (by omega) (by omega) (fun S16 e16 F16 => ?_)
    refine x_push 1 rfl ?_
    refine x_zret (by decide) ?_
    refine k1 _ v6 (y_sm_tr (y_sm_tr (y_sm_tr (y_sm_tr (y_sm_tr y_sm_rf (y_sm_e e3 (Or.inl (by decide)))) (y_sm_e e10 (Or.inl (by decide)))) (y_sm_e e12 (Or.inl (by decide)))) (y_sm_e e14 (Or.inl (by decide)))) (y_sm_e e16 (Or.inr ⟨rfl, by decide⟩))) (by omega) (by omega) (by omega) (x_up_at e16) ?_ ?_ ?_ (fun m hm => ⟨?_, ?_, ?_⟩)
    · rw [x_up_nr e16 (by decide), x_up_nr e14 (by decide), x_up_nr e12 (by decide), x_up_at e10]
    · rw [x_up_nr e16 (by decide), x_up_nr e14 (by decide), x_up_at e12]
    · rw [x_up_nr e16 (by decide), x_up_at e14]
    · rw [x_up_nr e16 (by decide), x_up_nr e14 (by decide), x_up_nr e12 (by decide), x_up_ne e10 (fun z => hm z.2), x_up_nr e3 (by decide)]
    · rw [x_up_nr e16 (by decide), x_up_nr e14 (by decide), x_up_ne e12 (fun z => hm z.2), x_up_nr e10 (by decide), x_up_nr e3 (by decide)]
    · rw [x_up_nr e16 (by decide), x_up_ne e14 (fun z => hm z.2), x_up_nr e12 (by decide), x_up_nr e10 (by decide), x_up_nr e3 (by decide)]
set_option maxHeartbeats 8000000 in
theorem rs_94_b3 {E : q_E} {σ : x_S} {Q : Option q_V → x_S → Prop} {a1 a2 : Int} (a1l : 0 ≤ a1) (a1h : a1 ≤ 1) (a2l : (-2147483648) ≤ a2) (a2h : a2 ≤ 2147483647) (rq0 : y_gd σ) (hP : y_PI (σ 140)) (k : ∀ τ v, y_rf σ τ → 0 ≤ v → v ≤ 2 → 0 ≤ τ 138 18 ∧ τ 138 18 ≤ 40 → (v = 0 → y_tr (τ 151) (τ 138 18).toNat) → Q (some (x_I v)) τ) : ∀ (N H O : Nat) (τ : x_S), y_nsum (y_wt τ) H = N → y_sm [148, 149, 150, 151, 152] [14, 18, 21] σ τ → τ 138 14 = H → τ 138 18 = O → y_GI σ τ H O → x_G E m_94 Q (t_94 3) [(0, x_R 138), (1, x_I a1)] [] τ := by
  have ru := hP.2.2.2.1
  have kd := hP.1
  intro N
  induction N using Nat.strongRecOn with
  | ind N ih =>
    intro H O τ hN hsm hH hO hI
    have F := y_sm_rf2 hsm (by decide) (by decide)
    have l5 : ∀ m, τ 145 m = σ 145 m := y_sm_a hsm 145 (by decide) (by decide)
    have l6 : ∀ m, τ 146 m = σ 146 m := y_sm_a hsm 146 (by decide) (by decide)
    have g1 := rq0.1
    refine x_blk (b := 3) (a_94 E) rfl ?_
    unfold b_94_3
    refine x_aload rfl ?_
    refine x_getI (r := 138) rfl (by decide) (by decide) (by decide) rfl ?_
    intro g1a g1b
    refine x_if_le (by omega) (by omega) (fun z2 => ?_) (fun z2 => ?_)
    · skip
      refine x_blk (b := 4) (a_94 E) rfl ?_
      unfold b_94_4
      refine x_push 0 rfl ?_
      refine x_iret ?_
      have h0 : H = 0 := by omega
      subst h0
      exact k _ _ F (by omega) (by omega) (by have := hI.2.1; omega) (fun _ => by rw [show (τ 138 18).toNat = O by omega]; exact ⟨hI.2.2.1, hI.2.2.2⟩)
    · skip
      obtain ⟨t, ht⟩ : ∃ t, H = t + 1 := ⟨H - 1, by omega⟩
      subst ht
      have en := hI.1 t (by omega)
      have hO40 := hI.2.1
      obtain ⟨⟨n1, n2⟩, ⟨n3, n4⟩, ⟨n5, n6⟩, n7⟩ := id en
      have h47 : 1 ≤ σ 140 (63 + 12 * (τ 148 t).toNat + 4) ∧ σ 140 (63 + 12 * (τ 148 t).toNat + 4) ≤ 7 := (y_en_rl hP en).2.2.2.2.1
      obtain ⟨d1, d2, d3, d4, d5, d6, d7⟩ := y_gdn (p := σ 145) (past := σ 146) (g := σ 138 10) (v := (τ 150 t).toNat) rq0.2.1 (by omega) (fun u _ h => rq0.2.2 u (by omega))
      refine x_aload rfl ?_
      refine x_getI (r := 138) rfl (by decide) (by decide) (by decide) rfl ?_
      intro g3a g3b
      refine x_push 1 rfl ?_
      refine x_isub ?_
      refine x_istore ?_
      refine x_aload rfl ?_
      refine x_getR (r := 138) rfl (by decide) (by decide) rfl ?_
      refine x_iload rfl ?_
      refine x_iald (r := 148) (n := 128) (m := t) rfl rfl (by decide) (fun _ => rfl) (by omega) (by omega) (by omega) ?_
      intro g4a g4b
      refine x_istore ?_
      refine x_X_lo (lo' := [(0, x_R 138), (1, x_I _), (3, x_I _), (4, x_I _)]) ⟨rfl, rfl, rfl, rfl, trivial⟩ ?_
      refine x_aload rfl ?_
      refine x_getR (r := 138) rfl (by decide) (by decide) rfl ?_
      refine x_iload rfl ?_
      refine x_iald (r := 149) (n := 128) (m := t) rfl rfl (by decide) (fun _ => rfl) (by omega) (by omega) (by omega) ?_
      intro g5a g5b
      refine x_aload rfl ?_
      refine x_iload rfl ?_
      refine x_push 4 rfl ?_
      refine x_cV (fun _ => rfl) rfl (by decide) (Nat.le_of_ble_eq_true rfl) ?_
      refine rf_3_4 F hP (by omega) (by omega) (fun v6 v6a v6b v6c => ?_)
      refine x_icmp_ne (by omega) (by omega) (by omega) (by omega) (fun z7 => ?_) (fun z7 => ?_)
      · skip
        refine x_aload rfl ?_
        refine x_dup rfl ?_
        refine x_getI (r := 138) rfl (by decide) (by decide) (by decide) rfl ?_
        intro g8a g8b
        refine x_push 1 rfl ?_
        refine x_isub ?_
        refine x_put138 (by decide) rfl ⟨by decide, rfl⟩ (by decide) F (by omega) (by omega) (fun S9 e9 F9 => ?_)
        refine x_goto ?_
        refine x_blk (b := 6) (a_94 E) rfl ?_
        unfold b_94_6
        refine x_goto ?_
        refine x_G_lo (lo' := [(0, x_R 138), (1, x_I _)]) ⟨rfl, rfl, trivial⟩ ?_
        obtain ⟨i1, i2⟩ := y_GI_pop (τ' := S9) hP hI (by omega) (fun r m h => x_up_nr e9 (fun z => by omega))
        have q14 := x_up_at e9
        exact ih _ (by omega) t O S9 rfl (y_sm_tr hsm (y_sm_e e9 (Or.inr ⟨rfl, by decide⟩))) (by omega) ((x_up_ne e9 (by decide)).trans hO) i1
      · skip
        refine x_blk (b := 5) (a_94 E) rfl ?_
        unfold b_94_5
        refine x_aload rfl ?_
        refine x_iload rfl ?_
        refine x_push 5 rfl ?_
        refine x_aload rfl ?_
        refine x_getR (r := 138) rfl (by decide) (by decide) rfl ?_
        refine x_iload rfl ?_
        refine x_iald (r := 149) (n := 128) (m := t) rfl rfl (by decide) (fun _ => rfl) (by omega) (by omega) (by omega) ?_
        intro g10a g10b
        refine x_iadd ?_
        refine x_cV (fun _ => rfl) rfl (by decide) (Nat.le_of_ble_eq_true rfl) ?_
        refine rf_3_p F hP (by omega) (by omega) (by omega) (by omega) (fun v11 v11a v11b v11c v11d v11e => ?_)
        rw [show (5 + τ 149 t - 5).toNat = (τ 149 t).toNat by omega] at v11d v11e
        refine x_istore ?_
        refine x_aload rfl ?_
        refine x_getR (r := 138) rfl (by decide) (by decide) rfl ?_
        refine x_iload rfl ?_
        refine x_dup2 rfl rfl ?_
        refine x_iald (r := 149) (n := 128) (m := t) rfl rfl (by decide) (fun _ => rfl) (by omega) (by omega) (by omega) ?_
        intro g12a g12b
        refine x_push 1 rfl ?_
        refine x_iadd ?_
        refine x_astN (m := t) y_m149 F (by omega) (by omega) (by omega) (by omega) (by omega) (fun S13 e13 F13 => ?_)
        have w13 := x_up_at e13
        refine x_iload rfl ?_
        refine x_push 9 rfl ?_
        refine x_icmp_le (by omega) (by omega) (by omega) (by omega) (fun z14 => ?_) (fun z14 => ?_)
        · skip
          refine x_blk (b := 7) (a_94 E) rfl ?_
          unfold b_94_7
          refine x_aload rfl ?_
          refine x_getI (r := 138) rfl (by decide) (by decide) (by decide) rfl ?_
          have q15_0 : S13 138 18 = τ 138 18 := x_up_nr e13 (by decide)
          simp only [q15_0]
          intro g15a g15b
          refine x_push 40 rfl ?_
          refine x_icmp_ne (by omega) (by omega) (by omega) (by omega) (fun z16 => ?_) (fun z16 => ?_)
          · skip
            refine x_push 2 rfl ?_
            refine x_iret ?_
            have q18 : S13 138 18 = τ 138 18 := x_up_nr e13 (by decide)
            exact k _ _ F13 (by omega) (by omega) (by omega) (fun z => absurd z (by omega))
          · skip
            refine x_blk (b := 11) (a_94 E) rfl ?_
            unfold b_94_11
            refine x_aload rfl ?_
            refine x_getR (r := 138) rfl (by decide) (by decide) rfl ?_
            refine x_aload rfl ?_
            refine x_getI (r := 138) rfl (by decide) (by decide) (by decide) rfl ?_
            have q17_0 : S13 138 18 = τ 138 18 := x_up_nr e13 (by decide)
            simp only [q17_0]
            intro g17a g17b
            refine x_iload rfl ?_
            refine x_astN (m := O) y_m151 F13 (by omega) (by omega) (by omega) (by omega) (by omega) (fun S18 e18 F18 => ?_)
            have w18 := x_up_at e18
            refine x_aload rfl ?_
            refine x_dup rfl ?_
            refine x_getI (r := 138) rfl (by decide) (by decide) (by decide) rfl ?_
            have q19_0 : S18 138 18 = S13 138 18 := x_up_nr e18 (by decide)
            have q19_1 : S13 138 18 = τ 138 18 := x_up_nr e13 (by decide)
            simp only [q19_0, q19_1]
            intro g19a g19b
            refine x_push 1 rfl ?_
            refine x_iadd ?_
            refine x_put138 (by decide) rfl ⟨by decide, rfl⟩ (by decide) F18 (by omega) (by omega) (fun S20 e20 F20 => ?_)
            refine x_fall ?_
            refine x_blk (b := 6) (a_94 E) rfl ?_
            unfold b_94_6
            refine x_goto ?_
            refine x_G_lo (lo' := [(0, x_R 138), (1, x_I _)]) ⟨rfl, rfl, trivial⟩ ?_
            have GI : y_GI σ S20 (t + 1) (O + 1) ∧ y_nsum (y_wt S20) (t + 1) < y_nsum (y_wt τ) (t + 1) := by
              refine y_GI_out (x := v11) hP hI (by omega) (by omega) v11d (by omega) (by omega) (fun m => ⟨?_, ?_⟩) ?_ (fun m hm => ?_) ?_ (fun m hm => ?_)
              · rw [x_up_nr e20 (by decide), x_up_nr e18 (by decide), x_up_nr e13 (by decide)]
              · rw [x_up_nr e20 (by decide), x_up_nr e18 (by decide), x_up_nr e13 (by decide)]
              · rw [x_up_nr e20 (by decide), x_up_nr e18 (by decide), x_up_at e13]
              · rw [x_up_nr e20 (by decide), x_up_nr e18 (by decide), x_up_ne e13 (fun z => hm z.2)]
              · rw [x_up_nr e20 (by decide), x_up_at e18]
              · rw [x_up_nr e20 (by decide), x_up_ne e18 (fun z => hm z.2), x_up_nr e13 (by decide)]
            have q14 : S20 138 14 = τ 138 14 := (x_up_ne e20 (by decide)).trans ((x_up_nr e18 (by decide)).trans (x_up_nr e13 (by decide)))
            have q18 := x_up_at e20
            have i2 := GI.2
            exact ih _ (by omega) (t + 1) (O + 1) S20 rfl (y_sm_tr (y_sm_tr (y_sm_tr hsm (y_sm_e e13 (Or.inl (by decide)))) (y_sm_e e18 (Or.inl (by decide)))) (y_sm_e e20 (Or.inr ⟨rfl, by decide⟩))) (by omega) (by omega) GI.1
        · skip
          refine x_aload rfl ?_
          refine x_getR (r := 138) rfl (by decide) (by decide) rfl ?_
          refine x_iload rfl ?_
          refine x_iald (r := 150) (n := 128) (m := t) rfl rfl (by decide) (fun _ => rfl) (by omega) (by omega) (by omega) ?_
          have q21_0 : S13 150 (t) = τ 150 (t) := x_up_nr e13 (by decide)
          rw [q21_0]
          intro g21a g21b
          refine x_istore ?_
          refine x_X_lo (lo' := [(0, x_R 138), (1, x_I _), (3, x_I _), (4, x_I _), (5, x_I _), (6, x_I _)]) ⟨rfl, rfl, rfl, rfl, rfl, rfl, trivial⟩ ?_
          refine x_aload rfl ?_
          refine x_iload rfl ?_
          refine x_aload rfl ?_
          refine x_getR (r := 138) rfl (by decide) (by decide) rfl ?_
          refine x_iload rfl ?_
          refine x_iald (r := 145) (n := 40) (m := (τ 150 t).toNat) rfl rfl (by decide) (fun _ => rfl) (by omega) (by omega) (by omega) ?_
          have q22_0 : S13 145 ((τ 150 t).toNat) = τ 145 ((τ 150 t).toNat) := x_up_nr e13 (by decide)
          rw [q22_0]
          rw [l5]
          intro g22a g22b
          refine x_iload rfl ?_
          refine x_cV (fun _ => rfl) rfl (by decide) (Nat.le_of_ble_eq_true rfl) ?_
          refine rs_32 (by omega) (by omega) (by omega) (by omega) (by omega) (by omega) (y_rf_P F13 hP) (fun y23 => ?_) (fun y23 => ?_)
          · skip
            refine x_if_eq (by omega) (by omega) (fun z => absurd z (by omega)) (fun z24 => ?_)
            refine x_aload rfl ?_
            refine x_getR (r := 138) rfl (by decide) (by decide) rfl ?_
            refine x_iload rfl ?_
            refine x_push 1 rfl ?_
            refine x_iadd ?_
            refine x_iald (r := 146) (n := 40) (m := (τ 150 t).toNat + 1) rfl rfl (by decide) (fun _ => rfl) (by omega) (by omega) (by omega) ?_
            have q25_0 : S13 146 ((τ 150 t).toNat + 1) = τ 146 ((τ 150 t).toNat + 1) := x_up_nr e13 (by decide)
            rw [q25_0]
            rw [l6]
            intro g25a g25b
            refine x_goto ?_
            refine x_blk (b := 9) (a_94 E) rfl ?_
            unfold b_94_9
            refine x_istore ?_
            refine x_aload rfl ?_
            refine x_iload rfl ?_
            refine x_iload rfl ?_
            refine x_push 10 rfl ?_
            refine x_isub ?_
            refine x_push 2 rfl ?_
            refine x_idiv (by omega) (by omega) (by omega) (by omega) ?_
            refine x_iload rfl ?_
            have p14 : S13 138 14 = τ 138 14 := x_up_nr e13 (by decide)
            refine x_cV (fun _ => rfl) rfl (by decide) (Nat.le_of_ble_eq_true rfl) ?_
            refine rs_95 (by omega) (by omega) (by omega) (by omega) (by omega) (by omega) (by omega) (y_rf_P F13 hP) (fun S26 r26 f26 ra26 rb26 rc26 rd26 re26 rf26 rg26 rh26 => ?_) (fun S26 f26 => ?_)
            · have F26 := y_rf_tr F13 (y_sm_rf2 f26 (by decide) (by decide))
              refine x_if_ne (by omega) (by omega) (fun z => absurd z (by omega)) (fun z27 => ?_)
              refine x_blk (b := 10) (a_94 E) rfl ?_
              unfold b_94_10
              refine x_goto ?_
              refine x_blk (b := 6) (a_94 E) rfl ?_
              unfold b_94_6
              refine x_goto ?_
              refine x_G_lo (lo' := [(0, x_R 138), (1, x_I _)]) ⟨rfl, rfl, trivial⟩ ?_
              have q14 : S13 138 14 = τ 138 14 := x_up_nr e13 (by decide)
              have q18 : S26 138 18 = τ 138 18 := (f26 138 18 (by decide) (by decide)).trans (x_up_nr e13 (by decide))
              have eH : (S13 138 14).toNat = t + 1 := by omega
              rw [eH] at re26 rf26 rg26 rh26
              have n62 := y_rf_n F13 62
              have nL := y_rf_n F13 (63 + 12 * r26.toNat + 2)
              have GI : y_GI σ S26 (t + 2) O ∧ y_nsum (y_wt S26) (t + 2) < y_nsum (y_wt τ) (t + 1) := by
                refine y_GI_call hP hI (by omega) (by omega) (by omega) (fun m hm => ⟨?_, ?_⟩) ?_ (fun m hm hm2 => ?_) (by rw [re26]; omega) rf26 (by rw [rg26]; omega) ?_ (fun m => ?_)
                · rw [(rh26 m hm).1, x_up_nr e13 (by decide)]
                · rw [(rh26 m hm).2.2, x_up_nr e13 (by decide)]
                · rw [(rh26 t (by omega)).2.1, x_up_at e13]
                · rw [(rh26 m hm2).2.1, x_up_ne e13 (fun z => hm z.2)]
                · rw [re26, rg26, ← nL, rc26, x_up_nr e13 (by decide), l5]
                · rw [y_sm_a f26 151 (by decide) (by decide), x_up_nr e13 (by decide)]
              have i2 := GI.2
              exact ih _ (by omega) (t + 2) O S26 rfl (y_sm_tr (y_sm_tr hsm (y_sm_e e13 (Or.inl (by decide)))) (y_sm_w (by decide) (by decide) f26)) (by omega) (by omega) GI.1
            · have F26 := y_rf_tr F13 (y_sm_rf2 f26 (by decide) (by decide))
              refine x_if_ne (by omega) (by omega) (fun z28 => ?_) (fun z => absurd (by omega) z)
              refine x_push 1 rfl ?_
              refine x_iret ?_
              have q18 : S26 138 18 = τ 138 18 := (f26 138 18 (by decide) (by decide)).trans (x_up_nr e13 (by decide))
              have hO40 := hI.2.1
              exact k _ _ F26 (by omega) (by omega) (by omega) (fun z => absurd z (by omega))
          · skip
            refine x_if_eq (by omega) (by omega) (fun z29 => ?_) (fun z => absurd (by omega) z)
            refine x_blk (b := 8) (a_94 E) rfl ?_
            unfold b_94_8
            refine x_iload rfl ?_
            refine x_push 1 rfl ?_
            refine x_iadd ?_
            refine x_fall ?_
            refine x_blk (b := 9) (a_94 E) rfl ?_
            unfold b_94_9
            refine x_istore ?_
            refine x_aload rfl ?_
            refine x_iload rfl ?_
            refine x_iload rfl ?_
            refine x_push 10 rfl ?_
            refine x_isub ?_
            refine x_push 2 rfl ?_
            refine x_idiv (by omega) (by omega) (by omega) (by omega) ?_
            refine x_iload rfl ?_
            have p14 : S13 138 14 = τ 138 14 := x_up_nr e13 (by decide)
            refine x_cV (fun _ => rfl) rfl (by decide) (Nat.le_of_ble_eq_true rfl) ?_
            refine rs_95 (by omega) (by omega) (by omega) (by omega) (by omega) (by omega) (by omega) (y_rf_P F13 hP) (fun S30 r30 f30 ra30 rb30 rc30 rd30 re30 rf30 rg30 rh30 => ?_) (fun S30 f30 => ?_)
            · have F30 := y_rf_tr F13 (y_sm_rf2 f30 (by decide) (by decide))
              refine x_if_ne (by omega) (by omega) (fun z => absurd z (by omega)) (fun z31 => ?_)
              refine x_blk (b := 10) (a_94 E) rfl ?_
              unfold b_94_10
              refine x_goto ?_
              refine x_blk (b := 6) (a_94 E) rfl ?_
              unfold b_94_6
              refine x_goto ?_
              refine x_G_lo (lo' := [(0, x_R 138), (1, x_I _)]) ⟨rfl, rfl, trivial⟩ ?_
              have q14 : S13 138 14 = τ 138 14 := x_up_nr e13 (by decide)
              have q18 : S30 138 18 = τ 138 18 := (f30 138 18 (by decide) (by decide)).trans (x_up_nr e13 (by decide))
              have eH : (S13 138 14).toNat = t + 1 := by omega
              rw [eH] at re30 rf30 rg30 rh30
              have n62 := y_rf_n F13 62
              have nL := y_rf_n F13 (63 + 12 * r30.toNat + 2)
              have GI : y_GI σ S30 (t + 2) O ∧ y_nsum (y_wt S30) (t + 2) < y_nsum (y_wt τ) (t + 1) := by
                refine y_GI_call hP hI (by omega) (by omega) (by omega) (fun m hm => ⟨?_, ?_⟩) ?_ (fun m hm hm2 => ?_) (by rw [re30]; omega) rf30 (by rw [rg30]; omega) ?_ (fun m => ?_)
                · rw [(rh30 m hm).1, x_up_nr e13 (by decide)]
                · rw [(rh30 m hm).2.2, x_up_nr e13 (by decide)]
                · rw [(rh30 t (by omega)).2.1, x_up_at e13]
                · rw [(rh30 m hm2).2.1, x_up_ne e13 (fun z => hm z.2)]
                · rw [re30, rg30, ← nL, rc30, x_up_nr e13 (by decide), l5]
                · rw [y_sm_a f30 151 (by decide) (by decide), x_up_nr e13 (by decide)]
              have i2 := GI.2
              exact ih _ (by omega) (t + 2) O S30 rfl (y_sm_tr (y_sm_tr hsm (y_sm_e e13 (Or.inl (by decide)))) (y_sm_w (by decide) (by decide) f30)) (by omega) (by omega) GI.1
            · have F30 := y_rf_tr F13 (y_sm_rf2 f30 (by decide) (by decide))
              refine x_if_ne (by omega) (by omega) (fun z32 => ?_) (fun z => absurd (by omega) z)
              refine x_push 1 rfl ?_
              refine x_iret ?_
              have q18 : S30 138 18 = τ 138 18 := (f30 138 18 (by decide) (by decide)).trans (x_up_nr e13 (by decide))
              have hO40 := hI.2.1
              exact k _ _ F30 (by omega) (by omega) (by omega) (fun z => absurd z (by omega))
set_option maxHeartbeats 8000000 in
theorem rs_94_b2 {E : q_E} {σ : x_S} {Q : Option q_V → x_S → Prop} {a1 a2 : Int} (a1l : 0 ≤ a1) (a1h : a1 ≤ 1) (a2l : (-2147483648) ≤ a2) (a2h : a2 ≤ 2147483647) (rq0 : y_gd σ) (hP : y_PI (σ 140)) (k : ∀ τ v, y_rf σ τ → 0 ≤ v → v ≤ 2 → 0 ≤ τ 138 18 ∧ τ 138 18 ≤ 40 → (v = 0 → y_tr (τ 151) (τ 138 18).toNat) → Q (some (x_I v)) τ) : ∀ (N : Nat) (i : Int) (τ : x_S), (40 - i).toNat = N → 0 ≤ i → i ≤ 40 → y_sm [148, 149, 150, 151, 152] [14, 18, 21] σ τ → τ 138 14 = 0 → τ 138 18 = 0 → x_G E m_94 Q (t_94 2) [(0, x_R 138), (1, x_I a1), (2, x_I a2), (3, x_I i)] [] τ := by
  have ru := hP.2.2.2.1
  have kd := hP.1
  intro N
  induction N using Nat.strongRecOn with
  | ind N ih =>
    intro i τ hN i1 i2 hsm h14 h18
    have F := y_sm_rf2 hsm (by decide) (by decide)
    refine x_blk (b := 2) (a_94 E) rfl ?_
    unfold b_94_2
    refine x_iload rfl ?_
    refine x_push 40 rfl ?_
    refine x_icmp_ge (by omega) (by omega) (by omega) (by omega) (fun z1 => ?_) (fun z1 => ?_)
    · skip
      refine x_aload rfl ?_
      refine x_getR (r := 138) rfl (by decide) (by decide) rfl ?_
      refine x_iload rfl ?_
      refine x_push 0 rfl ?_
      refine x_astM y_m152 F (by omega) (by omega) (by omega) (by omega) (fun S2 e2 F2 => ?_)
      refine x_iinc 1 rfl rfl ?_
      refine x_goto ?_
      refine x_G_lo (lo' := [(0, x_R 138), (1, x_I _), (2, x_I _), (3, x_I _)]) ⟨rfl, rfl, rfl, rfl, trivial⟩ ?_
      exact ih _ (by omega) _ S2 rfl (by omega) (by omega) (y_sm_tr hsm (y_sm_e e2 (Or.inl (by decide)))) ((x_up_nr e2 (by decide)).trans h14) ((x_up_nr e2 (by decide)).trans h18)
    · skip
      refine x_blk (b := 1) (a_94 E) rfl ?_
      unfold b_94_1
      have g1 := rq0.1
      refine x_aload rfl ?_
      refine x_iload rfl ?_
      refine x_iload rfl ?_
      refine x_push 0 rfl ?_
      refine x_cV (fun _ => rfl) rfl (by decide) (Nat.le_of_ble_eq_true rfl) ?_
      refine rs_95 (by omega) (by omega) (by omega) (by omega) (by omega) (by omega) (by omega) (y_rf_P F hP) (fun S3 r3 f3 ra3 rb3 rc3 rd3 re3 rf3 rg3 rh3 => ?_) (fun S3 f3 => ?_)
      · have F3 := y_rf_tr F (y_sm_rf2 f3 (by decide) (by decide))
        refine x_if_ne (by omega) (by omega) (fun z => absurd z (by omega)) (fun z4 => ?_)
        refine x_G_lo (lo' := [(0, x_R 138), (1, x_I _)]) ⟨rfl, rfl, trivial⟩ ?_
        have q18 : S3 138 18 = τ 138 18 := f3 138 18 (by decide) (by decide)
        have n62 := y_rf_n F 62
        have e0 : (τ 138 14).toNat = 0 := by omega
        rw [e0] at re3 rf3 rg3
        have l5 : ∀ m, τ 145 m = σ 145 m := y_sm_a hsm 145 (by decide) (by decide)
        refine rs_94_b3 a1l a1h a2l a2h rq0 hP k _ 1 0 S3 rfl (y_sm_tr hsm (y_sm_w (by decide) (by decide) f3)) (by omega) (by omega) ⟨fun i hi => ?_, by decide, fun m hm => absurd hm (by omega), ?_⟩
        · have hi0 : i = 0 := by omega
          subst hi0
          have h47 : 1 ≤ σ 140 (63 + 12 * r3.toNat + 4) ∧ σ 140 (63 + 12 * r3.toNat + 4) ≤ 7 := (y_rl_of (σ := σ) (r := r3) hP (by omega) (by omega)).2.2.2.2.1
          unfold y_en
          rw [re3, rf3, rg3]
          refine ⟨⟨by omega, by omega⟩, ⟨by omega, by omega⟩, ⟨by omega, by omega⟩, ?_⟩
          rw [← l5, ← rc3]
          exact (y_rf_n F _).symm
        · show (1 : Int) = 0 + y_op (y_W σ (S3 148 0).toNat) (S3 149 0).toNat
          rw [rf3]
          rfl
      · have F3 := y_rf_tr F (y_sm_rf2 f3 (by decide) (by decide))
        refine x_if_ne (by omega) (by omega) (fun z5 => ?_) (fun z => absurd (by omega) z)
        refine x_push 1 rfl ?_
        refine x_iret ?_
        have q18 : S3 138 18 = τ 138 18 := f3 138 18 (by decide) (by decide)
        exact k _ _ F3 (by omega) (by omega) (by omega) (fun z => absurd z (by omega))
theorem rs_94 {E : q_E} {σ : x_S} {Q : Option q_V → x_S → Prop} {a1 a2 : Int} (a1l : 0 ≤ a1) (a1h : a1 ≤ 1) (a2l : (-2147483648) ≤ a2) (a2h : a2 ≤ 2147483647) (rq0 : y_gd σ) (hP : y_PI (σ 140)) (k : ∀ τ v, y_rf σ τ → 0 ≤ v → v ≤ 2 → 0 ≤ τ 138 18 ∧ τ 138 18 ≤ 40 → (v = 0 → y_tr (τ 151) (τ 138 18).toNat) → Q (some (x_I v)) τ) : x_P E 94 [x_R 138, x_I a1, x_I a2] σ Q := by
  have ru := hP.2.2.2.1
  have kd := hP.1
  refine x_Mt e_94 (h_94 E) (Nat.le_of_ble_eq_true rfl) t_94 rfl ?_
  refine x_blk (b := 0) (a_94 E) rfl ?_
  unfold b_94_0
  refine x_aload rfl ?_
  refine x_push 0 rfl ?_
  refine x_put138 (by decide) rfl ⟨by decide, rfl⟩ (by decide) y_rf_rf (by omega) (by omega) (fun S1 e1 F1 => ?_)
  refine x_aload rfl ?_
  refine x_push 0 rfl ?_
  refine x_put138 (by decide) rfl ⟨by decide, rfl⟩ (by decide) F1 (by omega) (by omega) (fun S2 e2 F2 => ?_)
  refine x_push 0 rfl ?_
  refine x_istore ?_
  refine x_fall ?_
  refine x_G_lo (lo' := [(0, x_R 138), (1, x_I _), (2, x_I _), (3, x_I _)]) ⟨rfl, rfl, rfl, rfl, trivial⟩ ?_
  exact rs_94_b2 a1l a1h a2l a2h rq0 hP k _ _ S2 rfl (by omega) (by omega) (y_sm_tr (y_sm_tr y_sm_rf (y_sm_e e1 (Or.inr ⟨rfl, by decide⟩))) (y_sm_e e2 (Or.inr ⟨rfl, by decide⟩))) (x_up_at e2) ((x_up_ne e2 (by decide)).trans (x_up_at e1))
