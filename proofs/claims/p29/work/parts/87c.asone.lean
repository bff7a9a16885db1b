set_option maxHeartbeats 8000000 in
theorem rs_116_b2 {E : q_E} {σ : x_S} {Q : Option q_V → x_S → Prop} (rq0 : y_gd σ) (rq1 : σ 138 10 ≤ 11) (hP : y_PI (σ 140)) (k : ∀ τ v, y_rf σ τ → 0 ≤ v → v ≤ 2 → 0 ≤ τ 138 18 ∧ τ 138 18 ≤ 40 → Q (some (x_I v)) τ) : ∀ (N H : Nat) (τ : x_S), y_nsum (y_w2 τ) H = N → y_bs σ τ → τ 138 14 = H → (0 ≤ τ 138 18 ∧ τ 138 18 ≤ 40) → (∀ i, i < H → y_e2 σ τ i) → x_G E m_116 Q (t_116 2) [(0, x_R 138)] [] τ := by
  have ru := hP.2.2.2.1
  have kd := hP.1
  have gd := rq0
  have g1 := gd.1
  intro N
  induction N using Nat.strongRecOn with
  | ind N ih =>
    intro H τ hN Bt hH hO hI
    have F := y_bs_F Bt
    refine x_blk (b := 2) (a_116 E) rfl ?_
    unfold b_116_2
    refine x_aload rfl ?_
    refine x_getI (r := 138) rfl (by decide) (by decide) (by decide) rfl ?_
    intro g1a g1b
    refine x_if_le (by omega) (by omega) (fun z2 => ?_) (fun z2 => ?_)
    · skip
      refine x_blk (b := 3) (a_116 E) rfl ?_
      unfold b_116_3
      refine x_push 0 rfl ?_
      refine x_iret ?_
      exact k _ _ F (by omega) (by omega) (by omega)
    · skip
      obtain ⟨t, ht⟩ : ∃ t, H = t + 1 := ⟨H - 1, by omega⟩
      subst ht
      have en := hI t (by omega)
      obtain ⟨⟨n1, n2⟩, ⟨n3, n4⟩, ⟨n5, n6⟩, ⟨n7, n8⟩, ⟨n9, n10⟩, n11, n12, n13, n14⟩ := id en
      have szr := y_sz hP n1 n2
      have szb := y_sz hP n7 n8
      refine x_aload rfl ?_
      refine x_getI (r := 138) rfl (by decide) (by decide) (by decide) rfl ?_
      intro g3a g3b
      refine x_push 1 rfl ?_
      refine x_isub ?_
      refine x_istore ?_
      refine x_aload rfl ?_
      refine x_getR (r := 138) rfl (by decide) (by decide) rfl ?_
      refine x_iload rfl ?_
      refine x_iald (r := 148) (n := 128) (m := t) rfl rfl (by decide) (fun _ => rfl) (by omega) (by omega) (by omega) ?_
      intro g4a g4b
      refine x_istore ?_
      refine x_X_lo (lo' := [(0, x_R 138), (1, x_I _), (2, x_I _)]) ⟨rfl, rfl, rfl, trivial⟩ ?_
      refine x_aload rfl ?_
      refine x_getR (r := 138) rfl (by decide) (by decide) rfl ?_
      refine x_iload rfl ?_
      refine x_iald (r := 149) (n := 128) (m := t) rfl rfl (by decide) (fun _ => rfl) (by omega) (by omega) (by omega) ?_
      intro g5a g5b
      refine x_aload rfl ?_
      refine x_iload rfl ?_
      refine x_push 4 rfl ?_
      refine x_cV (fun _ => rfl) rfl (by decide) (Nat.le_of_ble_eq_true rfl) ?_
      refine rf_3_4 F hP (by omega) (by omega) (fun v6 v6a v6b v6c => ?_)
      refine x_icmp_ne (by omega) (by omega) (by omega) (by omega) (fun z7 => ?_) (fun z7 => ?_)
      · skip
        refine x_aload rfl ?_
        refine x_dup rfl ?_
        refine x_getI (r := 138) rfl (by decide) (by decide) (by decide) rfl ?_
        intro g8a g8b
        refine x_push 1 rfl ?_
        refine x_isub ?_
        refine x_put138 (by decide) rfl ⟨by decide, rfl⟩ (by decide) F (by omega) (by omega) (fun S9 e9 F9 => ?_)
        refine x_goto ?_
        refine x_blk (b := 5) (a_116 E) rfl ?_
        unfold b_116_5
        refine x_goto ?_
        refine x_G_lo (lo' := [(0, x_R 138)]) ⟨rfl, trivial⟩ ?_
        obtain ⟨i1, i2⟩ := y_P2_pop (τ' := S9) hP hI (fun r m h => x_up_nr e9 (fun z => by omega))
        have q14 := x_up_at e9
        have q18 : S9 138 18 = τ 138 18 := x_up_ne e9 (by decide)
        exact ih _ (by omega) t S9 rfl (y_sm_tr Bt (y_sm_e e9 (Or.inr ⟨rfl, by decide⟩))) (by omega) (by omega) i1
      · skip
        refine x_blk (b := 4) (a_116 E) rfl ?_
        unfold b_116_4
        refine x_aload rfl ?_
        refine x_iload rfl ?_
        refine x_push 5 rfl ?_
        refine x_aload rfl ?_
        refine x_getR (r := 138) rfl (by decide) (by decide) rfl ?_
        refine x_iload rfl ?_
        refine x_iald (r := 149) (n := 128) (m := t) rfl rfl (by decide) (fun _ => rfl) (by omega) (by omega) (by omega) ?_
        intro g10a g10b
        refine x_iadd ?_
        refine x_cV (fun _ => rfl) rfl (by decide) (Nat.le_of_ble_eq_true rfl) ?_
        refine rf_3_p F hP (by omega) (by omega) (by omega) (by omega) (fun v11 v11a v11b v11c v11d v11e => ?_)
        rw [show (5 + τ 149 t - 5).toNat = (τ 149 t).toNat by omega] at v11d v11e
        refine x_istore ?_
        refine x_aload rfl ?_
        refine x_getR (r := 138) rfl (by decide) (by decide) rfl ?_
        refine x_iload rfl ?_
        refine x_dup2 rfl rfl ?_
        refine x_iald (r := 149) (n := 128) (m := t) rfl rfl (by decide) (fun _ => rfl) (by omega) (by omega) (by omega) ?_
        intro g12a g12b
        refine x_push 1 rfl ?_
        refine x_iadd ?_
        refine x_astN (m := t) y_m149 F (by omega) (by omega) (by omega) (by omega) (by omega) (fun S13 e13 F13 => ?_)
        have w13 := x_up_at e13
        refine x_iload rfl ?_
        refine x_push 9 rfl ?_
        refine x_icmp_le (by omega) (by omega) (by omega) (by omega) (fun z14 => ?_) (fun z14 => ?_)
        · skip
          refine x_blk (b := 6) (a_116 E) rfl ?_
          unfold b_116_6
          refine x_aload rfl ?_
          refine x_getI (r := 138) rfl (by decide) (by decide) (by decide) rfl ?_
          have q15_0 : S13 138 18 = τ 138 18 := x_up_nr e13 (by decide)
          simp only [q15_0]
          intro g15a g15b
          refine x_push 40 rfl ?_
          refine x_icmp_ne (by omega) (by omega) (by omega) (by omega) (fun z16 => ?_) (fun z16 => ?_)
          · skip
            refine x_push 2 rfl ?_
            refine x_iret ?_
            have q18 : S13 138 18 = τ 138 18 := x_up_nr e13 (by decide)
            exact k _ _ F13 (by omega) (by omega) (by omega)
          · skip
            refine x_blk (b := 10) (a_116 E) rfl ?_
            unfold b_116_10
            refine x_aload rfl ?_
            refine x_getR (r := 138) rfl (by decide) (by decide) rfl ?_
            refine x_aload rfl ?_
            refine x_getI (r := 138) rfl (by decide) (by decide) (by decide) rfl ?_
            have q17_0 : S13 138 18 = τ 138 18 := x_up_nr e13 (by decide)
            simp only [q17_0]
            intro g17a g17b
            refine x_iload rfl ?_
            refine x_astM y_m151 F13 (by omega) (by omega) (by omega) (by omega) (fun S18 e18 F18 => ?_)
            refine x_aload rfl ?_
            refine x_dup rfl ?_
            refine x_getI (r := 138) rfl (by decide) (by decide) (by decide) rfl ?_
            have q19_0 : S18 138 18 = S13 138 18 := x_up_nr e18 (by decide)
            have q19_1 : S13 138 18 = τ 138 18 := x_up_nr e13 (by decide)
            simp only [q19_0, q19_1]
            intro g19a g19b
            refine x_push 1 rfl ?_
            refine x_iadd ?_
            refine x_put138 (by decide) rfl ⟨by decide, rfl⟩ (by decide) F18 (by omega) (by omega) (fun S20 e20 F20 => ?_)
            refine x_fall ?_
            refine x_blk (b := 5) (a_116 E) rfl ?_
            unfold b_116_5
            refine x_goto ?_
            refine x_G_lo (lo' := [(0, x_R 138)]) ⟨rfl, trivial⟩ ?_
            have GI : (∀ i, i < t + 1 → y_e2 σ S20 i) ∧ y_nsum (y_w2 S20) (t + 1) + 9 ^ (76 - (7 * τ 150 t + τ 153 t)).toNat = y_nsum (y_w2 τ) (t + 1) := by
              refine y_P2_on hP hI (by omega) (fun r m hr hm hz => ?_) ?_
              · rw [x_up_nr e20 (fun z => by omega), x_up_nr e18 (fun z => by omega), x_up_ne e13 (fun z => hz z.1 z.2)]
              · rw [x_up_nr e20 (by decide), x_up_nr e18 (by decide), x_up_at e13]
            have hpw : 0 < 9 ^ (76 - (7 * τ 150 t + τ 153 t)).toNat := Nat.pow_pos (by decide)
            have i2 := GI.2
            have q14 : S20 138 14 = τ 138 14 := (x_up_ne e20 (by decide)).trans ((x_up_nr e18 (by decide)).trans (x_up_nr e13 (by decide)))
            have q18 := x_up_at e20
            exact ih _ (by omega) (t + 1) S20 rfl (y_sm_tr (y_sm_tr (y_sm_tr Bt (y_sm_e e13 (Or.inl (by decide)))) (y_sm_e e18 (Or.inl (by decide)))) (y_sm_e e20 (Or.inr ⟨rfl, by decide⟩))) (by omega) (by omega) GI.1
        · skip
          refine x_aload rfl ?_
          refine x_aload rfl ?_
          refine x_getR (r := 138) rfl (by decide) (by decide) rfl ?_
          refine x_iload rfl ?_
          refine x_iald (r := 154) (n := 128) (m := t) rfl rfl (by decide) (fun _ => rfl) (by omega) (by omega) (by omega) ?_
          have q21_0 : S13 154 (t) = τ 154 (t) := x_up_nr e13 (by decide)
          rw [q21_0]
          intro g21a g21b
          refine x_put138 (by decide) rfl ⟨by decide, rfl⟩ (by decide) F13 (by omega) (by omega) (fun S22 e22 F22 => ?_)
          refine x_aload rfl ?_
          refine x_aload rfl ?_
          refine x_getR (r := 138) rfl (by decide) (by decide) rfl ?_
          refine x_iload rfl ?_
          refine x_iald (r := 150) (n := 128) (m := t) rfl rfl (by decide) (fun _ => rfl) (by omega) (by omega) (by omega) ?_
          have q23_0 : S22 150 (t) = S13 150 (t) := x_up_nr e22 (by decide)
          have q23_1 : S13 150 (t) = τ 150 (t) := x_up_nr e13 (by decide)
          rw [q23_0, q23_1]
          intro g23a g23b
          refine x_put138 (by decide) rfl ⟨by decide, rfl⟩ (by decide) F22 (by omega) (by omega) (fun S24 e24 F24 => ?_)
          refine x_aload rfl ?_
          refine x_aload rfl ?_
          refine x_getI (r := 138) rfl (by decide) (by decide) (by decide) rfl ?_
          have q25_0 : S24 138 24 = S22 138 24 := x_up_ne e24 (by omega)
          simp only [q25_0]
          have w25 := x_up_at e22
          simp only [w25]
          intro g25a g25b
          refine x_push 5 rfl ?_
          refine x_aload rfl ?_
          refine x_getR (r := 138) rfl (by decide) (by decide) rfl ?_
          refine x_iload rfl ?_
          refine x_iald (r := 153) (n := 128) (m := t) rfl rfl (by decide) (fun _ => rfl) (by omega) (by omega) (by omega) ?_
          have q26_0 : S24 153 (t) = S22 153 (t) := x_up_nr e24 (by decide)
          have q26_1 : S22 153 (t) = S13 153 (t) := x_up_nr e22 (by decide)
          have q26_2 : S13 153 (t) = τ 153 (t) := x_up_nr e13 (by decide)
          rw [q26_0, q26_1, q26_2]
          intro g26a g26b
          refine x_iadd ?_
          refine x_cV (fun _ => rfl) rfl (by decide) (Nat.le_of_ble_eq_true rfl) ?_
          refine rf_3_p F24 hP (by omega) (by omega) (by omega) (by omega) (fun v27 v27a v27b v27c v27d v27e => ?_)
          rw [show (5 + τ 153 t - 5).toNat = (τ 153 t).toNat by omega] at v27d v27e
          have bh := y_behind (σ := σ) (r := τ 154 t) (k := (τ 153 t).toNat) hP n7 n8 (by omega) (by omega) (by omega)
          refine x_istore ?_
          refine x_X_lo (lo' := [(0, x_R 138), (1, x_I _), (2, x_I _), (3, x_I _), (4, x_I _)]) ⟨rfl, rfl, rfl, rfl, rfl, trivial⟩ ?_
          refine x_aload rfl ?_
          refine x_aload rfl ?_
          refine x_push 1 rfl ?_
          refine x_iload rfl ?_
          refine x_iload rfl ?_
          refine x_cV (fun _ => rfl) rfl (by decide) (Nat.le_of_ble_eq_true rfl) ?_
          refine rs_32 (by omega) (by omega) (by omega) (by omega) (by omega) (by omega) (y_rf_P F24 hP) (fun y28 => ?_) (fun y28 => ?_)
          · skip
            refine x_fall ?_
            refine x_blk (b := 11) (a_116 E) rfl ?_
            unfold b_116_11
            refine x_if_eq (by omega) (by omega) (fun z => absurd z (by omega)) (fun z29 => ?_)
            refine x_aload rfl ?_
            refine x_aload rfl ?_
            refine x_getI (r := 138) rfl (by decide) (by decide) (by decide) rfl ?_
            have q30_0 : S24 138 24 = S22 138 24 := x_up_ne e24 (by omega)
            simp only [q30_0]
            have w30 := x_up_at e22
            simp only [w30]
            intro g30a g30b
            refine x_aload rfl ?_
            refine x_getR (r := 138) rfl (by decide) (by decide) rfl ?_
            refine x_iload rfl ?_
            refine x_iald (r := 153) (n := 128) (m := t) rfl rfl (by decide) (fun _ => rfl) (by omega) (by omega) (by omega) ?_
            have q31_0 : S24 153 (t) = S22 153 (t) := x_up_nr e24 (by decide)
            have q31_1 : S22 153 (t) = S13 153 (t) := x_up_nr e22 (by decide)
            have q31_2 : S13 153 (t) = τ 153 (t) := x_up_nr e13 (by decide)
            rw [q31_0, q31_1, q31_2]
            intro g31a g31b
            refine x_push 1 rfl ?_
            refine x_iadd ?_
            have n62 := y_rf_n F24 62
            have n4b := y_rf_n F24 (63 + 12 * (τ 154 t).toNat + 4)
            have hW : y_W S24 (τ 154 t).toNat = y_W σ (τ 154 t).toNat := funext (fun i => y_rf_n F24 _)
            refine x_cV (fun _ => rfl) rfl (by decide) (Nat.le_of_ble_eq_true rfl) ?_
            refine rs_196 (by omega) (by omega) (by omega) (by omega) (by omega) (by omega) (y_rf_P F24 hP) (fun v32 v32a v32b k32_0 k32_1 k32_2 => ?_)
            rw [hW, show (τ 153 t + 1).toNat = (τ 153 t).toNat + 1 by omega] at k32_2
            have hlt : v32 < σ 140 (63 + 12 * (τ 154 t).toNat + 4) := by
              by_cases c : v32.toNat = (σ 140 (63 + 12 * (τ 154 t).toNat + 4)).toNat
              · rw [c] at k32_2
                have he : y_op (y_W σ (τ 154 t).toNat) (σ 140 (63 + 12 * (τ 154 t).toNat + 4)).toNat = 0 := (y_rl_of hP n7 n8).2.2.2.2.2.2
                omega
              · omega
            refine x_goto ?_
            refine x_blk (b := 8) (a_116 E) rfl ?_
            unfold b_116_8
            refine x_put138 (by decide) rfl ⟨by decide, rfl⟩ (by decide) F24 (by omega) (by omega) (fun S33 e33 F33 => ?_)
            refine x_aload rfl ?_
            refine x_iload rfl ?_
            refine x_push 10 rfl ?_
            refine x_isub ?_
            refine x_push 2 rfl ?_
            refine x_idiv (by omega) (by omega) (by omega) (by omega) ?_
            have w24 : S33 138 24 = τ 154 t := by rw [x_up_ne e33 (by decide), x_up_ne e24 (by decide), x_up_at e22]
            have w26 : S33 138 26 = τ 150 t := by rw [x_up_ne e33 (by decide), x_up_at e24]
            have w25 := x_up_at e33
            have p14 : S33 138 14 = τ 138 14 := by rw [x_up_ne e33 (by decide), x_up_ne e24 (by decide), x_up_ne e22 (by decide), x_up_nr e13 (by decide)]
            have un1 : y_un σ S33 := by
              unfold y_un
              rw [w24, w26]
              exact ⟨⟨n7, n8⟩, ⟨by omega, by omega⟩, ⟨n5, n6⟩, n11⟩
            refine x_cV (fun _ => rfl) rfl (by decide) (Nat.le_of_ble_eq_true rfl) ?_
            refine rs_194 (by omega) (by omega) (y_sm_tr (y_sm_tr (y_sm_tr (y_sm_tr Bt (y_sm_e e13 (Or.inl (by decide)))) (y_sm_e e22 (Or.inr ⟨rfl, by decide⟩))) (y_sm_e e24 (Or.inr ⟨rfl, by decide⟩))) (y_sm_e e33 (Or.inr ⟨rfl, by decide⟩))) hP gd un1 (by omega) (fun S34 f34 ca34 cb34 cc34 cd34 ce34 => ?_) (fun S34 f34 => ?_)
            · skip
              have B34 : y_bs σ S34 := y_sm_tr (y_sm_tr (y_sm_tr (y_sm_tr (y_sm_tr Bt (y_sm_e e13 (Or.inl (by decide)))) (y_sm_e e22 (Or.inr ⟨rfl, by decide⟩))) (y_sm_e e24 (Or.inr ⟨rfl, by decide⟩))) (y_sm_e e33 (Or.inr ⟨rfl, by decide⟩))) (y_sm_w (by decide) (by decide) f34)
              have F34 := y_bs_F B34
              refine x_if_ne (by omega) (by omega) (fun z => absurd z (by omega)) (fun z35 => ?_)
              refine x_blk (b := 9) (a_116 E) rfl ?_
              unfold b_116_9
              refine x_goto ?_
              refine x_blk (b := 5) (a_116 E) rfl ?_
              unfold b_116_5
              refine x_goto ?_
              refine x_G_lo (lo' := [(0, x_R 138)]) ⟨rfl, trivial⟩ ?_
              have GI : (∀ i, i < t + 1 → y_e2 σ S33 i) ∧ y_nsum (y_w2 S33) (t + 1) + 9 ^ (76 - (7 * τ 150 t + τ 153 t)).toNat = y_nsum (y_w2 τ) (t + 1) := by
                refine y_P2_on hP hI (by omega) (fun r m hr hm hz => ?_) ?_
                · rw [x_up_nr e33 (fun z => by omega), x_up_nr e24 (fun z => by omega), x_up_nr e22 (fun z => by omega), x_up_ne e13 (fun z => hz z.1 z.2)]
                · rw [x_up_nr e33 (by decide), x_up_nr e24 (by decide), x_up_nr e22 (by decide), x_up_at e13]
              have eH : (S33 138 14).toNat = t + 1 := by omega
              rw [eH] at cb34 cc34 cd34 ce34
              have hn := ce34 (by omega)
              obtain ⟨⟨m1, m2⟩, ⟨m3, m4⟩, ⟨m5, m6⟩, ⟨m7, m8⟩, ⟨m9, m10⟩, m11, m12, m13, m14⟩ := id hn
              have szm := y_sz hP m7 m8
              have GJ := y_P2_add (τ := S33) (τ' := S34) (t := t + 1) (x := (76 - (7 * τ 150 t + τ 153 t)).toNat) GI.1 (fun r m hr hm => cb34 r m hr (by omega)) hn cd34 (by omega)
              have i1 := GI.2
              have i2 := GJ.2
              have q18 : S34 138 18 = τ 138 18 := by
                rw [f34 138 18 (by decide) (by decide), x_up_ne e33 (by decide), x_up_ne e24 (by decide), x_up_ne e22 (by decide), x_up_nr e13 (by decide)]
              exact ih _ (by omega) (t + 1 + 1) S34 rfl (y_sm_tr (y_sm_tr (y_sm_tr (y_sm_tr (y_sm_tr Bt (y_sm_e e13 (Or.inl (by decide)))) (y_sm_e e22 (Or.inr ⟨rfl, by decide⟩))) (y_sm_e e24 (Or.inr ⟨rfl, by decide⟩))) (y_sm_e e33 (Or.inr ⟨rfl, by decide⟩))) (y_sm_w (by decide) (by decide) f34)) (by omega) (by omega) GJ.1
            · skip
              have B34 := y_bs_us (y_sm_tr (y_sm_tr (y_sm_tr (y_sm_tr Bt (y_sm_e e13 (Or.inl (by decide)))) (y_sm_e e22 (Or.inr ⟨rfl, by decide⟩))) (y_sm_e e24 (Or.inr ⟨rfl, by decide⟩))) (y_sm_e e33 (Or.inr ⟨rfl, by decide⟩))) f34
              have F34 := y_bs_F B34
              refine x_if_ne (by omega) (by omega) (fun z36 => ?_) (fun z => absurd (by omega) z)
              refine x_push 1 rfl ?_
              refine x_iret ?_
              have q18 : S34 138 18 = τ 138 18 := by
                rw [f34 138 18 (by decide) (by decide), x_up_ne e33 (by decide), x_up_ne e24 (by decide), x_up_ne e22 (by decide), x_up_nr e13 (by decide)]
              exact k _ _ F34 (by omega) (by omega) (by omega)
          · skip
            refine x_fall ?_
            refine x_blk (b := 11) (a_116 E) rfl ?_
            unfold b_116_11
            refine x_if_eq (by omega) (by omega) (fun z37 => ?_) (fun z => absurd (by omega) z)
            refine x_blk (b := 7) (a_116 E) rfl ?_
            unfold b_116_7
            refine x_aload rfl ?_
            refine x_getR (r := 138) rfl (by decide) (by decide) rfl ?_
            refine x_iload rfl ?_
            refine x_iald (r := 153) (n := 128) (m := t) rfl rfl (by decide) (fun _ => rfl) (by omega) (by omega) (by omega) ?_
            have q38_0 : S24 153 (t) = S22 153 (t) := x_up_nr e24 (by decide)
            have q38_1 : S22 153 (t) = S13 153 (t) := x_up_nr e22 (by decide)
            have q38_2 : S13 153 (t) = τ 153 (t) := x_up_nr e13 (by decide)
            rw [q38_0, q38_1, q38_2]
            intro g38a g38b
            refine x_push 1 rfl ?_
            refine x_iadd ?_
            refine x_fall ?_
            refine x_blk (b := 8) (a_116 E) rfl ?_
            unfold b_116_8
            refine x_put138 (by decide) rfl ⟨by decide, rfl⟩ (by decide) F24 (by omega) (by omega) (fun S39 e39 F39 => ?_)
            refine x_aload rfl ?_
            refine x_iload rfl ?_
            refine x_push 10 rfl ?_
            refine x_isub ?_
            refine x_push 2 rfl ?_
            refine x_idiv (by omega) (by omega) (by omega) (by omega) ?_
            have w24 : S39 138 24 = τ 154 t := by rw [x_up_ne e39 (by decide), x_up_ne e24 (by decide), x_up_at e22]
            have w26 : S39 138 26 = τ 150 t := by rw [x_up_ne e39 (by decide), x_up_at e24]
            have w25 := x_up_at e39
            have p14 : S39 138 14 = τ 138 14 := by rw [x_up_ne e39 (by decide), x_up_ne e24 (by decide), x_up_ne e22 (by decide), x_up_nr e13 (by decide)]
            have un1 : y_un σ S39 := by
              unfold y_un
              rw [w24, w26]
              exact ⟨⟨n7, n8⟩, ⟨by omega, by omega⟩, ⟨n5, n6⟩, n11⟩
            refine x_cV (fun _ => rfl) rfl (by decide) (Nat.le_of_ble_eq_true rfl) ?_
            refine rs_194 (by omega) (by omega) (y_sm_tr (y_sm_tr (y_sm_tr (y_sm_tr Bt (y_sm_e e13 (Or.inl (by decide)))) (y_sm_e e22 (Or.inr ⟨rfl, by decide⟩))) (y_sm_e e24 (Or.inr ⟨rfl, by decide⟩))) (y_sm_e e39 (Or.inr ⟨rfl, by decide⟩))) hP gd un1 (by omega) (fun S40 f40 ca40 cb40 cc40 cd40 ce40 => ?_) (fun S40 f40 => ?_)
            · skip
              have B40 : y_bs σ S40 := y_sm_tr (y_sm_tr (y_sm_tr (y_sm_tr (y_sm_tr Bt (y_sm_e e13 (Or.inl (by decide)))) (y_sm_e e22 (Or.inr ⟨rfl, by decide⟩))) (y_sm_e e24 (Or.inr ⟨rfl, by decide⟩))) (y_sm_e e39 (Or.inr ⟨rfl, by decide⟩))) (y_sm_w (by decide) (by decide) f40)
              have F40 := y_bs_F B40
              refine x_if_ne (by omega) (by omega) (fun z => absurd z (by omega)) (fun z41 => ?_)
              refine x_blk (b := 9) (a_116 E) rfl ?_
              unfold b_116_9
              refine x_goto ?_
              refine x_blk (b := 5) (a_116 E) rfl ?_
              unfold b_116_5
              refine x_goto ?_
              refine x_G_lo (lo' := [(0, x_R 138)]) ⟨rfl, trivial⟩ ?_
              have GI : (∀ i, i < t + 1 → y_e2 σ S39 i) ∧ y_nsum (y_w2 S39) (t + 1) + 9 ^ (76 - (7 * τ 150 t + τ 153 t)).toNat = y_nsum (y_w2 τ) (t + 1) := by
                refine y_P2_on hP hI (by omega) (fun r m hr hm hz => ?_) ?_
                · rw [x_up_nr e39 (fun z => by omega), x_up_nr e24 (fun z => by omega), x_up_nr e22 (fun z => by omega), x_up_ne e13 (fun z => hz z.1 z.2)]
                · rw [x_up_nr e39 (by decide), x_up_nr e24 (by decide), x_up_nr e22 (by decide), x_up_at e13]
              have eH : (S39 138 14).toNat = t + 1 := by omega
              rw [eH] at cb40 cc40 cd40 ce40
              have hn := ce40 (by omega)
              obtain ⟨⟨m1, m2⟩, ⟨m3, m4⟩, ⟨m5, m6⟩, ⟨m7, m8⟩, ⟨m9, m10⟩, m11, m12, m13, m14⟩ := id hn
              have szm := y_sz hP m7 m8
              have GJ := y_P2_add (τ := S39) (τ' := S40) (t := t + 1) (x := (76 - (7 * τ 150 t + τ 153 t)).toNat) GI.1 (fun r m hr hm => cb40 r m hr (by omega)) hn cd40 (by omega)
              have i1 := GI.2
              have i2 := GJ.2
              have q18 : S40 138 18 = τ 138 18 := by
                rw [f40 138 18 (by decide) (by decide), x_up_ne e39 (by decide), x_up_ne e24 (by decide), x_up_ne e22 (by decide), x_up_nr e13 (by decide)]
              exact ih _ (by omega) (t + 1 + 1) S40 rfl (y_sm_tr (y_sm_tr (y_sm_tr (y_sm_tr (y_sm_tr Bt (y_sm_e e13 (Or.inl (by decide)))) (y_sm_e e22 (Or.inr ⟨rfl, by decide⟩))) (y_sm_e e24 (Or.inr ⟨rfl, by decide⟩))) (y_sm_e e39 (Or.inr ⟨rfl, by decide⟩))) (y_sm_w (by decide) (by decide) f40)) (by omega) (by omega) GJ.1
            · skip
              have B40 := y_bs_us (y_sm_tr (y_sm_tr (y_sm_tr (y_sm_tr Bt (y_sm_e e13 (Or.inl (by decide)))) (y_sm_e e22 (Or.inr ⟨rfl, by decide⟩))) (y_sm_e e24 (Or.inr ⟨rfl, by decide⟩))) (y_sm_e e39 (Or.inr ⟨rfl, by decide⟩))) f40
              have F40 := y_bs_F B40
              refine x_if_ne (by omega) (by omega) (fun z42 => ?_) (fun z => absurd (by omega) z)
              refine x_push 1 rfl ?_
              refine x_iret ?_
              have q18 : S40 138 18 = τ 138 18 := by
                rw [f40 138 18 (by decide) (by decide), x_up_ne e39 (by decide), x_up_ne e24 (by decide), x_up_ne e22 (by decide), x_up_nr e13 (by decide)]
              exact k _ _ F40 (by omega) (by omega) (by omega)
theorem rs_116 {E : q_E} {σ : x_S} {Q : Option q_V → x_S → Prop} (rq0 : y_gd σ) (rq1 : σ 138 10 ≤ 11) (hP : y_PI (σ 140)) (k : ∀ τ v, y_rf σ τ → 0 ≤ v → v ≤ 2 → 0 ≤ τ 138 18 ∧ τ 138 18 ≤ 40 → Q (some (x_I v)) τ) : x_P E 116 [x_R 138] σ Q := by
  have ru := hP.2.2.2.1
  have kd := hP.1
  have gd := rq0
  have g1 := gd.1
  refine x_Mt e_116 (h_116 E) (Nat.le_of_ble_eq_true rfl) t_116 rfl ?_
  refine x_blk (b := 0) (a_116 E) rfl ?_
  unfold b_116_0
  refine x_aload rfl ?_
  refine x_push 0 rfl ?_
  refine x_put138 (by decide) rfl ⟨by decide, rfl⟩ (by decide) y_rf_rf (by omega) (by omega) (fun S1 e1 F1 => ?_)
  refine x_aload rfl ?_
  refine x_push 0 rfl ?_
  refine x_put138 (by decide) rfl ⟨by decide, rfl⟩ (by decide) F1 (by omega) (by omega) (fun S2 e2 F2 => ?_)
  refine x_aload rfl ?_
  refine x_push 0 rfl ?_
  refine x_push 0 rfl ?_
  refine x_cV (fun _ => rfl) rfl (by decide) (Nat.le_of_ble_eq_true rfl) ?_
  refine rs_117 (by omega) (by omega) (by omega) (by omega) (y_sm_tr (y_sm_tr y_sm_rf (y_sm_e e1 (Or.inr ⟨rfl, by decide⟩))) (y_sm_e e2 (Or.inr ⟨rfl, by decide⟩))) hP gd (fun S3 r3 f3 ra3 rb3 rc3 rd3 re3 => ?_) (fun S3 f3 => ?_)
  · skip
    have B3 := y_bs_us (y_sm_tr (y_sm_tr y_sm_rf (y_sm_e e1 (Or.inr ⟨rfl, by decide⟩))) (y_sm_e e2 (Or.inr ⟨rfl, by decide⟩))) f3
    have F3 := y_bs_F B3
    refine x_if_eq (by omega) (by omega) (fun z => absurd z (by omega)) (fun z4 => ?_)
    have p14 : S3 138 14 = 0 := (f3 138 14 (by decide) (by decide)).trans (x_up_at e2)
    have p18 : S3 138 18 = 0 := (f3 138 18 (by decide) (by decide)).trans ((x_up_ne e2 (by decide)).trans (x_up_at e1))
    have un1 : y_un σ S3 := by
      unfold y_un
      rw [ra3, rb3, rc3]
      have := y_sz hP rd3.1 rd3.2
      exact ⟨rd3, ⟨by omega, by omega⟩, ⟨by omega, by omega⟩, re3⟩
    refine x_aload rfl ?_
    refine x_push 0 rfl ?_
    refine x_cV (fun _ => rfl) rfl (by decide) (Nat.le_of_ble_eq_true rfl) ?_
    refine rs_194 (by omega) (by omega) (y_sm_tr (y_sm_tr (y_sm_tr y_sm_rf (y_sm_e e1 (Or.inr ⟨rfl, by decide⟩))) (y_sm_e e2 (Or.inr ⟨rfl, by decide⟩))) (y_sm_w (by decide) (by decide) f3)) hP gd un1 (by omega) (fun S5 f5 ca5 cb5 cc5 cd5 ce5 => ?_) (fun S5 f5 => ?_)
    · skip
      have B5 : y_bs σ S5 := y_sm_tr (y_sm_tr (y_sm_tr (y_sm_tr y_sm_rf (y_sm_e e1 (Or.inr ⟨rfl, by decide⟩))) (y_sm_e e2 (Or.inr ⟨rfl, by decide⟩))) (y_sm_w (by decide) (by decide) f3)) (y_sm_w (by decide) (by decide) f5)
      have F5 := y_bs_F B5
      refine x_if_ne (by omega) (by omega) (fun z => absurd z (by omega)) (fun z6 => ?_)
      refine x_G_lo (lo' := [(0, x_R 138)]) ⟨rfl, trivial⟩ ?_
      have e0 : (S3 138 14).toNat = 0 := by omega
      rw [e0] at cd5 ce5 cc5
      have q18 : S5 138 18 = 0 := (f5 138 18 (by decide) (by decide)).trans p18
      refine rs_116_b2 rq0 rq1 hP k _ 1 S5 rfl (y_sm_tr (y_sm_tr (y_sm_tr (y_sm_tr y_sm_rf (y_sm_e e1 (Or.inr ⟨rfl, by decide⟩))) (y_sm_e e2 (Or.inr ⟨rfl, by decide⟩))) (y_sm_w (by decide) (by decide) f3)) (y_sm_w (by decide) (by decide) f5)) (by omega) (by omega) (fun i hi => ?_)
      have hi0 : i = 0 := by omega
      subst hi0
      exact ce5 (by omega)
    · skip
      have B5 := y_bs_us (y_sm_tr (y_sm_tr (y_sm_tr y_sm_rf (y_sm_e e1 (Or.inr ⟨rfl, by decide⟩))) (y_sm_e e2 (Or.inr ⟨rfl, by decide⟩))) (y_sm_w (by decide) (by decide) f3)) f5
      have F5 := y_bs_F B5
      refine x_if_ne (by omega) (by omega) (fun z7 => ?_) (fun z => absurd (by omega) z)
      refine x_fall ?_
      refine x_blk (b := 1) (a_116 E) rfl ?_
      unfold b_116_1
      refine x_push 1 rfl ?_
      refine x_iret ?_
      have r18 : S3 138 18 = 0 := (f3 138 18 (by decide) (by decide)).trans ((x_up_ne e2 (by decide)).trans (x_up_at e1))
      have q18 : S5 138 18 = S3 138 18 := f5 138 18 (by decide) (by decide)
      exact k _ _ F5 (by omega) (by omega) (by omega)
  · skip
    have B3 := y_bs_us (y_sm_tr (y_sm_tr y_sm_rf (y_sm_e e1 (Or.inr ⟨rfl, by decide⟩))) (y_sm_e e2 (Or.inr ⟨rfl, by decide⟩))) f3
    have F3 := y_bs_F B3
    refine x_if_eq (by omega) (by omega) (fun z8 => ?_) (fun z => absurd (by omega) z)
    refine x_blk (b := 1) (a_116 E) rfl ?_
    unfold b_116_1
    refine x_push 1 rfl ?_
    refine x_iret ?_
    have r18 : S3 138 18 = 0 := (f3 138 18 (by decide) (by decide)).trans ((x_up_ne e2 (by decide)).trans (x_up_at e1))
    exact k _ _ F3 (by omega) (by omega) (by omega)
