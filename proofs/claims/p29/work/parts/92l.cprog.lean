theorem ke_14_1_11 {E : q_E} {σ : x_S} {Q : Option q_V → x_S → Prop} (h4 : σ 1 4 = 0) (hs : σ 1 3 < σ 1 2) (C0 : y_CI σ) {A : Nat → Int} (hP : y_PI A) (hA : y_AG (y_cv σ 11) A) (kS : ∀ A' e, y_it (y_cx σ) A (σ 1 3) = some (A', e) → ∀ τ, y_CI τ → (∀ q m, (q = 0 ∨ q = 2 ∨ (q = 1 ∧ m ≠ 3 ∧ m ≠ 4) ∨ (4 ≤ q ∧ q < 11) ∨ 17 ≤ q) → τ q m = σ q m) → τ 1 3 = e → τ 1 4 = 0 → y_AG (y_cv τ 11) A' → Q none τ) (kF : y_it (y_cx σ) A (σ 1 3) = none → ∀ τ, y_CI τ → (∀ q m, (q = 0 ∨ q = 2 ∨ (q = 1 ∧ m ≠ 3 ∧ m ≠ 4) ∨ (4 ≤ q ∧ q < 11) ∨ 17 ≤ q) → τ q m = σ q m) → τ 1 4 = 1 → Q none τ) : x_P E 14 [x_R 1, x_R 11] σ Q := by
  have c2 : 0 ≤ σ 1 2 ∧ σ 1 2 ≤ 200 := C0 1 2 (by decide) (by decide) (by decide)
  have c3 : 0 ≤ σ 1 3 ∧ σ 1 3 ≤ 200 := C0 1 3 (by decide) (by decide) (by decide)
  have c6 : 0 ≤ σ 11 6 ∧ σ 11 6 ≤ 16 := C0 11 6 (by decide) (by decide) (by decide)
  refine x_Mt e_14 (h_14 E) (Nat.le_of_ble_eq_true rfl) t_14 rfl ?_
  refine x_blk (b := 0) (a_14 E) rfl ?_
  unfold b_14_0
  refine x_aload rfl ?_
  refine x_cV (fun _ => rfl) rfl (by decide) (Nat.le_of_ble_eq_true rfl) ?_
  refine ke_4_1 C0 (fun v1 v1a v1b v1c => ?_)
  have hv : v1 = y_cx σ (σ 1 3) := by omega
  refine x_tsw (109) rfl rfl (by omega) (by omega) (fun z2 => ?_) (fun i2 b2 hb2 z2 => ?_) (fun z2 => ?_)
  · skip
    refine x_blk (b := 2) (a_14 E) rfl ?_
    unfold b_14_2
    refine x_aload rfl ?_
    refine x_push 1 rfl ?_
    refine x_putZG y_f1_4 rfl (by decide) C0 (by decide) (y_fr_rf (lo := 0) (hi := 138)) (by omega) (fun S3 e3 C3 F3 => ?_)
    refine x_fall ?_
    refine x_blk (b := 6) (a_14 E) rfl ?_
    unfold b_14_6
    refine x_vret ?_
    exact kF (y_it_n ⟨by omega, by omega, by omega, by omega⟩) _ C3 (fun q m hq => x_up_ne e3 (by omega)) (x_up_at e3)
  · match i2, hb2 with
    | 0, hb2 =>
      cases hb2
      refine x_blk (b := 1) (a_14 E) rfl ?_
      unfold b_14_1
      refine x_aload rfl ?_
      refine x_dup rfl ?_
      refine x_getIG y_f1_3 C0 ?_
      intro g4a g4b
      refine x_push 1 rfl ?_
      refine x_iadd ?_
      refine x_putIG y_f1_3 ⟨by decide, rfl⟩ (by decide) C0 (by decide) (y_fr_rf (lo := 0) (hi := 138)) (by omega) (by omega) (fun S5 e5 C5 F5 => ?_)
      refine x_aload rfl ?_
      refine x_aload rfl ?_
      refine x_cV (fun _ => rfl) rfl (by decide) (Nat.le_of_ble_eq_true rfl) ?_
      have f6a : y_sc σ S5 := y_sc_up e5 (Or.inl rfl)
      have X6 : y_cx S5 = y_cx σ := funext (y_sc_x f6a)
      have P6 : S5 1 3 = σ 1 3 + 1 := x_up_at e5
      have Q6 : S5 1 4 = 0 := (x_up_ne e5 (by decide)).trans h4
      refine ke_28_1_11 Q6 C5 (fun h6 S6 C6 f6 p6 q6 w6 o6 => ?_) (fun h6 S6 C6 f6 q6 => ?_)
      · skip
        rw [X6, P6] at h6 w6 o6 p6
        refine x_goto ?_
        refine x_blk (b := 6) (a_14 E) rfl ?_
        unfold b_14_6
        refine x_vret ?_
        have hg : y_cx σ (σ 1 3) = 109 := by omega
        have hM := y_iM_i.mp h6
        rw [show σ 1 3 + 1 + 1 = σ 1 3 + 2 by omega] at hM w6 o6 p6
        rw [show σ 1 3 + 1 + 3 = σ 1 3 + 4 by omega] at w6 p6
        have hT := (y_it_m (g := y_cx σ) (A := A) hg).trans (if_pos h6)
        refine kS _ _ hT _ C6 (fun q m hq => ?_) p6 q6 (y_cM hP hA (by omega) (by omega) (by omega) (by omega) (fun q m a1 a2 a3 => ?_) w6 (fun x hx => ?_))
        · rw [f6 q m (by omega) (by omega), f6a q m (by omega)]
        · rw [f6 q m a3 (by omega), f6a q m (by omega)]
        · exact (o6 x hx).trans (f6a 15 x (fun z => absurd z (by decide)))
      · skip
        rw [X6, P6] at h6
        refine x_goto ?_
        refine x_blk (b := 6) (a_14 E) rfl ?_
        unfold b_14_6
        refine x_vret ?_
        have hg : y_cx σ (σ 1 3) = 109 := by omega
        refine kF ((y_it_m hg).trans (if_neg h6)) _ C6 (fun q m hq => ?_) q6
        rw [f6 q m (by omega) (by omega), f6a q m (by omega)]
    | 1, hb2 =>
      cases hb2
      refine x_blk (b := 2) (a_14 E) rfl ?_
      unfold b_14_2
      refine x_aload rfl ?_
      refine x_push 1 rfl ?_
      refine x_putZG y_f1_4 rfl (by decide) C0 (by decide) (y_fr_rf (lo := 0) (hi := 138)) (by omega) (fun S7 e7 C7 F7 => ?_)
      refine x_fall ?_
      refine x_blk (b := 6) (a_14 E) rfl ?_
      unfold b_14_6
      refine x_vret ?_
      exact kF (y_it_n ⟨by omega, by omega, by omega, by omega⟩) _ C7 (fun q m hq => x_up_ne e7 (by omega)) (x_up_at e7)
    | 2, hb2 =>
      cases hb2
      refine x_blk (b := 2) (a_14 E) rfl ?_
      unfold b_14_2
      refine x_aload rfl ?_
      refine x_push 1 rfl ?_
      refine x_putZG y_f1_4 rfl (by decide) C0 (by decide) (y_fr_rf (lo := 0) (hi := 138)) (by omega) (fun S8 e8 C8 F8 => ?_)
      refine x_fall ?_
      refine x_blk (b := 6) (a_14 E) rfl ?_
      unfold b_14_6
      refine x_vret ?_
      exact kF (y_it_n ⟨by omega, by omega, by omega, by omega⟩) _ C8 (fun q m hq => x_up_ne e8 (by omega)) (x_up_at e8)
    | 3, hb2 =>
      cases hb2
      refine x_blk (b := 3) (a_14 E) rfl ?_
      unfold b_14_3
      refine x_aload rfl ?_
      refine x_dup rfl ?_
      refine x_getIG y_f1_3 C0 ?_
      intro g9a g9b
      refine x_push 1 rfl ?_
      refine x_iadd ?_
      refine x_putIG y_f1_3 ⟨by decide, rfl⟩ (by decide) C0 (by decide) (y_fr_rf (lo := 0) (hi := 138)) (by omega) (by omega) (fun S10 e10 C10 F10 => ?_)
      refine x_aload rfl ?_
      refine x_aload rfl ?_
      refine x_cV (fun _ => rfl) rfl (by decide) (Nat.le_of_ble_eq_true rfl) ?_
      have f11a : y_sc σ S10 := y_sc_up e10 (Or.inl rfl)
      have X11 : y_cx S10 = y_cx σ := funext (y_sc_x f11a)
      have P11 : S10 1 3 = σ 1 3 + 1 := x_up_at e10
      have Q11 : S10 1 4 = 0 := (x_up_ne e10 (by decide)).trans h4
      refine ke_120_1_11 C10 (fun h11 S11 C11 f11 p11 q11 w11 => ?_) (fun h11 S11 C11 f11 q11 => ?_)
      · skip
        rw [X11, P11] at h11 f11 w11
        refine x_goto ?_
        refine x_blk (b := 6) (a_14 E) rfl ?_
        unfold b_14_6
        refine x_vret ?_
        have hg : y_cx σ (σ 1 3) = 112 := by omega
        rw [show σ 1 3 + 1 + 1 = σ 1 3 + 2 by omega] at h11 w11
        have hT : y_it (y_cx σ) A (σ 1 3) = some (y_wK A (y_cx σ (σ 1 3 + 1) - 48).toNat (y_cx σ (σ 1 3 + 2) - 48), σ 1 3 + 3) := by
          rw [y_it_p hg, if_pos (y_iK_i.mpr ?_)]
          rw [show σ 1 3 + 1 + 1 = σ 1 3 + 2 by omega]
          exact h11.2
        refine kS _ _ hT _ C11 (fun q m hq => ?_) (by omega) q11 (y_cK hP hA (by omega) (fun q m a1 a2 a3 => ?_) w11)
        · rw [f11 q m ⟨by omega, by omega⟩, f11a q m (by omega)]
        · rw [f11 q m ⟨a3, by omega⟩, f11a q m (by omega)]
      · skip
        rw [X11, P11] at h11
        refine x_goto ?_
        refine x_blk (b := 6) (a_14 E) rfl ?_
        unfold b_14_6
        refine x_vret ?_
        have hg : y_cx σ (σ 1 3) = 112 := by omega
        refine kF ?_ _ C11 (fun q m hq => ?_) q11
        · rw [y_it_p hg, if_neg (fun z => h11 ⟨Q11, y_iK_i.mp z⟩)]
        · rw [f11 q m (by omega), f11a q m (by omega)]
    | 4, hb2 =>
      cases hb2
      refine x_blk (b := 2) (a_14 E) rfl ?_
      unfold b_14_2
      refine x_aload rfl ?_
      refine x_push 1 rfl ?_
      refine x_putZG y_f1_4 rfl (by decide) C0 (by decide) (y_fr_rf (lo := 0) (hi := 138)) (by omega) (fun S12 e12 C12 F12 => ?_)
      refine x_fall ?_
      refine x_blk (b := 6) (a_14 E) rfl ?_
      unfold b_14_6
      refine x_vret ?_
      exact kF (y_it_n ⟨by omega, by omega, by omega, by omega⟩) _ C12 (fun q m hq => x_up_ne e12 (by omega)) (x_up_at e12)
    | 5, hb2 =>
      cases hb2
      refine x_blk (b := 4) (a_14 E) rfl ?_
      unfold b_14_4
      refine x_aload rfl ?_
      refine x_dup rfl ?_
      refine x_getIG y_f1_3 C0 ?_
      intro g13a g13b
      refine x_push 1 rfl ?_
      refine x_iadd ?_
      refine x_putIG y_f1_3 ⟨by decide, rfl⟩ (by decide) C0 (by decide) (y_fr_rf (lo := 0) (hi := 138)) (by omega) (by omega) (fun S14 e14 C14 F14 => ?_)
      refine x_aload rfl ?_
      refine x_aload rfl ?_
      refine x_getR (r := 1) rfl (by decide) (by decide) rfl ?_
      refine x_cV (fun _ => rfl) rfl (by decide) (Nat.le_of_ble_eq_true rfl) ?_
      have f15a : y_sc σ S14 := y_sc_up e14 (Or.inl rfl)
      have X15 : y_cx S14 = y_cx σ := funext (y_sc_x f15a)
      have P15 : S14 1 3 = σ 1 3 + 1 := x_up_at e14
      have Q15 : S14 1 4 = 0 := (x_up_ne e14 (by decide)).trans h4
      refine ke_19_1_3 Q15 C14 (fun l15 e15 h15 S15 C15 f15 p15 q15 w15 => ?_) (fun h15 S15 C15 f15 q15 => ?_)
      · skip
        rw [X15, P15] at h15 w15
        refine x_aload rfl ?_
        refine x_aload rfl ?_
        refine x_getIG y_f1_4 C15 ?_
        intro g16a g16b
        refine x_if_ne (by omega) (by omega) (fun z17 => ?_) (fun z => absurd (by omega) z)
        refine x_aload rfl ?_
        refine x_getIG y_f11_6 C15 ?_
        intro g18a g18b
        refine x_push 16 rfl ?_
        refine x_icmp_lt (by omega) (by omega) (by omega) (by omega) (fun z19 => ?_) (fun z19 => ?_)
        · skip
          refine x_blk (b := 8) (a_14 E) rfl ?_
          unfold b_14_8
          refine x_push 0 rfl ?_
          refine x_fall ?_
          refine x_blk (b := 9) (a_14 E) rfl ?_
          unfold b_14_9
          refine x_putZG y_f1_4 rfl (by decide) C15 (by decide) (y_fr_rf (lo := 0) (hi := 138)) (by omega) (fun S20 e20 C20 F20 => ?_)
          refine x_aload rfl ?_
          refine x_getIG y_f1_4 C20 ?_
          intro g21a g21b
          have w21 := x_up_at e20
          refine x_if_ne (by omega) (by omega) (fun z22 => ?_) (fun z => absurd (by omega) z)
          refine x_aload rfl ?_
          refine x_aload rfl ?_
          refine x_getIG y_f11_6 C20 ?_
          have q23_0 : S20 11 6 = S15 11 6 := x_up_nr e20 (by decide)
          simp only [q23_0]
          intro g23a g23b
          refine x_aload rfl ?_
          refine x_getR (r := 1) rfl (by decide) (by decide) rfl ?_
          refine x_cV (fun _ => rfl) rfl (by decide) (Nat.le_of_ble_eq_true rfl) ?_
          have r24 : S20 11 6 = σ 11 6 := (x_up_nr e20 (by decide)).trans ((f15 11 6 (by decide) (by decide)).trans (f15a 11 6 (by decide)))
          refine ke_21_11_3 (by omega) (by omega) (by omega) C20 (fun S24 C24 fs24 ws24 wn24 => ?_)
          refine x_goto ?_
          refine x_blk (b := 6) (a_14 E) rfl ?_
          unfold b_14_6
          refine x_vret ?_
          have hg : y_cx σ (σ 1 3) = 114 := by omega
          have a62 := hA.2.2.1 62 (by decide) (by decide)
          rw [y_cvn] at a62
          have c62 := hP.2.2.2.1
          have hb := y_rl_rr h15
          have e4 : y_rr (y_cx σ) (σ 1 3 + 1) l15 4 = l15.length := rfl
          have r6 : S15 11 6 = σ 11 6 := (f15 11 6 (by decide) (by decide)).trans (f15a 11 6 (by decide))
          have tn : (S15 11 6).toNat = (A 62).toNat := by rw [r6, a62]
          rw [tn] at fs24 ws24
          have gf : ∀ q m, q ≠ 3 → (q = 1 → m ≠ 3 ∧ m ≠ 4) → S20 q m = σ q m := fun q m z1 z2 => by
            rw [x_up_ne e20 (by omega), f15 q m z1 z2, f15a q m z2]
          have hT : y_it (y_cx σ) A (σ 1 3) = some (y_wR A (y_rr (y_cx σ) (σ 1 3 + 1) l15), e15) := by
            rw [y_it_r hg, if_neg (by omega), h15]
          refine kS _ _ hT _ C24 (fun q m hq => ?_) ?_ ?_ (y_cR hP hA (by omega) (by omega) (fun q m a1 a2 a3 a4 => ?_) (fun c hc => ?_) ?_)
          · rw [fs24 q m (by omega) (by omega), gf q m (by omega) (by omega)]
          · rw [fs24 1 3 (by omega) (by omega), x_up_ne e20 (by decide)]; exact p15
          · rw [fs24 1 4 (by omega) (by omega)]; exact x_up_at e20
          · rw [fs24 q m a3 a4, gf q m (by omega) (by omega)]
          · rw [show S24 (11 + 5) (12 * (A 62).toNat + c) = S24 16 (12 * (A 62).toNat + c) from rfl, ws24 c (by omega), x_up_nr e20 (by decide)]
            exact w15 c (by omega)
          · rw [show S24 11 6 = _ from wn24, if_pos (by omega), r24]
        · skip
          refine x_fall ?_
          refine x_blk (b := 7) (a_14 E) rfl ?_
          unfold b_14_7
          refine x_push 1 rfl ?_
          refine x_goto ?_
          refine x_blk (b := 9) (a_14 E) rfl ?_
          unfold b_14_9
          refine x_putZG y_f1_4 rfl (by decide) C15 (by decide) (y_fr_rf (lo := 0) (hi := 138)) (by omega) (fun S25 e25 C25 F25 => ?_)
          refine x_aload rfl ?_
          refine x_getIG y_f1_4 C25 ?_
          intro g26a g26b
          have w26 := x_up_at e25
          refine x_if_ne (by omega) (by omega) (fun z => absurd z (by omega)) (fun z27 => ?_)
          refine x_blk (b := 6) (a_14 E) rfl ?_
          unfold b_14_6
          refine x_vret ?_
          have hg : y_cx σ (σ 1 3) = 114 := by omega
          have a62 := hA.2.2.1 62 (by decide) (by decide)
          rw [y_cvn] at a62
          have c62 := hP.2.2.2.1
          have r6 : S15 11 6 = σ 11 6 := (f15 11 6 (by decide) (by decide)).trans (f15a 11 6 (by decide))
          refine kF ?_ _ C25 (fun q m hq => ?_) (x_up_at e25)
          · rw [y_it_r hg, if_pos (by omega)]
          · rw [x_up_ne e25 (by omega), f15 q m (by omega) (by omega), f15a q m (by omega)]
      · skip
        rw [X15, P15] at h15
        refine x_aload rfl ?_
        refine x_aload rfl ?_
        refine x_getIG y_f1_4 C15 ?_
        intro g28a g28b
        refine x_if_ne (by omega) (by omega) (fun z => absurd z (by omega)) (fun z29 => ?_)
        refine x_blk (b := 7) (a_14 E) rfl ?_
        unfold b_14_7
        refine x_push 1 rfl ?_
        refine x_goto ?_
        refine x_blk (b := 9) (a_14 E) rfl ?_
        unfold b_14_9
        refine x_putZG y_f1_4 rfl (by decide) C15 (by decide) (y_fr_rf (lo := 0) (hi := 138)) (by omega) (fun S30 e30 C30 F30 => ?_)
        refine x_aload rfl ?_
        refine x_getIG y_f1_4 C30 ?_
        intro g31a g31b
        have w31 := x_up_at e30
        refine x_if_ne (by omega) (by omega) (fun z => absurd z (by omega)) (fun z32 => ?_)
        refine x_blk (b := 6) (a_14 E) rfl ?_
        unfold b_14_6
        refine x_vret ?_
        have hg : y_cx σ (σ 1 3) = 114 := by omega
        refine kF ?_ _ C30 (fun q m hq => ?_) (x_up_at e30)
        · rw [y_it_r hg, h15]
          split <;> rfl
        · rw [x_up_ne e30 (by omega), f15 q m (by omega) (by omega), f15a q m (by omega)]
    | 6, hb2 =>
      cases hb2
      refine x_blk (b := 2) (a_14 E) rfl ?_
      unfold b_14_2
      refine x_aload rfl ?_
      refine x_push 1 rfl ?_
      refine x_putZG y_f1_4 rfl (by decide) C0 (by decide) (y_fr_rf (lo := 0) (hi := 138)) (by omega) (fun S33 e33 C33 F33 => ?_)
      refine x_fall ?_
      refine x_blk (b := 6) (a_14 E) rfl ?_
      unfold b_14_6
      refine x_vret ?_
      exact kF (y_it_n ⟨by omega, by omega, by omega, by omega⟩) _ C33 (fun q m hq => x_up_ne e33 (by omega)) (x_up_at e33)
    | 7, hb2 =>
      cases hb2
      refine x_blk (b := 5) (a_14 E) rfl ?_
      unfold b_14_5
      refine x_aload rfl ?_
      refine x_dup rfl ?_
      refine x_getIG y_f1_3 C0 ?_
      intro g34a g34b
      refine x_push 1 rfl ?_
      refine x_iadd ?_
      refine x_putIG y_f1_3 ⟨by decide, rfl⟩ (by decide) C0 (by decide) (y_fr_rf (lo := 0) (hi := 138)) (by omega) (by omega) (fun S35 e35 C35 F35 => ?_)
      refine x_aload rfl ?_
      refine x_aload rfl ?_
      refine x_cV (fun _ => rfl) rfl (by decide) (Nat.le_of_ble_eq_true rfl) ?_
      have f36a : y_sc σ S35 := y_sc_up e35 (Or.inl rfl)
      have X36 : y_cx S35 = y_cx σ := funext (y_sc_x f36a)
      have P36 : S35 1 3 = σ 1 3 + 1 := x_up_at e35
      have Q36 : S35 1 4 = 0 := (x_up_ne e35 (by decide)).trans h4
      refine ke_35_1_11 Q36 C35 (fun l36 e36 h36 S36 C36 f36 p36 q36 w36 o36 v36 => ?_) (fun h36 S36 C36 f36 q36 => ?_)
      · skip
        rw [X36, P36] at h36 w36 o36 v36
        refine x_goto ?_
        refine x_blk (b := 6) (a_14 E) rfl ?_
        unfold b_14_6
        refine x_vret ?_
        have hg : y_cx σ (σ 1 3) = 116 := by omega
        have hT : y_it (y_cx σ) A (σ 1 3) = some (y_wT A (y_cx σ (σ 1 3 + 1) - 48).toNat l36, e36) := by rw [y_it_t hg, h36]
        have hb := y_iT_i h36
        have hl := y_rw_len hb.2
        refine kS _ _ hT _ C36 (fun q m hq => ?_) p36 q36 (y_cT hP hA (by omega) (by omega) (fun q m a1 a2 a3 a4 => ?_) w36 (fun m hm => ?_) (fun m => ?_))
        · rw [f36 q m (by omega) (by omega) (by omega) (by omega), f36a q m (by omega)]
        · rw [f36 q m (by omega) a3 a4 (by omega), f36a q m (by omega)]
        · exact (o36 m hm).trans (f36a 12 m (fun z => absurd z (by decide)))
        · rw [show S36 (11 + 2) m = S36 13 m from rfl, v36 m, f36a 13 m (fun z => absurd z (by decide))]
      · skip
        rw [X36, P36] at h36
        refine x_goto ?_
        refine x_blk (b := 6) (a_14 E) rfl ?_
        unfold b_14_6
        refine x_vret ?_
        have hg : y_cx σ (σ 1 3) = 116 := by omega
        refine kF (by rw [y_it_t hg, h36]) _ C36 (fun q m hq => ?_) q36
        rw [f36 q m (by omega) (by omega), f36a q m (by omega)]
    | (n + 8), hb2 => simp at hb2
  · skip
    refine x_blk (b := 2) (a_14 E) rfl ?_
    unfold b_14_2
    refine x_aload rfl ?_
    refine x_push 1 rfl ?_
    refine x_putZG y_f1_4 rfl (by decide) C0 (by decide) (y_fr_rf (lo := 0) (hi := 138)) (by omega) (fun S37 e37 C37 F37 => ?_)
    refine x_fall ?_
    refine x_blk (b := 6) (a_14 E) rfl ?_
    unfold b_14_6
    refine x_vret ?_
    exact kF (y_it_n ⟨by omega, by omega, by omega, by omega⟩) _ C37 (fun q m hq => x_up_ne e37 (by omega)) (x_up_at e37)
theorem ke_49_1 {E : q_E} {σ : x_S} {Q : Option q_V → x_S → Prop} (C0 : y_CI σ) (k : ∀ τ, y_CI τ → y_sc σ τ → τ 1 3 = 0 → τ 1 4 = 0 → Q none τ) : x_P E 49 [x_R 1] σ Q := by
  refine x_Mt e_49 (h_49 E) (Nat.le_of_ble_eq_true rfl) t_49 rfl ?_
  refine x_blk (b := 0) (a_49 E) rfl ?_
  unfold b_49_0
  refine x_aload rfl ?_
  refine x_push 0 rfl ?_
  refine x_putIG y_f1_3 ⟨by decide, rfl⟩ (by decide) C0 (by decide) (y_fr_rf (lo := 0) (hi := 138)) (by omega) (by omega) (fun S1 e1 C1 F1 => ?_)
  refine x_aload rfl ?_
  refine x_push 0 rfl ?_
  refine x_putZG y_f1_4 rfl (by decide) C1 (by decide) F1 (by omega) (fun S2 e2 C2 F2 => ?_)
  refine x_vret ?_
  exact k _ C2 (fun q m hq => (x_up_ne e2 (by omega)).trans (x_up_ne e1 (by omega))) ((x_up_ne e2 (by decide)).trans (x_up_at e1)) (x_up_at e2)
/-- the class reads a program into its draft: exact -/
theorem y_cx_p {σ : x_S} {k : Int} (h : 1 ≤ y_cx σ k) : k < σ 1 2 := by
  unfold y_cx at h
  split at h
  · assumption
  · omega
def y_fi (σ τ : x_S) : Prop := ∀ q m, (q = 0 ∨ q = 2 ∨ (q = 1 ∧ m ≠ 3 ∧ m ≠ 4) ∨ (4 ≤ q ∧ q < 11) ∨ 18 ≤ q) → τ q m = σ q m
theorem y_fi_x {σ τ : x_S} (h : y_fi σ τ) : y_cx τ = y_cx σ := by
  funext k
  unfold y_cx
  rw [h 1 2 (by decide), h 2 _ (by omega)]
theorem ke_51_b {E : q_E} {σ : x_S} {Q : Option q_V → x_S → Prop} (kN : (y_rs (y_cx σ) (σ 1 2)).1 = -4 → ∀ τ, y_CI τ → y_fi σ τ → y_AG (y_cv τ 11) (y_rs (y_cx σ) (σ 1 2)).2 → y_PI (y_rs (y_cx σ) (σ 1 2)).2 → Q (some (x_I (-4))) τ) (kF : 0 ≤ (y_rs (y_cx σ) (σ 1 2)).1 → (y_rs (y_cx σ) (σ 1 2)).1 ≤ 200 → ∀ τ, y_CI τ → y_fi σ τ → Q (some (x_I (y_rs (y_cx σ) (σ 1 2)).1)) τ) : ∀ (N : Nat) (i : Int) (A : Nat → Int) (τ : x_S), (200 - i).toNat = N → 0 ≤ i → i ≤ τ 1 3 → y_CI τ → y_fi σ τ → τ 1 4 = 0 → y_PI A → y_AG (y_cv τ 11) A → y_run (y_cx σ) (σ 1 2) N A (τ 1 3) = y_rs (y_cx σ) (σ 1 2) → x_G E m_51 Q (t_51 3) [(0, x_R 1), (1, x_R 11), (2, x_I i)] [] τ := by
  intro N
  induction N using Nat.strongRecOn with
  | ind N ih =>
    intro i A τ hN i1 i2 C fi t4 hP hA hr
    have t3 : 0 ≤ τ 1 3 ∧ τ 1 3 ≤ 200 := C 1 3 (by decide) (by decide) (by decide)
    have t2 : 0 ≤ τ 1 2 ∧ τ 1 2 ≤ 200 := C 1 2 (by decide) (by decide) (by decide)
    have e2 : τ 1 2 = σ 1 2 := fi 1 2 (by decide)
    have ex : y_cx τ = y_cx σ := y_fi_x fi
    have done : ¬ τ 1 3 < τ 1 2 → x_G E m_51 Q (t_51 1) [(0, x_R 1), (1, x_R 11), (2, x_I i)] [] τ := fun hd => by
      rw [y_run_e (by omega)] at hr
      refine x_blk (b := 1) (a_51 E) rfl ?_
      unfold b_51_1
      refine x_aload rfl ?_
      refine x_cV (fun _ => rfl) rfl (by decide) (Nat.le_of_ble_eq_true rfl) ?_
      refine sf_48_11 C (fun S C1 f1 => ?_)
      refine x_push (-4) rfl ?_
      refine x_iret ?_
      have r1 : (y_rs (y_cx σ) (σ 1 2)).1 = -4 := by rw [← hr]
      have r2 : (y_rs (y_cx σ) (σ 1 2)).2 = A := by rw [← hr]
      refine kN r1 S C1 (fun q m hq => ?_) ?_ (by rw [r2]; exact hP)
      · rw [f1 q m (by omega)]; exact fi q m hq
      · rw [r2]
        exact y_AG_ex hA (fun m => y_cv_x (fun _ => f1 _ _ (by omega)) (fun _ _ => f1 _ _ (by omega)) (fun _ _ => f1 _ _ (by omega)) (fun _ _ => f1 _ _ (by omega)) (fun _ => f1 _ _ (by omega)) (fun _ => f1 _ _ (by omega)))
    refine x_blk (b := 3) (a_51 E) rfl ?_
    unfold b_51_3
    refine x_iload rfl ?_
    refine x_push 200 rfl ?_
    refine x_icmp_ge (by omega) (by omega) (by omega) (by omega) (fun z1 => ?_) (fun z1 => done (by omega))
    refine x_aload rfl ?_
    refine x_getIG y_f1_3 C ?_
    intro g1 g2
    refine x_aload rfl ?_
    refine x_getIG y_f1_2 C ?_
    intro g3 g4
    refine x_icmp_ge (by omega) (by omega) (by omega) (by omega) (fun z2 => ?_) (fun z2 => done z2)
    refine x_aload rfl ?_
    refine x_getIG y_f1_3 C ?_
    intro g5 g6
    refine x_istore ?_
    refine x_X_lo (lo' := [(0, x_R 1), (1, x_R 11), (2, x_I i), (3, x_I (τ 1 3))]) ⟨rfl, rfl, rfl, rfl, trivial⟩ ?_
    refine x_aload rfl ?_
    refine x_aload rfl ?_
    refine x_cV (fun _ => rfl) rfl (by decide) (Nat.le_of_ble_eq_true rfl) ?_
    obtain ⟨w, hw⟩ : ∃ w, N = w + 1 := ⟨N - 1, by omega⟩
    subst hw
    refine ke_14_1_11 t4 z2 C hP hA (fun A' e h S C1 f1 p1 q1 a1 => ?_) (fun h S C1 f1 q1 => ?_)
    · rw [ex] at h
      have gt := y_it_gt (n' := σ 1 2) (fun k hk => y_cx_p hk) h
      have fj : y_fi σ S := fun q m hq => (f1 q m (by omega)).trans (fi q m hq)
      have ex1 : y_cx S = y_cx σ := y_fi_x fj
      refine x_aload rfl ?_
      refine x_push 59 rfl ?_
      refine x_cV (fun _ => rfl) rfl (by decide) (Nat.le_of_ble_eq_true rfl) ?_
      refine ke_9_1 (by omega) (by omega) C1 (fun s2 c2 S2 C2 f2 p2 q2 => ?_) (fun n2 S2 C2 f2 p2 q2 => ?_)
      · rw [ex1, p1] at c2
        refine x_aload rfl ?_
        refine x_getIG y_f1_4 C2 ?_
        intro g7 g8
        refine x_if_eq (by omega) (by omega) (fun z3 => ?_) (fun z3 => absurd q2 z3)
        refine x_blk (b := 2) (a_51 E) rfl ?_
        unfold b_51_2
        refine x_iinc 1 rfl rfl ?_
        refine x_goto ?_
        refine x_G_lo (lo' := [(0, x_R 1), (1, x_R 11), (2, x_I (i + 1))]) ⟨rfl, rfl, rfl, trivial⟩ ?_
        rw [y_run_s (by omega) h c2, ← p1, ← p2] at hr
        exact ih w (by omega) (i + 1) A' S2 (by omega) (by omega) (by omega) C2 (fun q m hq => (f2 q m (by omega)).trans (fj q m hq)) q2 (y_it_P hP h) (y_AG_ex a1 (fun m => y_cv_x (fun _ => f2 _ _ (by omega)) (fun _ _ => f2 _ _ (by omega)) (fun _ _ => f2 _ _ (by omega)) (fun _ _ => f2 _ _ (by omega)) (fun _ => f2 _ _ (by omega)) (fun _ => f2 _ _ (by omega)))) hr
      · have nn : ¬ y_cx σ e = 59 := fun z => n2 ⟨q1, by rw [ex1, p1]; exact z⟩
        refine x_aload rfl ?_
        refine x_getIG y_f1_4 C2 ?_
        intro g7 g8
        refine x_if_eq (by omega) (by omega) (fun z3 => absurd z3 (by omega)) (fun z3 => ?_)
        refine x_iload rfl ?_
        refine x_iret ?_
        rw [y_run_g (by omega) h nn] at hr
        have r1 : (y_rs (y_cx σ) (σ 1 2)).1 = τ 1 3 := by rw [← hr]
        refine x_fin (b := (y_rs (y_cx σ) (σ 1 2)).1) r1.symm ?_
        exact kF (by omega) (by omega) S2 C2 (fun q m hq => (f2 q m (by omega)).trans (fj q m hq))
    · rw [ex] at h
      have fj : y_fi σ S := fun q m hq => (f1 q m (by omega)).trans (fi q m hq)
      refine x_aload rfl ?_
      refine x_push 59 rfl ?_
      refine x_cV (fun _ => rfl) rfl (by decide) (Nat.le_of_ble_eq_true rfl) ?_
      refine ke_9_1 (by omega) (by omega) C1 (fun s2 => absurd s2 (by omega)) (fun n2 S2 C2 f2 p2 q2 => ?_)
      refine x_aload rfl ?_
      refine x_getIG y_f1_4 C2 ?_
      intro g7 g8
      refine x_if_eq (by omega) (by omega) (fun z3 => absurd z3 (by omega)) (fun z3 => ?_)
      refine x_iload rfl ?_
      refine x_iret ?_
      rw [y_run_f (by omega) h] at hr
      have r1 : (y_rs (y_cx σ) (σ 1 2)).1 = τ 1 3 := by rw [← hr]
      refine x_fin (b := (y_rs (y_cx σ) (σ 1 2)).1) r1.symm ?_
      exact kF (by omega) (by omega) S2 C2 (fun q m hq => (f2 q m (by omega)).trans (fj q m hq))
theorem ke_51 {E : q_E} {σ : x_S} {Q : Option q_V → x_S → Prop} (C0 : y_CI σ) (kN : (y_rs (y_cx σ) (σ 1 2)).1 = -4 → ∀ τ, y_CI τ → y_fi σ τ → y_AG (y_cv τ 11) (y_rs (y_cx σ) (σ 1 2)).2 → y_PI (y_rs (y_cx σ) (σ 1 2)).2 → Q (some (x_I (-4))) τ) (kF : 0 ≤ (y_rs (y_cx σ) (σ 1 2)).1 → (y_rs (y_cx σ) (σ 1 2)).1 ≤ 200 → ∀ τ, y_CI τ → y_fi σ τ → Q (some (x_I (y_rs (y_cx σ) (σ 1 2)).1)) τ) : x_P E 51 [x_R 1, x_R 11] σ Q := by
  refine x_Mt e_51 (h_51 E) (Nat.le_of_ble_eq_true rfl) t_51 rfl ?_
  refine x_blk (b := 0) (a_51 E) rfl ?_
  unfold b_51_0
  refine x_aload rfl ?_
  refine x_cV (fun _ => rfl) rfl (by decide) (Nat.le_of_ble_eq_true rfl) ?_
  refine ke_52_11 C0 (fun S1 C1 f1 w1 w2 w3 w4 w5 => ?_)
  refine x_aload rfl ?_
  refine x_cV (fun _ => rfl) rfl (by decide) (Nat.le_of_ble_eq_true rfl) ?_
  refine ke_49_1 C1 (fun S2 C2 f2 p2 q2 => ?_)
  refine x_push 0 rfl ?_
  refine x_istore ?_
  refine x_fall ?_
  refine x_G_lo (lo' := [(0, x_R 1), (1, x_R 11), (2, x_I 0)]) ⟨rfl, rfl, rfl, trivial⟩ ?_
  refine ke_51_b kN kF 200 0 y_A0 S2 rfl (by omega) (by omega) C2 (fun q m hq => ?_) q2 y_A0_P (y_AG_ex (y_c0 w1 w2 w3 w4 w5) (fun m => y_cv_x (fun _ => f2 _ _ (by omega)) (fun _ _ => f2 _ _ (by omega)) (fun _ _ => f2 _ _ (by omega)) (fun _ _ => f2 _ _ (by omega)) (fun _ => f2 _ _ (by omega)) (fun _ => f2 _ _ (by omega)))) (by rw [p2]; rfl)
  rw [f2 q m (by omega), f1 q m (by omega)]
theorem ke_123 {E : q_E} {σ : x_S} {Q : Option q_V → x_S → Prop} (C0 : y_CI σ) (k : ∀ τ, y_CI τ → y_fi σ τ → Q (some (x_I (y_rs (y_cx σ) (σ 1 2)).1)) τ) : x_P E 123 [x_R 0] σ Q := by
  refine x_Mt e_123 (h_123 E) (Nat.le_of_ble_eq_true rfl) t_123 rfl ?_
  refine x_blk (b := 0) (a_123 E) rfl ?_
  unfold b_123_0
  refine x_aload rfl ?_
  refine x_getR (r := 0) rfl (by decide) (by decide) rfl ?_
  refine x_aload rfl ?_
  refine x_getR (r := 0) rfl (by decide) (by decide) rfl ?_
  refine x_cV (fun _ => rfl) rfl (by decide) (Nat.le_of_ble_eq_true rfl) ?_
  refine ke_51 C0 (fun r1 τ C f _ _ => ?_) (fun _ _ τ C f => ?_)
  · refine x_iret ?_
    refine x_fin (b := (y_rs (y_cx σ) (σ 1 2)).1) r1.symm ?_
    exact k τ C f
  · refine x_iret ?_
    exact k τ C f
