/-- the reference weighs a tree: exact -/
def y_lt (A : Nat → Int) (t : Nat) : Nat → Int := fun v => A (5 + 11 * t + v)
theorem y_ms_ext {A : Nat → Int} {m : Int} {l l' : Nat → Int} {n : Nat} {P V : Nat → Int} (h : ∀ i, i < n → l i = l' i) (ms : y_ms A m l n P V) : y_ms A m l' n P V := by
  intro v h1 h2
  have e := ms v h1 h2
  unfold y_pq y_kk at e ⊢
  rw [← h v h2]
  exact e
theorem cx_81_a {E : q_E} {σ : x_S} {Q : Option q_V → x_S → Prop} {m : Int} (m1 : 0 ≤ m) (m2 : m ≤ 1) (hP : y_PI (σ 140)) {n : Nat} (hn : σ 138 10 = n) (n40 : n ≤ 40) {P V : Nat → Int} (tr : y_tr (σ 145) n) (ms : y_ms (σ 140) m (σ 145) n P V) (k : ∀ τ, y_sm [146, 147] [] σ τ → (∀ v : Nat, v < n → τ 146 v = P v ∧ τ 147 v = V v) → Q none τ) : ∀ (N : Nat) (v : Int) (τ : x_S), -1 ≤ v → v < n → (v + 1).toNat = N → y_sm [146, 147] [] σ τ → (∀ x : Nat, v < x → x < n → τ 146 x = P x ∧ τ 147 x = V x) → x_G E m_81 Q (t_81 10) [(0, x_R 138), (1, x_I m), (2, x_I v)] [] τ := by
  intro N
  induction N using Nat.strongRecOn with
  | ind N ih =>
    intro v τ i1 i2 hN hsm hv
    refine x_blk (b := 10) (a_81 E) rfl ?_
    unfold b_81_10
    refine x_iload rfl ?_
    refine x_if_lt (by omega) (by omega) (fun z1 => ?_) (fun z1 => ?_)
    · skip
      refine x_blk (b := 1) (a_81 E) rfl ?_
      unfold b_81_1
      refine x_vret ?_
      exact k τ hsm (fun v h => hv v (by omega) h)
    · skip
      obtain ⟨w, hw⟩ : ∃ w : Nat, v = w := ⟨v.toNat, by omega⟩
      subst hw
      have t := tr.1 w (by omega)
      have ex := y_chx (σ 145 w)
      have cb := y_ch_b (σ 145 w)
      have l145 : τ 145 w = σ 145 w := y_sm_a hsm 145 (by decide) (by decide) w
      have q140 : ∀ z, τ 140 z = σ 140 z := fun z => y_sm_a hsm 140 (by decide) (by decide) z
      have vb := y_ms_V hP m1 m2 tr ms _ w rfl (by omega)
      refine x_aload rfl ?_
      refine x_getR (r := 138) rfl (by decide) (by decide) rfl ?_
      refine x_iload rfl ?_
      refine x_iald (r := 145) (n := 40) (m := w) rfl rfl (by decide) (fun _ => rfl) (by omega) (by omega) (by omega) ?_
      intro g2a g2b
      rw [l145]
      refine x_cS (fun _ => rfl) (Nat.le_of_ble_eq_true rfl) ?_
      refine c_0 (by omega) (by omega) ?_
      refine x_istore ?_
      refine x_iload rfl ?_
      refine x_push 1 rfl ?_
      refine x_icmp_le (by omega) (by omega) (by omega) (by omega) (fun z4 => ?_) (fun z4 => ?_)
      · skip
        refine x_blk (b := 2) (a_81 E) rfl ?_
        unfold b_81_2
        skip
        refine x_push 0 rfl ?_
        refine x_fall ?_
        refine x_blk (b := 3) (a_81 E) rfl ?_
        unfold b_81_3
        refine x_istore ?_
        refine x_aload rfl ?_
        refine x_getR (r := 138) rfl (by decide) (by decide) rfl ?_
        refine x_iload rfl ?_
        refine x_iload rfl ?_
        refine x_if_ne (by omega) (by omega) (fun z5 => ?_) (fun z5 => ?_)
        · skip
          skip
          refine x_iload rfl ?_
          refine x_push 1 rfl ?_
          refine x_iadd ?_
          refine x_goto ?_
          refine x_blk (b := 5) (a_81 E) rfl ?_
          unfold b_81_5
          refine x_ast (r := 146) (n := 40) (m := w) rfl rfl (by decide) (fun _ => rfl) (by omega) (by omega) (by omega) (by omega) (by omega) (fun S6 e6 => ?_)
          have w6 := x_up_at e6
          refine x_iload rfl ?_
          refine x_if_ne (by omega) (by omega) (fun z7 => ?_) (fun z => absurd (by omega) z)
          skip
          refine x_push 0 rfl ?_
          refine x_goto ?_
          refine x_blk (b := 8) (a_81 E) rfl ?_
          unfold b_81_8
          refine x_istore ?_
          refine x_aload rfl ?_
          refine x_getR (r := 138) rfl (by decide) (by decide) rfl ?_
          refine x_iload rfl ?_
          refine x_aload rfl ?_
          refine x_getR (r := 138) rfl (by decide) (by decide) rfl ?_
          refine x_iload rfl ?_
          refine x_aload rfl ?_
          refine x_getR (r := 138) rfl (by decide) (by decide) rfl ?_
          refine x_iload rfl ?_
          refine x_iald (r := 145) (n := 40) (m := w) rfl rfl (by decide) (fun _ => rfl) (by omega) (by omega) (by omega) ?_
          have q8_1 : ∀ m, S6 145 m = τ 145 m := fun m => x_up_nr e6 (by decide)
          simp only [q8_1]
          intro g8a g8b
          rw [l145]
          refine x_iload rfl ?_
          have kz : y_kk (σ 145) P V w = 0 := by unfold y_kk; rw [if_pos (by omega)]
          rw [kz] at vb
          have tb := y_tab_b m1 m2 t.1 t.2.1 vb.2.1 vb.2.2
          have tv := hP.2.2.1 (y_tab m (σ 145 w) (0)).toNat (by omega) (by omega)
          refine x_cS (fun _ => rfl) (Nat.le_of_ble_eq_true rfl) ?_
          refine c_17 (by omega) (by omega) ?_
          refine x_iald (r := 140) (n := 256)  rfl rfl (by decide) (fun _ => rfl) rfl (by omega) (by omega) ?_
          have q10_1 : ∀ m, S6 140 m = τ 140 m := fun m => x_up_nr e6 (by decide)
          simp only [q10_1]
          intro g10a g10b
          rw [q140]
          refine x_ast (r := 147) (n := 40) (m := w) rfl rfl (by decide) (fun _ => rfl) (by omega) (by omega) (by omega) (by omega) (by omega) (fun S11 e11 => ?_)
          have w11 := x_up_at e11
          refine x_iinc (-1) rfl rfl ?_
          refine x_goto ?_
          have pe := ms w (by omega) (by omega)
          have pq := pe.1
          unfold y_pq at pq
          rw [if_pos (by omega)] at pq
          have vq := pe.2
          rw [kz] at vq
          refine x_G_lo (lo' := [(0, x_R 138), (1, x_I m), (2, x_I ((w : Int) + -1))]) ⟨rfl, rfl, rfl, trivial⟩ ?_
          refine ih _ (by omega) ((w : Int) + -1) S11 (by omega) (by omega) rfl (y_sm_tr (y_sm_tr hsm (y_sm_e e6 (Or.inl (by decide)))) (y_sm_e e11 (Or.inl (by decide)))) (fun x h1 h2 => ?_)
          by_cases cx : x = w
          · subst cx
            have q1 : S11 146 x = _ := (x_up_nr e11 (by decide)).trans w6
            rw [q1, w11, vq]
            exact ⟨pq.symm, rfl⟩
          · rw [x_up_nr e11 (by decide), x_up_ne e6 (fun z => cx z.2), x_up_ne e11 (fun z => cx z.2), x_up_nr e6 (by decide)]
            exact hv x (by omega) h2
        · skip
          refine x_blk (b := 4) (a_81 E) rfl ?_
          unfold b_81_4
          skip
          refine x_iload rfl ?_
          refine x_push 1 rfl ?_
          refine x_icmp_ne (by omega) (by omega) (by omega) (by omega) (fun z12 => ?_) (fun z => absurd (by omega) z)
          have c7 : w + 1 < n ∧ (w : Int) + 1 < P (w + 1) ∧ P (w + 1) ≤ n := ⟨(y_mp_c tr ms (v := w) (by omega) (by omega) (by omega)).1, (y_mp_c tr ms (v := w) (by omega) (by omega) (by omega)).2.1, (y_mp_c tr ms (v := w) (by omega) (by omega) (by omega)).2.2.1⟩
          refine x_aload rfl ?_
          refine x_getR (r := 138) rfl (by decide) (by decide) rfl ?_
          refine x_iload rfl ?_
          refine x_push 1 rfl ?_
          refine x_iadd ?_
          refine x_iald (r := 146) (n := 40) (m := w + 1) rfl rfl (by decide) (fun _ => rfl) (by omega) (by omega) (by omega) ?_
          intro g13a g13b
          rw [(hv (w + 1) (by omega) c7.1).1]
          refine x_goto ?_
          refine x_blk (b := 5) (a_81 E) rfl ?_
          unfold b_81_5
          refine x_ast (r := 146) (n := 40) (m := w) rfl rfl (by decide) (fun _ => rfl) (by omega) (by omega) (by omega) (by omega) (by omega) (fun S14 e14 => ?_)
          have w14 := x_up_at e14
          refine x_iload rfl ?_
          refine x_if_ne (by omega) (by omega) (fun z => absurd z (by omega)) (fun z15 => ?_)
          refine x_blk (b := 7) (a_81 E) rfl ?_
          unfold b_81_7
          refine x_iload rfl ?_
          refine x_push 1 rfl ?_
          refine x_icmp_ne (by omega) (by omega) (by omega) (by omega) (fun z16 => ?_) (fun z => absurd (by omega) z)
          skip
          refine x_aload rfl ?_
          refine x_getR (r := 138) rfl (by decide) (by decide) rfl ?_
          refine x_iload rfl ?_
          refine x_push 1 rfl ?_
          refine x_iadd ?_
          refine x_iald (r := 147) (n := 40) (m := w + 1) rfl rfl (by decide) (fun _ => rfl) (by omega) (by omega) (by omega) ?_
          have q17_1 : ∀ m, S14 147 m = τ 147 m := fun m => x_up_nr e14 (by decide)
          simp only [q17_1]
          intro g17a g17b
          have c79 : w + 1 < n ∧ (w : Int) + 1 < P (w + 1) ∧ P (w + 1) ≤ n := ⟨(y_mp_c tr ms (v := w) (by omega) (by omega) (by omega)).1, (y_mp_c tr ms (v := w) (by omega) (by omega) (by omega)).2.1, (y_mp_c tr ms (v := w) (by omega) (by omega) (by omega)).2.2.1⟩
          rw [(hv (w + 1) (by omega) c79.1).2]
          have b1 := (y_ms_V hP m1 m2 tr ms _ (w + 1) rfl c79.1).1
          refine x_goto ?_
          refine x_blk (b := 8) (a_81 E) rfl ?_
          unfold b_81_8
          refine x_istore ?_
          refine x_aload rfl ?_
          refine x_getR (r := 138) rfl (by decide) (by decide) rfl ?_
          refine x_iload rfl ?_
          refine x_aload rfl ?_
          refine x_getR (r := 138) rfl (by decide) (by decide) rfl ?_
          refine x_iload rfl ?_
          refine x_aload rfl ?_
          refine x_getR (r := 138) rfl (by decide) (by decide) rfl ?_
          refine x_iload rfl ?_
          refine x_iald (r := 145) (n := 40) (m := w) rfl rfl (by decide) (fun _ => rfl) (by omega) (by omega) (by omega) ?_
          have q18_1 : ∀ m, S14 145 m = τ 145 m := fun m => x_up_nr e14 (by decide)
          simp only [q18_1]
          intro g18a g18b
          rw [l145]
          refine x_iload rfl ?_
          have kz : y_kk (σ 145) P V w = V (w + 1) := by unfold y_kk; rw [if_neg (by omega), if_pos (by omega)]
          rw [kz] at vb
          have tb := y_tab_b m1 m2 t.1 t.2.1 vb.2.1 vb.2.2
          have tv := hP.2.2.1 (y_tab m (σ 145 w) (V (w + 1))).toNat (by omega) (by omega)
          refine x_cS (fun _ => rfl) (Nat.le_of_ble_eq_true rfl) ?_
          refine c_17 (by omega) (by omega) ?_
          refine x_iald (r := 140) (n := 256)  rfl rfl (by decide) (fun _ => rfl) rfl (by omega) (by omega) ?_
          have q20_1 : ∀ m, S14 140 m = τ 140 m := fun m => x_up_nr e14 (by decide)
          simp only [q20_1]
          intro g20a g20b
          rw [q140]
          refine x_ast (r := 147) (n := 40) (m := w) rfl rfl (by decide) (fun _ => rfl) (by omega) (by omega) (by omega) (by omega) (by omega) (fun S21 e21 => ?_)
          have w21 := x_up_at e21
          refine x_iinc (-1) rfl rfl ?_
          refine x_goto ?_
          have pe := ms w (by omega) (by omega)
          have pq := pe.1
          unfold y_pq at pq
          rw [if_neg (by omega), if_pos (by omega)] at pq
          have vq := pe.2
          rw [kz] at vq
          refine x_G_lo (lo' := [(0, x_R 138), (1, x_I m), (2, x_I ((w : Int) + -1))]) ⟨rfl, rfl, rfl, trivial⟩ ?_
          refine ih _ (by omega) ((w : Int) + -1) S21 (by omega) (by omega) rfl (y_sm_tr (y_sm_tr hsm (y_sm_e e14 (Or.inl (by decide)))) (y_sm_e e21 (Or.inl (by decide)))) (fun x h1 h2 => ?_)
          by_cases cx : x = w
          · subst cx
            have q1 : S21 146 x = _ := (x_up_nr e21 (by decide)).trans w14
            rw [q1, w21, vq]
            exact ⟨pq.symm, rfl⟩
          · rw [x_up_nr e21 (by decide), x_up_ne e14 (fun z => cx z.2), x_up_ne e21 (fun z => cx z.2), x_up_nr e14 (by decide)]
            exact hv x (by omega) h2
      · skip
        have c9 : w + 1 < n ∧ (w : Int) + 1 < P (w + 1) ∧ P (w + 1) ≤ n := ⟨(y_mp_c tr ms (v := w) (by omega) (by omega) (by omega)).1, (y_mp_c tr ms (v := w) (by omega) (by omega) (by omega)).2.1, (y_mp_c tr ms (v := w) (by omega) (by omega) (by omega)).2.2.1⟩
        refine x_aload rfl ?_
        refine x_getR (r := 138) rfl (by decide) (by decide) rfl ?_
        refine x_iload rfl ?_
        refine x_push 1 rfl ?_
        refine x_iadd ?_
        refine x_iald (r := 146) (n := 40) (m := w + 1) rfl rfl (by decide) (fun _ => rfl) (by omega) (by omega) (by omega) ?_
        intro g22a g22b
        rw [(hv (w + 1) (by omega) c9.1).1]
        refine x_goto ?_
        refine x_blk (b := 3) (a_81 E) rfl ?_
        unfold b_81_3
        refine x_istore ?_
        refine x_aload rfl ?_
        refine x_getR (r := 138) rfl (by decide) (by decide) rfl ?_
        refine x_iload rfl ?_
        refine x_iload rfl ?_
        refine x_if_ne (by omega) (by omega) (fun z => absurd z (by omega)) (fun z23 => ?_)
        refine x_blk (b := 4) (a_81 E) rfl ?_
        unfold b_81_4
        skip
        refine x_iload rfl ?_
        refine x_push 1 rfl ?_
        refine x_icmp_ne (by omega) (by omega) (by omega) (by omega) (fun z => absurd z (by omega)) (fun z24 => ?_)
        refine x_blk (b := 6) (a_81 E) rfl ?_
        unfold b_81_6
        have c61 : w + 1 < n ∧ (w : Int) + 1 < P (w + 1) ∧ P (w + 1) ≤ n := ⟨(y_mp_c tr ms (v := w) (by omega) (by omega) (by omega)).1, (y_mp_c tr ms (v := w) (by omega) (by omega) (by omega)).2.1, (y_mp_c tr ms (v := w) (by omega) (by omega) (by omega)).2.2.1⟩
        have c6 := (y_mp_c tr ms (v := w) (by omega) (by omega) (by omega)).2.2.2 (by omega)
        refine x_aload rfl ?_
        refine x_getR (r := 138) rfl (by decide) (by decide) rfl ?_
        refine x_iload rfl ?_
        refine x_iald (r := 146) (n := 40) (m := (P (w + 1)).toNat) rfl rfl (by decide) (fun _ => rfl) (by omega) (by omega) (by omega) ?_
        intro g25a g25b
        rw [(hv (P (w + 1)).toNat (by omega) (by omega)).1]
        refine x_fall ?_
        refine x_blk (b := 5) (a_81 E) rfl ?_
        unfold b_81_5
        refine x_ast (r := 146) (n := 40) (m := w) rfl rfl (by decide) (fun _ => rfl) (by omega) (by omega) (by omega) (by omega) (by omega) (fun S26 e26 => ?_)
        have w26 := x_up_at e26
        refine x_iload rfl ?_
        refine x_if_ne (by omega) (by omega) (fun z => absurd z (by omega)) (fun z27 => ?_)
        refine x_blk (b := 7) (a_81 E) rfl ?_
        unfold b_81_7
        refine x_iload rfl ?_
        refine x_push 1 rfl ?_
        refine x_icmp_ne (by omega) (by omega) (by omega) (by omega) (fun z => absurd z (by omega)) (fun z28 => ?_)
        refine x_blk (b := 9) (a_81 E) rfl ?_
        unfold b_81_9
        skip
        refine x_push 2 rfl ?_
        refine x_aload rfl ?_
        refine x_getR (r := 138) rfl (by decide) (by decide) rfl ?_
        refine x_iload rfl ?_
        refine x_push 1 rfl ?_
        refine x_iadd ?_
        refine x_iald (r := 147) (n := 40) (m := w + 1) rfl rfl (by decide) (fun _ => rfl) (by omega) (by omega) (by omega) ?_
        have q29_1 : ∀ m, S26 147 m = τ 147 m := fun m => x_up_nr e26 (by decide)
        simp only [q29_1]
        intro g29a g29b
        have c97 : w + 1 < n ∧ (w : Int) + 1 < P (w + 1) ∧ P (w + 1) ≤ n := ⟨(y_mp_c tr ms (v := w) (by omega) (by omega) (by omega)).1, (y_mp_c tr ms (v := w) (by omega) (by omega) (by omega)).2.1, (y_mp_c tr ms (v := w) (by omega) (by omega) (by omega)).2.2.1⟩
        rw [(hv (w + 1) (by omega) c97.1).2]
        have b1 := (y_ms_V hP m1 m2 tr ms _ (w + 1) rfl c97.1).1
        refine x_imul ?_
        refine x_aload rfl ?_
        refine x_getR (r := 138) rfl (by decide) (by decide) rfl ?_
        refine x_iload rfl ?_
        refine x_iald (r := 147) (n := 40) (m := (P (w + 1)).toNat) rfl rfl (by decide) (fun _ => rfl) (by omega) (by omega) (by omega) ?_
        have q30_1 : ∀ m, S26 147 m = τ 147 m := fun m => x_up_nr e26 (by decide)
        simp only [q30_1]
        intro g30a g30b
        have c98 := (y_mp_c tr ms (v := w) (by omega) (by omega) (by omega)).2.2.2 (by omega)
        rw [(hv (P (w + 1)).toNat (by omega) (by omega)).2]
        have b2 := (y_ms_V hP m1 m2 tr ms _ (P (w + 1)).toNat rfl (by omega)).1
        refine x_iadd ?_
        refine x_fall ?_
        refine x_blk (b := 8) (a_81 E) rfl ?_
        unfold b_81_8
        refine x_istore ?_
        refine x_aload rfl ?_
        refine x_getR (r := 138) rfl (by decide) (by decide) rfl ?_
        refine x_iload rfl ?_
        refine x_aload rfl ?_
        refine x_getR (r := 138) rfl (by decide) (by decide) rfl ?_
        refine x_iload rfl ?_
        refine x_aload rfl ?_
        refine x_getR (r := 138) rfl (by decide) (by decide) rfl ?_
        refine x_iload rfl ?_
        refine x_iald (r := 145) (n := 40) (m := w) rfl rfl (by decide) (fun _ => rfl) (by omega) (by omega) (by omega) ?_
        have q31_1 : ∀ m, S26 145 m = τ 145 m := fun m => x_up_nr e26 (by decide)
        simp only [q31_1]
        intro g31a g31b
        rw [l145]
        refine x_iload rfl ?_
        have kz : y_kk (σ 145) P V w = 2 * V (w + 1) + V (P (w + 1)).toNat := by unfold y_kk; rw [if_neg (by omega), if_neg (by omega)]
        rw [kz] at vb
        have tb := y_tab_b m1 m2 t.1 t.2.1 vb.2.1 vb.2.2
        have tv := hP.2.2.1 (y_tab m (σ 145 w) (2 * V (w + 1) + V (P (w + 1)).toNat)).toNat (by omega) (by omega)
        refine x_cS (fun _ => rfl) (Nat.le_of_ble_eq_true rfl) ?_
        refine c_17 (by omega) (by omega) ?_
        refine x_iald (r := 140) (n := 256)  rfl rfl (by decide) (fun _ => rfl) rfl (by omega) (by omega) ?_
        have q33_1 : ∀ m, S26 140 m = τ 140 m := fun m => x_up_nr e26 (by decide)
        simp only [q33_1]
        intro g33a g33b
        rw [q140]
        refine x_ast (r := 147) (n := 40) (m := w) rfl rfl (by decide) (fun _ => rfl) (by omega) (by omega) (by omega) (by omega) (by omega) (fun S34 e34 => ?_)
        have w34 := x_up_at e34
        refine x_iinc (-1) rfl rfl ?_
        refine x_goto ?_
        have pe := ms w (by omega) (by omega)
        have pq := pe.1
        unfold y_pq at pq
        rw [if_neg (by omega), if_neg (by omega)] at pq
        have vq := pe.2
        rw [kz] at vq
        refine x_G_lo (lo' := [(0, x_R 138), (1, x_I m), (2, x_I ((w : Int) + -1))]) ⟨rfl, rfl, rfl, trivial⟩ ?_
        refine ih _ (by omega) ((w : Int) + -1) S34 (by omega) (by omega) rfl (y_sm_tr (y_sm_tr hsm (y_sm_e e26 (Or.inl (by decide)))) (y_sm_e e34 (Or.inl (by decide)))) (fun x h1 h2 => ?_)
        by_cases cx : x = w
        · subst cx
          have q1 : S34 146 x = _ := (x_up_nr e34 (by decide)).trans w26
          rw [q1, w34, vq]
          exact ⟨pq.symm, rfl⟩
        · rw [x_up_nr e34 (by decide), x_up_ne e26 (fun z => cx z.2), x_up_ne e34 (fun z => cx z.2), x_up_nr e26 (by decide)]
          exact hv x (by omega) h2
theorem cx_81 {E : q_E} {σ : x_S} {Q : Option q_V → x_S → Prop} {m : Int} (m1 : 0 ≤ m) (m2 : m ≤ 1) (hP : y_PI (σ 140)) {n : Nat} (hn : σ 138 10 = n) (n40 : n ≤ 40) {P V : Nat → Int} (tr : y_tr (σ 145) n) (ms : y_ms (σ 140) m (σ 145) n P V) (k : ∀ τ, y_sm [146, 147] [] σ τ → (∀ v : Nat, v < n → τ 146 v = P v ∧ τ 147 v = V v) → Q none τ) : x_P E 81 [x_R 138, x_I m] σ Q := by
  refine x_Mt e_81 (h_81 E) (Nat.le_of_ble_eq_true rfl) t_81 rfl ?_
  refine x_blk (b := 0) (a_81 E) rfl ?_
  unfold b_81_0
  refine x_aload rfl ?_
  refine x_getI (r := 138) rfl (by decide) (by decide) (by decide) rfl ?_
  intro g1a g1b
  refine x_push 1 rfl ?_
  refine x_isub ?_
  refine x_istore ?_
  refine x_fall ?_
  refine x_G_lo (lo' := [(0, x_R 138), (1, x_I m), (2, x_I (σ 138 10 - 1))]) ⟨rfl, rfl, rfl, trivial⟩ ?_
  exact cx_81_a m1 m2 hP hn n40 tr ms k _ (σ 138 10 - 1) σ (by omega) (by omega) rfl y_sm_rf (fun x h1 h2 => absurd h1 (by omega))
theorem cx_80_a {E : q_E} {σ : x_S} {Q : Option q_V → x_S → Prop} {t m : Int} (t1 : 0 ≤ t) (t2 : t ≤ 2) (m1 : 0 ≤ m) (m2 : m ≤ 1) (hP : y_PI (σ 140)) {P V : Nat → Int} (ms : y_ms (σ 140) m (y_lt (σ 140) t.toNat) (σ 140 (2 + t.toNat)).toNat P V) (k : ∀ τ, y_sm [145, 146, 147] [10] σ τ → τ 138 10 = σ 140 (2 + t.toNat) → (∀ v : Nat, (v : Int) < σ 140 (2 + t.toNat) → τ 145 v = y_lt (σ 140) t.toNat v ∧ τ 146 v = P v ∧ τ 147 v = V v) → Q none τ) : ∀ (N : Nat) (v : Int) (τ : x_S), 0 ≤ v → v ≤ σ 140 (2 + t.toNat) → (11 - v).toNat = N → y_sm [145] [10] σ τ → τ 138 10 = σ 140 (2 + t.toNat) → (∀ x : Nat, (x : Int) < v → τ 145 x = y_lt (σ 140) t.toNat x) → x_G E m_80 Q (t_80 2) [(0, x_R 138), (1, x_I t), (2, x_I m), (3, x_I v)] [] τ := by
  intro N
  induction N using Nat.strongRecOn with
  | ind N ih =>
    intro v τ i1 i2 hN hsm hg hl
    have sz := y_PI_sz hP (t := t.toNat) (by omega)
    have q140 : ∀ z, τ 140 z = σ 140 z := fun z => y_sm_a hsm 140 (by decide) (by decide) z
    refine x_blk (b := 2) (a_80 E) rfl ?_
    unfold b_80_2
    refine x_iload rfl ?_
    refine x_aload rfl ?_
    refine x_getI (r := 138) rfl (by decide) (by decide) (by decide) rfl ?_
    intro g1a g1b
    refine x_icmp_ge (by omega) (by omega) (by omega) (by omega) (fun z2 => ?_) (fun z2 => ?_)
    · skip
      refine x_aload rfl ?_
      refine x_getR (r := 138) rfl (by decide) (by decide) rfl ?_
      refine x_iload rfl ?_
      refine x_aload rfl ?_
      refine x_getR (r := 138) rfl (by decide) (by decide) rfl ?_
      refine x_push 5 rfl ?_
      refine x_push 11 rfl ?_
      refine x_iload rfl ?_
      refine x_imul ?_
      refine x_iadd ?_
      refine x_iload rfl ?_
      refine x_iadd ?_
      refine x_iald (r := 140) (n := 256) rfl rfl (by decide) (fun _ => rfl) rfl (by omega) (by omega) ?_
      intro g3a g3b
      refine x_ast (r := 145) (n := 40)  rfl rfl (by decide) (fun _ => rfl) rfl (by omega) (by omega) (by omega) (by omega) (fun S4 e4 => ?_)
      have w4 := x_up_at e4
      refine x_iinc 1 rfl rfl ?_
      refine x_goto ?_
      refine x_G_lo (lo' := [(0, x_R 138), (1, x_I t), (2, x_I m), (3, x_I (v + 1))]) ⟨rfl, rfl, rfl, rfl, trivial⟩ ?_
      refine ih _ (by omega) (v + 1) S4 (by omega) (by omega) rfl (y_sm_tr hsm (y_sm_e e4 (Or.inl (by decide)))) ((x_up_nr e4 (by decide)).trans hg) (fun x hx => ?_)
      by_cases cx : x = v.toNat
      · subst cx
        rw [w4, q140]
        show σ 140 _ = σ 140 (5 + 11 * t.toNat + v.toNat)
        congr 1
        omega
      · rw [x_up_ne e4 (fun z => cx z.2)]; exact hl x (by omega)
    · skip
      refine x_blk (b := 1) (a_80 E) rfl ?_
      unfold b_80_1
      refine x_aload rfl ?_
      refine x_iload rfl ?_
      refine x_cV (fun _ => rfl) rfl (by decide) (Nat.le_of_ble_eq_true rfl) ?_
      have lx : ∀ i, i < (σ 140 (2 + t.toNat)).toNat → y_lt (σ 140) t.toNat i = τ 145 i := fun i hi => (hl i (by omega)).symm
      have e0 : τ 140 = σ 140 := funext q140
      refine cx_81 (n := (σ 140 (2 + t.toNat)).toNat) m1 m2 (by rw [e0]; exact hP) (by omega) (by omega) (y_tr_ext lx (hP.2.1 t.toNat (by omega)).2) (by rw [e0]; exact y_ms_ext lx ms) (fun S5 f5 w5 => ?_)
      refine x_vret ?_
      refine k _ (y_sm_tr (y_sm_w (by decide) (by decide) hsm) (y_sm_w (by decide) (by decide) f5)) ((f5 138 10 (by decide) (by decide)).trans hg) (fun v hv => ⟨?_, w5 v (by omega)⟩)
      rw [y_sm_a f5 145 (by decide) (by decide)]
      exact hl v (by omega)
theorem cx_80 {E : q_E} {σ : x_S} {Q : Option q_V → x_S → Prop} {t m : Int} (t1 : 0 ≤ t) (t2 : t ≤ 2) (m1 : 0 ≤ m) (m2 : m ≤ 1) (hP : y_PI (σ 140)) {P V : Nat → Int} (ms : y_ms (σ 140) m (y_lt (σ 140) t.toNat) (σ 140 (2 + t.toNat)).toNat P V) (k : ∀ τ, y_sm [145, 146, 147] [10] σ τ → τ 138 10 = σ 140 (2 + t.toNat) → (∀ v : Nat, (v : Int) < σ 140 (2 + t.toNat) → τ 145 v = y_lt (σ 140) t.toNat v ∧ τ 146 v = P v ∧ τ 147 v = V v) → Q none τ) : x_P E 80 [x_R 138, x_I t, x_I m] σ Q := by
  refine x_Mt e_80 (h_80 E) (Nat.le_of_ble_eq_true rfl) t_80 rfl ?_
  refine x_blk (b := 0) (a_80 E) rfl ?_
  unfold b_80_0
  refine x_aload rfl ?_
  refine x_aload rfl ?_
  refine x_getR (r := 138) rfl (by decide) (by decide) rfl ?_
  refine x_push 2 rfl ?_
  refine x_iload rfl ?_
  refine x_iadd ?_
  refine x_iald (r := 140) (n := 256)  rfl rfl (by decide) (fun _ => rfl) rfl (by omega) (by omega) ?_
  intro g1a g1b
  refine x_putI (r := 138) rfl (by decide) (by decide) (by decide) rfl ⟨by decide, rfl⟩ (by omega) (by omega) (fun S2 e2 => ?_)
  have w2 := x_up_at e2
  refine x_push 0 rfl ?_
  refine x_istore ?_
  refine x_fall ?_
  have ez : σ 140 (2 + t).toNat = σ 140 (2 + t.toNat) := congrArg _ (by omega)
  refine x_G_lo (lo' := [(0, x_R 138), (1, x_I t), (2, x_I m), (3, x_I 0)]) ⟨rfl, rfl, rfl, rfl, trivial⟩ ?_
  have sz := y_PI_sz hP (t := t.toNat) (by omega)
  exact cx_80_a t1 t2 m1 m2 hP ms k _ 0 S2 (by omega) (by omega) rfl (y_sm_e e2 (Or.inr ⟨rfl, by decide⟩)) (w2.trans ez) (fun x hx => absurd hx (by omega))
theorem cx_181 {E : q_E} {σ : x_S} {Q : Option q_V → x_S → Prop} {m t v : Int} (m1 : -2147483648 ≤ m) (m2 : m ≤ 2147483647) (t1 : -2147483648 ≤ t) (t2 : t ≤ 2147483647) (v1 : -2147483648 ≤ v) (v2 : v ≤ 2147483647) (hP : y_PI (σ 140)) {P V : Nat → Int} (ms : (0 ≤ m ∧ m ≤ 1) → (0 ≤ t ∧ t ≤ 2) → y_ms (σ 140) m (y_lt (σ 140) t.toNat) (σ 140 (2 + t.toNat)).toNat P V) (kB : ¬ ((0 ≤ m ∧ m ≤ 1) ∧ (0 ≤ t ∧ t ≤ 2) ∧ 0 ≤ v ∧ v < σ 140 (2 + t.toNat)) → Q (some (x_I (-1))) σ) (kS : ((0 ≤ m ∧ m ≤ 1) ∧ (0 ≤ t ∧ t ≤ 2) ∧ 0 ≤ v ∧ v < σ 140 (2 + t.toNat)) → ∀ τ, y_sm [145, 146, 147] [10] σ τ → Q (some (x_I (V v.toNat))) τ) : x_P E 181 [x_R 138, x_I m, x_I t, x_I v] σ Q := by
  refine x_Mt e_181 (h_181 E) (Nat.le_of_ble_eq_true rfl) t_181 rfl ?_
  refine x_blk (b := 0) (a_181 E) rfl ?_
  unfold b_181_0
  refine x_iload rfl ?_
  refine x_cS (fun _ => rfl) (Nat.le_of_ble_eq_true rfl) ?_
  refine c_64 (by omega) (by omega) (fun y1 => ?_) (fun y1 => ?_)
  · skip
    refine x_if_eq (by decide) (by decide) (fun z => absurd z (by decide)) (fun _ => ?_)
    refine x_aload rfl ?_
    refine x_iload rfl ?_
    refine x_iload rfl ?_
    refine x_cV (fun _ => rfl) rfl (by decide) (Nat.le_of_ble_eq_true rfl) ?_
    refine c_92 (by omega) (by omega) (by omega) (by omega) (by assumption) (fun y3 => ?_) (fun y3 => ?_)
    · skip
      refine x_if_ne (by decide) (by decide) (fun z => absurd z (by decide)) (fun _ => ?_)
      refine x_blk (b := 2) (a_181 E) rfl ?_
      unfold b_181_2
      refine x_aload rfl ?_
      refine x_iload rfl ?_
      refine x_iload rfl ?_
      refine x_cV (fun _ => rfl) rfl (by decide) (Nat.le_of_ble_eq_true rfl) ?_
      have sz := y_szt hP (t := t) (by omega) (by omega)
      have ez : σ 140 (2 + t).toNat = σ 140 (2 + t.toNat) := congrArg _ (by omega)
      refine cx_80 (t := t) (m := m) (by omega) (by omega) (by omega) (by omega) hP (ms (by omega) (by omega)) (fun S5 f5 g5 w5 => ?_)
      refine x_aload rfl ?_
      refine x_getR (r := 138) rfl (by decide) (by decide) rfl ?_
      refine x_iload rfl ?_
      refine x_iald (r := 147) (n := 40)  rfl rfl (by decide) (fun _ => rfl) rfl (by omega) (by omega) ?_
      intro g6a g6b
      refine x_iret ?_
      refine x_fin (b := V v.toNat) (w5 v.toNat (by omega)).2.2 ?_
      exact kS ⟨by omega, by omega, by omega, by omega⟩ _ f5
    · skip
      refine x_if_ne (by decide) (by decide) (fun _ => ?_) (fun z => absurd (by decide) z)
      refine x_fall ?_
      refine x_blk (b := 1) (a_181 E) rfl ?_
      unfold b_181_1
      refine x_push (-1) rfl ?_
      refine x_iret ?_
      exact kB (fun z => by have ez : σ 140 (2 + t).toNat = σ 140 (2 + t.toNat) := congrArg _ (by omega); omega)
  · skip
    refine x_if_eq (by decide) (by decide) (fun _ => ?_) (fun z => absurd (by decide) z)
    refine x_blk (b := 1) (a_181 E) rfl ?_
    unfold b_181_1
    refine x_push (-1) rfl ?_
    refine x_iret ?_
    exact kB (fun z => by have ez : σ 140 (2 + t).toNat = σ 140 (2 + t.toNat) := congrArg _ (by omega); omega)
