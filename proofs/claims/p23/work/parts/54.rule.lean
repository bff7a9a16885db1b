theorem y_pc_c {f s c : Int} (s1 : 0 ≤ s) (s2 : s ≤ 2) (c1 : 0 ≤ c) (c2 : c ≤ 1) (hf : 2 ≤ f) (hc : f ≤ 2 → c = 0) : y_pc f (10 + 2 * s + c) := by
  right
  exact ⟨by omega, by omega, hf, fun z => by omega⟩
theorem y_pc_l {f c : Int} (c1 : 0 ≤ c) (c2 : c ≤ 4) : y_pc f c := Or.inl ⟨c1, c2⟩
theorem y_stepC {p p' : Nat → Int} {n : Nat} {f o : Int} (ho : o = y_op p n) (hm : ∀ m, m < n → p' m = p m) (hn : p' n = f) (hf : 9 < f) : o + -1 = y_op p' (n + 1) := by
  rw [y_op_s, y_op_ext hm, hn, ← ho]
  unfold y_c9
  rw [if_pos hf]
  omega
theorem y_stepR {p p' : Nat → Int} {n : Nat} {g f o : Int} (ho : o = y_op p n) (h1 : 1 ≤ o) (hm : ∀ m, m < n → p' m = p m) (hn : p' n = f) (hf : y_pc g f) (hA : ∀ m, m < n → y_pc g (p m) ∧ 1 ≤ y_op p m) : ∀ m, m < n + 1 → y_pc g (p' m) ∧ 1 ≤ y_op p' m := by
  intro m hmn
  by_cases e : m = n
  · subst e
    rw [hn, y_op_ext hm, ← ho]
    exact ⟨hf, h1⟩
  · have hlt : m < n := by omega
    rw [hm m hlt, y_op_ext (fun i hi => hm i (by omega))]
    exact hA m hlt
set_option maxHeartbeats 8000000 in
theorem c_113_a {E : q_E} {σ : x_S} {Q : Option q_V → x_S → Prop} (ln1 : 0 ≤ σ 138 0) (ln2 : σ 138 0 ≤ 200) (s1 : 0 ≤ σ 138 8) (s2 : σ 138 8 ≤ σ 138 0) (k1 : ∀ τ, y_sm [144] [8] σ τ → σ 138 8 ≤ τ 138 8 → τ 138 8 ≤ σ 138 0 → y_rl (τ 144) → Q (some (x_I 1)) τ) (k0 : ∀ τ, y_sm [144] [8] σ τ → σ 138 8 ≤ τ 138 8 → τ 138 8 ≤ σ 138 0 → Q (some (x_I 0)) τ) {p q f g : Int} (p1 : 0 ≤ p) (p2 : p ≤ 1) (q1 : 0 ≤ q) (q2 : q ≤ 2) (f1 : 0 ≤ f) (f2 : f ≤ 4) (g1 : 0 ≤ g) (g2 : g ≤ 2) : ∀ (N : Nat) (n o : Int) (τ : x_S), 0 ≤ n → n ≤ 7 → (7 - n).toNat = N → y_sm [144] [8] σ τ → σ 138 8 ≤ τ 138 8 → τ 138 8 ≤ σ 138 0 → τ 144 0 = p → τ 144 1 = q → τ 144 2 = f → τ 144 3 = g → τ 144 4 = n → o = y_op (fun i => τ 144 (5 + i)) n.toNat → (∀ m : Nat, m < n.toNat → y_pc f (τ 144 (5 + m)) ∧ 1 ≤ y_op (fun i => τ 144 (5 + i)) m) → 0 ≤ o → o ≤ n + 1 → (1 ≤ n ∨ o = 1) → x_G E m_113 Q (t_113 26) [(0, x_R 138), (1, x_I p), (2, x_I q), (3, x_I f), (4, x_I g), (5, x_I o)] [] τ := by
  intro N
  induction N using Nat.strongRecOn with
  | ind N ih =>
    intro n o τ n1 n2 hN hsm r1 r2 a0 a1 a2 a3 a4 ho hA o1 o2 o3
    have l0 : τ 138 0 = σ 138 0 := hsm 138 0 (by decide) (by decide)
    refine x_blk (b := 26) (a_113 E) rfl ?_
    unfold b_113_26
    refine x_iload rfl ?_
    refine x_if_le (by omega) (by omega) (fun z1 => ?_) (fun z1 => ?_)
    · skip
      refine x_blk (b := 12) (a_113 E) rfl ?_
      unfold b_113_12
      refine x_push 1 rfl ?_
      refine x_zret (by first | decide | omega) ?_
      refine k1 _ hsm (by omega) (by omega) ⟨by omega, by omega, by omega, by omega, by omega, fun m hm => ?_, ?_⟩
      · rw [a2]; exact hA m (by omega)
      · rw [a4, ← ho]; omega
    · skip
      refine x_aload rfl ?_
      refine x_getR (r := 138) rfl (by decide) (by decide) rfl ?_
      refine x_push 4 rfl ?_
      refine x_iald (r := 144) (n := 12) (m := 4) rfl rfl (by decide) (fun _ => rfl) rfl (by omega) (by omega) ?_
      intro g2a g2b
      refine x_push 7 rfl ?_
      refine x_icmp_eq (by omega) (by omega) (by omega) (by omega) (fun z3 => ?_) (fun z3 => ?_)
      · skip
        refine x_blk (b := 13) (a_113 E) rfl ?_
        unfold b_113_13
        refine x_push (-1) rfl ?_
        refine x_goto ?_
        refine x_blk (b := 15) (a_113 E) rfl ?_
        unfold b_113_15
        refine x_istore ?_
        refine x_aload rfl ?_
        refine x_getR (r := 138) rfl (by decide) (by decide) rfl ?_
        refine x_push 4 rfl ?_
        refine x_iald (r := 144) (n := 12) (m := 4) rfl rfl (by decide) (fun _ => rfl) rfl (by omega) (by omega) ?_
        intro g4a g4b
        refine x_push 7 rfl ?_
        refine x_icmp_ne (by omega) (by omega) (by omega) (by omega) (fun z5 => ?_) (fun z5 => ?_)
        · skip
          refine x_push (-1) rfl ?_
          refine x_goto ?_
          refine x_blk (b := 17) (a_113 E) rfl ?_
          unfold b_113_17
          refine x_istore ?_
          refine x_iload rfl ?_
          refine x_if_ge (by decide) (by decide) (fun _ => ?_) (fun z => absurd (by decide) z)
          refine x_push 0 rfl ?_
          refine x_zret (by first | decide | omega) ?_
          exact k0 _ hsm (by omega) (by omega)
        · skip
          refine x_blk (b := 16) (a_113 E) rfl ?_
          unfold b_113_16
          refine x_iload rfl ?_
          refine x_if_ge (by decide) (by decide) (fun _ => ?_) (fun z => absurd (by decide) z)
          refine x_aload rfl ?_
          refine x_push 97 rfl ?_
          refine x_push 101 rfl ?_
          refine x_cV (fun _ => rfl) rfl (by decide) (Nat.le_of_ble_eq_true rfl) ?_
          refine c_112 (by omega) (by omega) (by omega) (by omega) (by omega) (by omega) (by omega) (by omega) (fun S8 f8 k8_a k8_b k8_c k8_d => ?_) (fun n8 => ?_)
          · have l8 : S8 138 0 = _ := f8 138 0 (by decide) (by decide)
            refine x_goto ?_
            refine x_blk (b := 17) (a_113 E) rfl ?_
            unfold b_113_17
            refine x_istore ?_
            refine x_iload rfl ?_
            refine x_if_ge (by omega) (by omega) (fun z => absurd z (by omega)) (fun _ => ?_)
            refine x_blk (b := 21) (a_113 E) rfl ?_
            unfold b_113_21
            refine x_aload rfl ?_
            refine x_getR (r := 138) rfl (by decide) (by decide) rfl ?_
            refine x_push 5 rfl ?_
            refine x_aload rfl ?_
            refine x_getR (r := 138) rfl (by decide) (by decide) rfl ?_
            refine x_push 4 rfl ?_
            refine x_iald (r := 144) (n := 12) (m := 4) rfl rfl (by decide) (fun _ => rfl) rfl (by omega) (by omega) ?_
            have q10_1 : S8 144 4 = τ 144 4 := y_sm_a f8 144 (by decide) (by decide) 4
            simp only [q10_1]
            intro g10a g10b
            refine x_iadd ?_
            refine x_iload rfl ?_
            refine x_if_ge (by decide) (by decide) (fun _ => ?_) (fun z => absurd (by decide) z)
            refine x_iload rfl ?_
            refine x_goto ?_
            refine x_blk (b := 23) (a_113 E) rfl ?_
            unfold b_113_23
            refine x_ast (r := 144) (n := 12)  rfl rfl (by decide) (fun _ => rfl) rfl (by omega) (by omega) (by omega) (by omega) (fun S12 e12 => ?_)
            have w12 := x_up_at e12
            refine x_iload rfl ?_
            refine x_iload rfl ?_
            refine x_if_ge (by decide) (by decide) (fun _ => ?_) (fun z => absurd (by decide) z)
            refine x_iload rfl ?_
            refine x_cS (fun _ => rfl) (Nat.le_of_ble_eq_true rfl) ?_
            refine c_0 (by omega) (by omega) ?_
            refine x_push 1 rfl ?_
            refine x_isub ?_
            refine x_goto ?_
            refine x_blk (b := 25) (a_113 E) rfl ?_
            unfold b_113_25
            have qx12 : S12 144 4 = S8 144 4 := x_up_ne e12 (fun z => absurd z.2 (by omega))
            refine x_iadd ?_
            refine x_istore ?_
            refine x_aload rfl ?_
            refine x_getR (r := 138) rfl (by decide) (by decide) rfl ?_
            refine x_push 4 rfl ?_
            refine x_dup2 rfl rfl ?_
            refine x_iald (r := 144) (n := 12) (m := 4) rfl rfl (by decide) (fun _ => rfl) rfl (by omega) (by omega) ?_
            intro g15a g15b
            refine x_push 1 rfl ?_
            refine x_iadd ?_
            refine x_ast (r := 144) (n := 12) (m := 4) rfl rfl (by decide) (fun _ => rfl) rfl (by omega) (by omega) (by omega) (by omega) (fun S16 e16 => ?_)
            have w16 := x_up_at e16
            refine x_goto ?_
            have q144 : ∀ m, S8 144 m = τ 144 m := fun m => (y_sm_a f8 144 (by decide) (by decide) m)
            have q8 : S16 138 8 = S8 138 8 := (x_up_nr e16 (by decide)).trans (x_up_nr e12 (by decide))
            have hst : ∀ m, m ≠ 4 → m ≠ (5 + τ 144 4).toNat → S16 144 m = τ 144 m := fun m h1 h2 => by rw [x_up_ne e16 (fun z => h1 z.2), x_up_ne e12 (fun z => h2 z.2), q144]
            have hpi : S16 144 (5 + n.toNat) = _ := (x_up_ne e16 (fun z => absurd z.2 (by omega))).trans ((congrArg (S12 144) (show 5 + n.toNat = (5 + τ 144 4).toNat by omega)).trans w12)
            have hm : ∀ m, m < n.toNat → S16 144 (5 + m) = τ 144 (5 + m) := fun m hm => hst _ (by omega) (by omega)
            have hnn : (n + 1).toNat = n.toNat + 1 := by omega
            have h0 := hst 0 (by decide) (by omega)
            have h1 := hst 1 (by decide) (by omega)
            have h2 := hst 2 (by decide) (by omega)
            have h3 := hst 3 (by decide) (by omega)
            have hb := y_ch_b (y_tx τ (τ 138 8) - 97)
            refine x_G_lo (lo' := [(0, x_R 138), (1, x_I p), (2, x_I q), (3, x_I f), (4, x_I g), (5, x_I (o + (y_ch (y_tx τ (τ 138 8) - 97) - 1)))]) ⟨rfl, rfl, rfl, rfl, rfl, rfl, trivial⟩ ?_
            refine ih _ (by omega) (n + 1) (o + (y_ch (y_tx τ (τ 138 8) - 97) - 1)) S16 (by omega) (by omega) rfl (y_sm_tr (y_sm_tr (y_sm_tr hsm (y_sm_w (by decide) (by decide) f8)) (y_sm_e e12 (Or.inl (by decide)))) (y_sm_e e16 (Or.inl (by decide)))) (by omega) (by omega) (by omega) (by omega) (by omega) (by omega) (by omega) ?_ ?_ (by omega) (by omega) (by omega)
            · rw [hnn]; exact y_step ho hm hpi (by omega)
            · rw [hnn]; exact y_stepR ho (by omega) hm hpi (y_pc_l (by omega) (by omega)) hA
          · skip
            refine x_goto ?_
            refine x_blk (b := 17) (a_113 E) rfl ?_
            unfold b_113_17
            refine x_istore ?_
            refine x_iload rfl ?_
            refine x_if_ge (by decide) (by decide) (fun _ => ?_) (fun z => absurd (by decide) z)
            refine x_push 0 rfl ?_
            refine x_zret (by first | decide | omega) ?_
            exact k0 _ hsm (by omega) (by omega)
      · skip
        refine x_iload rfl ?_
        refine x_push 2 rfl ?_
        refine x_icmp_ge (by omega) (by omega) (by omega) (by omega) (fun z18 => ?_) (fun z18 => ?_)
        · skip
          refine x_fall ?_
          refine x_blk (b := 13) (a_113 E) rfl ?_
          unfold b_113_13
          refine x_push (-1) rfl ?_
          refine x_goto ?_
          refine x_blk (b := 15) (a_113 E) rfl ?_
          unfold b_113_15
          refine x_istore ?_
          refine x_aload rfl ?_
          refine x_getR (r := 138) rfl (by decide) (by decide) rfl ?_
          refine x_push 4 rfl ?_
          refine x_iald (r := 144) (n := 12) (m := 4) rfl rfl (by decide) (fun _ => rfl) rfl (by omega) (by omega) ?_
          intro g19a g19b
          refine x_push 7 rfl ?_
          refine x_icmp_ne (by omega) (by omega) (by omega) (by omega) (fun z20 => ?_) (fun z20 => ?_)
          · skip
            refine x_push (-1) rfl ?_
            refine x_goto ?_
            refine x_blk (b := 17) (a_113 E) rfl ?_
            unfold b_113_17
            refine x_istore ?_
            refine x_iload rfl ?_
            refine x_if_ge (by decide) (by decide) (fun _ => ?_) (fun z => absurd (by decide) z)
            refine x_push 0 rfl ?_
            refine x_zret (by first | decide | omega) ?_
            exact k0 _ hsm (by omega) (by omega)
          · skip
            refine x_blk (b := 16) (a_113 E) rfl ?_
            unfold b_113_16
            refine x_iload rfl ?_
            refine x_if_ge (by decide) (by decide) (fun _ => ?_) (fun z => absurd (by decide) z)
            refine x_aload rfl ?_
            refine x_push 97 rfl ?_
            refine x_push 101 rfl ?_
            refine x_cV (fun _ => rfl) rfl (by decide) (Nat.le_of_ble_eq_true rfl) ?_
            refine c_112 (by omega) (by omega) (by omega) (by omega) (by omega) (by omega) (by omega) (by omega) (fun S23 f23 k23_a k23_b k23_c k23_d => ?_) (fun n23 => ?_)
            · have l23 : S23 138 0 = _ := f23 138 0 (by decide) (by decide)
              refine x_goto ?_
              refine x_blk (b := 17) (a_113 E) rfl ?_
              unfold b_113_17
              refine x_istore ?_
              refine x_iload rfl ?_
              refine x_if_ge (by omega) (by omega) (fun z => absurd z (by omega)) (fun _ => ?_)
              refine x_blk (b := 21) (a_113 E) rfl ?_
              unfold b_113_21
              refine x_aload rfl ?_
              refine x_getR (r := 138) rfl (by decide) (by decide) rfl ?_
              refine x_push 5 rfl ?_
              refine x_aload rfl ?_
              refine x_getR (r := 138) rfl (by decide) (by decide) rfl ?_
              refine x_push 4 rfl ?_
              refine x_iald (r := 144) (n := 12) (m := 4) rfl rfl (by decide) (fun _ => rfl) rfl (by omega) (by omega) ?_
              have q25_1 : S23 144 4 = τ 144 4 := y_sm_a f23 144 (by decide) (by decide) 4
              simp only [q25_1]
              intro g25a g25b
              refine x_iadd ?_
              refine x_iload rfl ?_
              refine x_if_ge (by decide) (by decide) (fun _ => ?_) (fun z => absurd (by decide) z)
              refine x_iload rfl ?_
              refine x_goto ?_
              refine x_blk (b := 23) (a_113 E) rfl ?_
              unfold b_113_23
              refine x_ast (r := 144) (n := 12)  rfl rfl (by decide) (fun _ => rfl) rfl (by omega) (by omega) (by omega) (by omega) (fun S27 e27 => ?_)
              have w27 := x_up_at e27
              refine x_iload rfl ?_
              refine x_iload rfl ?_
              refine x_if_ge (by decide) (by decide) (fun _ => ?_) (fun z => absurd (by decide) z)
              refine x_iload rfl ?_
              refine x_cS (fun _ => rfl) (Nat.le_of_ble_eq_true rfl) ?_
              refine c_0 (by omega) (by omega) ?_
              refine x_push 1 rfl ?_
              refine x_isub ?_
              refine x_goto ?_
              refine x_blk (b := 25) (a_113 E) rfl ?_
              unfold b_113_25
              have qx27 : S27 144 4 = S23 144 4 := x_up_ne e27 (fun z => absurd z.2 (by omega))
              refine x_iadd ?_
              refine x_istore ?_
              refine x_aload rfl ?_
              refine x_getR (r := 138) rfl (by decide) (by decide) rfl ?_
              refine x_push 4 rfl ?_
              refine x_dup2 rfl rfl ?_
              refine x_iald (r := 144) (n := 12) (m := 4) rfl rfl (by decide) (fun _ => rfl) rfl (by omega) (by omega) ?_
              intro g30a g30b
              refine x_push 1 rfl ?_
              refine x_iadd ?_
              refine x_ast (r := 144) (n := 12) (m := 4) rfl rfl (by decide) (fun _ => rfl) rfl (by omega) (by omega) (by omega) (by omega) (fun S31 e31 => ?_)
              have w31 := x_up_at e31
              refine x_goto ?_
              have q144 : ∀ m, S23 144 m = τ 144 m := fun m => (y_sm_a f23 144 (by decide) (by decide) m)
              have q8 : S31 138 8 = S23 138 8 := (x_up_nr e31 (by decide)).trans (x_up_nr e27 (by decide))
              have hst : ∀ m, m ≠ 4 → m ≠ (5 + τ 144 4).toNat → S31 144 m = τ 144 m := fun m h1 h2 => by rw [x_up_ne e31 (fun z => h1 z.2), x_up_ne e27 (fun z => h2 z.2), q144]
              have hpi : S31 144 (5 + n.toNat) = _ := (x_up_ne e31 (fun z => absurd z.2 (by omega))).trans ((congrArg (S27 144) (show 5 + n.toNat = (5 + τ 144 4).toNat by omega)).trans w27)
              have hm : ∀ m, m < n.toNat → S31 144 (5 + m) = τ 144 (5 + m) := fun m hm => hst _ (by omega) (by omega)
              have hnn : (n + 1).toNat = n.toNat + 1 := by omega
              have h0 := hst 0 (by decide) (by omega)
              have h1 := hst 1 (by decide) (by omega)
              have h2 := hst 2 (by decide) (by omega)
              have h3 := hst 3 (by decide) (by omega)
              have hb := y_ch_b (y_tx τ (τ 138 8) - 97)
              refine x_G_lo (lo' := [(0, x_R 138), (1, x_I p), (2, x_I q), (3, x_I f), (4, x_I g), (5, x_I (o + (y_ch (y_tx τ (τ 138 8) - 97) - 1)))]) ⟨rfl, rfl, rfl, rfl, rfl, rfl, trivial⟩ ?_
              refine ih _ (by omega) (n + 1) (o + (y_ch (y_tx τ (τ 138 8) - 97) - 1)) S31 (by omega) (by omega) rfl (y_sm_tr (y_sm_tr (y_sm_tr hsm (y_sm_w (by decide) (by decide) f23)) (y_sm_e e27 (Or.inl (by decide)))) (y_sm_e e31 (Or.inl (by decide)))) (by omega) (by omega) (by omega) (by omega) (by omega) (by omega) (by omega) ?_ ?_ (by omega) (by omega) (by omega)
              · rw [hnn]; exact y_step ho hm hpi (by omega)
              · rw [hnn]; exact y_stepR ho (by omega) hm hpi (y_pc_l (by omega) (by omega)) hA
            · skip
              refine x_goto ?_
              refine x_blk (b := 17) (a_113 E) rfl ?_
              unfold b_113_17
              refine x_istore ?_
              refine x_iload rfl ?_
              refine x_if_ge (by decide) (by decide) (fun _ => ?_) (fun z => absurd (by decide) z)
              refine x_push 0 rfl ?_
              refine x_zret (by first | decide | omega) ?_
              exact k0 _ hsm (by omega) (by omega)
        · skip
          refine x_blk (b := 14) (a_113 E) rfl ?_
          unfold b_113_14
          refine x_aload rfl ?_
          refine x_push 48 rfl ?_
          refine x_push 50 rfl ?_
          refine x_cV (fun _ => rfl) rfl (by decide) (Nat.le_of_ble_eq_true rfl) ?_
          refine c_112 (by omega) (by omega) (by omega) (by omega) (by omega) (by omega) (by omega) (by omega) (fun S33 f33 k33_a k33_b k33_c k33_d => ?_) (fun n33 => ?_)
          · have l33 : S33 138 0 = _ := f33 138 0 (by decide) (by decide)
            refine x_fall ?_
            refine x_blk (b := 15) (a_113 E) rfl ?_
            unfold b_113_15
            refine x_istore ?_
            refine x_aload rfl ?_
            refine x_getR (r := 138) rfl (by decide) (by decide) rfl ?_
            refine x_push 4 rfl ?_
            refine x_iald (r := 144) (n := 12) (m := 4) rfl rfl (by decide) (fun _ => rfl) rfl (by omega) (by omega) ?_
            have q34_1 : S33 144 4 = τ 144 4 := y_sm_a f33 144 (by decide) (by decide) 4
            simp only [q34_1]
            intro g34a g34b
            refine x_push 7 rfl ?_
            refine x_icmp_ne (by omega) (by omega) (by omega) (by omega) (fun z35 => ?_) (fun z35 => ?_)
            · skip
              refine x_push (-1) rfl ?_
              refine x_goto ?_
              refine x_blk (b := 17) (a_113 E) rfl ?_
              unfold b_113_17
              refine x_istore ?_
              refine x_iload rfl ?_
              refine x_if_ge (by decide) (by decide) (fun _ => ?_) (fun z => absurd (by decide) z)
              refine x_push 0 rfl ?_
              refine x_zret (by first | decide | omega) ?_
              exact k0 _ (y_sm_tr hsm (y_sm_w (by decide) (by decide) f33)) (by omega) (by omega)
            · skip
              refine x_blk (b := 16) (a_113 E) rfl ?_
              unfold b_113_16
              refine x_iload rfl ?_
              refine x_if_ge (by omega) (by omega) (fun z => absurd z (by omega)) (fun _ => ?_)
              refine x_blk (b := 18) (a_113 E) rfl ?_
              unfold b_113_18
              refine x_aload rfl ?_
              refine x_push 120 rfl ?_
              refine x_iload rfl ?_
              refine x_push 2 rfl ?_
              refine x_icmp_le (by omega) (by omega) (by omega) (by omega) (fun z38 => ?_) (fun z38 => ?_)
              · skip
                refine x_blk (b := 19) (a_113 E) rfl ?_
                unfold b_113_19
                refine x_push 120 rfl ?_
                refine x_fall ?_
                refine x_blk (b := 20) (a_113 E) rfl ?_
                unfold b_113_20
                refine x_cV (fun _ => rfl) rfl (by decide) (Nat.le_of_ble_eq_true rfl) ?_
                refine c_112 (by omega) (by omega) (by omega) (by omega) (by omega) (by omega) (by omega) (by omega) (fun S39 f39 k39_a k39_b k39_c k39_d => ?_) (fun n39 => ?_)
                · have l39 : S39 138 0 = _ := f39 138 0 (by decide) (by decide)
                  refine x_fall ?_
                  refine x_blk (b := 17) (a_113 E) rfl ?_
                  unfold b_113_17
                  refine x_istore ?_
                  refine x_iload rfl ?_
                  refine x_if_ge (by omega) (by omega) (fun z => absurd z (by omega)) (fun _ => ?_)
                  refine x_blk (b := 21) (a_113 E) rfl ?_
                  unfold b_113_21
                  refine x_aload rfl ?_
                  refine x_getR (r := 138) rfl (by decide) (by decide) rfl ?_
                  refine x_push 5 rfl ?_
                  refine x_aload rfl ?_
                  refine x_getR (r := 138) rfl (by decide) (by decide) rfl ?_
                  refine x_push 4 rfl ?_
                  refine x_iald (r := 144) (n := 12) (m := 4) rfl rfl (by decide) (fun _ => rfl) rfl (by omega) (by omega) ?_
                  have q41_1 : S39 144 4 = S33 144 4 := y_sm_a f39 144 (by decide) (by decide) 4
                  have q41_2 : S33 144 4 = τ 144 4 := y_sm_a f33 144 (by decide) (by decide) 4
                  simp only [q41_1, q41_2]
                  intro g41a g41b
                  refine x_iadd ?_
                  refine x_iload rfl ?_
                  refine x_if_ge (by omega) (by omega) (fun z => absurd z (by omega)) (fun _ => ?_)
                  refine x_blk (b := 22) (a_113 E) rfl ?_
                  unfold b_113_22
                  refine x_push 10 rfl ?_
                  refine x_push 2 rfl ?_
                  refine x_iload rfl ?_
                  refine x_imul ?_
                  refine x_iadd ?_
                  refine x_iload rfl ?_
                  refine x_iadd ?_
                  refine x_fall ?_
                  refine x_blk (b := 23) (a_113 E) rfl ?_
                  unfold b_113_23
                  refine x_ast (r := 144) (n := 12)  rfl rfl (by decide) (fun _ => rfl) rfl (by omega) (by omega) (by omega) (by omega) (fun S43 e43 => ?_)
                  have w43 := x_up_at e43
                  refine x_iload rfl ?_
                  refine x_iload rfl ?_
                  refine x_if_ge (by omega) (by omega) (fun z => absurd z (by omega)) (fun _ => ?_)
                  refine x_blk (b := 24) (a_113 E) rfl ?_
                  unfold b_113_24
                  refine x_push (-1) rfl ?_
                  refine x_fall ?_
                  refine x_blk (b := 25) (a_113 E) rfl ?_
                  unfold b_113_25
                  have qx43 : S43 144 4 = S39 144 4 := x_up_ne e43 (fun z => absurd z.2 (by omega))
                  refine x_iadd ?_
                  refine x_istore ?_
                  refine x_aload rfl ?_
                  refine x_getR (r := 138) rfl (by decide) (by decide) rfl ?_
                  refine x_push 4 rfl ?_
                  refine x_dup2 rfl rfl ?_
                  refine x_iald (r := 144) (n := 12) (m := 4) rfl rfl (by decide) (fun _ => rfl) rfl (by omega) (by omega) ?_
                  intro g45a g45b
                  refine x_push 1 rfl ?_
                  refine x_iadd ?_
                  refine x_ast (r := 144) (n := 12) (m := 4) rfl rfl (by decide) (fun _ => rfl) rfl (by omega) (by omega) (by omega) (by omega) (fun S46 e46 => ?_)
                  have w46 := x_up_at e46
                  refine x_goto ?_
                  have q144 : ∀ m, S39 144 m = τ 144 m := fun m => (y_sm_a f39 144 (by decide) (by decide) m).trans (y_sm_a f33 144 (by decide) (by decide) m)
                  have q8 : S46 138 8 = S39 138 8 := (x_up_nr e46 (by decide)).trans (x_up_nr e43 (by decide))
                  have hst : ∀ m, m ≠ 4 → m ≠ (5 + τ 144 4).toNat → S46 144 m = τ 144 m := fun m h1 h2 => by rw [x_up_ne e46 (fun z => h1 z.2), x_up_ne e43 (fun z => h2 z.2), q144]
                  have hpi : S46 144 (5 + n.toNat) = _ := (x_up_ne e46 (fun z => absurd z.2 (by omega))).trans ((congrArg (S43 144) (show 5 + n.toNat = (5 + τ 144 4).toNat by omega)).trans w43)
                  have hm : ∀ m, m < n.toNat → S46 144 (5 + m) = τ 144 (5 + m) := fun m hm => hst _ (by omega) (by omega)
                  have hnn : (n + 1).toNat = n.toNat + 1 := by omega
                  have h0 := hst 0 (by decide) (by omega)
                  have h1 := hst 1 (by decide) (by omega)
                  have h2 := hst 2 (by decide) (by omega)
                  have h3 := hst 3 (by decide) (by omega)
                  refine x_G_lo (lo' := [(0, x_R 138), (1, x_I p), (2, x_I q), (3, x_I f), (4, x_I g), (5, x_I (o + -1))]) ⟨rfl, rfl, rfl, rfl, rfl, rfl, trivial⟩ ?_
                  refine ih _ (by omega) (n + 1) (o + -1) S46 (by omega) (by omega) rfl (y_sm_tr (y_sm_tr (y_sm_tr (y_sm_tr hsm (y_sm_w (by decide) (by decide) f33)) (y_sm_w (by decide) (by decide) f39)) (y_sm_e e43 (Or.inl (by decide)))) (y_sm_e e46 (Or.inl (by decide)))) (by omega) (by omega) (by omega) (by omega) (by omega) (by omega) (by omega) ?_ ?_ (by omega) (by omega) (by omega)
                  · rw [hnn]; exact y_stepC ho hm hpi (by omega)
                  · rw [hnn]; exact y_stepR ho (by omega) hm hpi (y_pc_c (by omega) (by omega) (by omega) (by omega) (by omega) (by omega)) hA
                · skip
                  refine x_fall ?_
                  refine x_blk (b := 17) (a_113 E) rfl ?_
                  unfold b_113_17
                  refine x_istore ?_
                  refine x_iload rfl ?_
                  refine x_if_ge (by decide) (by decide) (fun _ => ?_) (fun z => absurd (by decide) z)
                  refine x_push 0 rfl ?_
                  refine x_zret (by first | decide | omega) ?_
                  exact k0 _ (y_sm_tr hsm (y_sm_w (by decide) (by decide) f33)) (by omega) (by omega)
              · skip
                refine x_push 121 rfl ?_
                refine x_goto ?_
                refine x_blk (b := 20) (a_113 E) rfl ?_
                unfold b_113_20
                refine x_cV (fun _ => rfl) rfl (by decide) (Nat.le_of_ble_eq_true rfl) ?_
                refine c_112 (by omega) (by omega) (by omega) (by omega) (by omega) (by omega) (by omega) (by omega) (fun S48 f48 k48_a k48_b k48_c k48_d => ?_) (fun n48 => ?_)
                · have l48 : S48 138 0 = _ := f48 138 0 (by decide) (by decide)
                  refine x_fall ?_
                  refine x_blk (b := 17) (a_113 E) rfl ?_
                  unfold b_113_17
                  refine x_istore ?_
                  refine x_iload rfl ?_
                  refine x_if_ge (by omega) (by omega) (fun z => absurd z (by omega)) (fun _ => ?_)
                  refine x_blk (b := 21) (a_113 E) rfl ?_
                  unfold b_113_21
                  refine x_aload rfl ?_
                  refine x_getR (r := 138) rfl (by decide) (by decide) rfl ?_
                  refine x_push 5 rfl ?_
                  refine x_aload rfl ?_
                  refine x_getR (r := 138) rfl (by decide) (by decide) rfl ?_
                  refine x_push 4 rfl ?_
                  refine x_iald (r := 144) (n := 12) (m := 4) rfl rfl (by decide) (fun _ => rfl) rfl (by omega) (by omega) ?_
                  have q50_1 : S48 144 4 = S33 144 4 := y_sm_a f48 144 (by decide) (by decide) 4
                  have q50_2 : S33 144 4 = τ 144 4 := y_sm_a f33 144 (by decide) (by decide) 4
                  simp only [q50_1, q50_2]
                  intro g50a g50b
                  refine x_iadd ?_
                  refine x_iload rfl ?_
                  refine x_if_ge (by omega) (by omega) (fun z => absurd z (by omega)) (fun _ => ?_)
                  refine x_blk (b := 22) (a_113 E) rfl ?_
                  unfold b_113_22
                  refine x_push 10 rfl ?_
                  refine x_push 2 rfl ?_
                  refine x_iload rfl ?_
                  refine x_imul ?_
                  refine x_iadd ?_
                  refine x_iload rfl ?_
                  refine x_iadd ?_
                  refine x_fall ?_
                  refine x_blk (b := 23) (a_113 E) rfl ?_
                  unfold b_113_23
                  refine x_ast (r := 144) (n := 12)  rfl rfl (by decide) (fun _ => rfl) rfl (by omega) (by omega) (by omega) (by omega) (fun S52 e52 => ?_)
                  have w52 := x_up_at e52
                  refine x_iload rfl ?_
                  refine x_iload rfl ?_
                  refine x_if_ge (by omega) (by omega) (fun z => absurd z (by omega)) (fun _ => ?_)
                  refine x_blk (b := 24) (a_113 E) rfl ?_
                  unfold b_113_24
                  refine x_push (-1) rfl ?_
                  refine x_fall ?_
                  refine x_blk (b := 25) (a_113 E) rfl ?_
                  unfold b_113_25
                  have qx52 : S52 144 4 = S48 144 4 := x_up_ne e52 (fun z => absurd z.2 (by omega))
                  refine x_iadd ?_
                  refine x_istore ?_
                  refine x_aload rfl ?_
                  refine x_getR (r := 138) rfl (by decide) (by decide) rfl ?_
                  refine x_push 4 rfl ?_
                  refine x_dup2 rfl rfl ?_
                  refine x_iald (r := 144) (n := 12) (m := 4) rfl rfl (by decide) (fun _ => rfl) rfl (by omega) (by omega) ?_
                  intro g54a g54b
                  refine x_push 1 rfl ?_
                  refine x_iadd ?_
                  refine x_ast (r := 144) (n := 12) (m := 4) rfl rfl (by decide) (fun _ => rfl) rfl (by omega) (by omega) (by omega) (by omega) (fun S55 e55 => ?_)
                  have w55 := x_up_at e55
                  refine x_goto ?_
                  have q144 : ∀ m, S48 144 m = τ 144 m := fun m => (y_sm_a f48 144 (by decide) (by decide) m).trans (y_sm_a f33 144 (by decide) (by decide) m)
                  have q8 : S55 138 8 = S48 138 8 := (x_up_nr e55 (by decide)).trans (x_up_nr e52 (by decide))
                  have hst : ∀ m, m ≠ 4 → m ≠ (5 + τ 144 4).toNat → S55 144 m = τ 144 m := fun m h1 h2 => by rw [x_up_ne e55 (fun z => h1 z.2), x_up_ne e52 (fun z => h2 z.2), q144]
                  have hpi : S55 144 (5 + n.toNat) = _ := (x_up_ne e55 (fun z => absurd z.2 (by omega))).trans ((congrArg (S52 144) (show 5 + n.toNat = (5 + τ 144 4).toNat by omega)).trans w52)
                  have hm : ∀ m, m < n.toNat → S55 144 (5 + m) = τ 144 (5 + m) := fun m hm => hst _ (by omega) (by omega)
                  have hnn : (n + 1).toNat = n.toNat + 1 := by omega
                  have h0 := hst 0 (by decide) (by omega)
                  have h1 := hst 1 (by decide) (by omega)
                  have h2 := hst 2 (by decide) (by omega)
                  have h3 := hst 3 (by decide) (by omega)
                  refine x_G_lo (lo' := [(0, x_R 138), (1, x_I p), (2, x_I q), (3, x_I f), (4, x_I g), (5, x_I (o + -1))]) ⟨rfl, rfl, rfl, rfl, rfl, rfl, trivial⟩ ?_
                  refine ih _ (by omega) (n + 1) (o + -1) S55 (by omega) (by omega) rfl (y_sm_tr (y_sm_tr (y_sm_tr (y_sm_tr hsm (y_sm_w (by decide) (by decide) f33)) (y_sm_w (by decide) (by decide) f48)) (y_sm_e e52 (Or.inl (by decide)))) (y_sm_e e55 (Or.inl (by decide)))) (by omega) (by omega) (by omega) (by omega) (by omega) (by omega) (by omega) ?_ ?_ (by omega) (by omega) (by omega)
                  · rw [hnn]; exact y_stepC ho hm hpi (by omega)
                  · rw [hnn]; exact y_stepR ho (by omega) hm hpi (y_pc_c (by omega) (by omega) (by omega) (by omega) (by omega) (by omega)) hA
                · skip
                  refine x_fall ?_
                  refine x_blk (b := 17) (a_113 E) rfl ?_
                  unfold b_113_17
                  refine x_istore ?_
                  refine x_iload rfl ?_
                  refine x_if_ge (by decide) (by decide) (fun _ => ?_) (fun z => absurd (by decide) z)
                  refine x_push 0 rfl ?_
                  refine x_zret (by first | decide | omega) ?_
                  exact k0 _ (y_sm_tr hsm (y_sm_w (by decide) (by decide) f33)) (by omega) (by omega)
          · skip
            refine x_fall ?_
            refine x_blk (b := 15) (a_113 E) rfl ?_
            unfold b_113_15
            refine x_istore ?_
            refine x_aload rfl ?_
            refine x_getR (r := 138) rfl (by decide) (by decide) rfl ?_
            refine x_push 4 rfl ?_
            refine x_iald (r := 144) (n := 12) (m := 4) rfl rfl (by decide) (fun _ => rfl) rfl (by omega) (by omega) ?_
            intro g57a g57b
            refine x_push 7 rfl ?_
            refine x_icmp_ne (by omega) (by omega) (by omega) (by omega) (fun z58 => ?_) (fun z58 => ?_)
            · skip
              refine x_push (-1) rfl ?_
              refine x_goto ?_
              refine x_blk (b := 17) (a_113 E) rfl ?_
              unfold b_113_17
              refine x_istore ?_
              refine x_iload rfl ?_
              refine x_if_ge (by decide) (by decide) (fun _ => ?_) (fun z => absurd (by decide) z)
              refine x_push 0 rfl ?_
              refine x_zret (by first | decide | omega) ?_
              exact k0 _ hsm (by omega) (by omega)
            · skip
              refine x_blk (b := 16) (a_113 E) rfl ?_
              unfold b_113_16
              refine x_iload rfl ?_
              refine x_if_ge (by decide) (by decide) (fun _ => ?_) (fun z => absurd (by decide) z)
              refine x_aload rfl ?_
              refine x_push 97 rfl ?_
              refine x_push 101 rfl ?_
              refine x_cV (fun _ => rfl) rfl (by decide) (Nat.le_of_ble_eq_true rfl) ?_
              refine c_112 (by omega) (by omega) (by omega) (by omega) (by omega) (by omega) (by omega) (by omega) (fun S61 f61 k61_a k61_b k61_c k61_d => ?_) (fun n61 => ?_)
              · have l61 : S61 138 0 = _ := f61 138 0 (by decide) (by decide)
                refine x_goto ?_
                refine x_blk (b := 17) (a_113 E) rfl ?_
                unfold b_113_17
                refine x_istore ?_
                refine x_iload rfl ?_
                refine x_if_ge (by omega) (by omega) (fun z => absurd z (by omega)) (fun _ => ?_)
                refine x_blk (b := 21) (a_113 E) rfl ?_
                unfold b_113_21
                refine x_aload rfl ?_
                refine x_getR (r := 138) rfl (by decide) (by decide) rfl ?_
                refine x_push 5 rfl ?_
                refine x_aload rfl ?_
                refine x_getR (r := 138) rfl (by decide) (by decide) rfl ?_
                refine x_push 4 rfl ?_
                refine x_iald (r := 144) (n := 12) (m := 4) rfl rfl (by decide) (fun _ => rfl) rfl (by omega) (by omega) ?_
                have q63_1 : S61 144 4 = τ 144 4 := y_sm_a f61 144 (by decide) (by decide) 4
                simp only [q63_1]
                intro g63a g63b
                refine x_iadd ?_
                refine x_iload rfl ?_
                refine x_if_ge (by decide) (by decide) (fun _ => ?_) (fun z => absurd (by decide) z)
                refine x_iload rfl ?_
                refine x_goto ?_
                refine x_blk (b := 23) (a_113 E) rfl ?_
                unfold b_113_23
                refine x_ast (r := 144) (n := 12)  rfl rfl (by decide) (fun _ => rfl) rfl (by omega) (by omega) (by omega) (by omega) (fun S65 e65 => ?_)
                have w65 := x_up_at e65
                refine x_iload rfl ?_
                refine x_iload rfl ?_
                refine x_if_ge (by decide) (by decide) (fun _ => ?_) (fun z => absurd (by decide) z)
                refine x_iload rfl ?_
                refine x_cS (fun _ => rfl) (Nat.le_of_ble_eq_true rfl) ?_
                refine c_0 (by omega) (by omega) ?_
                refine x_push 1 rfl ?_
                refine x_isub ?_
                refine x_goto ?_
                refine x_blk (b := 25) (a_113 E) rfl ?_
                unfold b_113_25
                have qx65 : S65 144 4 = S61 144 4 := x_up_ne e65 (fun z => absurd z.2 (by omega))
                refine x_iadd ?_
                refine x_istore ?_
                refine x_aload rfl ?_
                refine x_getR (r := 138) rfl (by decide) (by decide) rfl ?_
                refine x_push 4 rfl ?_
                refine x_dup2 rfl rfl ?_
                refine x_iald (r := 144) (n := 12) (m := 4) rfl rfl (by decide) (fun _ => rfl) rfl (by omega) (by omega) ?_
                intro g68a g68b
                refine x_push 1 rfl ?_
                refine x_iadd ?_
                refine x_ast (r := 144) (n := 12) (m := 4) rfl rfl (by decide) (fun _ => rfl) rfl (by omega) (by omega) (by omega) (by omega) (fun S69 e69 => ?_)
                have w69 := x_up_at e69
                refine x_goto ?_
                have q144 : ∀ m, S61 144 m = τ 144 m := fun m => (y_sm_a f61 144 (by decide) (by decide) m)
                have q8 : S69 138 8 = S61 138 8 := (x_up_nr e69 (by decide)).trans (x_up_nr e65 (by decide))
                have hst : ∀ m, m ≠ 4 → m ≠ (5 + τ 144 4).toNat → S69 144 m = τ 144 m := fun m h1 h2 => by rw [x_up_ne e69 (fun z => h1 z.2), x_up_ne e65 (fun z => h2 z.2), q144]
                have hpi : S69 144 (5 + n.toNat) = _ := (x_up_ne e69 (fun z => absurd z.2 (by omega))).trans ((congrArg (S65 144) (show 5 + n.toNat = (5 + τ 144 4).toNat by omega)).trans w65)
                have hm : ∀ m, m < n.toNat → S69 144 (5 + m) = τ 144 (5 + m) := fun m hm => hst _ (by omega) (by omega)
                have hnn : (n + 1).toNat = n.toNat + 1 := by omega
                have h0 := hst 0 (by decide) (by omega)
                have h1 := hst 1 (by decide) (by omega)
                have h2 := hst 2 (by decide) (by omega)
                have h3 := hst 3 (by decide) (by omega)
                have hb := y_ch_b (y_tx τ (τ 138 8) - 97)
                refine x_G_lo (lo' := [(0, x_R 138), (1, x_I p), (2, x_I q), (3, x_I f), (4, x_I g), (5, x_I (o + (y_ch (y_tx τ (τ 138 8) - 97) - 1)))]) ⟨rfl, rfl, rfl, rfl, rfl, rfl, trivial⟩ ?_
                refine ih _ (by omega) (n + 1) (o + (y_ch (y_tx τ (τ 138 8) - 97) - 1)) S69 (by omega) (by omega) rfl (y_sm_tr (y_sm_tr (y_sm_tr hsm (y_sm_w (by decide) (by decide) f61)) (y_sm_e e65 (Or.inl (by decide)))) (y_sm_e e69 (Or.inl (by decide)))) (by omega) (by omega) (by omega) (by omega) (by omega) (by omega) (by omega) ?_ ?_ (by omega) (by omega) (by omega)
                · rw [hnn]; exact y_step ho hm hpi (by omega)
                · rw [hnn]; exact y_stepR ho (by omega) hm hpi (y_pc_l (by omega) (by omega)) hA
              · skip
                refine x_goto ?_
                refine x_blk (b := 17) (a_113 E) rfl ?_
                unfold b_113_17
                refine x_istore ?_
                refine x_iload rfl ?_
                refine x_if_ge (by decide) (by decide) (fun _ => ?_) (fun z => absurd (by decide) z)
                refine x_push 0 rfl ?_
                refine x_zret (by first | decide | omega) ?_
                exact k0 _ hsm (by omega) (by omega)
set_option maxHeartbeats 8000000 in
theorem c_113 {E : q_E} {σ : x_S} {Q : Option q_V → x_S → Prop} (ln1 : 0 ≤ σ 138 0) (ln2 : σ 138 0 ≤ 200) (s1 : 0 ≤ σ 138 8) (s2 : σ 138 8 ≤ σ 138 0) (k1 : ∀ τ, y_sm [144] [8] σ τ → σ 138 8 ≤ τ 138 8 → τ 138 8 ≤ σ 138 0 → y_rl (τ 144) → Q (some (x_I 1)) τ) (k0 : ∀ τ, y_sm [144] [8] σ τ → σ 138 8 ≤ τ 138 8 → τ 138 8 ≤ σ 138 0 → Q (some (x_I 0)) τ) : x_P E 113 [x_R 138] σ Q := by
  refine x_Mt e_113 (h_113 E) (Nat.le_of_ble_eq_true rfl) t_113 rfl ?_
  refine x_blk (b := 0) (a_113 E) rfl ?_
  unfold b_113_0
  refine x_aload rfl ?_
  refine x_push 48 rfl ?_
  refine x_push 49 rfl ?_
  refine x_cV (fun _ => rfl) rfl (by decide) (Nat.le_of_ble_eq_true rfl) ?_
  refine c_112 (by omega) (by omega) (by omega) (by omega) (by omega) (by omega) (by omega) (by omega) (fun S1 f1 k1_a k1_b k1_c k1_d => ?_) (fun n1 => ?_)
  · have l1 : S1 138 0 = _ := f1 138 0 (by decide) (by decide)
    refine x_istore ?_
    refine x_iload rfl ?_
    refine x_if_ge (by omega) (by omega) (fun z => absurd z (by omega)) (fun _ => ?_)
    refine x_blk (b := 1) (a_113 E) rfl ?_
    unfold b_113_1
    refine x_aload rfl ?_
    refine x_push 48 rfl ?_
    refine x_push 50 rfl ?_
    refine x_cV (fun _ => rfl) rfl (by decide) (Nat.le_of_ble_eq_true rfl) ?_
    refine c_112 (by omega) (by omega) (by omega) (by omega) (by omega) (by omega) (by omega) (by omega) (fun S3 f3 k3_a k3_b k3_c k3_d => ?_) (fun n3 => ?_)
    · have l3 : S3 138 0 = _ := f3 138 0 (by decide) (by decide)
      refine x_fall ?_
      refine x_blk (b := 2) (a_113 E) rfl ?_
      unfold b_113_2
      refine x_istore ?_
      refine x_iload rfl ?_
      refine x_if_ge (by omega) (by omega) (fun z => absurd z (by omega)) (fun _ => ?_)
      refine x_blk (b := 3) (a_113 E) rfl ?_
      unfold b_113_3
      refine x_aload rfl ?_
      refine x_push 97 rfl ?_
      refine x_push 101 rfl ?_
      refine x_cV (fun _ => rfl) rfl (by decide) (Nat.le_of_ble_eq_true rfl) ?_
      refine c_112 (by omega) (by omega) (by omega) (by omega) (by omega) (by omega) (by omega) (by omega) (fun S5 f5 k5_a k5_b k5_c k5_d => ?_) (fun n5 => ?_)
      · have l5 : S5 138 0 = _ := f5 138 0 (by decide) (by decide)
        refine x_fall ?_
        refine x_blk (b := 4) (a_113 E) rfl ?_
        unfold b_113_4
        refine x_istore ?_
        refine x_iload rfl ?_
        refine x_if_ge (by omega) (by omega) (fun z => absurd z (by omega)) (fun _ => ?_)
        refine x_blk (b := 5) (a_113 E) rfl ?_
        unfold b_113_5
        refine x_aload rfl ?_
        refine x_aload rfl ?_
        refine x_getI (r := 138) rfl (by decide) (by decide) (by decide) rfl ?_
        intro g7a g7b
        refine x_cV (fun _ => rfl) rfl (by decide) (Nat.le_of_ble_eq_true rfl) ?_
        refine c_111 (by omega) (by omega) (by omega) (by omega) (fun t8a t8b => ?_)
        refine x_push 42 rfl ?_
        refine x_icmp_ne (by omega) (by omega) (by omega) (by omega) (fun z9 => ?_) (fun z9 => ?_)
        · skip
          have hz := y_tx_p (σ := S5) (k := S5 138 8) (by omega)
          refine x_push 2 rfl ?_
          refine x_goto ?_
          refine x_blk (b := 7) (a_113 E) rfl ?_
          unfold b_113_7
          refine x_istore ?_
          refine x_aload rfl ?_
          refine x_dup rfl ?_
          refine x_getI (r := 138) rfl (by decide) (by decide) (by decide) rfl ?_
          intro g10a g10b
          refine x_iload rfl ?_
          refine x_push 2 rfl ?_
          refine x_icmp_ne (by decide) (by decide) (by decide) (by decide) (fun _ => ?_) (fun z => absurd (by decide) z)
          refine x_push 1 rfl ?_
          refine x_goto ?_
          refine x_blk (b := 9) (a_113 E) rfl ?_
          unfold b_113_9
          refine x_iadd ?_
          refine x_putI (r := 138) rfl (by decide) (by decide) (by decide) rfl ⟨by decide, rfl⟩ (by omega) (by omega) (fun S12 e12 => ?_)
          have w12 := x_up_at e12
          have ly12 : S12 138 0 = S5 138 0 := x_up_ne e12 (by decide)
          refine x_iload rfl ?_
          refine x_if_lt (by decide) (by decide) (fun z => absurd z (by decide)) (fun _ => ?_)
          refine x_aload rfl ?_
          refine x_push 61 rfl ?_
          refine x_push 61 rfl ?_
          refine x_cV (fun _ => rfl) rfl (by decide) (Nat.le_of_ble_eq_true rfl) ?_
          refine c_112 (by omega) (by omega) (by omega) (by omega) (by omega) (by omega) (by omega) (by omega) (fun S14 f14 k14_a k14_b k14_c k14_d => ?_) (fun n14 => ?_)
          · have l14 : S14 138 0 = _ := f14 138 0 (by decide) (by decide)
            refine x_if_ge (by omega) (by omega) (fun z => absurd z (by omega)) (fun _ => ?_)
            refine x_blk (b := 11) (a_113 E) rfl ?_
            unfold b_113_11
            refine x_aload rfl ?_
            refine x_getR (r := 138) rfl (by decide) (by decide) rfl ?_
            refine x_push 0 rfl ?_
            refine x_iload rfl ?_
            refine x_ast (r := 144) (n := 12) (m := 0) rfl rfl (by decide) (fun _ => rfl) rfl (by omega) (by omega) (by omega) (by omega) (fun S16 e16 => ?_)
            have w16 := x_up_at e16
            refine x_aload rfl ?_
            refine x_getR (r := 138) rfl (by decide) (by decide) rfl ?_
            refine x_push 1 rfl ?_
            refine x_iload rfl ?_
            refine x_ast (r := 144) (n := 12) (m := 1) rfl rfl (by decide) (fun _ => rfl) rfl (by omega) (by omega) (by omega) (by omega) (fun S17 e17 => ?_)
            have w17 := x_up_at e17
            refine x_aload rfl ?_
            refine x_getR (r := 138) rfl (by decide) (by decide) rfl ?_
            refine x_push 2 rfl ?_
            refine x_iload rfl ?_
            refine x_ast (r := 144) (n := 12) (m := 2) rfl rfl (by decide) (fun _ => rfl) rfl (by omega) (by omega) (by omega) (by omega) (fun S18 e18 => ?_)
            have w18 := x_up_at e18
            refine x_aload rfl ?_
            refine x_getR (r := 138) rfl (by decide) (by decide) rfl ?_
            refine x_push 3 rfl ?_
            refine x_iload rfl ?_
            refine x_ast (r := 144) (n := 12) (m := 3) rfl rfl (by decide) (fun _ => rfl) rfl (by omega) (by omega) (by omega) (by omega) (fun S19 e19 => ?_)
            have w19 := x_up_at e19
            refine x_aload rfl ?_
            refine x_getR (r := 138) rfl (by decide) (by decide) rfl ?_
            refine x_push 4 rfl ?_
            refine x_push 0 rfl ?_
            refine x_ast (r := 144) (n := 12) (m := 4) rfl rfl (by decide) (fun _ => rfl) rfl (by omega) (by omega) (by omega) (by omega) (fun S20 e20 => ?_)
            have w20 := x_up_at e20
            refine x_push 1 rfl ?_
            refine x_istore ?_
            refine x_fall ?_
            have q8 : S20 138 8 = S14 138 8 := (x_up_nr e20 (by decide)).trans ((x_up_nr e19 (by decide)).trans ((x_up_nr e18 (by decide)).trans ((x_up_nr e17 (by decide)).trans (x_up_nr e16 (by decide)))))
            refine x_G_lo (lo' := [(0, x_R 138), (1, x_I _), (2, x_I _), (3, x_I _), (4, x_I _), (5, x_I 1)]) ⟨rfl, rfl, rfl, rfl, rfl, rfl, trivial⟩ ?_
            exact c_113_a ln1 ln2 s1 s2 k1 k0 (by omega) (by omega) (by omega) (by omega) (by omega) (by omega) (by omega) (by omega) _ 0 1 S20 (by omega) (by omega) rfl (y_sm_tr (y_sm_tr (y_sm_tr (y_sm_tr (y_sm_tr (y_sm_tr (y_sm_tr (y_sm_tr (y_sm_tr (y_sm_tr y_sm_rf (y_sm_w (by decide) (by decide) f1)) (y_sm_w (by decide) (by decide) f3)) (y_sm_w (by decide) (by decide) f5)) (y_sm_e e12 (Or.inr ⟨rfl, by decide⟩))) (y_sm_w (by decide) (by decide) f14)) (y_sm_e e16 (Or.inl (by decide)))) (y_sm_e e17 (Or.inl (by decide)))) (y_sm_e e18 (Or.inl (by decide)))) (y_sm_e e19 (Or.inl (by decide)))) (y_sm_e e20 (Or.inl (by decide)))) (by omega) (by omega) ((x_up_ne e20 (by decide)).trans ((x_up_ne e19 (by decide)).trans ((x_up_ne e18 (by decide)).trans ((x_up_ne e17 (by decide)).trans w16)))) ((x_up_ne e20 (by decide)).trans ((x_up_ne e19 (by decide)).trans ((x_up_ne e18 (by decide)).trans w17))) ((x_up_ne e20 (by decide)).trans ((x_up_ne e19 (by decide)).trans w18)) ((x_up_ne e20 (by decide)).trans w19) w20 rfl (fun m hm => absurd hm (by omega)) (by omega) (by omega) (by omega)
          · skip
            refine x_if_ge (by decide) (by decide) (fun _ => ?_) (fun z => absurd (by decide) z)
            refine x_fall ?_
            refine x_blk (b := 10) (a_113 E) rfl ?_
            unfold b_113_10
            refine x_push 0 rfl ?_
            refine x_zret (by first | decide | omega) ?_
            exact k0 _ (y_sm_tr (y_sm_tr (y_sm_tr (y_sm_tr y_sm_rf (y_sm_w (by decide) (by decide) f1)) (y_sm_w (by decide) (by decide) f3)) (y_sm_w (by decide) (by decide) f5)) (y_sm_e e12 (Or.inr ⟨rfl, by decide⟩))) (by omega) (by omega)
        · skip
          refine x_blk (b := 6) (a_113 E) rfl ?_
          unfold b_113_6
          refine x_aload rfl ?_
          refine x_push 48 rfl ?_
          refine x_push 49 rfl ?_
          refine x_cV (fun _ => rfl) rfl (by decide) (Nat.le_of_ble_eq_true rfl) ?_
          refine c_112 (by omega) (by omega) (by omega) (by omega) (by omega) (by omega) (by omega) (by omega) (fun S22 f22 k22_a k22_b k22_c k22_d => ?_) (fun n22 => ?_)
          · have l22 : S22 138 0 = _ := f22 138 0 (by decide) (by decide)
            refine x_fall ?_
            refine x_blk (b := 7) (a_113 E) rfl ?_
            unfold b_113_7
            refine x_istore ?_
            refine x_aload rfl ?_
            refine x_dup rfl ?_
            refine x_getI (r := 138) rfl (by decide) (by decide) (by decide) rfl ?_
            intro g23a g23b
            refine x_iload rfl ?_
            refine x_push 2 rfl ?_
            refine x_icmp_ne (by omega) (by omega) (by omega) (by omega) (fun z => absurd z (by omega)) (fun z24 => ?_)
            refine x_blk (b := 8) (a_113 E) rfl ?_
            unfold b_113_8
            refine x_push 0 rfl ?_
            refine x_fall ?_
            refine x_blk (b := 9) (a_113 E) rfl ?_
            unfold b_113_9
            refine x_iadd ?_
            refine x_putI (r := 138) rfl (by decide) (by decide) (by decide) rfl ⟨by decide, rfl⟩ (by omega) (by omega) (fun S25 e25 => ?_)
            have w25 := x_up_at e25
            have ly25 : S25 138 0 = S22 138 0 := x_up_ne e25 (by decide)
            refine x_iload rfl ?_
            refine x_if_lt (by omega) (by omega) (fun z => absurd z (by omega)) (fun _ => ?_)
            refine x_aload rfl ?_
            refine x_push 61 rfl ?_
            refine x_push 61 rfl ?_
            refine x_cV (fun _ => rfl) rfl (by decide) (Nat.le_of_ble_eq_true rfl) ?_
            refine c_112 (by omega) (by omega) (by omega) (by omega) (by omega) (by omega) (by omega) (by omega) (fun S27 f27 k27_a k27_b k27_c k27_d => ?_) (fun n27 => ?_)
            · have l27 : S27 138 0 = _ := f27 138 0 (by decide) (by decide)
              refine x_if_ge (by omega) (by omega) (fun z => absurd z (by omega)) (fun _ => ?_)
              refine x_blk (b := 11) (a_113 E) rfl ?_
              unfold b_113_11
              refine x_aload rfl ?_
              refine x_getR (r := 138) rfl (by decide) (by decide) rfl ?_
              refine x_push 0 rfl ?_
              refine x_iload rfl ?_
              refine x_ast (r := 144) (n := 12) (m := 0) rfl rfl (by decide) (fun _ => rfl) rfl (by omega) (by omega) (by omega) (by omega) (fun S29 e29 => ?_)
              have w29 := x_up_at e29
              refine x_aload rfl ?_
              refine x_getR (r := 138) rfl (by decide) (by decide) rfl ?_
              refine x_push 1 rfl ?_
              refine x_iload rfl ?_
              refine x_ast (r := 144) (n := 12) (m := 1) rfl rfl (by decide) (fun _ => rfl) rfl (by omega) (by omega) (by omega) (by omega) (fun S30 e30 => ?_)
              have w30 := x_up_at e30
              refine x_aload rfl ?_
              refine x_getR (r := 138) rfl (by decide) (by decide) rfl ?_
              refine x_push 2 rfl ?_
              refine x_iload rfl ?_
              refine x_ast (r := 144) (n := 12) (m := 2) rfl rfl (by decide) (fun _ => rfl) rfl (by omega) (by omega) (by omega) (by omega) (fun S31 e31 => ?_)
              have w31 := x_up_at e31
              refine x_aload rfl ?_
              refine x_getR (r := 138) rfl (by decide) (by decide) rfl ?_
              refine x_push 3 rfl ?_
              refine x_iload rfl ?_
              refine x_ast (r := 144) (n := 12) (m := 3) rfl rfl (by decide) (fun _ => rfl) rfl (by omega) (by omega) (by omega) (by omega) (fun S32 e32 => ?_)
              have w32 := x_up_at e32
              refine x_aload rfl ?_
              refine x_getR (r := 138) rfl (by decide) (by decide) rfl ?_
              refine x_push 4 rfl ?_
              refine x_push 0 rfl ?_
              refine x_ast (r := 144) (n := 12) (m := 4) rfl rfl (by decide) (fun _ => rfl) rfl (by omega) (by omega) (by omega) (by omega) (fun S33 e33 => ?_)
              have w33 := x_up_at e33
              refine x_push 1 rfl ?_
              refine x_istore ?_
              refine x_fall ?_
              have q8 : S33 138 8 = S27 138 8 := (x_up_nr e33 (by decide)).trans ((x_up_nr e32 (by decide)).trans ((x_up_nr e31 (by decide)).trans ((x_up_nr e30 (by decide)).trans (x_up_nr e29 (by decide)))))
              refine x_G_lo (lo' := [(0, x_R 138), (1, x_I _), (2, x_I _), (3, x_I _), (4, x_I _), (5, x_I 1)]) ⟨rfl, rfl, rfl, rfl, rfl, rfl, trivial⟩ ?_
              exact c_113_a ln1 ln2 s1 s2 k1 k0 (by omega) (by omega) (by omega) (by omega) (by omega) (by omega) (by omega) (by omega) _ 0 1 S33 (by omega) (by omega) rfl (y_sm_tr (y_sm_tr (y_sm_tr (y_sm_tr (y_sm_tr (y_sm_tr (y_sm_tr (y_sm_tr (y_sm_tr (y_sm_tr (y_sm_tr y_sm_rf (y_sm_w (by decide) (by decide) f1)) (y_sm_w (by decide) (by decide) f3)) (y_sm_w (by decide) (by decide) f5)) (y_sm_w (by decide) (by decide) f22)) (y_sm_e e25 (Or.inr ⟨rfl, by decide⟩))) (y_sm_w (by decide) (by decide) f27)) (y_sm_e e29 (Or.inl (by decide)))) (y_sm_e e30 (Or.inl (by decide)))) (y_sm_e e31 (Or.inl (by decide)))) (y_sm_e e32 (Or.inl (by decide)))) (y_sm_e e33 (Or.inl (by decide)))) (by omega) (by omega) ((x_up_ne e33 (by decide)).trans ((x_up_ne e32 (by decide)).trans ((x_up_ne e31 (by decide)).trans ((x_up_ne e30 (by decide)).trans w29)))) ((x_up_ne e33 (by decide)).trans ((x_up_ne e32 (by decide)).trans ((x_up_ne e31 (by decide)).trans w30))) ((x_up_ne e33 (by decide)).trans ((x_up_ne e32 (by decide)).trans w31)) ((x_up_ne e33 (by decide)).trans w32) w33 rfl (fun m hm => absurd hm (by omega)) (by omega) (by omega) (by omega)
            · skip
              refine x_if_ge (by decide) (by decide) (fun _ => ?_) (fun z => absurd (by decide) z)
              refine x_fall ?_
              refine x_blk (b := 10) (a_113 E) rfl ?_
              unfold b_113_10
              refine x_push 0 rfl ?_
              refine x_zret (by first | decide | omega) ?_
              exact k0 _ (y_sm_tr (y_sm_tr (y_sm_tr (y_sm_tr (y_sm_tr y_sm_rf (y_sm_w (by decide) (by decide) f1)) (y_sm_w (by decide) (by decide) f3)) (y_sm_w (by decide) (by decide) f5)) (y_sm_w (by decide) (by decide) f22)) (y_sm_e e25 (Or.inr ⟨rfl, by decide⟩))) (by omega) (by omega)
          · skip
            refine x_fall ?_
            refine x_blk (b := 7) (a_113 E) rfl ?_
            unfold b_113_7
            refine x_istore ?_
            refine x_aload rfl ?_
            refine x_dup rfl ?_
            refine x_getI (r := 138) rfl (by decide) (by decide) (by decide) rfl ?_
            intro g35a g35b
            refine x_iload rfl ?_
            refine x_push 2 rfl ?_
            refine x_icmp_ne (by decide) (by decide) (by decide) (by decide) (fun z => absurd z (by decide)) (fun _ => ?_)
            refine x_blk (b := 8) (a_113 E) rfl ?_
            unfold b_113_8
            refine x_push 0 rfl ?_
            refine x_fall ?_
            refine x_blk (b := 9) (a_113 E) rfl ?_
            unfold b_113_9
            refine x_iadd ?_
            refine x_putI (r := 138) rfl (by decide) (by decide) (by decide) rfl ⟨by decide, rfl⟩ (by omega) (by omega) (fun S37 e37 => ?_)
            have w37 := x_up_at e37
            have ly37 : S37 138 0 = S5 138 0 := x_up_ne e37 (by decide)
            refine x_iload rfl ?_
            refine x_if_lt (by decide) (by decide) (fun _ => ?_) (fun z => absurd (by decide) z)
            refine x_blk (b := 10) (a_113 E) rfl ?_
            unfold b_113_10
            refine x_push 0 rfl ?_
            refine x_zret (by first | decide | omega) ?_
            exact k0 _ (y_sm_tr (y_sm_tr (y_sm_tr (y_sm_tr y_sm_rf (y_sm_w (by decide) (by decide) f1)) (y_sm_w (by decide) (by decide) f3)) (y_sm_w (by decide) (by decide) f5)) (y_sm_e e37 (Or.inr ⟨rfl, by decide⟩))) (by omega) (by omega)
      · skip
        refine x_fall ?_
        refine x_blk (b := 4) (a_113 E) rfl ?_
        unfold b_113_4
        refine x_istore ?_
        refine x_iload rfl ?_
        refine x_if_ge (by decide) (by decide) (fun _ => ?_) (fun z => absurd (by decide) z)
        refine x_push 0 rfl ?_
        refine x_zret (by first | decide | omega) ?_
        exact k0 _ (y_sm_tr (y_sm_tr y_sm_rf (y_sm_w (by decide) (by decide) f1)) (y_sm_w (by decide) (by decide) f3)) (by omega) (by omega)
    · skip
      refine x_fall ?_
      refine x_blk (b := 2) (a_113 E) rfl ?_
      unfold b_113_2
      refine x_istore ?_
      refine x_iload rfl ?_
      refine x_if_ge (by decide) (by decide) (fun _ => ?_) (fun z => absurd (by decide) z)
      refine x_push (-1) rfl ?_
      refine x_goto ?_
      refine x_blk (b := 4) (a_113 E) rfl ?_
      unfold b_113_4
      refine x_istore ?_
      refine x_iload rfl ?_
      refine x_if_ge (by decide) (by decide) (fun _ => ?_) (fun z => absurd (by decide) z)
      refine x_push 0 rfl ?_
      refine x_zret (by first | decide | omega) ?_
      exact k0 _ (y_sm_tr y_sm_rf (y_sm_w (by decide) (by decide) f1)) (by omega) (by omega)
  · skip
    refine x_istore ?_
    refine x_iload rfl ?_
    refine x_if_ge (by decide) (by decide) (fun _ => ?_) (fun z => absurd (by decide) z)
    refine x_push (-1) rfl ?_
    refine x_goto ?_
    refine x_blk (b := 2) (a_113 E) rfl ?_
    unfold b_113_2
    refine x_istore ?_
    refine x_iload rfl ?_
    refine x_if_ge (by decide) (by decide) (fun _ => ?_) (fun z => absurd (by decide) z)
    refine x_push (-1) rfl ?_
    refine x_goto ?_
    refine x_blk (b := 4) (a_113 E) rfl ?_
    unfold b_113_4
    refine x_istore ?_
    refine x_iload rfl ?_
    refine x_if_ge (by decide) (by decide) (fun _ => ?_) (fun z => absurd (by decide) z)
    refine x_push 0 rfl ?_
    refine x_zret (by first | decide | omega) ?_
    exact k0 _ y_sm_rf (by omega) (by omega)

