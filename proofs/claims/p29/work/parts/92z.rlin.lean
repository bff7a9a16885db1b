theorem cx_212_a {E : q_E} {σ : x_S} {Q : Option q_V → x_S → Prop} {p : Int} (p1 : -2147483648 ≤ p) (p2 : p ≤ 2147483647) (hP : y_PI (σ 140)) (k : Q (some (x_I (y_ro (σ 140) p (σ 140 62).toNat))) σ) : ∀ (N : Nat) (n r : Int), 0 ≤ r → r ≤ σ 140 62 → (16 - r).toNat = N → n = y_ro (σ 140) p r.toNat → x_G E m_212 Q (t_212 4) [(0, x_R 138), (1, x_I p), (2, x_I n), (3, x_I r)] [] σ := by
  intro N
  induction N using Nat.strongRecOn with
  | ind N ih =>
    intro n r i1 i2 hN hv
    have ru := hP.2.2.2.1
    have nb := y_ro_b (A := σ 140) (p := p) r.toNat
    have e0 : σ 140 (63 + 12 * r + 0).toNat = σ 140 (63 + 12 * r.toNat) := congrArg _ (by omega)
    refine x_blk (b := 4) (a_212 E) rfl ?_
    unfold b_212_4
    refine x_iload rfl ?_
    refine x_aload rfl ?_
    refine x_getR (r := 138) rfl (by decide) (by decide) rfl ?_
    refine x_push 62 rfl ?_
    refine x_iald (r := 140) (n := 256) (m := 62) rfl rfl (by decide) (fun _ => rfl) rfl (by omega) (by omega) ?_
    intro g1a g1b
    refine x_icmp_ge (by omega) (by omega) (by omega) (by omega) (fun z2 => ?_) (fun z2 => ?_)
    · skip
      refine x_iload rfl ?_
      refine x_aload rfl ?_
      refine x_iload rfl ?_
      refine x_push 0 rfl ?_
      refine x_cV (fun _ => rfl) rfl (by decide) (Nat.le_of_ble_eq_true rfl) ?_
      refine c_3 (by omega) (by omega) (fun c3a c3b => ?_)
      refine x_iload rfl ?_
      refine x_icmp_ne (by omega) (by omega) (by omega) (by omega) (fun z4 => ?_) (fun z4 => ?_)
      · skip
        refine x_push 1 rfl ?_
        refine x_goto ?_
        refine x_blk (b := 3) (a_212 E) rfl ?_
        unfold b_212_3
        refine x_iadd ?_
        refine x_istore ?_
        refine x_iinc 1 rfl rfl ?_
        refine x_goto ?_
        refine x_G_lo (lo' := [(0, x_R 138), (1, x_I p), (2, x_I _), (3, x_I (r + 1))]) ⟨rfl, rfl, rfl, rfl, trivial⟩ ?_
        refine ih _ (by omega) _ (r + 1) (by omega) (by omega) rfl ?_
        rw [show (r + 1).toNat = r.toNat + 1 by omega, y_ro_s]
        by_cases c : σ 140 (63 + 12 * r.toNat) = p
        · rw [if_pos c]; omega
        · rw [if_neg c]; omega
      · skip
        refine x_blk (b := 2) (a_212 E) rfl ?_
        unfold b_212_2
        refine x_push 0 rfl ?_
        refine x_fall ?_
        refine x_blk (b := 3) (a_212 E) rfl ?_
        unfold b_212_3
        refine x_iadd ?_
        refine x_istore ?_
        refine x_iinc 1 rfl rfl ?_
        refine x_goto ?_
        refine x_G_lo (lo' := [(0, x_R 138), (1, x_I p), (2, x_I _), (3, x_I (r + 1))]) ⟨rfl, rfl, rfl, rfl, trivial⟩ ?_
        refine ih _ (by omega) _ (r + 1) (by omega) (by omega) rfl ?_
        rw [show (r + 1).toNat = r.toNat + 1 by omega, y_ro_s]
        by_cases c : σ 140 (63 + 12 * r.toNat) = p
        · rw [if_pos c]; omega
        · rw [if_neg c]; omega
    · skip
      refine x_blk (b := 1) (a_212 E) rfl ?_
      unfold b_212_1
      refine x_iload rfl ?_
      refine x_iret ?_
      refine x_fin (b := y_ro (σ 140) p (σ 140 62).toNat) ?_ k
      rw [hv]
      congr 1
      omega
theorem cx_212 {E : q_E} {σ : x_S} {Q : Option q_V → x_S → Prop} {p : Int} (p1 : -2147483648 ≤ p) (p2 : p ≤ 2147483647) (hP : y_PI (σ 140)) (k : Q (some (x_I (y_ro (σ 140) p (σ 140 62).toNat))) σ) : x_P E 212 [x_R 138, x_I p] σ Q := by
  refine x_Mt e_212 (h_212 E) (Nat.le_of_ble_eq_true rfl) t_212 rfl ?_
  refine x_blk (b := 0) (a_212 E) rfl ?_
  unfold b_212_0
  refine x_push 0 rfl ?_
  refine x_istore ?_
  refine x_push 0 rfl ?_
  refine x_istore ?_
  refine x_fall ?_
  have ru := hP.2.2.2.1
  refine x_G_lo (lo' := [(0, x_R 138), (1, x_I p), (2, x_I 0), (3, x_I 0)]) ⟨rfl, rfl, rfl, rfl, trivial⟩ ?_
  exact cx_212_a p1 p2 hP k _ 0 0 (by omega) (by omega) rfl rfl
theorem cx_211 {E : q_E} {σ : x_S} {Q : Option q_V → x_S → Prop} {a : Int} (a1 : -2147483648 ≤ a) (a2 : a ≤ 2147483647) (hP : y_PI (σ 140)) (k0 : a = 0 → Q (some (x_I (σ 140 62))) σ) (k1 : a = 1 → Q (some (x_I (y_ro (σ 140) 0 (σ 140 62).toNat))) σ) (k2 : a = 2 → Q (some (x_I (y_ro (σ 140) 1 (σ 140 62).toNat))) σ) (k3 : a = 3 → Q (some (x_I (σ 140 0))) σ) (k4 : a = 4 → Q (some (x_I (σ 140 1))) σ) (k5 : a = 5 → Q (some (x_I (σ 140 2 + σ 140 3 + σ 140 4))) σ) (k6 : a = 6 → Q (some (x_I (σ 138 5))) σ) (k7 : a = 7 → Q (some (x_I (σ 138 7))) σ) (k8 : a = 8 → Q (some (x_I (σ 138 0))) σ) (kB : ¬ (0 ≤ a ∧ a ≤ 8) → Q (some (x_I (-1))) σ) : x_P E 211 [x_R 138, x_I a] σ Q := by
  refine x_Mt e_211 (h_211 E) (Nat.le_of_ble_eq_true rfl) t_211 rfl ?_
  refine x_blk (b := 0) (a_211 E) rfl ?_
  unfold b_211_0
  refine x_iload rfl ?_
  refine x_tsw (0) rfl rfl (by omega) (by omega) (fun z1 => ?_) (fun i1 b1 hb1 z1 => ?_) (fun z1 => ?_)
  · skip
    refine x_blk (b := 10) (a_211 E) rfl ?_
    unfold b_211_10
    refine x_push (-1) rfl ?_
    refine x_iret ?_
    exact kB (by omega)
  · match i1, hb1 with
    | 0, hb1 =>
      cases hb1
      refine x_blk (b := 1) (a_211 E) rfl ?_
      unfold b_211_1
      refine x_aload rfl ?_
      refine x_getR (r := 138) rfl (by decide) (by decide) rfl ?_
      refine x_push 62 rfl ?_
      refine x_iald (r := 140) (n := 256) (m := 62) rfl rfl (by decide) (fun _ => rfl) rfl (by omega) (by omega) ?_
      intro g2a g2b
      refine x_iret ?_
      exact k0 (by omega)
    | 1, hb1 =>
      cases hb1
      refine x_blk (b := 2) (a_211 E) rfl ?_
      unfold b_211_2
      refine x_aload rfl ?_
      refine x_push 0 rfl ?_
      refine x_cV (fun _ => rfl) rfl (by decide) (Nat.le_of_ble_eq_true rfl) ?_
      refine cx_212 (by omega) (by omega) hP ?_
      refine x_iret ?_
      exact k1 (by omega)
    | 2, hb1 =>
      cases hb1
      refine x_blk (b := 3) (a_211 E) rfl ?_
      unfold b_211_3
      refine x_aload rfl ?_
      refine x_push 1 rfl ?_
      refine x_cV (fun _ => rfl) rfl (by decide) (Nat.le_of_ble_eq_true rfl) ?_
      refine cx_212 (by omega) (by omega) hP ?_
      refine x_iret ?_
      exact k2 (by omega)
    | 3, hb1 =>
      cases hb1
      refine x_blk (b := 4) (a_211 E) rfl ?_
      unfold b_211_4
      refine x_aload rfl ?_
      refine x_getR (r := 138) rfl (by decide) (by decide) rfl ?_
      refine x_push 0 rfl ?_
      refine x_iald (r := 140) (n := 256) (m := 0) rfl rfl (by decide) (fun _ => rfl) rfl (by omega) (by omega) ?_
      intro g5a g5b
      refine x_iret ?_
      exact k3 (by omega)
    | 4, hb1 =>
      cases hb1
      refine x_blk (b := 5) (a_211 E) rfl ?_
      unfold b_211_5
      refine x_aload rfl ?_
      refine x_getR (r := 138) rfl (by decide) (by decide) rfl ?_
      refine x_push 1 rfl ?_
      refine x_iald (r := 140) (n := 256) (m := 1) rfl rfl (by decide) (fun _ => rfl) rfl (by omega) (by omega) ?_
      intro g6a g6b
      refine x_iret ?_
      exact k4 (by omega)
    | 5, hb1 =>
      cases hb1
      refine x_blk (b := 6) (a_211 E) rfl ?_
      unfold b_211_6
      refine x_aload rfl ?_
      refine x_getR (r := 138) rfl (by decide) (by decide) rfl ?_
      refine x_push 2 rfl ?_
      refine x_iald (r := 140) (n := 256) (m := 2) rfl rfl (by decide) (fun _ => rfl) rfl (by omega) (by omega) ?_
      intro g7a g7b
      refine x_aload rfl ?_
      refine x_getR (r := 138) rfl (by decide) (by decide) rfl ?_
      refine x_push 3 rfl ?_
      refine x_iald (r := 140) (n := 256) (m := 3) rfl rfl (by decide) (fun _ => rfl) rfl (by omega) (by omega) ?_
      intro g8a g8b
      refine x_iadd ?_
      refine x_aload rfl ?_
      refine x_getR (r := 138) rfl (by decide) (by decide) rfl ?_
      refine x_push 4 rfl ?_
      refine x_iald (r := 140) (n := 256) (m := 4) rfl rfl (by decide) (fun _ => rfl) rfl (by omega) (by omega) ?_
      intro g9a g9b
      refine x_iadd ?_
      refine x_iret ?_
      exact k5 (by omega)
    | 6, hb1 =>
      cases hb1
      refine x_blk (b := 7) (a_211 E) rfl ?_
      unfold b_211_7
      refine x_aload rfl ?_
      refine x_getI (r := 138) rfl (by decide) (by decide) (by decide) rfl ?_
      intro g10a g10b
      refine x_iret ?_
      exact k6 (by omega)
    | 7, hb1 =>
      cases hb1
      refine x_blk (b := 8) (a_211 E) rfl ?_
      unfold b_211_8
      refine x_aload rfl ?_
      refine x_getI (r := 138) rfl (by decide) (by decide) (by decide) rfl ?_
      intro g11a g11b
      refine x_iret ?_
      exact k7 (by omega)
    | 8, hb1 =>
      cases hb1
      refine x_blk (b := 9) (a_211 E) rfl ?_
      unfold b_211_9
      refine x_aload rfl ?_
      refine x_getI (r := 138) rfl (by decide) (by decide) (by decide) rfl ?_
      intro g12a g12b
      refine x_iret ?_
      exact k8 (by omega)
    | (n + 9), hb1 => simp at hb1
  · skip
    refine x_blk (b := 10) (a_211 E) rfl ?_
    unfold b_211_10
    refine x_push (-1) rfl ?_
    refine x_iret ?_
    exact kB (by omega)
theorem y_li_b {A : Nat → Int} {p w : Int} : ∀ n : Nat, 0 ≤ y_li A p w n ∧ y_li A p w n ≤ 1
  | 0 => ⟨show (0 : Int) ≤ 1 by decide, show (1 : Int) ≤ 1 by decide⟩
  | n + 1 => by
    rw [y_li_s]
    split
    · exact ⟨by decide, by decide⟩
    · exact y_li_b n
theorem cx_197_b {E : q_E} {σ : x_S} {Q : Option q_V → x_S → Prop} {p w : Int} (p1 : -2147483648 ≤ p) (p2 : p ≤ 2147483647) (w1 : -2147483648 ≤ w) (w2 : w ≤ 2147483647) (hP : y_PI (σ 140)) (b1 : 0 ≤ p ∧ p ≤ 1) (b2 : 0 ≤ w ∧ w ≤ 1) (k : Q (some (x_I (y_li (σ 140) p w (σ 140 62).toNat))) σ) {is r : Int} (hr1 : 0 ≤ r) (hr2 : r < σ 140 62) (is1 : 0 ≤ is ∧ is ≤ 1) (hv : is = y_li (σ 140) p w r.toNat) (ho : ∀ is : Int, is = y_li (σ 140) p w (r + 1).toNat → x_G E m_197 Q (t_197 18) [(0, x_R 138), (1, x_I p), (2, x_I w), (3, x_I is), (4, x_I (r + 1))] [] σ) : ∀ (N : Nat) (x y i : Int), 0 ≤ i → i ≤ σ 140 (67 + 12 * r.toNat) → (7 - i).toNat = N → x = y_cc (σ 140) r.toNat 0 i.toNat → y = y_cc (σ 140) r.toNat 1 i.toNat → x_G E m_197 Q (t_197 9) [(0, x_R 138), (1, x_I p), (2, x_I w), (3, x_I is), (4, x_I r), (5, x_I x), (6, x_I y), (7, x_I i)] [] σ := by
  intro N
  induction N using Nat.strongRecOn with
  | ind N ih =>
    intro x y i i1 i2 hN hx hy
    have ru := hP.2.2.2.1
    have p7 := y_PI_pc hP (r := r.toNat) (by omega)
    have xb := y_cc_b (A := σ 140) (r := r.toNat) (ch := 0) i.toNat
    have yb := y_cc_b (A := σ 140) (r := r.toNat) (ch := 1) i.toNat
    have e4 : σ 140 (63 + 12 * r + 4).toNat = σ 140 (67 + 12 * r.toNat) := congrArg _ (by omega)
    have e2 : σ 140 (63 + 12 * r + 2).toNat = σ 140 (65 + 12 * r.toNat) := congrArg _ (by omega)
    have e0 : σ 140 (63 + 12 * r + 0).toNat = σ 140 (63 + 12 * r.toNat) := congrArg _ (by omega)
    have e5 : σ 140 (63 + 12 * r + (5 + i)).toNat = σ 140 (68 + 12 * r.toNat + i.toNat) := congrArg _ (by omega)
    have pv : i < σ 140 (67 + 12 * r.toNat) → _ := fun h => y_pcv hP (r := r.toNat) (k := i.toNat) (by omega) (by omega)
    have f4 : 0 ≤ σ 140 (65 + 12 * r.toNat) ∧ σ 140 (65 + 12 * r.toNat) ≤ 4 := by
      have := (hP.2.2.2.2 r.toNat (by omega)).2.2.1
      rw [show 65 + 12 * r.toNat = 63 + 12 * r.toNat + 2 by omega]; exact this
    have cb := y_ch_b (σ 140 (63 + 12 * r + 2).toNat)
    refine x_blk (b := 9) (a_197 E) rfl ?_
    unfold b_197_9
    refine x_iload rfl ?_
    refine x_aload rfl ?_
    refine x_iload rfl ?_
    refine x_push 4 rfl ?_
    refine x_cV (fun _ => rfl) rfl (by decide) (Nat.le_of_ble_eq_true rfl) ?_
    refine c_3 (by omega) (by omega) (fun c1a c1b => ?_)
    refine x_icmp_ge (by omega) (by omega) (by omega) (by omega) (fun z2 => ?_) (fun z2 => ?_)
    · skip
      refine x_aload rfl ?_
      refine x_iload rfl ?_
      refine x_push 5 rfl ?_
      refine x_iload rfl ?_
      refine x_iadd ?_
      refine x_cV (fun _ => rfl) rfl (by decide) (Nat.le_of_ble_eq_true rfl) ?_
      refine c_3 (by omega) (by omega) (fun c3a c3b => ?_)
      have pz := pv (by omega)
      refine x_istore ?_
      refine x_X_lo (lo' := [(0, x_R 138), (1, x_I _), (2, x_I _), (3, x_I _), (4, x_I _), (5, x_I _), (6, x_I _), (7, x_I _), (8, x_I _)]) ⟨rfl, rfl, rfl, rfl, rfl, rfl, rfl, rfl, rfl, trivial⟩ ?_
      refine x_iload rfl ?_
      refine x_iload rfl ?_
      refine x_push 9 rfl ?_
      refine x_icmp_le (by omega) (by omega) (by omega) (by omega) (fun z4 => ?_) (fun z4 => ?_)
      · skip
        refine x_blk (b := 5) (a_197 E) rfl ?_
        unfold b_197_5
        refine x_push 0 rfl ?_
        refine x_fall ?_
        refine x_blk (b := 6) (a_197 E) rfl ?_
        unfold b_197_6
        refine x_iadd ?_
        refine x_istore ?_
        refine x_X_lo (lo' := [(0, x_R 138), (1, x_I _), (2, x_I _), (3, x_I _), (4, x_I _), (5, x_I _), (6, x_I _), (7, x_I _), (8, x_I _)]) ⟨rfl, rfl, rfl, rfl, rfl, rfl, rfl, rfl, rfl, trivial⟩ ?_
        refine x_iload rfl ?_
        refine x_iload rfl ?_
        refine x_push 9 rfl ?_
        refine x_icmp_le (by omega) (by omega) (by omega) (by omega) (fun z5 => ?_) (fun z5 => ?_)
        · skip
          refine x_blk (b := 7) (a_197 E) rfl ?_
          unfold b_197_7
          refine x_push 0 rfl ?_
          refine x_fall ?_
          refine x_blk (b := 8) (a_197 E) rfl ?_
          unfold b_197_8
          refine x_iadd ?_
          refine x_istore ?_
          refine x_X_lo (lo' := [(0, x_R 138), (1, x_I _), (2, x_I _), (3, x_I _), (4, x_I _), (5, x_I _), (6, x_I _), (7, x_I _)]) ⟨rfl, rfl, rfl, rfl, rfl, rfl, rfl, rfl, trivial⟩ ?_
          refine x_iinc 1 rfl rfl ?_
          refine x_goto ?_
          refine x_G_lo (lo' := [(0, x_R 138), (1, x_I p), (2, x_I w), (3, x_I is), (4, x_I r), (5, x_I _), (6, x_I _), (7, x_I (i + 1))]) ⟨rfl, rfl, rfl, rfl, rfl, rfl, rfl, rfl, trivial⟩ ?_
          refine ih _ (by omega) _ _ (i + 1) (by omega) (by omega) rfl ?_ ?_
          · rw [show (i + 1).toNat = i.toNat + 1 by omega, y_cc_s]
            by_cases c : 9 < σ 140 (68 + 12 * r.toNat + i.toNat) ∧ σ 140 (68 + 12 * r.toNat + i.toNat) % 2 = 0
            · rw [if_pos c]; omega
            · rw [if_neg c]; omega
          · rw [show (i + 1).toNat = i.toNat + 1 by omega, y_cc_s]
            by_cases c : 9 < σ 140 (68 + 12 * r.toNat + i.toNat) ∧ σ 140 (68 + 12 * r.toNat + i.toNat) % 2 = 1
            · rw [if_pos c]; omega
            · rw [if_neg c]; omega
        · skip
          refine x_iload rfl ?_
          refine x_push 2 rfl ?_
          refine x_irem (by omega) (by omega) (by omega) (by omega) ?_
          refine x_push 1 rfl ?_
          refine x_icmp_ne (by omega) (by omega) (by omega) (by omega) (fun z6 => ?_) (fun z6 => ?_)
          · skip
            refine x_push 1 rfl ?_
            refine x_goto ?_
            refine x_blk (b := 8) (a_197 E) rfl ?_
            unfold b_197_8
            refine x_iadd ?_
            refine x_istore ?_
            refine x_X_lo (lo' := [(0, x_R 138), (1, x_I _), (2, x_I _), (3, x_I _), (4, x_I _), (5, x_I _), (6, x_I _), (7, x_I _)]) ⟨rfl, rfl, rfl, rfl, rfl, rfl, rfl, rfl, trivial⟩ ?_
            refine x_iinc 1 rfl rfl ?_
            refine x_goto ?_
            refine x_G_lo (lo' := [(0, x_R 138), (1, x_I p), (2, x_I w), (3, x_I is), (4, x_I r), (5, x_I _), (6, x_I _), (7, x_I (i + 1))]) ⟨rfl, rfl, rfl, rfl, rfl, rfl, rfl, rfl, trivial⟩ ?_
            refine ih _ (by omega) _ _ (i + 1) (by omega) (by omega) rfl ?_ ?_
            · rw [show (i + 1).toNat = i.toNat + 1 by omega, y_cc_s]
              by_cases c : 9 < σ 140 (68 + 12 * r.toNat + i.toNat) ∧ σ 140 (68 + 12 * r.toNat + i.toNat) % 2 = 0
              · rw [if_pos c]; omega
              · rw [if_neg c]; omega
            · rw [show (i + 1).toNat = i.toNat + 1 by omega, y_cc_s]
              by_cases c : 9 < σ 140 (68 + 12 * r.toNat + i.toNat) ∧ σ 140 (68 + 12 * r.toNat + i.toNat) % 2 = 1
              · rw [if_pos c]; omega
              · rw [if_neg c]; omega
          · skip
            refine x_blk (b := 7) (a_197 E) rfl ?_
            unfold b_197_7
            refine x_push 0 rfl ?_
            refine x_fall ?_
            refine x_blk (b := 8) (a_197 E) rfl ?_
            unfold b_197_8
            refine x_iadd ?_
            refine x_istore ?_
            refine x_X_lo (lo' := [(0, x_R 138), (1, x_I _), (2, x_I _), (3, x_I _), (4, x_I _), (5, x_I _), (6, x_I _), (7, x_I _)]) ⟨rfl, rfl, rfl, rfl, rfl, rfl, rfl, rfl, trivial⟩ ?_
            refine x_iinc 1 rfl rfl ?_
            refine x_goto ?_
            refine x_G_lo (lo' := [(0, x_R 138), (1, x_I p), (2, x_I w), (3, x_I is), (4, x_I r), (5, x_I _), (6, x_I _), (7, x_I (i + 1))]) ⟨rfl, rfl, rfl, rfl, rfl, rfl, rfl, rfl, trivial⟩ ?_
            refine ih _ (by omega) _ _ (i + 1) (by omega) (by omega) rfl ?_ ?_
            · rw [show (i + 1).toNat = i.toNat + 1 by omega, y_cc_s]
              by_cases c : 9 < σ 140 (68 + 12 * r.toNat + i.toNat) ∧ σ 140 (68 + 12 * r.toNat + i.toNat) % 2 = 0
              · rw [if_pos c]; omega
              · rw [if_neg c]; omega
            · rw [show (i + 1).toNat = i.toNat + 1 by omega, y_cc_s]
              by_cases c : 9 < σ 140 (68 + 12 * r.toNat + i.toNat) ∧ σ 140 (68 + 12 * r.toNat + i.toNat) % 2 = 1
              · rw [if_pos c]; omega
              · rw [if_neg c]; omega
      · skip
        refine x_iload rfl ?_
        refine x_push 2 rfl ?_
        refine x_irem (by omega) (by omega) (by omega) (by omega) ?_
        refine x_if_ne (by omega) (by omega) (fun z7 => ?_) (fun z7 => ?_)
        · skip
          refine x_push 1 rfl ?_
          refine x_goto ?_
          refine x_blk (b := 6) (a_197 E) rfl ?_
          unfold b_197_6
          refine x_iadd ?_
          refine x_istore ?_
          refine x_X_lo (lo' := [(0, x_R 138), (1, x_I _), (2, x_I _), (3, x_I _), (4, x_I _), (5, x_I _), (6, x_I _), (7, x_I _), (8, x_I _)]) ⟨rfl, rfl, rfl, rfl, rfl, rfl, rfl, rfl, rfl, trivial⟩ ?_
          refine x_iload rfl ?_
          refine x_iload rfl ?_
          refine x_push 9 rfl ?_
          refine x_icmp_le (by omega) (by omega) (by omega) (by omega) (fun z8 => ?_) (fun z8 => ?_)
          · skip
            refine x_blk (b := 7) (a_197 E) rfl ?_
            unfold b_197_7
            refine x_push 0 rfl ?_
            refine x_fall ?_
            refine x_blk (b := 8) (a_197 E) rfl ?_
            unfold b_197_8
            refine x_iadd ?_
            refine x_istore ?_
            refine x_X_lo (lo' := [(0, x_R 138), (1, x_I _), (2, x_I _), (3, x_I _), (4, x_I _), (5, x_I _), (6, x_I _), (7, x_I _)]) ⟨rfl, rfl, rfl, rfl, rfl, rfl, rfl, rfl, trivial⟩ ?_
            refine x_iinc 1 rfl rfl ?_
            refine x_goto ?_
            refine x_G_lo (lo' := [(0, x_R 138), (1, x_I p), (2, x_I w), (3, x_I is), (4, x_I r), (5, x_I _), (6, x_I _), (7, x_I (i + 1))]) ⟨rfl, rfl, rfl, rfl, rfl, rfl, rfl, rfl, trivial⟩ ?_
            refine ih _ (by omega) _ _ (i + 1) (by omega) (by omega) rfl ?_ ?_
            · rw [show (i + 1).toNat = i.toNat + 1 by omega, y_cc_s]
              by_cases c : 9 < σ 140 (68 + 12 * r.toNat + i.toNat) ∧ σ 140 (68 + 12 * r.toNat + i.toNat) % 2 = 0
              · rw [if_pos c]; omega
              · rw [if_neg c]; omega
            · rw [show (i + 1).toNat = i.toNat + 1 by omega, y_cc_s]
              by_cases c : 9 < σ 140 (68 + 12 * r.toNat + i.toNat) ∧ σ 140 (68 + 12 * r.toNat + i.toNat) % 2 = 1
              · rw [if_pos c]; omega
              · rw [if_neg c]; omega
          · skip
            refine x_iload rfl ?_
            refine x_push 2 rfl ?_
            refine x_irem (by omega) (by omega) (by omega) (by omega) ?_
            refine x_push 1 rfl ?_
            refine x_icmp_ne (by omega) (by omega) (by omega) (by omega) (fun z9 => ?_) (fun z9 => ?_)
            · skip
              refine x_push 1 rfl ?_
              refine x_goto ?_
              refine x_blk (b := 8) (a_197 E) rfl ?_
              unfold b_197_8
              refine x_iadd ?_
              refine x_istore ?_
              refine x_X_lo (lo' := [(0, x_R 138), (1, x_I _), (2, x_I _), (3, x_I _), (4, x_I _), (5, x_I _), (6, x_I _), (7, x_I _)]) ⟨rfl, rfl, rfl, rfl, rfl, rfl, rfl, rfl, trivial⟩ ?_
              refine x_iinc 1 rfl rfl ?_
              refine x_goto ?_
              refine x_G_lo (lo' := [(0, x_R 138), (1, x_I p), (2, x_I w), (3, x_I is), (4, x_I r), (5, x_I _), (6, x_I _), (7, x_I (i + 1))]) ⟨rfl, rfl, rfl, rfl, rfl, rfl, rfl, rfl, trivial⟩ ?_
              refine ih _ (by omega) _ _ (i + 1) (by omega) (by omega) rfl ?_ ?_
              · rw [show (i + 1).toNat = i.toNat + 1 by omega, y_cc_s]
                by_cases c : 9 < σ 140 (68 + 12 * r.toNat + i.toNat) ∧ σ 140 (68 + 12 * r.toNat + i.toNat) % 2 = 0
                · rw [if_pos c]; omega
                · rw [if_neg c]; omega
              · rw [show (i + 1).toNat = i.toNat + 1 by omega, y_cc_s]
                by_cases c : 9 < σ 140 (68 + 12 * r.toNat + i.toNat) ∧ σ 140 (68 + 12 * r.toNat + i.toNat) % 2 = 1
                · rw [if_pos c]; omega
                · rw [if_neg c]; omega
            · skip
              refine x_blk (b := 7) (a_197 E) rfl ?_
              unfold b_197_7
              refine x_push 0 rfl ?_
              refine x_fall ?_
              refine x_blk (b := 8) (a_197 E) rfl ?_
              unfold b_197_8
              refine x_iadd ?_
              refine x_istore ?_
              refine x_X_lo (lo' := [(0, x_R 138), (1, x_I _), (2, x_I _), (3, x_I _), (4, x_I _), (5, x_I _), (6, x_I _), (7, x_I _)]) ⟨rfl, rfl, rfl, rfl, rfl, rfl, rfl, rfl, trivial⟩ ?_
              refine x_iinc 1 rfl rfl ?_
              refine x_goto ?_
              refine x_G_lo (lo' := [(0, x_R 138), (1, x_I p), (2, x_I w), (3, x_I is), (4, x_I r), (5, x_I _), (6, x_I _), (7, x_I (i + 1))]) ⟨rfl, rfl, rfl, rfl, rfl, rfl, rfl, rfl, trivial⟩ ?_
              refine ih _ (by omega) _ _ (i + 1) (by omega) (by omega) rfl ?_ ?_
              · rw [show (i + 1).toNat = i.toNat + 1 by omega, y_cc_s]
                by_cases c : 9 < σ 140 (68 + 12 * r.toNat + i.toNat) ∧ σ 140 (68 + 12 * r.toNat + i.toNat) % 2 = 0
                · rw [if_pos c]; omega
                · rw [if_neg c]; omega
              · rw [show (i + 1).toNat = i.toNat + 1 by omega, y_cc_s]
                by_cases c : 9 < σ 140 (68 + 12 * r.toNat + i.toNat) ∧ σ 140 (68 + 12 * r.toNat + i.toNat) % 2 = 1
                · rw [if_pos c]; omega
                · rw [if_neg c]; omega
        · skip
          refine x_blk (b := 5) (a_197 E) rfl ?_
          unfold b_197_5
          refine x_push 0 rfl ?_
          refine x_fall ?_
          refine x_blk (b := 6) (a_197 E) rfl ?_
          unfold b_197_6
          refine x_iadd ?_
          refine x_istore ?_
          refine x_X_lo (lo' := [(0, x_R 138), (1, x_I _), (2, x_I _), (3, x_I _), (4, x_I _), (5, x_I _), (6, x_I _), (7, x_I _), (8, x_I _)]) ⟨rfl, rfl, rfl, rfl, rfl, rfl, rfl, rfl, rfl, trivial⟩ ?_
          refine x_iload rfl ?_
          refine x_iload rfl ?_
          refine x_push 9 rfl ?_
          refine x_icmp_le (by omega) (by omega) (by omega) (by omega) (fun z10 => ?_) (fun z10 => ?_)
          · skip
            refine x_blk (b := 7) (a_197 E) rfl ?_
            unfold b_197_7
            refine x_push 0 rfl ?_
            refine x_fall ?_
            refine x_blk (b := 8) (a_197 E) rfl ?_
            unfold b_197_8
            refine x_iadd ?_
            refine x_istore ?_
            refine x_X_lo (lo' := [(0, x_R 138), (1, x_I _), (2, x_I _), (3, x_I _), (4, x_I _), (5, x_I _), (6, x_I _), (7, x_I _)]) ⟨rfl, rfl, rfl, rfl, rfl, rfl, rfl, rfl, trivial⟩ ?_
            refine x_iinc 1 rfl rfl ?_
            refine x_goto ?_
            refine x_G_lo (lo' := [(0, x_R 138), (1, x_I p), (2, x_I w), (3, x_I is), (4, x_I r), (5, x_I _), (6, x_I _), (7, x_I (i + 1))]) ⟨rfl, rfl, rfl, rfl, rfl, rfl, rfl, rfl, trivial⟩ ?_
            refine ih _ (by omega) _ _ (i + 1) (by omega) (by omega) rfl ?_ ?_
            · rw [show (i + 1).toNat = i.toNat + 1 by omega, y_cc_s]
              by_cases c : 9 < σ 140 (68 + 12 * r.toNat + i.toNat) ∧ σ 140 (68 + 12 * r.toNat + i.toNat) % 2 = 0
              · rw [if_pos c]; omega
              · rw [if_neg c]; omega
            · rw [show (i + 1).toNat = i.toNat + 1 by omega, y_cc_s]
              by_cases c : 9 < σ 140 (68 + 12 * r.toNat + i.toNat) ∧ σ 140 (68 + 12 * r.toNat + i.toNat) % 2 = 1
              · rw [if_pos c]; omega
              · rw [if_neg c]; omega
          · skip
            refine x_iload rfl ?_
            refine x_push 2 rfl ?_
            refine x_irem (by omega) (by omega) (by omega) (by omega) ?_
            refine x_push 1 rfl ?_
            refine x_icmp_ne (by omega) (by omega) (by omega) (by omega) (fun z11 => ?_) (fun z11 => ?_)
            · skip
              refine x_push 1 rfl ?_
              refine x_goto ?_
              refine x_blk (b := 8) (a_197 E) rfl ?_
              unfold b_197_8
              refine x_iadd ?_
              refine x_istore ?_
              refine x_X_lo (lo' := [(0, x_R 138), (1, x_I _), (2, x_I _), (3, x_I _), (4, x_I _), (5, x_I _), (6, x_I _), (7, x_I _)]) ⟨rfl, rfl, rfl, rfl, rfl, rfl, rfl, rfl, trivial⟩ ?_
              refine x_iinc 1 rfl rfl ?_
              refine x_goto ?_
              refine x_G_lo (lo' := [(0, x_R 138), (1, x_I p), (2, x_I w), (3, x_I is), (4, x_I r), (5, x_I _), (6, x_I _), (7, x_I (i + 1))]) ⟨rfl, rfl, rfl, rfl, rfl, rfl, rfl, rfl, trivial⟩ ?_
              refine ih _ (by omega) _ _ (i + 1) (by omega) (by omega) rfl ?_ ?_
              · rw [show (i + 1).toNat = i.toNat + 1 by omega, y_cc_s]
                by_cases c : 9 < σ 140 (68 + 12 * r.toNat + i.toNat) ∧ σ 140 (68 + 12 * r.toNat + i.toNat) % 2 = 0
                · rw [if_pos c]; omega
                · rw [if_neg c]; omega
              · rw [show (i + 1).toNat = i.toNat + 1 by omega, y_cc_s]
                by_cases c : 9 < σ 140 (68 + 12 * r.toNat + i.toNat) ∧ σ 140 (68 + 12 * r.toNat + i.toNat) % 2 = 1
                · rw [if_pos c]; omega
                · rw [if_neg c]; omega
            · skip
              refine x_blk (b := 7) (a_197 E) rfl ?_
              unfold b_197_7
              refine x_push 0 rfl ?_
              refine x_fall ?_
              refine x_blk (b := 8) (a_197 E) rfl ?_
              unfold b_197_8
              refine x_iadd ?_
              refine x_istore ?_
              refine x_X_lo (lo' := [(0, x_R 138), (1, x_I _), (2, x_I _), (3, x_I _), (4, x_I _), (5, x_I _), (6, x_I _), (7, x_I _)]) ⟨rfl, rfl, rfl, rfl, rfl, rfl, rfl, rfl, trivial⟩ ?_
              refine x_iinc 1 rfl rfl ?_
              refine x_goto ?_
              refine x_G_lo (lo' := [(0, x_R 138), (1, x_I p), (2, x_I w), (3, x_I is), (4, x_I r), (5, x_I _), (6, x_I _), (7, x_I (i + 1))]) ⟨rfl, rfl, rfl, rfl, rfl, rfl, rfl, rfl, trivial⟩ ?_
              refine ih _ (by omega) _ _ (i + 1) (by omega) (by omega) rfl ?_ ?_
              · rw [show (i + 1).toNat = i.toNat + 1 by omega, y_cc_s]
                by_cases c : 9 < σ 140 (68 + 12 * r.toNat + i.toNat) ∧ σ 140 (68 + 12 * r.toNat + i.toNat) % 2 = 0
                · rw [if_pos c]; omega
                · rw [if_neg c]; omega
              · rw [show (i + 1).toNat = i.toNat + 1 by omega, y_cc_s]
                by_cases c : 9 < σ 140 (68 + 12 * r.toNat + i.toNat) ∧ σ 140 (68 + 12 * r.toNat + i.toNat) % 2 = 1
                · rw [if_pos c]; omega
                · rw [if_neg c]; omega
    · skip
      refine x_blk (b := 4) (a_197 E) rfl ?_
      unfold b_197_4
      refine x_aload rfl ?_
      refine x_iload rfl ?_
      refine x_push 2 rfl ?_
      refine x_cV (fun _ => rfl) rfl (by decide) (Nat.le_of_ble_eq_true rfl) ?_
      refine c_3 (by omega) (by omega) (fun c12a c12b => ?_)
      refine x_cS (fun _ => rfl) (Nat.le_of_ble_eq_true rfl) ?_
      refine c_0 (by omega) (by omega) ?_
      have cb2 := y_ch_b (σ 140 (63 + 12 * r + 2).toNat)
      refine x_istore ?_
      refine x_X_lo (lo' := [(0, x_R 138), (1, x_I _), (2, x_I _), (3, x_I _), (4, x_I _), (5, x_I _), (6, x_I _), (7, x_I _)]) ⟨rfl, rfl, rfl, rfl, rfl, rfl, rfl, rfl, trivial⟩ ?_
      refine x_iload rfl ?_
      refine x_if_ne (by omega) (by omega) (fun z14 => ?_) (fun z14 => ?_)
      · skip
        refine x_iload rfl ?_
        refine x_push 2 rfl ?_
        refine x_icmp_ge (by omega) (by omega) (by omega) (by omega) (fun z15 => ?_) (fun z15 => ?_)
        · skip
          refine x_iload rfl ?_
          refine x_push 2 rfl ?_
          refine x_icmp_ge (by omega) (by omega) (by omega) (by omega) (fun z16 => ?_) (fun z16 => ?_)
          · skip
            refine x_push 1 rfl ?_
            refine x_goto ?_
            refine x_blk (b := 12) (a_197 E) rfl ?_
            unfold b_197_12
            refine x_istore ?_
            refine x_X_lo (lo' := [(0, x_R 138), (1, x_I _), (2, x_I _), (3, x_I _), (4, x_I _), (5, x_I _), (6, x_I _), (7, x_I _), (8, x_I _)]) ⟨rfl, rfl, rfl, rfl, rfl, rfl, rfl, rfl, rfl, trivial⟩ ?_
            refine x_aload rfl ?_
            refine x_iload rfl ?_
            refine x_push 0 rfl ?_
            refine x_cV (fun _ => rfl) rfl (by decide) (Nat.le_of_ble_eq_true rfl) ?_
            refine c_3 (by omega) (by omega) (fun c17a c17b => ?_)
            refine x_iload rfl ?_
            refine x_icmp_ne (by omega) (by omega) (by omega) (by omega) (fun z18 => ?_) (fun z18 => ?_)
            · skip
              refine x_iload rfl ?_
              refine x_if_ne (by decide) (by decide) (fun z => absurd z (by decide)) (fun _ => ?_)
              refine x_blk (b := 16) (a_197 E) rfl ?_
              unfold b_197_16
              refine x_iload rfl ?_
              refine x_fall ?_
              refine x_blk (b := 17) (a_197 E) rfl ?_
              unfold b_197_17
              refine x_istore ?_
              refine x_X_lo (lo' := [(0, x_R 138), (1, x_I _), (2, x_I _), (3, x_I _), (4, x_I _)]) ⟨rfl, rfl, rfl, rfl, rfl, trivial⟩ ?_
              refine x_iinc 1 rfl rfl ?_
              refine x_goto ?_
              refine x_G_lo (lo' := [(0, x_R 138), (1, x_I p), (2, x_I w), (3, x_I _), (4, x_I (r + 1))]) ⟨rfl, rfl, rfl, rfl, rfl, trivial⟩ ?_
              refine ho _ ?_
              rw [show (r + 1).toNat = r.toNat + 1 by omega, y_li_s]
              have hx2 : x = y_nc (σ 140) r.toNat 0 := by rw [hx]; unfold y_nc; congr 1; omega
              have hy2 : y = y_nc (σ 140) r.toNat 1 := by rw [hy]; unfold y_nc; congr 1; omega
              have ex := y_chx (σ 140 (65 + 12 * r.toNat))
              have ex2 := y_chx (σ 140 (63 + 12 * r + 2).toNat)
              by_cases c : σ 140 (63 + 12 * r.toNat) = p ∧ ¬ y_wl (σ 140) w r.toNat
              · rw [if_pos c]
                try (unfold y_wl at c; omega)
              · rw [if_neg c]
                first
                  | exact hv
                  | (unfold y_wl at c; omega)
            · skip
              refine x_blk (b := 16) (a_197 E) rfl ?_
              unfold b_197_16
              refine x_iload rfl ?_
              refine x_fall ?_
              refine x_blk (b := 17) (a_197 E) rfl ?_
              unfold b_197_17
              refine x_istore ?_
              refine x_X_lo (lo' := [(0, x_R 138), (1, x_I _), (2, x_I _), (3, x_I _), (4, x_I _)]) ⟨rfl, rfl, rfl, rfl, rfl, trivial⟩ ?_
              refine x_iinc 1 rfl rfl ?_
              refine x_goto ?_
              refine x_G_lo (lo' := [(0, x_R 138), (1, x_I p), (2, x_I w), (3, x_I _), (4, x_I (r + 1))]) ⟨rfl, rfl, rfl, rfl, rfl, trivial⟩ ?_
              refine ho _ ?_
              rw [show (r + 1).toNat = r.toNat + 1 by omega, y_li_s]
              have hx2 : x = y_nc (σ 140) r.toNat 0 := by rw [hx]; unfold y_nc; congr 1; omega
              have hy2 : y = y_nc (σ 140) r.toNat 1 := by rw [hy]; unfold y_nc; congr 1; omega
              have ex := y_chx (σ 140 (65 + 12 * r.toNat))
              have ex2 := y_chx (σ 140 (63 + 12 * r + 2).toNat)
              by_cases c : σ 140 (63 + 12 * r.toNat) = p ∧ ¬ y_wl (σ 140) w r.toNat
              · rw [if_pos c]
                try (unfold y_wl at c; omega)
              · rw [if_neg c]
                first
                  | exact hv
                  | (unfold y_wl at c; omega)
          · skip
            refine x_blk (b := 11) (a_197 E) rfl ?_
            unfold b_197_11
            refine x_push 0 rfl ?_
            refine x_goto ?_
            refine x_blk (b := 12) (a_197 E) rfl ?_
            unfold b_197_12
            refine x_istore ?_
            refine x_X_lo (lo' := [(0, x_R 138), (1, x_I _), (2, x_I _), (3, x_I _), (4, x_I _), (5, x_I _), (6, x_I _), (7, x_I _), (8, x_I _)]) ⟨rfl, rfl, rfl, rfl, rfl, rfl, rfl, rfl, rfl, trivial⟩ ?_
            refine x_aload rfl ?_
            refine x_iload rfl ?_
            refine x_push 0 rfl ?_
            refine x_cV (fun _ => rfl) rfl (by decide) (Nat.le_of_ble_eq_true rfl) ?_
            refine c_3 (by omega) (by omega) (fun c20a c20b => ?_)
            refine x_iload rfl ?_
            refine x_icmp_ne (by omega) (by omega) (by omega) (by omega) (fun z21 => ?_) (fun z21 => ?_)
            · skip
              refine x_iload rfl ?_
              refine x_if_ne (by decide) (by decide) (fun _ => ?_) (fun z => absurd (by decide) z)
              refine x_push 0 rfl ?_
              refine x_goto ?_
              refine x_blk (b := 17) (a_197 E) rfl ?_
              unfold b_197_17
              refine x_istore ?_
              refine x_X_lo (lo' := [(0, x_R 138), (1, x_I _), (2, x_I _), (3, x_I _), (4, x_I _)]) ⟨rfl, rfl, rfl, rfl, rfl, trivial⟩ ?_
              refine x_iinc 1 rfl rfl ?_
              refine x_goto ?_
              refine x_G_lo (lo' := [(0, x_R 138), (1, x_I p), (2, x_I w), (3, x_I _), (4, x_I (r + 1))]) ⟨rfl, rfl, rfl, rfl, rfl, trivial⟩ ?_
              refine ho _ ?_
              rw [show (r + 1).toNat = r.toNat + 1 by omega, y_li_s]
              have hx2 : x = y_nc (σ 140) r.toNat 0 := by rw [hx]; unfold y_nc; congr 1; omega
              have hy2 : y = y_nc (σ 140) r.toNat 1 := by rw [hy]; unfold y_nc; congr 1; omega
              have ex := y_chx (σ 140 (65 + 12 * r.toNat))
              have ex2 := y_chx (σ 140 (63 + 12 * r + 2).toNat)
              by_cases c : σ 140 (63 + 12 * r.toNat) = p ∧ ¬ y_wl (σ 140) w r.toNat
              · rw [if_pos c]
                try (unfold y_wl at c; omega)
              · rw [if_neg c]
                first
                  | exact hv
                  | (unfold y_wl at c; omega)
            · skip
              refine x_blk (b := 16) (a_197 E) rfl ?_
              unfold b_197_16
              refine x_iload rfl ?_
              refine x_fall ?_
              refine x_blk (b := 17) (a_197 E) rfl ?_
              unfold b_197_17
              refine x_istore ?_
              refine x_X_lo (lo' := [(0, x_R 138), (1, x_I _), (2, x_I _), (3, x_I _), (4, x_I _)]) ⟨rfl, rfl, rfl, rfl, rfl, trivial⟩ ?_
              refine x_iinc 1 rfl rfl ?_
              refine x_goto ?_
              refine x_G_lo (lo' := [(0, x_R 138), (1, x_I p), (2, x_I w), (3, x_I _), (4, x_I (r + 1))]) ⟨rfl, rfl, rfl, rfl, rfl, trivial⟩ ?_
              refine ho _ ?_
              rw [show (r + 1).toNat = r.toNat + 1 by omega, y_li_s]
              have hx2 : x = y_nc (σ 140) r.toNat 0 := by rw [hx]; unfold y_nc; congr 1; omega
              have hy2 : y = y_nc (σ 140) r.toNat 1 := by rw [hy]; unfold y_nc; congr 1; omega
              have ex := y_chx (σ 140 (65 + 12 * r.toNat))
              have ex2 := y_chx (σ 140 (63 + 12 * r + 2).toNat)
              by_cases c : σ 140 (63 + 12 * r.toNat) = p ∧ ¬ y_wl (σ 140) w r.toNat
              · rw [if_pos c]
                try (unfold y_wl at c; omega)
              · rw [if_neg c]
                first
                  | exact hv
                  | (unfold y_wl at c; omega)
        · skip
          refine x_blk (b := 11) (a_197 E) rfl ?_
          unfold b_197_11
          refine x_push 0 rfl ?_
          refine x_goto ?_
          refine x_blk (b := 12) (a_197 E) rfl ?_
          unfold b_197_12
          refine x_istore ?_
          refine x_X_lo (lo' := [(0, x_R 138), (1, x_I _), (2, x_I _), (3, x_I _), (4, x_I _), (5, x_I _), (6, x_I _), (7, x_I _), (8, x_I _)]) ⟨rfl, rfl, rfl, rfl, rfl, rfl, rfl, rfl, rfl, trivial⟩ ?_
          refine x_aload rfl ?_
          refine x_iload rfl ?_
          refine x_push 0 rfl ?_
          refine x_cV (fun _ => rfl) rfl (by decide) (Nat.le_of_ble_eq_true rfl) ?_
          refine c_3 (by omega) (by omega) (fun c23a c23b => ?_)
          refine x_iload rfl ?_
          refine x_icmp_ne (by omega) (by omega) (by omega) (by omega) (fun z24 => ?_) (fun z24 => ?_)
          · skip
            refine x_iload rfl ?_
            refine x_if_ne (by decide) (by decide) (fun _ => ?_) (fun z => absurd (by decide) z)
            refine x_push 0 rfl ?_
            refine x_goto ?_
            refine x_blk (b := 17) (a_197 E) rfl ?_
            unfold b_197_17
            refine x_istore ?_
            refine x_X_lo (lo' := [(0, x_R 138), (1, x_I _), (2, x_I _), (3, x_I _), (4, x_I _)]) ⟨rfl, rfl, rfl, rfl, rfl, trivial⟩ ?_
            refine x_iinc 1 rfl rfl ?_
            refine x_goto ?_
            refine x_G_lo (lo' := [(0, x_R 138), (1, x_I p), (2, x_I w), (3, x_I _), (4, x_I (r + 1))]) ⟨rfl, rfl, rfl, rfl, rfl, trivial⟩ ?_
            refine ho _ ?_
            rw [show (r + 1).toNat = r.toNat + 1 by omega, y_li_s]
            have hx2 : x = y_nc (σ 140) r.toNat 0 := by rw [hx]; unfold y_nc; congr 1; omega
            have hy2 : y = y_nc (σ 140) r.toNat 1 := by rw [hy]; unfold y_nc; congr 1; omega
            have ex := y_chx (σ 140 (65 + 12 * r.toNat))
            have ex2 := y_chx (σ 140 (63 + 12 * r + 2).toNat)
            by_cases c : σ 140 (63 + 12 * r.toNat) = p ∧ ¬ y_wl (σ 140) w r.toNat
            · rw [if_pos c]
              try (unfold y_wl at c; omega)
            · rw [if_neg c]
              first
                | exact hv
                | (unfold y_wl at c; omega)
          · skip
            refine x_blk (b := 16) (a_197 E) rfl ?_
            unfold b_197_16
            refine x_iload rfl ?_
            refine x_fall ?_
            refine x_blk (b := 17) (a_197 E) rfl ?_
            unfold b_197_17
            refine x_istore ?_
            refine x_X_lo (lo' := [(0, x_R 138), (1, x_I _), (2, x_I _), (3, x_I _), (4, x_I _)]) ⟨rfl, rfl, rfl, rfl, rfl, trivial⟩ ?_
            refine x_iinc 1 rfl rfl ?_
            refine x_goto ?_
            refine x_G_lo (lo' := [(0, x_R 138), (1, x_I p), (2, x_I w), (3, x_I _), (4, x_I (r + 1))]) ⟨rfl, rfl, rfl, rfl, rfl, trivial⟩ ?_
            refine ho _ ?_
            rw [show (r + 1).toNat = r.toNat + 1 by omega, y_li_s]
            have hx2 : x = y_nc (σ 140) r.toNat 0 := by rw [hx]; unfold y_nc; congr 1; omega
            have hy2 : y = y_nc (σ 140) r.toNat 1 := by rw [hy]; unfold y_nc; congr 1; omega
            have ex := y_chx (σ 140 (65 + 12 * r.toNat))
            have ex2 := y_chx (σ 140 (63 + 12 * r + 2).toNat)
            by_cases c : σ 140 (63 + 12 * r.toNat) = p ∧ ¬ y_wl (σ 140) w r.toNat
            · rw [if_pos c]
              try (unfold y_wl at c; omega)
            · rw [if_neg c]
              first
                | exact hv
                | (unfold y_wl at c; omega)
      · skip
        refine x_blk (b := 10) (a_197 E) rfl ?_
        unfold b_197_10
        refine x_iload rfl ?_
        refine x_push 1 rfl ?_
        refine x_icmp_lt (by omega) (by omega) (by omega) (by omega) (fun z26 => ?_) (fun z26 => ?_)
        · skip
          refine x_blk (b := 13) (a_197 E) rfl ?_
          unfold b_197_13
          refine x_iload rfl ?_
          refine x_push 2 rfl ?_
          refine x_icmp_lt (by omega) (by omega) (by omega) (by omega) (fun z27 => ?_) (fun z27 => ?_)
          · skip
            refine x_blk (b := 15) (a_197 E) rfl ?_
            unfold b_197_15
            refine x_push 1 rfl ?_
            refine x_goto ?_
            refine x_blk (b := 12) (a_197 E) rfl ?_
            unfold b_197_12
            refine x_istore ?_
            refine x_X_lo (lo' := [(0, x_R 138), (1, x_I _), (2, x_I _), (3, x_I _), (4, x_I _), (5, x_I _), (6, x_I _), (7, x_I _), (8, x_I _)]) ⟨rfl, rfl, rfl, rfl, rfl, rfl, rfl, rfl, rfl, trivial⟩ ?_
            refine x_aload rfl ?_
            refine x_iload rfl ?_
            refine x_push 0 rfl ?_
            refine x_cV (fun _ => rfl) rfl (by decide) (Nat.le_of_ble_eq_true rfl) ?_
            refine c_3 (by omega) (by omega) (fun c28a c28b => ?_)
            refine x_iload rfl ?_
            refine x_icmp_ne (by omega) (by omega) (by omega) (by omega) (fun z29 => ?_) (fun z29 => ?_)
            · skip
              refine x_iload rfl ?_
              refine x_if_ne (by decide) (by decide) (fun z => absurd z (by decide)) (fun _ => ?_)
              refine x_blk (b := 16) (a_197 E) rfl ?_
              unfold b_197_16
              refine x_iload rfl ?_
              refine x_fall ?_
              refine x_blk (b := 17) (a_197 E) rfl ?_
              unfold b_197_17
              refine x_istore ?_
              refine x_X_lo (lo' := [(0, x_R 138), (1, x_I _), (2, x_I _), (3, x_I _), (4, x_I _)]) ⟨rfl, rfl, rfl, rfl, rfl, trivial⟩ ?_
              refine x_iinc 1 rfl rfl ?_
              refine x_goto ?_
              refine x_G_lo (lo' := [(0, x_R 138), (1, x_I p), (2, x_I w), (3, x_I _), (4, x_I (r + 1))]) ⟨rfl, rfl, rfl, rfl, rfl, trivial⟩ ?_
              refine ho _ ?_
              rw [show (r + 1).toNat = r.toNat + 1 by omega, y_li_s]
              have hx2 : x = y_nc (σ 140) r.toNat 0 := by rw [hx]; unfold y_nc; congr 1; omega
              have hy2 : y = y_nc (σ 140) r.toNat 1 := by rw [hy]; unfold y_nc; congr 1; omega
              have ex := y_chx (σ 140 (65 + 12 * r.toNat))
              have ex2 := y_chx (σ 140 (63 + 12 * r + 2).toNat)
              by_cases c : σ 140 (63 + 12 * r.toNat) = p ∧ ¬ y_wl (σ 140) w r.toNat
              · rw [if_pos c]
                try (unfold y_wl at c; omega)
              · rw [if_neg c]
                first
                  | exact hv
                  | (unfold y_wl at c; omega)
            · skip
              refine x_blk (b := 16) (a_197 E) rfl ?_
              unfold b_197_16
              refine x_iload rfl ?_
              refine x_fall ?_
              refine x_blk (b := 17) (a_197 E) rfl ?_
              unfold b_197_17
              refine x_istore ?_
              refine x_X_lo (lo' := [(0, x_R 138), (1, x_I _), (2, x_I _), (3, x_I _), (4, x_I _)]) ⟨rfl, rfl, rfl, rfl, rfl, trivial⟩ ?_
              refine x_iinc 1 rfl rfl ?_
              refine x_goto ?_
              refine x_G_lo (lo' := [(0, x_R 138), (1, x_I p), (2, x_I w), (3, x_I _), (4, x_I (r + 1))]) ⟨rfl, rfl, rfl, rfl, rfl, trivial⟩ ?_
              refine ho _ ?_
              rw [show (r + 1).toNat = r.toNat + 1 by omega, y_li_s]
              have hx2 : x = y_nc (σ 140) r.toNat 0 := by rw [hx]; unfold y_nc; congr 1; omega
              have hy2 : y = y_nc (σ 140) r.toNat 1 := by rw [hy]; unfold y_nc; congr 1; omega
              have ex := y_chx (σ 140 (65 + 12 * r.toNat))
              have ex2 := y_chx (σ 140 (63 + 12 * r + 2).toNat)
              by_cases c : σ 140 (63 + 12 * r.toNat) = p ∧ ¬ y_wl (σ 140) w r.toNat
              · rw [if_pos c]
                try (unfold y_wl at c; omega)
              · rw [if_neg c]
                first
                  | exact hv
                  | (unfold y_wl at c; omega)
          · skip
            refine x_iload rfl ?_
            refine x_if_le (by omega) (by omega) (fun z31 => ?_) (fun z31 => ?_)
            · skip
              refine x_blk (b := 14) (a_197 E) rfl ?_
              unfold b_197_14
              refine x_push 0 rfl ?_
              refine x_fall ?_
              refine x_blk (b := 12) (a_197 E) rfl ?_
              unfold b_197_12
              refine x_istore ?_
              refine x_X_lo (lo' := [(0, x_R 138), (1, x_I _), (2, x_I _), (3, x_I _), (4, x_I _), (5, x_I _), (6, x_I _), (7, x_I _), (8, x_I _)]) ⟨rfl, rfl, rfl, rfl, rfl, rfl, rfl, rfl, rfl, trivial⟩ ?_
              refine x_aload rfl ?_
              refine x_iload rfl ?_
              refine x_push 0 rfl ?_
              refine x_cV (fun _ => rfl) rfl (by decide) (Nat.le_of_ble_eq_true rfl) ?_
              refine c_3 (by omega) (by omega) (fun c32a c32b => ?_)
              refine x_iload rfl ?_
              refine x_icmp_ne (by omega) (by omega) (by omega) (by omega) (fun z33 => ?_) (fun z33 => ?_)
              · skip
                refine x_iload rfl ?_
                refine x_if_ne (by decide) (by decide) (fun _ => ?_) (fun z => absurd (by decide) z)
                refine x_push 0 rfl ?_
                refine x_goto ?_
                refine x_blk (b := 17) (a_197 E) rfl ?_
                unfold b_197_17
                refine x_istore ?_
                refine x_X_lo (lo' := [(0, x_R 138), (1, x_I _), (2, x_I _), (3, x_I _), (4, x_I _)]) ⟨rfl, rfl, rfl, rfl, rfl, trivial⟩ ?_
                refine x_iinc 1 rfl rfl ?_
                refine x_goto ?_
                refine x_G_lo (lo' := [(0, x_R 138), (1, x_I p), (2, x_I w), (3, x_I _), (4, x_I (r + 1))]) ⟨rfl, rfl, rfl, rfl, rfl, trivial⟩ ?_
                refine ho _ ?_
                rw [show (r + 1).toNat = r.toNat + 1 by omega, y_li_s]
                have hx2 : x = y_nc (σ 140) r.toNat 0 := by rw [hx]; unfold y_nc; congr 1; omega
                have hy2 : y = y_nc (σ 140) r.toNat 1 := by rw [hy]; unfold y_nc; congr 1; omega
                have ex := y_chx (σ 140 (65 + 12 * r.toNat))
                have ex2 := y_chx (σ 140 (63 + 12 * r + 2).toNat)
                by_cases c : σ 140 (63 + 12 * r.toNat) = p ∧ ¬ y_wl (σ 140) w r.toNat
                · rw [if_pos c]
                  try (unfold y_wl at c; omega)
                · rw [if_neg c]
                  first
                    | exact hv
                    | (unfold y_wl at c; omega)
              · skip
                refine x_blk (b := 16) (a_197 E) rfl ?_
                unfold b_197_16
                refine x_iload rfl ?_
                refine x_fall ?_
                refine x_blk (b := 17) (a_197 E) rfl ?_
                unfold b_197_17
                refine x_istore ?_
                refine x_X_lo (lo' := [(0, x_R 138), (1, x_I _), (2, x_I _), (3, x_I _), (4, x_I _)]) ⟨rfl, rfl, rfl, rfl, rfl, trivial⟩ ?_
                refine x_iinc 1 rfl rfl ?_
                refine x_goto ?_
                refine x_G_lo (lo' := [(0, x_R 138), (1, x_I p), (2, x_I w), (3, x_I _), (4, x_I (r + 1))]) ⟨rfl, rfl, rfl, rfl, rfl, trivial⟩ ?_
                refine ho _ ?_
                rw [show (r + 1).toNat = r.toNat + 1 by omega, y_li_s]
                have hx2 : x = y_nc (σ 140) r.toNat 0 := by rw [hx]; unfold y_nc; congr 1; omega
                have hy2 : y = y_nc (σ 140) r.toNat 1 := by rw [hy]; unfold y_nc; congr 1; omega
                have ex := y_chx (σ 140 (65 + 12 * r.toNat))
                have ex2 := y_chx (σ 140 (63 + 12 * r + 2).toNat)
                by_cases c : σ 140 (63 + 12 * r.toNat) = p ∧ ¬ y_wl (σ 140) w r.toNat
                · rw [if_pos c]
                  try (unfold y_wl at c; omega)
                · rw [if_neg c]
                  first
                    | exact hv
                    | (unfold y_wl at c; omega)
            · skip
              refine x_fall ?_
              refine x_blk (b := 15) (a_197 E) rfl ?_
              unfold b_197_15
              refine x_push 1 rfl ?_
              refine x_goto ?_
              refine x_blk (b := 12) (a_197 E) rfl ?_
              unfold b_197_12
              refine x_istore ?_
              refine x_X_lo (lo' := [(0, x_R 138), (1, x_I _), (2, x_I _), (3, x_I _), (4, x_I _), (5, x_I _), (6, x_I _), (7, x_I _), (8, x_I _)]) ⟨rfl, rfl, rfl, rfl, rfl, rfl, rfl, rfl, rfl, trivial⟩ ?_
              refine x_aload rfl ?_
              refine x_iload rfl ?_
              refine x_push 0 rfl ?_
              refine x_cV (fun _ => rfl) rfl (by decide) (Nat.le_of_ble_eq_true rfl) ?_
              refine c_3 (by omega) (by omega) (fun c35a c35b => ?_)
              refine x_iload rfl ?_
              refine x_icmp_ne (by omega) (by omega) (by omega) (by omega) (fun z36 => ?_) (fun z36 => ?_)
              · skip
                refine x_iload rfl ?_
                refine x_if_ne (by decide) (by decide) (fun z => absurd z (by decide)) (fun _ => ?_)
                refine x_blk (b := 16) (a_197 E) rfl ?_
                unfold b_197_16
                refine x_iload rfl ?_
                refine x_fall ?_
                refine x_blk (b := 17) (a_197 E) rfl ?_
                unfold b_197_17
                refine x_istore ?_
                refine x_X_lo (lo' := [(0, x_R 138), (1, x_I _), (2, x_I _), (3, x_I _), (4, x_I _)]) ⟨rfl, rfl, rfl, rfl, rfl, trivial⟩ ?_
                refine x_iinc 1 rfl rfl ?_
                refine x_goto ?_
                refine x_G_lo (lo' := [(0, x_R 138), (1, x_I p), (2, x_I w), (3, x_I _), (4, x_I (r + 1))]) ⟨rfl, rfl, rfl, rfl, rfl, trivial⟩ ?_
                refine ho _ ?_
                rw [show (r + 1).toNat = r.toNat + 1 by omega, y_li_s]
                have hx2 : x = y_nc (σ 140) r.toNat 0 := by rw [hx]; unfold y_nc; congr 1; omega
                have hy2 : y = y_nc (σ 140) r.toNat 1 := by rw [hy]; unfold y_nc; congr 1; omega
                have ex := y_chx (σ 140 (65 + 12 * r.toNat))
                have ex2 := y_chx (σ 140 (63 + 12 * r + 2).toNat)
                by_cases c : σ 140 (63 + 12 * r.toNat) = p ∧ ¬ y_wl (σ 140) w r.toNat
                · rw [if_pos c]
                  try (unfold y_wl at c; omega)
                · rw [if_neg c]
                  first
                    | exact hv
                    | (unfold y_wl at c; omega)
              · skip
                refine x_blk (b := 16) (a_197 E) rfl ?_
                unfold b_197_16
                refine x_iload rfl ?_
                refine x_fall ?_
                refine x_blk (b := 17) (a_197 E) rfl ?_
                unfold b_197_17
                refine x_istore ?_
                refine x_X_lo (lo' := [(0, x_R 138), (1, x_I _), (2, x_I _), (3, x_I _), (4, x_I _)]) ⟨rfl, rfl, rfl, rfl, rfl, trivial⟩ ?_
                refine x_iinc 1 rfl rfl ?_
                refine x_goto ?_
                refine x_G_lo (lo' := [(0, x_R 138), (1, x_I p), (2, x_I w), (3, x_I _), (4, x_I (r + 1))]) ⟨rfl, rfl, rfl, rfl, rfl, trivial⟩ ?_
                refine ho _ ?_
                rw [show (r + 1).toNat = r.toNat + 1 by omega, y_li_s]
                have hx2 : x = y_nc (σ 140) r.toNat 0 := by rw [hx]; unfold y_nc; congr 1; omega
                have hy2 : y = y_nc (σ 140) r.toNat 1 := by rw [hy]; unfold y_nc; congr 1; omega
                have ex := y_chx (σ 140 (65 + 12 * r.toNat))
                have ex2 := y_chx (σ 140 (63 + 12 * r + 2).toNat)
                by_cases c : σ 140 (63 + 12 * r.toNat) = p ∧ ¬ y_wl (σ 140) w r.toNat
                · rw [if_pos c]
                  try (unfold y_wl at c; omega)
                · rw [if_neg c]
                  first
                    | exact hv
                    | (unfold y_wl at c; omega)
        · skip
          refine x_iload rfl ?_
          refine x_if_le (by omega) (by omega) (fun z38 => ?_) (fun z38 => ?_)
          · skip
            refine x_blk (b := 14) (a_197 E) rfl ?_
            unfold b_197_14
            refine x_push 0 rfl ?_
            refine x_fall ?_
            refine x_blk (b := 12) (a_197 E) rfl ?_
            unfold b_197_12
            refine x_istore ?_
            refine x_X_lo (lo' := [(0, x_R 138), (1, x_I _), (2, x_I _), (3, x_I _), (4, x_I _), (5, x_I _), (6, x_I _), (7, x_I _), (8, x_I _)]) ⟨rfl, rfl, rfl, rfl, rfl, rfl, rfl, rfl, rfl, trivial⟩ ?_
            refine x_aload rfl ?_
            refine x_iload rfl ?_
            refine x_push 0 rfl ?_
            refine x_cV (fun _ => rfl) rfl (by decide) (Nat.le_of_ble_eq_true rfl) ?_
            refine c_3 (by omega) (by omega) (fun c39a c39b => ?_)
            refine x_iload rfl ?_
            refine x_icmp_ne (by omega) (by omega) (by omega) (by omega) (fun z40 => ?_) (fun z40 => ?_)
            · skip
              refine x_iload rfl ?_
              refine x_if_ne (by decide) (by decide) (fun _ => ?_) (fun z => absurd (by decide) z)
              refine x_push 0 rfl ?_
              refine x_goto ?_
              refine x_blk (b := 17) (a_197 E) rfl ?_
              unfold b_197_17
              refine x_istore ?_
              refine x_X_lo (lo' := [(0, x_R 138), (1, x_I _), (2, x_I _), (3, x_I _), (4, x_I _)]) ⟨rfl, rfl, rfl, rfl, rfl, trivial⟩ ?_
              refine x_iinc 1 rfl rfl ?_
              refine x_goto ?_
              refine x_G_lo (lo' := [(0, x_R 138), (1, x_I p), (2, x_I w), (3, x_I _), (4, x_I (r + 1))]) ⟨rfl, rfl, rfl, rfl, rfl, trivial⟩ ?_
              refine ho _ ?_
              rw [show (r + 1).toNat = r.toNat + 1 by omega, y_li_s]
              have hx2 : x = y_nc (σ 140) r.toNat 0 := by rw [hx]; unfold y_nc; congr 1; omega
              have hy2 : y = y_nc (σ 140) r.toNat 1 := by rw [hy]; unfold y_nc; congr 1; omega
              have ex := y_chx (σ 140 (65 + 12 * r.toNat))
              have ex2 := y_chx (σ 140 (63 + 12 * r + 2).toNat)
              by_cases c : σ 140 (63 + 12 * r.toNat) = p ∧ ¬ y_wl (σ 140) w r.toNat
              · rw [if_pos c]
                try (unfold y_wl at c; omega)
              · rw [if_neg c]
                first
                  | exact hv
                  | (unfold y_wl at c; omega)
            · skip
              refine x_blk (b := 16) (a_197 E) rfl ?_
              unfold b_197_16
              refine x_iload rfl ?_
              refine x_fall ?_
              refine x_blk (b := 17) (a_197 E) rfl ?_
              unfold b_197_17
              refine x_istore ?_
              refine x_X_lo (lo' := [(0, x_R 138), (1, x_I _), (2, x_I _), (3, x_I _), (4, x_I _)]) ⟨rfl, rfl, rfl, rfl, rfl, trivial⟩ ?_
              refine x_iinc 1 rfl rfl ?_
              refine x_goto ?_
              refine x_G_lo (lo' := [(0, x_R 138), (1, x_I p), (2, x_I w), (3, x_I _), (4, x_I (r + 1))]) ⟨rfl, rfl, rfl, rfl, rfl, trivial⟩ ?_
              refine ho _ ?_
              rw [show (r + 1).toNat = r.toNat + 1 by omega, y_li_s]
              have hx2 : x = y_nc (σ 140) r.toNat 0 := by rw [hx]; unfold y_nc; congr 1; omega
              have hy2 : y = y_nc (σ 140) r.toNat 1 := by rw [hy]; unfold y_nc; congr 1; omega
              have ex := y_chx (σ 140 (65 + 12 * r.toNat))
              have ex2 := y_chx (σ 140 (63 + 12 * r + 2).toNat)
              by_cases c : σ 140 (63 + 12 * r.toNat) = p ∧ ¬ y_wl (σ 140) w r.toNat
              · rw [if_pos c]
                try (unfold y_wl at c; omega)
              · rw [if_neg c]
                first
                  | exact hv
                  | (unfold y_wl at c; omega)
          · skip
            refine x_fall ?_
            refine x_blk (b := 13) (a_197 E) rfl ?_
            unfold b_197_13
            refine x_iload rfl ?_
            refine x_push 2 rfl ?_
            refine x_icmp_lt (by omega) (by omega) (by omega) (by omega) (fun z42 => ?_) (fun z42 => ?_)
            · skip
              refine x_blk (b := 15) (a_197 E) rfl ?_
              unfold b_197_15
              refine x_push 1 rfl ?_
              refine x_goto ?_
              refine x_blk (b := 12) (a_197 E) rfl ?_
              unfold b_197_12
              refine x_istore ?_
              refine x_X_lo (lo' := [(0, x_R 138), (1, x_I _), (2, x_I _), (3, x_I _), (4, x_I _), (5, x_I _), (6, x_I _), (7, x_I _), (8, x_I _)]) ⟨rfl, rfl, rfl, rfl, rfl, rfl, rfl, rfl, rfl, trivial⟩ ?_
              refine x_aload rfl ?_
              refine x_iload rfl ?_
              refine x_push 0 rfl ?_
              refine x_cV (fun _ => rfl) rfl (by decide) (Nat.le_of_ble_eq_true rfl) ?_
              refine c_3 (by omega) (by omega) (fun c43a c43b => ?_)
              refine x_iload rfl ?_
              refine x_icmp_ne (by omega) (by omega) (by omega) (by omega) (fun z44 => ?_) (fun z44 => ?_)
              · skip
                refine x_iload rfl ?_
                refine x_if_ne (by decide) (by decide) (fun z => absurd z (by decide)) (fun _ => ?_)
                refine x_blk (b := 16) (a_197 E) rfl ?_
                unfold b_197_16
                refine x_iload rfl ?_
                refine x_fall ?_
                refine x_blk (b := 17) (a_197 E) rfl ?_
                unfold b_197_17
                refine x_istore ?_
                refine x_X_lo (lo' := [(0, x_R 138), (1, x_I _), (2, x_I _), (3, x_I _), (4, x_I _)]) ⟨rfl, rfl, rfl, rfl, rfl, trivial⟩ ?_
                refine x_iinc 1 rfl rfl ?_
                refine x_goto ?_
                refine x_G_lo (lo' := [(0, x_R 138), (1, x_I p), (2, x_I w), (3, x_I _), (4, x_I (r + 1))]) ⟨rfl, rfl, rfl, rfl, rfl, trivial⟩ ?_
                refine ho _ ?_
                rw [show (r + 1).toNat = r.toNat + 1 by omega, y_li_s]
                have hx2 : x = y_nc (σ 140) r.toNat 0 := by rw [hx]; unfold y_nc; congr 1; omega
                have hy2 : y = y_nc (σ 140) r.toNat 1 := by rw [hy]; unfold y_nc; congr 1; omega
                have ex := y_chx (σ 140 (65 + 12 * r.toNat))
                have ex2 := y_chx (σ 140 (63 + 12 * r + 2).toNat)
                by_cases c : σ 140 (63 + 12 * r.toNat) = p ∧ ¬ y_wl (σ 140) w r.toNat
                · rw [if_pos c]
                  try (unfold y_wl at c; omega)
                · rw [if_neg c]
                  first
                    | exact hv
                    | (unfold y_wl at c; omega)
              · skip
                refine x_blk (b := 16) (a_197 E) rfl ?_
                unfold b_197_16
                refine x_iload rfl ?_
                refine x_fall ?_
                refine x_blk (b := 17) (a_197 E) rfl ?_
                unfold b_197_17
                refine x_istore ?_
                refine x_X_lo (lo' := [(0, x_R 138), (1, x_I _), (2, x_I _), (3, x_I _), (4, x_I _)]) ⟨rfl, rfl, rfl, rfl, rfl, trivial⟩ ?_
                refine x_iinc 1 rfl rfl ?_
                refine x_goto ?_
                refine x_G_lo (lo' := [(0, x_R 138), (1, x_I p), (2, x_I w), (3, x_I _), (4, x_I (r + 1))]) ⟨rfl, rfl, rfl, rfl, rfl, trivial⟩ ?_
                refine ho _ ?_
                rw [show (r + 1).toNat = r.toNat + 1 by omega, y_li_s]
                have hx2 : x = y_nc (σ 140) r.toNat 0 := by rw [hx]; unfold y_nc; congr 1; omega
                have hy2 : y = y_nc (σ 140) r.toNat 1 := by rw [hy]; unfold y_nc; congr 1; omega
                have ex := y_chx (σ 140 (65 + 12 * r.toNat))
                have ex2 := y_chx (σ 140 (63 + 12 * r + 2).toNat)
                by_cases c : σ 140 (63 + 12 * r.toNat) = p ∧ ¬ y_wl (σ 140) w r.toNat
                · rw [if_pos c]
                  try (unfold y_wl at c; omega)
                · rw [if_neg c]
                  first
                    | exact hv
                    | (unfold y_wl at c; omega)
            · skip
              refine x_iload rfl ?_
              refine x_if_le (by omega) (by omega) (fun z46 => ?_) (fun z46 => ?_)
              · skip
                refine x_blk (b := 14) (a_197 E) rfl ?_
                unfold b_197_14
                refine x_push 0 rfl ?_
                refine x_fall ?_
                refine x_blk (b := 12) (a_197 E) rfl ?_
                unfold b_197_12
                refine x_istore ?_
                refine x_X_lo (lo' := [(0, x_R 138), (1, x_I _), (2, x_I _), (3, x_I _), (4, x_I _), (5, x_I _), (6, x_I _), (7, x_I _), (8, x_I _)]) ⟨rfl, rfl, rfl, rfl, rfl, rfl, rfl, rfl, rfl, trivial⟩ ?_
                refine x_aload rfl ?_
                refine x_iload rfl ?_
                refine x_push 0 rfl ?_
                refine x_cV (fun _ => rfl) rfl (by decide) (Nat.le_of_ble_eq_true rfl) ?_
                refine c_3 (by omega) (by omega) (fun c47a c47b => ?_)
                refine x_iload rfl ?_
                refine x_icmp_ne (by omega) (by omega) (by omega) (by omega) (fun z48 => ?_) (fun z48 => ?_)
                · skip
                  refine x_iload rfl ?_
                  refine x_if_ne (by decide) (by decide) (fun _ => ?_) (fun z => absurd (by decide) z)
                  refine x_push 0 rfl ?_
                  refine x_goto ?_
                  refine x_blk (b := 17) (a_197 E) rfl ?_
                  unfold b_197_17
                  refine x_istore ?_
                  refine x_X_lo (lo' := [(0, x_R 138), (1, x_I _), (2, x_I _), (3, x_I _), (4, x_I _)]) ⟨rfl, rfl, rfl, rfl, rfl, trivial⟩ ?_
                  refine x_iinc 1 rfl rfl ?_
                  refine x_goto ?_
                  refine x_G_lo (lo' := [(0, x_R 138), (1, x_I p), (2, x_I w), (3, x_I _), (4, x_I (r + 1))]) ⟨rfl, rfl, rfl, rfl, rfl, trivial⟩ ?_
                  refine ho _ ?_
                  rw [show (r + 1).toNat = r.toNat + 1 by omega, y_li_s]
                  have hx2 : x = y_nc (σ 140) r.toNat 0 := by rw [hx]; unfold y_nc; congr 1; omega
                  have hy2 : y = y_nc (σ 140) r.toNat 1 := by rw [hy]; unfold y_nc; congr 1; omega
                  have ex := y_chx (σ 140 (65 + 12 * r.toNat))
                  have ex2 := y_chx (σ 140 (63 + 12 * r + 2).toNat)
                  by_cases c : σ 140 (63 + 12 * r.toNat) = p ∧ ¬ y_wl (σ 140) w r.toNat
                  · rw [if_pos c]
                    try (unfold y_wl at c; omega)
                  · rw [if_neg c]
                    first
                      | exact hv
                      | (unfold y_wl at c; omega)
                · skip
                  refine x_blk (b := 16) (a_197 E) rfl ?_
                  unfold b_197_16
                  refine x_iload rfl ?_
                  refine x_fall ?_
                  refine x_blk (b := 17) (a_197 E) rfl ?_
                  unfold b_197_17
                  refine x_istore ?_
                  refine x_X_lo (lo' := [(0, x_R 138), (1, x_I _), (2, x_I _), (3, x_I _), (4, x_I _)]) ⟨rfl, rfl, rfl, rfl, rfl, trivial⟩ ?_
                  refine x_iinc 1 rfl rfl ?_
                  refine x_goto ?_
                  refine x_G_lo (lo' := [(0, x_R 138), (1, x_I p), (2, x_I w), (3, x_I _), (4, x_I (r + 1))]) ⟨rfl, rfl, rfl, rfl, rfl, trivial⟩ ?_
                  refine ho _ ?_
                  rw [show (r + 1).toNat = r.toNat + 1 by omega, y_li_s]
                  have hx2 : x = y_nc (σ 140) r.toNat 0 := by rw [hx]; unfold y_nc; congr 1; omega
                  have hy2 : y = y_nc (σ 140) r.toNat 1 := by rw [hy]; unfold y_nc; congr 1; omega
                  have ex := y_chx (σ 140 (65 + 12 * r.toNat))
                  have ex2 := y_chx (σ 140 (63 + 12 * r + 2).toNat)
                  by_cases c : σ 140 (63 + 12 * r.toNat) = p ∧ ¬ y_wl (σ 140) w r.toNat
                  · rw [if_pos c]
                    try (unfold y_wl at c; omega)
                  · rw [if_neg c]
                    first
                      | exact hv
                      | (unfold y_wl at c; omega)
              · skip
                refine x_fall ?_
                refine x_blk (b := 15) (a_197 E) rfl ?_
                unfold b_197_15
                refine x_push 1 rfl ?_
                refine x_goto ?_
                refine x_blk (b := 12) (a_197 E) rfl ?_
                unfold b_197_12
                refine x_istore ?_
                refine x_X_lo (lo' := [(0, x_R 138), (1, x_I _), (2, x_I _), (3, x_I _), (4, x_I _), (5, x_I _), (6, x_I _), (7, x_I _), (8, x_I _)]) ⟨rfl, rfl, rfl, rfl, rfl, rfl, rfl, rfl, rfl, trivial⟩ ?_
                refine x_aload rfl ?_
                refine x_iload rfl ?_
                refine x_push 0 rfl ?_
                refine x_cV (fun _ => rfl) rfl (by decide) (Nat.le_of_ble_eq_true rfl) ?_
                refine c_3 (by omega) (by omega) (fun c50a c50b => ?_)
                refine x_iload rfl ?_
                refine x_icmp_ne (by omega) (by omega) (by omega) (by omega) (fun z51 => ?_) (fun z51 => ?_)
                · skip
                  refine x_iload rfl ?_
                  refine x_if_ne (by decide) (by decide) (fun z => absurd z (by decide)) (fun _ => ?_)
                  refine x_blk (b := 16) (a_197 E) rfl ?_
                  unfold b_197_16
                  refine x_iload rfl ?_
                  refine x_fall ?_
                  refine x_blk (b := 17) (a_197 E) rfl ?_
                  unfold b_197_17
                  refine x_istore ?_
                  refine x_X_lo (lo' := [(0, x_R 138), (1, x_I _), (2, x_I _), (3, x_I _), (4, x_I _)]) ⟨rfl, rfl, rfl, rfl, rfl, trivial⟩ ?_
                  refine x_iinc 1 rfl rfl ?_
                  refine x_goto ?_
                  refine x_G_lo (lo' := [(0, x_R 138), (1, x_I p), (2, x_I w), (3, x_I _), (4, x_I (r + 1))]) ⟨rfl, rfl, rfl, rfl, rfl, trivial⟩ ?_
                  refine ho _ ?_
                  rw [show (r + 1).toNat = r.toNat + 1 by omega, y_li_s]
                  have hx2 : x = y_nc (σ 140) r.toNat 0 := by rw [hx]; unfold y_nc; congr 1; omega
                  have hy2 : y = y_nc (σ 140) r.toNat 1 := by rw [hy]; unfold y_nc; congr 1; omega
                  have ex := y_chx (σ 140 (65 + 12 * r.toNat))
                  have ex2 := y_chx (σ 140 (63 + 12 * r + 2).toNat)
                  by_cases c : σ 140 (63 + 12 * r.toNat) = p ∧ ¬ y_wl (σ 140) w r.toNat
                  · rw [if_pos c]
                    try (unfold y_wl at c; omega)
                  · rw [if_neg c]
                    first
                      | exact hv
                      | (unfold y_wl at c; omega)
                · skip
                  refine x_blk (b := 16) (a_197 E) rfl ?_
                  unfold b_197_16
                  refine x_iload rfl ?_
                  refine x_fall ?_
                  refine x_blk (b := 17) (a_197 E) rfl ?_
                  unfold b_197_17
                  refine x_istore ?_
                  refine x_X_lo (lo' := [(0, x_R 138), (1, x_I _), (2, x_I _), (3, x_I _), (4, x_I _)]) ⟨rfl, rfl, rfl, rfl, rfl, trivial⟩ ?_
                  refine x_iinc 1 rfl rfl ?_
                  refine x_goto ?_
                  refine x_G_lo (lo' := [(0, x_R 138), (1, x_I p), (2, x_I w), (3, x_I _), (4, x_I (r + 1))]) ⟨rfl, rfl, rfl, rfl, rfl, trivial⟩ ?_
                  refine ho _ ?_
                  rw [show (r + 1).toNat = r.toNat + 1 by omega, y_li_s]
                  have hx2 : x = y_nc (σ 140) r.toNat 0 := by rw [hx]; unfold y_nc; congr 1; omega
                  have hy2 : y = y_nc (σ 140) r.toNat 1 := by rw [hy]; unfold y_nc; congr 1; omega
                  have ex := y_chx (σ 140 (65 + 12 * r.toNat))
                  have ex2 := y_chx (σ 140 (63 + 12 * r + 2).toNat)
                  by_cases c : σ 140 (63 + 12 * r.toNat) = p ∧ ¬ y_wl (σ 140) w r.toNat
                  · rw [if_pos c]
                    try (unfold y_wl at c; omega)
                  · rw [if_neg c]
                    first
                      | exact hv
                      | (unfold y_wl at c; omega)
theorem cx_197_a {E : q_E} {σ : x_S} {Q : Option q_V → x_S → Prop} {p w : Int} (p1 : -2147483648 ≤ p) (p2 : p ≤ 2147483647) (w1 : -2147483648 ≤ w) (w2 : w ≤ 2147483647) (hP : y_PI (σ 140)) (b1 : 0 ≤ p ∧ p ≤ 1) (b2 : 0 ≤ w ∧ w ≤ 1) (k : Q (some (x_I (y_li (σ 140) p w (σ 140 62).toNat))) σ) : ∀ (N : Nat) (is r : Int), 0 ≤ r → r ≤ σ 140 62 → (16 - r).toNat = N → is = y_li (σ 140) p w r.toNat → x_G E m_197 Q (t_197 18) [(0, x_R 138), (1, x_I p), (2, x_I w), (3, x_I is), (4, x_I r)] [] σ := by
  intro N
  induction N using Nat.strongRecOn with
  | ind N ih =>
    intro is r i1 i2 hN hv
    have ru := hP.2.2.2.1
    have lb := y_li_b (A := σ 140) (p := p) (w := w) r.toNat
    rw [← hv] at lb
    refine x_blk (b := 18) (a_197 E) rfl ?_
    unfold b_197_18
    refine x_iload rfl ?_
    refine x_aload rfl ?_
    refine x_getR (r := 138) rfl (by decide) (by decide) rfl ?_
    refine x_push 62 rfl ?_
    refine x_iald (r := 140) (n := 256) (m := 62) rfl rfl (by decide) (fun _ => rfl) rfl (by omega) (by omega) ?_
    intro g1a g1b
    refine x_icmp_ge (by omega) (by omega) (by omega) (by omega) (fun z2 => ?_) (fun z2 => ?_)
    · skip
      refine x_push 0 rfl ?_
      refine x_istore ?_
      refine x_push 0 rfl ?_
      refine x_istore ?_
      refine x_push 0 rfl ?_
      refine x_istore ?_
      refine x_fall ?_
      refine x_G_lo (lo' := [(0, x_R 138), (1, x_I p), (2, x_I w), (3, x_I is), (4, x_I r), (5, x_I 0), (6, x_I 0), (7, x_I 0)]) ⟨rfl, rfl, rfl, rfl, rfl, rfl, rfl, rfl, trivial⟩ ?_
      have p7 := y_PI_pc hP (r := r.toNat) (by omega)
      exact cx_197_b p1 p2 w1 w2 hP b1 b2 k i1 (by omega) lb hv (fun is' h' => ih _ (by omega) is' (r + 1) (by omega) (by omega) rfl h') _ 0 0 0 (by omega) (by omega) rfl rfl rfl
    · skip
      refine x_blk (b := 3) (a_197 E) rfl ?_
      unfold b_197_3
      refine x_iload rfl ?_
      refine x_iret ?_
      refine x_fin (b := y_li (σ 140) p w (σ 140 62).toNat) ?_ k
      rw [hv]
      congr 1
      omega
theorem cx_197 {E : q_E} {σ : x_S} {Q : Option q_V → x_S → Prop} {p w : Int} (p1 : -2147483648 ≤ p) (p2 : p ≤ 2147483647) (w1 : -2147483648 ≤ w) (w2 : w ≤ 2147483647) (hP : y_PI (σ 140)) (kB : ¬ ((0 ≤ p ∧ p ≤ 1) ∧ (0 ≤ w ∧ w ≤ 1)) → Q (some (x_I (-1))) σ) (kS : (0 ≤ p ∧ p ≤ 1) → (0 ≤ w ∧ w ≤ 1) → Q (some (x_I (y_li (σ 140) p w (σ 140 62).toNat))) σ) : x_P E 197 [x_R 138, x_I p, x_I w] σ Q := by
  refine x_Mt e_197 (h_197 E) (Nat.le_of_ble_eq_true rfl) t_197 rfl ?_
  refine x_blk (b := 0) (a_197 E) rfl ?_
  unfold b_197_0
  refine x_iload rfl ?_
  refine x_cS (fun _ => rfl) (Nat.le_of_ble_eq_true rfl) ?_
  refine c_64 (by omega) (by omega) (fun y1 => ?_) (fun y1 => ?_)
  · skip
    refine x_if_eq (by decide) (by decide) (fun z => absurd z (by decide)) (fun _ => ?_)
    refine x_iload rfl ?_
    refine x_i2l (by omega) (by omega) ?_
    refine x_pushL 0 rfl ?_
    refine x_pushL 1 rfl ?_
    refine x_cS (fun _ => rfl) (Nat.le_of_ble_eq_true rfl) ?_
    refine c_45 (by omega) (by omega) (by omega) (by omega) (by omega) (by omega) (fun y3 => ?_) (fun y3 => ?_)
    · skip
      refine x_if_ne (by decide) (by decide) (fun z => absurd z (by decide)) (fun _ => ?_)
      refine x_blk (b := 2) (a_197 E) rfl ?_
      unfold b_197_2
      refine x_push 1 rfl ?_
      refine x_istore ?_
      refine x_push 0 rfl ?_
      refine x_istore ?_
      refine x_fall ?_
      have ru := hP.2.2.2.1
      refine x_G_lo (lo' := [(0, x_R 138), (1, x_I p), (2, x_I w), (3, x_I 1), (4, x_I 0)]) ⟨rfl, rfl, rfl, rfl, rfl, trivial⟩ ?_
      exact cx_197_a p1 p2 w1 w2 hP (by omega) (by omega) (kS (by omega) (by omega)) _ 1 0 (by omega) (by omega) rfl rfl
    · skip
      refine x_if_ne (by decide) (by decide) (fun _ => ?_) (fun z => absurd (by decide) z)
      refine x_fall ?_
      refine x_blk (b := 1) (a_197 E) rfl ?_
      unfold b_197_1
      refine x_push (-1) rfl ?_
      refine x_iret ?_
      exact kB (by omega)
  · skip
    refine x_if_eq (by decide) (by decide) (fun _ => ?_) (fun z => absurd (by decide) z)
    refine x_blk (b := 1) (a_197 E) rfl ?_
    unfold b_197_1
    refine x_push (-1) rfl ?_
    refine x_iret ?_
    exact kB (by omega)
