theorem kz_53 {E : q_E} {σ : x_S} {Q : Option q_V → x_S → Prop} {a1 a2 : Int} (C0 : y_CI σ) {A : Nat → Int} (hP : y_PI A) (h4 : y_PG σ 4 A) (r1 : 0 ≤ a1) (r2 : a1 < A 62) (i1 : 0 ≤ a2) (i2 : a2 < A (67 + 12 * a1.toNat)) (k : ∀ v, 0 ≤ v → v ≤ 15 → v = A (68 + 12 * a1.toNat + a2.toNat) → Q (some (x_I v)) σ) : x_P E 53 [x_R 4, x_I a1, x_I a2] σ Q := by
  have h62 := hP.2.2.2.1
  have p7 := y_PI_pc hP (r := a1.toNat) (by omega)
  have w4 : σ 9 (a1 * 12 + 4).toNat = A (67 + 12 * a1.toNat) := by
    have e := y_PG_w h4.1 (r := a1.toNat) (c := 4) (by omega) (by omega)
    rw [show (a1 * 12 + 4).toNat = 12 * a1.toNat + 4 by omega]
    exact e.trans (congrArg A (by omega))
  have wp : σ 9 (a1 * 12 + 5 + a2).toNat = A (68 + 12 * a1.toNat + a2.toNat) := by
    have e := y_PG_w h4.1 (r := a1.toNat) (c := 5 + a2.toNat) (by omega) (by omega)
    rw [show (a1 * 12 + 5 + a2).toNat = 12 * a1.toNat + (5 + a2.toNat) by omega]
    exact e.trans (congrArg A (by omega))
  exact kx_53_4 (by omega) (by omega) (by omega) (by omega) C0 (fun v va vb vc => k v (by omega) vb (by omega))
theorem kx_85_101_4 {E : q_E} {σ : x_S} {Q : Option q_V → x_S → Prop} {a2 : Int} (a2l : -2147483648 ≤ a2) (a2h : a2 ≤ 2147483647) (C0 : y_CI σ) (k : ∀ v, (-4) ≤ v → v ≤ 15 → (((0 ≤ a2 ∧ a2 < σ 101 3) ∧ v = σ 102 a2.toNat) ∨ (¬ (0 ≤ a2 ∧ a2 < σ 101 3) ∧ v = -4)) → Q (some (x_I v)) σ) : x_P E 85 [x_R 101, x_R 4, x_I a2] σ Q := by
  have c3 : 0 ≤ σ 101 3 ∧ σ 101 3 ≤ 40 := C0 101 3 (by decide) (by decide) (by decide)
  refine x_Mt e_85 (h_85 E) (Nat.le_of_ble_eq_true rfl) t_85 rfl ?_
  refine x_blk (b := 0) (a_85 E) rfl ?_
  unfold b_85_0
  refine x_iload rfl ?_
  refine x_aload rfl ?_
  refine x_getIG y_f101_3 C0 ?_
  intro g1a g1b
  refine x_cS (fun _ => rfl) (Nat.le_of_ble_eq_true rfl) ?_
  refine sf_2 (by omega) (by omega) (by omega) (by omega) C0 (fun y2 => ?_) (fun y2 => ?_)
  · skip
    refine x_if_eq (by omega) (by omega) (fun z => absurd z (by omega)) (fun z3 => ?_)
    refine x_aload rfl ?_
    refine x_getR (r := 101) rfl (by decide) (by decide) rfl ?_
    refine x_iload rfl ?_
    refine x_ialdX y_a102 C0 (by omega) (by omega) (fun v4 v4x v4a v4b => ?_)
    refine x_goto ?_
    refine x_blk (b := 2) (a_85 E) rfl ?_
    unfold b_85_2
    refine x_iret ?_
    exact k _ (by omega) (by omega) (by omega)
  · skip
    refine x_if_eq (by omega) (by omega) (fun z5 => ?_) (fun z => absurd (by omega) z)
    refine x_blk (b := 1) (a_85 E) rfl ?_
    unfold b_85_1
    refine x_push (-4) rfl ?_
    refine x_fall ?_
    refine x_blk (b := 2) (a_85 E) rfl ?_
    unfold b_85_2
    refine x_iret ?_
    exact k _ (by omega) (by omega) (by omega)
theorem kx_142_101_4 {E : q_E} {σ : x_S} {Q : Option q_V → x_S → Prop} {a2 a3 : Int} (b1 : 0 ≤ a2) (b2 : a2 ≤ 39) (b3 : 0 ≤ a3) (b4 : a3 ≤ 1) (hs : a2 + 1 < σ 101 3 → 0 ≤ σ 103 (a2 + 1).toNat ∧ σ 103 (a2 + 1).toNat ≤ 40) (C0 : y_CI σ) (k : ∀ v, 0 ≤ v → v ≤ 100 → ((a3 = 0 ∧ v = a2 + 1) ∨ (a3 = 1 ∧ a2 + 1 < σ 101 3 ∧ v = a2 + 1 + σ 103 (a2 + 1).toNat) ∨ (a3 = 1 ∧ ¬ a2 + 1 < σ 101 3 ∧ v = a2 + 1)) → Q (some (x_I v)) σ) : x_P E 142 [x_R 101, x_R 4, x_I a2, x_I a3] σ Q := by
  have c3 : 0 ≤ σ 101 3 ∧ σ 101 3 ≤ 40 := C0 101 3 (by decide) (by decide) (by decide)
  refine x_Mt e_142 (h_142 E) (Nat.le_of_ble_eq_true rfl) t_142 rfl ?_
  refine x_blk (b := 0) (a_142 E) rfl ?_
  unfold b_142_0
  refine x_iload rfl ?_
  refine x_push 1 rfl ?_
  refine x_iadd ?_
  refine x_istore ?_
  refine x_iload rfl ?_
  refine x_if_eq (by omega) (by omega) (fun z1 => ?_) (fun z1 => ?_)
  · skip
    refine x_blk (b := 1) (a_142 E) rfl ?_
    unfold b_142_1
    refine x_iload rfl ?_
    refine x_goto ?_
    refine x_blk (b := 3) (a_142 E) rfl ?_
    unfold b_142_3
    refine x_iret ?_
    exact k _ (by omega) (by omega) (by omega)
  · skip
    refine x_iload rfl ?_
    refine x_aload rfl ?_
    refine x_getIG y_f101_3 C0 ?_
    intro g2a g2b
    refine x_cS (fun _ => rfl) (Nat.le_of_ble_eq_true rfl) ?_
    refine sf_2 (by omega) (by omega) (by omega) (by omega) C0 (fun y3 => ?_) (fun y3 => ?_)
    · skip
      refine x_if_ne (by omega) (by omega) (fun z => absurd z (by omega)) (fun z4 => ?_)
      refine x_blk (b := 2) (a_142 E) rfl ?_
      unfold b_142_2
      refine x_iload rfl ?_
      refine x_aload rfl ?_
      refine x_getR (r := 101) rfl (by decide) (by decide) rfl ?_
      refine x_iload rfl ?_
      refine x_ialdX y_a103 C0 (by omega) (by omega) (fun v5 v5x v5a v5b => ?_)
      have hs2 := hs (by omega)
      refine x_iadd ?_
      refine x_fall ?_
      refine x_blk (b := 3) (a_142 E) rfl ?_
      unfold b_142_3
      refine x_iret ?_
      exact k _ (by omega) (by omega) (by omega)
    · skip
      refine x_if_ne (by omega) (by omega) (fun z6 => ?_) (fun z => absurd (by omega) z)
      refine x_fall ?_
      refine x_blk (b := 1) (a_142 E) rfl ?_
      unfold b_142_1
      refine x_iload rfl ?_
      refine x_goto ?_
      refine x_blk (b := 3) (a_142 E) rfl ?_
      unfold b_142_3
      refine x_iret ?_
      exact k _ (by omega) (by omega) (by omega)
theorem kx_143_100 {E : q_E} {σ : x_S} {Q : Option q_V → x_S → Prop} {a1 : Int} (a1l : 0 ≤ a1) (a1h : a1 ≤ 2147483647) (C0 : y_CI σ) (k : ∀ v, 0 ≤ v → v ≤ 2147483647 → v = u_nd a1 → Q (some (x_I v)) σ) : x_P E 143 [x_R 100, x_I a1] σ Q := by
  refine x_Mt e_143 (h_143 E) (Nat.le_of_ble_eq_true rfl) t_143 rfl ?_
  refine x_blk (b := 0) (a_143 E) rfl ?_
  unfold b_143_0
  refine x_iload rfl ?_
  refine x_push 112 rfl ?_
  refine x_idiv (by omega) (by omega) (by omega) (by omega) ?_
  refine x_iret ?_
  exact k _ (by omega) (by omega) rfl
theorem kx_145 {E : q_E} {σ : x_S} {Q : Option q_V → x_S → Prop} {a0 : Int} (a0l : 0 ≤ a0) (a0h : a0 ≤ 2147483647) (C0 : y_CI σ) (k : ∀ v, 0 ≤ v → v ≤ 15 → v = u_rl a0 → Q (some (x_I v)) σ) : x_P E 145 [x_I a0] σ Q := by
  refine x_Mt e_145 (h_145 E) (Nat.le_of_ble_eq_true rfl) t_145 rfl ?_
  refine x_blk (b := 0) (a_145 E) rfl ?_
  unfold b_145_0
  refine x_iload rfl ?_
  refine x_push 7 rfl ?_
  refine x_idiv (by omega) (by omega) (by omega) (by omega) ?_
  refine x_push 16 rfl ?_
  refine x_irem (by omega) (by omega) (by omega) (by omega) ?_
  refine x_iret ?_
  exact k _ (by omega) (by omega) rfl
theorem kx_146 {E : q_E} {σ : x_S} {Q : Option q_V → x_S → Prop} {a0 : Int} (a0l : 0 ≤ a0) (a0h : a0 ≤ 2147483647) (C0 : y_CI σ) (k : ∀ v, 0 ≤ v → v ≤ 6 → v = u_pi a0 → Q (some (x_I v)) σ) : x_P E 146 [x_I a0] σ Q := by
  refine x_Mt e_146 (h_146 E) (Nat.le_of_ble_eq_true rfl) t_146 rfl ?_
  refine x_blk (b := 0) (a_146 E) rfl ?_
  unfold b_146_0
  refine x_iload rfl ?_
  refine x_push 7 rfl ?_
  refine x_irem (by omega) (by omega) (by omega) (by omega) ?_
  refine x_iret ?_
  exact k _ (by omega) (by omega) rfl
theorem kx_141 {E : q_E} {σ : x_S} {Q : Option q_V → x_S → Prop} {a0 a1 a2 : Int} (a0l : 0 ≤ a0) (a0h : a0 ≤ 40) (a1l : 0 ≤ a1) (a1h : a1 ≤ 15) (a2l : 0 ≤ a2) (a2h : a2 ≤ 6) (C0 : y_CI σ) (k : ∀ v, 0 ≤ v → v ≤ 10000 → v = u_pl a0 a1 a2 → Q (some (x_I v)) σ) : x_P E 141 [x_I a0, x_I a1, x_I a2] σ Q := by
  refine x_Mt e_141 (h_141 E) (Nat.le_of_ble_eq_true rfl) t_141 rfl ?_
  refine x_blk (b := 0) (a_141 E) rfl ?_
  unfold b_141_0
  refine x_iload rfl ?_
  refine x_push 16 rfl ?_
  refine x_imul ?_
  refine x_iload rfl ?_
  refine x_iadd ?_
  refine x_push 7 rfl ?_
  refine x_imul ?_
  refine x_iload rfl ?_
  refine x_iadd ?_
  refine x_iret ?_
  exact k _ (by omega) (by omega) rfl
theorem kx_147_100 {E : q_E} {σ : x_S} {Q : Option q_V → x_S → Prop} {a1 : Int} (a1l : -2147483648 ≤ a1) (a1h : a1 ≤ 2147483647) (C0 : y_CI σ) (k : ∀ v, 2 ≤ v → v ≤ 2 → v = 2 → Q (some (x_I v)) σ) : x_P E 147 [x_R 100, x_I a1] σ Q := by
  refine x_Mt e_147 (h_147 E) (Nat.le_of_ble_eq_true rfl) t_147 rfl ?_
  refine x_blk (b := 0) (a_147 E) rfl ?_
  unfold b_147_0
  refine x_push 2 rfl ?_
  refine x_iret ?_
  exact k _ (by omega) (by omega) rfl
theorem kx_144_100_4 {E : q_E} {σ : x_S} {Q : Option q_V → x_S → Prop} {a2 : Int} (b1 : 0 ≤ a2) (b2 : a2 ≤ 2147483647) (C0 : y_CI σ) {A : Nat → Int} (hP : y_PI A) (h4 : y_PG σ 4 A) (r2 : u_rl a2 < A 62) (i2 : u_pi a2 < A (67 + 12 * (u_rl a2).toNat)) (k : ∀ v, 0 ≤ v → v ≤ 15 → v = A (68 + 12 * (u_rl a2).toNat + (u_pi a2).toNat) → Q (some (x_I v)) σ) : x_P E 144 [x_R 100, x_R 4, x_I a2] σ Q := by
  have ex := u_pl_x a2
  refine x_Mt e_144 (h_144 E) (Nat.le_of_ble_eq_true rfl) t_144 rfl ?_
  refine x_blk (b := 0) (a_144 E) rfl ?_
  unfold b_144_0
  refine x_aload rfl ?_
  refine x_iload rfl ?_
  refine x_cS (fun _ => rfl) (Nat.le_of_ble_eq_true rfl) ?_
  refine kx_145 (by omega) (by omega) C0 (fun v1 v1a v1b v1c => ?_)
  rw [v1c]
  refine x_iload rfl ?_
  refine x_cS (fun _ => rfl) (Nat.le_of_ble_eq_true rfl) ?_
  refine kx_146 (by omega) (by omega) C0 (fun v2 v2a v2b v2c => ?_)
  rw [v2c]
  refine x_cV (fun _ => rfl) rfl (by decide) (Nat.le_of_ble_eq_true rfl) ?_
  refine kz_53 C0 hP h4 (by omega) (by omega) (by omega) (by omega) (fun v3 v3a v3b v3c => ?_)
  refine x_iret ?_
  exact k _ (by omega) (by omega) v3c
theorem kx_151_4_b2 {E : q_E} {σ : x_S} {Q : Option q_V → x_S → Prop} {a1 a2 : Int} (C0 : y_CI σ) {A : Nat → Int} (hP : y_PI A) (h4 : y_PG σ 4 A) (r1 : 0 ≤ a1) (r2 : a1 < A 62) (i1 : 0 ≤ a2) (i2 : a2 < A (67 + 12 * a1.toNat)) (k : ∀ v, 0 ≤ v → v ≤ 7 → v = (u_B A a1.toNat a2.toNat : Int) → Q (some (x_I v)) σ) : ∀ (N : Nat) (d c : Int), (7 - c).toNat = N → 0 ≤ c → c ≤ A (67 + 12 * a1.toNat) → 0 ≤ d → d ≤ 9 → a2 ≤ c → d ≤ c - a2 + 1 → d = y_op (u_W A a1.toNat) c.toNat - (y_op (u_W A a1.toNat) a2.toNat - 1) → u_bh (u_W A a1.toNat) (7 - c.toNat) d c.toNat = u_B A a1.toNat a2.toNat → x_G E m_151 Q (t_151 2) [(0, x_R 4), (1, x_I a1), (3, x_I d), (4, x_I c)] [] σ := by
  have h62 := hP.2.2.2.1
  obtain ⟨pb, pp, pz⟩ := u_rw hP (r := a1.toNat) (by omega)
  intro N
  induction N using Nat.strongRecOn with
  | ind N ih =>
    intro d c hN c1 c2 d1 d2 ac dc hd hu
    have pa := pp a2.toNat (by omega)
    have nc : 0 < d → c < A (67 + 12 * a1.toNat) := fun h => by
      by_cases e : c.toNat = (A (67 + 12 * a1.toNat)).toNat
      · rw [e, pz] at hd; omega
      · omega
    refine x_blk (b := 2) (a_151 E) rfl ?_
    unfold b_151_2
    refine x_iload rfl ?_
    refine x_if_le (by omega) (by omega) (fun z1 => ?_) (fun z1 => ?_)
    · skip
      refine x_blk (b := 1) (a_151 E) rfl ?_
      unfold b_151_1
      refine x_iload rfl ?_
      refine x_iret ?_
      refine k _ (by omega) (by omega) ?_
      rw [← hu]
      first
        | (rw [u_bh_t (by omega)]; omega)
        | (rw [show 7 - c.toNc = 0 by omega]; show c = ((c.toNc : Nc) : Int); omega)
    · skip
      refine x_iload rfl ?_
      refine x_push 7 rfl ?_
      refine x_icmp_ge (by omega) (by omega) (by omega) (by omega) (fun z2 => ?_) (fun z2 => ?_)
      · skip
        refine x_iload rfl ?_
        refine x_aload rfl ?_
        refine x_iload rfl ?_
        refine x_iload rfl ?_
        refine x_cV (fun _ => rfl) rfl (by decide) (Nat.le_of_ble_eq_true rfl) ?_
        have nc1 := nc (by omega)
        refine kz_53 C0 hP h4 (by omega) (by omega) (by omega) (by omega) (fun v3 v3a v3b v3c => ?_)
        refine x_cS (fun _ => rfl) (Nat.le_of_ble_eq_true rfl) ?_
        refine ke_7 (by omega) (by omega) (fun v4 v4a v4b v4c => ?_)
        refine x_push 1 rfl ?_
        refine x_isub ?_
        refine x_iadd ?_
        refine x_istore ?_
        refine x_iinc 1 rfl rfl ?_
        refine x_X_lo (lo' := [(0, x_R 4), (1, x_I _), (3, x_I _), (4, x_I _)]) ⟨rfl, rfl, rfl, rfl, trivial⟩ ?_
        refine x_goto ?_
        refine x_G_lo (lo' := [(0, x_R 4), (1, x_I _), (3, x_I _), (4, x_I _)]) ⟨rfl, rfl, rfl, rfl, trivial⟩ ?_
        have os := y_op_s (u_W A a1.toNat) c.toNat
        have ob := y_c9_b (u_W A a1.toNat c.toNat)
        have pcv := w_pc hP r1 r2 c1 (by omega)
        have cx : v4 = y_c9 (u_W A a1.toNat c.toNat) := by
          have cw : u_W A a1.toNat c.toNat = v3 := v3c.symm
          have yx := y_chx v3
          rw [cw]
          unfold y_c9
          by_cases c9 : 9 < v3
          · rw [if_pos c9]; omega
          · rw [if_neg c9]; omega
        have hu2 := hu
        rw [show 7 - c.toNat = (6 - c.toNat) + 1 by omega, u_bh_s (by omega)] at hu2
        refine ih _ (by omega) _ (c + 1) rfl (by omega) (by omega) (by omega) (by omega) (by omega) (by omega) ?_ ?_
        · rw [show (c + 1).toNat = c.toNat + 1 by omega]; omega
        · rw [show (c + 1).toNat = c.toNat + 1 by omega, show 7 - (c.toNat + 1) = 6 - c.toNat by omega, show d + (v4 - 1) = d + y_c9 (u_W A a1.toNat c.toNat) - 1 by omega]
          exact hu2
      · skip
        refine x_blk (b := 1) (a_151 E) rfl ?_
        unfold b_151_1
        refine x_iload rfl ?_
        refine x_iret ?_
        refine k _ (by omega) (by omega) ?_
        rw [← hu]
        first
          | (rw [u_bh_t (by omega)]; omega)
          | (rw [show 7 - c.toNc = 0 by omega]; show c = ((c.toNc : Nc) : Int); omega)
theorem kx_151_4 {E : q_E} {σ : x_S} {Q : Option q_V → x_S → Prop} {a1 a2 : Int} (C0 : y_CI σ) {A : Nat → Int} (hP : y_PI A) (h4 : y_PG σ 4 A) (r1 : 0 ≤ a1) (r2 : a1 < A 62) (i1 : 0 ≤ a2) (i2 : a2 < A (67 + 12 * a1.toNat)) (k : ∀ v, 0 ≤ v → v ≤ 7 → v = (u_B A a1.toNat a2.toNat : Int) → Q (some (x_I v)) σ) : x_P E 151 [x_R 4, x_I a1, x_I a2] σ Q := by
  have h62 := hP.2.2.2.1
  obtain ⟨pb, pp, pz⟩ := u_rw hP (r := a1.toNat) (by omega)
  refine x_Mt e_151 (h_151 E) (Nat.le_of_ble_eq_true rfl) t_151 rfl ?_
  refine x_blk (b := 0) (a_151 E) rfl ?_
  unfold b_151_0
  refine x_push 1 rfl ?_
  refine x_istore ?_
  refine x_iload rfl ?_
  refine x_istore ?_
  refine x_X_lo (lo' := [(0, x_R 4), (1, x_I _), (2, x_I _), (3, x_I _), (4, x_I _)]) ⟨rfl, rfl, rfl, rfl, rfl, trivial⟩ ?_
  refine x_fall ?_
  refine x_G_lo (lo' := [(0, x_R 4), (1, x_I _), (3, x_I _), (4, x_I _)]) ⟨rfl, rfl, rfl, rfl, trivial⟩ ?_
  exact kx_151_4_b2 C0 hP h4 r1 r2 i1 i2 k _ 1 a2 rfl (by omega) (by omega) (by omega) (by omega) (by omega) (by omega) (by omega) rfl
theorem kx_105_100_4_b4 {E : q_E} {σ : x_S} {Q : Option q_V → x_S → Prop} {a2 a3 : Int} (q1 : 0 ≤ a2) (q2 : a2 ≤ 2) (C0 : y_CI σ) {A : Nat → Int} (hP : y_PI A) (h4 : y_PG σ 4 A) {n : Nat} {l P V : Nat → Int} (n11 : n ≤ 11) (n0 : 1 ≤ n) (tr : y_tr l n) (ms : y_ms A 0 l n P V) (gs : y_gS σ 101 n l P V) (v1 : 0 ≤ a3) (v2 : a3 < n) {F : Int} (hF : u_mk A l P V 11 a2 a3 = F) (k : Q (some (x_I F)) σ) : ∀ (N : Nat) (q v c : Int), (11 - c).toNat = N → 0 ≤ c → c ≤ 11 → 0 ≤ q → q ≤ 2 → 0 ≤ v → v < n → (n : Int) - v ≤ 11 - c → u_mk A l P V (11 - c).toNat q v = F → x_G E m_105 Q (t_105 4) [(0, x_R 100), (1, x_R 4), (4, x_I q), (5, x_I v), (6, x_I c)] [] σ := by
  have h62 := hP.2.2.2.1
  intro N
  induction N using Nat.strongRecOn with
  | ind N ih =>
    intro q v c hN c1 c2 hq1 hq2 hv1 hv2 hk hf
    refine x_blk (b := 4) (a_105 E) rfl ?_
    unfold b_105_4
    refine x_iload rfl ?_
    refine x_push 11 rfl ?_
    refine x_icmp_ge (by omega) (by omega) (by omega) (by omega) (fun z1 => ?_) (fun z1 => ?_)
    · skip
      refine x_aload rfl ?_
      refine x_getR (r := 100) rfl (by decide) (by decide) rfl ?_
      refine x_aload rfl ?_
      refine x_iload rfl ?_
      refine x_cV (fun _ => rfl) rfl (by decide) (Nat.le_of_ble_eq_true rfl) ?_
      have tl := tr.1 v.toNat (by omega)
      have gl := gs.2 v.toNat (by omega)
      have gl1 : σ 102 v.toNat = l v.toNat := gl.1
      have gn : σ 101 3 = n := gs.1
      refine kx_85_101_4 (by omega) (by omega) C0 (fun v2 v2a v2b v2c => ?_)
      have ll : v2 = l v.toNat := by omega
      rw [ll]
      refine x_istore ?_
      refine x_aload rfl ?_
      refine x_push 0 rfl ?_
      refine x_iload rfl ?_
      refine x_iload rfl ?_
      refine x_aload rfl ?_
      refine x_getR (r := 100) rfl (by decide) (by decide) rfl ?_
      refine x_iload rfl ?_
      refine x_cV (fun _ => rfl) rfl (by decide) (Nat.le_of_ble_eq_true rfl) ?_
      have vV := (y_ms_V hP (by decide) (by decide) tr ms _ v.toNat rfl (by omega)).1
      have gl3 : σ 104 v.toNat = V v.toNat := gl.2.2
      refine kx_74_101 (by omega) (by omega) C0 (fun v3 v3a v3b v3c => ?_)
      have vv : v3 = V v.toNat := by omega
      rw [vv]
      refine x_cV (fun _ => rfl) rfl (by decide) (Nat.le_of_ble_eq_true rfl) ?_
      have cs := y_chs h4.2 (p := 0) (q := q) (f := l v.toNat) (l := V v.toNat) (by omega) (by omega) (by omega) (by omega) (by omega) (by omega) (by omega) (by omega)
      refine kx_46_4 (by omega) (by omega) (by omega) (by omega) (by omega) (by omega) (by omega) (by omega) C0 (fun v4 v4a v4b v4c => ?_)
      have se : v4 = y_sel A 0 q (l v.toNat) (V v.toNat) (A 62).toNat := by omega
      rw [se]
      have sb : y_sel A 0 q (l v.toNat) (V v.toNat) (A 62).toNat < 0 ∨ (0 ≤ y_sel A 0 q (l v.toNat) (V v.toNat) (A 62).toNat ∧ y_sel A 0 q (l v.toNat) (V v.toNat) (A 62).toNat < A 62 ∧ A (65 + 12 * (y_sel A 0 q (l v.toNat) (V v.toNat) (A 62).toNat).toNat) = l v.toNat) := by
        by_cases c : y_sel A 0 q (l v.toNat) (V v.toNat) (A 62).toNat < 0
        · exact Or.inl c
        · exact Or.inr (w_sel c)
      have mq : u_mk A l P V (11 - c).toNat q v = _ := hf
      rw [show (11 - c).toNat = (10 - c).toNat + 1 by omega, u_mk_q] at mq
      refine x_istore ?_
      refine x_X_lo (lo' := [(0, x_R 100), (1, x_R 4), (4, x_I _), (5, x_I _), (6, x_I _), (7, x_I _), (8, x_I _)]) ⟨rfl, rfl, rfl, rfl, rfl, rfl, rfl, trivial⟩ ?_
      refine x_iload rfl ?_
      refine x_if_ge (by omega) (by omega) (fun z5 => ?_) (fun z5 => ?_)
      · skip
        refine x_push (-10) rfl ?_
        refine x_iload rfl ?_
        refine x_isub ?_
        refine x_iret ?_
        rw [if_pos (by omega)] at mq
        refine x_fin (b := F) (by omega) ?_
        exact k
      · skip
        refine x_blk (b := 2) (a_105 E) rfl ?_
        unfold b_105_2
        refine x_aload rfl ?_
        refine x_iload rfl ?_
        refine x_push 0 rfl ?_
        refine x_cV (fun _ => rfl) rfl (by decide) (Nat.le_of_ble_eq_true rfl) ?_
        have sb2 := sb.resolve_left (by omega)
        rw [if_neg (by omega)] at mq
        have p7 := y_PI_pc hP (r := (y_sel A 0 q (l v.toNat) (V v.toNat) (A 62).toNat).toNat) (by omega)
        refine kz_53 C0 hP h4 (by omega) (by omega) (by omega) (by omega) (fun v6 v6a v6b v6c => ?_)
        have pc := w_pc hP (r := y_sel A 0 q (l v.toNat) (V v.toNat) (A 62).toNat) (i := 0) (by omega) (by omega) (by omega) (by omega)
        rw [← v6c, sb2.2.2] at pc
        have ve : A (68 + 12 * (y_sel A 0 q (l v.toNat) (V v.toNat) (A 62).toNat).toNat) = v6 := v6c.symm
        rw [ve] at mq
        refine x_istore ?_
        refine x_iload rfl ?_
        refine x_push 10 rfl ?_
        refine x_icmp_ge (by omega) (by omega) (by omega) (by omega) (fun z7 => ?_) (fun z7 => ?_)
        · skip
          refine x_iload rfl ?_
          refine x_iload rfl ?_
          refine x_push 0 rfl ?_
          refine x_cS (fun _ => rfl) (Nat.le_of_ble_eq_true rfl) ?_
          refine kx_141 (by omega) (by omega) (by omega) (by omega) (by omega) (by omega) C0 (fun v8 v8a v8b v8c => ?_)
          rw [v8c]
          refine x_iret ?_
          rw [if_neg (by omega)] at mq
          refine x_fin (b := F) mq ?_
          exact k
        · skip
          refine x_blk (b := 3) (a_105 E) rfl ?_
          unfold b_105_3
          refine x_iload rfl ?_
          refine x_cS (fun _ => rfl) (Nat.le_of_ble_eq_true rfl) ?_
          refine kx_68 (by omega) (by omega) C0 (fun v9 v9a v9b v9c => ?_)
          refine x_istore ?_
          refine x_X_lo (lo' := [(0, x_R 100), (1, x_R 4), (4, x_I _), (5, x_I _), (6, x_I _), (7, x_I _), (8, x_I _), (9, x_I _)]) ⟨rfl, rfl, rfl, rfl, rfl, rfl, rfl, rfl, trivial⟩ ?_
          refine x_aload rfl ?_
          refine x_getR (r := 100) rfl (by decide) (by decide) rfl ?_
          refine x_aload rfl ?_
          refine x_iload rfl ?_
          refine x_aload rfl ?_
          refine x_push 0 rfl ?_
          refine x_iload rfl ?_
          refine x_iload rfl ?_
          refine x_cV (fun _ => rfl) rfl (by decide) (Nat.le_of_ble_eq_true rfl) ?_
          rw [if_pos (by omega)] at mq
          refine kx_69_4 (by omega) (by omega) (by omega) (by omega) (by omega) (by omega) (by omega) (by omega) (by omega) (by omega) C0 (fun v10 v10a v10b v10c => ?_)
          have kd : σ 7 (0 : Int).toNat = A (0 : Int).toNat := y_PG_k h4.1 (k := 0) (by omega)
          have ce : v10 = w_ch A 0 (l v.toNat) v6 := by
            unfold w_ch
            by_cases c : 2 ≤ A (0 : Int).toNat ∧ 2 < l v.toNat
            · rw [if_pos c]; omega
            · rw [if_neg c]; omega
          have chk := w_ch_ok (A := A) (p := 0) pc (by omega)
          rw [ce]
          refine x_cV (fun _ => rfl) rfl (by decide) (Nat.le_of_ble_eq_true rfl) ?_
          have mc := y_mp_c tr ms (v := v.toNat) (by omega) (by omega) (by omega)
          have mc3 : 3 ≤ l v.toNat → _ := mc.2.2.2
          have sp : σ 103 (v + 1).toNat = P (v.toNat + 1) - (v.toNat + 1) := by
            rw [show (v + 1).toNat = v.toNat + 1 by omega]
            exact (gs.2 (v.toNat + 1) (by omega)).2.1
          refine kx_142_101_4 (by omega) (by omega) (by omega) (by omega) (fun _ => by omega) C0 (fun v11 v11a v11b v11c => ?_)
          have be : v11 = w_bl P v (w_ch A 0 (l v.toNat) v6) := by
            unfold w_bl
            rw [show (v + 1).toNat = v.toNat + 1 by omega] at *
            by_cases c : w_ch A 0 (l v.toNat) v6 = 0
            · rw [if_pos c]; omega
            · rw [if_neg c]
              have m3 := mc3 (by omega)
              omega
          have xb := w_blS tr ms ⟨by omega, by omega⟩ chk
          have xg : v < w_bl P v (w_ch A 0 (l v.toNat) v6) := by
            rcases (w_GS (A := A) (by omega) tr ms).2 v _ ⟨by omega, by omega⟩ chk with h | h
            · omega
            · exact h.2
          rw [← be] at xb xg
          refine x_istore ?_
          refine x_iinc 1 rfl rfl ?_
          refine x_X_lo (lo' := [(0, x_R 100), (1, x_R 4), (4, x_I _), (5, x_I _), (6, x_I _), (7, x_I _), (8, x_I _), (9, x_I _)]) ⟨rfl, rfl, rfl, rfl, rfl, rfl, rfl, rfl, trivial⟩ ?_
          refine x_goto ?_
          refine x_G_lo (lo' := [(0, x_R 100), (1, x_R 4), (4, x_I _), (5, x_I _), (6, x_I _)]) ⟨rfl, rfl, rfl, rfl, rfl, trivial⟩ ?_
          refine ih _ (by omega) _ _ (c + 1) rfl (by omega) (by omega) (by omega) (by omega) (by omega) (by omega) (by omega) ?_
          rw [show (11 - (c + 1)).toNat = (10 - c).toNat by omega, be, v9c]
          exact mq
    · skip
      refine x_blk (b := 1) (a_105 E) rfl ?_
      unfold b_105_1
      refine x_push (-10) rfl ?_
      refine x_iload rfl ?_
      refine x_isub ?_
      refine x_iret ?_
      exact absurd hk (by omega)
theorem kx_105_100_4 {E : q_E} {σ : x_S} {Q : Option q_V → x_S → Prop} {a2 a3 : Int} (q1 : 0 ≤ a2) (q2 : a2 ≤ 2) (C0 : y_CI σ) {A : Nat → Int} (hP : y_PI A) (h4 : y_PG σ 4 A) {n : Nat} {l P V : Nat → Int} (n11 : n ≤ 11) (n0 : 1 ≤ n) (tr : y_tr l n) (ms : y_ms A 0 l n P V) (gs : y_gS σ 101 n l P V) (v1 : 0 ≤ a3) (v2 : a3 < n) {F : Int} (hF : u_mk A l P V 11 a2 a3 = F) (k : Q (some (x_I F)) σ) : x_P E 105 [x_R 100, x_R 4, x_I a2, x_I a3] σ Q := by
  have h62 := hP.2.2.2.1
  refine x_Mt e_105 (h_105 E) (Nat.le_of_ble_eq_true rfl) t_105 rfl ?_
  refine x_blk (b := 0) (a_105 E) rfl ?_
  unfold b_105_0
  refine x_iload rfl ?_
  refine x_istore ?_
  refine x_iload rfl ?_
  refine x_istore ?_
  refine x_X_lo (lo' := [(0, x_R 100), (1, x_R 4), (2, x_I _), (3, x_I _), (4, x_I _), (5, x_I _)]) ⟨rfl, rfl, rfl, rfl, rfl, rfl, trivial⟩ ?_
  refine x_push 0 rfl ?_
  refine x_istore ?_
  refine x_fall ?_
  refine x_G_lo (lo' := [(0, x_R 100), (1, x_R 4), (4, x_I _), (5, x_I _), (6, x_I _)]) ⟨rfl, rfl, rfl, rfl, rfl, trivial⟩ ?_
  exact kx_105_100_4_b4 q1 q2 C0 hP h4 n11 n0 tr ms gs v1 v2 hF k _ a2 a3 0 rfl (by omega) (by omega) (by omega) (by omega) (by omega) (by omega) (by omega) hF
theorem kx_104_100_4 {E : q_E} {σ : x_S} {Q : Option q_V → x_S → Prop} (C0 : y_CI σ) {A : Nat → Int} (hP : y_PI A) (h4 : y_PG σ 4 A) {n : Nat} {l P V : Nat → Int} (n11 : n ≤ 11) (n0 : 1 ≤ n) (tr : y_tr l n) (ms : y_ms A 0 l n P V) (gs : y_gS σ 101 n l P V) (k : Q (some (x_I (u_mk A l P V 11 0 0))) σ) : x_P E 104 [x_R 100, x_R 4] σ Q := by
  refine x_Mt e_104 (h_104 E) (Nat.le_of_ble_eq_true rfl) t_104 rfl ?_
  refine x_blk (b := 0) (a_104 E) rfl ?_
  unfold b_104_0
  refine x_aload rfl ?_
  refine x_aload rfl ?_
  refine x_push 0 rfl ?_
  refine x_push 0 rfl ?_
  refine x_cV (fun _ => rfl) rfl (by decide) (Nat.le_of_ble_eq_true rfl) ?_
  refine kx_105_100_4 (by omega) (by omega) C0 hP h4 n11 n0 tr ms gs (by omega) (by omega) rfl ?_
  refine x_iret ?_
  exact k
theorem kx_150_100_4 {E : q_E} {σ : x_S} {Q : Option q_V → x_S → Prop} {a2 a3 : Int} (C0 : y_CI σ) {A : Nat → Int} (hP : y_PI A) (h4 : y_PG σ 4 A) {n : Nat} {l P V : Nat → Int} (n11 : n ≤ 11) (n0 : 1 ≤ n) (tr : y_tr l n) (ms : y_ms A 0 l n P V) (gs : y_gS σ 101 n l P V) (hD : u_D A l n a2) (hc : (a3 = 0 ∧ 2 ≤ A (68 + 12 * (u_rl a2).toNat + (u_pi a2).toNat)) ∨ (a3 = 1 ∧ 3 ≤ A (68 + 12 * (u_rl a2).toNat + (u_pi a2).toNat))) (k : Q (some (x_I (u_bl A l P V a2 a3))) σ) : x_P E 150 [x_R 100, x_R 4, x_I a2, x_I a3] σ Q := by
  have h62 := hP.2.2.2.1
  obtain ⟨D0, D1, D2, D3, D4, D5⟩ := id hD
  have ex := u_pl_x a2
  have GU := (w_GU hP tr ms n11).1 a2 hD
  have D5 : A (68 + 12 * (u_rl a2).toNat + (u_pi a2).toNat) ≤ 4 := D5
  have kc := u_ch_ok hP ex.2.1.1 D2 ex.2.2.1.1 D4 D5 hc
  have p7 := y_PI_pc hP (r := (u_rl a2).toNat) (by omega)
  refine x_Mt e_150 (h_150 E) (Nat.le_of_ble_eq_true rfl) t_150 rfl ?_
  refine x_blk (b := 0) (a_150 E) rfl ?_
  unfold b_150_0
  refine x_iload rfl ?_
  refine x_cS (fun _ => rfl) (Nat.le_of_ble_eq_true rfl) ?_
  refine kx_145 (by omega) (by omega) C0 (fun v1 v1a v1b v1c => ?_)
  rw [v1c]
  refine x_istore ?_
  refine x_iload rfl ?_
  refine x_cS (fun _ => rfl) (Nat.le_of_ble_eq_true rfl) ?_
  refine kx_146 (by omega) (by omega) C0 (fun v2 v2a v2b v2c => ?_)
  rw [v2c]
  refine x_push 1 rfl ?_
  refine x_iadd ?_
  refine x_istore ?_
  refine x_X_lo (lo' := [(0, x_R 100), (1, x_R 4), (2, x_I _), (3, x_I _), (4, x_I _), (5, x_I _)]) ⟨rfl, rfl, rfl, rfl, rfl, rfl, trivial⟩ ?_
  refine x_iload rfl ?_
  refine x_push 1 rfl ?_
  refine x_icmp_ne (by omega) (by omega) (by omega) (by omega) (fun z3 => ?_) (fun z3 => ?_)
  · skip
    refine x_aload rfl ?_
    refine x_iload rfl ?_
    refine x_iload rfl ?_
    refine x_cS (fun _ => rfl) (Nat.le_of_ble_eq_true rfl) ?_
    refine kx_151_4 C0 hP h4 (by omega) (by omega) (by omega) (by omega) (fun v4 v4a v4b v4c => ?_)
    rw [v4c]
    refine x_istore ?_
    refine x_fall ?_
    refine x_blk (b := 1) (a_150 E) rfl ?_
    unfold b_150_1
    refine x_aload rfl ?_
    refine x_iload rfl ?_
    refine x_iload rfl ?_
    refine x_cV (fun _ => rfl) rfl (by decide) (Nat.le_of_ble_eq_true rfl) ?_
    have ko : u_pi a2 < (if a3 = 0 then u_pi a2 + 1 else (u_B A (u_rl a2).toNat (u_pi a2 + 1).toNat : Int)) ∧ (if a3 = 0 then u_pi a2 + 1 else (u_B A (u_rl a2).toNat (u_pi a2 + 1).toNat : Int)) < A (67 + 12 * (u_rl a2).toNat) := ⟨kc.1, kc.2.1⟩
    rw [if_neg (show ¬ a3 = 0 by omega)] at ko
    refine kz_53 C0 hP h4 (by omega) (by omega) (by omega) (by omega) (fun v5 v5a v5b v5c => ?_)
    have pc := w_pc hP (r := u_rl a2) (by omega) (by omega) (show 0 ≤ (u_B A (u_rl a2).toNat (u_pi a2 + 1).toNat : Int) by omega) (by omega)
    rw [← v5c, D3] at pc
    refine x_istore ?_
    refine x_X_lo (lo' := [(0, x_R 100), (1, x_R 4), (2, x_I _), (3, x_I _), (4, x_I _), (5, x_I _), (6, x_I _)]) ⟨rfl, rfl, rfl, rfl, rfl, rfl, rfl, trivial⟩ ?_
    refine x_aload rfl ?_
    refine x_iload rfl ?_
    refine x_cV (fun _ => rfl) rfl (by decide) (Nat.le_of_ble_eq_true rfl) ?_
    refine kx_143_100 (by omega) (by omega) C0 (fun v6 v6a v6b v6c => ?_)
    rw [v6c]
    refine x_istore ?_
    refine x_iload rfl ?_
    refine x_push 10 rfl ?_
    refine x_icmp_ge (by omega) (by omega) (by omega) (by omega) (fun z7 => ?_) (fun z7 => ?_)
    · skip
      refine x_iload rfl ?_
      refine x_iload rfl ?_
      refine x_iload rfl ?_
      refine x_cS (fun _ => rfl) (Nat.le_of_ble_eq_true rfl) ?_
      refine kx_141 (by omega) (by omega) (by omega) (by omega) (by omega) (by omega) C0 (fun v8 v8a v8b v8c => ?_)
      rw [v8c]
      refine x_iret ?_
      have ue : u_bl A l P V a2 a3 = u_pl (u_nd a2) (u_rl a2) (u_B A (u_rl a2).toNat (u_pi a2 + 1).toNat : Int) := by
        unfold u_bl
        rw [if_neg (show ¬ a3 = 0 by omega)]
        unfold u_at
        rw [← v5c, if_neg (by omega)]
      rw [ue] at k
      exact k
    · skip
      refine x_blk (b := 2) (a_150 E) rfl ?_
      unfold b_150_2
      refine x_aload rfl ?_
      refine x_push 0 rfl ?_
      refine x_aload rfl ?_
      refine x_getR (r := 100) rfl (by decide) (by decide) rfl ?_
      refine x_aload rfl ?_
      refine x_iload rfl ?_
      refine x_cV (fun _ => rfl) rfl (by decide) (Nat.le_of_ble_eq_true rfl) ?_
      have tl := tr.1 (u_nd a2).toNat (by omega)
      have gl := gs.2 (u_nd a2).toNat (by omega)
      have gl1 : σ 102 (u_nd a2).toNat = l (u_nd a2).toNat := gl.1
      have gn : σ 101 3 = n := gs.1
      refine kx_85_101_4 (by omega) (by omega) C0 (fun v9 v9a v9b v9c => ?_)
      have ll : v9 = l (u_nd a2).toNat := by omega
      rw [ll]
      refine x_iload rfl ?_
      refine x_cV (fun _ => rfl) rfl (by decide) (Nat.le_of_ble_eq_true rfl) ?_
      refine kx_69_4 (by omega) (by omega) (by omega) (by omega) (by omega) (by omega) (by omega) (by omega) (by omega) (by omega) C0 (fun v10 v10a v10b v10c => ?_)
      have kd : σ 7 (0 : Int).toNat = A (0 : Int).toNat := y_PG_k h4.1 (k := 0) (by omega)
      have ce : v10 = w_ch A 0 (l (u_nd a2).toNat) v5 := by
        unfold w_ch
        by_cases c : 2 ≤ A (0 : Int).toNat ∧ 2 < l (u_nd a2).toNat
        · rw [if_pos c]; omega
        · rw [if_neg c]; omega
      have chk := w_ch_ok (A := A) (p := 0) pc (by omega)
      rw [ce]
      refine x_istore ?_
      refine x_X_lo (lo' := [(0, x_R 100), (1, x_R 4), (2, x_I _), (3, x_I _), (4, x_I _), (5, x_I _), (6, x_I _), (7, x_I _), (8, x_I _)]) ⟨rfl, rfl, rfl, rfl, rfl, rfl, rfl, rfl, rfl, trivial⟩ ?_
      refine x_aload rfl ?_
      refine x_aload rfl ?_
      refine x_iload rfl ?_
      refine x_cS (fun _ => rfl) (Nat.le_of_ble_eq_true rfl) ?_
      refine kx_68 (by omega) (by omega) C0 (fun v11 v11a v11b v11c => ?_)
      refine x_aload rfl ?_
      refine x_getR (r := 100) rfl (by decide) (by decide) rfl ?_
      refine x_aload rfl ?_
      refine x_iload rfl ?_
      refine x_iload rfl ?_
      refine x_cV (fun _ => rfl) rfl (by decide) (Nat.le_of_ble_eq_true rfl) ?_
      have mc := y_mp_c tr ms (v := (u_nd a2).toNat) (by omega) (by omega) (by omega)
      have mc3 : 3 ≤ l (u_nd a2).toNat → _ := mc.2.2.2
      have sp : σ 103 ((u_nd a2) + 1).toNat = P ((u_nd a2).toNat + 1) - ((u_nd a2).toNat + 1) := by
        rw [show ((u_nd a2) + 1).toNat = (u_nd a2).toNat + 1 by omega]
        exact (gs.2 ((u_nd a2).toNat + 1) (by omega)).2.1
      refine kx_142_101_4 (by omega) (by omega) (by omega) (by omega) (fun _ => by omega) C0 (fun v12 v12a v12b v12c => ?_)
      have be : v12 = w_bl P (u_nd a2) (w_ch A 0 (l (u_nd a2).toNat) v5) := by
        unfold w_bl
        rw [show ((u_nd a2) + 1).toNat = (u_nd a2).toNat + 1 by omega] at *
        by_cases c : w_ch A 0 (l (u_nd a2).toNat) v5 = 0
        · rw [if_pos c]; omega
        · rw [if_neg c]
          have m3 := mc3 (by omega)
          omega
      have xb := w_blS tr ms ⟨by omega, by omega⟩ chk
      have xg : (u_nd a2) < w_bl P (u_nd a2) (w_ch A 0 (l (u_nd a2).toNat) v5) := by
        rcases (w_GS (A := A) (by omega) tr ms).2 (u_nd a2) _ ⟨by omega, by omega⟩ chk with h | h
        · omega
        · exact h.2
      rw [← be] at xb xg
      refine x_cV (fun _ => rfl) rfl (by decide) (Nat.le_of_ble_eq_true rfl) ?_
      have ue : u_bl A l P V a2 a3 = u_mk A l P V 11 ((v5 - 10) / 2) (w_bl P (u_nd a2) (w_ch A 0 (l (u_nd a2).toNat) v5)) := by
        unfold u_bl
        rw [if_neg (show ¬ a3 = 0 by omega)]
        unfold u_at
        rw [← v5c, if_pos (by omega)]
      rw [ue, ← be, ← v11c] at k
      refine kx_105_100_4 (by omega) (by omega) C0 hP h4 n11 n0 tr ms gs (by omega) (by omega) rfl ?_
      refine x_iret ?_
      exact k
  · skip
    refine x_blk (b := 1) (a_150 E) rfl ?_
    unfold b_150_1
    refine x_aload rfl ?_
    refine x_iload rfl ?_
    refine x_iload rfl ?_
    refine x_cV (fun _ => rfl) rfl (by decide) (Nat.le_of_ble_eq_true rfl) ?_
    have ko : u_pi a2 < (if a3 = 0 then u_pi a2 + 1 else (u_B A (u_rl a2).toNat (u_pi a2 + 1).toNat : Int)) ∧ (if a3 = 0 then u_pi a2 + 1 else (u_B A (u_rl a2).toNat (u_pi a2 + 1).toNat : Int)) < A (67 + 12 * (u_rl a2).toNat) := ⟨kc.1, kc.2.1⟩
    rw [if_pos (show a3 = 0 by omega)] at ko
    refine kz_53 C0 hP h4 (by omega) (by omega) (by omega) (by omega) (fun v14 v14a v14b v14c => ?_)
    have pc := w_pc hP (r := u_rl a2) (by omega) (by omega) (show 0 ≤ (u_pi a2 + 1) by omega) (by omega)
    rw [← v14c, D3] at pc
    refine x_istore ?_
    refine x_aload rfl ?_
    refine x_iload rfl ?_
    refine x_cV (fun _ => rfl) rfl (by decide) (Nat.le_of_ble_eq_true rfl) ?_
    refine kx_143_100 (by omega) (by omega) C0 (fun v15 v15a v15b v15c => ?_)
    rw [v15c]
    refine x_istore ?_
    refine x_X_lo (lo' := [(0, x_R 100), (1, x_R 4), (2, x_I _), (3, x_I _), (4, x_I _), (5, x_I _), (6, x_I _), (7, x_I _)]) ⟨rfl, rfl, rfl, rfl, rfl, rfl, rfl, rfl, trivial⟩ ?_
    refine x_iload rfl ?_
    refine x_push 10 rfl ?_
    refine x_icmp_ge (by omega) (by omega) (by omega) (by omega) (fun z16 => ?_) (fun z16 => ?_)
    · skip
      refine x_iload rfl ?_
      refine x_iload rfl ?_
      refine x_iload rfl ?_
      refine x_cS (fun _ => rfl) (Nat.le_of_ble_eq_true rfl) ?_
      refine kx_141 (by omega) (by omega) (by omega) (by omega) (by omega) (by omega) C0 (fun v17 v17a v17b v17c => ?_)
      rw [v17c]
      refine x_iret ?_
      have ue : u_bl A l P V a2 a3 = u_pl (u_nd a2) (u_rl a2) (u_pi a2 + 1) := by
        unfold u_bl
        rw [if_pos (show a3 = 0 by omega)]
        unfold u_at
        rw [← v14c, if_neg (by omega)]
      rw [ue] at k
      exact k
    · skip
      refine x_blk (b := 2) (a_150 E) rfl ?_
      unfold b_150_2
      refine x_aload rfl ?_
      refine x_push 0 rfl ?_
      refine x_aload rfl ?_
      refine x_getR (r := 100) rfl (by decide) (by decide) rfl ?_
      refine x_aload rfl ?_
      refine x_iload rfl ?_
      refine x_cV (fun _ => rfl) rfl (by decide) (Nat.le_of_ble_eq_true rfl) ?_
      have tl := tr.1 (u_nd a2).toNat (by omega)
      have gl := gs.2 (u_nd a2).toNat (by omega)
      have gl1 : σ 102 (u_nd a2).toNat = l (u_nd a2).toNat := gl.1
      have gn : σ 101 3 = n := gs.1
      refine kx_85_101_4 (by omega) (by omega) C0 (fun v18 v18a v18b v18c => ?_)
      have ll : v18 = l (u_nd a2).toNat := by omega
      rw [ll]
      refine x_iload rfl ?_
      refine x_cV (fun _ => rfl) rfl (by decide) (Nat.le_of_ble_eq_true rfl) ?_
      refine kx_69_4 (by omega) (by omega) (by omega) (by omega) (by omega) (by omega) (by omega) (by omega) (by omega) (by omega) C0 (fun v19 v19a v19b v19c => ?_)
      have kd : σ 7 (0 : Int).toNat = A (0 : Int).toNat := y_PG_k h4.1 (k := 0) (by omega)
      have ce : v19 = w_ch A 0 (l (u_nd a2).toNat) v14 := by
        unfold w_ch
        by_cases c : 2 ≤ A (0 : Int).toNat ∧ 2 < l (u_nd a2).toNat
        · rw [if_pos c]; omega
        · rw [if_neg c]; omega
      have chk := w_ch_ok (A := A) (p := 0) pc (by omega)
      rw [ce]
      refine x_istore ?_
      refine x_aload rfl ?_
      refine x_aload rfl ?_
      refine x_iload rfl ?_
      refine x_cS (fun _ => rfl) (Nat.le_of_ble_eq_true rfl) ?_
      refine kx_68 (by omega) (by omega) C0 (fun v20 v20a v20b v20c => ?_)
      refine x_aload rfl ?_
      refine x_getR (r := 100) rfl (by decide) (by decide) rfl ?_
      refine x_aload rfl ?_
      refine x_iload rfl ?_
      refine x_iload rfl ?_
      refine x_cV (fun _ => rfl) rfl (by decide) (Nat.le_of_ble_eq_true rfl) ?_
      have mc := y_mp_c tr ms (v := (u_nd a2).toNat) (by omega) (by omega) (by omega)
      have mc3 : 3 ≤ l (u_nd a2).toNat → _ := mc.2.2.2
      have sp : σ 103 ((u_nd a2) + 1).toNat = P ((u_nd a2).toNat + 1) - ((u_nd a2).toNat + 1) := by
        rw [show ((u_nd a2) + 1).toNat = (u_nd a2).toNat + 1 by omega]
        exact (gs.2 ((u_nd a2).toNat + 1) (by omega)).2.1
      refine kx_142_101_4 (by omega) (by omega) (by omega) (by omega) (fun _ => by omega) C0 (fun v21 v21a v21b v21c => ?_)
      have be : v21 = w_bl P (u_nd a2) (w_ch A 0 (l (u_nd a2).toNat) v14) := by
        unfold w_bl
        rw [show ((u_nd a2) + 1).toNat = (u_nd a2).toNat + 1 by omega] at *
        by_cases c : w_ch A 0 (l (u_nd a2).toNat) v14 = 0
        · rw [if_pos c]; omega
        · rw [if_neg c]
          have m3 := mc3 (by omega)
          omega
      have xb := w_blS tr ms ⟨by omega, by omega⟩ chk
      have xg : (u_nd a2) < w_bl P (u_nd a2) (w_ch A 0 (l (u_nd a2).toNat) v14) := by
        rcases (w_GS (A := A) (by omega) tr ms).2 (u_nd a2) _ ⟨by omega, by omega⟩ chk with h | h
        · omega
        · exact h.2
      rw [← be] at xb xg
      refine x_cV (fun _ => rfl) rfl (by decide) (Nat.le_of_ble_eq_true rfl) ?_
      have ue : u_bl A l P V a2 a3 = u_mk A l P V 11 ((v14 - 10) / 2) (w_bl P (u_nd a2) (w_ch A 0 (l (u_nd a2).toNat) v14)) := by
        unfold u_bl
        rw [if_pos (show a3 = 0 by omega)]
        unfold u_at
        rw [← v14c, if_pos (by omega)]
      rw [ue, ← be, ← v20c] at k
      refine kx_105_100_4 (by omega) (by omega) C0 hP h4 n11 n0 tr ms gs (by omega) (by omega) rfl ?_
      refine x_iret ?_
      exact k
