set_option maxHeartbeats 4000000 in
theorem kx_66_111_4_l0 {E : q_E} {σ : x_S} {Q : Option q_V → x_S → Prop} {a2 a3 : Int} (f1 : 0 ≤ a2) (f2 : a2 ≤ 4) (h1 : y_ch a2 ≤ a3) (h2 : a3 ≤ 7) (C0 : y_CI σ) {A : Nat → Int} (hP : y_PI A) (hA : y_AG (y_cv σ 4) A) (k : ∀ n : Nat, (∀ i, i < 64 → cn_b n i = cn_tb A a2 (cn_by (fun m => cn_b (σ 123 m).toNat i) a3 a2)) → Q (some (x_N n)) σ) (hc : y_ch a2 = 0) : ∀ (N : Nat) (ty : Nat) (kq : Int), (1 - kq).toNat = N → 0 ≤ kq → kq ≤ 1 → (∀ i, i < 64 → (cn_b ty i = 1 ∧ cn_by (fun m => cn_b (σ 123 m).toNat i) a3 a2 < kq ∧ cn_tb A a2 (cn_by (fun m => cn_b (σ 123 m).toNat i) a3 a2) = 1) ∨ (cn_b ty i = 0 ∧ ¬ (cn_by (fun m => cn_b (σ 123 m).toNat i) a3 a2 < kq ∧ cn_tb A a2 (cn_by (fun m => cn_b (σ 123 m).toNat i) a3 a2) = 1))) → x_G E m_66 Q (t_66 9) [(0, x_R 111), (1, x_R 4), (2, x_I a2), (3, x_I a3), (4, x_I 0), (5, x_N ty), (7, x_I kq)] [] σ := by
  have pwx : y_pw (y_ch a2) = 1 := by rw [hc]; rfl
  intro N
  induction N using Nat.strongRecOn with
  | ind N ih =>
    intro ty kq hN k1 k2 hi0
    obtain ⟨K, hK⟩ : ∃ K : Nat → Int, K = fun i => cn_by (fun m => cn_b (σ 123 m).toNat i) a3 a2 := ⟨_, rfl⟩
    have hi0 : ∀ i, i < 64 → (cn_b ty i = 1 ∧ K i < kq ∧ cn_tb A a2 (K i) = 1) ∨ (cn_b ty i = 0 ∧ ¬ (K i < kq ∧ cn_tb A a2 (K i) = 1)) := by rw [hK]; exact hi0
    have kb0 : ∀ i, 0 ≤ K i ∧ K i < 1 := fun i => by
      rw [hK]
      have kx := cn_byx (fun m => cn_b (σ 123 m).toNat i) a3 a2
      have b1 := cn_b_b (σ 123 (a3 - 1).toNat).toNat i
      have b2 := cn_b_b (σ 123 (a3 - 2).toNat).toNat i
      show 0 ≤ cn_by (fun m => cn_b (σ 123 m).toNat i) a3 a2 ∧ cn_by (fun m => cn_b (σ 123 m).toNat i) a3 a2 < _
      omega
    have eK : ∀ i, cn_by (fun m => cn_b (σ 123 m).toNat i) a3 a2 = K i := fun i => by rw [hK]
    refine x_blk (b := 9) (a_66 E) rfl ?_
    unfold b_66_9
    refine x_iload rfl ?_
    refine x_push 1 rfl ?_
    refine x_iload rfl ?_
    refine x_shl1X (by omega) (by omega) (fun v1 v1x v1a v1b => ?_)
    refine x_icmp_ge (by omega) (by omega) (by omega) (by omega) (fun z2 => ?_) (fun z2 => ?_)
    · skip
      refine x_aload rfl ?_
      refine x_push 1 rfl ?_
      refine x_iload rfl ?_
      refine x_iload rfl ?_
      refine x_cV (fun _ => rfl) rfl (by decide) (Nat.le_of_ble_eq_true rfl) ?_
      refine kx_30_4 (by omega) (by omega) (by omega) (by omega) (by omega) (by omega) C0 (fun v3 v3a v3b v3c => ?_)
      have te3 : cn_tb A a2 kq = v3 := by
        rw [cn_tb_e f1 f2 (by omega) (by omega), ← y_PG_e hA (m := 1) (f := a2) (e := kq) (by omega) (by omega) f1 f2 (by omega) (by omega)]
        show σ 8 _ = _
        omega
      refine x_push 1 rfl ?_
      refine x_icmp_ne (by omega) (by omega) (by omega) (by omega) (fun z4 => ?_) (fun z4 => ?_)
      · skip
        refine x_pushv ?_
        refine x_lstore ?_
        refine x_push 0 rfl ?_
        refine x_istore ?_
        refine x_X_lo (lo' := [(0, x_R 111), (1, x_R 4), (2, x_I _), (3, x_I _), (4, x_I _), (5, x_N _), (7, x_I _), (8, x_N _), (10, x_I _)]) ⟨rfl, rfl, rfl, rfl, rfl, rfl, rfl, rfl, rfl, trivial⟩ ?_
        refine x_fall ?_
        refine x_blk (b := 8) (a_66 E) rfl ?_
        unfold b_66_8
        refine x_iload rfl ?_
        refine x_iload rfl ?_
        refine x_icmp_ge (by omega) (by omega) (by omega) (by omega) (fun z => absurd z (by omega)) (fun z5 => ?_)
        refine x_blk (b := 5) (a_66 E) rfl ?_
        unfold b_66_5
        refine x_lloadN rfl ?_
        refine x_lloadN rfl ?_
        refine x_lbinX ?_
        refine x_lstore ?_
        refine x_fall ?_
        refine x_blk (b := 4) (a_66 E) rfl ?_
        unfold b_66_4
        refine x_iinc 1 rfl rfl ?_
        refine x_X_lo (lo' := [(0, x_R 111), (1, x_R 4), (2, x_I _), (3, x_I _), (4, x_I _), (5, x_N _), (7, x_I _), (8, x_N _), (10, x_I _)]) ⟨rfl, rfl, rfl, rfl, rfl, rfl, rfl, rfl, rfl, trivial⟩ ?_
        refine x_goto ?_
        refine x_G_lo (lo' := [(0, x_R 111), (1, x_R 4), (2, x_I _), (3, x_I _), (4, x_I _), (5, x_N _), (7, x_I _)]) ⟨rfl, rfl, rfl, rfl, rfl, rfl, rfl, trivial⟩ ?_
        refine ih _ (by omega) _ _ rfl (by omega) (by omega) (fun i hi => ?_)
        rw [eK i]
        have q := hi0 i hi
        have q2 : K i = kq → cn_tb A a2 (K i) = v3 := fun e => by rw [e]; exact te3
        have kx := cn_byx (fun m => cn_b (σ 123 m).toNat i) a3 a2
        rw [eK i] at kx
        have o1 := cn_b_1 hi
        have ob := cn_b_or ty (18446744073709551615) i
        omega
      · skip
        refine x_blk (b := 4) (a_66 E) rfl ?_
        unfold b_66_4
        refine x_iinc 1 rfl rfl ?_
        refine x_goto ?_
        refine x_G_lo (lo' := [(0, x_R 111), (1, x_R 4), (2, x_I _), (3, x_I _), (4, x_I _), (5, x_N _), (7, x_I _)]) ⟨rfl, rfl, rfl, rfl, rfl, rfl, rfl, trivial⟩ ?_
        refine ih _ (by omega) _ _ rfl (by omega) (by omega) (fun i hi => ?_)
        rw [eK i]
        have q := hi0 i hi
        have q2 : K i = kq → cn_tb A a2 (K i) = v3 := fun e => by rw [e]; exact te3
        omega
    · skip
      refine x_blk (b := 3) (a_66 E) rfl ?_
      unfold b_66_3
      refine x_lloadN rfl ?_
      refine x_lret ?_
      refine k _ (fun i hi => ?_)
      have q := hi0 i hi
      have tb := cn_tb_b hP a2 (K i)
      have kb := kb0 i
      rw [eK i]
      omega
set_option maxHeartbeats 4000000 in
theorem kx_66_111_4_l1 {E : q_E} {σ : x_S} {Q : Option q_V → x_S → Prop} {a2 a3 : Int} (f1 : 0 ≤ a2) (f2 : a2 ≤ 4) (h1 : y_ch a2 ≤ a3) (h2 : a3 ≤ 7) (C0 : y_CI σ) {A : Nat → Int} (hP : y_PI A) (hA : y_AG (y_cv σ 4) A) (k : ∀ n : Nat, (∀ i, i < 64 → cn_b n i = cn_tb A a2 (cn_by (fun m => cn_b (σ 123 m).toNat i) a3 a2)) → Q (some (x_N n)) σ) (hc : y_ch a2 = 1) : ∀ (N : Nat) (ty : Nat) (kq : Int), (2 - kq).toNat = N → 0 ≤ kq → kq ≤ 2 → (∀ i, i < 64 → (cn_b ty i = 1 ∧ cn_by (fun m => cn_b (σ 123 m).toNat i) a3 a2 < kq ∧ cn_tb A a2 (cn_by (fun m => cn_b (σ 123 m).toNat i) a3 a2) = 1) ∨ (cn_b ty i = 0 ∧ ¬ (cn_by (fun m => cn_b (σ 123 m).toNat i) a3 a2 < kq ∧ cn_tb A a2 (cn_by (fun m => cn_b (σ 123 m).toNat i) a3 a2) = 1))) → x_G E m_66 Q (t_66 9) [(0, x_R 111), (1, x_R 4), (2, x_I a2), (3, x_I a3), (4, x_I 1), (5, x_N ty), (7, x_I kq)] [] σ := by
  have pwx : y_pw (y_ch a2) = 2 := by rw [hc]; rfl
  intro N
  induction N using Nat.strongRecOn with
  | ind N ih =>
    intro ty kq hN k1 k2 hi0
    obtain ⟨K, hK⟩ : ∃ K : Nat → Int, K = fun i => cn_by (fun m => cn_b (σ 123 m).toNat i) a3 a2 := ⟨_, rfl⟩
    have hi0 : ∀ i, i < 64 → (cn_b ty i = 1 ∧ K i < kq ∧ cn_tb A a2 (K i) = 1) ∨ (cn_b ty i = 0 ∧ ¬ (K i < kq ∧ cn_tb A a2 (K i) = 1)) := by rw [hK]; exact hi0
    have kb0 : ∀ i, 0 ≤ K i ∧ K i < 2 := fun i => by
      rw [hK]
      have kx := cn_byx (fun m => cn_b (σ 123 m).toNat i) a3 a2
      have b1 := cn_b_b (σ 123 (a3 - 1).toNat).toNat i
      have b2 := cn_b_b (σ 123 (a3 - 2).toNat).toNat i
      show 0 ≤ cn_by (fun m => cn_b (σ 123 m).toNat i) a3 a2 ∧ cn_by (fun m => cn_b (σ 123 m).toNat i) a3 a2 < _
      omega
    have eK : ∀ i, cn_by (fun m => cn_b (σ 123 m).toNat i) a3 a2 = K i := fun i => by rw [hK]
    refine x_blk (b := 9) (a_66 E) rfl ?_
    unfold b_66_9
    refine x_iload rfl ?_
    refine x_push 1 rfl ?_
    refine x_iload rfl ?_
    refine x_shl1X (by omega) (by omega) (fun v1 v1x v1a v1b => ?_)
    refine x_icmp_ge (by omega) (by omega) (by omega) (by omega) (fun z2 => ?_) (fun z2 => ?_)
    · skip
      refine x_aload rfl ?_
      refine x_push 1 rfl ?_
      refine x_iload rfl ?_
      refine x_iload rfl ?_
      refine x_cV (fun _ => rfl) rfl (by decide) (Nat.le_of_ble_eq_true rfl) ?_
      refine kx_30_4 (by omega) (by omega) (by omega) (by omega) (by omega) (by omega) C0 (fun v3 v3a v3b v3c => ?_)
      have te3 : cn_tb A a2 kq = v3 := by
        rw [cn_tb_e f1 f2 (by omega) (by omega), ← y_PG_e hA (m := 1) (f := a2) (e := kq) (by omega) (by omega) f1 f2 (by omega) (by omega)]
        show σ 8 _ = _
        omega
      refine x_push 1 rfl ?_
      refine x_icmp_ne (by omega) (by omega) (by omega) (by omega) (fun z4 => ?_) (fun z4 => ?_)
      · skip
        refine x_pushv ?_
        refine x_lstore ?_
        refine x_push 0 rfl ?_
        refine x_istore ?_
        refine x_X_lo (lo' := [(0, x_R 111), (1, x_R 4), (2, x_I _), (3, x_I _), (4, x_I _), (5, x_N _), (7, x_I _), (8, x_N _), (10, x_I _)]) ⟨rfl, rfl, rfl, rfl, rfl, rfl, rfl, rfl, rfl, trivial⟩ ?_
        refine x_fall ?_
        refine x_blk (b := 8) (a_66 E) rfl ?_
        unfold b_66_8
        refine x_iload rfl ?_
        refine x_iload rfl ?_
        refine x_icmp_ge (by omega) (by omega) (by omega) (by omega) (fun z5 => ?_) (fun z => absurd (by omega) z)
        refine x_aload rfl ?_
        refine x_getR (r := 111) rfl (by decide) (by decide) rfl ?_
        refine x_iload rfl ?_
        refine x_push 1 rfl ?_
        refine x_isub ?_
        refine x_iload rfl ?_
        refine x_isub ?_
        refine x_laldX (r := 123) (n := 7) rfl rfl (by decide) (by omega) (by omega) (fun m6 m6x => ?_)
        refine x_lstore ?_
        refine x_lloadN rfl ?_
        refine x_iload rfl ?_
        refine x_iload rfl ?_
        refine x_push 1 rfl ?_
        refine x_isub ?_
        refine x_iload rfl ?_
        refine x_isub ?_
        refine x_shrX (by omega) (by omega) (by omega) (by omega) (fun v7 v7x v7a v7b => ?_)
        refine x_push 1 rfl ?_
        refine x_iand1 (by omega) (by omega) ?_
        refine x_push 1 rfl ?_
        refine x_icmp_ne (by omega) (by omega) (by omega) (by omega) (fun z8 => ?_) (fun z8 => ?_)
        · skip
          refine x_lloadN rfl ?_
          refine x_goto ?_
          refine x_blk (b := 7) (a_66 E) rfl ?_
          unfold b_66_7
          refine x_lbinX ?_
          refine x_lstore ?_
          refine x_X_lo (lo' := [(0, x_R 111), (1, x_R 4), (2, x_I _), (3, x_I _), (4, x_I _), (5, x_N _), (7, x_I _), (8, x_N _), (10, x_I _), (11, x_N _)]) ⟨rfl, rfl, rfl, rfl, rfl, rfl, rfl, rfl, rfl, rfl, trivial⟩ ?_
          refine x_iinc 1 rfl rfl ?_
          refine x_goto ?_
          refine x_blk (b := 8) (a_66 E) rfl ?_
          unfold b_66_8
          refine x_iload rfl ?_
          refine x_iload rfl ?_
          refine x_icmp_ge (by omega) (by omega) (by omega) (by omega) (fun z => absurd z (by omega)) (fun z9 => ?_)
          refine x_blk (b := 5) (a_66 E) rfl ?_
          unfold b_66_5
          refine x_lloadN rfl ?_
          refine x_lloadN rfl ?_
          refine x_lbinX ?_
          refine x_lstore ?_
          refine x_X_lo (lo' := [(0, x_R 111), (1, x_R 4), (2, x_I _), (3, x_I _), (4, x_I _), (5, x_N _), (7, x_I _), (8, x_N _), (10, x_I _), (11, x_N _)]) ⟨rfl, rfl, rfl, rfl, rfl, rfl, rfl, rfl, rfl, rfl, trivial⟩ ?_
          refine x_fall ?_
          refine x_blk (b := 4) (a_66 E) rfl ?_
          unfold b_66_4
          refine x_iinc 1 rfl rfl ?_
          refine x_goto ?_
          refine x_G_lo (lo' := [(0, x_R 111), (1, x_R 4), (2, x_I _), (3, x_I _), (4, x_I _), (5, x_N _), (7, x_I _)]) ⟨rfl, rfl, rfl, rfl, rfl, rfl, rfl, trivial⟩ ?_
          refine ih _ (by omega) _ _ rfl (by omega) (by omega) (fun i hi => ?_)
          rw [eK i]
          have q := hi0 i hi
          have q2 : K i = kq → cn_tb A a2 (K i) = v3 := fun e => by rw [e]; exact te3
          have kx := cn_byx (fun m => cn_b (σ 123 m).toNat i) a3 a2
          rw [eK i] at kx
          have o1 := cn_b_1 hi
          have ob := cn_b_or ty ((f_land 18446744073709551615 m6)) i
          have an0 := cn_b_and 18446744073709551615 m6 i
          have mb0 := cn_b_b m6 i
          have me0 : cn_b (σ 123 (a3 - 1).toNat).toNat i = cn_b m6 i := by rw [show (σ 123 (a3 - 1).toNat).toNat = m6 by rw [show (a3 - 1).toNat = (a3 - 1 - 0).toNat by omega]; omega]
          omega
        · skip
          refine x_blk (b := 6) (a_66 E) rfl ?_
          unfold b_66_6
          refine x_lloadN rfl ?_
          refine x_pushv ?_
          refine x_lbinX ?_
          refine x_fall ?_
          refine x_blk (b := 7) (a_66 E) rfl ?_
          unfold b_66_7
          refine x_lbinX ?_
          refine x_lstore ?_
          refine x_X_lo (lo' := [(0, x_R 111), (1, x_R 4), (2, x_I _), (3, x_I _), (4, x_I _), (5, x_N _), (7, x_I _), (8, x_N _), (10, x_I _), (11, x_N _)]) ⟨rfl, rfl, rfl, rfl, rfl, rfl, rfl, rfl, rfl, rfl, trivial⟩ ?_
          refine x_iinc 1 rfl rfl ?_
          refine x_goto ?_
          refine x_blk (b := 8) (a_66 E) rfl ?_
          unfold b_66_8
          refine x_iload rfl ?_
          refine x_iload rfl ?_
          refine x_icmp_ge (by omega) (by omega) (by omega) (by omega) (fun z => absurd z (by omega)) (fun z10 => ?_)
          refine x_blk (b := 5) (a_66 E) rfl ?_
          unfold b_66_5
          refine x_lloadN rfl ?_
          refine x_lloadN rfl ?_
          refine x_lbinX ?_
          refine x_lstore ?_
          refine x_X_lo (lo' := [(0, x_R 111), (1, x_R 4), (2, x_I _), (3, x_I _), (4, x_I _), (5, x_N _), (7, x_I _), (8, x_N _), (10, x_I _), (11, x_N _)]) ⟨rfl, rfl, rfl, rfl, rfl, rfl, rfl, rfl, rfl, rfl, trivial⟩ ?_
          refine x_fall ?_
          refine x_blk (b := 4) (a_66 E) rfl ?_
          unfold b_66_4
          refine x_iinc 1 rfl rfl ?_
          refine x_goto ?_
          refine x_G_lo (lo' := [(0, x_R 111), (1, x_R 4), (2, x_I _), (3, x_I _), (4, x_I _), (5, x_N _), (7, x_I _)]) ⟨rfl, rfl, rfl, rfl, rfl, rfl, rfl, trivial⟩ ?_
          refine ih _ (by omega) _ _ rfl (by omega) (by omega) (fun i hi => ?_)
          rw [eK i]
          have q := hi0 i hi
          have q2 : K i = kq → cn_tb A a2 (K i) = v3 := fun e => by rw [e]; exact te3
          have kx := cn_byx (fun m => cn_b (σ 123 m).toNat i) a3 a2
          rw [eK i] at kx
          have o1 := cn_b_1 hi
          have ob := cn_b_or ty ((f_land 18446744073709551615 (f_lxor m6 18446744073709551615))) i
          have an0 := cn_b_and 18446744073709551615 (f_lxor m6 18446744073709551615) i
          have nt0 := cn_b_not (a := m6) hi
          have mb0 := cn_b_b m6 i
          have me0 : cn_b (σ 123 (a3 - 1).toNat).toNat i = cn_b m6 i := by rw [show (σ 123 (a3 - 1).toNat).toNat = m6 by rw [show (a3 - 1).toNat = (a3 - 1 - 0).toNat by omega]; omega]
          omega
      · skip
        refine x_blk (b := 4) (a_66 E) rfl ?_
        unfold b_66_4
        refine x_iinc 1 rfl rfl ?_
        refine x_goto ?_
        refine x_G_lo (lo' := [(0, x_R 111), (1, x_R 4), (2, x_I _), (3, x_I _), (4, x_I _), (5, x_N _), (7, x_I _)]) ⟨rfl, rfl, rfl, rfl, rfl, rfl, rfl, trivial⟩ ?_
        refine ih _ (by omega) _ _ rfl (by omega) (by omega) (fun i hi => ?_)
        rw [eK i]
        have q := hi0 i hi
        have q2 : K i = kq → cn_tb A a2 (K i) = v3 := fun e => by rw [e]; exact te3
        omega
    · skip
      refine x_blk (b := 3) (a_66 E) rfl ?_
      unfold b_66_3
      refine x_lloadN rfl ?_
      refine x_lret ?_
      refine k _ (fun i hi => ?_)
      have q := hi0 i hi
      have tb := cn_tb_b hP a2 (K i)
      have kb := kb0 i
      rw [eK i]
      omega
set_option maxHeartbeats 4000000 in
theorem kx_66_111_4_l2 {E : q_E} {σ : x_S} {Q : Option q_V → x_S → Prop} {a2 a3 : Int} (f1 : 0 ≤ a2) (f2 : a2 ≤ 4) (h1 : y_ch a2 ≤ a3) (h2 : a3 ≤ 7) (C0 : y_CI σ) {A : Nat → Int} (hP : y_PI A) (hA : y_AG (y_cv σ 4) A) (k : ∀ n : Nat, (∀ i, i < 64 → cn_b n i = cn_tb A a2 (cn_by (fun m => cn_b (σ 123 m).toNat i) a3 a2)) → Q (some (x_N n)) σ) (hc : y_ch a2 = 2) : ∀ (N : Nat) (ty : Nat) (kq : Int), (4 - kq).toNat = N → 0 ≤ kq → kq ≤ 4 → (∀ i, i < 64 → (cn_b ty i = 1 ∧ cn_by (fun m => cn_b (σ 123 m).toNat i) a3 a2 < kq ∧ cn_tb A a2 (cn_by (fun m => cn_b (σ 123 m).toNat i) a3 a2) = 1) ∨ (cn_b ty i = 0 ∧ ¬ (cn_by (fun m => cn_b (σ 123 m).toNat i) a3 a2 < kq ∧ cn_tb A a2 (cn_by (fun m => cn_b (σ 123 m).toNat i) a3 a2) = 1))) → x_G E m_66 Q (t_66 9) [(0, x_R 111), (1, x_R 4), (2, x_I a2), (3, x_I a3), (4, x_I 2), (5, x_N ty), (7, x_I kq)] [] σ := by
  have pwx : y_pw (y_ch a2) = 4 := by rw [hc]; rfl
  intro N
  induction N using Nat.strongRecOn with
  | ind N ih =>
    intro ty kq hN k1 k2 hi0
    obtain ⟨K, hK⟩ : ∃ K : Nat → Int, K = fun i => cn_by (fun m => cn_b (σ 123 m).toNat i) a3 a2 := ⟨_, rfl⟩
    have hi0 : ∀ i, i < 64 → (cn_b ty i = 1 ∧ K i < kq ∧ cn_tb A a2 (K i) = 1) ∨ (cn_b ty i = 0 ∧ ¬ (K i < kq ∧ cn_tb A a2 (K i) = 1)) := by rw [hK]; exact hi0
    have kb0 : ∀ i, 0 ≤ K i ∧ K i < 4 := fun i => by
      rw [hK]
      have kx := cn_byx (fun m => cn_b (σ 123 m).toNat i) a3 a2
      have b1 := cn_b_b (σ 123 (a3 - 1).toNat).toNat i
      have b2 := cn_b_b (σ 123 (a3 - 2).toNat).toNat i
      show 0 ≤ cn_by (fun m => cn_b (σ 123 m).toNat i) a3 a2 ∧ cn_by (fun m => cn_b (σ 123 m).toNat i) a3 a2 < _
      omega
    have eK : ∀ i, cn_by (fun m => cn_b (σ 123 m).toNat i) a3 a2 = K i := fun i => by rw [hK]
    refine x_blk (b := 9) (a_66 E) rfl ?_
    unfold b_66_9
    refine x_iload rfl ?_
    refine x_push 1 rfl ?_
    refine x_iload rfl ?_
    refine x_shl1X (by omega) (by omega) (fun v1 v1x v1a v1b => ?_)
    refine x_icmp_ge (by omega) (by omega) (by omega) (by omega) (fun z2 => ?_) (fun z2 => ?_)
    · skip
      refine x_aload rfl ?_
      refine x_push 1 rfl ?_
      refine x_iload rfl ?_
      refine x_iload rfl ?_
      refine x_cV (fun _ => rfl) rfl (by decide) (Nat.le_of_ble_eq_true rfl) ?_
      refine kx_30_4 (by omega) (by omega) (by omega) (by omega) (by omega) (by omega) C0 (fun v3 v3a v3b v3c => ?_)
      have te3 : cn_tb A a2 kq = v3 := by
        rw [cn_tb_e f1 f2 (by omega) (by omega), ← y_PG_e hA (m := 1) (f := a2) (e := kq) (by omega) (by omega) f1 f2 (by omega) (by omega)]
        show σ 8 _ = _
        omega
      refine x_push 1 rfl ?_
      refine x_icmp_ne (by omega) (by omega) (by omega) (by omega) (fun z4 => ?_) (fun z4 => ?_)
      · skip
        refine x_pushv ?_
        refine x_lstore ?_
        refine x_push 0 rfl ?_
        refine x_istore ?_
        refine x_X_lo (lo' := [(0, x_R 111), (1, x_R 4), (2, x_I _), (3, x_I _), (4, x_I _), (5, x_N _), (7, x_I _), (8, x_N _), (10, x_I _)]) ⟨rfl, rfl, rfl, rfl, rfl, rfl, rfl, rfl, rfl, trivial⟩ ?_
        refine x_fall ?_
        refine x_blk (b := 8) (a_66 E) rfl ?_
        unfold b_66_8
        refine x_iload rfl ?_
        refine x_iload rfl ?_
        refine x_icmp_ge (by omega) (by omega) (by omega) (by omega) (fun z5 => ?_) (fun z => absurd (by omega) z)
        refine x_aload rfl ?_
        refine x_getR (r := 111) rfl (by decide) (by decide) rfl ?_
        refine x_iload rfl ?_
        refine x_push 1 rfl ?_
        refine x_isub ?_
        refine x_iload rfl ?_
        refine x_isub ?_
        refine x_laldX (r := 123) (n := 7) rfl rfl (by decide) (by omega) (by omega) (fun m6 m6x => ?_)
        refine x_lstore ?_
        refine x_lloadN rfl ?_
        refine x_iload rfl ?_
        refine x_iload rfl ?_
        refine x_push 1 rfl ?_
        refine x_isub ?_
        refine x_iload rfl ?_
        refine x_isub ?_
        refine x_shrX (by omega) (by omega) (by omega) (by omega) (fun v7 v7x v7a v7b => ?_)
        refine x_push 1 rfl ?_
        refine x_iand1 (by omega) (by omega) ?_
        refine x_push 1 rfl ?_
        refine x_icmp_ne (by omega) (by omega) (by omega) (by omega) (fun z8 => ?_) (fun z8 => ?_)
        · skip
          refine x_lloadN rfl ?_
          refine x_goto ?_
          refine x_blk (b := 7) (a_66 E) rfl ?_
          unfold b_66_7
          refine x_lbinX ?_
          refine x_lstore ?_
          refine x_X_lo (lo' := [(0, x_R 111), (1, x_R 4), (2, x_I _), (3, x_I _), (4, x_I _), (5, x_N _), (7, x_I _), (8, x_N _), (10, x_I _), (11, x_N _)]) ⟨rfl, rfl, rfl, rfl, rfl, rfl, rfl, rfl, rfl, rfl, trivial⟩ ?_
          refine x_iinc 1 rfl rfl ?_
          refine x_goto ?_
          refine x_blk (b := 8) (a_66 E) rfl ?_
          unfold b_66_8
          refine x_iload rfl ?_
          refine x_iload rfl ?_
          refine x_icmp_ge (by omega) (by omega) (by omega) (by omega) (fun z9 => ?_) (fun z => absurd (by omega) z)
          refine x_aload rfl ?_
          refine x_getR (r := 111) rfl (by decide) (by decide) rfl ?_
          refine x_iload rfl ?_
          refine x_push 1 rfl ?_
          refine x_isub ?_
          refine x_iload rfl ?_
          refine x_isub ?_
          refine x_laldX (r := 123) (n := 7) rfl rfl (by decide) (by omega) (by omega) (fun m10 m10x => ?_)
          refine x_lstore ?_
          refine x_X_lo (lo' := [(0, x_R 111), (1, x_R 4), (2, x_I _), (3, x_I _), (4, x_I _), (5, x_N _), (7, x_I _), (8, x_N _), (10, x_I _), (11, x_N _)]) ⟨rfl, rfl, rfl, rfl, rfl, rfl, rfl, rfl, rfl, rfl, trivial⟩ ?_
          refine x_lloadN rfl ?_
          refine x_iload rfl ?_
          refine x_iload rfl ?_
          refine x_push 1 rfl ?_
          refine x_isub ?_
          refine x_iload rfl ?_
          refine x_isub ?_
          refine x_shrX (by omega) (by omega) (by omega) (by omega) (fun v11 v11x v11a v11b => ?_)
          refine x_push 1 rfl ?_
          refine x_iand1 (by omega) (by omega) ?_
          refine x_push 1 rfl ?_
          refine x_icmp_ne (by omega) (by omega) (by omega) (by omega) (fun z12 => ?_) (fun z12 => ?_)
          · skip
            refine x_lloadN rfl ?_
            refine x_goto ?_
            refine x_blk (b := 7) (a_66 E) rfl ?_
            unfold b_66_7
            refine x_lbinX ?_
            refine x_lstore ?_
            refine x_iinc 1 rfl rfl ?_
            refine x_X_lo (lo' := [(0, x_R 111), (1, x_R 4), (2, x_I _), (3, x_I _), (4, x_I _), (5, x_N _), (7, x_I _), (8, x_N _), (10, x_I _), (11, x_N _)]) ⟨rfl, rfl, rfl, rfl, rfl, rfl, rfl, rfl, rfl, rfl, trivial⟩ ?_
            refine x_goto ?_
            refine x_blk (b := 8) (a_66 E) rfl ?_
            unfold b_66_8
            refine x_iload rfl ?_
            refine x_iload rfl ?_
            refine x_icmp_ge (by omega) (by omega) (by omega) (by omega) (fun z => absurd z (by omega)) (fun z13 => ?_)
            refine x_blk (b := 5) (a_66 E) rfl ?_
            unfold b_66_5
            refine x_lloadN rfl ?_
            refine x_lloadN rfl ?_
            refine x_lbinX ?_
            refine x_lstore ?_
            refine x_fall ?_
            refine x_blk (b := 4) (a_66 E) rfl ?_
            unfold b_66_4
            refine x_iinc 1 rfl rfl ?_
            refine x_X_lo (lo' := [(0, x_R 111), (1, x_R 4), (2, x_I _), (3, x_I _), (4, x_I _), (5, x_N _), (7, x_I _), (8, x_N _), (10, x_I _), (11, x_N _)]) ⟨rfl, rfl, rfl, rfl, rfl, rfl, rfl, rfl, rfl, rfl, trivial⟩ ?_
            refine x_goto ?_
            refine x_G_lo (lo' := [(0, x_R 111), (1, x_R 4), (2, x_I _), (3, x_I _), (4, x_I _), (5, x_N _), (7, x_I _)]) ⟨rfl, rfl, rfl, rfl, rfl, rfl, rfl, trivial⟩ ?_
            refine ih _ (by omega) _ _ rfl (by omega) (by omega) (fun i hi => ?_)
            rw [eK i]
            have q := hi0 i hi
            have q2 : K i = kq → cn_tb A a2 (K i) = v3 := fun e => by rw [e]; exact te3
            have kx := cn_byx (fun m => cn_b (σ 123 m).toNat i) a3 a2
            rw [eK i] at kx
            have o1 := cn_b_1 hi
            have ob := cn_b_or ty ((f_land (f_land 18446744073709551615 m6) m10)) i
            have an0 := cn_b_and 18446744073709551615 m6 i
            have an1 := cn_b_and (f_land 18446744073709551615 m6) m10 i
            have mb0 := cn_b_b m6 i
            have me0 : cn_b (σ 123 (a3 - 1).toNat).toNat i = cn_b m6 i := by rw [show (σ 123 (a3 - 1).toNat).toNat = m6 by rw [show (a3 - 1).toNat = (a3 - 1 - 0).toNat by omega]; omega]
            have mb1 := cn_b_b m10 i
            have me1 : cn_b (σ 123 (a3 - 2).toNat).toNat i = cn_b m10 i := by rw [show (σ 123 (a3 - 2).toNat).toNat = m10 by rw [show (a3 - 2).toNat = (a3 - 1 - (0 + 1)).toNat by omega]; omega]
            omega
          · skip
            refine x_blk (b := 6) (a_66 E) rfl ?_
            unfold b_66_6
            refine x_lloadN rfl ?_
            refine x_pushv ?_
            refine x_lbinX ?_
            refine x_fall ?_
            refine x_blk (b := 7) (a_66 E) rfl ?_
            unfold b_66_7
            refine x_lbinX ?_
            refine x_lstore ?_
            refine x_iinc 1 rfl rfl ?_
            refine x_X_lo (lo' := [(0, x_R 111), (1, x_R 4), (2, x_I _), (3, x_I _), (4, x_I _), (5, x_N _), (7, x_I _), (8, x_N _), (10, x_I _), (11, x_N _)]) ⟨rfl, rfl, rfl, rfl, rfl, rfl, rfl, rfl, rfl, rfl, trivial⟩ ?_
            refine x_goto ?_
            refine x_blk (b := 8) (a_66 E) rfl ?_
            unfold b_66_8
            refine x_iload rfl ?_
            refine x_iload rfl ?_
            refine x_icmp_ge (by omega) (by omega) (by omega) (by omega) (fun z => absurd z (by omega)) (fun z14 => ?_)
            refine x_blk (b := 5) (a_66 E) rfl ?_
            unfold b_66_5
            refine x_lloadN rfl ?_
            refine x_lloadN rfl ?_
            refine x_lbinX ?_
            refine x_lstore ?_
            refine x_fall ?_
            refine x_blk (b := 4) (a_66 E) rfl ?_
            unfold b_66_4
            refine x_iinc 1 rfl rfl ?_
            refine x_X_lo (lo' := [(0, x_R 111), (1, x_R 4), (2, x_I _), (3, x_I _), (4, x_I _), (5, x_N _), (7, x_I _), (8, x_N _), (10, x_I _), (11, x_N _)]) ⟨rfl, rfl, rfl, rfl, rfl, rfl, rfl, rfl, rfl, rfl, trivial⟩ ?_
            refine x_goto ?_
            refine x_G_lo (lo' := [(0, x_R 111), (1, x_R 4), (2, x_I _), (3, x_I _), (4, x_I _), (5, x_N _), (7, x_I _)]) ⟨rfl, rfl, rfl, rfl, rfl, rfl, rfl, trivial⟩ ?_
            refine ih _ (by omega) _ _ rfl (by omega) (by omega) (fun i hi => ?_)
            rw [eK i]
            have q := hi0 i hi
            have q2 : K i = kq → cn_tb A a2 (K i) = v3 := fun e => by rw [e]; exact te3
            have kx := cn_byx (fun m => cn_b (σ 123 m).toNat i) a3 a2
            rw [eK i] at kx
            have o1 := cn_b_1 hi
            have ob := cn_b_or ty ((f_land (f_land 18446744073709551615 m6) (f_lxor m10 18446744073709551615))) i
            have an0 := cn_b_and 18446744073709551615 m6 i
            have an1 := cn_b_and (f_land 18446744073709551615 m6) (f_lxor m10 18446744073709551615) i
            have nt1 := cn_b_not (a := m10) hi
            have mb0 := cn_b_b m6 i
            have me0 : cn_b (σ 123 (a3 - 1).toNat).toNat i = cn_b m6 i := by rw [show (σ 123 (a3 - 1).toNat).toNat = m6 by rw [show (a3 - 1).toNat = (a3 - 1 - 0).toNat by omega]; omega]
            have mb1 := cn_b_b m10 i
            have me1 : cn_b (σ 123 (a3 - 2).toNat).toNat i = cn_b m10 i := by rw [show (σ 123 (a3 - 2).toNat).toNat = m10 by rw [show (a3 - 2).toNat = (a3 - 1 - (0 + 1)).toNat by omega]; omega]
            omega
        · skip
          refine x_blk (b := 6) (a_66 E) rfl ?_
          unfold b_66_6
          refine x_lloadN rfl ?_
          refine x_pushv ?_
          refine x_lbinX ?_
          refine x_fall ?_
          refine x_blk (b := 7) (a_66 E) rfl ?_
          unfold b_66_7
          refine x_lbinX ?_
          refine x_lstore ?_
          refine x_X_lo (lo' := [(0, x_R 111), (1, x_R 4), (2, x_I _), (3, x_I _), (4, x_I _), (5, x_N _), (7, x_I _), (8, x_N _), (10, x_I _), (11, x_N _)]) ⟨rfl, rfl, rfl, rfl, rfl, rfl, rfl, rfl, rfl, rfl, trivial⟩ ?_
          refine x_iinc 1 rfl rfl ?_
          refine x_goto ?_
          refine x_blk (b := 8) (a_66 E) rfl ?_
          unfold b_66_8
          refine x_iload rfl ?_
          refine x_iload rfl ?_
          refine x_icmp_ge (by omega) (by omega) (by omega) (by omega) (fun z15 => ?_) (fun z => absurd (by omega) z)
          refine x_aload rfl ?_
          refine x_getR (r := 111) rfl (by decide) (by decide) rfl ?_
          refine x_iload rfl ?_
          refine x_push 1 rfl ?_
          refine x_isub ?_
          refine x_iload rfl ?_
          refine x_isub ?_
          refine x_laldX (r := 123) (n := 7) rfl rfl (by decide) (by omega) (by omega) (fun m16 m16x => ?_)
          refine x_lstore ?_
          refine x_X_lo (lo' := [(0, x_R 111), (1, x_R 4), (2, x_I _), (3, x_I _), (4, x_I _), (5, x_N _), (7, x_I _), (8, x_N _), (10, x_I _), (11, x_N _)]) ⟨rfl, rfl, rfl, rfl, rfl, rfl, rfl, rfl, rfl, rfl, trivial⟩ ?_
          refine x_lloadN rfl ?_
          refine x_iload rfl ?_
          refine x_iload rfl ?_
          refine x_push 1 rfl ?_
          refine x_isub ?_
          refine x_iload rfl ?_
          refine x_isub ?_
          refine x_shrX (by omega) (by omega) (by omega) (by omega) (fun v17 v17x v17a v17b => ?_)
          refine x_push 1 rfl ?_
          refine x_iand1 (by omega) (by omega) ?_
          refine x_push 1 rfl ?_
          refine x_icmp_ne (by omega) (by omega) (by omega) (by omega) (fun z18 => ?_) (fun z18 => ?_)
          · skip
            refine x_lloadN rfl ?_
            refine x_goto ?_
            refine x_blk (b := 7) (a_66 E) rfl ?_
            unfold b_66_7
            refine x_lbinX ?_
            refine x_lstore ?_
            refine x_iinc 1 rfl rfl ?_
            refine x_X_lo (lo' := [(0, x_R 111), (1, x_R 4), (2, x_I _), (3, x_I _), (4, x_I _), (5, x_N _), (7, x_I _), (8, x_N _), (10, x_I _), (11, x_N _)]) ⟨rfl, rfl, rfl, rfl, rfl, rfl, rfl, rfl, rfl, rfl, trivial⟩ ?_
            refine x_goto ?_
            refine x_blk (b := 8) (a_66 E) rfl ?_
            unfold b_66_8
            refine x_iload rfl ?_
            refine x_iload rfl ?_
            refine x_icmp_ge (by omega) (by omega) (by omega) (by omega) (fun z => absurd z (by omega)) (fun z19 => ?_)
            refine x_blk (b := 5) (a_66 E) rfl ?_
            unfold b_66_5
            refine x_lloadN rfl ?_
            refine x_lloadN rfl ?_
            refine x_lbinX ?_
            refine x_lstore ?_
            refine x_fall ?_
            refine x_blk (b := 4) (a_66 E) rfl ?_
            unfold b_66_4
            refine x_iinc 1 rfl rfl ?_
            refine x_X_lo (lo' := [(0, x_R 111), (1, x_R 4), (2, x_I _), (3, x_I _), (4, x_I _), (5, x_N _), (7, x_I _), (8, x_N _), (10, x_I _), (11, x_N _)]) ⟨rfl, rfl, rfl, rfl, rfl, rfl, rfl, rfl, rfl, rfl, trivial⟩ ?_
            refine x_goto ?_
            refine x_G_lo (lo' := [(0, x_R 111), (1, x_R 4), (2, x_I _), (3, x_I _), (4, x_I _), (5, x_N _), (7, x_I _)]) ⟨rfl, rfl, rfl, rfl, rfl, rfl, rfl, trivial⟩ ?_
            refine ih _ (by omega) _ _ rfl (by omega) (by omega) (fun i hi => ?_)
            rw [eK i]
            have q := hi0 i hi
            have q2 : K i = kq → cn_tb A a2 (K i) = v3 := fun e => by rw [e]; exact te3
            have kx := cn_byx (fun m => cn_b (σ 123 m).toNat i) a3 a2
            rw [eK i] at kx
            have o1 := cn_b_1 hi
            have ob := cn_b_or ty ((f_land (f_land 18446744073709551615 (f_lxor m6 18446744073709551615)) m16)) i
            have an0 := cn_b_and 18446744073709551615 (f_lxor m6 18446744073709551615) i
            have nt0 := cn_b_not (a := m6) hi
            have an1 := cn_b_and (f_land 18446744073709551615 (f_lxor m6 18446744073709551615)) m16 i
            have mb0 := cn_b_b m6 i
            have me0 : cn_b (σ 123 (a3 - 1).toNat).toNat i = cn_b m6 i := by rw [show (σ 123 (a3 - 1).toNat).toNat = m6 by rw [show (a3 - 1).toNat = (a3 - 1 - 0).toNat by omega]; omega]
            have mb1 := cn_b_b m16 i
            have me1 : cn_b (σ 123 (a3 - 2).toNat).toNat i = cn_b m16 i := by rw [show (σ 123 (a3 - 2).toNat).toNat = m16 by rw [show (a3 - 2).toNat = (a3 - 1 - (0 + 1)).toNat by omega]; omega]
            omega
          · skip
            refine x_blk (b := 6) (a_66 E) rfl ?_
            unfold b_66_6
            refine x_lloadN rfl ?_
            refine x_pushv ?_
            refine x_lbinX ?_
            refine x_fall ?_
            refine x_blk (b := 7) (a_66 E) rfl ?_
            unfold b_66_7
            refine x_lbinX ?_
            refine x_lstore ?_
            refine x_iinc 1 rfl rfl ?_
            refine x_X_lo (lo' := [(0, x_R 111), (1, x_R 4), (2, x_I _), (3, x_I _), (4, x_I _), (5, x_N _), (7, x_I _), (8, x_N _), (10, x_I _), (11, x_N _)]) ⟨rfl, rfl, rfl, rfl, rfl, rfl, rfl, rfl, rfl, rfl, trivial⟩ ?_
            refine x_goto ?_
            refine x_blk (b := 8) (a_66 E) rfl ?_
            unfold b_66_8
            refine x_iload rfl ?_
            refine x_iload rfl ?_
            refine x_icmp_ge (by omega) (by omega) (by omega) (by omega) (fun z => absurd z (by omega)) (fun z20 => ?_)
            refine x_blk (b := 5) (a_66 E) rfl ?_
            unfold b_66_5
            refine x_lloadN rfl ?_
            refine x_lloadN rfl ?_
            refine x_lbinX ?_
            refine x_lstore ?_
            refine x_fall ?_
            refine x_blk (b := 4) (a_66 E) rfl ?_
            unfold b_66_4
            refine x_iinc 1 rfl rfl ?_
            refine x_X_lo (lo' := [(0, x_R 111), (1, x_R 4), (2, x_I _), (3, x_I _), (4, x_I _), (5, x_N _), (7, x_I _), (8, x_N _), (10, x_I _), (11, x_N _)]) ⟨rfl, rfl, rfl, rfl, rfl, rfl, rfl, rfl, rfl, rfl, trivial⟩ ?_
            refine x_goto ?_
            refine x_G_lo (lo' := [(0, x_R 111), (1, x_R 4), (2, x_I _), (3, x_I _), (4, x_I _), (5, x_N _), (7, x_I _)]) ⟨rfl, rfl, rfl, rfl, rfl, rfl, rfl, trivial⟩ ?_
            refine ih _ (by omega) _ _ rfl (by omega) (by omega) (fun i hi => ?_)
            rw [eK i]
            have q := hi0 i hi
            have q2 : K i = kq → cn_tb A a2 (K i) = v3 := fun e => by rw [e]; exact te3
            have kx := cn_byx (fun m => cn_b (σ 123 m).toNat i) a3 a2
            rw [eK i] at kx
            have o1 := cn_b_1 hi
            have ob := cn_b_or ty ((f_land (f_land 18446744073709551615 (f_lxor m6 18446744073709551615)) (f_lxor m16 18446744073709551615))) i
            have an0 := cn_b_and 18446744073709551615 (f_lxor m6 18446744073709551615) i
            have nt0 := cn_b_not (a := m6) hi
            have an1 := cn_b_and (f_land 18446744073709551615 (f_lxor m6 18446744073709551615)) (f_lxor m16 18446744073709551615) i
            have nt1 := cn_b_not (a := m16) hi
            have mb0 := cn_b_b m6 i
            have me0 : cn_b (σ 123 (a3 - 1).toNat).toNat i = cn_b m6 i := by rw [show (σ 123 (a3 - 1).toNat).toNat = m6 by rw [show (a3 - 1).toNat = (a3 - 1 - 0).toNat by omega]; omega]
            have mb1 := cn_b_b m16 i
            have me1 : cn_b (σ 123 (a3 - 2).toNat).toNat i = cn_b m16 i := by rw [show (σ 123 (a3 - 2).toNat).toNat = m16 by rw [show (a3 - 2).toNat = (a3 - 1 - (0 + 1)).toNat by omega]; omega]
            omega
      · skip
        refine x_blk (b := 4) (a_66 E) rfl ?_
        unfold b_66_4
        refine x_iinc 1 rfl rfl ?_
        refine x_goto ?_
        refine x_G_lo (lo' := [(0, x_R 111), (1, x_R 4), (2, x_I _), (3, x_I _), (4, x_I _), (5, x_N _), (7, x_I _)]) ⟨rfl, rfl, rfl, rfl, rfl, rfl, rfl, trivial⟩ ?_
        refine ih _ (by omega) _ _ rfl (by omega) (by omega) (fun i hi => ?_)
        rw [eK i]
        have q := hi0 i hi
        have q2 : K i = kq → cn_tb A a2 (K i) = v3 := fun e => by rw [e]; exact te3
        omega
    · skip
      refine x_blk (b := 3) (a_66 E) rfl ?_
      unfold b_66_3
      refine x_lloadN rfl ?_
      refine x_lret ?_
      refine k _ (fun i hi => ?_)
      have q := hi0 i hi
      have tb := cn_tb_b hP a2 (K i)
      have kb := kb0 i
      rw [eK i]
      omega
set_option maxHeartbeats 4000000 in
theorem kx_66_124_4_l0 {E : q_E} {σ : x_S} {Q : Option q_V → x_S → Prop} {a2 a3 : Int} (f1 : 0 ≤ a2) (f2 : a2 ≤ 4) (h1 : y_ch a2 ≤ a3) (h2 : a3 ≤ 7) (C0 : y_CI σ) {A : Nat → Int} (hP : y_PI A) (hA : y_AG (y_cv σ 4) A) (k : ∀ n : Nat, (∀ i, i < 64 → cn_b n i = cn_tb A a2 (cn_by (fun m => cn_b (σ 136 m).toNat i) a3 a2)) → Q (some (x_N n)) σ) (hc : y_ch a2 = 0) : ∀ (N : Nat) (ty : Nat) (kq : Int), (1 - kq).toNat = N → 0 ≤ kq → kq ≤ 1 → (∀ i, i < 64 → (cn_b ty i = 1 ∧ cn_by (fun m => cn_b (σ 136 m).toNat i) a3 a2 < kq ∧ cn_tb A a2 (cn_by (fun m => cn_b (σ 136 m).toNat i) a3 a2) = 1) ∨ (cn_b ty i = 0 ∧ ¬ (cn_by (fun m => cn_b (σ 136 m).toNat i) a3 a2 < kq ∧ cn_tb A a2 (cn_by (fun m => cn_b (σ 136 m).toNat i) a3 a2) = 1))) → x_G E m_66 Q (t_66 9) [(0, x_R 124), (1, x_R 4), (2, x_I a2), (3, x_I a3), (4, x_I 0), (5, x_N ty), (7, x_I kq)] [] σ := by
  have pwx : y_pw (y_ch a2) = 1 := by rw [hc]; rfl
  intro N
  induction N using Nat.strongRecOn with
  | ind N ih =>
    intro ty kq hN k1 k2 hi0
    obtain ⟨K, hK⟩ : ∃ K : Nat → Int, K = fun i => cn_by (fun m => cn_b (σ 136 m).toNat i) a3 a2 := ⟨_, rfl⟩
    have hi0 : ∀ i, i < 64 → (cn_b ty i = 1 ∧ K i < kq ∧ cn_tb A a2 (K i) = 1) ∨ (cn_b ty i = 0 ∧ ¬ (K i < kq ∧ cn_tb A a2 (K i) = 1)) := by rw [hK]; exact hi0
    have kb0 : ∀ i, 0 ≤ K i ∧ K i < 1 := fun i => by
      rw [hK]
      have kx := cn_byx (fun m => cn_b (σ 136 m).toNat i) a3 a2
      have b1 := cn_b_b (σ 136 (a3 - 1).toNat).toNat i
      have b2 := cn_b_b (σ 136 (a3 - 2).toNat).toNat i
      show 0 ≤ cn_by (fun m => cn_b (σ 136 m).toNat i) a3 a2 ∧ cn_by (fun m => cn_b (σ 136 m).toNat i) a3 a2 < _
      omega
    have eK : ∀ i, cn_by (fun m => cn_b (σ 136 m).toNat i) a3 a2 = K i := fun i => by rw [hK]
    refine x_blk (b := 9) (a_66 E) rfl ?_
    unfold b_66_9
    refine x_iload rfl ?_
    refine x_push 1 rfl ?_
    refine x_iload rfl ?_
    refine x_shl1X (by omega) (by omega) (fun v1 v1x v1a v1b => ?_)
    refine x_icmp_ge (by omega) (by omega) (by omega) (by omega) (fun z2 => ?_) (fun z2 => ?_)
    · skip
      refine x_aload rfl ?_
      refine x_push 1 rfl ?_
      refine x_iload rfl ?_
      refine x_iload rfl ?_
      refine x_cV (fun _ => rfl) rfl (by decide) (Nat.le_of_ble_eq_true rfl) ?_
      refine kx_30_4 (by omega) (by omega) (by omega) (by omega) (by omega) (by omega) C0 (fun v3 v3a v3b v3c => ?_)
      have te3 : cn_tb A a2 kq = v3 := by
        rw [cn_tb_e f1 f2 (by omega) (by omega), ← y_PG_e hA (m := 1) (f := a2) (e := kq) (by omega) (by omega) f1 f2 (by omega) (by omega)]
        show σ 8 _ = _
        omega
      refine x_push 1 rfl ?_
      refine x_icmp_ne (by omega) (by omega) (by omega) (by omega) (fun z4 => ?_) (fun z4 => ?_)
      · skip
        refine x_pushv ?_
        refine x_lstore ?_
        refine x_push 0 rfl ?_
        refine x_istore ?_
        refine x_X_lo (lo' := [(0, x_R 124), (1, x_R 4), (2, x_I _), (3, x_I _), (4, x_I _), (5, x_N _), (7, x_I _), (8, x_N _), (10, x_I _)]) ⟨rfl, rfl, rfl, rfl, rfl, rfl, rfl, rfl, rfl, trivial⟩ ?_
        refine x_fall ?_
        refine x_blk (b := 8) (a_66 E) rfl ?_
        unfold b_66_8
        refine x_iload rfl ?_
        refine x_iload rfl ?_
        refine x_icmp_ge (by omega) (by omega) (by omega) (by omega) (fun z => absurd z (by omega)) (fun z5 => ?_)
        refine x_blk (b := 5) (a_66 E) rfl ?_
        unfold b_66_5
        refine x_lloadN rfl ?_
        refine x_lloadN rfl ?_
        refine x_lbinX ?_
        refine x_lstore ?_
        refine x_fall ?_
        refine x_blk (b := 4) (a_66 E) rfl ?_
        unfold b_66_4
        refine x_iinc 1 rfl rfl ?_
        refine x_X_lo (lo' := [(0, x_R 124), (1, x_R 4), (2, x_I _), (3, x_I _), (4, x_I _), (5, x_N _), (7, x_I _), (8, x_N _), (10, x_I _)]) ⟨rfl, rfl, rfl, rfl, rfl, rfl, rfl, rfl, rfl, trivial⟩ ?_
        refine x_goto ?_
        refine x_G_lo (lo' := [(0, x_R 124), (1, x_R 4), (2, x_I _), (3, x_I _), (4, x_I _), (5, x_N _), (7, x_I _)]) ⟨rfl, rfl, rfl, rfl, rfl, rfl, rfl, trivial⟩ ?_
        refine ih _ (by omega) _ _ rfl (by omega) (by omega) (fun i hi => ?_)
        rw [eK i]
        have q := hi0 i hi
        have q2 : K i = kq → cn_tb A a2 (K i) = v3 := fun e => by rw [e]; exact te3
        have kx := cn_byx (fun m => cn_b (σ 136 m).toNat i) a3 a2
        rw [eK i] at kx
        have o1 := cn_b_1 hi
        have ob := cn_b_or ty (18446744073709551615) i
        omega
      · skip
        refine x_blk (b := 4) (a_66 E) rfl ?_
        unfold b_66_4
        refine x_iinc 1 rfl rfl ?_
        refine x_goto ?_
        refine x_G_lo (lo' := [(0, x_R 124), (1, x_R 4), (2, x_I _), (3, x_I _), (4, x_I _), (5, x_N _), (7, x_I _)]) ⟨rfl, rfl, rfl, rfl, rfl, rfl, rfl, trivial⟩ ?_
        refine ih _ (by omega) _ _ rfl (by omega) (by omega) (fun i hi => ?_)
        rw [eK i]
        have q := hi0 i hi
        have q2 : K i = kq → cn_tb A a2 (K i) = v3 := fun e => by rw [e]; exact te3
        omega
    · skip
      refine x_blk (b := 3) (a_66 E) rfl ?_
      unfold b_66_3
      refine x_lloadN rfl ?_
      refine x_lret ?_
      refine k _ (fun i hi => ?_)
      have q := hi0 i hi
      have tb := cn_tb_b hP a2 (K i)
      have kb := kb0 i
      rw [eK i]
      omega
set_option maxHeartbeats 4000000 in
theorem kx_66_124_4_l1 {E : q_E} {σ : x_S} {Q : Option q_V → x_S → Prop} {a2 a3 : Int} (f1 : 0 ≤ a2) (f2 : a2 ≤ 4) (h1 : y_ch a2 ≤ a3) (h2 : a3 ≤ 7) (C0 : y_CI σ) {A : Nat → Int} (hP : y_PI A) (hA : y_AG (y_cv σ 4) A) (k : ∀ n : Nat, (∀ i, i < 64 → cn_b n i = cn_tb A a2 (cn_by (fun m => cn_b (σ 136 m).toNat i) a3 a2)) → Q (some (x_N n)) σ) (hc : y_ch a2 = 1) : ∀ (N : Nat) (ty : Nat) (kq : Int), (2 - kq).toNat = N → 0 ≤ kq → kq ≤ 2 → (∀ i, i < 64 → (cn_b ty i = 1 ∧ cn_by (fun m => cn_b (σ 136 m).toNat i) a3 a2 < kq ∧ cn_tb A a2 (cn_by (fun m => cn_b (σ 136 m).toNat i) a3 a2) = 1) ∨ (cn_b ty i = 0 ∧ ¬ (cn_by (fun m => cn_b (σ 136 m).toNat i) a3 a2 < kq ∧ cn_tb A a2 (cn_by (fun m => cn_b (σ 136 m).toNat i) a3 a2) = 1))) → x_G E m_66 Q (t_66 9) [(0, x_R 124), (1, x_R 4), (2, x_I a2), (3, x_I a3), (4, x_I 1), (5, x_N ty), (7, x_I kq)] [] σ := by
  have pwx : y_pw (y_ch a2) = 2 := by rw [hc]; rfl
  intro N
  induction N using Nat.strongRecOn with
  | ind N ih =>
    intro ty kq hN k1 k2 hi0
    obtain ⟨K, hK⟩ : ∃ K : Nat → Int, K = fun i => cn_by (fun m => cn_b (σ 136 m).toNat i) a3 a2 := ⟨_, rfl⟩
    have hi0 : ∀ i, i < 64 → (cn_b ty i = 1 ∧ K i < kq ∧ cn_tb A a2 (K i) = 1) ∨ (cn_b ty i = 0 ∧ ¬ (K i < kq ∧ cn_tb A a2 (K i) = 1)) := by rw [hK]; exact hi0
    have kb0 : ∀ i, 0 ≤ K i ∧ K i < 2 := fun i => by
      rw [hK]
      have kx := cn_byx (fun m => cn_b (σ 136 m).toNat i) a3 a2
      have b1 := cn_b_b (σ 136 (a3 - 1).toNat).toNat i
      have b2 := cn_b_b (σ 136 (a3 - 2).toNat).toNat i
      show 0 ≤ cn_by (fun m => cn_b (σ 136 m).toNat i) a3 a2 ∧ cn_by (fun m => cn_b (σ 136 m).toNat i) a3 a2 < _
      omega
    have eK : ∀ i, cn_by (fun m => cn_b (σ 136 m).toNat i) a3 a2 = K i := fun i => by rw [hK]
    refine x_blk (b := 9) (a_66 E) rfl ?_
    unfold b_66_9
    refine x_iload rfl ?_
    refine x_push 1 rfl ?_
    refine x_iload rfl ?_
    refine x_shl1X (by omega) (by omega) (fun v1 v1x v1a v1b => ?_)
    refine x_icmp_ge (by omega) (by omega) (by omega) (by omega) (fun z2 => ?_) (fun z2 => ?_)
    · skip
      refine x_aload rfl ?_
      refine x_push 1 rfl ?_
      refine x_iload rfl ?_
      refine x_iload rfl ?_
      refine x_cV (fun _ => rfl) rfl (by decide) (Nat.le_of_ble_eq_true rfl) ?_
      refine kx_30_4 (by omega) (by omega) (by omega) (by omega) (by omega) (by omega) C0 (fun v3 v3a v3b v3c => ?_)
      have te3 : cn_tb A a2 kq = v3 := by
        rw [cn_tb_e f1 f2 (by omega) (by omega), ← y_PG_e hA (m := 1) (f := a2) (e := kq) (by omega) (by omega) f1 f2 (by omega) (by omega)]
        show σ 8 _ = _
        omega
      refine x_push 1 rfl ?_
      refine x_icmp_ne (by omega) (by omega) (by omega) (by omega) (fun z4 => ?_) (fun z4 => ?_)
      · skip
        refine x_pushv ?_
        refine x_lstore ?_
        refine x_push 0 rfl ?_
        refine x_istore ?_
        refine x_X_lo (lo' := [(0, x_R 124), (1, x_R 4), (2, x_I _), (3, x_I _), (4, x_I _), (5, x_N _), (7, x_I _), (8, x_N _), (10, x_I _)]) ⟨rfl, rfl, rfl, rfl, rfl, rfl, rfl, rfl, rfl, trivial⟩ ?_
        refine x_fall ?_
        refine x_blk (b := 8) (a_66 E) rfl ?_
        unfold b_66_8
        refine x_iload rfl ?_
        refine x_iload rfl ?_
        refine x_icmp_ge (by omega) (by omega) (by omega) (by omega) (fun z5 => ?_) (fun z => absurd (by omega) z)
        refine x_aload rfl ?_
        refine x_getR (r := 124) rfl (by decide) (by decide) rfl ?_
        refine x_iload rfl ?_
        refine x_push 1 rfl ?_
        refine x_isub ?_
        refine x_iload rfl ?_
        refine x_isub ?_
        refine x_laldX (r := 136) (n := 7) rfl rfl (by decide) (by omega) (by omega) (fun m6 m6x => ?_)
        refine x_lstore ?_
        refine x_lloadN rfl ?_
        refine x_iload rfl ?_
        refine x_iload rfl ?_
        refine x_push 1 rfl ?_
        refine x_isub ?_
        refine x_iload rfl ?_
        refine x_isub ?_
        refine x_shrX (by omega) (by omega) (by omega) (by omega) (fun v7 v7x v7a v7b => ?_)
        refine x_push 1 rfl ?_
        refine x_iand1 (by omega) (by omega) ?_
        refine x_push 1 rfl ?_
        refine x_icmp_ne (by omega) (by omega) (by omega) (by omega) (fun z8 => ?_) (fun z8 => ?_)
        · skip
          refine x_lloadN rfl ?_
          refine x_goto ?_
          refine x_blk (b := 7) (a_66 E) rfl ?_
          unfold b_66_7
          refine x_lbinX ?_
          refine x_lstore ?_
          refine x_X_lo (lo' := [(0, x_R 124), (1, x_R 4), (2, x_I _), (3, x_I _), (4, x_I _), (5, x_N _), (7, x_I _), (8, x_N _), (10, x_I _), (11, x_N _)]) ⟨rfl, rfl, rfl, rfl, rfl, rfl, rfl, rfl, rfl, rfl, trivial⟩ ?_
          refine x_iinc 1 rfl rfl ?_
          refine x_goto ?_
          refine x_blk (b := 8) (a_66 E) rfl ?_
          unfold b_66_8
          refine x_iload rfl ?_
          refine x_iload rfl ?_
          refine x_icmp_ge (by omega) (by omega) (by omega) (by omega) (fun z => absurd z (by omega)) (fun z9 => ?_)
          refine x_blk (b := 5) (a_66 E) rfl ?_
          unfold b_66_5
          refine x_lloadN rfl ?_
          refine x_lloadN rfl ?_
          refine x_lbinX ?_
          refine x_lstore ?_
          refine x_X_lo (lo' := [(0, x_R 124), (1, x_R 4), (2, x_I _), (3, x_I _), (4, x_I _), (5, x_N _), (7, x_I _), (8, x_N _), (10, x_I _), (11, x_N _)]) ⟨rfl, rfl, rfl, rfl, rfl, rfl, rfl, rfl, rfl, rfl, trivial⟩ ?_
          refine x_fall ?_
          refine x_blk (b := 4) (a_66 E) rfl ?_
          unfold b_66_4
          refine x_iinc 1 rfl rfl ?_
          refine x_goto ?_
          refine x_G_lo (lo' := [(0, x_R 124), (1, x_R 4), (2, x_I _), (3, x_I _), (4, x_I _), (5, x_N _), (7, x_I _)]) ⟨rfl, rfl, rfl, rfl, rfl, rfl, rfl, trivial⟩ ?_
          refine ih _ (by omega) _ _ rfl (by omega) (by omega) (fun i hi => ?_)
          rw [eK i]
          have q := hi0 i hi
          have q2 : K i = kq → cn_tb A a2 (K i) = v3 := fun e => by rw [e]; exact te3
          have kx := cn_byx (fun m => cn_b (σ 136 m).toNat i) a3 a2
          rw [eK i] at kx
          have o1 := cn_b_1 hi
          have ob := cn_b_or ty ((f_land 18446744073709551615 m6)) i
          have an0 := cn_b_and 18446744073709551615 m6 i
          have mb0 := cn_b_b m6 i
          have me0 : cn_b (σ 136 (a3 - 1).toNat).toNat i = cn_b m6 i := by rw [show (σ 136 (a3 - 1).toNat).toNat = m6 by rw [show (a3 - 1).toNat = (a3 - 1 - 0).toNat by omega]; omega]
          omega
        · skip
          refine x_blk (b := 6) (a_66 E) rfl ?_
          unfold b_66_6
          refine x_lloadN rfl ?_
          refine x_pushv ?_
          refine x_lbinX ?_
          refine x_fall ?_
          refine x_blk (b := 7) (a_66 E) rfl ?_
          unfold b_66_7
          refine x_lbinX ?_
          refine x_lstore ?_
          refine x_X_lo (lo' := [(0, x_R 124), (1, x_R 4), (2, x_I _), (3, x_I _), (4, x_I _), (5, x_N _), (7, x_I _), (8, x_N _), (10, x_I _), (11, x_N _)]) ⟨rfl, rfl, rfl, rfl, rfl, rfl, rfl, rfl, rfl, rfl, trivial⟩ ?_
          refine x_iinc 1 rfl rfl ?_
          refine x_goto ?_
          refine x_blk (b := 8) (a_66 E) rfl ?_
          unfold b_66_8
          refine x_iload rfl ?_
          refine x_iload rfl ?_
          refine x_icmp_ge (by omega) (by omega) (by omega) (by omega) (fun z => absurd z (by omega)) (fun z10 => ?_)
          refine x_blk (b := 5) (a_66 E) rfl ?_
          unfold b_66_5
          refine x_lloadN rfl ?_
          refine x_lloadN rfl ?_
          refine x_lbinX ?_
          refine x_lstore ?_
          refine x_X_lo (lo' := [(0, x_R 124), (1, x_R 4), (2, x_I _), (3, x_I _), (4, x_I _), (5, x_N _), (7, x_I _), (8, x_N _), (10, x_I _), (11, x_N _)]) ⟨rfl, rfl, rfl, rfl, rfl, rfl, rfl, rfl, rfl, rfl, trivial⟩ ?_
          refine x_fall ?_
          refine x_blk (b := 4) (a_66 E) rfl ?_
          unfold b_66_4
          refine x_iinc 1 rfl rfl ?_
          refine x_goto ?_
          refine x_G_lo (lo' := [(0, x_R 124), (1, x_R 4), (2, x_I _), (3, x_I _), (4, x_I _), (5, x_N _), (7, x_I _)]) ⟨rfl, rfl, rfl, rfl, rfl, rfl, rfl, trivial⟩ ?_
          refine ih _ (by omega) _ _ rfl (by omega) (by omega) (fun i hi => ?_)
          rw [eK i]
          have q := hi0 i hi
          have q2 : K i = kq → cn_tb A a2 (K i) = v3 := fun e => by rw [e]; exact te3
          have kx := cn_byx (fun m => cn_b (σ 136 m).toNat i) a3 a2
          rw [eK i] at kx
          have o1 := cn_b_1 hi
          have ob := cn_b_or ty ((f_land 18446744073709551615 (f_lxor m6 18446744073709551615))) i
          have an0 := cn_b_and 18446744073709551615 (f_lxor m6 18446744073709551615) i
          have nt0 := cn_b_not (a := m6) hi
          have mb0 := cn_b_b m6 i
          have me0 : cn_b (σ 136 (a3 - 1).toNat).toNat i = cn_b m6 i := by rw [show (σ 136 (a3 - 1).toNat).toNat = m6 by rw [show (a3 - 1).toNat = (a3 - 1 - 0).toNat by omega]; omega]
          omega
      · skip
        refine x_blk (b := 4) (a_66 E) rfl ?_
        unfold b_66_4
        refine x_iinc 1 rfl rfl ?_
        refine x_goto ?_
        refine x_G_lo (lo' := [(0, x_R 124), (1, x_R 4), (2, x_I _), (3, x_I _), (4, x_I _), (5, x_N _), (7, x_I _)]) ⟨rfl, rfl, rfl, rfl, rfl, rfl, rfl, trivial⟩ ?_
        refine ih _ (by omega) _ _ rfl (by omega) (by omega) (fun i hi => ?_)
        rw [eK i]
        have q := hi0 i hi
        have q2 : K i = kq → cn_tb A a2 (K i) = v3 := fun e => by rw [e]; exact te3
        omega
    · skip
      refine x_blk (b := 3) (a_66 E) rfl ?_
      unfold b_66_3
      refine x_lloadN rfl ?_
      refine x_lret ?_
      refine k _ (fun i hi => ?_)
      have q := hi0 i hi
      have tb := cn_tb_b hP a2 (K i)
      have kb := kb0 i
      rw [eK i]
      omega
set_option maxHeartbeats 4000000 in
theorem kx_66_124_4_l2 {E : q_E} {σ : x_S} {Q : Option q_V → x_S → Prop} {a2 a3 : Int} (f1 : 0 ≤ a2) (f2 : a2 ≤ 4) (h1 : y_ch a2 ≤ a3) (h2 : a3 ≤ 7) (C0 : y_CI σ) {A : Nat → Int} (hP : y_PI A) (hA : y_AG (y_cv σ 4) A) (k : ∀ n : Nat, (∀ i, i < 64 → cn_b n i = cn_tb A a2 (cn_by (fun m => cn_b (σ 136 m).toNat i) a3 a2)) → Q (some (x_N n)) σ) (hc : y_ch a2 = 2) : ∀ (N : Nat) (ty : Nat) (kq : Int), (4 - kq).toNat = N → 0 ≤ kq → kq ≤ 4 → (∀ i, i < 64 → (cn_b ty i = 1 ∧ cn_by (fun m => cn_b (σ 136 m).toNat i) a3 a2 < kq ∧ cn_tb A a2 (cn_by (fun m => cn_b (σ 136 m).toNat i) a3 a2) = 1) ∨ (cn_b ty i = 0 ∧ ¬ (cn_by (fun m => cn_b (σ 136 m).toNat i) a3 a2 < kq ∧ cn_tb A a2 (cn_by (fun m => cn_b (σ 136 m).toNat i) a3 a2) = 1))) → x_G E m_66 Q (t_66 9) [(0, x_R 124), (1, x_R 4), (2, x_I a2), (3, x_I a3), (4, x_I 2), (5, x_N ty), (7, x_I kq)] [] σ := by
  have pwx : y_pw (y_ch a2) = 4 := by rw [hc]; rfl
  intro N
  induction N using Nat.strongRecOn with
  | ind N ih =>
    intro ty kq hN k1 k2 hi0
    obtain ⟨K, hK⟩ : ∃ K : Nat → Int, K = fun i => cn_by (fun m => cn_b (σ 136 m).toNat i) a3 a2 := ⟨_, rfl⟩
    have hi0 : ∀ i, i < 64 → (cn_b ty i = 1 ∧ K i < kq ∧ cn_tb A a2 (K i) = 1) ∨ (cn_b ty i = 0 ∧ ¬ (K i < kq ∧ cn_tb A a2 (K i) = 1)) := by rw [hK]; exact hi0
    have kb0 : ∀ i, 0 ≤ K i ∧ K i < 4 := fun i => by
      rw [hK]
      have kx := cn_byx (fun m => cn_b (σ 136 m).toNat i) a3 a2
      have b1 := cn_b_b (σ 136 (a3 - 1).toNat).toNat i
      have b2 := cn_b_b (σ 136 (a3 - 2).toNat).toNat i
      show 0 ≤ cn_by (fun m => cn_b (σ 136 m).toNat i) a3 a2 ∧ cn_by (fun m => cn_b (σ 136 m).toNat i) a3 a2 < _
      omega
    have eK : ∀ i, cn_by (fun m => cn_b (σ 136 m).toNat i) a3 a2 = K i := fun i => by rw [hK]
    refine x_blk (b := 9) (a_66 E) rfl ?_
    unfold b_66_9
    refine x_iload rfl ?_
    refine x_push 1 rfl ?_
    refine x_iload rfl ?_
    refine x_shl1X (by omega) (by omega) (fun v1 v1x v1a v1b => ?_)
    refine x_icmp_ge (by omega) (by omega) (by omega) (by omega) (fun z2 => ?_) (fun z2 => ?_)
    · skip
      refine x_aload rfl ?_
      refine x_push 1 rfl ?_
      refine x_iload rfl ?_
      refine x_iload rfl ?_
      refine x_cV (fun _ => rfl) rfl (by decide) (Nat.le_of_ble_eq_true rfl) ?_
      refine kx_30_4 (by omega) (by omega) (by omega) (by omega) (by omega) (by omega) C0 (fun v3 v3a v3b v3c => ?_)
      have te3 : cn_tb A a2 kq = v3 := by
        rw [cn_tb_e f1 f2 (by omega) (by omega), ← y_PG_e hA (m := 1) (f := a2) (e := kq) (by omega) (by omega) f1 f2 (by omega) (by omega)]
        show σ 8 _ = _
        omega
      refine x_push 1 rfl ?_
      refine x_icmp_ne (by omega) (by omega) (by omega) (by omega) (fun z4 => ?_) (fun z4 => ?_)
      · skip
        refine x_pushv ?_
        refine x_lstore ?_
        refine x_push 0 rfl ?_
        refine x_istore ?_
        refine x_X_lo (lo' := [(0, x_R 124), (1, x_R 4), (2, x_I _), (3, x_I _), (4, x_I _), (5, x_N _), (7, x_I _), (8, x_N _), (10, x_I _)]) ⟨rfl, rfl, rfl, rfl, rfl, rfl, rfl, rfl, rfl, trivial⟩ ?_
        refine x_fall ?_
        refine x_blk (b := 8) (a_66 E) rfl ?_
        unfold b_66_8
        refine x_iload rfl ?_
        refine x_iload rfl ?_
        refine x_icmp_ge (by omega) (by omega) (by omega) (by omega) (fun z5 => ?_) (fun z => absurd (by omega) z)
        refine x_aload rfl ?_
        refine x_getR (r := 124) rfl (by decide) (by decide) rfl ?_
        refine x_iload rfl ?_
        refine x_push 1 rfl ?_
        refine x_isub ?_
        refine x_iload rfl ?_
        refine x_isub ?_
        refine x_laldX (r := 136) (n := 7) rfl rfl (by decide) (by omega) (by omega) (fun m6 m6x => ?_)
        refine x_lstore ?_
        refine x_lloadN rfl ?_
        refine x_iload rfl ?_
        refine x_iload rfl ?_
        refine x_push 1 rfl ?_
        refine x_isub ?_
        refine x_iload rfl ?_
        refine x_isub ?_
        refine x_shrX (by omega) (by omega) (by omega) (by omega) (fun v7 v7x v7a v7b => ?_)
        refine x_push 1 rfl ?_
        refine x_iand1 (by omega) (by omega) ?_
        refine x_push 1 rfl ?_
        refine x_icmp_ne (by omega) (by omega) (by omega) (by omega) (fun z8 => ?_) (fun z8 => ?_)
        · skip
          refine x_lloadN rfl ?_
          refine x_goto ?_
          refine x_blk (b := 7) (a_66 E) rfl ?_
          unfold b_66_7
          refine x_lbinX ?_
          refine x_lstore ?_
          refine x_X_lo (lo' := [(0, x_R 124), (1, x_R 4), (2, x_I _), (3, x_I _), (4, x_I _), (5, x_N _), (7, x_I _), (8, x_N _), (10, x_I _), (11, x_N _)]) ⟨rfl, rfl, rfl, rfl, rfl, rfl, rfl, rfl, rfl, rfl, trivial⟩ ?_
          refine x_iinc 1 rfl rfl ?_
          refine x_goto ?_
          refine x_blk (b := 8) (a_66 E) rfl ?_
          unfold b_66_8
          refine x_iload rfl ?_
          refine x_iload rfl ?_
          refine x_icmp_ge (by omega) (by omega) (by omega) (by omega) (fun z9 => ?_) (fun z => absurd (by omega) z)
          refine x_aload rfl ?_
          refine x_getR (r := 124) rfl (by decide) (by decide) rfl ?_
          refine x_iload rfl ?_
          refine x_push 1 rfl ?_
          refine x_isub ?_
          refine x_iload rfl ?_
          refine x_isub ?_
          refine x_laldX (r := 136) (n := 7) rfl rfl (by decide) (by omega) (by omega) (fun m10 m10x => ?_)
          refine x_lstore ?_
          refine x_X_lo (lo' := [(0, x_R 124), (1, x_R 4), (2, x_I _), (3, x_I _), (4, x_I _), (5, x_N _), (7, x_I _), (8, x_N _), (10, x_I _), (11, x_N _)]) ⟨rfl, rfl, rfl, rfl, rfl, rfl, rfl, rfl, rfl, rfl, trivial⟩ ?_
          refine x_lloadN rfl ?_
          refine x_iload rfl ?_
          refine x_iload rfl ?_
          refine x_push 1 rfl ?_
          refine x_isub ?_
          refine x_iload rfl ?_
          refine x_isub ?_
          refine x_shrX (by omega) (by omega) (by omega) (by omega) (fun v11 v11x v11a v11b => ?_)
          refine x_push 1 rfl ?_
          refine x_iand1 (by omega) (by omega) ?_
          refine x_push 1 rfl ?_
          refine x_icmp_ne (by omega) (by omega) (by omega) (by omega) (fun z12 => ?_) (fun z12 => ?_)
          · skip
            refine x_lloadN rfl ?_
            refine x_goto ?_
            refine x_blk (b := 7) (a_66 E) rfl ?_
            unfold b_66_7
            refine x_lbinX ?_
            refine x_lstore ?_
            refine x_iinc 1 rfl rfl ?_
            refine x_X_lo (lo' := [(0, x_R 124), (1, x_R 4), (2, x_I _), (3, x_I _), (4, x_I _), (5, x_N _), (7, x_I _), (8, x_N _), (10, x_I _), (11, x_N _)]) ⟨rfl, rfl, rfl, rfl, rfl, rfl, rfl, rfl, rfl, rfl, trivial⟩ ?_
            refine x_goto ?_
            refine x_blk (b := 8) (a_66 E) rfl ?_
            unfold b_66_8
            refine x_iload rfl ?_
            refine x_iload rfl ?_
            refine x_icmp_ge (by omega) (by omega) (by omega) (by omega) (fun z => absurd z (by omega)) (fun z13 => ?_)
            refine x_blk (b := 5) (a_66 E) rfl ?_
            unfold b_66_5
            refine x_lloadN rfl ?_
            refine x_lloadN rfl ?_
            refine x_lbinX ?_
            refine x_lstore ?_
            refine x_fall ?_
            refine x_blk (b := 4) (a_66 E) rfl ?_
            unfold b_66_4
            refine x_iinc 1 rfl rfl ?_
            refine x_X_lo (lo' := [(0, x_R 124), (1, x_R 4), (2, x_I _), (3, x_I _), (4, x_I _), (5, x_N _), (7, x_I _), (8, x_N _), (10, x_I _), (11, x_N _)]) ⟨rfl, rfl, rfl, rfl, rfl, rfl, rfl, rfl, rfl, rfl, trivial⟩ ?_
            refine x_goto ?_
            refine x_G_lo (lo' := [(0, x_R 124), (1, x_R 4), (2, x_I _), (3, x_I _), (4, x_I _), (5, x_N _), (7, x_I _)]) ⟨rfl, rfl, rfl, rfl, rfl, rfl, rfl, trivial⟩ ?_
            refine ih _ (by omega) _ _ rfl (by omega) (by omega) (fun i hi => ?_)
            rw [eK i]
            have q := hi0 i hi
            have q2 : K i = kq → cn_tb A a2 (K i) = v3 := fun e => by rw [e]; exact te3
            have kx := cn_byx (fun m => cn_b (σ 136 m).toNat i) a3 a2
            rw [eK i] at kx
            have o1 := cn_b_1 hi
            have ob := cn_b_or ty ((f_land (f_land 18446744073709551615 m6) m10)) i
            have an0 := cn_b_and 18446744073709551615 m6 i
            have an1 := cn_b_and (f_land 18446744073709551615 m6) m10 i
            have mb0 := cn_b_b m6 i
            have me0 : cn_b (σ 136 (a3 - 1).toNat).toNat i = cn_b m6 i := by rw [show (σ 136 (a3 - 1).toNat).toNat = m6 by rw [show (a3 - 1).toNat = (a3 - 1 - 0).toNat by omega]; omega]
            have mb1 := cn_b_b m10 i
            have me1 : cn_b (σ 136 (a3 - 2).toNat).toNat i = cn_b m10 i := by rw [show (σ 136 (a3 - 2).toNat).toNat = m10 by rw [show (a3 - 2).toNat = (a3 - 1 - (0 + 1)).toNat by omega]; omega]
            omega
          · skip
            refine x_blk (b := 6) (a_66 E) rfl ?_
            unfold b_66_6
            refine x_lloadN rfl ?_
            refine x_pushv ?_
            refine x_lbinX ?_
            refine x_fall ?_
            refine x_blk (b := 7) (a_66 E) rfl ?_
            unfold b_66_7
            refine x_lbinX ?_
            refine x_lstore ?_
            refine x_iinc 1 rfl rfl ?_
            refine x_X_lo (lo' := [(0, x_R 124), (1, x_R 4), (2, x_I _), (3, x_I _), (4, x_I _), (5, x_N _), (7, x_I _), (8, x_N _), (10, x_I _), (11, x_N _)]) ⟨rfl, rfl, rfl, rfl, rfl, rfl, rfl, rfl, rfl, rfl, trivial⟩ ?_
            refine x_goto ?_
            refine x_blk (b := 8) (a_66 E) rfl ?_
            unfold b_66_8
            refine x_iload rfl ?_
            refine x_iload rfl ?_
            refine x_icmp_ge (by omega) (by omega) (by omega) (by omega) (fun z => absurd z (by omega)) (fun z14 => ?_)
            refine x_blk (b := 5) (a_66 E) rfl ?_
            unfold b_66_5
            refine x_lloadN rfl ?_
            refine x_lloadN rfl ?_
            refine x_lbinX ?_
            refine x_lstore ?_
            refine x_fall ?_
            refine x_blk (b := 4) (a_66 E) rfl ?_
            unfold b_66_4
            refine x_iinc 1 rfl rfl ?_
            refine x_X_lo (lo' := [(0, x_R 124), (1, x_R 4), (2, x_I _), (3, x_I _), (4, x_I _), (5, x_N _), (7, x_I _), (8, x_N _), (10, x_I _), (11, x_N _)]) ⟨rfl, rfl, rfl, rfl, rfl, rfl, rfl, rfl, rfl, rfl, trivial⟩ ?_
            refine x_goto ?_
            refine x_G_lo (lo' := [(0, x_R 124), (1, x_R 4), (2, x_I _), (3, x_I _), (4, x_I _), (5, x_N _), (7, x_I _)]) ⟨rfl, rfl, rfl, rfl, rfl, rfl, rfl, trivial⟩ ?_
            refine ih _ (by omega) _ _ rfl (by omega) (by omega) (fun i hi => ?_)
            rw [eK i]
            have q := hi0 i hi
            have q2 : K i = kq → cn_tb A a2 (K i) = v3 := fun e => by rw [e]; exact te3
            have kx := cn_byx (fun m => cn_b (σ 136 m).toNat i) a3 a2
            rw [eK i] at kx
            have o1 := cn_b_1 hi
            have ob := cn_b_or ty ((f_land (f_land 18446744073709551615 m6) (f_lxor m10 18446744073709551615))) i
            have an0 := cn_b_and 18446744073709551615 m6 i
            have an1 := cn_b_and (f_land 18446744073709551615 m6) (f_lxor m10 18446744073709551615) i
            have nt1 := cn_b_not (a := m10) hi
            have mb0 := cn_b_b m6 i
            have me0 : cn_b (σ 136 (a3 - 1).toNat).toNat i = cn_b m6 i := by rw [show (σ 136 (a3 - 1).toNat).toNat = m6 by rw [show (a3 - 1).toNat = (a3 - 1 - 0).toNat by omega]; omega]
            have mb1 := cn_b_b m10 i
            have me1 : cn_b (σ 136 (a3 - 2).toNat).toNat i = cn_b m10 i := by rw [show (σ 136 (a3 - 2).toNat).toNat = m10 by rw [show (a3 - 2).toNat = (a3 - 1 - (0 + 1)).toNat by omega]; omega]
            omega
        · skip
          refine x_blk (b := 6) (a_66 E) rfl ?_
          unfold b_66_6
          refine x_lloadN rfl ?_
          refine x_pushv ?_
          refine x_lbinX ?_
          refine x_fall ?_
          refine x_blk (b := 7) (a_66 E) rfl ?_
          unfold b_66_7
          refine x_lbinX ?_
          refine x_lstore ?_
          refine x_X_lo (lo' := [(0, x_R 124), (1, x_R 4), (2, x_I _), (3, x_I _), (4, x_I _), (5, x_N _), (7, x_I _), (8, x_N _), (10, x_I _), (11, x_N _)]) ⟨rfl, rfl, rfl, rfl, rfl, rfl, rfl, rfl, rfl, rfl, trivial⟩ ?_
          refine x_iinc 1 rfl rfl ?_
          refine x_goto ?_
          refine x_blk (b := 8) (a_66 E) rfl ?_
          unfold b_66_8
          refine x_iload rfl ?_
          refine x_iload rfl ?_
          refine x_icmp_ge (by omega) (by omega) (by omega) (by omega) (fun z15 => ?_) (fun z => absurd (by omega) z)
          refine x_aload rfl ?_
          refine x_getR (r := 124) rfl (by decide) (by decide) rfl ?_
          refine x_iload rfl ?_
          refine x_push 1 rfl ?_
          refine x_isub ?_
          refine x_iload rfl ?_
          refine x_isub ?_
          refine x_laldX (r := 136) (n := 7) rfl rfl (by decide) (by omega) (by omega) (fun m16 m16x => ?_)
          refine x_lstore ?_
          refine x_X_lo (lo' := [(0, x_R 124), (1, x_R 4), (2, x_I _), (3, x_I _), (4, x_I _), (5, x_N _), (7, x_I _), (8, x_N _), (10, x_I _), (11, x_N _)]) ⟨rfl, rfl, rfl, rfl, rfl, rfl, rfl, rfl, rfl, rfl, trivial⟩ ?_
          refine x_lloadN rfl ?_
          refine x_iload rfl ?_
          refine x_iload rfl ?_
          refine x_push 1 rfl ?_
          refine x_isub ?_
          refine x_iload rfl ?_
          refine x_isub ?_
          refine x_shrX (by omega) (by omega) (by omega) (by omega) (fun v17 v17x v17a v17b => ?_)
          refine x_push 1 rfl ?_
          refine x_iand1 (by omega) (by omega) ?_
          refine x_push 1 rfl ?_
          refine x_icmp_ne (by omega) (by omega) (by omega) (by omega) (fun z18 => ?_) (fun z18 => ?_)
          · skip
            refine x_lloadN rfl ?_
            refine x_goto ?_
            refine x_blk (b := 7) (a_66 E) rfl ?_
            unfold b_66_7
            refine x_lbinX ?_
            refine x_lstore ?_
            refine x_iinc 1 rfl rfl ?_
            refine x_X_lo (lo' := [(0, x_R 124), (1, x_R 4), (2, x_I _), (3, x_I _), (4, x_I _), (5, x_N _), (7, x_I _), (8, x_N _), (10, x_I _), (11, x_N _)]) ⟨rfl, rfl, rfl, rfl, rfl, rfl, rfl, rfl, rfl, rfl, trivial⟩ ?_
            refine x_goto ?_
            refine x_blk (b := 8) (a_66 E) rfl ?_
            unfold b_66_8
            refine x_iload rfl ?_
            refine x_iload rfl ?_
            refine x_icmp_ge (by omega) (by omega) (by omega) (by omega) (fun z => absurd z (by omega)) (fun z19 => ?_)
            refine x_blk (b := 5) (a_66 E) rfl ?_
            unfold b_66_5
            refine x_lloadN rfl ?_
            refine x_lloadN rfl ?_
            refine x_lbinX ?_
            refine x_lstore ?_
            refine x_fall ?_
            refine x_blk (b := 4) (a_66 E) rfl ?_
            unfold b_66_4
            refine x_iinc 1 rfl rfl ?_
            refine x_X_lo (lo' := [(0, x_R 124), (1, x_R 4), (2, x_I _), (3, x_I _), (4, x_I _), (5, x_N _), (7, x_I _), (8, x_N _), (10, x_I _), (11, x_N _)]) ⟨rfl, rfl, rfl, rfl, rfl, rfl, rfl, rfl, rfl, rfl, trivial⟩ ?_
            refine x_goto ?_
            refine x_G_lo (lo' := [(0, x_R 124), (1, x_R 4), (2, x_I _), (3, x_I _), (4, x_I _), (5, x_N _), (7, x_I _)]) ⟨rfl, rfl, rfl, rfl, rfl, rfl, rfl, trivial⟩ ?_
            refine ih _ (by omega) _ _ rfl (by omega) (by omega) (fun i hi => ?_)
            rw [eK i]
            have q := hi0 i hi
            have q2 : K i = kq → cn_tb A a2 (K i) = v3 := fun e => by rw [e]; exact te3
            have kx := cn_byx (fun m => cn_b (σ 136 m).toNat i) a3 a2
            rw [eK i] at kx
            have o1 := cn_b_1 hi
            have ob := cn_b_or ty ((f_land (f_land 18446744073709551615 (f_lxor m6 18446744073709551615)) m16)) i
            have an0 := cn_b_and 18446744073709551615 (f_lxor m6 18446744073709551615) i
            have nt0 := cn_b_not (a := m6) hi
            have an1 := cn_b_and (f_land 18446744073709551615 (f_lxor m6 18446744073709551615)) m16 i
            have mb0 := cn_b_b m6 i
            have me0 : cn_b (σ 136 (a3 - 1).toNat).toNat i = cn_b m6 i := by rw [show (σ 136 (a3 - 1).toNat).toNat = m6 by rw [show (a3 - 1).toNat = (a3 - 1 - 0).toNat by omega]; omega]
            have mb1 := cn_b_b m16 i
            have me1 : cn_b (σ 136 (a3 - 2).toNat).toNat i = cn_b m16 i := by rw [show (σ 136 (a3 - 2).toNat).toNat = m16 by rw [show (a3 - 2).toNat = (a3 - 1 - (0 + 1)).toNat by omega]; omega]
            omega
          · skip
            refine x_blk (b := 6) (a_66 E) rfl ?_
            unfold b_66_6
            refine x_lloadN rfl ?_
            refine x_pushv ?_
            refine x_lbinX ?_
            refine x_fall ?_
            refine x_blk (b := 7) (a_66 E) rfl ?_
            unfold b_66_7
            refine x_lbinX ?_
            refine x_lstore ?_
            refine x_iinc 1 rfl rfl ?_
            refine x_X_lo (lo' := [(0, x_R 124), (1, x_R 4), (2, x_I _), (3, x_I _), (4, x_I _), (5, x_N _), (7, x_I _), (8, x_N _), (10, x_I _), (11, x_N _)]) ⟨rfl, rfl, rfl, rfl, rfl, rfl, rfl, rfl, rfl, rfl, trivial⟩ ?_
            refine x_goto ?_
            refine x_blk (b := 8) (a_66 E) rfl ?_
            unfold b_66_8
            refine x_iload rfl ?_
            refine x_iload rfl ?_
            refine x_icmp_ge (by omega) (by omega) (by omega) (by omega) (fun z => absurd z (by omega)) (fun z20 => ?_)
            refine x_blk (b := 5) (a_66 E) rfl ?_
            unfold b_66_5
            refine x_lloadN rfl ?_
            refine x_lloadN rfl ?_
            refine x_lbinX ?_
            refine x_lstore ?_
            refine x_fall ?_
            refine x_blk (b := 4) (a_66 E) rfl ?_
            unfold b_66_4
            refine x_iinc 1 rfl rfl ?_
            refine x_X_lo (lo' := [(0, x_R 124), (1, x_R 4), (2, x_I _), (3, x_I _), (4, x_I _), (5, x_N _), (7, x_I _), (8, x_N _), (10, x_I _), (11, x_N _)]) ⟨rfl, rfl, rfl, rfl, rfl, rfl, rfl, rfl, rfl, rfl, trivial⟩ ?_
            refine x_goto ?_
            refine x_G_lo (lo' := [(0, x_R 124), (1, x_R 4), (2, x_I _), (3, x_I _), (4, x_I _), (5, x_N _), (7, x_I _)]) ⟨rfl, rfl, rfl, rfl, rfl, rfl, rfl, trivial⟩ ?_
            refine ih _ (by omega) _ _ rfl (by omega) (by omega) (fun i hi => ?_)
            rw [eK i]
            have q := hi0 i hi
            have q2 : K i = kq → cn_tb A a2 (K i) = v3 := fun e => by rw [e]; exact te3
            have kx := cn_byx (fun m => cn_b (σ 136 m).toNat i) a3 a2
            rw [eK i] at kx
            have o1 := cn_b_1 hi
            have ob := cn_b_or ty ((f_land (f_land 18446744073709551615 (f_lxor m6 18446744073709551615)) (f_lxor m16 18446744073709551615))) i
            have an0 := cn_b_and 18446744073709551615 (f_lxor m6 18446744073709551615) i
            have nt0 := cn_b_not (a := m6) hi
            have an1 := cn_b_and (f_land 18446744073709551615 (f_lxor m6 18446744073709551615)) (f_lxor m16 18446744073709551615) i
            have nt1 := cn_b_not (a := m16) hi
            have mb0 := cn_b_b m6 i
            have me0 : cn_b (σ 136 (a3 - 1).toNat).toNat i = cn_b m6 i := by rw [show (σ 136 (a3 - 1).toNat).toNat = m6 by rw [show (a3 - 1).toNat = (a3 - 1 - 0).toNat by omega]; omega]
            have mb1 := cn_b_b m16 i
            have me1 : cn_b (σ 136 (a3 - 2).toNat).toNat i = cn_b m16 i := by rw [show (σ 136 (a3 - 2).toNat).toNat = m16 by rw [show (a3 - 2).toNat = (a3 - 1 - (0 + 1)).toNat by omega]; omega]
            omega
      · skip
        refine x_blk (b := 4) (a_66 E) rfl ?_
        unfold b_66_4
        refine x_iinc 1 rfl rfl ?_
        refine x_goto ?_
        refine x_G_lo (lo' := [(0, x_R 124), (1, x_R 4), (2, x_I _), (3, x_I _), (4, x_I _), (5, x_N _), (7, x_I _)]) ⟨rfl, rfl, rfl, rfl, rfl, rfl, rfl, trivial⟩ ?_
        refine ih _ (by omega) _ _ rfl (by omega) (by omega) (fun i hi => ?_)
        rw [eK i]
        have q := hi0 i hi
        have q2 : K i = kq → cn_tb A a2 (K i) = v3 := fun e => by rw [e]; exact te3
        omega
    · skip
      refine x_blk (b := 3) (a_66 E) rfl ?_
      unfold b_66_3
      refine x_lloadN rfl ?_
      refine x_lret ?_
      refine k _ (fun i hi => ?_)
      have q := hi0 i hi
      have tb := cn_tb_b hP a2 (K i)
      have kb := kb0 i
      rw [eK i]
      omega
