theorem kx_72_92_4_b2 {E : q_E} {σ : x_S} {Q : Option q_V → x_S → Prop} {a2 a3 : Int} (t1 : 0 ≤ a2) (t2 : a2 ≤ 2) (m1 : 0 ≤ a3) (m2 : a3 ≤ 1) (C0 : y_CI σ) {A : Nat → Int} (hP : y_PI A) (hA : y_AG (y_cv σ 4) A) {P V : Nat → Int} (ms : y_ms A a3 (y_lt A a2.toNat) (A (2 + a2.toNat)).toNat P V) (k : ∀ τ, y_CI τ → (∀ c m, (c < 92 ∨ 96 ≤ c) → τ c m = σ c m) → τ 92 3 = A (2 + a2.toNat) → (∀ v : Nat, (v : Int) < A (2 + a2.toNat) → τ 93 v = y_lt A a2.toNat v ∧ τ 94 v = P v - v ∧ τ 95 v = V v) → Q none τ) : ∀ (N : Nat) (v : Int) (τ : x_S), (11 - v).toNat = N → 0 ≤ v → v ≤ A (2 + a2.toNat) → y_CI τ → (∀ c m, (c < 92 ∨ 96 ≤ c) → τ c m = σ c m) → τ 92 3 = A (2 + a2.toNat) → (∀ x : Nat, (x : Int) < v → τ 93 x = y_lt A a2.toNat x) → x_G E m_72 Q (t_72 2) [(0, x_R 92), (1, x_R 4), (2, x_I a2), (3, x_I a3), (4, x_I v)] [] τ := by
  have sz := y_PI_sz hP (t := a2.toNat) (by omega)
  intro N
  induction N using Nat.strongRecOn with
  | ind N ih =>
    intro v τ hN i1 i2 C fr n3 hl
    have e6 : τ 6 a2.toNat = A (2 + a2.toNat) := (fr _ _ (by decide)).trans (y_PG_s hA (t := a2.toNat) (by omega))
    refine x_blk (b := 2) (a_72 E) rfl ?_
    unfold b_72_2
    refine x_iload rfl ?_
    refine x_aload rfl ?_
    refine x_getIG y_f92_3 C ?_
    intro g1a g1b
    refine x_icmp_ge (by omega) (by omega) (by omega) (by omega) (fun z2 => ?_) (fun z2 => ?_)
    · skip
      refine x_aload rfl ?_
      refine x_getR (r := 92) rfl (by decide) (by decide) rfl ?_
      refine x_iload rfl ?_
      refine x_aload rfl ?_
      refine x_iload rfl ?_
      refine x_iload rfl ?_
      refine x_cV (fun _ => rfl) rfl (by decide) (Nat.le_of_ble_eq_true rfl) ?_
      refine kx_47_4 (by omega) (by omega) (by omega) (by omega) C (fun v3 v3a v3b v3c => ?_)
      have e5 : τ 5 (a2 * 11 + v).toNat = y_lt A a2.toNat v.toNat := by
        rw [fr _ _ (by decide), show (a2 * 11 + v).toNat = 11 * a2.toNat + v.toNat by omega]
        exact y_PG_l hP hA (by omega) (by omega)
      have lt := (hP.2.1 a2.toNat (by omega)).2.1 v.toNat (by omega)
      have lt : 0 ≤ y_lt A a2.toNat v.toNat ∧ y_lt A a2.toNat v.toNat ≤ 4 := ⟨lt.1, lt.2.1⟩
      refine x_astG y_a93 C (by decide) (y_fr_rf (lo := 0) (hi := 138)) (by omega) (by omega) (by omega) (by omega) (fun S4 e4 C4 F4 => ?_)
      refine x_iinc 1 rfl rfl ?_
      refine x_goto ?_
      refine x_G_lo (lo' := [(0, x_R 92), (1, x_R 4), (2, x_I _), (3, x_I _), (4, x_I _)]) ⟨rfl, rfl, rfl, rfl, rfl, trivial⟩ ?_
      refine ih _ (by omega) (v + 1) S4 rfl (by omega) (by omega) C4 (fun c m h => ?_) ?_ (fun x hx => ?_)
      · rw [x_up_nr e4 (by omega)]; exact fr c m h
      · rw [x_up_nr e4 (by decide)]; exact n3
      · by_cases cx : x = v.toNat
        · subst cx
          rw [x_up_at e4]; omega
        · rw [x_up_ne e4 (fun z => cx z.2)]; exact hl x (by omega)
    · skip
      refine x_blk (b := 1) (a_72 E) rfl ?_
      unfold b_72_1
      refine x_aload rfl ?_
      refine x_aload rfl ?_
      refine x_iload rfl ?_
      refine x_cV (fun _ => rfl) rfl (by decide) (Nat.le_of_ble_eq_true rfl) ?_
      have lx : ∀ i, i < (A (2 + a2.toNat)).toNat → y_lt A a2.toNat i = τ 93 i := fun i hi => (hl i (by omega)).symm
      refine kx_73_92_4 m1 m2 C hP (y_AG_ex hA (fun m => y_cv_x (fun _ => fr _ _ (by omega)) (fun _ _ => fr _ _ (by omega)) (fun _ _ => fr _ _ (by omega)) (fun _ _ => fr _ _ (by omega)) (fun _ => fr _ _ (by omega)) (fun _ => fr _ _ (by omega)))) (n := (A (2 + a2.toNat)).toNat) (by omega) (by omega) (y_tr_ext lx (hP.2.1 a2.toNat (by omega)).2) (y_ms_ext lx ms) (fun S5 C5 f5 w5 => ?_)
      refine x_vret ?_
      refine k _ C5 (fun c m h => ?_) ?_ (fun v hv => ⟨?_, w5 v (by omega)⟩)
      · rw [f5 c m (by omega) (by omega)]; exact fr c m h
      · rw [f5 _ _ (by decide) (by decide)]; exact n3
      · rw [f5 _ _ (by decide) (by decide)]; exact hl v (by omega)
theorem kx_72_92_4 {E : q_E} {σ : x_S} {Q : Option q_V → x_S → Prop} {a2 a3 : Int} (t1 : 0 ≤ a2) (t2 : a2 ≤ 2) (m1 : 0 ≤ a3) (m2 : a3 ≤ 1) (C0 : y_CI σ) {A : Nat → Int} (hP : y_PI A) (hA : y_AG (y_cv σ 4) A) {P V : Nat → Int} (ms : y_ms A a3 (y_lt A a2.toNat) (A (2 + a2.toNat)).toNat P V) (k : ∀ τ, y_CI τ → (∀ c m, (c < 92 ∨ 96 ≤ c) → τ c m = σ c m) → τ 92 3 = A (2 + a2.toNat) → (∀ v : Nat, (v : Int) < A (2 + a2.toNat) → τ 93 v = y_lt A a2.toNat v ∧ τ 94 v = P v - v ∧ τ 95 v = V v) → Q none τ) : x_P E 72 [x_R 92, x_R 4, x_I a2, x_I a3] σ Q := by
  have sz := y_PI_sz hP (t := a2.toNat) (by omega)
  refine x_Mt e_72 (h_72 E) (Nat.le_of_ble_eq_true rfl) t_72 rfl ?_
  refine x_blk (b := 0) (a_72 E) rfl ?_
  unfold b_72_0
  refine x_aload rfl ?_
  refine x_aload rfl ?_
  refine x_iload rfl ?_
  refine x_cV (fun _ => rfl) rfl (by decide) (Nat.le_of_ble_eq_true rfl) ?_
  refine kx_63_4 (by omega) (by omega) C0 (fun v1 v1a v1b v1c => ?_)
  refine x_push 40 rfl ?_
  refine x_min (by omega) (by omega) (by omega) (by omega) (Nat.le_of_ble_eq_true rfl) (fun v2 v2a v2b v2c => ?_)
  refine x_putIG y_f92_3 ⟨by decide, rfl⟩ (by decide) C0 (by decide) (y_fr_rf (lo := 0) (hi := 138)) (by omega) (by omega) (fun S3 e3 C3 F3 => ?_)
  refine x_push 0 rfl ?_
  refine x_istore ?_
  refine x_fall ?_
  refine x_G_lo (lo' := [(0, x_R 92), (1, x_R 4), (2, x_I _), (3, x_I _), (4, x_I _)]) ⟨rfl, rfl, rfl, rfl, rfl, trivial⟩ ?_
  have s6 := y_PG_s hA (t := a2.toNat) (by omega)
  have s6 : σ 6 a2.toNat = A (2 + a2.toNat) := s6
  exact kx_72_92_4_b2 t1 t2 m1 m2 C0 hP hA ms k _ 0 S3 rfl (by omega) (by omega) C3 (fun c m h => x_up_nr e3 (by omega)) ((x_up_at e3).trans (by omega)) (fun x hx => absurd hx (by omega))
theorem kx_154_96_4_106 {E : q_E} {σ : x_S} {Q : Option q_V → x_S → Prop} {a3 : Int} (b1 : 0 ≤ a3) (b2 : a3 ≤ 40) (C0 : y_CI σ) {A : Nat → Int} (hP : y_PI A) (hA : y_AG (y_cv σ 4) A) {P V : Nat → Int} (tr : y_tr (σ 106) a3.toNat) (ms : y_ms A 0 (σ 106) a3.toNat P V) (k : ∀ τ, y_CI τ → (∀ c m, (c < 96 ∨ 100 ≤ c) → τ c m = σ c m) → τ 96 3 = a3 → (∀ v : Nat, (v : Int) < a3 → τ 97 v = σ 106 v ∧ τ 98 v = P v - v ∧ τ 99 v = V v) → Q none τ) : x_P E 154 [x_R 96, x_R 4, x_R 106, x_I a3] σ Q := by
  refine x_Mt e_154 (h_154 E) (Nat.le_of_ble_eq_true rfl) t_154 rfl ?_
  refine x_blk (b := 0) (a_154 E) rfl ?_
  unfold b_154_0
  refine x_aload rfl ?_
  refine x_push 0 rfl ?_
  refine x_iload rfl ?_
  refine x_aload rfl ?_
  refine x_lenG (n := 40) (L := 40) rfl (by decide) rfl (by decide) rfl ?_
  refine x_min (by omega) (by omega) (by omega) (by omega) (Nat.le_of_ble_eq_true rfl) (fun v1 v1a v1b v1c => ?_)
  refine x_push 40 rfl ?_
  refine x_min (by omega) (by omega) (by omega) (by omega) (Nat.le_of_ble_eq_true rfl) (fun v2 v2a v2b v2c => ?_)
  refine x_max (by omega) (by omega) (by omega) (by omega) (Nat.le_of_ble_eq_true rfl) (fun v3 v3a v3b v3c => ?_)
  refine x_putIG y_f96_3 ⟨by decide, rfl⟩ (by decide) C0 (by decide) (y_fr_rf (lo := 0) (hi := 138)) (by omega) (by omega) (fun S4 e4 C4 F4 => ?_)
  refine x_aload rfl ?_
  refine x_push 0 rfl ?_
  refine x_aload rfl ?_
  refine x_getR (r := 96) rfl (by decide) (by decide) rfl ?_
  refine x_push 0 rfl ?_
  refine x_aload rfl ?_
  refine x_getIG y_f96_3 C4 ?_
  intro g5a g5b
  have w5 := x_up_at e4
  refine x_copyG y_a106 y_a97 (by decide) (by decide) C4 (by decide) F4 (by omega) (by omega) (by omega) (by omega) (by omega) (Nat.le_of_ble_eq_true rfl) (fun S6 e6 C6 F6 => ?_)
  refine x_aload rfl ?_
  refine x_aload rfl ?_
  refine x_push 0 rfl ?_
  refine x_cV (fun _ => rfl) rfl (by decide) (Nat.le_of_ble_eq_true rfl) ?_
  have fr : ∀ c m, c ≠ 97 → ¬ (c = 96 ∧ m = 3) → S6 c m = σ c m := fun c m h1 h2 => (x_cp_nr e6 h1).trans (x_up_ne e4 h2)
  have n3 : S6 96 3 = a3 := (x_cp_nr e6 (by decide)).trans ((x_up_at e4).trans (by omega))
  have w3 := x_up_at e4
  have hl : ∀ i : Nat, (i : Int) < a3 → S6 97 i = σ 106 i := fun i hi => by
    rw [x_cp_e e6, if_pos ⟨rfl, by omega, by omega⟩]
    refine (x_up_nr e4 (by decide)).trans ?_
    congr 1
    show 0 + (i - 0) = i
    omega
  have lx : ∀ i, i < a3.toNat → σ 106 i = S6 97 i := fun i hi => (hl i (by omega)).symm
  refine kx_73_96_4 (by decide) (by decide) C6 hP (y_AG_ex hA (fun m => y_cv_x (fun _ => fr _ _ (by omega) (by omega)) (fun _ _ => fr _ _ (by omega) (by omega)) (fun _ _ => fr _ _ (by omega) (by omega)) (fun _ _ => fr _ _ (by omega) (by omega)) (fun _ => fr _ _ (by omega) (by omega)) (fun _ => fr _ _ (by omega) (by omega)))) (n := a3.toNat) (by omega) (by omega) (y_tr_ext lx tr) (y_ms_ext lx ms) (fun S7 C7 f7 w7 => ?_)
  refine x_vret ?_
  refine k _ C7 (fun c m h => ?_) ?_ (fun v hv => ⟨?_, w7 v (by omega)⟩)
  · rw [f7 c m (by omega) (by omega)]; exact fr c m (by omega) (by omega)
  · rw [f7 _ _ (by decide) (by decide)]; exact n3
  · rw [f7 _ _ (by decide) (by decide)]; exact hl v hv
theorem kx_74_92 {E : q_E} {σ : x_S} {Q : Option q_V → x_S → Prop} {a1 : Int} (a1l : -2147483648 ≤ a1) (a1h : a1 ≤ 2147483647) (C0 : y_CI σ) (k : ∀ v, 0 ≤ v → v ≤ 1 → (((0 ≤ a1 ∧ a1 < σ 92 3) ∧ v = σ 95 a1.toNat) ∨ (¬ (0 ≤ a1 ∧ a1 < σ 92 3) ∧ v = 0)) → Q (some (x_I v)) σ) : x_P E 74 [x_R 92, x_I a1] σ Q := by
  have c3 : 0 ≤ σ 92 3 ∧ σ 92 3 ≤ 40 := C0 92 3 (by decide) (by decide) (by decide)
  refine x_Mt e_74 (h_74 E) (Nat.le_of_ble_eq_true rfl) t_74 rfl ?_
  refine x_blk (b := 0) (a_74 E) rfl ?_
  unfold b_74_0
  refine x_iload rfl ?_
  refine x_aload rfl ?_
  refine x_getIG y_f92_3 C0 ?_
  intro g1a g1b
  refine x_cS (fun _ => rfl) (Nat.le_of_ble_eq_true rfl) ?_
  refine sf_2 (by omega) (by omega) (by omega) (by omega) C0 (fun y2 => ?_) (fun y2 => ?_)
  · skip
    refine x_if_eq (by omega) (by omega) (fun z => absurd z (by omega)) (fun z3 => ?_)
    refine x_aload rfl ?_
    refine x_getR (r := 92) rfl (by decide) (by decide) rfl ?_
    refine x_iload rfl ?_
    refine x_ialdX y_a95 C0 (by omega) (by omega) (fun v4 v4x v4a v4b => ?_)
    refine x_goto ?_
    refine x_blk (b := 2) (a_74 E) rfl ?_
    unfold b_74_2
    refine x_iret ?_
    exact k _ (by omega) (by omega) (by omega)
  · skip
    refine x_if_eq (by omega) (by omega) (fun z5 => ?_) (fun z => absurd (by omega) z)
    refine x_blk (b := 1) (a_74 E) rfl ?_
    unfold b_74_1
    refine x_push 0 rfl ?_
    refine x_fall ?_
    refine x_blk (b := 2) (a_74 E) rfl ?_
    unfold b_74_2
    refine x_iret ?_
    exact k _ (by omega) (by omega) (by omega)
theorem kx_74_96 {E : q_E} {σ : x_S} {Q : Option q_V → x_S → Prop} {a1 : Int} (a1l : -2147483648 ≤ a1) (a1h : a1 ≤ 2147483647) (C0 : y_CI σ) (k : ∀ v, 0 ≤ v → v ≤ 1 → (((0 ≤ a1 ∧ a1 < σ 96 3) ∧ v = σ 99 a1.toNat) ∨ (¬ (0 ≤ a1 ∧ a1 < σ 96 3) ∧ v = 0)) → Q (some (x_I v)) σ) : x_P E 74 [x_R 96, x_I a1] σ Q := by
  have c3 : 0 ≤ σ 96 3 ∧ σ 96 3 ≤ 40 := C0 96 3 (by decide) (by decide) (by decide)
  refine x_Mt e_74 (h_74 E) (Nat.le_of_ble_eq_true rfl) t_74 rfl ?_
  refine x_blk (b := 0) (a_74 E) rfl ?_
  unfold b_74_0
  refine x_iload rfl ?_
  refine x_aload rfl ?_
  refine x_getIG y_f96_3 C0 ?_
  intro g1a g1b
  refine x_cS (fun _ => rfl) (Nat.le_of_ble_eq_true rfl) ?_
  refine sf_2 (by omega) (by omega) (by omega) (by omega) C0 (fun y2 => ?_) (fun y2 => ?_)
  · skip
    refine x_if_eq (by omega) (by omega) (fun z => absurd z (by omega)) (fun z3 => ?_)
    refine x_aload rfl ?_
    refine x_getR (r := 96) rfl (by decide) (by decide) rfl ?_
    refine x_iload rfl ?_
    refine x_ialdX y_a99 C0 (by omega) (by omega) (fun v4 v4x v4a v4b => ?_)
    refine x_goto ?_
    refine x_blk (b := 2) (a_74 E) rfl ?_
    unfold b_74_2
    refine x_iret ?_
    exact k _ (by omega) (by omega) (by omega)
  · skip
    refine x_if_eq (by omega) (by omega) (fun z5 => ?_) (fun z => absurd (by omega) z)
    refine x_blk (b := 1) (a_74 E) rfl ?_
    unfold b_74_1
    refine x_push 0 rfl ?_
    refine x_fall ?_
    refine x_blk (b := 2) (a_74 E) rfl ?_
    unfold b_74_2
    refine x_iret ?_
    exact k _ (by omega) (by omega) (by omega)
theorem kx_127_0 {E : q_E} {σ : x_S} {Q : Option q_V → x_S → Prop} {a1 a2 a3 : Int} (a1l : -2147483648 ≤ a1) (a1h : a1 ≤ 2147483647) (a2l : -2147483648 ≤ a2) (a2h : a2 ≤ 2147483647) (a3l : -2147483648 ≤ a3) (a3h : a3 ≤ 2147483647) (C0 : y_CI σ) {A : Nat → Int} (hP : y_PI A) (hA : y_AG (y_cv σ 4) A) {P V : Nat → Int} (ms : (0 ≤ a1 ∧ a1 ≤ 1) → (0 ≤ a2 ∧ a2 ≤ 2) → y_ms A a1 (y_lt A a2.toNat) (A (2 + a2.toNat)).toNat P V) (kB : ¬ ((0 ≤ a1 ∧ a1 ≤ 1) ∧ (0 ≤ a2 ∧ a2 ≤ 2) ∧ 0 ≤ a3 ∧ a3 < A (2 + a2.toNat)) → Q (some (x_I (-1))) σ) (kS : ((0 ≤ a1 ∧ a1 ≤ 1) ∧ (0 ≤ a2 ∧ a2 ≤ 2) ∧ 0 ≤ a3 ∧ a3 < A (2 + a2.toNat)) → ∀ τ, y_CI τ → (∀ c m, (c < 92 ∨ 96 ≤ c) → τ c m = σ c m) → Q (some (x_I (V a3.toNat))) τ) : x_P E 127 [x_R 0, x_I a1, x_I a2, x_I a3] σ Q := by
  refine x_Mt e_127 (h_127 E) (Nat.le_of_ble_eq_true rfl) t_127 rfl ?_
  refine x_blk (b := 0) (a_127 E) rfl ?_
  unfold b_127_0
  refine x_iload rfl ?_
  refine x_push 2 rfl ?_
  refine x_cS (fun _ => rfl) (Nat.le_of_ble_eq_true rfl) ?_
  refine sf_2 (by omega) (by omega) (by omega) (by omega) C0 (fun y1 => ?_) (fun y1 => ?_)
  · skip
    refine x_if_eq (by omega) (by omega) (fun z => absurd z (by omega)) (fun z2 => ?_)
    refine x_aload rfl ?_
    refine x_getR (r := 0) rfl (by decide) (by decide) rfl ?_
    refine x_iload rfl ?_
    refine x_iload rfl ?_
    refine x_cV (fun _ => rfl) rfl (by decide) (Nat.le_of_ble_eq_true rfl) ?_
    refine kx_44_4 (by omega) (by omega) (by omega) (by omega) C0 (fun y3 => ?_) (fun y3 => ?_)
    · skip
      refine x_if_ne (by omega) (by omega) (fun z => absurd z (by omega)) (fun z4 => ?_)
      refine x_blk (b := 2) (a_127 E) rfl ?_
      unfold b_127_2
      refine x_aload rfl ?_
      refine x_getR (r := 0) rfl (by decide) (by decide) rfl ?_
      refine x_aload rfl ?_
      refine x_getR (r := 0) rfl (by decide) (by decide) rfl ?_
      refine x_iload rfl ?_
      refine x_iload rfl ?_
      refine x_cV (fun _ => rfl) rfl (by decide) (Nat.le_of_ble_eq_true rfl) ?_
      refine kx_72_92_4 (by omega) (by omega) (by omega) (by omega) C0 hP hA (ms (by omega) (by omega)) (fun S5 C5 f5 n5 w5 => ?_)
      refine x_aload rfl ?_
      refine x_getR (r := 0) rfl (by decide) (by decide) rfl ?_
      refine x_iload rfl ?_
      refine x_cV (fun _ => rfl) rfl (by decide) (Nat.le_of_ble_eq_true rfl) ?_
      refine kx_74_92 (by omega) (by omega) C5 (fun v6 v6a v6b v6c => ?_)
      refine x_iret ?_
      have s6 : 0 ≤ a2 → a2 ≤ 2 → σ 6 a2.toNat = A (2 + a2.toNat) := fun h1 h2 => y_PG_s hA (t := a2.toNat) (by omega)
      have s7 := s6 (by omega) (by omega)
      have q := (w5 a3.toNat (by omega)).2.2
      refine x_fin (b := V a3.toNat) (by omega) ?_
      exact kS ⟨by omega, by omega, by omega, by omega⟩ _ C5 (fun c m h => f5 c m (by omega))
    · skip
      refine x_if_ne (by omega) (by omega) (fun z7 => ?_) (fun z => absurd (by omega) z)
      refine x_fall ?_
      refine x_blk (b := 1) (a_127 E) rfl ?_
      unfold b_127_1
      refine x_push (-1) rfl ?_
      refine x_iret ?_
      have s6 : 0 ≤ a2 → a2 ≤ 2 → σ 6 a2.toNat = A (2 + a2.toNat) := fun h1 h2 => y_PG_s hA (t := a2.toNat) (by omega)
      exact kB (fun z => by have := s6 (by omega) (by omega); omega)
  · skip
    refine x_if_eq (by omega) (by omega) (fun z8 => ?_) (fun z => absurd (by omega) z)
    refine x_blk (b := 1) (a_127 E) rfl ?_
    unfold b_127_1
    refine x_push (-1) rfl ?_
    refine x_iret ?_
    have s6 : 0 ≤ a2 → a2 ≤ 2 → σ 6 a2.toNat = A (2 + a2.toNat) := fun h1 h2 => y_PG_s hA (t := a2.toNat) (by omega)
    exact kB (fun z => by have := s6 (by omega) (by omega); omega)
