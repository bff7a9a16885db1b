theorem kz_84_92 {E : q_E} {σ : x_S} {Q : Option q_V → x_S → Prop} {a3 a4 : Int} (p1 : 0 ≤ a3) (p2 : a3 ≤ 1) (q1 : 0 ≤ a4) (q2 : a4 ≤ 2) (C0 : y_CI σ) {A : Nat → Int} (hP : y_PI A) (h4 : y_PG σ 4 A) {n : Nat} {l P V : Nat → Int} (n40 : n ≤ 40) (n0 : 1 ≤ n) (tr : y_tr l n) (ms : y_ms A 0 l n P V) (gs : y_gS σ 92 n l P V) (k : ∀ τ v, y_CI τ → (∀ k m, (k < 105 ∨ 110 < k) → τ k m = σ k m) → y_WR τ (w_RS A a3 a4 l P V).2 → -60 ≤ v → v ≤ 40 → v = w_uc (w_RS A a3 a4 l P V) → (w_RS A a3 a4 l P V).2.2.2.2.2.1 ≤ 40 → Q (some (x_I v)) τ) : x_P E 84 [x_R 105, x_R 4, x_R 92, x_I a3, x_I a4] σ Q := by
  refine kx_84_105_4_92 p1 p2 q1 q2 C0 hP h4 n40 n0 tr ms gs (fun τ C f w => ?_)
  have b := w_RS_b (p := a3) (q := a4) hP n40 n0 tr ms
  have c5 : 0 ≤ τ 105 5 ∧ τ 105 5 ≤ 40 := C 105 5 (by decide) (by decide) (by decide)
  have w5 : τ 105 5 = (w_RS A a3 a4 l P V).2.2.2.2.2.1 := y_WR_o w
  have u1 : -60 ≤ w_uc (w_RS A a3 a4 l P V) ∧ w_uc (w_RS A a3 a4 l P V) ≤ 40 := by
    unfold w_uc
    split <;> omega
  exact k τ _ C f w u1.1 u1.2 rfl (by omega)
theorem kx_107_105 {E : q_E} {σ : x_S} {Q : Option q_V → x_S → Prop} {a1 : Int} (a1l : -2147483648 ≤ a1) (a1h : a1 ≤ 2147483647) (C0 : y_CI σ) (k : ∀ v, (-2147483648) ≤ v → v ≤ 2147483647 → (((0 ≤ a1 ∧ a1 < 40) ∧ v = σ 107 a1.toNat) ∨ (¬ (0 ≤ a1 ∧ a1 < 40) ∧ v = 0)) → Q (some (x_I v)) σ) : x_P E 107 [x_R 105, x_I a1] σ Q := by
  refine x_Mt e_107 (h_107 E) (Nat.le_of_ble_eq_true rfl) t_107 rfl ?_
  refine x_blk (b := 0) (a_107 E) rfl ?_
  unfold b_107_0
  refine x_iload rfl ?_
  refine x_push 40 rfl ?_
  refine x_cS (fun _ => rfl) (Nat.le_of_ble_eq_true rfl) ?_
  refine sf_2 (by omega) (by omega) (by omega) (by omega) C0 (fun y1 => ?_) (fun y1 => ?_)
  · skip
    refine x_if_eq (by omega) (by omega) (fun z => absurd z (by omega)) (fun z2 => ?_)
    refine x_aload rfl ?_
    refine x_getR (r := 105) rfl (by decide) (by decide) rfl ?_
    refine x_iload rfl ?_
    refine x_ialdX y_a107 C0 (by omega) (by omega) (fun v3 v3x v3a v3b => ?_)
    refine x_goto ?_
    refine x_blk (b := 2) (a_107 E) rfl ?_
    unfold b_107_2
    refine x_iret ?_
    exact k _ (by omega) (by omega) (by omega)
  · skip
    refine x_if_eq (by omega) (by omega) (fun z4 => ?_) (fun z => absurd (by omega) z)
    refine x_blk (b := 1) (a_107 E) rfl ?_
    unfold b_107_1
    refine x_push 0 rfl ?_
    refine x_fall ?_
    refine x_blk (b := 2) (a_107 E) rfl ?_
    unfold b_107_2
    refine x_iret ?_
    exact k _ (by omega) (by omega) (by omega)
theorem kx_158_0 {E : q_E} {σ : x_S} {Q : Option q_V → x_S → Prop} {a1 a2 a3 : Int} (a1l : -2147483648 ≤ a1) (a1h : a1 ≤ 2147483647) (a2l : -2147483648 ≤ a2) (a2h : a2 ≤ 2147483647) (a3l : -2147483648 ≤ a3) (a3h : a3 ≤ 2147483647) (C0 : y_CI σ) {A : Nat → Int} (hP : y_PI A) (h4 : y_PG σ 4 A) {P V : Nat → Int} (ms : (0 ≤ a2 ∧ a2 ≤ 2) → y_ms A 0 (y_lt A a2.toNat) (A (2 + a2.toNat)).toNat P V) (kB : ¬ ((0 ≤ a1 ∧ a1 ≤ 1) ∧ (0 ≤ a2 ∧ a2 ≤ 2) ∧ 0 ≤ a3 ∧ a3 < A (2 + a2.toNat)) → Q (some (x_I (-1))) σ) (kS : ((0 ≤ a1 ∧ a1 ≤ 1) ∧ (0 ≤ a2 ∧ a2 ≤ 2) ∧ 0 ≤ a3 ∧ a3 < A (2 + a2.toNat)) → ∀ τ, y_CI τ → (∀ c m, (c < 92 ∨ 111 ≤ c) → τ c m = σ c m) → Q (some (x_I ((w_RS A a1 0 (y_lt A a2.toNat) P V).2.2.2.2.2.2.2 a3.toNat))) τ) : x_P E 158 [x_R 0, x_I a1, x_I a2, x_I a3] σ Q := by
  refine x_Mt e_158 (h_158 E) (Nat.le_of_ble_eq_true rfl) t_158 rfl ?_
  refine x_blk (b := 0) (a_158 E) rfl ?_
  unfold b_158_0
  refine x_iload rfl ?_
  refine x_push 2 rfl ?_
  refine x_cS (fun _ => rfl) (Nat.le_of_ble_eq_true rfl) ?_
  refine sf_2 (by omega) (by omega) (by omega) (by omega) C0 (fun y1 => ?_) (fun y1 => ?_)
  · skip
    refine x_if_eq (by omega) (by omega) (fun z => absurd z (by omega)) (fun z2 => ?_)
    refine x_aload rfl ?_
    refine x_getR (r := 0) rfl (by decide) (by decide) rfl ?_
    refine x_iload rfl ?_
    refine x_iload rfl ?_
    refine x_cV (fun _ => rfl) rfl (by decide) (Nat.le_of_ble_eq_true rfl) ?_
    refine kx_44_4 (by omega) (by omega) (by omega) (by omega) C0 (fun y3 => ?_) (fun y3 => ?_)
    · skip
      refine x_if_ne (by omega) (by omega) (fun z => absurd z (by omega)) (fun z4 => ?_)
      refine x_blk (b := 2) (a_158 E) rfl ?_
      unfold b_158_2
      refine x_aload rfl ?_
      refine x_getR (r := 0) rfl (by decide) (by decide) rfl ?_
      refine x_aload rfl ?_
      refine x_getR (r := 0) rfl (by decide) (by decide) rfl ?_
      refine x_iload rfl ?_
      refine x_push 0 rfl ?_
      refine x_cV (fun _ => rfl) rfl (by decide) (Nat.le_of_ble_eq_true rfl) ?_
      refine kx_72_92_4 (by omega) (by omega) (by omega) (by omega) C0 hP h4.1 (ms (by omega)) (fun S5 C5 f5 n5 w5 => ?_)
      refine x_aload rfl ?_
      refine x_getR (r := 0) rfl (by decide) (by decide) rfl ?_
      refine x_aload rfl ?_
      refine x_getR (r := 0) rfl (by decide) (by decide) rfl ?_
      refine x_aload rfl ?_
      refine x_getR (r := 0) rfl (by decide) (by decide) rfl ?_
      refine x_iload rfl ?_
      refine x_push 0 rfl ?_
      refine x_cV (fun _ => rfl) rfl (by decide) (Nat.le_of_ble_eq_true rfl) ?_
      have sz := y_PI_sz hP (t := a2.toNat) (by omega)
      refine kz_84_92 (l := y_lt A a2.toNat) (n := (A (2 + a2.toNat)).toNat) (by omega) (by omega) (by omega) (by omega) C5 hP (y_PG_fr hP (fun c m h1 h2 => f5 c m (by omega)) h4) (by omega) (by omega) (hP.2.1 a2.toNat (by omega)).2 (ms (by omega)) ⟨n5.trans (by omega), fun v hv => w5 v (by omega)⟩ (fun S6 v6 C6 f6 w6 v6a v6b v6c v6d => ?_)
      have o6 := y_WR_o w6
      refine x_pop rfl ?_
      refine x_aload rfl ?_
      refine x_getR (r := 0) rfl (by decide) (by decide) rfl ?_
      refine x_iload rfl ?_
      refine x_cV (fun _ => rfl) rfl (by decide) (Nat.le_of_ble_eq_true rfl) ?_
      refine kx_107_105 (by omega) (by omega) C6 (fun v7 v7a v7b v7c => ?_)
      refine x_iret ?_
      have s6 : 0 ≤ a2 → a2 ≤ 2 → σ 6 a2.toNat = A (2 + a2.toNat) := fun h1 h2 => y_PG_s h4.1 (t := a2.toNat) (by omega)
      have s7 := s6 (by omega) (by omega)
      have e7 := y_WR_v w6 a3.toNat (by omega)
      refine x_fin (b := (w_RS A a1 0 (y_lt A a2.toNat) P V).2.2.2.2.2.2.2 a3.toNat) (by omega) ?_
      exact kS ⟨by omega, by omega, by omega, by omega⟩ _ C6 (fun c m h => (f6 c m (by omega)).trans (f5 c m (by omega)))
    · skip
      refine x_if_ne (by omega) (by omega) (fun z8 => ?_) (fun z => absurd (by omega) z)
      refine x_fall ?_
      refine x_blk (b := 1) (a_158 E) rfl ?_
      unfold b_158_1
      refine x_push (-1) rfl ?_
      refine x_iret ?_
      have s6 : 0 ≤ a2 → a2 ≤ 2 → σ 6 a2.toNat = A (2 + a2.toNat) := fun h1 h2 => y_PG_s h4.1 (t := a2.toNat) (by omega)
      exact kB (fun z => by have := s6 (by omega) (by omega); omega)
  · skip
    refine x_if_eq (by omega) (by omega) (fun z9 => ?_) (fun z => absurd (by omega) z)
    refine x_blk (b := 1) (a_158 E) rfl ?_
    unfold b_158_1
    refine x_push (-1) rfl ?_
    refine x_iret ?_
    have s6 : 0 ≤ a2 → a2 ≤ 2 → σ 6 a2.toNat = A (2 + a2.toNat) := fun h1 h2 => y_PG_s h4.1 (t := a2.toNat) (by omega)
    exact kB (fun z => by have := s6 (by omega) (by omega); omega)
