theorem kz_84_92 {E : q_E} {σ : x_S} {Q : Option q_V → x_S → Prop} {a3 a4 : Int} (p1 : 0 ≤ a3) (p2 : a3 ≤ 1) (q1 : 0 ≤ a4) (q2 : a4 ≤ 2) (C0 : y_CI σ) {A : Nat → Int} (hP : y_PI A) (h4 : y_PG σ 4 A) {n : Nat} {l P V : Nat → Int} (n40 : n ≤ 40) (n0 : 1 ≤ n) (tr : y_tr l n) (ms : y_ms A 0 l n P V) (gs : y_gS σ 92 n l P V) (k : ∀ τ v, y_CI τ → (∀ k m, (k < 105 ∨ 110 < k) → τ k m = σ k m) → y_WR τ (w_RS A a3 a4 l P V).2 → -60 ≤ v → v ≤ 40 → v = w_uc (w_RS A a3 a4 l P V) → (w_RS A a3 a4 l P V).2.2.2.2.2.1 ≤ 40 → Q (some (x_I v)) τ) : x_P E 84 [x_R 105, x_R 4, x_R 92, x_I a3, x_I a4] σ Q := by
  refine kx_84_105_4_92 p1 p2 q1 q2 C0 hP h4 n40 n0 tr ms gs (fun τ C f w => ?_)
  have b := w_RS_b (p := a3) (q := a4) hP n40 n0 tr ms
  have c5 : 0 ≤ τ 105 5 ∧ τ 105 5 ≤ 40 := C 105 5 (by decide) (by decide) (by decide)
  have w5 : τ 105 5 = (w_RS A a3 a4 l P V).2.2.2.2.2.1 := y_WR_o w
  have u1 : -60 ≤ w_uc (w_RS A a3 a4 l P V) ∧ w_uc (w_RS A a3 a4 l P V) ≤ 40 := by
    unfold w_uc
    split <;> omega
  exact k τ _ C f w u1.1 u1.2 rfl (by omega)
theorem kx_152_105 {E : q_E} {σ : x_S} {Q : Option q_V → x_S → Prop} {a1 : Int} (a1l : -2147483648 ≤ a1) (a1h : a1 ≤ 2147483647) (C0 : y_CI σ) (k : ∀ v, (-4) ≤ v → v ≤ 15 → (((0 ≤ a1 ∧ a1 < σ 105 5 ∧ a1 < 40) ∧ v = σ 106 a1.toNat) ∨ (¬ (0 ≤ a1 ∧ a1 < σ 105 5 ∧ a1 < 40) ∧ v = -4)) → Q (some (x_I v)) σ) : x_P E 152 [x_R 105, x_I a1] σ Q := by
  have c5 : 0 ≤ σ 105 5 ∧ σ 105 5 ≤ 40 := C0 105 5 (by decide) (by decide) (by decide)
  refine x_Mt e_152 (h_152 E) (Nat.le_of_ble_eq_true rfl) t_152 rfl ?_
  refine x_blk (b := 0) (a_152 E) rfl ?_
  unfold b_152_0
  refine x_iload rfl ?_
  refine x_aload rfl ?_
  refine x_getIG y_f105_5 C0 ?_
  intro g1a g1b
  refine x_cS (fun _ => rfl) (Nat.le_of_ble_eq_true rfl) ?_
  refine sf_2 (by omega) (by omega) (by omega) (by omega) C0 (fun y2 => ?_) (fun y2 => ?_)
  · skip
    refine x_if_eq (by omega) (by omega) (fun z => absurd z (by omega)) (fun z3 => ?_)
    refine x_iload rfl ?_
    refine x_push 40 rfl ?_
    refine x_icmp_ge (by omega) (by omega) (by omega) (by omega) (fun z4 => ?_) (fun z => absurd (by omega) z)
    refine x_aload rfl ?_
    refine x_getR (r := 105) rfl (by decide) (by decide) rfl ?_
    refine x_iload rfl ?_
    refine x_ialdX y_a106 C0 (by omega) (by omega) (fun v5 v5x v5a v5b => ?_)
    refine x_goto ?_
    refine x_blk (b := 2) (a_152 E) rfl ?_
    unfold b_152_2
    refine x_iret ?_
    exact k _ (by omega) (by omega) (by omega)
  · skip
    refine x_if_eq (by omega) (by omega) (fun z6 => ?_) (fun z => absurd (by omega) z)
    refine x_blk (b := 1) (a_152 E) rfl ?_
    unfold b_152_1
    refine x_push (-4) rfl ?_
    refine x_fall ?_
    refine x_blk (b := 2) (a_152 E) rfl ?_
    unfold b_152_2
    refine x_iret ?_
    exact k _ (by omega) (by omega) (by omega)
theorem kx_98_0 {E : q_E} {σ : x_S} {Q : Option q_V → x_S → Prop} {a1 a2 : Int} (a1l : -2147483648 ≤ a1) (a1h : a1 ≤ 2147483647) (a2l : -2147483648 ≤ a2) (a2h : a2 ≤ 2147483647) (C0 : y_CI σ) (k : ∀ v, (-2147483648) ≤ v → v ≤ 2147483647 → (((a1 < 0 ∨ a2 = -1) ∧ v = a1) ∨ (¬ (a1 < 0 ∨ a2 = -1) ∧ (0 ≤ a2 ∧ a2 < σ 105 5 ∧ a2 < 40) ∧ v = σ 106 a2.toNat) ∨ (¬ (a1 < 0 ∨ a2 = -1) ∧ ¬ (0 ≤ a2 ∧ a2 < σ 105 5 ∧ a2 < 40) ∧ v = -4)) → Q (some (x_I v)) σ) : x_P E 98 [x_R 0, x_I a1, x_I a2] σ Q := by
  have c5 : 0 ≤ σ 105 5 ∧ σ 105 5 ≤ 40 := C0 105 5 (by decide) (by decide) (by decide)
  refine x_Mt e_98 (h_98 E) (Nat.le_of_ble_eq_true rfl) t_98 rfl ?_
  refine x_blk (b := 0) (a_98 E) rfl ?_
  unfold b_98_0
  refine x_iload rfl ?_
  refine x_if_lt (by omega) (by omega) (fun z1 => ?_) (fun z1 => ?_)
  · skip
    refine x_blk (b := 1) (a_98 E) rfl ?_
    unfold b_98_1
    refine x_iload rfl ?_
    refine x_goto ?_
    refine x_blk (b := 3) (a_98 E) rfl ?_
    unfold b_98_3
    refine x_iret ?_
    exact k _ (by omega) (by omega) (by omega)
  · skip
    refine x_iload rfl ?_
    refine x_push (-1) rfl ?_
    refine x_icmp_ne (by omega) (by omega) (by omega) (by omega) (fun z2 => ?_) (fun z2 => ?_)
    · skip
      refine x_fall ?_
      refine x_blk (b := 1) (a_98 E) rfl ?_
      unfold b_98_1
      refine x_iload rfl ?_
      refine x_goto ?_
      refine x_blk (b := 3) (a_98 E) rfl ?_
      unfold b_98_3
      refine x_iret ?_
      exact k _ (by omega) (by omega) (by omega)
    · skip
      refine x_blk (b := 2) (a_98 E) rfl ?_
      unfold b_98_2
      refine x_aload rfl ?_
      refine x_getR (r := 0) rfl (by decide) (by decide) rfl ?_
      refine x_iload rfl ?_
      refine x_cV (fun _ => rfl) rfl (by decide) (Nat.le_of_ble_eq_true rfl) ?_
      refine kx_152_105 (by omega) (by omega) C0 (fun v3 v3a v3b v3c => ?_)
      refine x_fall ?_
      refine x_blk (b := 3) (a_98 E) rfl ?_
      unfold b_98_3
      refine x_iret ?_
      exact k _ (by omega) (by omega) (by omega)
theorem kx_140_0 {E : q_E} {σ : x_S} {Q : Option q_V → x_S → Prop} {a1 a2 a3 a4 : Int} (a1l : -2147483648 ≤ a1) (a1h : a1 ≤ 2147483647) (a2l : -2147483648 ≤ a2) (a2h : a2 ≤ 2147483647) (a3l : -2147483648 ≤ a3) (a3h : a3 ≤ 2147483647) (a4l : -2147483648 ≤ a4) (a4h : a4 ≤ 2147483647) (C0 : y_CI σ) {A : Nat → Int} (hP : y_PI A) (h4 : y_PG σ 4 A) {P V : Nat → Int} (ms : (0 ≤ a3 ∧ a3 ≤ 2) → y_ms A 0 (y_lt A a3.toNat) (A (2 + a3.toNat)).toNat P V) (kB : ¬ ((0 ≤ a1 ∧ a1 ≤ 1) ∧ (0 ≤ a2 ∧ a2 ≤ 2) ∧ (0 ≤ a3 ∧ a3 ≤ 2) ∧ -1 ≤ a4) → Q (some (x_I (-1))) σ) (kS : ((0 ≤ a1 ∧ a1 ≤ 1) ∧ (0 ≤ a2 ∧ a2 ≤ 2) ∧ (0 ≤ a3 ∧ a3 ≤ 2) ∧ -1 ≤ a4) → ∀ τ, y_CI τ → (∀ c m, (c < 92 ∨ 111 ≤ c) → τ c m = σ c m) → Q (some (x_I (w_an (w_RS A a1 a2 (y_lt A a3.toNat) P V) a4))) τ) : x_P E 140 [x_R 0, x_I a1, x_I a2, x_I a3, x_I a4] σ Q := by
  refine x_Mt e_140 (h_140 E) (Nat.le_of_ble_eq_true rfl) t_140 rfl ?_
  refine x_blk (b := 0) (a_140 E) rfl ?_
  unfold b_140_0
  refine x_iload rfl ?_
  refine x_push 2 rfl ?_
  refine x_cS (fun _ => rfl) (Nat.le_of_ble_eq_true rfl) ?_
  refine sf_2 (by omega) (by omega) (by omega) (by omega) C0 (fun y1 => ?_) (fun y1 => ?_)
  · skip
    refine x_if_eq (by omega) (by omega) (fun z => absurd z (by omega)) (fun z2 => ?_)
    refine x_iload rfl ?_
    refine x_push 3 rfl ?_
    refine x_cS (fun _ => rfl) (Nat.le_of_ble_eq_true rfl) ?_
    refine sf_2 (by omega) (by omega) (by omega) (by omega) C0 (fun y3 => ?_) (fun y3 => ?_)
    · skip
      refine x_if_eq (by omega) (by omega) (fun z => absurd z (by omega)) (fun z4 => ?_)
      refine x_iload rfl ?_
      refine x_push 3 rfl ?_
      refine x_cS (fun _ => rfl) (Nat.le_of_ble_eq_true rfl) ?_
      refine sf_2 (by omega) (by omega) (by omega) (by omega) C0 (fun y5 => ?_) (fun y5 => ?_)
      · skip
        refine x_if_eq (by omega) (by omega) (fun z => absurd z (by omega)) (fun z6 => ?_)
        refine x_iload rfl ?_
        refine x_push (-1) rfl ?_
        refine x_icmp_ge (by omega) (by omega) (by omega) (by omega) (fun z7 => ?_) (fun z7 => ?_)
        · skip
          refine x_fall ?_
          refine x_blk (b := 1) (a_140 E) rfl ?_
          unfold b_140_1
          refine x_push (-1) rfl ?_
          refine x_iret ?_
          exact kB (by omega)
        · skip
          refine x_blk (b := 2) (a_140 E) rfl ?_
          unfold b_140_2
          refine x_aload rfl ?_
          refine x_getR (r := 0) rfl (by decide) (by decide) rfl ?_
          refine x_aload rfl ?_
          refine x_getR (r := 0) rfl (by decide) (by decide) rfl ?_
          refine x_iload rfl ?_
          refine x_push 0 rfl ?_
          refine x_cV (fun _ => rfl) rfl (by decide) (Nat.le_of_ble_eq_true rfl) ?_
          refine kx_72_92_4 (by omega) (by omega) (by omega) (by omega) C0 hP h4.1 (ms (by omega)) (fun S8 C8 f8 n8 w8 => ?_)
          refine x_aload rfl ?_
          refine x_aload rfl ?_
          refine x_getR (r := 0) rfl (by decide) (by decide) rfl ?_
          refine x_aload rfl ?_
          refine x_getR (r := 0) rfl (by decide) (by decide) rfl ?_
          refine x_aload rfl ?_
          refine x_getR (r := 0) rfl (by decide) (by decide) rfl ?_
          refine x_iload rfl ?_
          refine x_iload rfl ?_
          refine x_cV (fun _ => rfl) rfl (by decide) (Nat.le_of_ble_eq_true rfl) ?_
          have sz := y_PI_sz hP (t := a3.toNat) (by omega)
          refine kz_84_92 (l := y_lt A a3.toNat) (n := (A (2 + a3.toNat)).toNat) (by omega) (by omega) (by omega) (by omega) C8 hP (y_PG_fr hP (fun c m h1 h2 => f8 c m (by omega)) h4) (by omega) (by omega) (hP.2.1 a3.toNat (by omega)).2 (ms (by omega)) ⟨n8.trans (by omega), fun v hv => w8 v (by omega)⟩ (fun S9 v9 C9 f9 w9 v9a v9b v9c v9d => ?_)
          have o9 := y_WR_o w9
          refine x_iload rfl ?_
          refine x_cV (fun _ => rfl) rfl (by decide) (Nat.le_of_ble_eq_true rfl) ?_
          refine kx_98_0 (by omega) (by omega) (by omega) (by omega) C9 (fun v10 v10a v10b v10c => ?_)
          refine x_iret ?_
          refine x_fin (b := w_an (w_RS A a1 a2 (y_lt A a3.toNat) P V) a4) ?_ ?_
          · refine w_an_c (v1 := v9) (by omega) v9d v9c ?_
            rw [o9] at v10c
            rcases v10c with h | h | h
            · exact Or.inl h
            · exact Or.inr (Or.inl ⟨h.1, h.2.1, by rw [h.2.2]; exact y_WR_u w9 _ (by omega)⟩)
            · exact Or.inr (Or.inr h)
          · exact kS ⟨by omega, by omega, by omega, by omega⟩ _ C9 (fun c m h => (f9 c m (by omega)).trans (f8 c m (by omega)))
      · skip
        refine x_if_eq (by omega) (by omega) (fun z11 => ?_) (fun z => absurd (by omega) z)
        refine x_blk (b := 1) (a_140 E) rfl ?_
        unfold b_140_1
        refine x_push (-1) rfl ?_
        refine x_iret ?_
        exact kB (by omega)
    · skip
      refine x_if_eq (by omega) (by omega) (fun z12 => ?_) (fun z => absurd (by omega) z)
      refine x_blk (b := 1) (a_140 E) rfl ?_
      unfold b_140_1
      refine x_push (-1) rfl ?_
      refine x_iret ?_
      exact kB (by omega)
  · skip
    refine x_if_eq (by omega) (by omega) (fun z13 => ?_) (fun z => absurd (by omega) z)
    refine x_blk (b := 1) (a_140 E) rfl ?_
    unfold b_140_1
    refine x_push (-1) rfl ?_
    refine x_iret ?_
    exact kB (by omega)
