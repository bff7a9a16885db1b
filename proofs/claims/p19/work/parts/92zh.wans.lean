theorem kz_84_92 {E : q_E} {σ : x_S} {Q : Option q_V → x_S → Prop} {a3 a4 : Int} (p1 : 0 ≤ a3) (p2 : a3 ≤ 1) (q1 : 0 ≤ a4) (q2 : a4 ≤ 2) (C0 : y_CI σ) {A : Nat → Int} (hP : y_PI A) (h4 : y_PG σ 4 A) {n : Nat} {l P V : Nat → Int} (n40 : n ≤ 40) (n0 : 1 ≤ n) (tr : y_tr l n) (ms : y_ms A 0 l n P V) (gs : y_gS σ 92 n l P V) (k : ∀ τ v, y_CI τ → (∀ k m, (k < 105 ∨ 110 < k) → τ k m = σ k m) → y_WR τ (w_RS A a3 a4 l P V).2 → -60 ≤ v → v ≤ 40 → v = w_uc (w_RS A a3 a4 l P V) → (w_RS A a3 a4 l P V).2.2.2.2.2.1 ≤ 40 → Q (some (x_I v)) τ) : x_P E 84 [x_R 105, x_R 4, x_R 92, x_I a3, x_I a4] σ Q := by
  refine kx_84_105_4_92 p1 p2 q1 q2 C0 hP h4 n40 n0 tr ms gs (fun τ C f w => ?_)
  have b := w_RS_b (p := a3) (q := a4) hP n40 n0 tr ms
  have c5 : 0 ≤ τ 105 5 ∧ τ 105 5 ≤ 40 := C 105 5 (by decide) (by decide) (by decide)
  have w5 : τ 105 5 = (w_RS A a3 a4 l P V).2.2.2.2.2.1 := y_WR_o w
  have u1 : -60 ≤ w_uc (w_RS A a3 a4 l P V) ∧ w_uc (w_RS A a3 a4 l P V) ≤ 40 := by
    unfold w_uc
    split <;> omega
  exact k τ _ C f w u1.1 u1.2 rfl (by omega)
theorem kz_84_96 {E : q_E} {σ : x_S} {Q : Option q_V → x_S → Prop} {a3 a4 : Int} (p1 : 0 ≤ a3) (p2 : a3 ≤ 1) (q1 : 0 ≤ a4) (q2 : a4 ≤ 2) (C0 : y_CI σ) {A : Nat → Int} (hP : y_PI A) (h4 : y_PG σ 4 A) {n : Nat} {l P V : Nat → Int} (n40 : n ≤ 40) (n0 : 1 ≤ n) (tr : y_tr l n) (ms : y_ms A 0 l n P V) (gs : y_gS σ 96 n l P V) (k : ∀ τ v, y_CI τ → (∀ k m, (k < 105 ∨ 110 < k) → τ k m = σ k m) → y_WR τ (w_RS A a3 a4 l P V).2 → -60 ≤ v → v ≤ 40 → v = w_uc (w_RS A a3 a4 l P V) → (w_RS A a3 a4 l P V).2.2.2.2.2.1 ≤ 40 → Q (some (x_I v)) τ) : x_P E 84 [x_R 105, x_R 4, x_R 96, x_I a3, x_I a4] σ Q := by
  refine kx_84_105_4_96 p1 p2 q1 q2 C0 hP h4 n40 n0 tr ms gs (fun τ C f w => ?_)
  have b := w_RS_b (p := a3) (q := a4) hP n40 n0 tr ms
  have c5 : 0 ≤ τ 105 5 ∧ τ 105 5 ≤ 40 := C 105 5 (by decide) (by decide) (by decide)
  have w5 : τ 105 5 = (w_RS A a3 a4 l P V).2.2.2.2.2.1 := y_WR_o w
  have u1 : -60 ≤ w_uc (w_RS A a3 a4 l P V) ∧ w_uc (w_RS A a3 a4 l P V) ≤ 40 := by
    unfold w_uc
    split <;> omega
  exact k τ _ C f w u1.1 u1.2 rfl (by omega)
/-- what both passes answer, one behind the other -/
def w_bo (R1 R2 : Int × w_C) (i : Int) : Int := if R1.1 < 0 then R1.1 else if R2.1 ≤ -10 then R2.1 - 50 else w_an R2 i
theorem w_bo_c {R1 R2 : Int × w_C} {i v2 v3 : Int} (h0 : ¬ R1.1 < 0) (h1 : v2 = w_uc R2) (h2 : (v2 ≤ -10 ∧ v3 = v2 - 50) ∨ (¬ v2 ≤ -10 ∧ v3 = w_an R2 i)) : v3 = w_bo R1 R2 i := by
  unfold w_bo
  rw [if_neg h0]
  unfold w_uc at h1
  by_cases c : R2.1 < 0
  · rw [if_pos c] at h1
    by_cases d : R2.1 ≤ -10
    · rw [if_pos d]; omega
    · rw [if_neg d]; omega
  · rw [if_neg c] at h1
    rw [if_neg (by omega)]
    omega
theorem kx_152_105 {E : q_E} {σ : x_S} {Q : Option q_V → x_S → Prop} {a1 : Int} (a1l : -2147483648 ≤ a1) (a1h : a1 ≤ 2147483647) (C0 : y_CI σ) (k : ∀ v, (-4) ≤ v → v ≤ 15 → (((0 ≤ a1 ∧ a1 < σ 105 5 ∧ a1 < 40) ∧ v = σ 106 a1.toNat) ∨ (¬ (0 ≤ a1 ∧ a1 < σ 105 5 ∧ a1 < 40) ∧ v = -4)) → Q (some (x_I v)) σ) : x_P E 152 [x_R 105, x_I a1] σ Q := by
  have c5 : 0 ≤ σ 105 5 ∧ σ 105 5 ≤ 40 := C0 105 5 (by decide) (by decide) (by decide)
  refine x_Mt e_152 (h_152 E) (Nat.le_of_ble_eq_true rfl) t_152 rfl ?_
  refine x_blk (b := 0) (a_152 E) rfl ?_
  unfold b_152_0
  refine x_iload rfl ?_
  refine x_aload rfl ?_
  refine x_getIG y_f105_5 C0 ?_
  intro g1a g1b
  refine x_cS (fun _ => rfl) (Nat.le_of_ble_eq_true rfl) ?_
  refine sf_2 (by omega) (by omega) (by omega) (by omega) C0 (fun y2 => ?_) (fun y2 => ?_)
  · skip
    refine x_if_eq (by omega) (by omega) (fun z => absurd z (by omega)) (fun z3 => ?_)
    refine x_iload rfl ?_
    refine x_push 40 rfl ?_
    refine x_icmp_ge (by omega) (by omega) (by omega) (by omega) (fun z4 => ?_) (fun z => absurd (by omega) z)
    refine x_aload rfl ?_
    refine x_getR (r := 105) rfl (by decide) (by decide) rfl ?_
    refine x_iload rfl ?_
    refine x_ialdX y_a106 C0 (by omega) (by omega) (fun v5 v5x v5a v5b => ?_)
    refine x_goto ?_
    refine x_blk (b := 2) (a_152 E) rfl ?_
    unfold b_152_2
    refine x_iret ?_
    exact k _ (by omega) (by omega) (by omega)
  · skip
    refine x_if_eq (by omega) (by omega) (fun z6 => ?_) (fun z => absurd (by omega) z)
    refine x_blk (b := 1) (a_152 E) rfl ?_
    unfold b_152_1
    refine x_push (-4) rfl ?_
    refine x_fall ?_
    refine x_blk (b := 2) (a_152 E) rfl ?_
    unfold b_152_2
    refine x_iret ?_
    exact k _ (by omega) (by omega) (by omega)
theorem kx_98_0 {E : q_E} {σ : x_S} {Q : Option q_V → x_S → Prop} {a1 a2 : Int} (a1l : -2147483648 ≤ a1) (a1h : a1 ≤ 2147483647) (a2l : -2147483648 ≤ a2) (a2h : a2 ≤ 2147483647) (C0 : y_CI σ) (k : ∀ v, (-2147483648) ≤ v → v ≤ 2147483647 → (((a1 < 0 ∨ a2 = -1) ∧ v = a1) ∨ (¬ (a1 < 0 ∨ a2 = -1) ∧ (0 ≤ a2 ∧ a2 < σ 105 5 ∧ a2 < 40) ∧ v = σ 106 a2.toNat) ∨ (¬ (a1 < 0 ∨ a2 = -1) ∧ ¬ (0 ≤ a2 ∧ a2 < σ 105 5 ∧ a2 < 40) ∧ v = -4)) → Q (some (x_I v)) σ) : x_P E 98 [x_R 0, x_I a1, x_I a2] σ Q := by
  have c5 : 0 ≤ σ 105 5 ∧ σ 105 5 ≤ 40 := C0 105 5 (by decide) (by decide) (by decide)
  refine x_Mt e_98 (h_98 E) (Nat.le_of_ble_eq_true rfl) t_98 rfl ?_
  refine x_blk (b := 0) (a_98 E) rfl ?_
  unfold b_98_0
  refine x_iload rfl ?_
  refine x_if_lt (by omega) (by omega) (fun z1 => ?_) (fun z1 => ?_)
  · skip
    refine x_blk (b := 1) (a_98 E) rfl ?_
    unfold b_98_1
    refine x_iload rfl ?_
    refine x_goto ?_
    refine x_blk (b := 3) (a_98 E) rfl ?_
    unfold b_98_3
    refine x_iret ?_
    exact k _ (by omega) (by omega) (by omega)
  · skip
    refine x_iload rfl ?_
    refine x_push (-1) rfl ?_
    refine x_icmp_ne (by omega) (by omega) (by omega) (by omega) (fun z2 => ?_) (fun z2 => ?_)
    · skip
      refine x_fall ?_
      refine x_blk (b := 1) (a_98 E) rfl ?_
      unfold b_98_1
      refine x_iload rfl ?_
      refine x_goto ?_
      refine x_blk (b := 3) (a_98 E) rfl ?_
      unfold b_98_3
      refine x_iret ?_
      exact k _ (by omega) (by omega) (by omega)
    · skip
      refine x_blk (b := 2) (a_98 E) rfl ?_
      unfold b_98_2
      refine x_aload rfl ?_
      refine x_getR (r := 0) rfl (by decide) (by decide) rfl ?_
      refine x_iload rfl ?_
      refine x_cV (fun _ => rfl) rfl (by decide) (Nat.le_of_ble_eq_true rfl) ?_
      refine kx_152_105 (by omega) (by omega) C0 (fun v3 v3a v3b v3c => ?_)
      refine x_fall ?_
      refine x_blk (b := 3) (a_98 E) rfl ?_
      unfold b_98_3
      refine x_iret ?_
      exact k _ (by omega) (by omega) (by omega)
theorem kx_153_0 {E : q_E} {σ : x_S} {Q : Option q_V → x_S → Prop} {a1 a2 : Int} (a1l : -2147483648 ≤ a1) (a1h : a1 ≤ 2147483647) (a2l : -2147483648 ≤ a2) (a2h : a2 ≤ 2147483647) (C0 : y_CI σ) {A : Nat → Int} (hP : y_PI A) (h4 : y_PG σ 4 A) {P V : Nat → Int} (ms : (0 ≤ a1 ∧ a1 ≤ 2) → y_ms A 0 (y_lt A a1.toNat) (A (2 + a1.toNat)).toNat P V) {P2 V2 : Nat → Int} (ms2 : (0 ≤ a1 ∧ a1 ≤ 2) → (w_RS A 0 0 (y_lt A a1.toNat) P V).1 = 0 → y_ms A 0 (w_RS A 0 0 (y_lt A a1.toNat) P V).2.2.2.2.2.2.1 (w_RS A 0 0 (y_lt A a1.toNat) P V).2.2.2.2.2.1 P2 V2) (kB : ¬ ((0 ≤ a1 ∧ a1 ≤ 2) ∧ -1 ≤ a2) → Q (some (x_I (-1))) σ) (kS : ((0 ≤ a1 ∧ a1 ≤ 2) ∧ -1 ≤ a2) → ∀ τ, y_CI τ → (∀ c m, (c < 92 ∨ 111 ≤ c) → τ c m = σ c m) → Q (some (x_I (w_bo (w_RS A 0 0 (y_lt A a1.toNat) P V) (w_RS A 1 0 (w_RS A 0 0 (y_lt A a1.toNat) P V).2.2.2.2.2.2.1 P2 V2) a2))) τ) : x_P E 153 [x_R 0, x_I a1, x_I a2] σ Q := by
  refine x_Mt e_153 (h_153 E) (Nat.le_of_ble_eq_true rfl) t_153 rfl ?_
  refine x_blk (b := 0) (a_153 E) rfl ?_
  unfold b_153_0
  refine x_iload rfl ?_
  refine x_push 3 rfl ?_
  refine x_cS (fun _ => rfl) (Nat.le_of_ble_eq_true rfl) ?_
  refine sf_2 (by omega) (by omega) (by omega) (by omega) C0 (fun y1 => ?_) (fun y1 => ?_)
  · skip
    refine x_if_eq (by omega) (by omega) (fun z => absurd z (by omega)) (fun z2 => ?_)
    refine x_iload rfl ?_
    refine x_push (-1) rfl ?_
    refine x_icmp_ge (by omega) (by omega) (by omega) (by omega) (fun z3 => ?_) (fun z3 => ?_)
    · skip
      refine x_fall ?_
      refine x_blk (b := 1) (a_153 E) rfl ?_
      unfold b_153_1
      refine x_push (-1) rfl ?_
      refine x_iret ?_
      exact kB (by omega)
    · skip
      refine x_blk (b := 2) (a_153 E) rfl ?_
      unfold b_153_2
      refine x_aload rfl ?_
      refine x_getR (r := 0) rfl (by decide) (by decide) rfl ?_
      refine x_aload rfl ?_
      refine x_getR (r := 0) rfl (by decide) (by decide) rfl ?_
      refine x_iload rfl ?_
      refine x_push 0 rfl ?_
      refine x_cV (fun _ => rfl) rfl (by decide) (Nat.le_of_ble_eq_true rfl) ?_
      refine kx_72_92_4 (by omega) (by omega) (by omega) (by omega) C0 hP h4.1 (ms (by omega)) (fun S4 C4 f4 n4 w4 => ?_)
      refine x_aload rfl ?_
      refine x_getR (r := 0) rfl (by decide) (by decide) rfl ?_
      refine x_aload rfl ?_
      refine x_getR (r := 0) rfl (by decide) (by decide) rfl ?_
      refine x_aload rfl ?_
      refine x_getR (r := 0) rfl (by decide) (by decide) rfl ?_
      refine x_push 0 rfl ?_
      refine x_push 0 rfl ?_
      refine x_cV (fun _ => rfl) rfl (by decide) (Nat.le_of_ble_eq_true rfl) ?_
      have sz := y_PI_sz hP (t := a1.toNat) (by omega)
      refine kz_84_92 (l := y_lt A a1.toNat) (n := (A (2 + a1.toNat)).toNat) (by omega) (by omega) (by omega) (by omega) C4 hP (y_PG_fr hP (fun c m h1 h2 => f4 c m (by omega)) h4) (by omega) (by omega) (hP.2.1 a1.toNat (by omega)).2 (ms (by omega)) ⟨n4.trans (by omega), fun v hv => w4 v (by omega)⟩ (fun S5 v5 C5 f5 w5 v5a v5b v5c v5d => ?_)
      have o5 := y_WR_o w5
      refine x_istore ?_
      refine x_iload rfl ?_
      refine x_if_ge (by omega) (by omega) (fun z6 => ?_) (fun z6 => ?_)
      · skip
        refine x_iload rfl ?_
        refine x_iret ?_
        refine x_fin (b := w_bo (w_RS A 0 0 (y_lt A a1.toNat) P V) (w_RS A 1 0 (w_RS A 0 0 (y_lt A a1.toNat) P V).2.2.2.2.2.2.1 P2 V2) a2) ?_ ?_
        · unfold w_uc at v5c
          by_cases c : (w_RS A 0 0 (y_lt A a1.toNat) P V).1 < 0
          · rw [if_pos c] at v5c
            unfold w_bo
            rw [if_pos c]
            exact v5c
          · rw [if_neg c] at v5c; omega
        · exact kS ⟨by omega, by omega⟩ _ C5 (fun c m h => (f5 c m (by omega)).trans (f4 c m (by omega)))
      · skip
        refine x_blk (b := 3) (a_153 E) rfl ?_
        unfold b_153_3
        refine x_aload rfl ?_
        refine x_getR (r := 0) rfl (by decide) (by decide) rfl ?_
        refine x_aload rfl ?_
        refine x_getR (r := 0) rfl (by decide) (by decide) rfl ?_
        refine x_aload rfl ?_
        refine x_getR (r := 0) rfl (by decide) (by decide) rfl ?_
        refine x_getR (r := 105) rfl (by decide) (by decide) rfl ?_
        refine x_aload rfl ?_
        refine x_getR (r := 0) rfl (by decide) (by decide) rfl ?_
        refine x_getIG y_f105_5 C5 ?_
        intro g7a g7b
        refine x_cV (fun _ => rfl) rfl (by decide) (Nat.le_of_ble_eq_true rfl) ?_
        have rz : (w_RS A 0 0 (y_lt A a1.toNat) P V).1 = 0 := by
          have b := w_RS_b (p := 0) (q := 0) (P := P) (V := V) (l := y_lt A a1.toNat) (n := (A (2 + a1.toNat)).toNat) hP (by omega) (by omega) (hP.2.1 a1.toNat (by omega)).2 (ms (by omega))
          unfold w_uc at v5c
          by_cases c : (w_RS A 0 0 (y_lt A a1.toNat) P V).1 < 0
          · rw [if_pos c] at v5c; omega
          · omega
        have tt := w_RS_t (p := 0) (q := 0) (P := P) (V := V) (l := y_lt A a1.toNat) (n := (A (2 + a1.toNat)).toNat) hP (by omega) (by omega) (hP.2.1 a1.toNat (by omega)).2 (ms (by omega)) rz
        have n5 : (S5 105 5).toNat = (w_RS A 0 0 (y_lt A a1.toNat) P V).2.2.2.2.2.1 := by omega
        have lx : ∀ i, i < (w_RS A 0 0 (y_lt A a1.toNat) P V).2.2.2.2.2.1 → (w_RS A 0 0 (y_lt A a1.toNat) P V).2.2.2.2.2.2.1 i = S5 106 i := fun i hi => (y_WR_u w5 i hi).symm
        refine kx_154_96_4_106 (P := P2) (V := V2) (by omega) (by omega) C5 hP (y_PG_fr hP (fun c m h1 h2 => (f5 c m (by omega)).trans (f4 c m (by omega))) h4).1 (by rw [n5]; exact y_tr_ext lx tt.1) (by rw [n5]; exact y_ms_ext lx (ms2 (by omega) rz)) (fun S8 C8 f8 n8 w8 => ?_)
        refine x_aload rfl ?_
        refine x_getR (r := 0) rfl (by decide) (by decide) rfl ?_
        refine x_aload rfl ?_
        refine x_getR (r := 0) rfl (by decide) (by decide) rfl ?_
        refine x_aload rfl ?_
        refine x_getR (r := 0) rfl (by decide) (by decide) rfl ?_
        refine x_push 1 rfl ?_
        refine x_push 0 rfl ?_
        refine x_cV (fun _ => rfl) rfl (by decide) (Nat.le_of_ble_eq_true rfl) ?_
        refine kz_84_96 (l := (w_RS A 0 0 (y_lt A a1.toNat) P V).2.2.2.2.2.2.1) (n := (w_RS A 0 0 (y_lt A a1.toNat) P V).2.2.2.2.2.1) (by omega) (by omega) (by omega) (by omega) C8 hP (y_PG_fr hP (fun c m h1 h2 => (f8 c m (by omega)).trans ((f5 c m (by omega)).trans (f4 c m (by omega)))) h4) (by omega) (by omega) tt.1 (ms2 (by omega) rz) ⟨n8.trans o5, fun v hv => ⟨(w8 v (by omega)).1.trans (y_WR_u w5 v hv), (w8 v (by omega)).2⟩⟩ (fun S9 v9 C9 f9 w9 v9a v9b v9c v9d => ?_)
        have o9 := y_WR_o w9
        refine x_istore ?_
        refine x_X_lo (lo' := [(0, x_R 0), (1, x_I _), (2, x_I _), (3, x_I _), (4, x_I _)]) ⟨rfl, rfl, rfl, rfl, rfl, trivial⟩ ?_
        refine x_aload rfl ?_
        refine x_iload rfl ?_
        refine x_push (-10) rfl ?_
        refine x_icmp_gt (by omega) (by omega) (by omega) (by omega) (fun z10 => ?_) (fun z10 => ?_)
        · skip
          refine x_iload rfl ?_
          refine x_push 50 rfl ?_
          refine x_isub ?_
          refine x_goto ?_
          refine x_blk (b := 5) (a_153 E) rfl ?_
          unfold b_153_5
          refine x_iload rfl ?_
          refine x_cV (fun _ => rfl) rfl (by decide) (Nat.le_of_ble_eq_true rfl) ?_
          refine kx_98_0 (by omega) (by omega) (by omega) (by omega) C9 (fun v11 v11a v11b v11c => ?_)
          refine x_iret ?_
          refine x_fin (b := w_bo (w_RS A 0 0 (y_lt A a1.toNat) P V) (w_RS A 1 0 (w_RS A 0 0 (y_lt A a1.toNat) P V).2.2.2.2.2.2.1 P2 V2) a2) ?_ ?_
          · refine w_bo_c (v2 := v9) (by omega) v9c ?_
            first
              | exact Or.inl ⟨by omega, by omega⟩
              | (refine Or.inr ⟨by omega, ?_⟩
                 refine w_an_c (v1 := v9) (by omega) v9d v9c ?_
                 rw [o9] at v11c
                 rcases v11c with h | h | h
                 · exact Or.inl h
                 · exact Or.inr (Or.inl ⟨h.1, h.2.1, by rw [h.2.2]; exact y_WR_u w9 _ (by omega)⟩)
                 · exact Or.inr (Or.inr h))
          · exact kS ⟨by omega, by omega⟩ _ C9 (fun c m h => (f9 c m (by omega)).trans ((f8 c m (by omega)).trans ((f5 c m (by omega)).trans (f4 c m (by omega)))))
        · skip
          refine x_blk (b := 4) (a_153 E) rfl ?_
          unfold b_153_4
          refine x_iload rfl ?_
          refine x_fall ?_
          refine x_blk (b := 5) (a_153 E) rfl ?_
          unfold b_153_5
          refine x_iload rfl ?_
          refine x_cV (fun _ => rfl) rfl (by decide) (Nat.le_of_ble_eq_true rfl) ?_
          refine kx_98_0 (by omega) (by omega) (by omega) (by omega) C9 (fun v12 v12a v12b v12c => ?_)
          refine x_iret ?_
          refine x_fin (b := w_bo (w_RS A 0 0 (y_lt A a1.toNat) P V) (w_RS A 1 0 (w_RS A 0 0 (y_lt A a1.toNat) P V).2.2.2.2.2.2.1 P2 V2) a2) ?_ ?_
          · refine w_bo_c (v2 := v9) (by omega) v9c ?_
            first
              | exact Or.inl ⟨by omega, by omega⟩
              | (refine Or.inr ⟨by omega, ?_⟩
                 refine w_an_c (v1 := v9) (by omega) v9d v9c ?_
                 rw [o9] at v12c
                 rcases v12c with h | h | h
                 · exact Or.inl h
                 · exact Or.inr (Or.inl ⟨h.1, h.2.1, by rw [h.2.2]; exact y_WR_u w9 _ (by omega)⟩)
                 · exact Or.inr (Or.inr h))
          · exact kS ⟨by omega, by omega⟩ _ C9 (fun c m h => (f9 c m (by omega)).trans ((f8 c m (by omega)).trans ((f5 c m (by omega)).trans (f4 c m (by omega)))))
  · skip
    refine x_if_eq (by omega) (by omega) (fun z13 => ?_) (fun z => absurd (by omega) z)
    refine x_blk (b := 1) (a_153 E) rfl ?_
    unfold b_153_1
    refine x_push (-1) rfl ?_
    refine x_iret ?_
    exact kB (by omega)
