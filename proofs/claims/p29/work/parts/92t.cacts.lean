/-! the class's acts -/
/-- but for the program, what was noted of it, what is worked out of it, nothing has changed -/
def y_fA (σ τ : x_S) : Prop := ∀ c m, (c = 0 ∨ c = 2 ∨ (c = 1 ∧ m ≠ 3 ∧ m ≠ 4) ∨ (76 ≤ c ∧ c < 92) ∨ 138 ≤ c) → τ c m = σ c m
theorem y_fA_rf {σ : x_S} : y_fA σ σ := fun _ _ _ => rfl
theorem x_cp_e {σ τ : x_S} {r sp r' dp n q k : Nat} (e : τ = x_cp σ r sp r' dp n) : τ q k = if q = r' ∧ dp ≤ k ∧ k < dp + n then σ r (sp + (k - dp)) else σ q k := by rw [e]; rfl
theorem kx_102_4 {E : q_E} {σ : x_S} {Q : Option q_V → x_S → Prop} {a1 : Int} (a1l : 0 ≤ a1) (a1h : a1 < σ 4 6) (C0 : y_CI σ) (k : ∀ τ, y_CI τ → (∀ c m, c ≠ 9 → ¬ (c = 4 ∧ m = 6) → τ c m = σ c m) → τ 4 6 = σ 4 6 - 1 → (∀ m : Nat, τ 9 m = if 12 * a1.toNat ≤ m ∧ (m : Int) < 12 * (σ 4 6 - 1) then σ 9 (m + 12) else σ 9 m) → Q none τ) : x_P E 102 [x_R 4, x_I a1] σ Q := by
  have c6 : 0 ≤ σ 4 6 ∧ σ 4 6 ≤ 16 := C0 4 6 (by decide) (by decide) (by decide)
  refine x_Mt e_102 (h_102 E) (Nat.le_of_ble_eq_true rfl) t_102 rfl ?_
  refine x_blk (b := 0) (a_102 E) rfl ?_
  unfold b_102_0
  refine x_aload rfl ?_
  refine x_iload rfl ?_
  refine x_cV (fun _ => rfl) rfl (by decide) (Nat.le_of_ble_eq_true rfl) ?_
  refine kx_60_4 (by omega) (by omega) C0 (fun y1 => ?_) (fun y1 => absurd (by omega) y1)
  refine x_if_eq (by omega) (by omega) (fun z => absurd z (by omega)) (fun z2 => ?_)
  refine x_aload rfl ?_
  refine x_dup rfl ?_
  refine x_getIG y_f4_6 C0 ?_
  intro g3a g3b
  refine x_push 1 rfl ?_
  refine x_isub ?_
  refine x_putIG y_f4_6 ⟨by decide, rfl⟩ (by decide) C0 (by decide) (y_fr_rf (lo := 0) (hi := 138)) (by omega) (by omega) (fun S4 e4 C4 F4 => ?_)
  refine x_aload rfl ?_
  refine x_getR (r := 4) rfl (by decide) (by decide) rfl ?_
  refine x_iload rfl ?_
  refine x_push 1 rfl ?_
  refine x_iadd ?_
  refine x_push 12 rfl ?_
  refine x_imul ?_
  refine x_aload rfl ?_
  refine x_getR (r := 4) rfl (by decide) (by decide) rfl ?_
  refine x_iload rfl ?_
  refine x_push 12 rfl ?_
  refine x_imul ?_
  refine x_aload rfl ?_
  refine x_getIG y_f4_6 C4 ?_
  intro g5a g5b
  have w5 := x_up_at e4
  refine x_iload rfl ?_
  refine x_isub ?_
  refine x_push 12 rfl ?_
  refine x_imul ?_
  have w9 := x_up_at e4
  refine x_copyG y_a9 y_a9 (by decide) (by decide) C4 (by decide) F4 (by omega) (by omega) (by omega) (by omega) (by omega) (Nat.le_of_ble_eq_true rfl) (fun S6 e6 C6 F6 => ?_)
  refine x_fall ?_
  refine x_blk (b := 1) (a_102 E) rfl ?_
  unfold b_102_1
  refine x_vret ?_
  refine k _ C6 (fun c m h1 h2 => ?_) ?_ (fun m => ?_)
  · rw [x_cp_nr e6 h1, x_up_ne e4 h2]
  · rw [x_cp_nr e6 (by decide)]; exact x_up_at e4
  · have q9 : ∀ k, S4 9 k = σ 9 k := fun k => x_up_nr e4 (by decide)
    rw [x_cp_e e6, q9, q9]
    by_cases c : 12 * a1.toNat ≤ m ∧ (m : Int) < 12 * (σ 4 6 - 1)
    · rw [if_pos c, if_pos ⟨rfl, by omega, by omega⟩]
      congr 1
      omega
    · rw [if_neg c, if_neg (fun z => c (by omega))]
theorem kx_103_4_137 {E : q_E} {σ : x_S} {Q : Option q_V → x_S → Prop} {a1 a2 : Int} (a1l : 0 ≤ a1) (a1h : a1 < σ 4 6) (a2l : 0 ≤ a2) (a2h : a2 < σ 4 6) (C0 : y_CI σ) (k : ∀ τ, y_CI τ → (∀ c m, c ≠ 9 → c ≠ 137 → τ c m = σ c m) → (∀ R c : Nat, R < 16 → c < 12 → τ 9 (12 * R + c) = σ 9 (12 * y_src a1.toNat a2.toNat R + c)) → Q none τ) : x_P E 103 [x_R 4, x_I a1, x_I a2, x_R 137] σ Q := by
  have c6 : 0 ≤ σ 4 6 ∧ σ 4 6 ≤ 16 := C0 4 6 (by decide) (by decide) (by decide)
  refine x_Mt e_103 (h_103 E) (Nat.le_of_ble_eq_true rfl) t_103 rfl ?_
  refine x_blk (b := 0) (a_103 E) rfl ?_
  unfold b_103_0
  refine x_aload rfl ?_
  refine x_iload rfl ?_
  refine x_cV (fun _ => rfl) rfl (by decide) (Nat.le_of_ble_eq_true rfl) ?_
  refine kx_60_4 (by omega) (by omega) C0 (fun y1 => ?_) (fun y1 => absurd (by omega) y1)
  refine x_if_eq (by omega) (by omega) (fun z => absurd z (by omega)) (fun z2 => ?_)
  refine x_aload rfl ?_
  refine x_iload rfl ?_
  refine x_cV (fun _ => rfl) rfl (by decide) (Nat.le_of_ble_eq_true rfl) ?_
  refine kx_60_4 (by omega) (by omega) C0 (fun y3 => ?_) (fun y3 => absurd (by omega) y3)
  refine x_if_eq (by omega) (by omega) (fun z => absurd z (by omega)) (fun z4 => ?_)
  refine x_aload rfl ?_
  refine x_lenG (n := 12) (L := 12) rfl (by decide) rfl (by decide) rfl ?_
  refine x_push 12 rfl ?_
  refine x_icmp_ge (by omega) (by omega) (by omega) (by omega) (fun z => absurd z (by omega)) (fun z5 => ?_)
  refine x_blk (b := 2) (a_103 E) rfl ?_
  unfold b_103_2
  refine x_aload rfl ?_
  refine x_getR (r := 4) rfl (by decide) (by decide) rfl ?_
  refine x_iload rfl ?_
  refine x_push 12 rfl ?_
  refine x_imul ?_
  refine x_aload rfl ?_
  refine x_push 0 rfl ?_
  refine x_push 12 rfl ?_
  refine x_copyG y_a9 y_a137 (by decide) (by decide) C0 (by decide) (y_fr_rf (lo := 0) (hi := 138)) (by omega) (by omega) (by omega) (by omega) (by omega) (Nat.le_of_ble_eq_true rfl) (fun S6 e6 C6 F6 => ?_)
  refine x_iload rfl ?_
  refine x_iload rfl ?_
  refine x_icmp_ge (by omega) (by omega) (by omega) (by omega) (fun z7 => ?_) (fun z7 => ?_)
  · skip
    refine x_aload rfl ?_
    refine x_getR (r := 4) rfl (by decide) (by decide) rfl ?_
    refine x_iload rfl ?_
    refine x_push 1 rfl ?_
    refine x_iadd ?_
    refine x_push 12 rfl ?_
    refine x_imul ?_
    refine x_aload rfl ?_
    refine x_getR (r := 4) rfl (by decide) (by decide) rfl ?_
    refine x_iload rfl ?_
    refine x_push 12 rfl ?_
    refine x_imul ?_
    refine x_iload rfl ?_
    refine x_iload rfl ?_
    refine x_isub ?_
    refine x_push 12 rfl ?_
    refine x_imul ?_
    refine x_copyG y_a9 y_a9 (by decide) (by decide) C6 (by decide) F6 (by omega) (by omega) (by omega) (by omega) (by omega) (Nat.le_of_ble_eq_true rfl) (fun S8 e8 C8 F8 => ?_)
    refine x_goto ?_
    refine x_blk (b := 4) (a_103 E) rfl ?_
    unfold b_103_4
    refine x_aload rfl ?_
    refine x_push 0 rfl ?_
    refine x_aload rfl ?_
    refine x_getR (r := 4) rfl (by decide) (by decide) rfl ?_
    refine x_iload rfl ?_
    refine x_push 12 rfl ?_
    refine x_imul ?_
    refine x_push 12 rfl ?_
    refine x_copyG y_a137 y_a9 (by decide) (by decide) C8 (by decide) F8 (by omega) (by omega) (by omega) (by omega) (by omega) (Nat.le_of_ble_eq_true rfl) (fun S9 e9 C9 F9 => ?_)
    refine x_vret ?_
    refine k _ C9 (fun c m h1 h2 => ?_) (fun R c hR hc => ?_)
    · rw [x_cp_nr e9 h1, x_cp_nr e8 h1, x_cp_nr e6 h2]
    · unfold y_src
      rw [x_cp_e e9]
      by_cases c1 : R = a2.toNat
      · rw [if_pos ⟨rfl, by omega, by omega⟩, if_pos c1, x_cp_nr e8 (by decide), x_cp_e e6, if_pos ⟨rfl, by omega, by omega⟩]
        congr 1
        omega
      · rw [if_neg (by omega), if_neg c1, x_cp_e e8]
        by_cases c2 : a1.toNat ≤ R ∧ R < a2.toNat
        · rw [if_pos ⟨rfl, by omega, by omega⟩, if_pos c2, x_cp_nr e6 (by decide)]
          congr 1
          omega
        · rw [if_neg (by omega), if_neg c2, if_neg (by omega), x_cp_nr e6 (by decide)]
  · skip
    refine x_blk (b := 3) (a_103 E) rfl ?_
    unfold b_103_3
    refine x_aload rfl ?_
    refine x_getR (r := 4) rfl (by decide) (by decide) rfl ?_
    refine x_iload rfl ?_
    refine x_push 12 rfl ?_
    refine x_imul ?_
    refine x_aload rfl ?_
    refine x_getR (r := 4) rfl (by decide) (by decide) rfl ?_
    refine x_iload rfl ?_
    refine x_push 1 rfl ?_
    refine x_iadd ?_
    refine x_push 12 rfl ?_
    refine x_imul ?_
    refine x_iload rfl ?_
    refine x_iload rfl ?_
    refine x_isub ?_
    refine x_push 12 rfl ?_
    refine x_imul ?_
    refine x_copyG y_a9 y_a9 (by decide) (by decide) C6 (by decide) F6 (by omega) (by omega) (by omega) (by omega) (by omega) (Nat.le_of_ble_eq_true rfl) (fun S10 e10 C10 F10 => ?_)
    refine x_fall ?_
    refine x_blk (b := 4) (a_103 E) rfl ?_
    unfold b_103_4
    refine x_aload rfl ?_
    refine x_push 0 rfl ?_
    refine x_aload rfl ?_
    refine x_getR (r := 4) rfl (by decide) (by decide) rfl ?_
    refine x_iload rfl ?_
    refine x_push 12 rfl ?_
    refine x_imul ?_
    refine x_push 12 rfl ?_
    refine x_copyG y_a137 y_a9 (by decide) (by decide) C10 (by decide) F10 (by omega) (by omega) (by omega) (by omega) (by omega) (Nat.le_of_ble_eq_true rfl) (fun S11 e11 C11 F11 => ?_)
    refine x_vret ?_
    refine k _ C11 (fun c m h1 h2 => ?_) (fun R c hR hc => ?_)
    · rw [x_cp_nr e11 h1, x_cp_nr e10 h1, x_cp_nr e6 h2]
    · unfold y_src
      rw [x_cp_e e11]
      by_cases c1 : R = a2.toNat
      · rw [if_pos ⟨rfl, by omega, by omega⟩, if_pos c1, x_cp_nr e10 (by decide), x_cp_e e6, if_pos ⟨rfl, by omega, by omega⟩]
        congr 1
        omega
      · rw [if_neg (by omega), if_neg c1, x_cp_e e10]
        by_cases c2 : a2.toNat < R ∧ R ≤ a1.toNat
        · rw [if_pos ⟨rfl, by omega, by omega⟩, if_neg (by omega), if_pos c2, x_cp_nr e6 (by decide)]
          congr 1
          omega
        · rw [if_neg (by omega), if_neg (by omega), if_neg c2, x_cp_nr e6 (by decide)]
theorem kx_135_4 {E : q_E} {σ : x_S} {Q : Option q_V → x_S → Prop} {a1 a2 a3 : Int} (a1l : 0 ≤ a1) (a1h : a1 ≤ 2) (a2l : 0 ≤ a2) (a2h : a2 < σ 6 a1.toNat) (a3l : 0 ≤ a3) (a3h : a3 ≤ 4) (C0 : y_CI σ) (k : ∀ τ, y_CI τ → (∀ c m, ¬ (c = 5 ∧ m = 11 * a1.toNat + a2.toNat) → τ c m = σ c m) → τ 5 (11 * a1.toNat + a2.toNat) = a3 → Q none τ) : x_P E 135 [x_R 4, x_I a1, x_I a2, x_I a3] σ Q := by
  have h6 : σ 6 a1.toNat ≤ 11 := (C0 6 a1.toNat (by decide) (by decide) (by show _ < 3; omega)).2
  refine x_Mt e_135 (h_135 E) (Nat.le_of_ble_eq_true rfl) t_135 rfl ?_
  refine x_blk (b := 0) (a_135 E) rfl ?_
  unfold b_135_0
  refine x_aload rfl ?_
  refine x_iload rfl ?_
  refine x_iload rfl ?_
  refine x_cV (fun _ => rfl) rfl (by decide) (Nat.le_of_ble_eq_true rfl) ?_
  refine kx_44_4 (by omega) (by omega) (by omega) (by omega) C0 (fun y1 => ?_) (fun y1 => absurd (by omega) y1)
  refine x_if_eq (by omega) (by omega) (fun z => absurd z (by omega)) (fun z2 => ?_)
  refine x_aload rfl ?_
  refine x_getR (r := 4) rfl (by decide) (by decide) rfl ?_
  refine x_iload rfl ?_
  refine x_push 11 rfl ?_
  refine x_imul ?_
  refine x_iload rfl ?_
  refine x_iadd ?_
  refine x_iload rfl ?_
  refine x_astG y_a5 C0 (by decide) (y_fr_rf (lo := 0) (hi := 138)) (by omega) (by omega) (by omega) (by omega) (fun S3 e3 C3 F3 => ?_)
  refine x_fall ?_
  refine x_blk (b := 1) (a_135 E) rfl ?_
  unfold b_135_1
  refine x_vret ?_
  have em : (a1 * 11 + a2).toNat = 11 * a1.toNat + a2.toNat := by omega
  rw [em] at e3
  exact k _ C3 (fun c m hc => x_up_ne e3 hc) (x_up_at e3)
theorem kx_101_1_137 {E : q_E} {σ : x_S} {Q : Option q_V → x_S → Prop} (C0 : y_CI σ) (kS : ∀ l e, y_iR (y_cx σ) 0 = some (l, e) → ¬ e < σ 1 2 → ∀ τ, y_CI τ → y_sr 137 σ τ → (∀ c, c < 5 + l.length → τ 137 c = y_rr (y_cx σ) 0 l c) → Q (some (x_I (-4))) τ) (kF : (∀ l e, y_iR (y_cx σ) 0 = some (l, e) → e < σ 1 2) → ∀ τ v, y_CI τ → y_sr 137 σ τ → 0 ≤ v → v ≤ 200 → Q (some (x_I v)) τ) : x_P E 101 [x_R 1, x_R 137] σ Q := by
  refine x_Mt e_101 (h_101 E) (Nat.le_of_ble_eq_true rfl) t_101 rfl ?_
  refine x_blk (b := 0) (a_101 E) rfl ?_
  unfold b_101_0
  refine x_aload rfl ?_
  refine x_cV (fun _ => rfl) rfl (by decide) (Nat.le_of_ble_eq_true rfl) ?_
  refine ke_49_1 C0 (fun S1 C1 f1 p1 q1 => ?_)
  have X1 : y_cx S1 = y_cx σ := funext (y_sc_x f1)
  refine x_aload rfl ?_
  refine x_aload rfl ?_
  refine x_cV (fun _ => rfl) rfl (by decide) (Nat.le_of_ble_eq_true rfl) ?_
  refine ke_19_1_137 q1 C1 (fun l2 e2 h2 S2 C2 f2 p2 q2 w2 => ?_) (fun h2 S2 C2 f2 q2 => ?_)
  · rw [X1, p1] at h2 w2
    refine x_aload rfl ?_
    refine x_getIG y_f1_4 C2 ?_
    intro g3a g3b
    refine x_if_ne (by omega) (by omega) (fun z4 => ?_) (fun z => absurd (by omega) z)
    refine x_aload rfl ?_
    refine x_getIG y_f1_3 C2 ?_
    intro g5a g5b
    refine x_aload rfl ?_
    refine x_getIG y_f1_2 C2 ?_
    intro g6a g6b
    refine x_icmp_ge (by omega) (by omega) (by omega) (by omega) (fun z7 => ?_) (fun z7 => ?_)
    · skip
      refine x_fall ?_
      refine x_blk (b := 1) (a_101 E) rfl ?_
      unfold b_101_1
      refine x_aload rfl ?_
      refine x_getIG y_f1_3 C2 ?_
      intro g8a g8b
      refine x_goto ?_
      refine x_blk (b := 3) (a_101 E) rfl ?_
      unfold b_101_3
      refine x_iret ?_
      have z2 : S2 1 2 = σ 1 2 := (f2 1 2 (by decide) (by decide)).trans (f1 1 2 (by decide))
      refine kF (fun l e z => ?_) _ _ C2 (fun q m h1 h2 => (f2 q m h1 h2).trans (f1 q m h2)) (by omega) (by omega)
      rw [h2] at z
      have z3 : e2 = e := congrArg Prod.snd (Option.some.inj z)
      omega
    · skip
      refine x_blk (b := 2) (a_101 E) rfl ?_
      unfold b_101_2
      refine x_push (-4) rfl ?_
      refine x_fall ?_
      refine x_blk (b := 3) (a_101 E) rfl ?_
      unfold b_101_3
      refine x_iret ?_
      have z2 : S2 1 2 = σ 1 2 := (f2 1 2 (by decide) (by decide)).trans (f1 1 2 (by decide))
      exact kS _ _ h2 (by omega) _ C2 (fun q m h1 h2 => (f2 q m h1 h2).trans (f1 q m h2)) w2
  · rw [X1, p1] at h2
    refine x_aload rfl ?_
    refine x_getIG y_f1_4 C2 ?_
    intro g9a g9b
    refine x_if_ne (by omega) (by omega) (fun z => absurd z (by omega)) (fun z10 => ?_)
    refine x_blk (b := 1) (a_101 E) rfl ?_
    unfold b_101_1
    refine x_aload rfl ?_
    refine x_getIG y_f1_3 C2 ?_
    intro g11a g11b
    refine x_goto ?_
    refine x_blk (b := 3) (a_101 E) rfl ?_
    unfold b_101_3
    refine x_iret ?_
    exact kF (fun l e z => by rw [h2] at z; cases z) _ _ C2 (fun q m h1 h2 => (f2 q m h1 h2).trans (f1 q m h2)) (by omega) (by omega)
theorem kx_132_0 {E : q_E} {σ : x_S} {Q : Option q_V → x_S → Prop} {a1 : Int} (a1l : -2147483648 ≤ a1) (a1h : a1 ≤ 2147483647) (C0 : y_CI σ) {A : Nat → Int} (hP : y_PI A) (h4 : y_PG σ 4 A) {n : Nat} {B : Nat → Nat → Int} (hn : n ≤ 8) (hB : ∀ i, i < n → y_PI (B i)) (hS : y_SF σ n B) (kB : ¬ (0 ≤ a1 ∧ a1 < A 62) → Q (some (x_I (-1))) σ) (kS : (0 ≤ a1 ∧ a1 < A 62) → ∀ τ, y_CI τ → y_fA σ τ → y_PG τ 4 (y_cut A a1.toNat) → y_SF τ (y_pn n) (y_psh n B A) → (τ 111 14 = 0 ∧ τ 124 14 = 0) → Q (some (x_I (A 62 - 1))) τ) : x_P E 132 [x_R 0, x_I a1] σ Q := by
  have h62 := hP.2.2.2.1
  have n4 := y_PG_n h4.1
  refine x_Mt e_132 (h_132 E) (Nat.le_of_ble_eq_true rfl) t_132 rfl ?_
  refine x_blk (b := 0) (a_132 E) rfl ?_
  unfold b_132_0
  refine x_aload rfl ?_
  refine x_getR (r := 0) rfl (by decide) (by decide) rfl ?_
  refine x_iload rfl ?_
  refine x_cV (fun _ => rfl) rfl (by decide) (Nat.le_of_ble_eq_true rfl) ?_
  refine kx_60_4 (by omega) (by omega) C0 (fun y1 => ?_) (fun y1 => ?_)
  · skip
    refine x_if_ne (by omega) (by omega) (fun z => absurd z (by omega)) (fun z2 => ?_)
    refine x_blk (b := 1) (a_132 E) rfl ?_
    unfold b_132_1
    refine x_aload rfl ?_
    refine x_getR (r := 0) rfl (by decide) (by decide) rfl ?_
    refine x_aload rfl ?_
    refine x_getR (r := 0) rfl (by decide) (by decide) rfl ?_
    refine x_cV (fun _ => rfl) rfl (by decide) (Nat.le_of_ble_eq_true rfl) ?_
    refine kx_75_18_4 C0 (fun S3 C3 ax3 ha3 hp3 f3 w3 hh3 => ?_)
    have hS3 := y_SF_put C0 hP h4 hn hB hS ha3 hp3 f3 w3 hh3 C3
    have h43 : y_PG S3 4 A := y_PG_fr hP (fun c m h1 h2 => f3 c m (by omega)) h4
    have fA3 : y_fA σ S3 := fun c m hc => (f3 c m (by omega)).trans ((y_fA_rf (σ := σ)) c m hc)
    have hB3 := y_psh_P hn hP hB
    have n63 := y_PG_n h43.1
    refine x_aload rfl ?_
    refine x_getR (r := 0) rfl (by decide) (by decide) rfl ?_
    refine x_iload rfl ?_
    refine x_cV (fun _ => rfl) rfl (by decide) (Nat.le_of_ble_eq_true rfl) ?_
    refine kx_102_4 (by omega) (by omega) C3 (fun S4 C4 f4 m4 w4 => ?_)
    have g4 : y_AG (y_cv S4 4) (y_cut A a1.toNat) := y_AGcut hP h43.1 (by omega) (fun c k h1 h2 => f4 c k (by omega) (by omega)) m4 w4
    have hS4 := y_SF_fr hB3 (fun c k h1 h2 => f4 c k (by omega) (by omega)) hS3
    have fA4 : y_fA σ S4 := fun c k hc => (f4 c k (by omega) (by omega)).trans (fA3 c k hc)
    refine x_aload rfl ?_
    refine x_cV (fun _ => rfl) rfl (by decide) (Nat.le_of_ble_eq_true rfl) ?_
    refine kx_89_0 C4 (y_PI_ct hP (by omega)) g4 (fun S5 C5 f5 w5 za5 zb5 => ?_)
    have hS5 := y_SF_fr hB3 (fun c k h1 h2 => f5 c k (by omega) (by omega) (by omega)) hS4
    have fA5 : y_fA σ S5 := fun c k hc => (f5 c k (by omega) (by omega) (by omega)).trans (fA4 c k hc)
    have n65 := y_PG_n w5.1
    refine x_aload rfl ?_
    refine x_getR (r := 0) rfl (by decide) (by decide) rfl ?_
    refine x_getIG y_f4_6 C5 ?_
    intro g6a g6b
    refine x_iret ?_
    rw [y_cut_n] at n65
    refine x_fin (b := A 62 - 1) n65 ?_
    exact kS ⟨by omega, by omega⟩ _ C5 fA5 w5 hS5 ⟨za5, zb5⟩
  · skip
    refine x_if_ne (by omega) (by omega) (fun z7 => ?_) (fun z => absurd (by omega) z)
    refine x_push (-1) rfl ?_
    refine x_iret ?_
    exact kB (by omega)
theorem kx_133_0 {E : q_E} {σ : x_S} {Q : Option q_V → x_S → Prop} {a1 a2 : Int} (a1l : -2147483648 ≤ a1) (a1h : a1 ≤ 2147483647) (a2l : -2147483648 ≤ a2) (a2h : a2 ≤ 2147483647) (C0 : y_CI σ) {A : Nat → Int} (hP : y_PI A) (h4 : y_PG σ 4 A) {n : Nat} {B : Nat → Nat → Int} (hn : n ≤ 8) (hB : ∀ i, i < n → y_PI (B i)) (hS : y_SF σ n B) (kB : ¬ (0 ≤ a1 ∧ a1 < A 62 ∧ 0 ≤ a2 ∧ a2 < A 62) → Q (some (x_I (-1))) σ) (kN : (0 ≤ a1 ∧ a1 < A 62 ∧ 0 ≤ a2 ∧ a2 < A 62) → a1 = a2 → Q (some (x_I (-2))) σ) (kS : (0 ≤ a1 ∧ a1 < A 62 ∧ 0 ≤ a2 ∧ a2 < A 62 ∧ a1 ≠ a2) → ∀ τ, y_CI τ → y_fA σ τ → y_PG τ 4 (y_shf A a1.toNat a2.toNat) → y_SF τ (y_pn n) (y_psh n B A) → (τ 111 14 = 0 ∧ τ 124 14 = 0) → Q (some (x_I (if a1 < a2 then a2 - a1 else a1 - a2))) τ) : x_P E 133 [x_R 0, x_I a1, x_I a2] σ Q := by
  have h62 := hP.2.2.2.1
  have n4 := y_PG_n h4.1
  refine x_Mt e_133 (h_133 E) (Nat.le_of_ble_eq_true rfl) t_133 rfl ?_
  refine x_blk (b := 0) (a_133 E) rfl ?_
  unfold b_133_0
  refine x_aload rfl ?_
  refine x_getR (r := 0) rfl (by decide) (by decide) rfl ?_
  refine x_iload rfl ?_
  refine x_cV (fun _ => rfl) rfl (by decide) (Nat.le_of_ble_eq_true rfl) ?_
  refine kx_60_4 (by omega) (by omega) C0 (fun y1 => ?_) (fun y1 => ?_)
  · skip
    refine x_if_eq (by omega) (by omega) (fun z => absurd z (by omega)) (fun z2 => ?_)
    refine x_aload rfl ?_
    refine x_getR (r := 0) rfl (by decide) (by decide) rfl ?_
    refine x_iload rfl ?_
    refine x_cV (fun _ => rfl) rfl (by decide) (Nat.le_of_ble_eq_true rfl) ?_
    refine kx_60_4 (by omega) (by omega) C0 (fun y3 => ?_) (fun y3 => ?_)
    · skip
      refine x_if_ne (by omega) (by omega) (fun z => absurd z (by omega)) (fun z4 => ?_)
      refine x_blk (b := 2) (a_133 E) rfl ?_
      unfold b_133_2
      refine x_iload rfl ?_
      refine x_iload rfl ?_
      refine x_icmp_ne (by omega) (by omega) (by omega) (by omega) (fun z5 => ?_) (fun z5 => ?_)
      · skip
        refine x_push (-2) rfl ?_
        refine x_iret ?_
        exact kN (by omega) (by omega)
      · skip
        refine x_blk (b := 3) (a_133 E) rfl ?_
        unfold b_133_3
        refine x_aload rfl ?_
        refine x_getR (r := 0) rfl (by decide) (by decide) rfl ?_
        refine x_aload rfl ?_
        refine x_getR (r := 0) rfl (by decide) (by decide) rfl ?_
        refine x_cV (fun _ => rfl) rfl (by decide) (Nat.le_of_ble_eq_true rfl) ?_
        refine kx_75_18_4 C0 (fun S6 C6 ax6 ha6 hp6 f6 w6 hh6 => ?_)
        have hS6 := y_SF_put C0 hP h4 hn hB hS ha6 hp6 f6 w6 hh6 C6
        have h46 : y_PG S6 4 A := y_PG_fr hP (fun c m h1 h2 => f6 c m (by omega)) h4
        have fA6 : y_fA σ S6 := fun c m hc => (f6 c m (by omega)).trans ((y_fA_rf (σ := σ)) c m hc)
        have hB6 := y_psh_P hn hP hB
        have n66 := y_PG_n h46.1
        refine x_aload rfl ?_
        refine x_getR (r := 0) rfl (by decide) (by decide) rfl ?_
        refine x_iload rfl ?_
        refine x_iload rfl ?_
        refine x_aload rfl ?_
        refine x_getR (r := 0) rfl (by decide) (by decide) rfl ?_
        refine x_cV (fun _ => rfl) rfl (by decide) (Nat.le_of_ble_eq_true rfl) ?_
        refine kx_103_4_137 (by omega) (by omega) (by omega) (by omega) C6 (fun S7 C7 f7 w7 => ?_)
        have g7 : y_AG (y_cv S7 4) (y_shf A a1.toNat a2.toNat) := y_AGshf hP h46.1 (by omega) (by omega) (fun c k h1 h2 => f7 c k (by omega) (by omega)) (fun R c h1 h2 => w7 R c (by omega) h2)
        have hS7 := y_SF_fr hB6 (fun c k h1 h2 => f7 c k (by omega) (by omega)) hS6
        have fA7 : y_fA σ S7 := fun c k hc => (f7 c k (by omega) (by omega)).trans (fA6 c k hc)
        refine x_aload rfl ?_
        refine x_cV (fun _ => rfl) rfl (by decide) (Nat.le_of_ble_eq_true rfl) ?_
        refine kx_89_0 C7 (y_PI_sh hP (by omega) (by omega)) g7 (fun S8 C8 f8 w8 za8 zb8 => ?_)
        have hS8 := y_SF_fr hB6 (fun c k h1 h2 => f8 c k (by omega) (by omega) (by omega)) hS7
        have fA8 : y_fA σ S8 := fun c k hc => (f8 c k (by omega) (by omega) (by omega)).trans (fA7 c k hc)
        have n68 := y_PG_n w8.1
        refine x_iload rfl ?_
        refine x_iload rfl ?_
        refine x_isub ?_
        refine x_abs (by omega) (by omega) (Nat.le_of_ble_eq_true rfl) (fun v9 v9a v9b => ?_)
        refine x_iret ?_
        refine x_fin (b := if a1 < a2 then a2 - a1 else a1 - a2) (by split <;> omega) ?_
        exact kS ⟨by omega, by omega, by omega, by omega, by omega⟩ _ C8 fA8 w8 hS8 ⟨za8, zb8⟩
    · skip
      refine x_if_ne (by omega) (by omega) (fun z10 => ?_) (fun z => absurd (by omega) z)
      refine x_fall ?_
      refine x_blk (b := 1) (a_133 E) rfl ?_
      unfold b_133_1
      refine x_push (-1) rfl ?_
      refine x_iret ?_
      exact kB (by omega)
  · skip
    refine x_if_eq (by omega) (by omega) (fun z11 => ?_) (fun z => absurd (by omega) z)
    refine x_blk (b := 1) (a_133 E) rfl ?_
    unfold b_133_1
    refine x_push (-1) rfl ?_
    refine x_iret ?_
    exact kB (by omega)
theorem kx_134_0 {E : q_E} {σ : x_S} {Q : Option q_V → x_S → Prop} {a1 a2 a3 : Int} (a1l : -2147483648 ≤ a1) (a1h : a1 ≤ 2147483647) (a2l : -2147483648 ≤ a2) (a2h : a2 ≤ 2147483647) (a3l : -2147483648 ≤ a3) (a3h : a3 ≤ 2147483647) (C0 : y_CI σ) {A : Nat → Int} (hP : y_PI A) (h4 : y_PG σ 4 A) {n : Nat} {B : Nat → Nat → Int} (hn : n ≤ 8) (hB : ∀ i, i < n → y_PI (B i)) (hS : y_SF σ n B) (kB : ¬ (0 ≤ a1 ∧ a1 ≤ 2 ∧ 0 ≤ a2 ∧ a2 < A (2 + a1.toNat) ∧ 0 ≤ a3 ∧ a3 ≤ 4 ∧ y_ch (A (5 + 11 * a1.toNat + a2.toNat)) = y_ch a3) → Q (some (x_I (-1))) σ) (kN : (0 ≤ a1 ∧ a1 ≤ 2 ∧ 0 ≤ a2 ∧ a2 < A (2 + a1.toNat) ∧ 0 ≤ a3 ∧ a3 ≤ 4 ∧ y_ch (A (5 + 11 * a1.toNat + a2.toNat)) = y_ch a3) → A (5 + 11 * a1.toNat + a2.toNat) = a3 → Q (some (x_I (-2))) σ) (kS : ((0 ≤ a1 ∧ a1 ≤ 2 ∧ 0 ≤ a2 ∧ a2 < A (2 + a1.toNat) ∧ 0 ≤ a3 ∧ a3 ≤ 4 ∧ y_ch (A (5 + 11 * a1.toNat + a2.toNat)) = y_ch a3) ∧ A (5 + 11 * a1.toNat + a2.toNat) ≠ a3) → ∀ τ, y_CI τ → y_fA σ τ → y_PG τ 4 (y_wK A (5 + 11 * a1.toNat + a2.toNat) a3) → y_SF τ (y_pn n) (y_psh n B A) → (∀ c m, 92 ≤ c → c < 137 → τ c m = σ c m) → Q (some (x_I (A (5 + 11 * a1.toNat + a2.toNat)))) τ) : x_P E 134 [x_R 0, x_I a1, x_I a2, x_I a3] σ Q := by
  have h62 := hP.2.2.2.1
  have n4 := y_PG_n h4.1
  refine x_Mt e_134 (h_134 E) (Nat.le_of_ble_eq_true rfl) t_134 rfl ?_
  refine x_blk (b := 0) (a_134 E) rfl ?_
  unfold b_134_0
  refine x_aload rfl ?_
  refine x_getR (r := 0) rfl (by decide) (by decide) rfl ?_
  refine x_iload rfl ?_
  refine x_iload rfl ?_
  refine x_cV (fun _ => rfl) rfl (by decide) (Nat.le_of_ble_eq_true rfl) ?_
  refine kx_44_4 (by omega) (by omega) (by omega) (by omega) C0 (fun y1 => ?_) (fun y1 => ?_)
  · skip
    refine x_if_eq (by omega) (by omega) (fun z => absurd z (by omega)) (fun z2 => ?_)
    refine x_iload rfl ?_
    refine x_push 5 rfl ?_
    refine x_cS (fun _ => rfl) (Nat.le_of_ble_eq_true rfl) ?_
    refine sf_2 (by omega) (by omega) (by omega) (by omega) C0 (fun y3 => ?_) (fun y3 => ?_)
    · skip
      refine x_if_ne (by omega) (by omega) (fun z => absurd z (by omega)) (fun z4 => ?_)
      refine x_blk (b := 2) (a_134 E) rfl ?_
      unfold b_134_2
      refine x_aload rfl ?_
      refine x_getR (r := 0) rfl (by decide) (by decide) rfl ?_
      refine x_iload rfl ?_
      refine x_iload rfl ?_
      refine x_cV (fun _ => rfl) rfl (by decide) (Nat.le_of_ble_eq_true rfl) ?_
      refine kx_47_4 (by omega) (by omega) (by omega) (by omega) C0 (fun v5 v5a v5b v5c => ?_)
      have sz := y_PG_s h4.1 (t := a1.toNat) (by omega)
      have pz := y_PI_sz hP (t := a1.toNat) (by omega)
      have sz : σ 6 a1.toNat = A (2 + a1.toNat) := sz
      have lw := y_PG_l hP h4.1 (t := a1.toNat) (v := a2.toNat) (by omega) (by omega)
      have lw : σ 5 (11 * a1.toNat + a2.toNat) = A (5 + 11 * a1.toNat + a2.toNat) := lw
      rw [show 11 * a1.toNat + a2.toNat = (a1 * 11 + a2).toNat by omega] at lw
      have lt := (hP.2.1 a1.toNat (by omega)).2.1 a2.toNat (by omega)
      have lt : 0 ≤ A (5 + 11 * a1.toNat + a2.toNat) ∧ A (5 + 11 * a1.toNat + a2.toNat) ≤ 4 := ⟨lt.1, lt.2.1⟩
      have ve : v5 = A (5 + 11 * a1.toNat + a2.toNat) := by omega
      refine x_istore ?_
      refine x_iload rfl ?_
      refine x_cS (fun _ => rfl) (Nat.le_of_ble_eq_true rfl) ?_
      refine ke_7 (by omega) (by omega) (fun v6 v6a v6b v6c => ?_)
      refine x_iload rfl ?_
      refine x_cS (fun _ => rfl) (Nat.le_of_ble_eq_true rfl) ?_
      refine ke_7 (by omega) (by omega) (fun v7 v7a v7b v7c => ?_)
      refine x_icmp_eq (by omega) (by omega) (by omega) (by omega) (fun z8 => ?_) (fun z8 => ?_)
      · skip
        refine x_blk (b := 3) (a_134 E) rfl ?_
        unfold b_134_3
        refine x_iload rfl ?_
        refine x_iload rfl ?_
        refine x_icmp_ne (by omega) (by omega) (by omega) (by omega) (fun z9 => ?_) (fun z9 => ?_)
        · skip
          refine x_push (-2) rfl ?_
          refine x_iret ?_
          have e1 := y_chx (A (5 + 11 * a1.toNat + a2.toNat))
          have e2 := y_chx a3
          exact kN ⟨by omega, by omega, by omega, by omega, by omega, by omega, by omega⟩ (by omega)
        · skip
          refine x_blk (b := 4) (a_134 E) rfl ?_
          unfold b_134_4
          refine x_aload rfl ?_
          refine x_getR (r := 0) rfl (by decide) (by decide) rfl ?_
          refine x_aload rfl ?_
          refine x_getR (r := 0) rfl (by decide) (by decide) rfl ?_
          refine x_cV (fun _ => rfl) rfl (by decide) (Nat.le_of_ble_eq_true rfl) ?_
          refine kx_75_18_4 C0 (fun S10 C10 ax10 ha10 hp10 f10 w10 hh10 => ?_)
          have hS10 := y_SF_put C0 hP h4 hn hB hS ha10 hp10 f10 w10 hh10 C10
          have h410 : y_PG S10 4 A := y_PG_fr hP (fun c m h1 h2 => f10 c m (by omega)) h4
          have fA10 : y_fA σ S10 := fun c m hc => (f10 c m (by omega)).trans ((y_fA_rf (σ := σ)) c m hc)
          have hB10 := y_psh_P hn hP hB
          have n610 := y_PG_n h410.1
          refine x_aload rfl ?_
          refine x_getR (r := 0) rfl (by decide) (by decide) rfl ?_
          refine x_iload rfl ?_
          refine x_iload rfl ?_
          refine x_iload rfl ?_
          refine x_cV (fun _ => rfl) rfl (by decide) (Nat.le_of_ble_eq_true rfl) ?_
          have s610 : S10 6 a1.toNat = σ 6 a1.toNat := f10 6 _ (by omega)
          refine kx_135_4 (by omega) (by omega) (by omega) (by rw [s610]; omega) (by omega) (by omega) C10 (fun S11 C11 f11 w11 => ?_)
          have g11 : y_AG (y_cv S11 4) (y_wK A (5 + 11 * a1.toNat + a2.toNat) a3) := y_AGlef hP h410.1 (by omega) (by omega) (fun c k _ _ h => f11 c k h) w11
          have hS11 := y_SF_fr hB10 (fun c k h1 h2 => f11 c k (by omega)) hS10
          have fA11 : y_fA σ S11 := fun c k hc => (f11 c k (by omega)).trans (fA10 c k hc)
          refine x_iload rfl ?_
          refine x_iret ?_
          have e1 := y_chx (A (5 + 11 * a1.toNat + a2.toNat))
          have e2 := y_chx a3
          refine x_fin ve ?_
          refine kS ⟨⟨by omega, by omega, by omega, by omega, by omega, by omega, by omega⟩, by omega⟩ _ C11 fA11 ⟨g11, y_CH_ex (fun m hm => y_wK_o (by omega)) (fun m hm => y_wK_o (by omega)) (y_CH_fr (fun m => f11 _ _ (by omega)) h410.2)⟩ hS11 (fun c m h1 h2 => ?_)
          rw [f11 c m (by omega), f10 c m (by omega)]
      · skip
        refine x_push (-1) rfl ?_
        refine x_iret ?_
        have e1 := y_chx (A (5 + 11 * a1.toNat + a2.toNat))
        have e2 := y_chx a3
        exact kB (fun z => by omega)
    · skip
      refine x_if_ne (by omega) (by omega) (fun z12 => ?_) (fun z => absurd (by omega) z)
      refine x_fall ?_
      refine x_blk (b := 1) (a_134 E) rfl ?_
      unfold b_134_1
      refine x_push (-1) rfl ?_
      refine x_iret ?_
      exact kB (fun z => by have sz := y_PG_s h4.1 (t := a1.toNat) (by omega); have sz : σ 6 a1.toNat = A (2 + a1.toNat) := sz; omega)
  · skip
    refine x_if_eq (by omega) (by omega) (fun z13 => ?_) (fun z => absurd (by omega) z)
    refine x_blk (b := 1) (a_134 E) rfl ?_
    unfold b_134_1
    refine x_push (-1) rfl ?_
    refine x_iret ?_
    exact kB (fun z => by have sz := y_PG_s h4.1 (t := a1.toNat) (by omega); have sz : σ 6 a1.toNat = A (2 + a1.toNat) := sz; omega)
theorem kx_136_0 {E : q_E} {σ : x_S} {Q : Option q_V → x_S → Prop} {a1 a2 a3 : Int} (a1l : -2147483648 ≤ a1) (a1h : a1 ≤ 2147483647) (a2l : -2147483648 ≤ a2) (a2h : a2 ≤ 2147483647) (a3l : -2147483648 ≤ a3) (a3h : a3 ≤ 2147483647) (C0 : y_CI σ) {A : Nat → Int} (hP : y_PI A) (h4 : y_PG σ 4 A) {n : Nat} {B : Nat → Nat → Int} (hn : n ≤ 8) (hB : ∀ i, i < n → y_PI (B i)) (hS : y_SF σ n B) (kB : ¬ (0 ≤ a1 ∧ a1 ≤ 1 ∧ 0 ≤ a2 ∧ a2 ≤ 4 ∧ 0 ≤ a3 ∧ a3 < y_pw (y_ch a2)) → Q (some (x_I (-1))) σ) (kS : (0 ≤ a1 ∧ a1 ≤ 1 ∧ 0 ≤ a2 ∧ a2 ≤ 4 ∧ 0 ≤ a3 ∧ a3 < y_pw (y_ch a2)) → ∀ τ, y_CI τ → y_fA σ τ → y_PG τ 4 (y_wK A (y_tab a1 a2 a3).toNat (1 - A (y_tab a1 a2 a3).toNat)) → y_SF τ (y_pn n) (y_psh n B A) → (τ 111 14 = 0 ∧ τ 124 14 = 0) → Q (some (x_I (1 - A (y_tab a1 a2 a3).toNat))) τ) : x_P E 136 [x_R 0, x_I a1, x_I a2, x_I a3] σ Q := by
  have hpw := y_pw_b (y_ch a2)
  refine x_Mt e_136 (h_136 E) (Nat.le_of_ble_eq_true rfl) t_136 rfl ?_
  refine x_blk (b := 0) (a_136 E) rfl ?_
  unfold b_136_0
  refine x_iload rfl ?_
  refine x_iload rfl ?_
  refine x_iload rfl ?_
  refine x_cS (fun _ => rfl) (Nat.le_of_ble_eq_true rfl) ?_
  refine ke_23 (by omega) (by omega) (by omega) (by omega) (by omega) (by omega) C0 (fun y1 => ?_) (fun y1 => ?_)
  · skip
    refine x_if_ne (by omega) (by omega) (fun z => absurd z (by omega)) (fun z2 => ?_)
    refine x_blk (b := 1) (a_136 E) rfl ?_
    unfold b_136_1
    refine x_aload rfl ?_
    refine x_getR (r := 0) rfl (by decide) (by decide) rfl ?_
    refine x_aload rfl ?_
    refine x_getR (r := 0) rfl (by decide) (by decide) rfl ?_
    refine x_cV (fun _ => rfl) rfl (by decide) (Nat.le_of_ble_eq_true rfl) ?_
    refine kx_75_18_4 C0 (fun S3 C3 ax3 ha3 hp3 f3 w3 hh3 => ?_)
    have hS3 := y_SF_put C0 hP h4 hn hB hS ha3 hp3 f3 w3 hh3 C3
    have h43 : y_PG S3 4 A := y_PG_fr hP (fun c m h1 h2 => f3 c m (by omega)) h4
    have fA3 : y_fA σ S3 := fun c m hc => (f3 c m (by omega)).trans ((y_fA_rf (σ := σ)) c m hc)
    have hB3 := y_psh_P hn hP hB
    have n63 := y_PG_n h43.1
    refine x_aload rfl ?_
    refine x_getR (r := 0) rfl (by decide) (by decide) rfl ?_
    refine x_iload rfl ?_
    refine x_iload rfl ?_
    refine x_iload rfl ?_
    refine x_push 1 rfl ?_
    refine x_aload rfl ?_
    refine x_getR (r := 0) rfl (by decide) (by decide) rfl ?_
    refine x_iload rfl ?_
    refine x_iload rfl ?_
    refine x_iload rfl ?_
    refine x_cV (fun _ => rfl) rfl (by decide) (Nat.le_of_ble_eq_true rfl) ?_
    refine kx_30_4 (by omega) (by omega) (by omega) (by omega) (by omega) (by omega) C3 (fun v4 v4a v4b v4c => ?_)
    have hw4 := y_pw_b (y_ch a2)
    have x4 := y_PG_e h43.1 (m := a1) (f := a2) (e := a3) (by omega) (by omega) (by omega) (by omega) (by omega) (by omega)
    have x4 : S3 8 ((a1 * 5 + a2) * 4 + a3).toNat = _ := x4
    refine x_isub ?_
    refine x_cV (fun _ => rfl) rfl (by decide) (Nat.le_of_ble_eq_true rfl) ?_
    refine ke_24_4 (by omega) (by omega) (by omega) (by omega) (by omega) (by omega) (by omega) (by omega) C3 (fun S5 C5 f5 w5 => ?_)
    have g5 := y_AGflp hP h43.1 (m := a1) (f := a2) (e := a3) (by omega) (by omega) (by omega) (by omega) (by omega) (by omega) (fun c k _ _ h => f5 c k h) w5
    have hS5 := y_SF_fr hB3 (fun c k h1 h2 => f5 c k (by omega)) hS3
    have fA5 : y_fA σ S5 := fun c k hc => (f5 c k (by omega)).trans (fA3 c k hc)
    refine x_aload rfl ?_
    refine x_cV (fun _ => rfl) rfl (by decide) (Nat.le_of_ble_eq_true rfl) ?_
    refine kx_83_0 C5 (fun S6 C6 f6 za6 zb6 => ?_)
    have hS6 := y_SF_fr hB3 (fun c k h1 h2 => f6 c k (by omega) (by omega)) hS5
    have fA6 : y_fA σ S6 := fun c k hc => (f6 c k (by omega) (by omega)).trans (fA5 c k hc)
    have g6 : y_AG (y_cv S6 4) (y_wK A (y_tab a1 a2 a3).toNat _) := y_AG_ex g5 (fun m => y_cv_x (fun _ => f6 _ _ (by omega) (by omega)) (fun _ _ => f6 _ _ (by omega) (by omega)) (fun _ _ => f6 _ _ (by omega) (by omega)) (fun _ _ => f6 _ _ (by omega) (by omega)) (fun _ => f6 _ _ (by omega) (by omega)) (fun _ => f6 _ _ (by omega) (by omega)))
    refine x_aload rfl ?_
    refine x_getR (r := 0) rfl (by decide) (by decide) rfl ?_
    refine x_iload rfl ?_
    refine x_iload rfl ?_
    refine x_iload rfl ?_
    refine x_cV (fun _ => rfl) rfl (by decide) (Nat.le_of_ble_eq_true rfl) ?_
    refine kx_30_4 (by omega) (by omega) (by omega) (by omega) (by omega) (by omega) C6 (fun v7 v7a v7b v7c => ?_)
    have hw7 := y_pw_b (y_ch a2)
    have x7 := y_PG_e g6 (m := a1) (f := a2) (e := a3) (by omega) (by omega) (by omega) (by omega) (by omega) (by omega)
    have x7 : S6 8 ((a1 * 5 + a2) * 4 + a3).toNat = _ := x7
    rw [y_wK_e] at x7
    refine x_iret ?_
    have tb := y_tab_b (m := a1) (f := a2) (e := a3) (by omega) (by omega) (by omega) (by omega) (by omega) (by omega)
    have ev : 1 - v4 = 1 - A (y_tab a1 a2 a3).toNat := by omega
    rw [ev] at g6 x7
    refine x_fin (b := 1 - A (y_tab a1 a2 a3).toNat) (by omega) ?_
    exact kS (by omega) _ C6 fA6 ⟨g6, y_CH_ex (fun m hm => y_wK_o (by omega)) (fun m hm => y_wK_o (by omega)) (y_CH_fr (fun m => (f6 _ _ (by omega) (by omega)).trans (f5 _ _ (by omega))) h43.2)⟩ hS6 ⟨za6, zb6⟩
  · skip
    refine x_if_ne (by omega) (by omega) (fun z8 => ?_) (fun z => absurd (by omega) z)
    refine x_push (-1) rfl ?_
    refine x_iret ?_
    exact kB (by omega)
theorem kx_137_0 {E : q_E} {σ : x_S} {Q : Option q_V → x_S → Prop} {a1 a2 : Int} (a1l : -2147483648 ≤ a1) (a1h : a1 ≤ 2147483647) (a2l : -2147483648 ≤ a2) (a2h : a2 ≤ 2147483647) (C0 : y_CI σ) {A : Nat → Int} (hP : y_PI A) (h4 : y_PG σ 4 A) {n : Nat} {B : Nat → Nat → Int} (hn : n ≤ 8) (hB : ∀ i, i < n → y_PI (B i)) (hS : y_SF σ n B) (kB : ¬ (0 ≤ a1 ∧ a1 ≤ 1 ∧ 0 ≤ a2 ∧ a2 ≤ 3) → Q (some (x_I (-1))) σ) (kN : (0 ≤ a1 ∧ a1 ≤ 1 ∧ 0 ≤ a2 ∧ a2 ≤ 3) → A a1.toNat = a2 → Q (some (x_I (-2))) σ) (kS : (0 ≤ a1 ∧ a1 ≤ 1 ∧ 0 ≤ a2 ∧ a2 ≤ 3 ∧ A a1.toNat ≠ a2) → ∀ τ, y_CI τ → y_fA σ τ → y_PG τ 4 (y_wK A a1.toNat a2) → y_SF τ (y_pn n) (y_psh n B A) → (τ 111 14 = 0 ∧ τ 124 14 = 0) → Q (some (x_I (A a1.toNat))) τ) : x_P E 137 [x_R 0, x_I a1, x_I a2] σ Q := by
  refine x_Mt e_137 (h_137 E) (Nat.le_of_ble_eq_true rfl) t_137 rfl ?_
  refine x_blk (b := 0) (a_137 E) rfl ?_
  unfold b_137_0
  refine x_iload rfl ?_
  refine x_push 2 rfl ?_
  refine x_cS (fun _ => rfl) (Nat.le_of_ble_eq_true rfl) ?_
  refine sf_2 (by omega) (by omega) (by omega) (by omega) C0 (fun y1 => ?_) (fun y1 => ?_)
  · skip
    refine x_if_eq (by omega) (by omega) (fun z => absurd z (by omega)) (fun z2 => ?_)
    refine x_iload rfl ?_
    refine x_push 4 rfl ?_
    refine x_cS (fun _ => rfl) (Nat.le_of_ble_eq_true rfl) ?_
    refine sf_2 (by omega) (by omega) (by omega) (by omega) C0 (fun y3 => ?_) (fun y3 => ?_)
    · skip
      refine x_if_ne (by omega) (by omega) (fun z => absurd z (by omega)) (fun z4 => ?_)
      refine x_blk (b := 2) (a_137 E) rfl ?_
      unfold b_137_2
      refine x_aload rfl ?_
      refine x_getR (r := 0) rfl (by decide) (by decide) rfl ?_
      refine x_iload rfl ?_
      refine x_cV (fun _ => rfl) rfl (by decide) (Nat.le_of_ble_eq_true rfl) ?_
      refine kx_11_4 (by omega) (by omega) C0 (fun v5 v5a v5b v5c => ?_)
      refine x_istore ?_
      refine x_iload rfl ?_
      refine x_iload rfl ?_
      refine x_icmp_ne (by omega) (by omega) (by omega) (by omega) (fun z6 => ?_) (fun z6 => ?_)
      · skip
        refine x_push (-2) rfl ?_
        refine x_iret ?_
        have kk := y_PG_k h4.1 (k := a1.toNat) (by omega)
        have kk : σ 7 a1.toNat = A a1.toNat := kk
        exact kN (by omega) (by omega)
      · skip
        refine x_blk (b := 3) (a_137 E) rfl ?_
        unfold b_137_3
        refine x_aload rfl ?_
        refine x_getR (r := 0) rfl (by decide) (by decide) rfl ?_
        refine x_aload rfl ?_
        refine x_getR (r := 0) rfl (by decide) (by decide) rfl ?_
        refine x_cV (fun _ => rfl) rfl (by decide) (Nat.le_of_ble_eq_true rfl) ?_
        refine kx_75_18_4 C0 (fun S7 C7 ax7 ha7 hp7 f7 w7 hh7 => ?_)
        have hS7 := y_SF_put C0 hP h4 hn hB hS ha7 hp7 f7 w7 hh7 C7
        have h47 : y_PG S7 4 A := y_PG_fr hP (fun c m h1 h2 => f7 c m (by omega)) h4
        have fA7 : y_fA σ S7 := fun c m hc => (f7 c m (by omega)).trans ((y_fA_rf (σ := σ)) c m hc)
        have hB7 := y_psh_P hn hP hB
        have n67 := y_PG_n h47.1
        refine x_aload rfl ?_
        refine x_getR (r := 0) rfl (by decide) (by decide) rfl ?_
        refine x_iload rfl ?_
        refine x_iload rfl ?_
        refine x_cV (fun _ => rfl) rfl (by decide) (Nat.le_of_ble_eq_true rfl) ?_
        refine ke_100_4 (by omega) (by omega) (by omega) (by omega) C7 (fun S8 C8 f8 w8 => ?_)
        have g8 : y_AG (y_cv S8 4) (y_wK A a1.toNat a2) := y_cK hP h47.1 (by omega) (fun q m _ _ h => f8 q m h) w8
        have hS8 := y_SF_fr hB7 (fun c k h1 h2 => f8 c k (by omega)) hS7
        have fA8 : y_fA σ S8 := fun c k hc => (f8 c k (by omega)).trans (fA7 c k hc)
        refine x_aload rfl ?_
        refine x_cV (fun _ => rfl) rfl (by decide) (Nat.le_of_ble_eq_true rfl) ?_
        refine kx_89_0 C8 (y_PI_K hP (by omega) (by omega) (by omega)) g8 (fun S9 C9 f9 w9 za9 zb9 => ?_)
        have hS9 := y_SF_fr hB7 (fun c k h1 h2 => f9 c k (by omega) (by omega) (by omega)) hS8
        have fA9 : y_fA σ S9 := fun c k hc => (f9 c k (by omega) (by omega) (by omega)).trans (fA8 c k hc)
        have n69 := y_PG_n w9.1
        refine x_iload rfl ?_
        refine x_iret ?_
        have kk := y_PG_k h4.1 (k := a1.toNat) (by omega)
        have kk : σ 7 a1.toNat = A a1.toNat := kk
        refine x_fin (b := A a1.toNat) (by omega) ?_
        exact kS ⟨by omega, by omega, by omega, by omega, by omega⟩ _ C9 fA9 w9 hS9 ⟨za9, zb9⟩
    · skip
      refine x_if_ne (by omega) (by omega) (fun z10 => ?_) (fun z => absurd (by omega) z)
      refine x_fall ?_
      refine x_blk (b := 1) (a_137 E) rfl ?_
      unfold b_137_1
      refine x_push (-1) rfl ?_
      refine x_iret ?_
      exact kB (by omega)
  · skip
    refine x_if_eq (by omega) (by omega) (fun z11 => ?_) (fun z => absurd (by omega) z)
    refine x_blk (b := 1) (a_137 E) rfl ?_
    unfold b_137_1
    refine x_push (-1) rfl ?_
    refine x_iret ?_
    exact kB (by omega)
theorem kx_131_0 {E : q_E} {σ : x_S} {Q : Option q_V → x_S → Prop} {a1 : Int} (a1l : -2147483648 ≤ a1) (a1h : a1 ≤ 2147483647) (C0 : y_CI σ) {A : Nat → Int} (hP : y_PI A) (h4 : y_PG σ 4 A) {n : Nat} {B : Nat → Nat → Int} (hn : n ≤ 8) (hB : ∀ i, i < n → y_PI (B i)) (hS : y_SF σ n B) (kB : ¬ (0 ≤ a1 ∧ a1 ≤ A 62) → Q (some (x_I (-1))) σ) (kF : (0 ≤ a1 ∧ a1 ≤ A 62) → a1 = 16 → Q (some (x_I (-3))) σ) (kX : (0 ≤ a1 ∧ a1 ≤ A 62) → a1 ≤ 15 → (∀ l e, y_iR (y_cx σ) 0 = some (l, e) → e < σ 1 2) → ∀ τ v, y_CI τ → y_fA σ τ → y_PG τ 4 A → y_SF τ n B → (∀ c m, 92 ≤ c → c < 137 → τ c m = σ c m) → -210 ≤ v → v ≤ -10 → Q (some (x_I v)) τ) (kS : ∀ l e, y_iR (y_cx σ) 0 = some (l, e) → ¬ e < σ 1 2 → (0 ≤ a1 ∧ a1 ≤ A 62 ∧ a1 ≤ 15) → ∀ τ, y_CI τ → y_fA σ τ → y_PG τ 4 (y_ent A a1.toNat (y_rr (y_cx σ) 0 l)) → y_SF τ (y_pn n) (y_psh n B A) → (τ 111 14 = 0 ∧ τ 124 14 = 0) → Q (some (x_I (if a1 = A 62 then A 62 + 1 else A 62))) τ) : x_P E 131 [x_R 0, x_I a1] σ Q := by
  have h62 := hP.2.2.2.1
  have n4 := y_PG_n h4.1
  refine x_Mt e_131 (h_131 E) (Nat.le_of_ble_eq_true rfl) t_131 rfl ?_
  refine x_blk (b := 0) (a_131 E) rfl ?_
  unfold b_131_0
  refine x_iload rfl ?_
  refine x_if_lt (by omega) (by omega) (fun z1 => ?_) (fun z1 => ?_)
  · skip
    refine x_blk (b := 1) (a_131 E) rfl ?_
    unfold b_131_1
    refine x_push (-1) rfl ?_
    refine x_iret ?_
    exact kB (by omega)
  · skip
    refine x_iload rfl ?_
    refine x_aload rfl ?_
    refine x_getR (r := 0) rfl (by decide) (by decide) rfl ?_
    refine x_getIG y_f4_6 C0 ?_
    intro g2a g2b
    refine x_icmp_le (by omega) (by omega) (by omega) (by omega) (fun z3 => ?_) (fun z3 => ?_)
    · skip
      refine x_blk (b := 2) (a_131 E) rfl ?_
      unfold b_131_2
      refine x_iload rfl ?_
      refine x_push 16 rfl ?_
      refine x_icmp_lt (by omega) (by omega) (by omega) (by omega) (fun z4 => ?_) (fun z4 => ?_)
      · skip
        refine x_blk (b := 3) (a_131 E) rfl ?_
        unfold b_131_3
        refine x_aload rfl ?_
        refine x_getR (r := 0) rfl (by decide) (by decide) rfl ?_
        refine x_aload rfl ?_
        refine x_getR (r := 0) rfl (by decide) (by decide) rfl ?_
        refine x_cV (fun _ => rfl) rfl (by decide) (Nat.le_of_ble_eq_true rfl) ?_
        refine kx_101_1_137 C0 (fun l5 e5 h5 ne5 S5 C5 f5 w5 => ?_) (fun ne5 S5 v5 C5 f5 v5a v5b => ?_)
        · skip
          have h45 : y_PG S5 4 A := y_PG_fr hP (fun c m h1 h2 => f5 c m (by omega) (by omega)) h4
          have hS5 := y_SF_fr hB (fun c m h1 h2 => f5 c m (by omega) (by omega)) hS
          have fA5 : y_fA σ S5 := fun c m hc => f5 c m (by omega) (by omega)
          refine x_istore ?_
          refine x_iload rfl ?_
          refine x_push (-4) rfl ?_
          refine x_icmp_eq (by omega) (by omega) (by omega) (by omega) (fun z6 => ?_) (fun z => absurd (by omega) z)
          refine x_blk (b := 4) (a_131 E) rfl ?_
          unfold b_131_4
          refine x_aload rfl ?_
          refine x_getR (r := 0) rfl (by decide) (by decide) rfl ?_
          refine x_aload rfl ?_
          refine x_getR (r := 0) rfl (by decide) (by decide) rfl ?_
          refine x_cV (fun _ => rfl) rfl (by decide) (Nat.le_of_ble_eq_true rfl) ?_
          refine kx_75_18_4 C5 (fun S7 C7 ax7 ha7 hp7 f7 w7 hh7 => ?_)
          have hS7 := y_SF_put C5 hP h45 hn hB hS5 ha7 hp7 f7 w7 hh7 C7
          have h47 : y_PG S7 4 A := y_PG_fr hP (fun c m h1 h2 => f7 c m (by omega)) h45
          have fA7 : y_fA σ S7 := fun c m hc => (f7 c m (by omega)).trans (fA5 c m hc)
          have hB7 := y_psh_P hn hP hB
          have n67 := y_PG_n h47.1
          refine x_aload rfl ?_
          refine x_getR (r := 0) rfl (by decide) (by decide) rfl ?_
          refine x_iload rfl ?_
          refine x_aload rfl ?_
          refine x_getR (r := 0) rfl (by decide) (by decide) rfl ?_
          refine x_cV (fun _ => rfl) rfl (by decide) (Nat.le_of_ble_eq_true rfl) ?_
          refine ke_21_4_137 (by omega) (by omega) (by omega) C7 (fun S8 C8 f8 w8 m8 => ?_)
          have hb8 := y_rl_rr h5
          have e48 : y_rr (y_cx σ) 0 l5 4 = l5.length := rfl
          have g8 : y_AG (y_cv S8 4) (y_ent A a1.toNat (y_rr (y_cx σ) 0 l5)) := y_AGent hP h47.1 (by omega) (by omega) (fun c k h1 h2 => f8 c k (by omega) (by omega)) (by rw [m8, show (a1.toNat : Int) = a1 by omega]) (fun m hm => f8 9 m (by omega) (by omega)) (fun c hc => (w8 c (by omega)).trans ((f7 137 c (by omega)).trans (w5 c (by omega))))
          have hS8 := y_SF_fr hB7 (fun c k h1 h2 => f8 c k (by omega) (by omega)) hS7
          have fA8 : y_fA σ S8 := fun c k hc => (f8 c k (by omega) (by omega)).trans (fA7 c k hc)
          refine x_aload rfl ?_
          refine x_cV (fun _ => rfl) rfl (by decide) (Nat.le_of_ble_eq_true rfl) ?_
          refine kx_89_0 C8 (y_PI_en hP (by omega) (by omega) hb8.1) g8 (fun S9 C9 f9 w9 za9 zb9 => ?_)
          have hS9 := y_SF_fr hB7 (fun c k h1 h2 => f9 c k (by omega) (by omega) (by omega)) hS8
          have fA9 : y_fA σ S9 := fun c k hc => (f9 c k (by omega) (by omega) (by omega)).trans (fA8 c k hc)
          have n69 := y_PG_n w9.1
          refine x_aload rfl ?_
          refine x_getR (r := 0) rfl (by decide) (by decide) rfl ?_
          refine x_getIG y_f4_6 C9 ?_
          intro g10a g10b
          refine x_iret ?_
          rw [y_ent_n, show (a1.toNat : Int) = a1 by omega] at n69
          refine x_fin n69 ?_
          exact kS _ _ h5 ne5 ⟨by omega, by omega, by omega⟩ _ C9 fA9 w9 hS9 ⟨za9, zb9⟩
        · skip
          have h45 : y_PG S5 4 A := y_PG_fr hP (fun c m h1 h2 => f5 c m (by omega) (by omega)) h4
          have hS5 := y_SF_fr hB (fun c m h1 h2 => f5 c m (by omega) (by omega)) hS
          have fA5 : y_fA σ S5 := fun c m hc => f5 c m (by omega) (by omega)
          refine x_istore ?_
          refine x_iload rfl ?_
          refine x_push (-4) rfl ?_
          refine x_icmp_eq (by omega) (by omega) (by omega) (by omega) (fun z => absurd z (by omega)) (fun z11 => ?_)
          refine x_push (-10) rfl ?_
          refine x_iload rfl ?_
          refine x_isub ?_
          refine x_iret ?_
          exact kX (by omega) (by omega) ne5 _ _ C5 fA5 h45 hS5 (fun c m h1 h2 => f5 c m (by omega) (by omega)) (by omega) (by omega)
      · skip
        refine x_push (-3) rfl ?_
        refine x_iret ?_
        exact kF (by omega) (by omega)
    · skip
      refine x_fall ?_
      refine x_blk (b := 1) (a_131 E) rfl ?_
      unfold b_131_1
      refine x_push (-1) rfl ?_
      refine x_iret ?_
      exact kB (by omega)
theorem kx_138_0 {E : q_E} {σ : x_S} {Q : Option q_V → x_S → Prop} (C0 : y_CI σ) {A : Nat → Int} (hP : y_PI A) (h4 : y_PG σ 4 A) {n : Nat} {B : Nat → Nat → Int} (hn : n ≤ 8) (hB : ∀ i, i < n → y_PI (B i)) (hS : y_SF σ n B) (kN : n = 0 → Q (some (x_I (-2))) σ) (kS : ∀ n', n = n' + 1 → ∀ τ, y_CI τ → y_fA σ τ → y_PG τ 4 (B n') → y_SF τ n' B → (τ 111 14 = 0 ∧ τ 124 14 = 0) → Q (some (x_I n')) τ) : x_P E 138 [x_R 0] σ Q := by
  have s1 := hS.1
  refine x_Mt e_138 (h_138 E) (Nat.le_of_ble_eq_true rfl) t_138 rfl ?_
  refine x_blk (b := 0) (a_138 E) rfl ?_
  unfold b_138_0
  refine x_aload rfl ?_
  refine x_getR (r := 0) rfl (by decide) (by decide) rfl ?_
  refine x_getIG y_f18_2 C0 ?_
  intro g1a g1b
  refine x_if_ne (by omega) (by omega) (fun z2 => ?_) (fun z2 => ?_)
  · skip
    refine x_push (-2) rfl ?_
    refine x_iret ?_
    exact kN (by omega)
  · skip
    refine x_blk (b := 1) (a_138 E) rfl ?_
    unfold b_138_1
    refine x_aload rfl ?_
    refine x_getR (r := 0) rfl (by decide) (by decide) rfl ?_
    refine x_aload rfl ?_
    refine x_getR (r := 0) rfl (by decide) (by decide) rfl ?_
    refine x_cV (fun _ => rfl) rfl (by decide) (Nat.le_of_ble_eq_true rfl) ?_
    refine kx_139_18_4 (by omega) C0 (fun S3 C3 ax3 ha3 hp3 f3 w3 h23 => ?_)
    refine x_aload rfl ?_
    refine x_cV (fun _ => rfl) rfl (by decide) (Nat.le_of_ble_eq_true rfl) ?_
    refine kx_83_0 C3 (fun S4 C4 f4 za4 zb4 => ?_)
    refine x_aload rfl ?_
    refine x_getR (r := 0) rfl (by decide) (by decide) rfl ?_
    refine x_getIG y_f18_2 C4 ?_
    intro g5a g5b
    refine x_iret ?_
    obtain ⟨n', hn'⟩ : ∃ n', n = n' + 1 := ⟨n - 1, by omega⟩
    subst hn'
    have q := y_SF_take C0 hn hB hS ha3 hp3 f3 w3 h23
    have e2 : S4 18 2 = S3 18 2 := f4 18 2 (by decide) (by decide)
    refine x_fin (b := (n' : Int)) (by omega) ?_
    exact kS n' rfl _ C4 (fun c m hc => (f4 c m (by omega) (by omega)).trans (f3 c m (by omega) (by omega))) (y_PG_fr (hB n' (by omega)) (fun c k h1 h2 => f4 c k (by omega) (by omega)) q.1) (y_SF_fr (fun i hi => hB i (by omega)) (fun c k h1 h2 => f4 c k (by omega) (by omega)) q.2) ⟨za4, zb4⟩
theorem kx_166_0 {E : q_E} {σ : x_S} {Q : Option q_V → x_S → Prop} (C0 : y_CI σ) {A : Nat → Int} (hP : y_PI A) (h4 : y_PG σ 4 A) {n : Nat} {B : Nat → Nat → Int} (hn : n ≤ 2) (hB : ∀ i, i < n → y_PI (B i)) (hK : y_KF σ n B) (kF : n = 2 → Q (some (x_I (-3))) σ) (kS : n < 2 → ∀ τ, y_CI τ → (∀ c m, (c < 76 ∨ 92 ≤ c) → τ c m = σ c m) → y_KF τ (n + 1) (fun i => if i = n then A else B i) → Q (some (x_I ((n : Int) + 1))) τ) : x_P E 166 [x_R 0] σ Q := by
  have s1 := hK.2.1
  refine x_Mt e_166 (h_166 E) (Nat.le_of_ble_eq_true rfl) t_166 rfl ?_
  refine x_blk (b := 0) (a_166 E) rfl ?_
  unfold b_166_0
  refine x_aload rfl ?_
  refine x_getR (r := 0) rfl (by decide) (by decide) rfl ?_
  refine x_getIG y_f76_2 C0 ?_
  intro g1a g1b
  refine x_push 2 rfl ?_
  refine x_icmp_lt (by omega) (by omega) (by omega) (by omega) (fun z2 => ?_) (fun z2 => ?_)
  · skip
    refine x_blk (b := 1) (a_166 E) rfl ?_
    unfold b_166_1
    refine x_aload rfl ?_
    refine x_getR (r := 0) rfl (by decide) (by decide) rfl ?_
    refine x_aload rfl ?_
    refine x_getR (r := 0) rfl (by decide) (by decide) rfl ?_
    refine x_cV (fun _ => rfl) rfl (by decide) (Nat.le_of_ble_eq_true rfl) ?_
    refine kx_75_76_4 C0 (fun S3 C3 ax3 ha3 hp3 f3 w3 hh3 => ?_)
    refine x_aload rfl ?_
    refine x_getR (r := 0) rfl (by decide) (by decide) rfl ?_
    refine x_getIG y_f76_2 C3 ?_
    intro g4a g4b
    refine x_iret ?_
    refine x_fin (b := (n : Int) + 1) (by omega) ?_
    exact kS (by omega) _ C3 (fun c m hc => f3 c m (by omega)) (y_KF_put hP h4 (by omega) hB hK ha3 hp3 f3 w3 hh3)
  · skip
    refine x_push (-3) rfl ?_
    refine x_iret ?_
    exact kF (by omega)
theorem kx_167_0 {E : q_E} {σ : x_S} {Q : Option q_V → x_S → Prop} (C0 : y_CI σ) {A : Nat → Int} (hP : y_PI A) (h4 : y_PG σ 4 A) {n : Nat} {B : Nat → Nat → Int} (hn : n ≤ 2) (hB : ∀ i, i < n → y_PI (B i)) (hK : y_KF σ n B) (kN : n = 0 → Q (some (x_I (-2))) σ) (kS : ∀ n', n = n' + 1 → ∀ τ, y_CI τ → (∀ c m, (c = 0 ∨ c = 1 ∨ c = 2 ∨ 138 ≤ c) → τ c m = σ c m) → y_PG τ 4 (B n') → τ 18 2 = 0 → y_KF τ n' B → (τ 111 14 = 0 ∧ τ 124 14 = 0) → Q (some (x_I n')) τ) : x_P E 167 [x_R 0] σ Q := by
  have s1 := hK.2.1
  refine x_Mt e_167 (h_167 E) (Nat.le_of_ble_eq_true rfl) t_167 rfl ?_
  refine x_blk (b := 0) (a_167 E) rfl ?_
  unfold b_167_0
  refine x_aload rfl ?_
  refine x_getR (r := 0) rfl (by decide) (by decide) rfl ?_
  refine x_getIG y_f76_2 C0 ?_
  intro g1a g1b
  refine x_if_ne (by omega) (by omega) (fun z2 => ?_) (fun z2 => ?_)
  · skip
    refine x_push (-2) rfl ?_
    refine x_iret ?_
    exact kN (by omega)
  · skip
    refine x_blk (b := 1) (a_167 E) rfl ?_
    unfold b_167_1
    refine x_aload rfl ?_
    refine x_getR (r := 0) rfl (by decide) (by decide) rfl ?_
    refine x_aload rfl ?_
    refine x_getR (r := 0) rfl (by decide) (by decide) rfl ?_
    refine x_cV (fun _ => rfl) rfl (by decide) (Nat.le_of_ble_eq_true rfl) ?_
    refine kx_139_76_4 (by omega) C0 (fun S3 C3 ax3 ha3 hp3 f3 w3 h23 => ?_)
    refine x_aload rfl ?_
    refine x_getR (r := 0) rfl (by decide) (by decide) rfl ?_
    refine x_cV (fun _ => rfl) rfl (by decide) (Nat.le_of_ble_eq_true rfl) ?_
    refine kx_125_18 C3 (fun S4 C4 f4 w4 => ?_)
    refine x_aload rfl ?_
    refine x_cV (fun _ => rfl) rfl (by decide) (Nat.le_of_ble_eq_true rfl) ?_
    refine kx_83_0 C4 (fun S5 C5 f5 za5 zb5 => ?_)
    refine x_aload rfl ?_
    refine x_getR (r := 0) rfl (by decide) (by decide) rfl ?_
    refine x_getIG y_f76_2 C5 ?_
    intro g6a g6b
    refine x_iret ?_
    obtain ⟨n', hn'⟩ : ∃ n', n = n' + 1 := ⟨n - 1, by omega⟩
    subst hn'
    have q := y_KF_take hn hB hK ha3 hp3 f3 w3 h23
    have e2 : S5 76 2 = S3 76 2 := (f5 76 2 (by decide) (by decide)).trans (f4 76 2 (by decide))
    have fr : ∀ c m, ¬ (c = 18 ∧ m = 2) → (c < 92 ∨ 138 ≤ c) → S5 c m = S3 c m := fun c m h1 h2 => (f5 c m (by omega) (by omega)).trans (f4 c m h1)
    refine x_fin (b := (n' : Int)) (by omega) ?_
    exact kS n' rfl _ C5 (fun c m hc => (fr c m (by omega) (by omega)).trans (f3 c m (by omega) (by omega))) (y_PG_fr (hB n' (by omega)) (fun c k h1 h2 => fr c k (by omega) (by omega)) q.1) ((f5 18 2 (by decide) (by decide)).trans w4) (y_KF_fr (by omega) (fun i hi => hB i (by omega)) (fun c k h1 h2 => fr c k (by omega) (by omega)) q.2) ⟨za5, zb5⟩
