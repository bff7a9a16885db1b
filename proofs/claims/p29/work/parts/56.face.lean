/-- the reference stands: its text, its program, what it noted and kept -/
def y_RI (σ : x_S) : Prop := (0 ≤ σ 138 0 ∧ σ 138 0 ≤ 200) ∧ y_PI (σ 140) ∧ (0 ≤ σ 138 5 ∧ σ 138 5 ≤ 8) ∧ (∀ u : Nat, u < (σ 138 5).toNat → y_PI (fun k => σ 142 (256 * u + k))) ∧ (0 ≤ σ 138 7 ∧ σ 138 7 ≤ 2) ∧ (∀ u : Nat, u < (σ 138 7).toNat → y_PI (fun k => σ 143 (256 * u + k)))
theorem y_RI_ext {σ τ : x_S} (h0 : τ 138 0 = σ 138 0) (h5 : τ 138 5 = σ 138 5) (h7 : τ 138 7 = σ 138 7) (a : ∀ k, τ 140 k = σ 140 k) (b : ∀ k, τ 142 k = σ 142 k) (c : ∀ k, τ 143 k = σ 143 k) (h : y_RI σ) : y_RI τ := by
  obtain ⟨r1, r2, r3, r4, r5, r6⟩ := h
  refine ⟨by rw [h0]; exact r1, y_PI_ext (fun k _ => (a k).symm) r2, by rw [h5]; exact r3, fun u hu => ?_, by rw [h7]; exact r5, fun u hu => ?_⟩
  · rw [h5] at hu
    exact y_PI_ext (fun k _ => (b _).symm) (r4 u hu)
  · rw [h7] at hu
    exact y_PI_ext (fun k _ => (c _).symm) (r6 u hu)
theorem y_RI_sm {L F : List Nat} {σ τ : x_S} (h : y_sm L F σ τ) (hL : 138 ∉ L ∧ 140 ∉ L ∧ 142 ∉ L ∧ 143 ∉ L) (hF : 0 ∉ F ∧ 5 ∉ F ∧ 7 ∉ F) (hR : y_RI σ) : y_RI τ :=
  y_RI_ext (h 138 0 hL.1 (fun _ => hF.1)) (h 138 5 hL.1 (fun _ => hF.2.1)) (h 138 7 hL.1 (fun _ => hF.2.2)) (y_sm_a h 140 hL.2.1 (by decide)) (y_sm_a h 142 hL.2.2.1 (by decide)) (y_sm_a h 143 hL.2.2.2 (by decide)) hR
theorem c_171 {E : q_E} {σ : x_S} {Q : Option q_V → x_S → Prop} {a : Int} (h1 : -2147483648 ≤ a) (h2 : a ≤ 2147483647) (ln1 : 0 ≤ σ 138 0) (ln2 : σ 138 0 ≤ 200) (kB : ¬ (32 ≤ a ∧ a ≤ 126) → Q (some (x_I (-1))) σ) (kF : 32 ≤ a ∧ a ≤ 126 → σ 138 0 = 200 → Q (some (x_I (-3))) σ) (kW : 32 ≤ a ∧ a ≤ 126 → σ 138 0 ≠ 200 → ∀ τ, y_sm [139] [0] σ τ → τ 138 0 = σ 138 0 + 1 → τ 139 (σ 138 0).toNat = a → (∀ m : Nat, m ≠ (σ 138 0).toNat → τ 139 m = σ 139 m) → Q (some (x_I (σ 138 0 + 1))) τ) : x_P E 171 [x_R 138, x_I a] σ Q := by
  refine x_Mt e_171 (h_171 E) (Nat.le_of_ble_eq_true rfl) t_171 rfl ?_
  refine x_blk (b := 0) (a_171 E) rfl ?_
  unfold b_171_0
  refine x_iload rfl ?_
  refine x_i2l (by omega) (by omega) ?_
  refine x_pushL 32 rfl ?_
  refine x_pushL 126 rfl ?_
  refine x_cS (fun _ => rfl) (Nat.le_of_ble_eq_true rfl) ?_
  refine c_45 (by omega) (by omega) (by omega) (by omega) (by omega) (by omega) (fun y1 => ?_) (fun y1 => ?_)
  · skip
    refine x_if_ne (by decide) (by decide) (fun z => absurd z (by decide)) (fun _ => ?_)
    refine x_blk (b := 1) (a_171 E) rfl ?_
    unfold b_171_1
    refine x_aload rfl ?_
    refine x_getI (r := 138) rfl (by decide) (by decide) (by decide) rfl ?_
    intro g3a g3b
    refine x_push 200 rfl ?_
    refine x_icmp_ne (by omega) (by omega) (by omega) (by omega) (fun z4 => ?_) (fun z4 => ?_)
    · skip
      refine x_push (-3) rfl ?_
      refine x_iret ?_
      exact kF (by omega) (by omega)
    · skip
      refine x_blk (b := 2) (a_171 E) rfl ?_
      unfold b_171_2
      refine x_aload rfl ?_
      refine x_getR (r := 138) rfl (by decide) (by decide) rfl ?_
      refine x_aload rfl ?_
      refine x_getI (r := 138) rfl (by decide) (by decide) (by decide) rfl ?_
      intro g5a g5b
      refine x_iload rfl ?_
      refine x_ast (r := 139) (n := 200)  rfl rfl (by decide) (fun _ => rfl) rfl (by omega) (by omega) (by omega) (by omega) (fun S6 e6 => ?_)
      have w6 := x_up_at e6
      refine x_aload rfl ?_
      refine x_dup rfl ?_
      refine x_getI (r := 138) rfl (by decide) (by decide) (by decide) rfl ?_
      have q7_1 : S6 138 0 = σ 138 0 := x_up_nr e6 (by decide)
      simp only [q7_1]
      intro g7a g7b
      refine x_push 1 rfl ?_
      refine x_iadd ?_
      refine x_putI (r := 138) rfl (by decide) (by decide) (by decide) rfl ⟨by decide, rfl⟩ (by omega) (by omega) (fun S8 e8 => ?_)
      have w8 := x_up_at e8
      refine x_aload rfl ?_
      refine x_getI (r := 138) rfl (by decide) (by decide) (by decide) rfl ?_
      intro g9a g9b
      refine x_iret ?_
      refine x_fin w8 ?_
      exact kW (by omega) (by omega) _ (y_sm_tr (y_sm_tr y_sm_rf (y_sm_e e6 (Or.inl (by decide)))) (y_sm_e e8 (Or.inr ⟨rfl, by decide⟩))) w8 ((x_up_nr e8 (by decide)).trans w6) (fun m hm => (x_up_nr e8 (by decide)).trans (x_up_ne e6 (fun z => hm z.2)))
  · skip
    refine x_if_ne (by decide) (by decide) (fun _ => ?_) (fun z => absurd (by decide) z)
    refine x_push (-1) rfl ?_
    refine x_iret ?_
    exact kB (by omega)
theorem c_172 {E : q_E} {σ : x_S} {Q : Option q_V → x_S → Prop} (k : ∀ τ, y_sm [] [0] σ τ → τ 138 0 = 0 → Q (some (x_I (σ 138 0))) τ) : x_P E 172 [x_R 138] σ Q := by
  refine x_Mt e_172 (h_172 E) (Nat.le_of_ble_eq_true rfl) t_172 rfl ?_
  refine x_blk (b := 0) (a_172 E) rfl ?_
  unfold b_172_0
  refine x_aload rfl ?_
  refine x_getI (r := 138) rfl (by decide) (by decide) (by decide) rfl ?_
  intro g1a g1b
  refine x_istore ?_
  refine x_aload rfl ?_
  refine x_push 0 rfl ?_
  refine x_putI (r := 138) rfl (by decide) (by decide) (by decide) rfl ⟨by decide, rfl⟩ (by omega) (by omega) (fun S2 e2 => ?_)
  have w2 := x_up_at e2
  refine x_iload rfl ?_
  refine x_iret ?_
  exact k _ (y_sm_tr y_sm_rf (y_sm_e e2 (Or.inr ⟨rfl, by decide⟩))) w2
theorem c_92 {E : q_E} {σ : x_S} {Q : Option q_V → x_S → Prop} {t v : Int} (h1 : -2147483648 ≤ t) (h2 : t ≤ 2147483647) (h3 : -2147483648 ≤ v) (h4 : v ≤ 2147483647) (hP : y_PI (σ 140)) (k1 : (0 ≤ t ∧ t ≤ 2) ∧ 0 ≤ v ∧ v ≤ σ 140 (2 + t).toNat - 1 → Q (some (x_I 1)) σ) (k0 : ¬ ((0 ≤ t ∧ t ≤ 2) ∧ 0 ≤ v ∧ v ≤ σ 140 (2 + t).toNat - 1) → Q (some (x_I 0)) σ) : x_P E 92 [x_R 138, x_I t, x_I v] σ Q := by
  refine x_Mt e_92 (h_92 E) (Nat.le_of_ble_eq_true rfl) t_92 rfl ?_
  refine x_blk (b := 0) (a_92 E) rfl ?_
  unfold b_92_0
  refine x_iload rfl ?_
  refine x_cS (fun _ => rfl) (Nat.le_of_ble_eq_true rfl) ?_
  refine c_67 (by omega) (by omega) (fun y1 => ?_) (fun y1 => ?_)
  · skip
    refine x_if_eq (by decide) (by decide) (fun z => absurd z (by decide)) (fun _ => ?_)
    have hs : 1 ≤ σ 140 (2 + t).toNat ∧ σ 140 (2 + t).toNat ≤ 11 := by
      have := (hP.2.1 t.toNat (by omega)).1
      rw [show (2 + t).toNat = 2 + t.toNat by omega]; exact this
    refine x_iload rfl ?_
    refine x_i2l (by omega) (by omega) ?_
    refine x_pushL 0 rfl ?_
    refine x_aload rfl ?_
    refine x_getR (r := 138) rfl (by decide) (by decide) rfl ?_
    refine x_push 2 rfl ?_
    refine x_iload rfl ?_
    refine x_iadd ?_
    refine x_iald (r := 140) (n := 256)  rfl rfl (by decide) (fun _ => rfl) rfl (by omega) (by omega) ?_
    intro g3a g3b
    refine x_push 1 rfl ?_
    refine x_isub ?_
    refine x_i2l (by omega) (by omega) ?_
    refine x_cS (fun _ => rfl) (Nat.le_of_ble_eq_true rfl) ?_
    refine c_45 (by omega) (by omega) (by omega) (by omega) (by omega) (by omega) (fun y4 => ?_) (fun y4 => ?_)
    · skip
      refine x_if_eq (by decide) (by decide) (fun z => absurd z (by decide)) (fun _ => ?_)
      refine x_push 1 rfl ?_
      refine x_goto ?_
      refine x_blk (b := 2) (a_92 E) rfl ?_
      unfold b_92_2
      refine x_zret (by first | decide | omega) ?_
      first | exact k1 (by omega) | exact k0 (by omega)
    · skip
      refine x_if_eq (by decide) (by decide) (fun _ => ?_) (fun z => absurd (by decide) z)
      refine x_blk (b := 1) (a_92 E) rfl ?_
      unfold b_92_1
      refine x_push 0 rfl ?_
      refine x_fall ?_
      refine x_blk (b := 2) (a_92 E) rfl ?_
      unfold b_92_2
      refine x_zret (by first | decide | omega) ?_
      first | exact k1 (by omega) | exact k0 (by omega)
  · skip
    refine x_if_eq (by decide) (by decide) (fun _ => ?_) (fun z => absurd (by decide) z)
    refine x_blk (b := 1) (a_92 E) rfl ?_
    unfold b_92_1
    refine x_push 0 rfl ?_
    refine x_fall ?_
    refine x_blk (b := 2) (a_92 E) rfl ?_
    unfold b_92_2
    refine x_zret (by first | decide | omega) ?_
    first | exact k1 (by omega) | exact k0 (by omega)
