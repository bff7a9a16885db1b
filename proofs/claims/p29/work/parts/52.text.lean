/-- the sign at a place of the text -/
def y_tx (σ : x_S) (k : Int) : Int := if k < σ 138 0 then σ 139 k.toNat else 0
theorem y_tx_p {σ : x_S} {k : Int} (h : 1 ≤ y_tx σ k) : k < σ 138 0 := by
  unfold y_tx at h
  split at h <;> omega
theorem c_111 {E : q_E} {σ : x_S} {Q : Option q_V → x_S → Prop} {i : Int} (h1 : 0 ≤ i) (h2 : i ≤ 2147483647) (ln1 : 0 ≤ σ 138 0) (ln2 : σ 138 0 ≤ 200) (k : -2147483648 ≤ y_tx σ i → y_tx σ i ≤ 2147483647 → Q (some (x_I (y_tx σ i))) σ) : x_P E 111 [x_R 138, x_I i] σ Q := by
  refine x_Mt e_111 (h_111 E) (Nat.le_of_ble_eq_true rfl) t_111 rfl ?_
  refine x_blk (b := 0) (a_111 E) rfl ?_
  unfold b_111_0
  refine x_iload rfl ?_
  refine x_aload rfl ?_
  refine x_getI (r := 138) rfl (by decide) (by decide) (by decide) rfl ?_
  intro g1a g1b
  refine x_icmp_ge (by omega) (by omega) (by omega) (by omega) (fun z2 => ?_) (fun z2 => ?_)
  · skip
    refine x_aload rfl ?_
    refine x_getR (r := 138) rfl (by decide) (by decide) rfl ?_
    refine x_iload rfl ?_
    refine x_iald (r := 139) (n := 200)  rfl rfl (by decide) (fun _ => rfl) rfl (by omega) (by omega) ?_
    intro g3a g3b
    refine x_goto ?_
    refine x_blk (b := 2) (a_111 E) rfl ?_
    unfold b_111_2
    refine x_iret ?_
    unfold y_tx at k
    first | (rw [if_pos (by omega)] at k; exact k (by omega) (by omega)) | (rw [if_neg (by omega)] at k; exact k (by omega) (by omega))
  · skip
    refine x_blk (b := 1) (a_111 E) rfl ?_
    unfold b_111_1
    refine x_push 0 rfl ?_
    refine x_fall ?_
    refine x_blk (b := 2) (a_111 E) rfl ?_
    unfold b_111_2
    refine x_iret ?_
    unfold y_tx at k
    first | (rw [if_pos (by omega)] at k; exact k (by omega) (by omega)) | (rw [if_neg (by omega)] at k; exact k (by omega) (by omega))
theorem y_sm_e {L F : List Nat} {σ τ : x_S} {r k : Nat} {v : Int} (e : τ = x_up σ r k v) (h : r ∈ L ∨ (r = 138 ∧ k ∈ F)) : y_sm L F σ τ := by rw [e]; exact y_sm_up h
theorem y_tx_s {σ τ : x_S} (h0 : τ 138 0 = σ 138 0) (h1 : ∀ k, τ 139 k = σ 139 k) (k : Int) : y_tx τ k = y_tx σ k := by unfold y_tx; rw [h0, h1]
theorem c_112 {E : q_E} {σ : x_S} {Q : Option q_V → x_S → Prop} {a b : Int} (h1 : 1 ≤ a) (h2 : a ≤ 200) (h3 : a ≤ b) (h4 : b ≤ 200) (ln1 : 0 ≤ σ 138 0) (ln2 : σ 138 0 ≤ 200) (s1 : 0 ≤ σ 138 8) (s2 : σ 138 8 ≤ 1000) (k1 : ∀ τ, y_sm [] [8] σ τ → τ 138 8 = σ 138 8 + 1 → a ≤ y_tx σ (σ 138 8) → y_tx σ (σ 138 8) ≤ b → σ 138 8 < σ 138 0 → Q (some (x_I (y_tx σ (σ 138 8) - a))) τ) (k0 : ¬ (a ≤ y_tx σ (σ 138 8) ∧ y_tx σ (σ 138 8) ≤ b) → Q (some (x_I (-1))) σ) : x_P E 112 [x_R 138, x_I a, x_I b] σ Q := by
  refine x_Mt e_112 (h_112 E) (Nat.le_of_ble_eq_true rfl) t_112 rfl ?_
  refine x_blk (b := 0) (a_112 E) rfl ?_
  unfold b_112_0
  refine x_aload rfl ?_
  refine x_aload rfl ?_
  refine x_getI (r := 138) rfl (by decide) (by decide) (by decide) rfl ?_
  intro g1a g1b
  refine x_cV (fun _ => rfl) rfl (by decide) (Nat.le_of_ble_eq_true rfl) ?_
  refine c_111 (by omega) (by omega) (by omega) (by omega) (fun t2a t2b => ?_)
  refine x_istore ?_
  refine x_iload rfl ?_
  refine x_i2l (by omega) (by omega) ?_
  refine x_iload rfl ?_
  refine x_i2l (by omega) (by omega) ?_
  refine x_iload rfl ?_
  refine x_i2l (by omega) (by omega) ?_
  refine x_cS (fun _ => rfl) (Nat.le_of_ble_eq_true rfl) ?_
  refine c_45 (by omega) (by omega) (by omega) (by omega) (by omega) (by omega) (fun y3 => ?_) (fun y3 => ?_)
  · skip
    refine x_if_ne (by decide) (by decide) (fun z => absurd z (by decide)) (fun _ => ?_)
    refine x_blk (b := 1) (a_112 E) rfl ?_
    unfold b_112_1
    refine x_aload rfl ?_
    refine x_dup rfl ?_
    refine x_getI (r := 138) rfl (by decide) (by decide) (by decide) rfl ?_
    intro g5a g5b
    refine x_push 1 rfl ?_
    refine x_iadd ?_
    refine x_putI (r := 138) rfl (by decide) (by decide) (by decide) rfl ⟨by decide, rfl⟩ (by omega) (by omega) (fun S6 e6 => ?_)
    have w6 := x_up_at e6
    refine x_iload rfl ?_
    refine x_iload rfl ?_
    refine x_isub ?_
    refine x_iret ?_
    exact k1 _ (y_sm_e e6 (Or.inr ⟨rfl, by decide⟩)) w6 (by omega) (by omega) (y_tx_p (by omega))
  · skip
    refine x_if_ne (by decide) (by decide) (fun _ => ?_) (fun z => absurd (by decide) z)
    refine x_push (-1) rfl ?_
    refine x_iret ?_
    exact k0 (by omega)
