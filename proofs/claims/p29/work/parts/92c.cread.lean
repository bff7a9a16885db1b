/-! the class reads its text: exact -/
/-- the sign at a place -/
def y_cx (σ : x_S) (k : Int) : Int := if k < σ 1 2 then σ 2 k.toNat else 0
/-- only the class's place in its text, and whether it has stopped, have changed -/
def y_sc (σ τ : x_S) : Prop := ∀ r k, (r = 1 → k ≠ 3 ∧ k ≠ 4) → τ r k = σ r k
theorem y_sc_tr {a b c : x_S} (h1 : y_sc a b) (h2 : y_sc b c) : y_sc a c := fun r k h => (h2 r k h).trans (h1 r k h)
theorem y_sc_up {σ τ : x_S} {k : Nat} {v : Int} (e : τ = x_up σ 1 k v) (h : k = 3 ∨ k = 4) : y_sc σ τ := by
  intro r q hq
  refine x_up_ne e (fun z => ?_)
  have := hq z.1
  omega
theorem y_sc_x {σ τ : x_S} (h : y_sc σ τ) (k : Int) : y_cx τ k = y_cx σ k := by
  unfold y_cx
  rw [h 1 2 (by decide), h 2 _ (fun z => absurd z (by decide))]
theorem ke_4_1 {E : q_E} {σ : x_S} {Q : Option q_V → x_S → Prop} (C0 : y_CI σ) (k : ∀ v, -4 ≤ v → v ≤ 65535 → ((v = -4 ∧ y_cx σ (σ 1 3) = 0 ∧ ¬ σ 1 3 < σ 1 2) ∨ (v = y_cx σ (σ 1 3) ∧ σ 1 3 < σ 1 2 ∧ 0 ≤ v)) → Q (some (x_I v)) σ) : x_P E 4 [x_R 1] σ Q := by
  refine x_Mt e_4 (h_4 E) (Nat.le_of_ble_eq_true rfl) t_4 rfl ?_
  have c3 : 0 ≤ σ 1 3 ∧ σ 1 3 ≤ 200 := C0 1 3 (by decide) (by decide) (by decide)
  have c2 : 0 ≤ σ 1 2 ∧ σ 1 2 ≤ 200 := C0 1 2 (by decide) (by decide) (by decide)
  refine x_blk (b := 0) (a_4 E) rfl ?_
  unfold b_4_0
  refine x_aload rfl ?_
  refine x_getIG y_f1_3 C0 ?_
  intro g1 g2
  refine x_if_lt (by omega) (by omega) (fun z => absurd z (by omega)) (fun _ => ?_)
  refine x_aload rfl ?_
  refine x_getIG y_f1_3 C0 ?_
  intro g3 g4
  refine x_aload rfl ?_
  refine x_getIG y_f1_2 C0 ?_
  intro g5 g6
  refine x_icmp_ge (by omega) (by omega) (by omega) (by omega) (fun z => ?_) (fun z => ?_)
  · refine x_aload rfl ?_
    refine x_getIG y_f1_3 C0 ?_
    intro g7 g8
    refine x_push 200 rfl ?_
    refine x_icmp_ge (by omega) (by omega) (by omega) (by omega) (fun _ => ?_) (fun z2 => absurd (by omega) z2)
    refine x_aload rfl ?_
    refine x_getR (r := 1) rfl (by decide) (by decide) rfl ?_
    refine x_aload rfl ?_
    refine x_getIG y_f1_3 C0 ?_
    intro g9 g10
    have ct : 0 ≤ σ 2 (σ 1 3).toNat ∧ σ 2 (σ 1 3).toNat ≤ 65535 := C0 2 (σ 1 3).toNat (by decide) (by decide) (by show _ < 200; omega)
    refine x_ald (r := 2) (n := 200) rfl (by decide) rfl (by decide) (fun _ => rfl) rfl (by omega) (by omega) (fun _ _ => ?_)
    refine x_goto ?_
    refine x_blk (b := 2) (a_4 E) rfl ?_
    unfold b_4_2
    refine x_iret ?_
    refine k _ (by omega) (by omega) (Or.inr ⟨?_, z, ct.1⟩)
    unfold y_cx
    rw [if_pos z]
  · refine x_blk (b := 1) (a_4 E) rfl ?_
    unfold b_4_1
    refine x_push (-4) rfl ?_
    refine x_fall ?_
    refine x_blk (b := 2) (a_4 E) rfl ?_
    unfold b_4_2
    refine x_iret ?_
    refine k _ (by decide) (by decide) (Or.inl ⟨rfl, ?_, z⟩)
    unfold y_cx
    rw [if_neg z]
theorem y_sc_fr {σ τ : x_S} (h : y_sc σ τ) : y_fr σ τ := by
  intro r k hk
  refine h r k (fun z => ?_)
  rcases hk with hk | hk | hk
  · omega
  · omega
  · omega
theorem y_chx (f : Int) : (f < 2 ∧ y_ch f = 0) ∨ (f = 2 ∧ y_ch f = 1) ∨ (2 < f ∧ y_ch f = 2) := by
  unfold y_ch
  (repeat' split) <;> omega
/-- a piece at a place: when, and which -/
theorem y_pc1_i {g : Int → Int} {f k p k' : Int} (h : y_pc1 g f k = some (p, k')) : (2 ≤ f ∧ 48 ≤ g k ∧ g k ≤ 50 ∧ 120 ≤ g (k + 1) ∧ (g (k + 1) ≤ 120 ∨ (2 < f ∧ g (k + 1) ≤ 121)) ∧ p = 10 + 2 * (g k - 48) + (g (k + 1) - 120) ∧ k' = k + 2) ∨ (¬ (2 ≤ f ∧ 48 ≤ g k ∧ g k ≤ 50) ∧ 97 ≤ g k ∧ g k ≤ 101 ∧ p = g k - 97 ∧ k' = k + 1) := by
  unfold y_pc1 at h
  split at h
  · rename_i a
    split at h
    · rename_i b
      have h := Option.some.inj h
      have h1 : 10 + 2 * (g k - 48) + (g (k + 1) - 120) = p := congrArg Prod.fst h
      have h2 : k + 2 = k' := congrArg Prod.snd h
      left
      omega
    · cases h
  · rename_i a
    split at h
    · have h := Option.some.inj h
      have h1 : g k - 97 = p := congrArg Prod.fst h
      have h2 : k + 1 = k' := congrArg Prod.snd h
      right
      omega
    · cases h
theorem y_pc1_m {g : Int → Int} {f k p k' : Int} (h : (2 ≤ f ∧ 48 ≤ g k ∧ g k ≤ 50 ∧ 120 ≤ g (k + 1) ∧ (g (k + 1) ≤ 120 ∨ (2 < f ∧ g (k + 1) ≤ 121)) ∧ p = 10 + 2 * (g k - 48) + (g (k + 1) - 120) ∧ k' = k + 2) ∨ (¬ (2 ≤ f ∧ 48 ≤ g k ∧ g k ≤ 50) ∧ 97 ≤ g k ∧ g k ≤ 101 ∧ p = g k - 97 ∧ k' = k + 1)) : y_pc1 g f k = some (p, k') := by
  unfold y_pc1
  rcases h with ⟨a1, a2, a3, a4, a5, a6, a7⟩ | ⟨a1, a2, a3, a4, a5⟩
  · rw [if_pos ⟨a1, a2, a3⟩, if_pos ⟨a4, a5⟩, a6, a7]
  · rw [if_neg a1, if_pos ⟨a2, a3⟩, a4, a5]
/-- how many children a letter has, exact -/
theorem ke_7 {E : q_E} {σ : x_S} {Q : Option q_V → x_S → Prop} {a0 : Int} (a0l : -2147483648 ≤ a0) (a0h : a0 ≤ 2147483647) (k : ∀ v, 0 ≤ v → v ≤ 2 → ((a0 < 2 ∧ v = 0) ∨ (a0 = 2 ∧ v = 1) ∨ (2 < a0 ∧ a0 ≤ 4 ∧ v = 2) ∨ (4 < a0 ∧ v = 0)) → Q (some (x_I v)) σ) : x_P E 7 [x_I a0] σ Q := by
  refine x_Mt e_7 (h_7 E) (Nat.le_of_ble_eq_true rfl) t_7 rfl ?_
  refine x_blk (b := 0) (a_7 E) rfl ?_
  unfold b_7_0
  refine x_iload rfl ?_
  refine x_if_lt (by omega) (by omega) (fun z => ?_) (fun z => ?_)
  · refine x_blk (b := 1) (a_7 E) rfl ?_
    unfold b_7_1
    refine x_push 0 rfl ?_
    refine x_fall ?_
    refine x_blk (b := 2) (a_7 E) rfl ?_
    unfold b_7_2
    refine x_iret ?_
    exact k 0 (by decide) (by decide) (by omega)
  · refine x_iload rfl ?_
    refine x_push 5 rfl ?_
    refine x_icmp_ge (by omega) (by omega) (by omega) (by omega) (fun z2 => ?_) (fun z2 => ?_)
    · refine x_pushv ?_
      refine x_iload rfl ?_
      refine x_chi (by omega) (by omega) ?_
      refine x_goto ?_
      refine x_blk (b := 2) (a_7 E) rfl ?_
      unfold b_7_2
      refine x_iret ?_
      have h5 : a0.toNat = 0 ∨ a0.toNat = 1 ∨ a0.toNat = 2 ∨ a0.toNat = 3 ∨ a0.toNat = 4 := by omega
      rcases h5 with e | e | e | e | e <;> (rw [e]; exact k _ (by decide) (by decide) (by first | exact Or.inl ⟨by omega, rfl⟩ | exact Or.inr (Or.inl ⟨by omega, rfl⟩) | exact Or.inr (Or.inr (Or.inl ⟨by omega, by omega, rfl⟩))))
    · refine x_blk (b := 1) (a_7 E) rfl ?_
      unfold b_7_1
      refine x_push 0 rfl ?_
      refine x_fall ?_
      refine x_blk (b := 2) (a_7 E) rfl ?_
      unfold b_7_2
      refine x_iret ?_
      exact k 0 (by decide) (by decide) (by omega)
theorem ke_8_1 {E : q_E} {σ : x_S} {Q : Option q_V → x_S → Prop} {a1 : Int} (a1l : 1 ≤ a1) (a1h : a1 ≤ 4) (C0 : y_CI σ) (kS : σ 1 4 = 0 → (48 ≤ y_cx σ (σ 1 3) ∧ y_cx σ (σ 1 3) < 48 + a1) → ∀ τ, y_CI τ → y_sc σ τ → τ 1 3 = σ 1 3 + 1 → τ 1 4 = 0 → Q (some (x_I (y_cx σ (σ 1 3) - 48))) τ) (kF : ¬ (σ 1 4 = 0 ∧ (48 ≤ y_cx σ (σ 1 3) ∧ y_cx σ (σ 1 3) < 48 + a1)) → ∀ τ, y_CI τ → y_sc σ τ → τ 1 3 = σ 1 3 → τ 1 4 = 1 → Q (some (x_I 0)) τ) : x_P E 8 [x_R 1, x_I a1] σ Q := by
  have c4 : 0 ≤ σ 1 4 ∧ σ 1 4 ≤ 1 := C0 1 4 (by decide) (by decide) (by decide)
  have c3 : 0 ≤ σ 1 3 ∧ σ 1 3 ≤ 200 := C0 1 3 (by decide) (by decide) (by decide)
  have c2 : 0 ≤ σ 1 2 ∧ σ 1 2 ≤ 200 := C0 1 2 (by decide) (by decide) (by decide)
  refine x_Mt e_8 (h_8 E) (Nat.le_of_ble_eq_true rfl) t_8 rfl ?_
  refine x_blk (b := 0) (a_8 E) rfl ?_
  unfold b_8_0
  refine x_aload rfl ?_
  refine x_cV (fun _ => rfl) rfl (by decide) (Nat.le_of_ble_eq_true rfl) ?_
  refine ke_4_1 C0 (fun v1 v1a v1b v1c => ?_)
  refine x_push 48 rfl ?_
  refine x_isub ?_
  refine x_istore ?_
  refine x_aload rfl ?_
  refine x_getIG y_f1_4 C0 ?_
  intro g2a g2b
  refine x_if_ne (by omega) (by omega) (fun z3 => ?_) (fun z3 => ?_)
  · skip
    refine x_iload rfl ?_
    refine x_iload rfl ?_
    refine x_cS (fun _ => rfl) (Nat.le_of_ble_eq_true rfl) ?_
    refine sf_2 (by omega) (by omega) (by omega) (by omega) C0 (fun y4 => ?_) (fun y4 => ?_)
    · skip
      refine x_if_ne (by omega) (by omega) (fun z => absurd z (by omega)) (fun z5 => ?_)
      refine x_blk (b := 2) (a_8 E) rfl ?_
      unfold b_8_2
      refine x_aload rfl ?_
      refine x_dup rfl ?_
      refine x_getIG y_f1_3 C0 ?_
      intro g6a g6b
      refine x_push 1 rfl ?_
      refine x_iadd ?_
      refine x_putIG y_f1_3 ⟨by decide, rfl⟩ (by decide) C0 (by decide) (y_fr_rf (lo := 0) (hi := 138)) (by omega) (by omega) (fun S7 e7 C7 F7 => ?_)
      refine x_iload rfl ?_
      refine x_iret ?_
      refine x_fin (b := y_cx σ (σ 1 3) - 48) (by omega) ?_
      exact kS (by omega) (by omega) _ C7 (y_sc_up e7 (by decide)) (x_up_at e7) ((x_up_ne e7 (by decide)).trans (by omega))
    · skip
      refine x_if_ne (by omega) (by omega) (fun z8 => ?_) (fun z => absurd (by omega) z)
      refine x_fall ?_
      refine x_blk (b := 1) (a_8 E) rfl ?_
      unfold b_8_1
      refine x_aload rfl ?_
      refine x_push 1 rfl ?_
      refine x_putZG y_f1_4 rfl (by decide) C0 (by decide) (y_fr_rf (lo := 0) (hi := 138)) (by omega) (fun S9 e9 C9 F9 => ?_)
      refine x_push 0 rfl ?_
      refine x_iret ?_
      exact kF (by omega) _ C9 (y_sc_up e9 (by decide)) (x_up_ne e9 (by decide)) (x_up_at e9)
  · skip
    refine x_blk (b := 1) (a_8 E) rfl ?_
    unfold b_8_1
    refine x_aload rfl ?_
    refine x_push 1 rfl ?_
    refine x_putZG y_f1_4 rfl (by decide) C0 (by decide) (y_fr_rf (lo := 0) (hi := 138)) (by omega) (fun S10 e10 C10 F10 => ?_)
    refine x_push 0 rfl ?_
    refine x_iret ?_
    exact kF (by omega) _ C10 (y_sc_up e10 (by decide)) (x_up_ne e10 (by decide)) (x_up_at e10)
theorem ke_9_1 {E : q_E} {σ : x_S} {Q : Option q_V → x_S → Prop} {a1 : Int} (a1l : 1 ≤ a1) (a1h : a1 ≤ 65535) (C0 : y_CI σ) (kS : σ 1 4 = 0 → y_cx σ (σ 1 3) = a1 → ∀ τ, y_CI τ → y_sc σ τ → τ 1 3 = σ 1 3 + 1 → τ 1 4 = 0 → Q none τ) (kF : ¬ (σ 1 4 = 0 ∧ y_cx σ (σ 1 3) = a1) → ∀ τ, y_CI τ → y_sc σ τ → τ 1 3 = σ 1 3 → τ 1 4 = 1 → Q none τ) : x_P E 9 [x_R 1, x_I a1] σ Q := by
  have c4 : 0 ≤ σ 1 4 ∧ σ 1 4 ≤ 1 := C0 1 4 (by decide) (by decide) (by decide)
  have c3 : 0 ≤ σ 1 3 ∧ σ 1 3 ≤ 200 := C0 1 3 (by decide) (by decide) (by decide)
  have c2 : 0 ≤ σ 1 2 ∧ σ 1 2 ≤ 200 := C0 1 2 (by decide) (by decide) (by decide)
  refine x_Mt e_9 (h_9 E) (Nat.le_of_ble_eq_true rfl) t_9 rfl ?_
  refine x_blk (b := 0) (a_9 E) rfl ?_
  unfold b_9_0
  refine x_aload rfl ?_
  refine x_getIG y_f1_4 C0 ?_
  intro g1a g1b
  refine x_if_ne (by omega) (by omega) (fun z2 => ?_) (fun z2 => ?_)
  · skip
    refine x_aload rfl ?_
    refine x_cV (fun _ => rfl) rfl (by decide) (Nat.le_of_ble_eq_true rfl) ?_
    refine ke_4_1 C0 (fun v3 v3a v3b v3c => ?_)
    refine x_iload rfl ?_
    refine x_icmp_eq (by omega) (by omega) (by omega) (by omega) (fun z4 => ?_) (fun z4 => ?_)
    · skip
      refine x_blk (b := 2) (a_9 E) rfl ?_
      unfold b_9_2
      refine x_aload rfl ?_
      refine x_dup rfl ?_
      refine x_getIG y_f1_3 C0 ?_
      intro g5a g5b
      refine x_push 1 rfl ?_
      refine x_iadd ?_
      refine x_putIG y_f1_3 ⟨by decide, rfl⟩ (by decide) C0 (by decide) (y_fr_rf (lo := 0) (hi := 138)) (by omega) (by omega) (fun S6 e6 C6 F6 => ?_)
      refine x_vret ?_
      exact kS (by omega) (by omega) _ C6 (y_sc_up e6 (by decide)) (x_up_at e6) ((x_up_ne e6 (by decide)).trans (by omega))
    · skip
      refine x_fall ?_
      refine x_blk (b := 1) (a_9 E) rfl ?_
      unfold b_9_1
      refine x_aload rfl ?_
      refine x_push 1 rfl ?_
      refine x_putZG y_f1_4 rfl (by decide) C0 (by decide) (y_fr_rf (lo := 0) (hi := 138)) (by omega) (fun S7 e7 C7 F7 => ?_)
      refine x_vret ?_
      exact kF (by omega) _ C7 (y_sc_up e7 (by decide)) (x_up_ne e7 (by decide)) (x_up_at e7)
  · skip
    refine x_blk (b := 1) (a_9 E) rfl ?_
    unfold b_9_1
    refine x_aload rfl ?_
    refine x_push 1 rfl ?_
    refine x_putZG y_f1_4 rfl (by decide) C0 (by decide) (y_fr_rf (lo := 0) (hi := 138)) (by omega) (fun S8 e8 C8 F8 => ?_)
    refine x_vret ?_
    exact kF (by omega) _ C8 (y_sc_up e8 (by decide)) (x_up_ne e8 (by decide)) (x_up_at e8)
theorem ke_15_1 {E : q_E} {σ : x_S} {Q : Option q_V → x_S → Prop} (C0 : y_CI σ) (kS : σ 1 4 = 0 → (97 ≤ y_cx σ (σ 1 3) ∧ y_cx σ (σ 1 3) ≤ 101) → ∀ τ, y_CI τ → y_sc σ τ → τ 1 3 = σ 1 3 + 1 → τ 1 4 = 0 → Q (some (x_I (y_cx σ (σ 1 3) - 97))) τ) (kF : ¬ (σ 1 4 = 0 ∧ (97 ≤ y_cx σ (σ 1 3) ∧ y_cx σ (σ 1 3) ≤ 101)) → ∀ τ, y_CI τ → y_sc σ τ → τ 1 3 = σ 1 3 → τ 1 4 = 1 → Q (some (x_I 0)) τ) : x_P E 15 [x_R 1] σ Q := by
  have c4 : 0 ≤ σ 1 4 ∧ σ 1 4 ≤ 1 := C0 1 4 (by decide) (by decide) (by decide)
  have c3 : 0 ≤ σ 1 3 ∧ σ 1 3 ≤ 200 := C0 1 3 (by decide) (by decide) (by decide)
  have c2 : 0 ≤ σ 1 2 ∧ σ 1 2 ≤ 200 := C0 1 2 (by decide) (by decide) (by decide)
  refine x_Mt e_15 (h_15 E) (Nat.le_of_ble_eq_true rfl) t_15 rfl ?_
  refine x_blk (b := 0) (a_15 E) rfl ?_
  unfold b_15_0
  refine x_aload rfl ?_
  refine x_cV (fun _ => rfl) rfl (by decide) (Nat.le_of_ble_eq_true rfl) ?_
  refine ke_4_1 C0 (fun v1 v1a v1b v1c => ?_)
  refine x_push 97 rfl ?_
  refine x_isub ?_
  refine x_istore ?_
  refine x_aload rfl ?_
  refine x_getIG y_f1_4 C0 ?_
  intro g2a g2b
  refine x_if_ne (by omega) (by omega) (fun z3 => ?_) (fun z3 => ?_)
  · skip
    refine x_iload rfl ?_
    refine x_push 5 rfl ?_
    refine x_cS (fun _ => rfl) (Nat.le_of_ble_eq_true rfl) ?_
    refine sf_2 (by omega) (by omega) (by omega) (by omega) C0 (fun y4 => ?_) (fun y4 => ?_)
    · skip
      refine x_if_ne (by omega) (by omega) (fun z => absurd z (by omega)) (fun z5 => ?_)
      refine x_blk (b := 2) (a_15 E) rfl ?_
      unfold b_15_2
      refine x_aload rfl ?_
      refine x_dup rfl ?_
      refine x_getIG y_f1_3 C0 ?_
      intro g6a g6b
      refine x_push 1 rfl ?_
      refine x_iadd ?_
      refine x_putIG y_f1_3 ⟨by decide, rfl⟩ (by decide) C0 (by decide) (y_fr_rf (lo := 0) (hi := 138)) (by omega) (by omega) (fun S7 e7 C7 F7 => ?_)
      refine x_iload rfl ?_
      refine x_iret ?_
      refine x_fin (b := y_cx σ (σ 1 3) - 97) (by omega) ?_
      exact kS (by omega) (by omega) _ C7 (y_sc_up e7 (by decide)) (x_up_at e7) ((x_up_ne e7 (by decide)).trans (by omega))
    · skip
      refine x_if_ne (by omega) (by omega) (fun z8 => ?_) (fun z => absurd (by omega) z)
      refine x_fall ?_
      refine x_blk (b := 1) (a_15 E) rfl ?_
      unfold b_15_1
      refine x_aload rfl ?_
      refine x_push 1 rfl ?_
      refine x_putZG y_f1_4 rfl (by decide) C0 (by decide) (y_fr_rf (lo := 0) (hi := 138)) (by omega) (fun S9 e9 C9 F9 => ?_)
      refine x_push 0 rfl ?_
      refine x_iret ?_
      exact kF (by omega) _ C9 (y_sc_up e9 (by decide)) (x_up_ne e9 (by decide)) (x_up_at e9)
  · skip
    refine x_blk (b := 1) (a_15 E) rfl ?_
    unfold b_15_1
    refine x_aload rfl ?_
    refine x_push 1 rfl ?_
    refine x_putZG y_f1_4 rfl (by decide) C0 (by decide) (y_fr_rf (lo := 0) (hi := 138)) (by omega) (fun S10 e10 C10 F10 => ?_)
    refine x_push 0 rfl ?_
    refine x_iret ?_
    exact kF (by omega) _ C10 (y_sc_up e10 (by decide)) (x_up_ne e10 (by decide)) (x_up_at e10)
theorem ke_20_1 {E : q_E} {σ : x_S} {Q : Option q_V → x_S → Prop} (C0 : y_CI σ) (kS : σ 1 4 = 0 → (y_cx σ (σ 1 3) = 42 ∨ (48 ≤ y_cx σ (σ 1 3) ∧ y_cx σ (σ 1 3) ≤ 49)) → ∀ τ, y_CI τ → y_sc σ τ → τ 1 3 = σ 1 3 + 1 → τ 1 4 = 0 → Q (some (x_I (y_lk (y_cx σ (σ 1 3))))) τ) (kF : ¬ (σ 1 4 = 0 ∧ (y_cx σ (σ 1 3) = 42 ∨ (48 ≤ y_cx σ (σ 1 3) ∧ y_cx σ (σ 1 3) ≤ 49))) → ∀ τ, y_CI τ → y_sc σ τ → τ 1 3 = σ 1 3 → τ 1 4 = 1 → Q (some (x_I 0)) τ) : x_P E 20 [x_R 1] σ Q := by
  have c4 : 0 ≤ σ 1 4 ∧ σ 1 4 ≤ 1 := C0 1 4 (by decide) (by decide) (by decide)
  have c3 : 0 ≤ σ 1 3 ∧ σ 1 3 ≤ 200 := C0 1 3 (by decide) (by decide) (by decide)
  have c2 : 0 ≤ σ 1 2 ∧ σ 1 2 ≤ 200 := C0 1 2 (by decide) (by decide) (by decide)
  refine x_Mt e_20 (h_20 E) (Nat.le_of_ble_eq_true rfl) t_20 rfl ?_
  refine x_blk (b := 0) (a_20 E) rfl ?_
  unfold b_20_0
  refine x_aload rfl ?_
  refine x_getIG y_f1_4 C0 ?_
  intro g1a g1b
  refine x_if_ne (by omega) (by omega) (fun z2 => ?_) (fun z2 => ?_)
  · skip
    refine x_aload rfl ?_
    refine x_cV (fun _ => rfl) rfl (by decide) (Nat.le_of_ble_eq_true rfl) ?_
    refine ke_4_1 C0 (fun v3 v3a v3b v3c => ?_)
    refine x_push 42 rfl ?_
    refine x_icmp_ne (by omega) (by omega) (by omega) (by omega) (fun z4 => ?_) (fun z4 => ?_)
    · skip
      refine x_aload rfl ?_
      refine x_dup rfl ?_
      refine x_getIG y_f1_3 C0 ?_
      intro g5a g5b
      refine x_push 1 rfl ?_
      refine x_iadd ?_
      refine x_putIG y_f1_3 ⟨by decide, rfl⟩ (by decide) C0 (by decide) (y_fr_rf (lo := 0) (hi := 138)) (by omega) (by omega) (fun S6 e6 C6 F6 => ?_)
      refine x_push 2 rfl ?_
      refine x_iret ?_
      refine x_fin (b := y_lk (y_cx σ (σ 1 3))) (by unfold y_lk; rw [if_pos (by omega)]) ?_
      exact kS (by omega) (by omega) _ C6 (y_sc_up e6 (by decide)) (x_up_at e6) ((x_up_ne e6 (by decide)).trans (by omega))
    · skip
      refine x_blk (b := 1) (a_20 E) rfl ?_
      unfold b_20_1
      refine x_aload rfl ?_
      refine x_push 2 rfl ?_
      refine x_cV (fun _ => rfl) rfl (by decide) (Nat.le_of_ble_eq_true rfl) ?_
      refine ke_8_1 (by omega) (by omega) C0 (fun s7 c7 S7 C7 f7 p7 q7 => ?_) (fun n7 S7 C7 f7 p7 q7 => ?_)
      · skip
        have F7 := y_fr_tr (y_fr_rf (lo := 0) (hi := 138)) (y_sc_fr f7)
        have x7 := y_sc_x f7
        refine x_iret ?_
        refine x_fin (b := y_lk (y_cx σ (σ 1 3))) (by unfold y_lk; rw [if_neg (by omega)]) ?_
        exact kS (by omega) (by omega) _ C7 f7 p7 q7
      · skip
        have F7 := y_fr_tr (y_fr_rf (lo := 0) (hi := 138)) (y_sc_fr f7)
        have x7 := y_sc_x f7
        refine x_iret ?_
        exact kF (by omega) _ C7 f7 p7 q7
  · skip
    refine x_blk (b := 1) (a_20 E) rfl ?_
    unfold b_20_1
    refine x_aload rfl ?_
    refine x_push 2 rfl ?_
    refine x_cV (fun _ => rfl) rfl (by decide) (Nat.le_of_ble_eq_true rfl) ?_
    refine ke_8_1 (by omega) (by omega) C0 (fun s8 c8 S8 C8 f8 p8 q8 => ?_) (fun n8 S8 C8 f8 p8 q8 => ?_)
    · skip
      have F8 := y_fr_tr (y_fr_rf (lo := 0) (hi := 138)) (y_sc_fr f8)
      have x8 := y_sc_x f8
      refine x_iret ?_
      refine x_fin (b := y_lk (y_cx σ (σ 1 3))) (by unfold y_lk; rw [if_neg (by omega)]) ?_
      exact kS (by omega) (by omega) _ C8 f8 p8 q8
    · skip
      have F8 := y_fr_tr (y_fr_rf (lo := 0) (hi := 138)) (y_sc_fr f8)
      have x8 := y_sc_x f8
      refine x_iret ?_
      exact kF (by omega) _ C8 f8 p8 q8
theorem ke_26_1 {E : q_E} {σ : x_S} {Q : Option q_V → x_S → Prop} {a1 : Int} (a1l : -1 ≤ a1) (a1h : a1 ≤ 4) (C0 : y_CI σ) (kS : σ 1 4 = 0 → (120 ≤ y_cx σ (σ 1 3) ∧ y_cx σ (σ 1 3) < 120 + y_ch a1) → ∀ τ, y_CI τ → y_sc σ τ → τ 1 3 = σ 1 3 + 1 → τ 1 4 = 0 → Q (some (x_I (y_cx σ (σ 1 3) - 120))) τ) (kF : ¬ (σ 1 4 = 0 ∧ (120 ≤ y_cx σ (σ 1 3) ∧ y_cx σ (σ 1 3) < 120 + y_ch a1)) → ∀ τ, y_CI τ → y_sc σ τ → τ 1 3 = σ 1 3 → τ 1 4 = 1 → Q (some (x_I 0)) τ) : x_P E 26 [x_R 1, x_I a1] σ Q := by
  have c4 : 0 ≤ σ 1 4 ∧ σ 1 4 ≤ 1 := C0 1 4 (by decide) (by decide) (by decide)
  have c3 : 0 ≤ σ 1 3 ∧ σ 1 3 ≤ 200 := C0 1 3 (by decide) (by decide) (by decide)
  have c2 : 0 ≤ σ 1 2 ∧ σ 1 2 ≤ 200 := C0 1 2 (by decide) (by decide) (by decide)
  have hy := y_chx a1
  refine x_Mt e_26 (h_26 E) (Nat.le_of_ble_eq_true rfl) t_26 rfl ?_
  refine x_blk (b := 0) (a_26 E) rfl ?_
  unfold b_26_0
  refine x_aload rfl ?_
  refine x_cV (fun _ => rfl) rfl (by decide) (Nat.le_of_ble_eq_true rfl) ?_
  refine ke_4_1 C0 (fun v1 v1a v1b v1c => ?_)
  refine x_push 120 rfl ?_
  refine x_isub ?_
  refine x_istore ?_
  refine x_aload rfl ?_
  refine x_getIG y_f1_4 C0 ?_
  intro g2a g2b
  refine x_if_ne (by omega) (by omega) (fun z3 => ?_) (fun z3 => ?_)
  · skip
    refine x_iload rfl ?_
    refine x_iload rfl ?_
    refine x_cS (fun _ => rfl) (Nat.le_of_ble_eq_true rfl) ?_
    refine ke_7 (by omega) (by omega) (fun v4 v4a v4b v4c => ?_)
    refine x_cS (fun _ => rfl) (Nat.le_of_ble_eq_true rfl) ?_
    refine sf_2 (by omega) (by omega) (by omega) (by omega) C0 (fun y5 => ?_) (fun y5 => ?_)
    · skip
      refine x_if_ne (by omega) (by omega) (fun z => absurd z (by omega)) (fun z6 => ?_)
      refine x_blk (b := 2) (a_26 E) rfl ?_
      unfold b_26_2
      refine x_aload rfl ?_
      refine x_dup rfl ?_
      refine x_getIG y_f1_3 C0 ?_
      intro g7a g7b
      refine x_push 1 rfl ?_
      refine x_iadd ?_
      refine x_putIG y_f1_3 ⟨by decide, rfl⟩ (by decide) C0 (by decide) (y_fr_rf (lo := 0) (hi := 138)) (by omega) (by omega) (fun S8 e8 C8 F8 => ?_)
      refine x_iload rfl ?_
      refine x_iret ?_
      refine x_fin (b := y_cx σ (σ 1 3) - 120) (by omega) ?_
      exact kS (by omega) (by omega) _ C8 (y_sc_up e8 (by decide)) (x_up_at e8) ((x_up_ne e8 (by decide)).trans (by omega))
    · skip
      refine x_if_ne (by omega) (by omega) (fun z9 => ?_) (fun z => absurd (by omega) z)
      refine x_fall ?_
      refine x_blk (b := 1) (a_26 E) rfl ?_
      unfold b_26_1
      refine x_aload rfl ?_
      refine x_push 1 rfl ?_
      refine x_putZG y_f1_4 rfl (by decide) C0 (by decide) (y_fr_rf (lo := 0) (hi := 138)) (by omega) (fun S10 e10 C10 F10 => ?_)
      refine x_push 0 rfl ?_
      refine x_iret ?_
      exact kF (by omega) _ C10 (y_sc_up e10 (by decide)) (x_up_ne e10 (by decide)) (x_up_at e10)
  · skip
    refine x_blk (b := 1) (a_26 E) rfl ?_
    unfold b_26_1
    refine x_aload rfl ?_
    refine x_push 1 rfl ?_
    refine x_putZG y_f1_4 rfl (by decide) C0 (by decide) (y_fr_rf (lo := 0) (hi := 138)) (by omega) (fun S11 e11 C11 F11 => ?_)
    refine x_push 0 rfl ?_
    refine x_iret ?_
    exact kF (by omega) _ C11 (y_sc_up e11 (by decide)) (x_up_ne e11 (by decide)) (x_up_at e11)
theorem ke_13_1 {E : q_E} {σ : x_S} {Q : Option q_V → x_S → Prop} {a1 a2 : Int} (a1l : -1 ≤ a1) (a1h : a1 ≤ 4) (a2l : -2147483648 ≤ a2) (a2h : a2 ≤ 2147483647) (C0 : y_CI σ) (kS : ∀ p k1, σ 1 4 = 0 → y_pc1 (y_cx σ) a1 (σ 1 3) = some (p, k1) → (p ≤ 9 → y_ch p ≤ a2) → ∀ τ, y_CI τ → y_sc σ τ → τ 1 3 = k1 → τ 1 4 = 0 → Q (some (x_I p)) τ) (kF : ¬ (σ 1 4 = 0 ∧ ∃ p k1, y_pc1 (y_cx σ) a1 (σ 1 3) = some (p, k1) ∧ (p ≤ 9 → y_ch p ≤ a2)) → ∀ τ v, y_CI τ → y_sc σ τ → σ 1 3 ≤ τ 1 3 → τ 1 4 = 1 → 0 ≤ v → v ≤ 15 → Q (some (x_I v)) τ) : x_P E 13 [x_R 1, x_I a1, x_I a2] σ Q := by
  have c4 : 0 ≤ σ 1 4 ∧ σ 1 4 ≤ 1 := C0 1 4 (by decide) (by decide) (by decide)
  have c3 : 0 ≤ σ 1 3 ∧ σ 1 3 ≤ 200 := C0 1 3 (by decide) (by decide) (by decide)
  have c2 : 0 ≤ σ 1 2 ∧ σ 1 2 ≤ 200 := C0 1 2 (by decide) (by decide) (by decide)
  have hy := y_chx a1
  refine x_Mt e_13 (h_13 E) (Nat.le_of_ble_eq_true rfl) t_13 rfl ?_
  refine x_blk (b := 0) (a_13 E) rfl ?_
  unfold b_13_0
  refine x_aload rfl ?_
  refine x_cV (fun _ => rfl) rfl (by decide) (Nat.le_of_ble_eq_true rfl) ?_
  refine ke_4_1 C0 (fun v1 v1a v1b v1c => ?_)
  refine x_istore ?_
  refine x_iload rfl ?_
  refine x_push 48 rfl ?_
  refine x_icmp_lt (by omega) (by omega) (by omega) (by omega) (fun z2 => ?_) (fun z2 => ?_)
  · skip
    refine x_blk (b := 1) (a_13 E) rfl ?_
    unfold b_13_1
    refine x_iload rfl ?_
    refine x_push 97 rfl ?_
    refine x_isub ?_
    refine x_istore ?_
    refine x_X_lo (lo' := [(0, x_R 1), (1, x_I _), (2, x_I _), (3, x_I _), (4, x_I _)]) ⟨rfl, rfl, rfl, rfl, rfl, trivial⟩ ?_
    refine x_aload rfl ?_
    refine x_getIG y_f1_4 C0 ?_
    intro g3a g3b
    refine x_if_ne (by omega) (by omega) (fun z4 => ?_) (fun z4 => ?_)
    · skip
      refine x_iload rfl ?_
      refine x_push 5 rfl ?_
      refine x_cS (fun _ => rfl) (Nat.le_of_ble_eq_true rfl) ?_
      refine sf_2 (by omega) (by omega) (by omega) (by omega) C0 (fun y5 => ?_) (fun y5 => ?_)
      · skip
        refine x_if_eq (by omega) (by omega) (fun z => absurd z (by omega)) (fun z6 => ?_)
        refine x_iload rfl ?_
        refine x_cS (fun _ => rfl) (Nat.le_of_ble_eq_true rfl) ?_
        refine ke_7 (by omega) (by omega) (fun v7 v7a v7b v7c => ?_)
        refine x_iload rfl ?_
        refine x_icmp_le (by omega) (by omega) (by omega) (by omega) (fun z8 => ?_) (fun z8 => ?_)
        · skip
          refine x_blk (b := 3) (a_13 E) rfl ?_
          unfold b_13_3
          refine x_aload rfl ?_
          refine x_dup rfl ?_
          refine x_getIG y_f1_3 C0 ?_
          intro g9a g9b
          refine x_push 1 rfl ?_
          refine x_iadd ?_
          refine x_putIG y_f1_3 ⟨by decide, rfl⟩ (by decide) C0 (by decide) (y_fr_rf (lo := 0) (hi := 138)) (by omega) (by omega) (fun S10 e10 C10 F10 => ?_)
          refine x_iload rfl ?_
          refine x_iret ?_
          have hq := y_chx (y_cx σ (σ 1 3) - 97)
          have q4 := x_up_ne e10 (r' := 1) (k' := 4) (by decide)
          refine x_fin (b := y_cx σ (σ 1 3) - 97) (by omega) ?_
          exact kS _ _ (by omega) (y_pc1_m (k' := σ 1 3 + 1) (by omega)) (fun h => by omega) _ C10 (y_sc_up e10 (by decide)) (x_up_at e10) (by omega)
        · skip
          refine x_fall ?_
          refine x_blk (b := 2) (a_13 E) rfl ?_
          unfold b_13_2
          refine x_aload rfl ?_
          refine x_push 1 rfl ?_
          refine x_putZG y_f1_4 rfl (by decide) C0 (by decide) (y_fr_rf (lo := 0) (hi := 138)) (by omega) (fun S11 e11 C11 F11 => ?_)
          refine x_push 0 rfl ?_
          refine x_iret ?_
          have q3 := x_up_ne e11 (r' := 1) (k' := 3) (by decide)
          exact kF (fun h => by obtain ⟨h0, p, k1, h1, h2⟩ := h; have h3 := y_pc1_i h1; have h4 := y_chx p; omega) _ _ C11 (y_sc_up e11 (by decide)) (by omega) (x_up_at e11) (by decide) (by decide)
      · skip
        refine x_if_eq (by omega) (by omega) (fun z12 => ?_) (fun z => absurd (by omega) z)
        refine x_blk (b := 2) (a_13 E) rfl ?_
        unfold b_13_2
        refine x_aload rfl ?_
        refine x_push 1 rfl ?_
        refine x_putZG y_f1_4 rfl (by decide) C0 (by decide) (y_fr_rf (lo := 0) (hi := 138)) (by omega) (fun S13 e13 C13 F13 => ?_)
        refine x_push 0 rfl ?_
        refine x_iret ?_
        have q3 := x_up_ne e13 (r' := 1) (k' := 3) (by decide)
        exact kF (fun h => by obtain ⟨h0, p, k1, h1, h2⟩ := h; have h3 := y_pc1_i h1; have h4 := y_chx p; omega) _ _ C13 (y_sc_up e13 (by decide)) (by omega) (x_up_at e13) (by decide) (by decide)
    · skip
      refine x_blk (b := 2) (a_13 E) rfl ?_
      unfold b_13_2
      refine x_aload rfl ?_
      refine x_push 1 rfl ?_
      refine x_putZG y_f1_4 rfl (by decide) C0 (by decide) (y_fr_rf (lo := 0) (hi := 138)) (by omega) (fun S14 e14 C14 F14 => ?_)
      refine x_push 0 rfl ?_
      refine x_iret ?_
      have q3 := x_up_ne e14 (r' := 1) (k' := 3) (by decide)
      exact kF (fun h => by obtain ⟨h0, p, k1, h1, h2⟩ := h; have h3 := y_pc1_i h1; have h4 := y_chx p; omega) _ _ C14 (y_sc_up e14 (by decide)) (by omega) (x_up_at e14) (by decide) (by decide)
  · skip
    refine x_iload rfl ?_
    refine x_push 57 rfl ?_
    refine x_icmp_gt (by omega) (by omega) (by omega) (by omega) (fun z15 => ?_) (fun z15 => ?_)
    · skip
      refine x_iload rfl ?_
      refine x_cS (fun _ => rfl) (Nat.le_of_ble_eq_true rfl) ?_
      refine ke_7 (by omega) (by omega) (fun v16 v16a v16b v16c => ?_)
      refine x_if_le (by omega) (by omega) (fun z17 => ?_) (fun z17 => ?_)
      · skip
        refine x_blk (b := 1) (a_13 E) rfl ?_
        unfold b_13_1
        refine x_iload rfl ?_
        refine x_push 97 rfl ?_
        refine x_isub ?_
        refine x_istore ?_
        refine x_X_lo (lo' := [(0, x_R 1), (1, x_I _), (2, x_I _), (3, x_I _), (4, x_I _)]) ⟨rfl, rfl, rfl, rfl, rfl, trivial⟩ ?_
        refine x_aload rfl ?_
        refine x_getIG y_f1_4 C0 ?_
        intro g18a g18b
        refine x_if_ne (by omega) (by omega) (fun z19 => ?_) (fun z19 => ?_)
        · skip
          refine x_iload rfl ?_
          refine x_push 5 rfl ?_
          refine x_cS (fun _ => rfl) (Nat.le_of_ble_eq_true rfl) ?_
          refine sf_2 (by omega) (by omega) (by omega) (by omega) C0 (fun y20 => ?_) (fun y20 => ?_)
          · skip
            refine x_if_eq (by omega) (by omega) (fun z => absurd z (by omega)) (fun z21 => ?_)
            refine x_iload rfl ?_
            refine x_cS (fun _ => rfl) (Nat.le_of_ble_eq_true rfl) ?_
            refine ke_7 (by omega) (by omega) (fun v22 v22a v22b v22c => ?_)
            refine x_iload rfl ?_
            refine x_icmp_le (by omega) (by omega) (by omega) (by omega) (fun z23 => ?_) (fun z23 => ?_)
            · skip
              refine x_blk (b := 3) (a_13 E) rfl ?_
              unfold b_13_3
              refine x_aload rfl ?_
              refine x_dup rfl ?_
              refine x_getIG y_f1_3 C0 ?_
              intro g24a g24b
              refine x_push 1 rfl ?_
              refine x_iadd ?_
              refine x_putIG y_f1_3 ⟨by decide, rfl⟩ (by decide) C0 (by decide) (y_fr_rf (lo := 0) (hi := 138)) (by omega) (by omega) (fun S25 e25 C25 F25 => ?_)
              refine x_iload rfl ?_
              refine x_iret ?_
              have hq := y_chx (y_cx σ (σ 1 3) - 97)
              have q4 := x_up_ne e25 (r' := 1) (k' := 4) (by decide)
              refine x_fin (b := y_cx σ (σ 1 3) - 97) (by omega) ?_
              exact kS _ _ (by omega) (y_pc1_m (k' := σ 1 3 + 1) (by omega)) (fun h => by omega) _ C25 (y_sc_up e25 (by decide)) (x_up_at e25) (by omega)
            · skip
              refine x_fall ?_
              refine x_blk (b := 2) (a_13 E) rfl ?_
              unfold b_13_2
              refine x_aload rfl ?_
              refine x_push 1 rfl ?_
              refine x_putZG y_f1_4 rfl (by decide) C0 (by decide) (y_fr_rf (lo := 0) (hi := 138)) (by omega) (fun S26 e26 C26 F26 => ?_)
              refine x_push 0 rfl ?_
              refine x_iret ?_
              have q3 := x_up_ne e26 (r' := 1) (k' := 3) (by decide)
              exact kF (fun h => by obtain ⟨h0, p, k1, h1, h2⟩ := h; have h3 := y_pc1_i h1; have h4 := y_chx p; omega) _ _ C26 (y_sc_up e26 (by decide)) (by omega) (x_up_at e26) (by decide) (by decide)
          · skip
            refine x_if_eq (by omega) (by omega) (fun z27 => ?_) (fun z => absurd (by omega) z)
            refine x_blk (b := 2) (a_13 E) rfl ?_
            unfold b_13_2
            refine x_aload rfl ?_
            refine x_push 1 rfl ?_
            refine x_putZG y_f1_4 rfl (by decide) C0 (by decide) (y_fr_rf (lo := 0) (hi := 138)) (by omega) (fun S28 e28 C28 F28 => ?_)
            refine x_push 0 rfl ?_
            refine x_iret ?_
            have q3 := x_up_ne e28 (r' := 1) (k' := 3) (by decide)
            exact kF (fun h => by obtain ⟨h0, p, k1, h1, h2⟩ := h; have h3 := y_pc1_i h1; have h4 := y_chx p; omega) _ _ C28 (y_sc_up e28 (by decide)) (by omega) (x_up_at e28) (by decide) (by decide)
        · skip
          refine x_blk (b := 2) (a_13 E) rfl ?_
          unfold b_13_2
          refine x_aload rfl ?_
          refine x_push 1 rfl ?_
          refine x_putZG y_f1_4 rfl (by decide) C0 (by decide) (y_fr_rf (lo := 0) (hi := 138)) (by omega) (fun S29 e29 C29 F29 => ?_)
          refine x_push 0 rfl ?_
          refine x_iret ?_
          have q3 := x_up_ne e29 (r' := 1) (k' := 3) (by decide)
          exact kF (fun h => by obtain ⟨h0, p, k1, h1, h2⟩ := h; have h3 := y_pc1_i h1; have h4 := y_chx p; omega) _ _ C29 (y_sc_up e29 (by decide)) (by omega) (x_up_at e29) (by decide) (by decide)
      · skip
        refine x_aload rfl ?_
        refine x_push 3 rfl ?_
        refine x_cV (fun _ => rfl) rfl (by decide) (Nat.le_of_ble_eq_true rfl) ?_
        refine ke_8_1 (by omega) (by omega) C0 (fun s30 c30 S30 C30 f30 p30 q30 => ?_) (fun n30 S30 C30 f30 p30 q30 => ?_)
        · skip
          have F30 := y_fr_tr (y_fr_rf (lo := 0) (hi := 138)) (y_sc_fr f30)
          have x30 := y_sc_x f30
          have g30 : y_cx S30 (S30 1 3) = y_cx σ (σ 1 3 + 1) := by rw [p30]; exact x30 _
          refine x_istore ?_
          refine x_X_lo (lo' := [(0, x_R 1), (1, x_I _), (2, x_I _), (3, x_I _), (4, x_I _)]) ⟨rfl, rfl, rfl, rfl, rfl, trivial⟩ ?_
          refine x_push 10 rfl ?_
          refine x_push 2 rfl ?_
          refine x_iload rfl ?_
          refine x_imul ?_
          refine x_iadd ?_
          refine x_aload rfl ?_
          refine x_iload rfl ?_
          refine x_cV (fun _ => rfl) rfl (by decide) (Nat.le_of_ble_eq_true rfl) ?_
          refine ke_26_1 (by omega) (by omega) C30 (fun s31 c31 S31 C31 f31 p31 q31 => ?_) (fun n31 S31 C31 f31 p31 q31 => ?_)
          · skip
            have F31 := y_fr_tr F30 (y_sc_fr f31)
            refine x_iadd ?_
            refine x_iret ?_
            refine x_fin (b := 10 + 2 * (y_cx σ (σ 1 3) - 48) + (y_cx σ (σ 1 3 + 1) - 120)) (by omega) ?_
            exact kS _ _ (by omega) (y_pc1_m (k' := σ 1 3 + 2) (by omega)) (fun h => absurd h (by omega)) _ C31 (y_sc_tr f30 f31) (by omega) (by omega)
          · skip
            have F31 := y_fr_tr F30 (y_sc_fr f31)
            refine x_iadd ?_
            refine x_iret ?_
            exact kF (fun h => by obtain ⟨h0, p, k1, h1, h2⟩ := h; have h3 := y_pc1_i h1; have h4 := y_chx p; omega) _ _ C31 (y_sc_tr f30 f31) (by omega) (by omega) (by omega) (by omega)
        · skip
          have F30 := y_fr_tr (y_fr_rf (lo := 0) (hi := 138)) (y_sc_fr f30)
          have x30 := y_sc_x f30
          have st30 := q30
          refine x_istore ?_
          refine x_X_lo (lo' := [(0, x_R 1), (1, x_I _), (2, x_I _), (3, x_I _), (4, x_I _)]) ⟨rfl, rfl, rfl, rfl, rfl, trivial⟩ ?_
          refine x_push 10 rfl ?_
          refine x_push 2 rfl ?_
          refine x_iload rfl ?_
          refine x_imul ?_
          refine x_iadd ?_
          refine x_aload rfl ?_
          refine x_iload rfl ?_
          refine x_cV (fun _ => rfl) rfl (by decide) (Nat.le_of_ble_eq_true rfl) ?_
          refine ke_26_1 (by omega) (by omega) C30 (fun s32 => absurd s32 (by omega)) (fun n32 S32 C32 f32 p32 q32 => ?_)
          have F32 := y_fr_tr F30 (y_sc_fr f32)
          refine x_iadd ?_
          refine x_iret ?_
          exact kF (fun h => by obtain ⟨h0, p, k1, h1, h2⟩ := h; have h3 := y_pc1_i h1; have h4 := y_chx p; omega) _ _ C32 (y_sc_tr f30 f32) (by omega) (by omega) (by omega) (by omega)
    · skip
      refine x_blk (b := 1) (a_13 E) rfl ?_
      unfold b_13_1
      refine x_iload rfl ?_
      refine x_push 97 rfl ?_
      refine x_isub ?_
      refine x_istore ?_
      refine x_X_lo (lo' := [(0, x_R 1), (1, x_I _), (2, x_I _), (3, x_I _), (4, x_I _)]) ⟨rfl, rfl, rfl, rfl, rfl, trivial⟩ ?_
      refine x_aload rfl ?_
      refine x_getIG y_f1_4 C0 ?_
      intro g33a g33b
      refine x_if_ne (by omega) (by omega) (fun z34 => ?_) (fun z34 => ?_)
      · skip
        refine x_iload rfl ?_
        refine x_push 5 rfl ?_
        refine x_cS (fun _ => rfl) (Nat.le_of_ble_eq_true rfl) ?_
        refine sf_2 (by omega) (by omega) (by omega) (by omega) C0 (fun y35 => ?_) (fun y35 => ?_)
        · skip
          refine x_if_eq (by omega) (by omega) (fun z => absurd z (by omega)) (fun z36 => ?_)
          refine x_iload rfl ?_
          refine x_cS (fun _ => rfl) (Nat.le_of_ble_eq_true rfl) ?_
          refine ke_7 (by omega) (by omega) (fun v37 v37a v37b v37c => ?_)
          refine x_iload rfl ?_
          refine x_icmp_le (by omega) (by omega) (by omega) (by omega) (fun z38 => ?_) (fun z38 => ?_)
          · skip
            refine x_blk (b := 3) (a_13 E) rfl ?_
            unfold b_13_3
            refine x_aload rfl ?_
            refine x_dup rfl ?_
            refine x_getIG y_f1_3 C0 ?_
            intro g39a g39b
            refine x_push 1 rfl ?_
            refine x_iadd ?_
            refine x_putIG y_f1_3 ⟨by decide, rfl⟩ (by decide) C0 (by decide) (y_fr_rf (lo := 0) (hi := 138)) (by omega) (by omega) (fun S40 e40 C40 F40 => ?_)
            refine x_iload rfl ?_
            refine x_iret ?_
            have hq := y_chx (y_cx σ (σ 1 3) - 97)
            have q4 := x_up_ne e40 (r' := 1) (k' := 4) (by decide)
            refine x_fin (b := y_cx σ (σ 1 3) - 97) (by omega) ?_
            exact kS _ _ (by omega) (y_pc1_m (k' := σ 1 3 + 1) (by omega)) (fun h => by omega) _ C40 (y_sc_up e40 (by decide)) (x_up_at e40) (by omega)
          · skip
            refine x_fall ?_
            refine x_blk (b := 2) (a_13 E) rfl ?_
            unfold b_13_2
            refine x_aload rfl ?_
            refine x_push 1 rfl ?_
            refine x_putZG y_f1_4 rfl (by decide) C0 (by decide) (y_fr_rf (lo := 0) (hi := 138)) (by omega) (fun S41 e41 C41 F41 => ?_)
            refine x_push 0 rfl ?_
            refine x_iret ?_
            have q3 := x_up_ne e41 (r' := 1) (k' := 3) (by decide)
            exact kF (fun h => by obtain ⟨h0, p, k1, h1, h2⟩ := h; have h3 := y_pc1_i h1; have h4 := y_chx p; omega) _ _ C41 (y_sc_up e41 (by decide)) (by omega) (x_up_at e41) (by decide) (by decide)
        · skip
          refine x_if_eq (by omega) (by omega) (fun z42 => ?_) (fun z => absurd (by omega) z)
          refine x_blk (b := 2) (a_13 E) rfl ?_
          unfold b_13_2
          refine x_aload rfl ?_
          refine x_push 1 rfl ?_
          refine x_putZG y_f1_4 rfl (by decide) C0 (by decide) (y_fr_rf (lo := 0) (hi := 138)) (by omega) (fun S43 e43 C43 F43 => ?_)
          refine x_push 0 rfl ?_
          refine x_iret ?_
          have q3 := x_up_ne e43 (r' := 1) (k' := 3) (by decide)
          exact kF (fun h => by obtain ⟨h0, p, k1, h1, h2⟩ := h; have h3 := y_pc1_i h1; have h4 := y_chx p; omega) _ _ C43 (y_sc_up e43 (by decide)) (by omega) (x_up_at e43) (by decide) (by decide)
      · skip
        refine x_blk (b := 2) (a_13 E) rfl ?_
        unfold b_13_2
        refine x_aload rfl ?_
        refine x_push 1 rfl ?_
        refine x_putZG y_f1_4 rfl (by decide) C0 (by decide) (y_fr_rf (lo := 0) (hi := 138)) (by omega) (fun S44 e44 C44 F44 => ?_)
        refine x_push 0 rfl ?_
        refine x_iret ?_
        have q3 := x_up_ne e44 (r' := 1) (k' := 3) (by decide)
        exact kF (fun h => by obtain ⟨h0, p, k1, h1, h2⟩ := h; have h3 := y_pc1_i h1; have h4 := y_chx p; omega) _ _ C44 (y_sc_up e44 (by decide)) (by omega) (x_up_at e44) (by decide) (by decide)
