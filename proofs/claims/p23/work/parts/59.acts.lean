/-- the reference notes its program: it stands as before -/
theorem c_88R {E : q_E} {σ : x_S} {Q : Option q_V → x_S → Prop} (hR : y_RI σ) (k : ∀ τ, y_sm [142] [5] σ τ → y_RI τ → Q none τ) : x_P E 88 [x_R 138] σ Q := by
  obtain ⟨rl, rp, ru, rb, rk, rc⟩ := id hR
  refine c_88 ru.1 ru.2 (fun h8 τ a b c d => k τ a ?_) (fun h8 τ a b c d => k τ a ?_)
  · have h0 := a 138 0 (by decide) (by decide)
    have h7 := a 138 7 (by decide) (by decide)
    refine ⟨by rw [h0]; exact rl, y_PI_ext (fun q _ => (y_sm_a a 140 (by decide) (by decide) q).symm) rp, by omega, fun u hu => ?_, by rw [h7]; exact rk, fun u hu => y_PI_ext (fun q _ => (y_sm_a a 143 (by decide) (by decide) _).symm) (rc u (by omega))⟩
    by_cases e : u = 7
    · refine y_PI_ext (fun q hq => ?_) rp
      rw [e, show 256 * 7 + q = 1792 + q by omega, d q (by omega)]
    · refine y_PI_ext (fun q hq => ?_) (rb (u + 1) (by omega))
      rw [c _ (by omega)]
      congr 1
      omega
  · have h0 := a 138 0 (by decide) (by decide)
    have h7 := a 138 7 (by decide) (by decide)
    refine ⟨by rw [h0]; exact rl, y_PI_ext (fun q _ => (y_sm_a a 140 (by decide) (by decide) q).symm) rp, by omega, fun u hu => ?_, by rw [h7]; exact rk, fun u hu => y_PI_ext (fun q _ => (y_sm_a a 143 (by decide) (by decide) _).symm) (rc u (by omega))⟩
    by_cases e : u = (σ 138 5).toNat
    · refine y_PI_ext (fun q hq => ?_) rp
      rw [e, d q (by omega)]
    · refine y_PI_ext (fun q hq => ?_) (rb u (by omega))
      rw [c _ (by omega)]
/-- only the program's row changed, and it stands -/
theorem y_RI_now {σ τ : x_S} (h : y_sm [140] [] σ τ) (hp : y_PI (τ 140)) (hR : y_RI σ) : y_RI τ := by
  obtain ⟨rl, rp, ru, rb, rk, rc⟩ := hR
  have h0 := h 138 0 (by decide) (by decide)
  have h5 := h 138 5 (by decide) (by decide)
  have h7 := h 138 7 (by decide) (by decide)
  exact ⟨by rw [h0]; exact rl, hp, by rw [h5]; exact ru, fun u hu => y_PI_ext (fun q _ => (y_sm_a h 142 (by decide) (by decide) _).symm) (rb u (by omega)), by rw [h7]; exact rk, fun u hu => y_PI_ext (fun q _ => (y_sm_a h 143 (by decide) (by decide) _).symm) (rc u (by omega))⟩
theorem c_189 {E : q_E} {σ : x_S} {Q : Option q_V → x_S → Prop} {p q : Int} (h1 : -2147483648 ≤ p) (h2 : p ≤ 2147483647) (h3 : -2147483648 ≤ q) (h4 : q ≤ 2147483647) (hR : y_RI σ) (k : y_K Q σ) : x_P E 189 [x_R 138, x_I p, x_I q] σ Q := by
  obtain ⟨rl, rp, ru, rb, rk, rc⟩ := id hR
  refine x_Mt e_189 (h_189 E) (Nat.le_of_ble_eq_true rfl) t_189 rfl ?_
  refine x_blk (b := 0) (a_189 E) rfl ?_
  unfold b_189_0
  refine x_iload rfl ?_
  refine x_cS (fun _ => rfl) (Nat.le_of_ble_eq_true rfl) ?_
  refine c_64 (by omega) (by omega) (fun y1 => ?_) (fun y1 => ?_)
  · skip
    refine x_if_eq (by decide) (by decide) (fun z => absurd z (by decide)) (fun _ => ?_)
    refine x_iload rfl ?_
    refine x_i2l (by omega) (by omega) ?_
    refine x_pushL 0 rfl ?_
    refine x_pushL 3 rfl ?_
    refine x_cS (fun _ => rfl) (Nat.le_of_ble_eq_true rfl) ?_
    refine c_45 (by omega) (by omega) (by omega) (by omega) (by omega) (by omega) (fun y3 => ?_) (fun y3 => ?_)
    · skip
      refine x_if_ne (by decide) (by decide) (fun z => absurd z (by decide)) (fun _ => ?_)
      refine x_blk (b := 2) (a_189 E) rfl ?_
      unfold b_189_2
      refine x_aload rfl ?_
      refine x_getR (r := 138) rfl (by decide) (by decide) rfl ?_
      refine x_iload rfl ?_
      refine x_iald (r := 140) (n := 256)  rfl rfl (by decide) (fun _ => rfl) rfl (by omega) (by omega) ?_
      intro g5a g5b
      refine x_istore ?_
      refine x_iload rfl ?_
      refine x_iload rfl ?_
      refine x_icmp_ne (by omega) (by omega) (by omega) (by omega) (fun z6 => ?_) (fun z6 => ?_)
      · skip
        refine x_push (-2) rfl ?_
        refine x_iret ?_
        exact k _ _ hR (fun _ _ _ => rfl) rfl (by omega) (by omega)
      · skip
        refine x_blk (b := 3) (a_189 E) rfl ?_
        unfold b_189_3
        refine x_aload rfl ?_
        refine x_cV (fun _ => rfl) rfl (by decide) (Nat.le_of_ble_eq_true rfl) ?_
        refine c_88R (by assumption) (fun S7 f7 k7 => ?_)
        refine x_aload rfl ?_
        refine x_getR (r := 138) rfl (by decide) (by decide) rfl ?_
        refine x_iload rfl ?_
        refine x_iload rfl ?_
        refine x_ast (r := 140) (n := 256)  rfl rfl (by decide) (fun _ => rfl) rfl (by omega) (by omega) (by omega) (by omega) (fun S8 e8 => ?_)
        have w8 := x_up_at e8
        refine x_iload rfl ?_
        refine x_iret ?_
        have q140 : ∀ m, S7 140 m = σ 140 m := y_sm_a f7 140 (by decide) (by decide)
        have hI : y_PI (S8 140) := by
          refine y_PI_k (fun q h1 h2 => ?_) ?_ rp
          · rw [x_up_ne e8 (fun z => absurd z.2 (by omega)), q140]
          · have hk := rp.1
            unfold y_PK at hk ⊢
            have c : p.toNat = 0 ∨ p.toNat = 1 := by omega
            rcases c with c | c
            · rw [c] at w8 e8
              have q1 := x_up_ne e8 (r' := 140) (k' := 1) (by decide)
              have q2 := q140 1
              omega
            · rw [c] at w8 e8
              have q1 := x_up_ne e8 (r' := 140) (k' := 0) (by decide)
              have q2 := q140 0
              omega
        refine k _ _ (y_RI_now (y_sm_e e8 (Or.inl (by decide))) hI k7) (fun r q hr => ?_) ?_ (by omega) (by omega)
        · rw [x_up_nr e8 (by omega)]; exact y_sm_out f7 (by decide) r q hr
        · rw [x_up_nr e8 (by decide)]; exact f7 138 0 (by decide) (by decide)
    · skip
      refine x_if_ne (by decide) (by decide) (fun _ => ?_) (fun z => absurd (by decide) z)
      refine x_fall ?_
      refine x_blk (b := 1) (a_189 E) rfl ?_
      unfold b_189_1
      refine x_push (-1) rfl ?_
      refine x_iret ?_
      exact k _ _ hR (fun _ _ _ => rfl) rfl (by omega) (by omega)
  · skip
    refine x_if_eq (by decide) (by decide) (fun _ => ?_) (fun z => absurd (by decide) z)
    refine x_blk (b := 1) (a_189 E) rfl ?_
    unfold b_189_1
    refine x_push (-1) rfl ?_
    refine x_iret ?_
    exact k _ _ hR (fun _ _ _ => rfl) rfl (by omega) (by omega)

