theorem c_188 {E : q_E} {σ : x_S} {Q : Option q_V → x_S → Prop} {m f e : Int} (h1 : -2147483648 ≤ m) (h2 : m ≤ 2147483647) (h3 : -2147483648 ≤ f) (h4 : f ≤ 2147483647) (h5 : -2147483648 ≤ e) (h6 : e ≤ 2147483647) (hR : y_RI σ) (k : y_K Q σ) : x_P E 188 [x_R 138, x_I m, x_I f, x_I e] σ Q := by
  obtain ⟨rl, rp, ru, rb, rk, rc⟩ := id hR
  refine x_Mt e_188 (h_188 E) (Nat.le_of_ble_eq_true rfl) t_188 rfl ?_
  refine x_blk (b := 0) (a_188 E) rfl ?_
  unfold b_188_0
  refine x_aload rfl ?_
  refine x_iload rfl ?_
  refine x_iload rfl ?_
  refine x_iload rfl ?_
  refine x_cV (fun _ => rfl) rfl (by decide) (Nat.le_of_ble_eq_true rfl) ?_
  refine c_114 (by omega) (by omega) (by omega) (by omega) (by omega) (by omega) (fun t1 xa1 xb1 => ?_) (fun t1 => ?_)
  · have ht := y_tab_b (m := m) (f := f) (e := e) (by omega) (by omega) (by omega) (by omega) (by omega) (by omega); have hE := rp.2.2.1 (y_tab m f e).toNat (by omega) (by omega)
    refine x_push (-1) rfl ?_
    refine x_icmp_ne (by omega) (by omega) (by omega) (by omega) (fun z => absurd z (by omega)) (fun z2 => ?_)
    refine x_blk (b := 1) (a_188 E) rfl ?_
    unfold b_188_1
    refine x_aload rfl ?_
    refine x_cV (fun _ => rfl) rfl (by decide) (Nat.le_of_ble_eq_true rfl) ?_
    refine c_88R (by assumption) (fun S3 f3 k3 => ?_)
    refine x_aload rfl ?_
    refine x_getR (r := 138) rfl (by decide) (by decide) rfl ?_
    refine x_iload rfl ?_
    refine x_iload rfl ?_
    refine x_iload rfl ?_
    refine x_cS (fun _ => rfl) (Nat.le_of_ble_eq_true rfl) ?_
    refine c_17 (by omega) (by omega) ?_
    refine x_push 1 rfl ?_
    refine x_aload rfl ?_
    refine x_getR (r := 138) rfl (by decide) (by decide) rfl ?_
    refine x_iload rfl ?_
    refine x_iload rfl ?_
    refine x_iload rfl ?_
    refine x_cS (fun _ => rfl) (Nat.le_of_ble_eq_true rfl) ?_
    refine c_17 (by omega) (by omega) ?_
    refine x_iald (r := 140) (n := 256)  rfl rfl (by decide) (fun _ => rfl) rfl (by omega) (by omega) ?_
    have q6_1 : ∀ m, S3 140 m = σ 140 m := fun m => f3 140 m (by decide) (fun z => absurd z (by decide))
    simp only [q6_1]
    intro g6a g6b
    refine x_isub ?_
    refine x_ast (r := 140) (n := 256)  rfl rfl (by decide) (fun _ => rfl) rfl (by omega) (by omega) (by omega) (by omega) (fun S7 e7 => ?_)
    have w7 := x_up_at e7
    refine x_aload rfl ?_
    refine x_getR (r := 138) rfl (by decide) (by decide) rfl ?_
    refine x_iload rfl ?_
    refine x_iload rfl ?_
    refine x_iload rfl ?_
    refine x_cS (fun _ => rfl) (Nat.le_of_ble_eq_true rfl) ?_
    refine c_17 (by omega) (by omega) ?_
    refine x_iald (r := 140) (n := 256)  rfl rfl (by decide) (fun _ => rfl) rfl (by omega) (by omega) ?_
    intro g9a g9b
    refine x_iret ?_
    have q140 : ∀ q, S3 140 q = σ 140 q := y_sm_a f3 140 (by decide) (by decide)
    have hI : y_PI (S7 140) := by
      refine y_PI_e (fun q h1 h2 => ?_) (fun q h1 h2 => ?_) rp
      · rw [x_up_ne e7 (fun z => absurd z.2 (by omega)), q140]
      · by_cases c : q = (y_tab m f e).toNat
        · rw [c, w7]; omega
        · rw [x_up_ne e7 (fun z => c z.2), q140]; exact rp.2.2.1 q h1 h2
    refine k _ _ (y_RI_now (y_sm_e e7 (Or.inl (by decide))) hI k3) (fun r q hr => ?_) ?_ (by omega) (by omega)
    · rw [x_up_nr e7 (by omega)]; exact y_sm_out f3 (by decide) r q hr
    · rw [x_up_nr e7 (by decide)]; exact f3 138 0 (by decide) (by decide)
  · skip
    refine x_push (-1) rfl ?_
    refine x_icmp_ne (by decide) (by decide) (by decide) (by decide) (fun _ => ?_) (fun z => absurd (by decide) z)
    refine x_push (-1) rfl ?_
    refine x_iret ?_
    exact k _ _ hR (fun _ _ _ => rfl) rfl (by omega) (by omega)

