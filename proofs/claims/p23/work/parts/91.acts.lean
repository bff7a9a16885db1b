theorem y_op_c9 {p q : Nat → Int} : ∀ {n : Nat}, (∀ i, i < n → y_c9 (p i) = y_c9 (q i)) → y_op p n = y_op q n
  | 0, _ => rfl
  | n + 1, h => by
    show y_op p n + y_c9 (p n) - 1 = y_op q n + y_c9 (q n) - 1
    rw [y_op_c9 (fun i hi => h i (Nat.lt_succ_of_lt hi)), h n (Nat.lt_succ_self n)]
/-- a node of another letter with as many children -/
theorem y_PI_leaf {ρ τ : Nat → Int} {t v : Nat} {f : Int} (hp : y_PI ρ) (ht : t < 3) (hv : (v : Int) < ρ (2 + t)) (f1 : 0 ≤ f) (f2 : f ≤ 4) (hc : y_ch (ρ (5 + 11 * t + v)) = y_ch f) (h1 : τ (5 + 11 * t + v) = f) (h2 : ∀ k, k ≠ 5 + 11 * t + v → τ k = ρ k) : y_PI τ := by
  have hb := (hp.2.1 t ht).1
  obtain ⟨a, b, c, d⟩ := hp
  refine ⟨y_PK_ext (h2 0 (by omega)).symm (h2 1 (by omega)).symm a, fun u hu => ?_, y_PE_ext (fun k h3 h4 => (h2 k (by omega)).symm) c, y_PR_ext (fun k h3 h4 => (h2 k (by omega)).symm) d⟩
  by_cases e : u = t
  · subst e
    obtain ⟨s1, s2, s3⟩ := b u hu
    have hsz : τ (2 + u) = ρ (2 + u) := h2 _ (by omega)
    have h9 : ∀ i, y_c9 (ρ (5 + 11 * u + i)) = y_c9 (τ (5 + 11 * u + i)) := by
      intro i
      by_cases ci : i = v
      · subst ci
        rw [h1]
        have hl := s2 i (by omega)
        unfold y_c9
        rw [if_neg (by have : ρ (5 + 11 * u + i) ≤ 4 := hl.2.1; omega), if_neg (by omega), hc]
      · rw [h2 _ (by omega)]
    refine ⟨by rw [hsz]; exact s1, ?_⟩
    rw [hsz]
    refine ⟨fun k hk => ?_, ?_⟩
    · have hl := s2 k hk
      rw [← y_op_c9 (p := fun v => ρ (5 + 11 * u + v)) (q := fun v => τ (5 + 11 * u + v)) (fun i _ => h9 i)]
      by_cases ck : k = v
      · subst ck
        show 0 ≤ τ (5 + 11 * u + k) ∧ τ (5 + 11 * u + k) ≤ 4 ∧ _
        rw [h1]
        exact ⟨f1, f2, hl.2.2⟩
      · show 0 ≤ τ (5 + 11 * u + k) ∧ τ (5 + 11 * u + k) ≤ 4 ∧ _
        rw [h2 _ (by omega)]
        exact hl
    · rw [← y_op_c9 (p := fun v => ρ (5 + 11 * u + v)) (q := fun v => τ (5 + 11 * u + v)) (fun i _ => h9 i)]
      exact s3
  · exact y_PT_ext (h2 _ (by omega)).symm (fun w hw => (h2 _ (by omega)).symm) (b u hu)
/-- a rule is out -/
theorem y_PI_cut {ρ τ : Nat → Int} {r : Nat} (hp : y_PI ρ) (hr : (r : Int) < ρ 62) (h62 : τ 62 = ρ 62 - 1) (h : ∀ m : Nat, m ≠ 62 → τ m = if 63 + 12 * r ≤ m ∧ (m : Int) < 51 + 12 * ρ 62 then ρ (m + 12) else ρ m) : y_PI τ := by
  have hb := hp.2.2.2.1
  refine y_PI_r (fun k hk => by rw [h k (by omega), if_neg (by omega)]) ⟨by omega, fun q hq => ?_⟩ hp
  by_cases c : q < r
  · refine y_rl_ext (fun i hi => ?_) (hp.2.2.2.2 q (by omega))
    have h4 : 1 ≤ ρ (63 + 12 * q + 4) ∧ ρ (63 + 12 * q + 4) ≤ 7 := (hp.2.2.2.2 q (by omega)).2.2.2.2.1
    have hi2 : i < 12 := by
      have : i < 5 + (ρ (63 + 12 * q + 4)).toNat := hi
      omega
    show ρ (63 + 12 * q + i) = τ (63 + 12 * q + i)
    rw [h _ (by omega), if_neg (by omega)]
  · refine y_rl_ext (fun i hi => ?_) (hp.2.2.2.2 (q + 1) (by omega))
    have h4 := (hp.2.2.2.2 (q + 1) (by omega)).2.2.2.2.1
    show ρ (63 + 12 * (q + 1) + i) = τ (63 + 12 * q + i)
    have hi2 : i < 12 := by
      have : i < 5 + (ρ (63 + 12 * (q + 1) + 4)).toNat := hi
      have h4 : 1 ≤ ρ (63 + 12 * (q + 1) + 4) ∧ ρ (63 + 12 * (q + 1) + 4) ≤ 7 := h4
      omega
    rw [h _ (by omega), if_pos (by omega)]
    congr 1
    omega
/-- a rule is put in, those from it on one further -/
theorem y_PI_ins {ρ τ ω q : Nat → Int} {t : Nat} (hp : y_PI ρ) (ht : (t : Int) ≤ ρ 62) (h15 : ρ 62 ≤ 15) (h62 : τ 62 = ρ 62 + 1) (h : ∀ m : Nat, m ≠ 62 → τ m = if 75 + 12 * t ≤ m ∧ (m : Int) < 75 + 12 * ρ 62 then ρ (m - 12) else ρ m) (hq : y_rl q) (hw : ∀ m, ¬ (63 + 12 * t ≤ m ∧ m < 75 + 12 * t) → ω m = τ m) (hw2 : ∀ m, m < 12 → ω (63 + 12 * t + m) = q m) : y_PI ω := by
  have hb := hp.2.2.2.1
  have w62 : ω 62 = ρ 62 + 1 := by rw [hw 62 (by omega)]; exact h62
  refine y_PI_r (fun k hk => by rw [hw k (by omega), h k (by omega), if_neg (by omega)]) ⟨by omega, fun u hu => ?_⟩ hp
  by_cases c : u = t
  · subst c
    refine y_rl_ext (fun i hi => ?_) hq
    have h4 := hq.2.2.2.2.1
    exact (hw2 i (by omega)).symm
  · by_cases c2 : u < t
    · refine y_rl_ext (fun i hi => ?_) (hp.2.2.2.2 u (by omega))
      have h4 := (hp.2.2.2.2 u (by omega)).2.2.2.2.1
      have hi2 : i < 12 := by
        have : i < 5 + (ρ (63 + 12 * u + 4)).toNat := hi
        have h4 : 1 ≤ ρ (63 + 12 * u + 4) ∧ ρ (63 + 12 * u + 4) ≤ 7 := h4
        omega
      show ρ (63 + 12 * u + i) = ω (63 + 12 * u + i)
      rw [hw _ (by omega), h _ (by omega), if_neg (by omega)]
    · obtain ⟨w, hwu⟩ : ∃ w, u = w + 1 := ⟨u - 1, by omega⟩
      subst hwu
      refine y_rl_ext (fun i hi => ?_) (hp.2.2.2.2 w (by omega))
      have h4 := (hp.2.2.2.2 w (by omega)).2.2.2.2.1
      have hi2 : i < 12 := by
        have : i < 5 + (ρ (63 + 12 * w + 4)).toNat := hi
        have h4 : 1 ≤ ρ (63 + 12 * w + 4) ∧ ρ (63 + 12 * w + 4) ≤ 7 := h4
        omega
      show ρ (63 + 12 * w + i) = ω (63 + 12 * (w + 1) + i)
      rw [hw _ (by omega), h _ (by omega), if_pos (by omega)]
      congr 1
      omega
/-- a rule is put in place of one, or behind all -/
theorem y_PI_put {ρ ω q : Nat → Int} {t : Nat} {n : Int} (hp : y_PI ρ) (ht : (t : Int) < n) (hn : n = ρ 62 ∨ (n = ρ 62 + 1 ∧ (t : Int) = ρ 62)) (h16 : n ≤ 16) (hq : y_rl q) (w62 : ω 62 = n) (hw : ∀ m, m ≠ 62 → ¬ (63 + 12 * t ≤ m ∧ m < 75 + 12 * t) → ω m = ρ m) (hw2 : ∀ m, m < 12 → ω (63 + 12 * t + m) = q m) : y_PI ω := by
  have hb := hp.2.2.2.1
  refine y_PI_r (fun k hk => (hw k (by omega) (by omega)).symm) ⟨by omega, fun u hu => ?_⟩ hp
  by_cases c : u = t
  · subst c
    refine y_rl_ext (fun i hi => ?_) hq
    have h4 := hq.2.2.2.2.1
    exact (hw2 i (by omega)).symm
  · refine y_rl_ext (fun i hi => ?_) (hp.2.2.2.2 u (by omega))
    have h4 := (hp.2.2.2.2 u (by omega)).2.2.2.2.1
    have hi2 : i < 12 := by
      have : i < 5 + (ρ (63 + 12 * u + 4)).toNat := hi
      have h4 : 1 ≤ ρ (63 + 12 * u + 4) ∧ ρ (63 + 12 * u + 4) ≤ 7 := h4
      omega
    exact (hw _ (by omega) (by omega)).symm
theorem c_187 {E : q_E} {σ : x_S} {Q : Option q_V → x_S → Prop} {t v f : Int} (t1 : -2147483648 ≤ t) (t2 : t ≤ 2147483647) (v1 : -2147483648 ≤ v) (v2 : v ≤ 2147483647) (f1 : -2147483648 ≤ f) (f2 : f ≤ 2147483647) (hR : y_RI σ) (k : y_K Q σ) : x_P E 187 [x_R 138, x_I t, x_I v, x_I f] σ Q := by
  obtain ⟨rl, rp, ru5, rb, rk, rc⟩ := id hR
  have ru := rp.2.2.2.1
  refine x_Mt e_187 (h_187 E) (Nat.le_of_ble_eq_true rfl) t_187 rfl ?_
  refine x_blk (b := 0) (a_187 E) rfl ?_
  unfold b_187_0
  refine x_aload rfl ?_
  refine x_iload rfl ?_
  refine x_iload rfl ?_
  refine x_cV (fun _ => rfl) rfl (by decide) (Nat.le_of_ble_eq_true rfl) ?_
  refine c_92 (by omega) (by omega) (by omega) (by omega) (by assumption) (fun y1 => ?_) (fun y1 => ?_)
  · skip
    refine x_if_eq (by decide) (by decide) (fun z => absurd z (by decide)) (fun _ => ?_)
    refine x_iload rfl ?_
    refine x_i2l (by omega) (by omega) ?_
    refine x_pushL 0 rfl ?_
    refine x_pushL 4 rfl ?_
    refine x_cS (fun _ => rfl) (Nat.le_of_ble_eq_true rfl) ?_
    refine c_45 (by omega) (by omega) (by omega) (by omega) (by omega) (by omega) (fun y3 => ?_) (fun y3 => ?_)
    · skip
      refine x_if_ne (by decide) (by decide) (fun z => absurd z (by decide)) (fun _ => ?_)
      refine x_blk (b := 2) (a_187 E) rfl ?_
      unfold b_187_2
      have sz := y_szt rp (t := t) (by omega) (by omega)
      have ez : 2 + t.toNat = (2 + t).toNat := by omega
      have em : 5 + 11 * t.toNat + v.toNat = (5 + 11 * t + v).toNat := by omega
      have lt := (rp.2.1 t.toNat (by omega)).2.1 v.toNat (by rw [ez]; omega)
      have lt : 0 ≤ σ 140 (5 + 11 * t.toNat + v.toNat) ∧ σ 140 (5 + 11 * t.toNat + v.toNat) ≤ 4 := ⟨lt.1, lt.2.1⟩
      rw [em] at lt
      refine x_aload rfl ?_
      refine x_getR (r := 138) rfl (by decide) (by decide) rfl ?_
      refine x_push 5 rfl ?_
      refine x_push 11 rfl ?_
      refine x_iload rfl ?_
      refine x_imul ?_
      refine x_iadd ?_
      refine x_iload rfl ?_
      refine x_iadd ?_
      refine x_iald (r := 140) (n := 256)  rfl rfl (by decide) (fun _ => rfl) rfl (by omega) (by omega) ?_
      intro g5a g5b
      refine x_istore ?_
      refine x_iload rfl ?_
      refine x_cS (fun _ => rfl) (Nat.le_of_ble_eq_true rfl) ?_
      refine c_0 (by omega) (by omega) ?_
      refine x_iload rfl ?_
      refine x_cS (fun _ => rfl) (Nat.le_of_ble_eq_true rfl) ?_
      refine c_0 (by omega) (by omega) ?_
      have cb1 := y_ch_b (σ 140 (5 + 11 * t + v).toNat)
      have cb2 := y_ch_b f
      refine x_icmp_eq (by omega) (by omega) (by omega) (by omega) (fun z8 => ?_) (fun z8 => ?_)
      · skip
        refine x_blk (b := 3) (a_187 E) rfl ?_
        unfold b_187_3
        refine x_iload rfl ?_
        refine x_iload rfl ?_
        refine x_icmp_ne (by omega) (by omega) (by omega) (by omega) (fun z9 => ?_) (fun z9 => ?_)
        · skip
          refine x_push (-2) rfl ?_
          refine x_iret ?_
          exact k _ _ hR (fun _ _ _ => rfl) rfl (by omega) (by omega)
        · skip
          refine x_blk (b := 4) (a_187 E) rfl ?_
          unfold b_187_4
          refine x_aload rfl ?_
          refine x_cV (fun _ => rfl) rfl (by decide) (Nat.le_of_ble_eq_true rfl) ?_
          refine c_88R (by assumption) (fun S10 f10 k10 => ?_)
          refine x_aload rfl ?_
          refine x_getR (r := 138) rfl (by decide) (by decide) rfl ?_
          refine x_push 5 rfl ?_
          refine x_push 11 rfl ?_
          refine x_iload rfl ?_
          refine x_imul ?_
          refine x_iadd ?_
          refine x_iload rfl ?_
          refine x_iadd ?_
          refine x_iload rfl ?_
          refine x_ast (r := 140) (n := 256)  rfl rfl (by decide) (fun _ => rfl) rfl (by omega) (by omega) (by omega) (by omega) (fun S11 e11 => ?_)
          have w11 := x_up_at e11
          refine x_iload rfl ?_
          refine x_iret ?_
          have q140 : ∀ m, S10 140 m = σ 140 m := y_sm_a f10 140 (by decide) (by decide)
          have hI : y_PI (S11 140) := y_PI_leaf (t := t.toNat) (v := v.toNat) (f := f) rp (by omega) (by rw [ez]; omega) (by omega) (by omega) (by rw [em]; assumption) (by rw [em]; exact w11) (fun q hq => by rw [x_up_ne e11 (fun z => by omega), q140])
          refine k _ _ (y_RI_now (y_sm_e e11 (Or.inl (by decide))) hI k10) (fun r q hr => ?_) ?_ (by omega) (by omega)
          · rw [x_up_nr e11 (by omega)]; exact y_sm_out f10 (by decide) r q hr
          · rw [x_up_nr e11 (by decide)]; exact f10 138 0 (by decide) (by decide)
      · skip
        refine x_push (-1) rfl ?_
        refine x_iret ?_
        exact k _ _ hR (fun _ _ _ => rfl) rfl (by omega) (by omega)
    · skip
      refine x_if_ne (by decide) (by decide) (fun _ => ?_) (fun z => absurd (by decide) z)
      refine x_fall ?_
      refine x_blk (b := 1) (a_187 E) rfl ?_
      unfold b_187_1
      refine x_push (-1) rfl ?_
      refine x_iret ?_
      exact k _ _ hR (fun _ _ _ => rfl) rfl (by omega) (by omega)
  · skip
    refine x_if_eq (by decide) (by decide) (fun _ => ?_) (fun z => absurd (by decide) z)
    refine x_blk (b := 1) (a_187 E) rfl ?_
    unfold b_187_1
    refine x_push (-1) rfl ?_
    refine x_iret ?_
    exact k _ _ hR (fun _ _ _ => rfl) rfl (by omega) (by omega)
theorem c_185 {E : q_E} {σ : x_S} {Q : Option q_V → x_S → Prop} {r : Int} (r1 : -2147483648 ≤ r) (r2 : r ≤ 2147483647) (hR : y_RI σ) (k : y_K Q σ) : x_P E 185 [x_R 138, x_I r] σ Q := by
  obtain ⟨rl, rp, ru5, rb, rk, rc⟩ := id hR
  have ru := rp.2.2.2.1
  refine x_Mt e_185 (h_185 E) (Nat.le_of_ble_eq_true rfl) t_185 rfl ?_
  refine x_blk (b := 0) (a_185 E) rfl ?_
  unfold b_185_0
  refine x_aload rfl ?_
  refine x_iload rfl ?_
  refine x_cV (fun _ => rfl) rfl (by decide) (Nat.le_of_ble_eq_true rfl) ?_
  refine c_82 (by omega) (by omega) (by omega) (fun y1 => ?_) (fun y1 => ?_)
  · skip
    refine x_if_ne (by decide) (by decide) (fun z => absurd z (by decide)) (fun _ => ?_)
    refine x_blk (b := 1) (a_185 E) rfl ?_
    unfold b_185_1
    refine x_aload rfl ?_
    refine x_cV (fun _ => rfl) rfl (by decide) (Nat.le_of_ble_eq_true rfl) ?_
    refine c_88R (by assumption) (fun S3 f3 k3 => ?_)
    refine x_aload rfl ?_
    refine x_iload rfl ?_
    refine x_push 1 rfl ?_
    refine x_iadd ?_
    refine x_iload rfl ?_
    refine x_cV (fun _ => rfl) rfl (by decide) (Nat.le_of_ble_eq_true rfl) ?_
    have q140 : ∀ m, S3 140 m = σ 140 m := y_sm_a f3 140 (by decide) (by decide)
    have q62 := q140 62
    refine c_93d (by omega) (by omega) (by omega) (fun S4 f4 a4 b4 => ?_)
    refine x_aload rfl ?_
    refine x_getR (r := 138) rfl (by decide) (by decide) rfl ?_
    refine x_push 62 rfl ?_
    refine x_iald (r := 140) (n := 256) (m := 62) rfl rfl (by decide) (fun _ => rfl) rfl (by omega) (by omega) ?_
    intro g5a g5b
    refine x_iret ?_
    have hI : y_PI (S4 140) := y_PI_cut (r := r.toNat) (ρ := S3 140) k3.2.1 (by omega) a4 b4
    refine k _ _ (y_RI_now f4 hI k3) (fun x q hx => ?_) ?_ (by omega) (by omega)
    · rw [y_sm_out f4 (by decide) x q hx]; exact y_sm_out f3 (by decide) x q hx
    · rw [f4 138 0 (by decide) (by decide)]; exact f3 138 0 (by decide) (by decide)
  · skip
    refine x_if_ne (by decide) (by decide) (fun _ => ?_) (fun z => absurd (by decide) z)
    refine x_push (-1) rfl ?_
    refine x_iret ?_
    exact k _ _ hR (fun _ _ _ => rfl) rfl (by omega) (by omega)
theorem c_186_a {E : q_E} {σ : x_S} {Q : Option q_V → x_S → Prop} {r t : Int} (r1 : 0 ≤ r) (r2 : r < σ 140 62) (t1 : 0 ≤ t) (t2 : t < σ 140 62) (hR : y_RI σ) (k : y_K Q σ) : ∀ (N : Nat) (i : Int) (τ : x_S), 0 ≤ i → i ≤ 12 → (12 - i).toNat = N → y_sm [142, 144] [5] σ τ → (∀ m, τ 140 m = σ 140 m) → (∀ m : Nat, (m : Int) < i → τ 144 m = σ 140 (63 + 12 * r.toNat + m)) → y_RI τ → x_G E m_186 Q (t_186 5) [(0, x_R 138), (1, x_I r), (2, x_I t), (3, x_I i)] [] τ := by
  intro N
  induction N using Nat.strongRecOn with
  | ind N ih =>
    intro i τ i1 i2 hN hsm qn hv hRt
    obtain ⟨rl, rp, ru5, rb, rk, rc⟩ := id hR
    have ru := rp.2.2.2.1
    have q62 := qn 62
    have h47 : 1 ≤ σ 140 (63 + 12 * r.toNat + 4) ∧ σ 140 (63 + 12 * r.toNat + 4) ≤ 7 := (rp.2.2.2.2 r.toNat (by omega)).2.2.2.2.1
    refine x_blk (b := 5) (a_186 E) rfl ?_
    unfold b_186_5
    refine x_iload rfl ?_
    refine x_push 12 rfl ?_
    refine x_icmp_ge (by omega) (by omega) (by omega) (by omega) (fun z1 => ?_) (fun z1 => ?_)
    · skip
      refine x_aload rfl ?_
      refine x_getR (r := 138) rfl (by decide) (by decide) rfl ?_
      refine x_iload rfl ?_
      refine x_aload rfl ?_
      refine x_iload rfl ?_
      refine x_iload rfl ?_
      refine x_cV (fun _ => rfl) rfl (by decide) (Nat.le_of_ble_eq_true rfl) ?_
      refine c_3 (by omega) (by omega) (fun c2a c2b => ?_)
      refine x_ast (r := 144) (n := 12)  rfl rfl (by decide) (fun _ => rfl) rfl (by omega) (by omega) (by omega) (by omega) (fun S3 e3 => ?_)
      have w3 := x_up_at e3
      refine x_iinc 1 rfl rfl ?_
      refine x_goto ?_
      refine x_G_lo (lo' := [(0, x_R 138), (1, x_I r), (2, x_I t), (3, x_I (i + 1))]) ⟨rfl, rfl, rfl, rfl, trivial⟩ ?_
      refine ih _ (by omega) (i + 1) S3 (by omega) (by omega) rfl (y_sm_tr hsm (y_sm_e e3 (Or.inl (by decide)))) (fun m => ?_) (fun m hm => ?_) (y_RI_sm (y_sm_e e3 (Or.inl (by decide)) : y_sm [144] [] τ S3) (by decide) (by decide) hRt)
      · rw [x_up_nr e3 (by decide)]; exact qn m
      · by_cases c : m = i.toNat
        · subst c
          rw [w3, qn]
          congr 1
          omega
        · rw [x_up_ne e3 (fun z => c z.2)]; exact hv m (by omega)
    · skip
      refine x_blk (b := 4) (a_186 E) rfl ?_
      unfold b_186_4
      refine x_aload rfl ?_
      refine x_iload rfl ?_
      refine x_push 1 rfl ?_
      refine x_iadd ?_
      refine x_iload rfl ?_
      refine x_cV (fun _ => rfl) rfl (by decide) (Nat.le_of_ble_eq_true rfl) ?_
      refine c_93d (by omega) (by omega) (by omega) (fun S4 f4 a4 b4 => ?_)
      refine x_aload rfl ?_
      refine x_iload rfl ?_
      refine x_iload rfl ?_
      refine x_push 1 rfl ?_
      refine x_iadd ?_
      refine x_cV (fun _ => rfl) rfl (by decide) (Nat.le_of_ble_eq_true rfl) ?_
      refine c_93u (t := t) (by omega) (by omega) (by omega) (fun S5 f5 a5 b5 => ?_)
      refine x_aload rfl ?_
      refine x_iload rfl ?_
      refine x_cV (fun _ => rfl) rfl (by decide) (Nat.le_of_ble_eq_true rfl) ?_
      refine c_115 (by omega) (by omega) (fun S6 f6 a6 b6 => ?_)
      refine x_iload rfl ?_
      refine x_iload rfl ?_
      refine x_icmp_ge (by omega) (by omega) (by omega) (by omega) (fun z7 => ?_) (fun z7 => ?_)
      · skip
        refine x_iload rfl ?_
        refine x_iload rfl ?_
        refine x_isub ?_
        refine x_goto ?_
        refine x_blk (b := 7) (a_186 E) rfl ?_
        unfold b_186_7
        refine x_iret ?_
        have hI1 : y_PI (S4 140) := y_PI_cut (r := r.toNat) (ρ := τ 140) hRt.2.1 (by omega) a4 b4
        have q144 : ∀ m, S5 144 m = τ 144 m := fun m => (y_sm_a f5 144 (by decide) (by decide) m).trans (y_sm_a f4 144 (by decide) (by decide) m)
        have hq : y_rl (τ 144) := y_rl_ext (fun i hi => (hv i (by have : i < 5 + (σ 140 (63 + 12 * r.toNat + 4)).toNat := hi; omega)).symm) (rp.2.2.2.2 r.toNat (by omega))
        have hI : y_PI (S6 140) := y_PI_ins (t := t.toNat) (ρ := S4 140) (τ := S5 140) (q := τ 144) hI1 (by omega) (by omega) a5 b5 hq a6 (fun m hm => by rw [b6 m hm, q144])
        have hf : y_sm [140] [] τ S6 := y_sm_tr (y_sm_tr f4 f5) f6
        refine k _ _ (y_RI_now hf hI hRt) (fun x q hx => ?_) ?_ (by omega) (by omega)
        · rw [y_sm_out hf (by decide) x q hx]; exact y_sm_out hsm (by decide) x q hx
        · rw [hf 138 0 (by decide) (by decide)]; exact hsm 138 0 (by decide) (by decide)
      · skip
        refine x_blk (b := 6) (a_186 E) rfl ?_
        unfold b_186_6
        refine x_iload rfl ?_
        refine x_iload rfl ?_
        refine x_isub ?_
        refine x_fall ?_
        refine x_blk (b := 7) (a_186 E) rfl ?_
        unfold b_186_7
        refine x_iret ?_
        have hI1 : y_PI (S4 140) := y_PI_cut (r := r.toNat) (ρ := τ 140) hRt.2.1 (by omega) a4 b4
        have q144 : ∀ m, S5 144 m = τ 144 m := fun m => (y_sm_a f5 144 (by decide) (by decide) m).trans (y_sm_a f4 144 (by decide) (by decide) m)
        have hq : y_rl (τ 144) := y_rl_ext (fun i hi => (hv i (by have : i < 5 + (σ 140 (63 + 12 * r.toNat + 4)).toNat := hi; omega)).symm) (rp.2.2.2.2 r.toNat (by omega))
        have hI : y_PI (S6 140) := y_PI_ins (t := t.toNat) (ρ := S4 140) (τ := S5 140) (q := τ 144) hI1 (by omega) (by omega) a5 b5 hq a6 (fun m hm => by rw [b6 m hm, q144])
        have hf : y_sm [140] [] τ S6 := y_sm_tr (y_sm_tr f4 f5) f6
        refine k _ _ (y_RI_now hf hI hRt) (fun x q hx => ?_) ?_ (by omega) (by omega)
        · rw [y_sm_out hf (by decide) x q hx]; exact y_sm_out hsm (by decide) x q hx
        · rw [hf 138 0 (by decide) (by decide)]; exact hsm 138 0 (by decide) (by decide)
theorem c_186 {E : q_E} {σ : x_S} {Q : Option q_V → x_S → Prop} {r t : Int} (r1 : -2147483648 ≤ r) (r2 : r ≤ 2147483647) (t1 : -2147483648 ≤ t) (t2 : t ≤ 2147483647) (hR : y_RI σ) (k : y_K Q σ) : x_P E 186 [x_R 138, x_I r, x_I t] σ Q := by
  obtain ⟨rl, rp, ru5, rb, rk, rc⟩ := id hR
  have ru := rp.2.2.2.1
  refine x_Mt e_186 (h_186 E) (Nat.le_of_ble_eq_true rfl) t_186 rfl ?_
  refine x_blk (b := 0) (a_186 E) rfl ?_
  unfold b_186_0
  refine x_aload rfl ?_
  refine x_iload rfl ?_
  refine x_cV (fun _ => rfl) rfl (by decide) (Nat.le_of_ble_eq_true rfl) ?_
  refine c_82 (by omega) (by omega) (by omega) (fun y1 => ?_) (fun y1 => ?_)
  · skip
    refine x_if_eq (by decide) (by decide) (fun z => absurd z (by decide)) (fun _ => ?_)
    refine x_aload rfl ?_
    refine x_iload rfl ?_
    refine x_cV (fun _ => rfl) rfl (by decide) (Nat.le_of_ble_eq_true rfl) ?_
    refine c_82 (by omega) (by omega) (by omega) (fun y3 => ?_) (fun y3 => ?_)
    · skip
      refine x_if_ne (by decide) (by decide) (fun z => absurd z (by decide)) (fun _ => ?_)
      refine x_blk (b := 2) (a_186 E) rfl ?_
      unfold b_186_2
      refine x_iload rfl ?_
      refine x_iload rfl ?_
      refine x_icmp_ne (by omega) (by omega) (by omega) (by omega) (fun z5 => ?_) (fun z5 => ?_)
      · skip
        refine x_push (-2) rfl ?_
        refine x_iret ?_
        exact k _ _ hR (fun _ _ _ => rfl) rfl (by omega) (by omega)
      · skip
        refine x_blk (b := 3) (a_186 E) rfl ?_
        unfold b_186_3
        refine x_aload rfl ?_
        refine x_cV (fun _ => rfl) rfl (by decide) (Nat.le_of_ble_eq_true rfl) ?_
        refine c_88R (by assumption) (fun S6 f6 k6 => ?_)
        refine x_push 0 rfl ?_
        refine x_istore ?_
        refine x_fall ?_
        refine x_G_lo (lo' := [(0, x_R 138), (1, x_I r), (2, x_I t), (3, x_I 0)]) ⟨rfl, rfl, rfl, rfl, trivial⟩ ?_
        exact c_186_a (by omega) (by omega) (by omega) (by omega) hR k _ 0 S6 (by omega) (by omega) rfl (y_sm_w (by decide) (by decide) f6) (y_sm_a f6 140 (by decide) (by decide)) (fun m hm => absurd hm (by omega)) k6
    · skip
      refine x_if_ne (by decide) (by decide) (fun _ => ?_) (fun z => absurd (by decide) z)
      refine x_fall ?_
      refine x_blk (b := 1) (a_186 E) rfl ?_
      unfold b_186_1
      refine x_push (-1) rfl ?_
      refine x_iret ?_
      exact k _ _ hR (fun _ _ _ => rfl) rfl (by omega) (by omega)
  · skip
    refine x_if_eq (by decide) (by decide) (fun _ => ?_) (fun z => absurd (by decide) z)
    refine x_blk (b := 1) (a_186 E) rfl ?_
    unfold b_186_1
    refine x_push (-1) rfl ?_
    refine x_iret ?_
    exact k _ _ hR (fun _ _ _ => rfl) rfl (by omega) (by omega)
theorem c_184_a {E : q_E} {σ : x_S} {Q : Option q_V → x_S → Prop} {r : Int} (r1 : 0 ≤ r) (r2 : r ≤ σ 140 62) (r3 : r ≤ 15) (hR : y_RI σ) (k : y_K Q σ) : ∀ (N : Nat) (i : Int) (τ : x_S), 0 ≤ i → i ≤ 12 → (12 - i).toNat = N → y_sm [144] [8] σ τ → τ 138 8 = 0 → y_RI τ → x_G E m_184 Q (t_184 4) [(0, x_R 138), (1, x_I r), (2, x_I i)] [] τ := by
  intro N
  induction N using Nat.strongRecOn with
  | ind N ih =>
    intro i τ i1 i2 hN hsm h8 hRt
    obtain ⟨rl, rp, ru5, rb, rk, rc⟩ := id hR
    have ru := rp.2.2.2.1
    have h0 := hRt.1
    have l0 : τ 138 0 = σ 138 0 := hsm 138 0 (by decide) (by decide)
    refine x_blk (b := 4) (a_184 E) rfl ?_
    unfold b_184_4
    refine x_iload rfl ?_
    refine x_push 12 rfl ?_
    refine x_icmp_ge (by omega) (by omega) (by omega) (by omega) (fun z1 => ?_) (fun z1 => ?_)
    · skip
      refine x_aload rfl ?_
      refine x_getR (r := 138) rfl (by decide) (by decide) rfl ?_
      refine x_iload rfl ?_
      refine x_push 0 rfl ?_
      refine x_ast (r := 144) (n := 12)  rfl rfl (by decide) (fun _ => rfl) rfl (by omega) (by omega) (by omega) (by omega) (fun S2 e2 => ?_)
      have w2 := x_up_at e2
      refine x_iinc 1 rfl rfl ?_
      refine x_goto ?_
      refine x_G_lo (lo' := [(0, x_R 138), (1, x_I r), (2, x_I (i + 1))]) ⟨rfl, rfl, rfl, trivial⟩ ?_
      exact ih _ (by omega) (i + 1) S2 (by omega) (by omega) rfl (y_sm_tr hsm (y_sm_e e2 (Or.inl (by decide)))) ((x_up_nr e2 (by decide)).trans h8) (y_RI_sm (y_sm_e e2 (Or.inl (by decide)) : y_sm [144] [] τ S2) (by decide) (by decide) hRt)
    · skip
      refine x_blk (b := 3) (a_184 E) rfl ?_
      unfold b_184_3
      refine x_aload rfl ?_
      refine x_cV (fun _ => rfl) rfl (by decide) (Nat.le_of_ble_eq_true rfl) ?_
      refine c_113 (by omega) (by omega) (by omega) (by omega) (fun S3 f3 a3 b3 c3 => ?_) (fun S3 f3 a3 b3 => ?_)
      · have l3 : S3 138 0 = _ := f3 138 0 (by decide) (by decide)
        refine x_if_eq (by decide) (by decide) (fun z => absurd z (by decide)) (fun _ => ?_)
        refine x_aload rfl ?_
        refine x_getI (r := 138) rfl (by decide) (by decide) (by decide) rfl ?_
        intro g5a g5b
        refine x_aload rfl ?_
        refine x_getI (r := 138) rfl (by decide) (by decide) (by decide) rfl ?_
        have q6_1 : S3 138 0 = τ 138 0 := f3 138 0 (by decide) (by decide)
        simp only [q6_1]
        intro g6a g6b
        refine x_icmp_ge (by omega) (by omega) (by omega) (by omega) (fun z7 => ?_) (fun z7 => ?_)
        · skip
          refine x_fall ?_
          refine x_blk (b := 5) (a_184 E) rfl ?_
          unfold b_184_5
          refine x_push (-10) rfl ?_
          refine x_aload rfl ?_
          refine x_getI (r := 138) rfl (by decide) (by decide) (by decide) rfl ?_
          intro g8a g8b
          refine x_isub ?_
          refine x_iret ?_
          refine k _ _ (y_RI_sm f3 (by decide) (by decide) hRt) (fun x q hx => ?_) ?_ (by omega) (by omega)
          · rw [y_sm_out f3 (by decide) x q hx]; exact y_sm_out hsm (by decide) x q hx
          · rw [f3 138 0 (by decide) (by decide)]; exact hsm 138 0 (by decide) (by decide)
        · skip
          refine x_blk (b := 6) (a_184 E) rfl ?_
          unfold b_184_6
          refine x_aload rfl ?_
          refine x_cV (fun _ => rfl) rfl (by decide) (Nat.le_of_ble_eq_true rfl) ?_
          have hR3 : y_RI S3 := y_RI_sm f3 (by decide) (by decide) hRt
          refine c_88R hR3 (fun S9 f9 k9 => ?_)
          refine x_aload rfl ?_
          refine x_getR (r := 138) rfl (by decide) (by decide) rfl ?_
          refine x_push 62 rfl ?_
          refine x_dup2 rfl rfl ?_
          refine x_iald (r := 140) (n := 256) (m := 62) rfl rfl (by decide) (fun _ => rfl) rfl (by omega) (by omega) ?_
          have q10_1 : S9 140 62 = S3 140 62 := y_sm_a f9 140 (by decide) (by decide) 62
          have q10_2 : S3 140 62 = τ 140 62 := y_sm_a f3 140 (by decide) (by decide) 62
          simp only [q10_1, q10_2]
          intro g10a g10b
          refine x_iload rfl ?_
          refine x_aload rfl ?_
          refine x_getR (r := 138) rfl (by decide) (by decide) rfl ?_
          refine x_push 62 rfl ?_
          refine x_iald (r := 140) (n := 256) (m := 62) rfl rfl (by decide) (fun _ => rfl) rfl (by omega) (by omega) ?_
          have q11_1 : S9 140 62 = S3 140 62 := y_sm_a f9 140 (by decide) (by decide) 62
          have q11_2 : S3 140 62 = τ 140 62 := y_sm_a f3 140 (by decide) (by decide) 62
          simp only [q11_1, q11_2]
          intro g11a g11b
          refine x_icmp_ne (by omega) (by omega) (by omega) (by omega) (fun z12 => ?_) (fun z12 => ?_)
          · skip
            refine x_push 1 rfl ?_
            refine x_goto ?_
            refine x_blk (b := 8) (a_184 E) rfl ?_
            unfold b_184_8
            refine x_iadd ?_
            refine x_ast (r := 140) (n := 256) (m := 62) rfl rfl (by decide) (fun _ => rfl) rfl (by omega) (by omega) (by omega) (by omega) (fun S13 e13 => ?_)
            have w13 := x_up_at e13
            refine x_aload rfl ?_
            refine x_iload rfl ?_
            refine x_cV (fun _ => rfl) rfl (by decide) (Nat.le_of_ble_eq_true rfl) ?_
            refine c_115 (by omega) (by omega) (fun S14 f14 a14 b14 => ?_)
            refine x_aload rfl ?_
            refine x_getR (r := 138) rfl (by decide) (by decide) rfl ?_
            refine x_push 62 rfl ?_
            refine x_iald (r := 140) (n := 256) (m := 62) rfl rfl (by decide) (fun _ => rfl) rfl (by omega) (by omega) ?_
            intro g15a g15b
            refine x_iret ?_
            have q140 : ∀ m, S9 140 m = σ 140 m := fun m => ((y_sm_a f9 140 (by decide) (by decide) m).trans (y_sm_a f3 140 (by decide) (by decide) m)).trans (y_sm_a hsm 140 (by decide) (by decide) m)
            have q144 : ∀ m, S13 144 m = S3 144 m := fun m => (x_up_nr e13 (by decide)).trans (y_sm_a f9 144 (by decide) (by decide) m)
            have q62 := q140 62
            have w62 : S14 140 62 = S13 140 62 := a14 62 (by omega)
            have hI : y_PI (S14 140) := y_PI_put (t := r.toNat) (n := S13 140 62) (ρ := S9 140) (q := S3 144) k9.2.1 (by omega) (by omega) (by omega) c3 w62 (fun m h1 h2 => by rw [a14 m h2, x_up_ne e13 (fun z => h1 z.2)]) (fun m hm => by rw [b14 m hm, q144])
            have hf : y_sm [140] [] S9 S14 := y_sm_tr (y_sm_e e13 (Or.inl (by decide))) f14
            refine k _ _ (y_RI_now hf hI k9) (fun x q hx => ?_) ?_ (by omega) (by omega)
            · rw [y_sm_out hf (by decide) x q hx, y_sm_out f9 (by decide) x q hx, y_sm_out f3 (by decide) x q hx]; exact y_sm_out hsm (by decide) x q hx
            · rw [hf 138 0 (by decide) (by decide), f9 138 0 (by decide) (by decide), f3 138 0 (by decide) (by decide)]; exact hsm 138 0 (by decide) (by decide)
          · skip
            refine x_blk (b := 7) (a_184 E) rfl ?_
            unfold b_184_7
            refine x_push 0 rfl ?_
            refine x_fall ?_
            refine x_blk (b := 8) (a_184 E) rfl ?_
            unfold b_184_8
            refine x_iadd ?_
            refine x_ast (r := 140) (n := 256) (m := 62) rfl rfl (by decide) (fun _ => rfl) rfl (by omega) (by omega) (by omega) (by omega) (fun S16 e16 => ?_)
            have w16 := x_up_at e16
            refine x_aload rfl ?_
            refine x_iload rfl ?_
            refine x_cV (fun _ => rfl) rfl (by decide) (Nat.le_of_ble_eq_true rfl) ?_
            refine c_115 (by omega) (by omega) (fun S17 f17 a17 b17 => ?_)
            refine x_aload rfl ?_
            refine x_getR (r := 138) rfl (by decide) (by decide) rfl ?_
            refine x_push 62 rfl ?_
            refine x_iald (r := 140) (n := 256) (m := 62) rfl rfl (by decide) (fun _ => rfl) rfl (by omega) (by omega) ?_
            intro g18a g18b
            refine x_iret ?_
            have q140 : ∀ m, S9 140 m = σ 140 m := fun m => ((y_sm_a f9 140 (by decide) (by decide) m).trans (y_sm_a f3 140 (by decide) (by decide) m)).trans (y_sm_a hsm 140 (by decide) (by decide) m)
            have q144 : ∀ m, S16 144 m = S3 144 m := fun m => (x_up_nr e16 (by decide)).trans (y_sm_a f9 144 (by decide) (by decide) m)
            have q62 := q140 62
            have w62 : S17 140 62 = S16 140 62 := a17 62 (by omega)
            have hI : y_PI (S17 140) := y_PI_put (t := r.toNat) (n := S16 140 62) (ρ := S9 140) (q := S3 144) k9.2.1 (by omega) (by omega) (by omega) c3 w62 (fun m h1 h2 => by rw [a17 m h2, x_up_ne e16 (fun z => h1 z.2)]) (fun m hm => by rw [b17 m hm, q144])
            have hf : y_sm [140] [] S9 S17 := y_sm_tr (y_sm_e e16 (Or.inl (by decide))) f17
            refine k _ _ (y_RI_now hf hI k9) (fun x q hx => ?_) ?_ (by omega) (by omega)
            · rw [y_sm_out hf (by decide) x q hx, y_sm_out f9 (by decide) x q hx, y_sm_out f3 (by decide) x q hx]; exact y_sm_out hsm (by decide) x q hx
            · rw [hf 138 0 (by decide) (by decide), f9 138 0 (by decide) (by decide), f3 138 0 (by decide) (by decide)]; exact hsm 138 0 (by decide) (by decide)
      · have l3 : S3 138 0 = _ := f3 138 0 (by decide) (by decide)
        refine x_if_eq (by decide) (by decide) (fun _ => ?_) (fun z => absurd (by decide) z)
        refine x_blk (b := 5) (a_184 E) rfl ?_
        unfold b_184_5
        refine x_push (-10) rfl ?_
        refine x_aload rfl ?_
        refine x_getI (r := 138) rfl (by decide) (by decide) (by decide) rfl ?_
        intro g20a g20b
        refine x_isub ?_
        refine x_iret ?_
        refine k _ _ (y_RI_sm f3 (by decide) (by decide) hRt) (fun x q hx => ?_) ?_ (by omega) (by omega)
        · rw [y_sm_out f3 (by decide) x q hx]; exact y_sm_out hsm (by decide) x q hx
        · rw [f3 138 0 (by decide) (by decide)]; exact hsm 138 0 (by decide) (by decide)
theorem c_184 {E : q_E} {σ : x_S} {Q : Option q_V → x_S → Prop} {r : Int} (r1 : -2147483648 ≤ r) (r2 : r ≤ 2147483647) (hR : y_RI σ) (k : y_K Q σ) : x_P E 184 [x_R 138, x_I r] σ Q := by
  obtain ⟨rl, rp, ru5, rb, rk, rc⟩ := id hR
  have ru := rp.2.2.2.1
  refine x_Mt e_184 (h_184 E) (Nat.le_of_ble_eq_true rfl) t_184 rfl ?_
  refine x_blk (b := 0) (a_184 E) rfl ?_
  unfold b_184_0
  refine x_iload rfl ?_
  refine x_i2l (by omega) (by omega) ?_
  refine x_pushL 0 rfl ?_
  refine x_aload rfl ?_
  refine x_getR (r := 138) rfl (by decide) (by decide) rfl ?_
  refine x_push 62 rfl ?_
  refine x_iald (r := 140) (n := 256) (m := 62) rfl rfl (by decide) (fun _ => rfl) rfl (by omega) (by omega) ?_
  intro g1a g1b
  refine x_i2l (by omega) (by omega) ?_
  refine x_cS (fun _ => rfl) (Nat.le_of_ble_eq_true rfl) ?_
  refine c_45 (by omega) (by omega) (by omega) (by omega) (by omega) (by omega) (fun y2 => ?_) (fun y2 => ?_)
  · skip
    refine x_if_ne (by decide) (by decide) (fun z => absurd z (by decide)) (fun _ => ?_)
    refine x_blk (b := 1) (a_184 E) rfl ?_
    unfold b_184_1
    refine x_iload rfl ?_
    refine x_push 16 rfl ?_
    refine x_icmp_ne (by omega) (by omega) (by omega) (by omega) (fun z4 => ?_) (fun z4 => ?_)
    · skip
      refine x_push (-3) rfl ?_
      refine x_iret ?_
      exact k _ _ hR (fun _ _ _ => rfl) rfl (by omega) (by omega)
    · skip
      refine x_blk (b := 2) (a_184 E) rfl ?_
      unfold b_184_2
      refine x_aload rfl ?_
      refine x_push 0 rfl ?_
      refine x_putI (r := 138) rfl (by decide) (by decide) (by decide) rfl ⟨by decide, rfl⟩ (by omega) (by omega) (fun S5 e5 => ?_)
      have w5 := x_up_at e5
      refine x_push 0 rfl ?_
      refine x_istore ?_
      refine x_fall ?_
      refine x_G_lo (lo' := [(0, x_R 138), (1, x_I r), (2, x_I 0)]) ⟨rfl, rfl, rfl, trivial⟩ ?_
      exact c_184_a (by omega) (by omega) (by omega) hR k _ 0 S5 (by omega) (by omega) rfl (y_sm_e e5 (Or.inr ⟨rfl, by decide⟩)) w5 (y_RI_sm (y_sm_e e5 (Or.inr ⟨rfl, by decide⟩) : y_sm [] [8] σ S5) (by decide) (by decide) hR)
  · skip
    refine x_if_ne (by decide) (by decide) (fun _ => ?_) (fun z => absurd (by decide) z)
    refine x_push (-1) rfl ?_
    refine x_iret ?_
    exact k _ _ hR (fun _ _ _ => rfl) rfl (by omega) (by omega)

