/-! the reference's acts: exact -/
/-- the reference has noted its program -/
def y_NT (σ τ : x_S) : Prop := τ 138 5 = (y_pn (σ 138 5).toNat : Nat) ∧ ∀ i, i < y_pn (σ 138 5).toNat → ∀ m, m < 256 → τ 142 (256 * i + m) = y_psh (σ 138 5).toNat (fun i m => σ 142 (256 * i + m)) (σ 140) i m
theorem y_NT_tr {σ ρ τ : x_S} (h : y_NT σ ρ) (h5 : τ 138 5 = ρ 138 5) (h2 : ∀ m, τ 142 m = ρ 142 m) : y_NT σ τ := ⟨h5.trans h.1, fun i hi m hm => (h2 _).trans (h.2 i hi m hm)⟩
theorem y_NT_st {ρ σ τ : x_S} (h : y_NT σ τ) (h5 : σ 138 5 = ρ 138 5) (h2 : ∀ m, σ 142 m = ρ 142 m) (h0 : ∀ m, σ 140 m = ρ 140 m) : y_NT ρ τ := by
  have e : σ 140 = ρ 140 := funext h0
  have e2 : σ 142 = ρ 142 := funext h2
  unfold y_NT at h ⊢
  rw [h5, e, e2] at h
  exact h
theorem c_88N {E : q_E} {σ : x_S} {Q : Option q_V → x_S → Prop} (hR : y_RI σ) (k : ∀ τ, y_sm [142] [5] σ τ → y_RI τ → y_NT σ τ → Q none τ) : x_P E 88 [x_R 138] σ Q := by
  obtain ⟨rl, rp, ru, rb, rk, rc⟩ := id hR
  refine c_88 ru.1 ru.2 (fun h8 τ a b c d => k τ a ?_ ?_) (fun h8 τ a b c d => k τ a ?_ ?_)
  · have h0 := a 138 0 (by decide) (by decide)
    have h7 := a 138 7 (by decide) (by decide)
    refine ⟨by rw [h0]; exact rl, y_PI_ext (fun q _ => (y_sm_a a 140 (by decide) (by decide) q).symm) rp, by omega, fun u hu => ?_, by rw [h7]; exact rk, fun u hu => y_PI_ext (fun q _ => (y_sm_a a 143 (by decide) (by decide) _).symm) (rc u (by omega))⟩
    by_cases e : u = 7
    · refine y_PI_ext (fun q hq => ?_) rp
      rw [e, show 256 * 7 + q = 1792 + q by omega, d q (by omega)]
    · refine y_PI_ext (fun q hq => ?_) (rb (u + 1) (by omega))
      rw [c _ (by omega)]
      congr 1
      omega
  · unfold y_NT y_pn y_psh
    rw [if_neg (by omega)]
    refine ⟨by omega, fun i hi m hm => ?_⟩
    rw [if_neg (by omega)]
    by_cases e : i = 7
    · rw [if_pos e, e, show 256 * 7 + m = 1792 + m by omega]; exact d m hm
    · rw [if_neg e, c _ (by omega)]
      show _ = σ 142 (256 * (i + 1) + m)
      congr 1
      omega
  · have h0 := a 138 0 (by decide) (by decide)
    have h7 := a 138 7 (by decide) (by decide)
    refine ⟨by rw [h0]; exact rl, y_PI_ext (fun q _ => (y_sm_a a 140 (by decide) (by decide) q).symm) rp, by omega, fun u hu => ?_, by rw [h7]; exact rk, fun u hu => y_PI_ext (fun q _ => (y_sm_a a 143 (by decide) (by decide) _).symm) (rc u (by omega))⟩
    by_cases e : u = (σ 138 5).toNat
    · refine y_PI_ext (fun q hq => ?_) rp
      rw [e, d q (by omega)]
    · refine y_PI_ext (fun q hq => ?_) (rb u (by omega))
      rw [c _ (by omega)]
  · unfold y_NT y_pn y_psh
    rw [if_pos (by omega)]
    refine ⟨by omega, fun i hi m hm => ?_⟩
    rw [if_pos (by omega)]
    by_cases e : i = (σ 138 5).toNat
    · rw [if_pos e, e]; exact d m hm
    · rw [if_neg e]
      exact c _ (by omega)
theorem cx_187 {E : q_E} {σ : x_S} {Q : Option q_V → x_S → Prop} {t v f : Int} (t1 : -2147483648 ≤ t) (t2 : t ≤ 2147483647) (v1 : -2147483648 ≤ v) (v2 : v ≤ 2147483647) (f1 : -2147483648 ≤ f) (f2 : f ≤ 2147483647) (hR : y_RI σ) (kB : ¬ ((0 ≤ t ∧ t ≤ 2) ∧ (0 ≤ v ∧ v ≤ σ 140 (2 + t).toNat - 1) ∧ (0 ≤ f ∧ f ≤ 4) ∧ y_ch (σ 140 (5 + 11 * t + v).toNat) = y_ch f) → Q (some (x_I (-1))) σ) (kN : ((0 ≤ t ∧ t ≤ 2) ∧ (0 ≤ v ∧ v ≤ σ 140 (2 + t).toNat - 1) ∧ (0 ≤ f ∧ f ≤ 4) ∧ y_ch (σ 140 (5 + 11 * t + v).toNat) = y_ch f) → σ 140 (5 + 11 * t + v).toNat = f → Q (some (x_I (-2))) σ) (kS : (((0 ≤ t ∧ t ≤ 2) ∧ (0 ≤ v ∧ v ≤ σ 140 (2 + t).toNat - 1) ∧ (0 ≤ f ∧ f ≤ 4) ∧ y_ch (σ 140 (5 + 11 * t + v).toNat) = y_ch f) ∧ σ 140 (5 + 11 * t + v).toNat ≠ f) → ∀ τ, y_RI τ → y_sm [140, 142, 144] [5, 8] σ τ → y_NT σ τ → (∀ m, τ 140 m = y_wK (σ 140) (5 + 11 * t + v).toNat f m) → Q (some (x_I (σ 140 (5 + 11 * t + v).toNat))) τ) : x_P E 187 [x_R 138, x_I t, x_I v, x_I f] σ Q := by
  obtain ⟨rl, rp, ru5, rb, rk, rc⟩ := id hR
  have ru := rp.2.2.2.1
  refine x_Mt e_187 (h_187 E) (Nat.le_of_ble_eq_true rfl) t_187 rfl ?_
  refine x_blk (b := 0) (a_187 E) rfl ?_
  unfold b_187_0
  refine x_aload rfl ?_
  refine x_iload rfl ?_
  refine x_iload rfl ?_
  refine x_cV (fun _ => rfl) rfl (by decide) (Nat.le_of_ble_eq_true rfl) ?_
  refine c_92 (by omega) (by omega) (by omega) (by omega) (by assumption) (fun y1 => ?_) (fun y1 => ?_)
  · skip
    refine x_if_eq (by decide) (by decide) (fun z => absurd z (by decide)) (fun _ => ?_)
    refine x_iload rfl ?_
    refine x_i2l (by omega) (by omega) ?_
    refine x_pushL 0 rfl ?_
    refine x_pushL 4 rfl ?_
    refine x_cS (fun _ => rfl) (Nat.le_of_ble_eq_true rfl) ?_
    refine c_45 (by omega) (by omega) (by omega) (by omega) (by omega) (by omega) (fun y3 => ?_) (fun y3 => ?_)
    · skip
      refine x_if_ne (by decide) (by decide) (fun z => absurd z (by decide)) (fun _ => ?_)
      refine x_blk (b := 2) (a_187 E) rfl ?_
      unfold b_187_2
      have sz := y_szt rp (t := t) (by omega) (by omega)
      have ez : 2 + t.toNat = (2 + t).toNat := by omega
      have em : 5 + 11 * t.toNat + v.toNat = (5 + 11 * t + v).toNat := by omega
      have lt := (rp.2.1 t.toNat (by omega)).2.1 v.toNat (by rw [ez]; omega)
      have lt : 0 ≤ σ 140 (5 + 11 * t.toNat + v.toNat) ∧ σ 140 (5 + 11 * t.toNat + v.toNat) ≤ 4 := ⟨lt.1, lt.2.1⟩
      rw [em] at lt
      refine x_aload rfl ?_
      refine x_getR (r := 138) rfl (by decide) (by decide) rfl ?_
      refine x_push 5 rfl ?_
      refine x_push 11 rfl ?_
      refine x_iload rfl ?_
      refine x_imul ?_
      refine x_iadd ?_
      refine x_iload rfl ?_
      refine x_iadd ?_
      refine x_iald (r := 140) (n := 256)  rfl rfl (by decide) (fun _ => rfl) rfl (by omega) (by omega) ?_
      intro g5a g5b
      refine x_istore ?_
      refine x_iload rfl ?_
      refine x_cS (fun _ => rfl) (Nat.le_of_ble_eq_true rfl) ?_
      refine c_0 (by omega) (by omega) ?_
      refine x_iload rfl ?_
      refine x_cS (fun _ => rfl) (Nat.le_of_ble_eq_true rfl) ?_
      refine c_0 (by omega) (by omega) ?_
      have cb1 := y_ch_b (σ 140 (5 + 11 * t + v).toNat)
      have cb2 := y_ch_b f
      refine x_icmp_eq (by omega) (by omega) (by omega) (by omega) (fun z8 => ?_) (fun z8 => ?_)
      · skip
        refine x_blk (b := 3) (a_187 E) rfl ?_
        unfold b_187_3
        refine x_iload rfl ?_
        refine x_iload rfl ?_
        refine x_icmp_ne (by omega) (by omega) (by omega) (by omega) (fun z9 => ?_) (fun z9 => ?_)
        · skip
          refine x_push (-2) rfl ?_
          refine x_iret ?_
          exact kN ⟨by omega, by omega, by omega, by omega⟩ (by omega)
        · skip
          refine x_blk (b := 4) (a_187 E) rfl ?_
          unfold b_187_4
          refine x_aload rfl ?_
          refine x_cV (fun _ => rfl) rfl (by decide) (Nat.le_of_ble_eq_true rfl) ?_
          refine c_88N (by assumption) (fun S10 f10 k10 N10 => ?_)
          refine x_aload rfl ?_
          refine x_getR (r := 138) rfl (by decide) (by decide) rfl ?_
          refine x_push 5 rfl ?_
          refine x_push 11 rfl ?_
          refine x_iload rfl ?_
          refine x_imul ?_
          refine x_iadd ?_
          refine x_iload rfl ?_
          refine x_iadd ?_
          refine x_iload rfl ?_
          refine x_ast (r := 140) (n := 256)  rfl rfl (by decide) (fun _ => rfl) rfl (by omega) (by omega) (by omega) (by omega) (fun S11 e11 => ?_)
          have w11 := x_up_at e11
          refine x_iload rfl ?_
          refine x_iret ?_
          have q140 : ∀ m, S10 140 m = σ 140 m := y_sm_a f10 140 (by decide) (by decide)
          have hw : ∀ m, S11 140 m = y_wK (σ 140) (5 + 11 * t + v).toNat f m := by
            intro m
            unfold y_wK
            by_cases c : m = (5 + 11 * t + v).toNat
            · rw [if_pos c, c]; exact w11
            · rw [if_neg c, x_up_ne e11 (fun z => c z.2), q140]
          have hI : y_PI (S11 140) := y_PI_leaf (t := t.toNat) (v := v.toNat) (f := f) rp (by omega) (by rw [ez]; omega) (by omega) (by omega) (by rw [em]; assumption) (by rw [em]; exact w11) (fun q hq => by rw [x_up_ne e11 (fun z => by omega), q140])
          exact kS ⟨⟨by omega, by omega, by omega, by omega⟩, by omega⟩ _ (y_RI_now (y_sm_e e11 (Or.inl (by decide))) hI k10) (y_sm_tr (y_sm_w (by decide) (by decide) f10) (y_sm_e e11 (Or.inl (by decide)))) (y_NT_tr N10 (x_up_nr e11 (by decide)) (fun m => x_up_nr e11 (by decide))) hw
      · skip
        refine x_push (-1) rfl ?_
        refine x_iret ?_
        exact kB (by omega)
    · skip
      refine x_if_ne (by decide) (by decide) (fun _ => ?_) (fun z => absurd (by decide) z)
      refine x_fall ?_
      refine x_blk (b := 1) (a_187 E) rfl ?_
      unfold b_187_1
      refine x_push (-1) rfl ?_
      refine x_iret ?_
      exact kB (by omega)
  · skip
    refine x_if_eq (by decide) (by decide) (fun _ => ?_) (fun z => absurd (by decide) z)
    refine x_blk (b := 1) (a_187 E) rfl ?_
    unfold b_187_1
    refine x_push (-1) rfl ?_
    refine x_iret ?_
    exact kB (by omega)
theorem cx_185 {E : q_E} {σ : x_S} {Q : Option q_V → x_S → Prop} {r : Int} (r1 : -2147483648 ≤ r) (r2 : r ≤ 2147483647) (hR : y_RI σ) (kB : ¬ (0 ≤ r ∧ r ≤ σ 140 62 - 1) → Q (some (x_I (-1))) σ) (kS : (0 ≤ r ∧ r ≤ σ 140 62 - 1) → ∀ τ, y_RI τ → y_sm [140, 142, 144] [5, 8] σ τ → y_NT σ τ → (∀ m, τ 140 m = y_cut (σ 140) r.toNat m) → Q (some (x_I (σ 140 62 - 1))) τ) : x_P E 185 [x_R 138, x_I r] σ Q := by
  obtain ⟨rl, rp, ru5, rb, rk, rc⟩ := id hR
  have ru := rp.2.2.2.1
  refine x_Mt e_185 (h_185 E) (Nat.le_of_ble_eq_true rfl) t_185 rfl ?_
  refine x_blk (b := 0) (a_185 E) rfl ?_
  unfold b_185_0
  refine x_aload rfl ?_
  refine x_iload rfl ?_
  refine x_cV (fun _ => rfl) rfl (by decide) (Nat.le_of_ble_eq_true rfl) ?_
  refine c_82 (by omega) (by omega) (by omega) (fun y1 => ?_) (fun y1 => ?_)
  · skip
    refine x_if_ne (by decide) (by decide) (fun z => absurd z (by decide)) (fun _ => ?_)
    refine x_blk (b := 1) (a_185 E) rfl ?_
    unfold b_185_1
    refine x_aload rfl ?_
    refine x_cV (fun _ => rfl) rfl (by decide) (Nat.le_of_ble_eq_true rfl) ?_
    refine c_88N (by assumption) (fun S3 f3 k3 N3 => ?_)
    refine x_aload rfl ?_
    refine x_iload rfl ?_
    refine x_push 1 rfl ?_
    refine x_iadd ?_
    refine x_iload rfl ?_
    refine x_cV (fun _ => rfl) rfl (by decide) (Nat.le_of_ble_eq_true rfl) ?_
    have q140 : ∀ m, S3 140 m = σ 140 m := y_sm_a f3 140 (by decide) (by decide)
    have q62 := q140 62
    refine c_93d (by omega) (by omega) (by omega) (fun S4 f4 a4 b4 => ?_)
    refine x_aload rfl ?_
    refine x_getR (r := 138) rfl (by decide) (by decide) rfl ?_
    refine x_push 62 rfl ?_
    refine x_iald (r := 140) (n := 256) (m := 62) rfl rfl (by decide) (fun _ => rfl) rfl (by omega) (by omega) ?_
    intro g5a g5b
    refine x_iret ?_
    have hI : y_PI (S4 140) := y_PI_cut (r := r.toNat) (ρ := S3 140) k3.2.1 (by omega) a4 b4
    have e140 : S3 140 = σ 140 := funext q140
    rw [e140] at a4 b4
    refine x_fin a4 ?_
    refine kS ⟨by omega, by omega⟩ _ (y_RI_now f4 hI k3) (y_sm_tr (y_sm_w (by decide) (by decide) f3) (y_sm_w (by decide) (by decide) f4)) (y_NT_tr N3 (f4 138 5 (by decide) (by decide)) (y_sm_a f4 142 (by decide) (by decide))) (fun m => ?_)
    unfold y_cut
    by_cases c : m = 62
    · rw [if_pos c, c]; exact a4
    · rw [if_neg c]; exact b4 m c
  · skip
    refine x_if_ne (by decide) (by decide) (fun _ => ?_) (fun z => absurd (by decide) z)
    refine x_push (-1) rfl ?_
    refine x_iret ?_
    exact kB (by omega)
theorem cx_186_a {E : q_E} {σ : x_S} {Q : Option q_V → x_S → Prop} {r t : Int} (r1 : 0 ≤ r) (r2 : r < σ 140 62) (t1 : 0 ≤ t) (t2 : t < σ 140 62) (rt : r ≠ t) (hR : y_RI σ) (kS : (0 ≤ r ∧ r < σ 140 62 ∧ 0 ≤ t ∧ t < σ 140 62 ∧ r ≠ t) → ∀ τ, y_RI τ → y_sm [140, 142, 144] [5, 8] σ τ → y_NT σ τ → (∀ m, τ 140 m = y_shf (σ 140) r.toNat t.toNat m) → Q (some (x_I (if r < t then t - r else r - t))) τ) : ∀ (N : Nat) (i : Int) (τ : x_S), 0 ≤ i → i ≤ 12 → (12 - i).toNat = N → y_sm [142, 144] [5] σ τ → (∀ m, τ 140 m = σ 140 m) → (∀ m : Nat, (m : Int) < i → τ 144 m = σ 140 (63 + 12 * r.toNat + m)) → y_RI τ → y_NT σ τ → x_G E m_186 Q (t_186 5) [(0, x_R 138), (1, x_I r), (2, x_I t), (3, x_I i)] [] τ := by
  intro N
  induction N using Nat.strongRecOn with
  | ind N ih =>
    intro i τ i1 i2 hN hsm qn hv hRt hNT
    obtain ⟨rl, rp, ru5, rb, rk, rc⟩ := id hR
    have ru := rp.2.2.2.1
    have q62 := qn 62
    have h47 : 1 ≤ σ 140 (63 + 12 * r.toNat + 4) ∧ σ 140 (63 + 12 * r.toNat + 4) ≤ 7 := (rp.2.2.2.2 r.toNat (by omega)).2.2.2.2.1
    refine x_blk (b := 5) (a_186 E) rfl ?_
    unfold b_186_5
    refine x_iload rfl ?_
    refine x_push 12 rfl ?_
    refine x_icmp_ge (by omega) (by omega) (by omega) (by omega) (fun z1 => ?_) (fun z1 => ?_)
    · skip
      refine x_aload rfl ?_
      refine x_getR (r := 138) rfl (by decide) (by decide) rfl ?_
      refine x_iload rfl ?_
      refine x_aload rfl ?_
      refine x_iload rfl ?_
      refine x_iload rfl ?_
      refine x_cV (fun _ => rfl) rfl (by decide) (Nat.le_of_ble_eq_true rfl) ?_
      refine c_3 (by omega) (by omega) (fun c2a c2b => ?_)
      refine x_ast (r := 144) (n := 12)  rfl rfl (by decide) (fun _ => rfl) rfl (by omega) (by omega) (by omega) (by omega) (fun S3 e3 => ?_)
      have w3 := x_up_at e3
      refine x_iinc 1 rfl rfl ?_
      refine x_goto ?_
      refine x_G_lo (lo' := [(0, x_R 138), (1, x_I r), (2, x_I t), (3, x_I (i + 1))]) ⟨rfl, rfl, rfl, rfl, trivial⟩ ?_
      refine ih _ (by omega) (i + 1) S3 (by omega) (by omega) rfl (y_sm_tr hsm (y_sm_e e3 (Or.inl (by decide)))) (fun m => ?_) (fun m hm => ?_) (y_RI_sm (y_sm_e e3 (Or.inl (by decide)) : y_sm [144] [] τ S3) (by decide) (by decide) hRt) (y_NT_tr hNT (x_up_nr e3 (by decide)) (fun m => x_up_nr e3 (by decide)))
      · rw [x_up_nr e3 (by decide)]; exact qn m
      · by_cases c : m = i.toNat
        · subst c
          rw [w3, qn]
          congr 1
          omega
        · rw [x_up_ne e3 (fun z => c z.2)]; exact hv m (by omega)
    · skip
      refine x_blk (b := 4) (a_186 E) rfl ?_
      unfold b_186_4
      refine x_aload rfl ?_
      refine x_iload rfl ?_
      refine x_push 1 rfl ?_
      refine x_iadd ?_
      refine x_iload rfl ?_
      refine x_cV (fun _ => rfl) rfl (by decide) (Nat.le_of_ble_eq_true rfl) ?_
      refine c_93d (by omega) (by omega) (by omega) (fun S4 f4 a4 b4 => ?_)
      refine x_aload rfl ?_
      refine x_iload rfl ?_
      refine x_iload rfl ?_
      refine x_push 1 rfl ?_
      refine x_iadd ?_
      refine x_cV (fun _ => rfl) rfl (by decide) (Nat.le_of_ble_eq_true rfl) ?_
      refine c_93u (t := t) (by omega) (by omega) (by omega) (fun S5 f5 a5 b5 => ?_)
      refine x_aload rfl ?_
      refine x_iload rfl ?_
      refine x_cV (fun _ => rfl) rfl (by decide) (Nat.le_of_ble_eq_true rfl) ?_
      refine c_115 (by omega) (by omega) (fun S6 f6 a6 b6 => ?_)
      refine x_iload rfl ?_
      refine x_iload rfl ?_
      refine x_icmp_ge (by omega) (by omega) (by omega) (by omega) (fun z7 => ?_) (fun z7 => ?_)
      · skip
        refine x_iload rfl ?_
        refine x_iload rfl ?_
        refine x_isub ?_
        refine x_goto ?_
        refine x_blk (b := 7) (a_186 E) rfl ?_
        unfold b_186_7
        refine x_iret ?_
        have hI1 : y_PI (S4 140) := y_PI_cut (r := r.toNat) (ρ := τ 140) hRt.2.1 (by omega) a4 b4
        have q144 : ∀ m, S5 144 m = τ 144 m := fun m => (y_sm_a f5 144 (by decide) (by decide) m).trans (y_sm_a f4 144 (by decide) (by decide) m)
        have hq : y_rl (τ 144) := y_rl_ext (fun i hi => (hv i (by have : i < 5 + (σ 140 (63 + 12 * r.toNat + 4)).toNat := hi; omega)).symm) (rp.2.2.2.2 r.toNat (by omega))
        have hI : y_PI (S6 140) := y_PI_ins (t := t.toNat) (ρ := S4 140) (τ := S5 140) (q := τ 144) hI1 (by omega) (by omega) a5 b5 hq a6 (fun m hm => by rw [b6 m hm, q144])
        have hf : y_sm [140] [] τ S6 := y_sm_tr (y_sm_tr f4 f5) f6
        have eτ : τ 140 = σ 140 := funext qn
        rw [eτ] at a4 b4
        have eC : S4 140 = y_cut (σ 140) r.toNat := by
          funext m
          unfold y_cut
          by_cases c : m = 62
          · rw [if_pos c, c]; exact a4
          · rw [if_neg c]; exact b4 m c
        rw [eC] at a5 b5
        have eB : S5 140 = y_up1 (y_cut (σ 140) r.toNat) t.toNat := by
          funext m
          unfold y_up1
          by_cases c : m = 62
          · rw [if_pos c, c]; exact a5
          · rw [if_neg c]; exact b5 m c
        refine x_fin (b := if r < t then t - r else r - t) (by split <;> omega) ?_
        refine kS ⟨by omega, by omega, by omega, by omega, by omega⟩ _ (y_RI_now hf hI hRt) (y_sm_tr (y_sm_w (by decide) (by decide) hsm) (y_sm_w (by decide) (by decide) hf)) (y_NT_tr hNT (hf 138 5 (by decide) (by decide)) (y_sm_a hf 142 (by decide) (by decide))) (fun m => ?_)
        unfold y_shf y_pt
        by_cases c : 63 + 12 * t.toNat ≤ m ∧ m < 75 + 12 * t.toNat
        · rw [if_pos c]
          have h9 := b6 (m - (63 + 12 * t.toNat)) (by omega)
          rw [show 63 + 12 * t.toNat + (m - (63 + 12 * t.toNat)) = m by omega] at h9
          rw [h9, q144]
          exact hv _ (by omega)
        · rw [if_neg c, a6 m c, eB]
      · skip
        refine x_blk (b := 6) (a_186 E) rfl ?_
        unfold b_186_6
        refine x_iload rfl ?_
        refine x_iload rfl ?_
        refine x_isub ?_
        refine x_fall ?_
        refine x_blk (b := 7) (a_186 E) rfl ?_
        unfold b_186_7
        refine x_iret ?_
        have hI1 : y_PI (S4 140) := y_PI_cut (r := r.toNat) (ρ := τ 140) hRt.2.1 (by omega) a4 b4
        have q144 : ∀ m, S5 144 m = τ 144 m := fun m => (y_sm_a f5 144 (by decide) (by decide) m).trans (y_sm_a f4 144 (by decide) (by decide) m)
        have hq : y_rl (τ 144) := y_rl_ext (fun i hi => (hv i (by have : i < 5 + (σ 140 (63 + 12 * r.toNat + 4)).toNat := hi; omega)).symm) (rp.2.2.2.2 r.toNat (by omega))
        have hI : y_PI (S6 140) := y_PI_ins (t := t.toNat) (ρ := S4 140) (τ := S5 140) (q := τ 144) hI1 (by omega) (by omega) a5 b5 hq a6 (fun m hm => by rw [b6 m hm, q144])
        have hf : y_sm [140] [] τ S6 := y_sm_tr (y_sm_tr f4 f5) f6
        have eτ : τ 140 = σ 140 := funext qn
        rw [eτ] at a4 b4
        have eC : S4 140 = y_cut (σ 140) r.toNat := by
          funext m
          unfold y_cut
          by_cases c : m = 62
          · rw [if_pos c, c]; exact a4
          · rw [if_neg c]; exact b4 m c
        rw [eC] at a5 b5
        have eB : S5 140 = y_up1 (y_cut (σ 140) r.toNat) t.toNat := by
          funext m
          unfold y_up1
          by_cases c : m = 62
          · rw [if_pos c, c]; exact a5
          · rw [if_neg c]; exact b5 m c
        refine x_fin (b := if r < t then t - r else r - t) (by split <;> omega) ?_
        refine kS ⟨by omega, by omega, by omega, by omega, by omega⟩ _ (y_RI_now hf hI hRt) (y_sm_tr (y_sm_w (by decide) (by decide) hsm) (y_sm_w (by decide) (by decide) hf)) (y_NT_tr hNT (hf 138 5 (by decide) (by decide)) (y_sm_a hf 142 (by decide) (by decide))) (fun m => ?_)
        unfold y_shf y_pt
        by_cases c : 63 + 12 * t.toNat ≤ m ∧ m < 75 + 12 * t.toNat
        · rw [if_pos c]
          have h9 := b6 (m - (63 + 12 * t.toNat)) (by omega)
          rw [show 63 + 12 * t.toNat + (m - (63 + 12 * t.toNat)) = m by omega] at h9
          rw [h9, q144]
          exact hv _ (by omega)
        · rw [if_neg c, a6 m c, eB]
theorem cx_186 {E : q_E} {σ : x_S} {Q : Option q_V → x_S → Prop} {r t : Int} (r1 : -2147483648 ≤ r) (r2 : r ≤ 2147483647) (t1 : -2147483648 ≤ t) (t2 : t ≤ 2147483647) (hR : y_RI σ) (kB : ¬ (0 ≤ r ∧ r < σ 140 62 ∧ 0 ≤ t ∧ t < σ 140 62) → Q (some (x_I (-1))) σ) (kN : (0 ≤ r ∧ r < σ 140 62 ∧ 0 ≤ t ∧ t < σ 140 62) → r = t → Q (some (x_I (-2))) σ) (kS : (0 ≤ r ∧ r < σ 140 62 ∧ 0 ≤ t ∧ t < σ 140 62 ∧ r ≠ t) → ∀ τ, y_RI τ → y_sm [140, 142, 144] [5, 8] σ τ → y_NT σ τ → (∀ m, τ 140 m = y_shf (σ 140) r.toNat t.toNat m) → Q (some (x_I (if r < t then t - r else r - t))) τ) : x_P E 186 [x_R 138, x_I r, x_I t] σ Q := by
  obtain ⟨rl, rp, ru5, rb, rk, rc⟩ := id hR
  have ru := rp.2.2.2.1
  refine x_Mt e_186 (h_186 E) (Nat.le_of_ble_eq_true rfl) t_186 rfl ?_
  refine x_blk (b := 0) (a_186 E) rfl ?_
  unfold b_186_0
  refine x_aload rfl ?_
  refine x_iload rfl ?_
  refine x_cV (fun _ => rfl) rfl (by decide) (Nat.le_of_ble_eq_true rfl) ?_
  refine c_82 (by omega) (by omega) (by omega) (fun y1 => ?_) (fun y1 => ?_)
  · skip
    refine x_if_eq (by decide) (by decide) (fun z => absurd z (by decide)) (fun _ => ?_)
    refine x_aload rfl ?_
    refine x_iload rfl ?_
    refine x_cV (fun _ => rfl) rfl (by decide) (Nat.le_of_ble_eq_true rfl) ?_
    refine c_82 (by omega) (by omega) (by omega) (fun y3 => ?_) (fun y3 => ?_)
    · skip
      refine x_if_ne (by decide) (by decide) (fun z => absurd z (by decide)) (fun _ => ?_)
      refine x_blk (b := 2) (a_186 E) rfl ?_
      unfold b_186_2
      refine x_iload rfl ?_
      refine x_iload rfl ?_
      refine x_icmp_ne (by omega) (by omega) (by omega) (by omega) (fun z5 => ?_) (fun z5 => ?_)
      · skip
        refine x_push (-2) rfl ?_
        refine x_iret ?_
        exact kN (by omega) (by omega)
      · skip
        refine x_blk (b := 3) (a_186 E) rfl ?_
        unfold b_186_3
        refine x_aload rfl ?_
        refine x_cV (fun _ => rfl) rfl (by decide) (Nat.le_of_ble_eq_true rfl) ?_
        refine c_88N (by assumption) (fun S6 f6 k6 N6 => ?_)
        refine x_push 0 rfl ?_
        refine x_istore ?_
        refine x_fall ?_
        refine x_G_lo (lo' := [(0, x_R 138), (1, x_I r), (2, x_I t), (3, x_I 0)]) ⟨rfl, rfl, rfl, rfl, trivial⟩ ?_
        exact cx_186_a (by omega) (by omega) (by omega) (by omega) (by omega) hR kS _ 0 S6 (by omega) (by omega) rfl (y_sm_w (by decide) (by decide) f6) (y_sm_a f6 140 (by decide) (by decide)) (fun m hm => absurd hm (by omega)) k6 N6
    · skip
      refine x_if_ne (by decide) (by decide) (fun _ => ?_) (fun z => absurd (by decide) z)
      refine x_fall ?_
      refine x_blk (b := 1) (a_186 E) rfl ?_
      unfold b_186_1
      refine x_push (-1) rfl ?_
      refine x_iret ?_
      exact kB (by omega)
  · skip
    refine x_if_eq (by decide) (by decide) (fun _ => ?_) (fun z => absurd (by decide) z)
    refine x_blk (b := 1) (a_186 E) rfl ?_
    unfold b_186_1
    refine x_push (-1) rfl ?_
    refine x_iret ?_
    exact kB (by omega)
theorem cx_188 {E : q_E} {σ : x_S} {Q : Option q_V → x_S → Prop} {m f e : Int} (h1 : -2147483648 ≤ m) (h2 : m ≤ 2147483647) (h3 : -2147483648 ≤ f) (h4 : f ≤ 2147483647) (h5 : -2147483648 ≤ e) (h6 : e ≤ 2147483647) (hR : y_RI σ) (kB : ¬ ((0 ≤ m ∧ m ≤ 1) ∧ (0 ≤ f ∧ f ≤ 4) ∧ 0 ≤ e ∧ e < y_pw (y_ch f)) → Q (some (x_I (-1))) σ) (kS : ((0 ≤ m ∧ m ≤ 1) ∧ (0 ≤ f ∧ f ≤ 4) ∧ 0 ≤ e ∧ e < y_pw (y_ch f)) → ∀ τ, y_RI τ → y_sm [140, 142, 144] [5, 8] σ τ → y_NT σ τ → (∀ q, τ 140 q = y_wK (σ 140) (y_tab m f e).toNat (1 - σ 140 (y_tab m f e).toNat) q) → Q (some (x_I (1 - σ 140 (y_tab m f e).toNat))) τ) : x_P E 188 [x_R 138, x_I m, x_I f, x_I e] σ Q := by
  obtain ⟨rl, rp, ru, rb, rk, rc⟩ := id hR
  refine x_Mt e_188 (h_188 E) (Nat.le_of_ble_eq_true rfl) t_188 rfl ?_
  refine x_blk (b := 0) (a_188 E) rfl ?_
  unfold b_188_0
  refine x_aload rfl ?_
  refine x_iload rfl ?_
  refine x_iload rfl ?_
  refine x_iload rfl ?_
  refine x_cV (fun _ => rfl) rfl (by decide) (Nat.le_of_ble_eq_true rfl) ?_
  refine c_114 (by omega) (by omega) (by omega) (by omega) (by omega) (by omega) (fun t1 xa1 xb1 => ?_) (fun t1 => ?_)
  · have ht := y_tab_b (m := m) (f := f) (e := e) (by omega) (by omega) (by omega) (by omega) (by omega) (by omega); have hE := rp.2.2.1 (y_tab m f e).toNat (by omega) (by omega)
    refine x_push (-1) rfl ?_
    refine x_icmp_ne (by omega) (by omega) (by omega) (by omega) (fun z => absurd z (by omega)) (fun z2 => ?_)
    refine x_blk (b := 1) (a_188 E) rfl ?_
    unfold b_188_1
    refine x_aload rfl ?_
    refine x_cV (fun _ => rfl) rfl (by decide) (Nat.le_of_ble_eq_true rfl) ?_
    refine c_88N (by assumption) (fun S3 f3 k3 N3 => ?_)
    refine x_aload rfl ?_
    refine x_getR (r := 138) rfl (by decide) (by decide) rfl ?_
    refine x_iload rfl ?_
    refine x_iload rfl ?_
    refine x_iload rfl ?_
    refine x_cS (fun _ => rfl) (Nat.le_of_ble_eq_true rfl) ?_
    refine c_17 (by omega) (by omega) ?_
    refine x_push 1 rfl ?_
    refine x_aload rfl ?_
    refine x_getR (r := 138) rfl (by decide) (by decide) rfl ?_
    refine x_iload rfl ?_
    refine x_iload rfl ?_
    refine x_iload rfl ?_
    refine x_cS (fun _ => rfl) (Nat.le_of_ble_eq_true rfl) ?_
    refine c_17 (by omega) (by omega) ?_
    refine x_iald (r := 140) (n := 256)  rfl rfl (by decide) (fun _ => rfl) rfl (by omega) (by omega) ?_
    have q6_1 : ∀ m, S3 140 m = σ 140 m := fun m => f3 140 m (by decide) (fun z => absurd z (by decide))
    simp only [q6_1]
    intro g6a g6b
    refine x_isub ?_
    refine x_ast (r := 140) (n := 256)  rfl rfl (by decide) (fun _ => rfl) rfl (by omega) (by omega) (by omega) (by omega) (fun S7 e7 => ?_)
    have w7 := x_up_at e7
    refine x_aload rfl ?_
    refine x_getR (r := 138) rfl (by decide) (by decide) rfl ?_
    refine x_iload rfl ?_
    refine x_iload rfl ?_
    refine x_iload rfl ?_
    refine x_cS (fun _ => rfl) (Nat.le_of_ble_eq_true rfl) ?_
    refine c_17 (by omega) (by omega) ?_
    refine x_iald (r := 140) (n := 256)  rfl rfl (by decide) (fun _ => rfl) rfl (by omega) (by omega) ?_
    intro g9a g9b
    refine x_iret ?_
    have q140 : ∀ q, S3 140 q = σ 140 q := y_sm_a f3 140 (by decide) (by decide)
    have hw : ∀ q, S7 140 q = y_wK (σ 140) (y_tab m f e).toNat (1 - σ 140 (y_tab m f e).toNat) q := by
      intro q
      unfold y_wK
      by_cases c : q = (y_tab m f e).toNat
      · rw [if_pos c, c]; exact w7
      · rw [if_neg c, x_up_ne e7 (fun z => c z.2), q140]
    have hI : y_PI (S7 140) := by
      refine y_PI_e (fun q h1 h2 => ?_) (fun q h1 h2 => ?_) rp
      · rw [x_up_ne e7 (fun z => absurd z.2 (by omega)), q140]
      · by_cases c : q = (y_tab m f e).toNat
        · rw [c, w7]; omega
        · rw [x_up_ne e7 (fun z => c z.2), q140]; exact rp.2.2.1 q h1 h2
    refine x_fin (b := 1 - σ 140 (y_tab m f e).toNat) (by first | exact w7 | omega) ?_
    exact kS (by omega) _ (y_RI_now (y_sm_e e7 (Or.inl (by decide))) hI k3) (y_sm_tr (y_sm_w (by decide) (by decide) f3) (y_sm_e e7 (Or.inl (by decide)))) (y_NT_tr N3 (x_up_nr e7 (by decide)) (fun m => x_up_nr e7 (by decide))) hw
  · skip
    refine x_push (-1) rfl ?_
    refine x_icmp_ne (by decide) (by decide) (by decide) (by decide) (fun _ => ?_) (fun z => absurd (by decide) z)
    refine x_push (-1) rfl ?_
    refine x_iret ?_
    exact kB (by omega)
theorem cx_189 {E : q_E} {σ : x_S} {Q : Option q_V → x_S → Prop} {p q : Int} (h1 : -2147483648 ≤ p) (h2 : p ≤ 2147483647) (h3 : -2147483648 ≤ q) (h4 : q ≤ 2147483647) (hR : y_RI σ) (kB : ¬ ((0 ≤ p ∧ p ≤ 1) ∧ (0 ≤ q ∧ q ≤ 3)) → Q (some (x_I (-1))) σ) (kN : ((0 ≤ p ∧ p ≤ 1) ∧ (0 ≤ q ∧ q ≤ 3)) → σ 140 p.toNat = q → Q (some (x_I (-2))) σ) (kS : ((0 ≤ p ∧ p ≤ 1) ∧ (0 ≤ q ∧ q ≤ 3) ∧ σ 140 p.toNat ≠ q) → ∀ τ, y_RI τ → y_sm [140, 142, 144] [5, 8] σ τ → y_NT σ τ → (∀ m, τ 140 m = y_wK (σ 140) p.toNat q m) → Q (some (x_I (σ 140 p.toNat))) τ) : x_P E 189 [x_R 138, x_I p, x_I q] σ Q := by
  obtain ⟨rl, rp, ru, rb, rk, rc⟩ := id hR
  refine x_Mt e_189 (h_189 E) (Nat.le_of_ble_eq_true rfl) t_189 rfl ?_
  refine x_blk (b := 0) (a_189 E) rfl ?_
  unfold b_189_0
  refine x_iload rfl ?_
  refine x_cS (fun _ => rfl) (Nat.le_of_ble_eq_true rfl) ?_
  refine c_64 (by omega) (by omega) (fun y1 => ?_) (fun y1 => ?_)
  · skip
    refine x_if_eq (by decide) (by decide) (fun z => absurd z (by decide)) (fun _ => ?_)
    refine x_iload rfl ?_
    refine x_i2l (by omega) (by omega) ?_
    refine x_pushL 0 rfl ?_
    refine x_pushL 3 rfl ?_
    refine x_cS (fun _ => rfl) (Nat.le_of_ble_eq_true rfl) ?_
    refine c_45 (by omega) (by omega) (by omega) (by omega) (by omega) (by omega) (fun y3 => ?_) (fun y3 => ?_)
    · skip
      refine x_if_ne (by decide) (by decide) (fun z => absurd z (by decide)) (fun _ => ?_)
      refine x_blk (b := 2) (a_189 E) rfl ?_
      unfold b_189_2
      refine x_aload rfl ?_
      refine x_getR (r := 138) rfl (by decide) (by decide) rfl ?_
      refine x_iload rfl ?_
      refine x_iald (r := 140) (n := 256)  rfl rfl (by decide) (fun _ => rfl) rfl (by omega) (by omega) ?_
      intro g5a g5b
      refine x_istore ?_
      refine x_iload rfl ?_
      refine x_iload rfl ?_
      refine x_icmp_ne (by omega) (by omega) (by omega) (by omega) (fun z6 => ?_) (fun z6 => ?_)
      · skip
        refine x_push (-2) rfl ?_
        refine x_iret ?_
        exact kN (by omega) (by omega)
      · skip
        refine x_blk (b := 3) (a_189 E) rfl ?_
        unfold b_189_3
        refine x_aload rfl ?_
        refine x_cV (fun _ => rfl) rfl (by decide) (Nat.le_of_ble_eq_true rfl) ?_
        refine c_88N (by assumption) (fun S7 f7 k7 N7 => ?_)
        refine x_aload rfl ?_
        refine x_getR (r := 138) rfl (by decide) (by decide) rfl ?_
        refine x_iload rfl ?_
        refine x_iload rfl ?_
        refine x_ast (r := 140) (n := 256)  rfl rfl (by decide) (fun _ => rfl) rfl (by omega) (by omega) (by omega) (by omega) (fun S8 e8 => ?_)
        have w8 := x_up_at e8
        refine x_iload rfl ?_
        refine x_iret ?_
        have q140 : ∀ m, S7 140 m = σ 140 m := y_sm_a f7 140 (by decide) (by decide)
        have hw : ∀ m, S8 140 m = y_wK (σ 140) p.toNat q m := by
          intro m
          unfold y_wK
          by_cases c : m = p.toNat
          · rw [if_pos c, c]; exact w8
          · rw [if_neg c, x_up_ne e8 (fun z => c z.2), q140]
        have hI : y_PI (S8 140) := by
          rw [show S8 140 = _ from funext hw]
          exact y_PI_K rp (by omega) (by omega) (by omega)
        exact kS ⟨by omega, by omega, by omega⟩ _ (y_RI_now (y_sm_e e8 (Or.inl (by decide))) hI k7) (y_sm_tr (y_sm_w (by decide) (by decide) f7) (y_sm_e e8 (Or.inl (by decide)))) (y_NT_tr N7 (x_up_nr e8 (by decide)) (fun m => x_up_nr e8 (by decide))) hw
    · skip
      refine x_if_ne (by decide) (by decide) (fun _ => ?_) (fun z => absurd (by decide) z)
      refine x_fall ?_
      refine x_blk (b := 1) (a_189 E) rfl ?_
      unfold b_189_1
      refine x_push (-1) rfl ?_
      refine x_iret ?_
      exact kB (by omega)
  · skip
    refine x_if_eq (by decide) (by decide) (fun _ => ?_) (fun z => absurd (by decide) z)
    refine x_blk (b := 1) (a_189 E) rfl ?_
    unfold b_189_1
    refine x_push (-1) rfl ?_
    refine x_iret ?_
    exact kB (by omega)
theorem cx_184_a {E : q_E} {σ : x_S} {Q : Option q_V → x_S → Prop} {r : Int} (r1 : 0 ≤ r) (r2 : r ≤ σ 140 62) (r3 : r ≤ 15) (hR : y_RI σ) (kX : (0 ≤ r ∧ r ≤ σ 140 62) → r ≤ 15 → (∀ l e, y_iR (y_tx σ) 0 = some (l, e) → e < σ 138 0) → ∀ τ v, y_RI τ → y_sm [144] [8] σ τ → Q (some (x_I v)) τ) (kS : ∀ l e, y_iR (y_tx σ) 0 = some (l, e) → ¬ e < σ 138 0 → (0 ≤ r ∧ r ≤ σ 140 62 ∧ r ≤ 15) → ∀ τ, y_RI τ → y_sm [140, 142, 144] [5, 8] σ τ → y_NT σ τ → y_AG (τ 140) (y_ent (σ 140) r.toNat (y_rr (y_tx σ) 0 l)) → Q (some (x_I (if r = σ 140 62 then σ 140 62 + 1 else σ 140 62))) τ) : ∀ (N : Nat) (i : Int) (τ : x_S), 0 ≤ i → i ≤ 12 → (12 - i).toNat = N → y_sm [144] [8] σ τ → τ 138 8 = 0 → y_RI τ → x_G E m_184 Q (t_184 4) [(0, x_R 138), (1, x_I r), (2, x_I i)] [] τ := by
  intro N
  induction N using Nat.strongRecOn with
  | ind N ih =>
    intro i τ i1 i2 hN hsm h8 hRt
    obtain ⟨rl, rp, ru5, rb, rk, rc⟩ := id hR
    have ru := rp.2.2.2.1
    have h0 := hRt.1
    have l0 : τ 138 0 = σ 138 0 := hsm 138 0 (by decide) (by decide)
    have hx : y_tx τ = y_tx σ := y_tx_m hsm (by decide) (by decide)
    refine x_blk (b := 4) (a_184 E) rfl ?_
    unfold b_184_4
    refine x_iload rfl ?_
    refine x_push 12 rfl ?_
    refine x_icmp_ge (by omega) (by omega) (by omega) (by omega) (fun z1 => ?_) (fun z1 => ?_)
    · skip
      refine x_aload rfl ?_
      refine x_getR (r := 138) rfl (by decide) (by decide) rfl ?_
      refine x_iload rfl ?_
      refine x_push 0 rfl ?_
      refine x_ast (r := 144) (n := 12)  rfl rfl (by decide) (fun _ => rfl) rfl (by omega) (by omega) (by omega) (by omega) (fun S2 e2 => ?_)
      have w2 := x_up_at e2
      refine x_iinc 1 rfl rfl ?_
      refine x_goto ?_
      refine x_G_lo (lo' := [(0, x_R 138), (1, x_I r), (2, x_I (i + 1))]) ⟨rfl, rfl, rfl, trivial⟩ ?_
      exact ih _ (by omega) (i + 1) S2 (by omega) (by omega) rfl (y_sm_tr hsm (y_sm_e e2 (Or.inl (by decide)))) ((x_up_nr e2 (by decide)).trans h8) (y_RI_sm (y_sm_e e2 (Or.inl (by decide)) : y_sm [144] [] τ S2) (by decide) (by decide) hRt)
    · skip
      refine x_blk (b := 3) (a_184 E) rfl ?_
      unfold b_184_3
      refine x_aload rfl ?_
      refine x_cV (fun _ => rfl) rfl (by decide) (Nat.le_of_ble_eq_true rfl) ?_
      refine ce_113 (by omega) (by omega) (by omega) (by omega) (fun l3 e3 h3 S3 f3 p3 q3 w3 => ?_) (fun h3 S3 f3 => ?_)
      · rw [hx, h8] at h3 w3; have l03 : S3 138 0 = _ := f3 138 0 (by decide) (by decide)
        refine x_if_eq (by decide) (by decide) (fun z => absurd z (by decide)) (fun _ => ?_)
        refine x_aload rfl ?_
        refine x_getI (r := 138) rfl (by decide) (by decide) (by decide) rfl ?_
        intro g5a g5b
        refine x_aload rfl ?_
        refine x_getI (r := 138) rfl (by decide) (by decide) (by decide) rfl ?_
        have q6_1 : S3 138 0 = τ 138 0 := f3 138 0 (by decide) (by decide)
        simp only [q6_1]
        intro g6a g6b
        refine x_icmp_ge (by omega) (by omega) (by omega) (by omega) (fun z7 => ?_) (fun z7 => ?_)
        · skip
          refine x_fall ?_
          refine x_blk (b := 5) (a_184 E) rfl ?_
          unfold b_184_5
          refine x_push (-10) rfl ?_
          refine x_aload rfl ?_
          refine x_getI (r := 138) rfl (by decide) (by decide) (by decide) rfl ?_
          intro g8a g8b
          refine x_isub ?_
          refine x_iret ?_
          refine kX (by omega) (by omega) (fun l e z => ?_) _ _ (y_RI_sm f3 (by decide) (by decide) hRt) (y_sm_tr hsm f3)
          rw [h3] at z
          first
            | (cases z; omega)
            | cases z
        · skip
          refine x_blk (b := 6) (a_184 E) rfl ?_
          unfold b_184_6
          refine x_aload rfl ?_
          refine x_cV (fun _ => rfl) rfl (by decide) (Nat.le_of_ble_eq_true rfl) ?_
          have hR3 : y_RI S3 := y_RI_sm f3 (by decide) (by decide) hRt
          refine c_88N hR3 (fun S9 f9 k9 N9 => ?_)
          refine x_aload rfl ?_
          refine x_getR (r := 138) rfl (by decide) (by decide) rfl ?_
          refine x_push 62 rfl ?_
          refine x_dup2 rfl rfl ?_
          refine x_iald (r := 140) (n := 256) (m := 62) rfl rfl (by decide) (fun _ => rfl) rfl (by omega) (by omega) ?_
          have q10_1 : S9 140 62 = S3 140 62 := y_sm_a f9 140 (by decide) (by decide) 62
          have q10_2 : S3 140 62 = τ 140 62 := y_sm_a f3 140 (by decide) (by decide) 62
          simp only [q10_1, q10_2]
          intro g10a g10b
          refine x_iload rfl ?_
          refine x_aload rfl ?_
          refine x_getR (r := 138) rfl (by decide) (by decide) rfl ?_
          refine x_push 62 rfl ?_
          refine x_iald (r := 140) (n := 256) (m := 62) rfl rfl (by decide) (fun _ => rfl) rfl (by omega) (by omega) ?_
          have q11_1 : S9 140 62 = S3 140 62 := y_sm_a f9 140 (by decide) (by decide) 62
          have q11_2 : S3 140 62 = τ 140 62 := y_sm_a f3 140 (by decide) (by decide) 62
          simp only [q11_1, q11_2]
          intro g11a g11b
          refine x_icmp_ne (by omega) (by omega) (by omega) (by omega) (fun z12 => ?_) (fun z12 => ?_)
          · skip
            refine x_push 1 rfl ?_
            refine x_goto ?_
            refine x_blk (b := 8) (a_184 E) rfl ?_
            unfold b_184_8
            refine x_iadd ?_
            refine x_ast (r := 140) (n := 256) (m := 62) rfl rfl (by decide) (fun _ => rfl) rfl (by omega) (by omega) (by omega) (by omega) (fun S13 e13 => ?_)
            have w13 := x_up_at e13
            refine x_aload rfl ?_
            refine x_iload rfl ?_
            refine x_cV (fun _ => rfl) rfl (by decide) (Nat.le_of_ble_eq_true rfl) ?_
            refine c_115 (by omega) (by omega) (fun S14 f14 a14 b14 => ?_)
            refine x_aload rfl ?_
            refine x_getR (r := 138) rfl (by decide) (by decide) rfl ?_
            refine x_push 62 rfl ?_
            refine x_iald (r := 140) (n := 256) (m := 62) rfl rfl (by decide) (fun _ => rfl) rfl (by omega) (by omega) ?_
            intro g15a g15b
            refine x_iret ?_
            have q140 : ∀ m, S9 140 m = σ 140 m := fun m => ((y_sm_a f9 140 (by decide) (by decide) m).trans (y_sm_a f3 140 (by decide) (by decide) m)).trans (y_sm_a hsm 140 (by decide) (by decide) m)
            have q144 : ∀ m, S13 144 m = S3 144 m := fun m => (x_up_nr e13 (by decide)).trans (y_sm_a f9 144 (by decide) (by decide) m)
            have q62 := q140 62
            have w62 : S14 140 62 = S13 140 62 := a14 62 (by omega)
            have hb := y_rl_rr h3
            have e4 : y_rr (y_tx σ) 0 l3 4 = l3.length := rfl
            have hq : y_rl (S3 144) := y_rl_ext (fun i hi => (w3 i (by rw [e4] at hi; omega)).symm) hb.1
            have hI : y_PI (S14 140) := y_PI_put (t := r.toNat) (n := S13 140 62) (ρ := S9 140) (q := S3 144) k9.2.1 (by omega) (by omega) (by omega) hq w62 (fun m h1 h2 => by rw [a14 m h2, x_up_ne e13 (fun z => h1 z.2)]) (fun m hm => by rw [b14 m hm, q144])
            have hf : y_sm [140] [] S9 S14 := y_sm_tr (y_sm_e e13 (Or.inl (by decide))) f14
            have hd : y_sm [144] [8] σ S3 := y_sm_tr hsm f3
            have v62 : S14 140 62 = if r = σ 140 62 then σ 140 62 + 1 else σ 140 62 := by
              split <;> omega
            refine x_fin v62 ?_
            refine kS _ _ h3 (by omega) ⟨by omega, by omega, by omega⟩ _ (y_RI_now hf hI k9) (y_sm_tr (y_sm_tr (y_sm_w (by decide) (by decide) hd) (y_sm_w (by decide) (by decide) f9)) (y_sm_w (by decide) (by decide) hf)) (y_NT_tr (y_NT_st N9 (hd 138 5 (by decide) (by decide)) (y_sm_a hd 142 (by decide) (by decide)) (y_sm_a hd 140 (by decide) (by decide))) (hf 138 5 (by decide) (by decide)) (y_sm_a hf 142 (by decide) (by decide))) (y_AG_ru rp y_AG_rf (fun m hm => y_ent_o (by omega) (by omega)) (fun m hm => ?_) ?_ (fun R hR2 => ?_))
            · rw [a14 m (by omega), x_up_ne e13 (by omega), q140]
            · rw [v62, y_ent_n, show (r.toNat : Int) = r by omega]
            · by_cases c : R = r.toNat
              · subst c
                refine Or.inr (fun k hk => ?_)
                rw [show 67 + 12 * r.toNat = 63 + 12 * r.toNat + 4 by omega, y_ent_i (by omega), e4] at hk
                rw [y_ent_i (by omega), b14 k (by omega), q144]
                exact w3 k (by omega)
              · have hR3 : (R : Int) < σ 140 62 := by
                  rw [y_ent_n] at hR2
                  split at hR2 <;> omega
                refine Or.inl ⟨R, hR3, fun k hk => y_ent_o (by omega) (by omega), fun k hk => ?_⟩
                rw [a14 _ (by omega), x_up_ne e13 (by omega), q140]
          · skip
            refine x_blk (b := 7) (a_184 E) rfl ?_
            unfold b_184_7
            refine x_push 0 rfl ?_
            refine x_fall ?_
            refine x_blk (b := 8) (a_184 E) rfl ?_
            unfold b_184_8
            refine x_iadd ?_
            refine x_ast (r := 140) (n := 256) (m := 62) rfl rfl (by decide) (fun _ => rfl) rfl (by omega) (by omega) (by omega) (by omega) (fun S16 e16 => ?_)
            have w16 := x_up_at e16
            refine x_aload rfl ?_
            refine x_iload rfl ?_
            refine x_cV (fun _ => rfl) rfl (by decide) (Nat.le_of_ble_eq_true rfl) ?_
            refine c_115 (by omega) (by omega) (fun S17 f17 a17 b17 => ?_)
            refine x_aload rfl ?_
            refine x_getR (r := 138) rfl (by decide) (by decide) rfl ?_
            refine x_push 62 rfl ?_
            refine x_iald (r := 140) (n := 256) (m := 62) rfl rfl (by decide) (fun _ => rfl) rfl (by omega) (by omega) ?_
            intro g18a g18b
            refine x_iret ?_
            have q140 : ∀ m, S9 140 m = σ 140 m := fun m => ((y_sm_a f9 140 (by decide) (by decide) m).trans (y_sm_a f3 140 (by decide) (by decide) m)).trans (y_sm_a hsm 140 (by decide) (by decide) m)
            have q144 : ∀ m, S16 144 m = S3 144 m := fun m => (x_up_nr e16 (by decide)).trans (y_sm_a f9 144 (by decide) (by decide) m)
            have q62 := q140 62
            have w62 : S17 140 62 = S16 140 62 := a17 62 (by omega)
            have hb := y_rl_rr h3
            have e4 : y_rr (y_tx σ) 0 l3 4 = l3.length := rfl
            have hq : y_rl (S3 144) := y_rl_ext (fun i hi => (w3 i (by rw [e4] at hi; omega)).symm) hb.1
            have hI : y_PI (S17 140) := y_PI_put (t := r.toNat) (n := S16 140 62) (ρ := S9 140) (q := S3 144) k9.2.1 (by omega) (by omega) (by omega) hq w62 (fun m h1 h2 => by rw [a17 m h2, x_up_ne e16 (fun z => h1 z.2)]) (fun m hm => by rw [b17 m hm, q144])
            have hf : y_sm [140] [] S9 S17 := y_sm_tr (y_sm_e e16 (Or.inl (by decide))) f17
            have hd : y_sm [144] [8] σ S3 := y_sm_tr hsm f3
            have v62 : S17 140 62 = if r = σ 140 62 then σ 140 62 + 1 else σ 140 62 := by
              split <;> omega
            refine x_fin v62 ?_
            refine kS _ _ h3 (by omega) ⟨by omega, by omega, by omega⟩ _ (y_RI_now hf hI k9) (y_sm_tr (y_sm_tr (y_sm_w (by decide) (by decide) hd) (y_sm_w (by decide) (by decide) f9)) (y_sm_w (by decide) (by decide) hf)) (y_NT_tr (y_NT_st N9 (hd 138 5 (by decide) (by decide)) (y_sm_a hd 142 (by decide) (by decide)) (y_sm_a hd 140 (by decide) (by decide))) (hf 138 5 (by decide) (by decide)) (y_sm_a hf 142 (by decide) (by decide))) (y_AG_ru rp y_AG_rf (fun m hm => y_ent_o (by omega) (by omega)) (fun m hm => ?_) ?_ (fun R hR2 => ?_))
            · rw [a17 m (by omega), x_up_ne e16 (by omega), q140]
            · rw [v62, y_ent_n, show (r.toNat : Int) = r by omega]
            · by_cases c : R = r.toNat
              · subst c
                refine Or.inr (fun k hk => ?_)
                rw [show 67 + 12 * r.toNat = 63 + 12 * r.toNat + 4 by omega, y_ent_i (by omega), e4] at hk
                rw [y_ent_i (by omega), b17 k (by omega), q144]
                exact w3 k (by omega)
              · have hR3 : (R : Int) < σ 140 62 := by
                  rw [y_ent_n] at hR2
                  split at hR2 <;> omega
                refine Or.inl ⟨R, hR3, fun k hk => y_ent_o (by omega) (by omega), fun k hk => ?_⟩
                rw [a17 _ (by omega), x_up_ne e16 (by omega), q140]
      · rw [hx, h8] at h3; have l03 : S3 138 0 = _ := f3 138 0 (by decide) (by decide)
        refine x_if_eq (by decide) (by decide) (fun _ => ?_) (fun z => absurd (by decide) z)
        refine x_blk (b := 5) (a_184 E) rfl ?_
        unfold b_184_5
        refine x_push (-10) rfl ?_
        refine x_aload rfl ?_
        refine x_getI (r := 138) rfl (by decide) (by decide) (by decide) rfl ?_
        intro g20a g20b
        refine x_isub ?_
        refine x_iret ?_
        refine kX (by omega) (by omega) (fun l e z => ?_) _ _ (y_RI_sm f3 (by decide) (by decide) hRt) (y_sm_tr hsm f3)
        rw [h3] at z
        first
          | (cases z; omega)
          | cases z
theorem cx_184 {E : q_E} {σ : x_S} {Q : Option q_V → x_S → Prop} {r : Int} (r1 : -2147483648 ≤ r) (r2 : r ≤ 2147483647) (hR : y_RI σ) (kB : ¬ (0 ≤ r ∧ r ≤ σ 140 62) → Q (some (x_I (-1))) σ) (kF : (0 ≤ r ∧ r ≤ σ 140 62) → r = 16 → Q (some (x_I (-3))) σ) (kX : (0 ≤ r ∧ r ≤ σ 140 62) → r ≤ 15 → (∀ l e, y_iR (y_tx σ) 0 = some (l, e) → e < σ 138 0) → ∀ τ v, y_RI τ → y_sm [144] [8] σ τ → Q (some (x_I v)) τ) (kS : ∀ l e, y_iR (y_tx σ) 0 = some (l, e) → ¬ e < σ 138 0 → (0 ≤ r ∧ r ≤ σ 140 62 ∧ r ≤ 15) → ∀ τ, y_RI τ → y_sm [140, 142, 144] [5, 8] σ τ → y_NT σ τ → y_AG (τ 140) (y_ent (σ 140) r.toNat (y_rr (y_tx σ) 0 l)) → Q (some (x_I (if r = σ 140 62 then σ 140 62 + 1 else σ 140 62))) τ) : x_P E 184 [x_R 138, x_I r] σ Q := by
  obtain ⟨rl, rp, ru5, rb, rk, rc⟩ := id hR
  have ru := rp.2.2.2.1
  refine x_Mt e_184 (h_184 E) (Nat.le_of_ble_eq_true rfl) t_184 rfl ?_
  refine x_blk (b := 0) (a_184 E) rfl ?_
  unfold b_184_0
  refine x_iload rfl ?_
  refine x_i2l (by omega) (by omega) ?_
  refine x_pushL 0 rfl ?_
  refine x_aload rfl ?_
  refine x_getR (r := 138) rfl (by decide) (by decide) rfl ?_
  refine x_push 62 rfl ?_
  refine x_iald (r := 140) (n := 256) (m := 62) rfl rfl (by decide) (fun _ => rfl) rfl (by omega) (by omega) ?_
  intro g1a g1b
  refine x_i2l (by omega) (by omega) ?_
  refine x_cS (fun _ => rfl) (Nat.le_of_ble_eq_true rfl) ?_
  refine c_45 (by omega) (by omega) (by omega) (by omega) (by omega) (by omega) (fun y2 => ?_) (fun y2 => ?_)
  · skip
    refine x_if_ne (by decide) (by decide) (fun z => absurd z (by decide)) (fun _ => ?_)
    refine x_blk (b := 1) (a_184 E) rfl ?_
    unfold b_184_1
    refine x_iload rfl ?_
    refine x_push 16 rfl ?_
    refine x_icmp_ne (by omega) (by omega) (by omega) (by omega) (fun z4 => ?_) (fun z4 => ?_)
    · skip
      refine x_push (-3) rfl ?_
      refine x_iret ?_
      exact kF (by omega) (by omega)
    · skip
      refine x_blk (b := 2) (a_184 E) rfl ?_
      unfold b_184_2
      refine x_aload rfl ?_
      refine x_push 0 rfl ?_
      refine x_putI (r := 138) rfl (by decide) (by decide) (by decide) rfl ⟨by decide, rfl⟩ (by omega) (by omega) (fun S5 e5 => ?_)
      have w5 := x_up_at e5
      refine x_push 0 rfl ?_
      refine x_istore ?_
      refine x_fall ?_
      refine x_G_lo (lo' := [(0, x_R 138), (1, x_I r), (2, x_I 0)]) ⟨rfl, rfl, rfl, trivial⟩ ?_
      exact cx_184_a (by omega) (by omega) (by omega) hR kX kS _ 0 S5 (by omega) (by omega) rfl (y_sm_e e5 (Or.inr ⟨rfl, by decide⟩)) w5 (y_RI_sm (y_sm_e e5 (Or.inr ⟨rfl, by decide⟩) : y_sm [] [8] σ S5) (by decide) (by decide) hR)
  · skip
    refine x_if_ne (by decide) (by decide) (fun _ => ?_) (fun z => absurd (by decide) z)
    refine x_push (-1) rfl ?_
    refine x_iret ?_
    exact kB (by omega)
theorem cx_190 {E : q_E} {σ : x_S} {Q : Option q_V → x_S → Prop} (hR : y_RI σ) (kN : σ 138 5 = 0 → Q (some (x_I (-2))) σ) (kS : 0 < σ 138 5 → ∀ τ, y_RI τ → y_sm [140] [5] σ τ → τ 138 5 = σ 138 5 - 1 → (∀ m : Nat, m < 256 → τ 140 m = σ 142 (256 * (σ 138 5 - 1).toNat + m)) → Q (some (x_I (σ 138 5 - 1))) τ) : x_P E 190 [x_R 138] σ Q := by
  obtain ⟨rl, rp, ru, rb, rk, rc⟩ := id hR
  refine x_Mt e_190 (h_190 E) (Nat.le_of_ble_eq_true rfl) t_190 rfl ?_
  refine x_blk (b := 0) (a_190 E) rfl ?_
  unfold b_190_0
  refine x_aload rfl ?_
  refine x_getI (r := 138) rfl (by decide) (by decide) (by decide) rfl ?_
  intro g1a g1b
  refine x_if_ne (by omega) (by omega) (fun z2 => ?_) (fun z2 => ?_)
  · skip
    refine x_push (-2) rfl ?_
    refine x_iret ?_
    exact kN (by omega)
  · skip
    refine x_blk (b := 1) (a_190 E) rfl ?_
    unfold b_190_1
    refine x_aload rfl ?_
    refine x_dup rfl ?_
    refine x_getI (r := 138) rfl (by decide) (by decide) (by decide) rfl ?_
    intro g3a g3b
    refine x_push 1 rfl ?_
    refine x_isub ?_
    refine x_putI (r := 138) rfl (by decide) (by decide) (by decide) rfl ⟨by decide, rfl⟩ (by omega) (by omega) (fun S4 e4 => ?_)
    have w4 := x_up_at e4
    refine x_push 0 rfl ?_
    refine x_istore ?_
    refine x_fall ?_
    have q0 : S4 138 0 = σ 138 0 := x_up_ne e4 (by decide)
    have q7 : S4 138 7 = σ 138 7 := x_up_ne e4 (by decide)
    refine x_G_lo (lo' := [(0, x_R 138), (1, x_I 0)]) ⟨rfl, rfl, trivial⟩ ?_
    refine c_190_a (σ := S4) (by omega) (by omega) (fun τ' a b => ?_) _ 0 S4 (by omega) (by omega) rfl y_sm_rf (fun m hm => absurd hm (by omega))
    have p0 := a 138 0 (by decide) (by decide)
    have p5 := a 138 5 (by decide) (by decide)
    have p7 := a 138 7 (by decide) (by decide)
    refine x_blk (b := 2) (a_190 E) rfl ?_
    unfold b_190_2
    refine x_aload rfl ?_
    refine x_getI (r := 138) rfl (by decide) (by decide) (by decide) rfl ?_
    intro g1 g2
    refine x_iret ?_
    have hRI : y_RI τ' := ⟨by omega, ?_, by omega, fun q hq => ?_, by omega, fun q hq => ?_⟩
    · refine x_fin (b := σ 138 5 - 1) (by omega) ?_
      have w5 := x_up_at e4
      rw [w5] at b
      refine kS (by omega) _ hRI (y_sm_tr (y_sm_e e4 (Or.inr ⟨rfl, by decide⟩)) (y_sm_w (by decide) (by decide) a)) (by omega) (fun m hm => ?_)
      rw [b m hm]; exact x_up_nr e4 (by decide)
    · refine y_PI_ext (fun q hq => ?_) (rb (S4 138 5).toNat (by omega))
      rw [b q (by omega)]; exact (x_up_nr e4 (by decide)).symm
    · refine y_PI_ext (fun m _ => ?_) (rb q (by omega))
      rw [y_sm_a a 142 (by decide) (by decide)]; exact (x_up_nr e4 (by decide)).symm
    · refine y_PI_ext (fun m _ => ?_) (rc q (by omega))
      rw [y_sm_a a 143 (by decide) (by decide)]; exact (x_up_nr e4 (by decide)).symm
theorem cx_210 {E : q_E} {σ : x_S} {Q : Option q_V → x_S → Prop} (hR : y_RI σ) (kN : σ 138 7 = 0 → Q (some (x_I (-2))) σ) (kS : 0 < σ 138 7 → ∀ τ, y_RI τ → y_sm [140] [5, 7] σ τ → τ 138 7 = σ 138 7 - 1 → τ 138 5 = 0 → (∀ m : Nat, m < 256 → τ 140 m = σ 143 (256 * (σ 138 7 - 1).toNat + m)) → Q (some (x_I (σ 138 7 - 1))) τ) : x_P E 210 [x_R 138] σ Q := by
  obtain ⟨rl, rp, ru, rb, rk, rc⟩ := id hR
  refine x_Mt e_210 (h_210 E) (Nat.le_of_ble_eq_true rfl) t_210 rfl ?_
  refine x_blk (b := 0) (a_210 E) rfl ?_
  unfold b_210_0
  refine x_aload rfl ?_
  refine x_getI (r := 138) rfl (by decide) (by decide) (by decide) rfl ?_
  intro g1a g1b
  refine x_if_ne (by omega) (by omega) (fun z2 => ?_) (fun z2 => ?_)
  · skip
    refine x_push (-2) rfl ?_
    refine x_iret ?_
    exact kN (by omega)
  · skip
    refine x_blk (b := 1) (a_210 E) rfl ?_
    unfold b_210_1
    refine x_aload rfl ?_
    refine x_dup rfl ?_
    refine x_getI (r := 138) rfl (by decide) (by decide) (by decide) rfl ?_
    intro g3a g3b
    refine x_push 1 rfl ?_
    refine x_isub ?_
    refine x_putI (r := 138) rfl (by decide) (by decide) (by decide) rfl ⟨by decide, rfl⟩ (by omega) (by omega) (fun S4 e4 => ?_)
    have w4 := x_up_at e4
    refine x_push 0 rfl ?_
    refine x_istore ?_
    refine x_fall ?_
    have q0 : S4 138 0 = σ 138 0 := x_up_ne e4 (by decide)
    refine x_G_lo (lo' := [(0, x_R 138), (1, x_I 0)]) ⟨rfl, rfl, trivial⟩ ?_
    refine c_210_a (σ := S4) (by omega) (by omega) (fun τ' a b => ?_) _ 0 S4 (by omega) (by omega) rfl y_sm_rf (fun m hm => absurd hm (by omega))
    have p0 := a 138 0 (by decide) (by decide)
    have p7 := a 138 7 (by decide) (by decide)
    refine x_blk (b := 2) (a_210 E) rfl ?_
    unfold b_210_2
    refine x_aload rfl ?_
    refine x_push 0 rfl ?_
    refine x_putI (r := 138) rfl (by decide) (by decide) (by decide) rfl ⟨by decide, rfl⟩ (by omega) (by omega) (fun T e => ?_)
    have w := x_up_at e
    have t0 : T 138 0 = τ' 138 0 := x_up_ne e (by decide)
    have t7 : T 138 7 = τ' 138 7 := x_up_ne e (by decide)
    refine x_aload rfl ?_
    refine x_getI (r := 138) rfl (by decide) (by decide) (by decide) rfl ?_
    intro g1 g2
    refine x_iret ?_
    have hRI : y_RI T := ⟨by omega, ?_, by omega, fun q hq => absurd hq (by omega), by omega, fun q hq => ?_⟩
    · refine x_fin (b := σ 138 7 - 1) (by omega) ?_
      have w7 := x_up_at e4
      rw [w7] at b
      refine kS (by omega) _ hRI (y_sm_tr (y_sm_tr (y_sm_e e4 (Or.inr ⟨rfl, by decide⟩)) (y_sm_w (by decide) (by decide) a)) (y_sm_e e (Or.inr ⟨rfl, by decide⟩))) (by omega) w (fun m hm => ?_)
      rw [x_up_nr e (by decide), b m hm]; exact x_up_nr e4 (by decide)
    · refine y_PI_ext (fun q hq => ?_) (rc (S4 138 7).toNat (by omega))
      rw [x_up_nr e (by decide), b q (by omega)]; exact (x_up_nr e4 (by decide)).symm
    · refine y_PI_ext (fun m _ => ?_) (rc q (by omega))
      rw [x_up_nr e (by decide), y_sm_a a 143 (by decide) (by decide)]; exact (x_up_nr e4 (by decide)).symm
theorem cx_209_a {E : q_E} {σ : x_S} {Q : Option q_V → x_S → Prop} (hR : y_RI σ) (h2 : σ 138 7 < 2) (kS : σ 138 7 < 2 → ∀ τ, y_RI τ → y_sm [143] [7] σ τ → τ 138 7 = σ 138 7 + 1 → (∀ m : Nat, m < 256 * (σ 138 7).toNat → τ 143 m = σ 143 m) → (∀ m : Nat, m < 256 → τ 143 (256 * (σ 138 7).toNat + m) = σ 140 m) → Q (some (x_I (σ 138 7 + 1))) τ) : ∀ (N : Nat) (i : Int) (τ : x_S), 0 ≤ i → i ≤ 256 → (256 - i).toNat = N → y_sm [143] [] σ τ → (∀ m : Nat, m < 256 * (σ 138 7).toNat → τ 143 m = σ 143 m) → (∀ m : Nat, (m : Int) < i → τ 143 (256 * (σ 138 7).toNat + m) = σ 140 m) → x_G E m_209 Q (t_209 3) [(0, x_R 138), (1, x_I i)] [] τ := by
  intro N
  induction N using Nat.strongRecOn with
  | ind N ih =>
    intro i τ i1 i2 hN hsm hu hv
    obtain ⟨rl, rp, ru, rb, rk, rc⟩ := id hR
    have q0 := hsm 138 0 (by decide) (by decide)
    have q5 := hsm 138 5 (by decide) (by decide)
    have q7 : τ 138 7 = σ 138 7 := hsm 138 7 (by decide) (by decide)
    refine x_blk (b := 3) (a_209 E) rfl ?_
    unfold b_209_3
    refine x_iload rfl ?_
    refine x_push 256 rfl ?_
    refine x_icmp_ge (by omega) (by omega) (by omega) (by omega) (fun z1 => ?_) (fun z1 => ?_)
    · skip
      refine x_aload rfl ?_
      refine x_getR (r := 138) rfl (by decide) (by decide) rfl ?_
      refine x_push 256 rfl ?_
      refine x_aload rfl ?_
      refine x_getI (r := 138) rfl (by decide) (by decide) (by decide) rfl ?_
      intro g2a g2b
      refine x_imul ?_
      refine x_iload rfl ?_
      refine x_iadd ?_
      refine x_aload rfl ?_
      refine x_getR (r := 138) rfl (by decide) (by decide) rfl ?_
      refine x_iload rfl ?_
      refine x_iald (r := 140) (n := 256)  rfl rfl (by decide) (fun _ => rfl) rfl (by omega) (by omega) ?_
      intro g3a g3b
      refine x_ast (r := 143) (n := 512)  rfl rfl (by decide) (fun _ => rfl) rfl (by omega) (by omega) (by omega) (by omega) (fun S4 e4 => ?_)
      have w4 := x_up_at e4
      refine x_iinc 1 rfl rfl ?_
      refine x_goto ?_
      rw [q7] at w4 e4
      refine x_G_lo (lo' := [(0, x_R 138), (1, x_I (i + 1))]) ⟨rfl, rfl, trivial⟩ ?_
      refine ih _ (by omega) (i + 1) S4 (by omega) (by omega) rfl (y_sm_tr hsm (y_sm_e e4 (Or.inl (by decide)))) (fun m h1 => ?_) (fun m hm => ?_)
      · rw [x_up_ne e4 (fun z => absurd z.2 (by omega))]; exact hu m h1
      · by_cases c : m = i.toNat
        · rw [c, ← show (256 * σ 138 7 + i).toNat = 256 * (σ 138 7).toNat + i.toNat by omega, w4]
          exact y_sm_a hsm 140 (by decide) (by decide) _
        · rw [x_up_ne e4 (fun z => absurd z.2 (by omega))]; exact hv m (by omega)
    · skip
      refine x_blk (b := 2) (a_209 E) rfl ?_
      unfold b_209_2
      refine x_aload rfl ?_
      refine x_dup rfl ?_
      refine x_getI (r := 138) rfl (by decide) (by decide) (by decide) rfl ?_
      intro g5a g5b
      refine x_push 1 rfl ?_
      refine x_iadd ?_
      refine x_putI (r := 138) rfl (by decide) (by decide) (by decide) rfl ⟨by decide, rfl⟩ (by omega) (by omega) (fun S6 e6 => ?_)
      have w6 := x_up_at e6
      refine x_aload rfl ?_
      refine x_getI (r := 138) rfl (by decide) (by decide) (by decide) rfl ?_
      intro g7a g7b
      refine x_iret ?_
      have t0 : S6 138 0 = τ 138 0 := x_up_ne e6 (by decide)
      have t5 : S6 138 5 = τ 138 5 := x_up_ne e6 (by decide)
      have hRI : y_RI S6 := ⟨by omega, ?_, by omega, fun q hq => ?_, by omega, fun q hq => ?_⟩
      · refine x_fin (b := σ 138 7 + 1) (by omega) ?_
        exact kS h2 _ hRI (y_sm_tr (y_sm_w (by decide) (by decide) hsm) (y_sm_e e6 (Or.inr ⟨rfl, by decide⟩))) (by omega) (fun m hm => (x_up_nr e6 (by decide)).trans (hu m hm)) (fun m hm => (x_up_nr e6 (by decide)).trans (hv m (by omega)))
      · refine y_PI_ext (fun q hq => ?_) rp
        rw [x_up_nr e6 (by decide)]; exact (y_sm_a hsm 140 (by decide) (by decide) _).symm
      · refine y_PI_ext (fun m _ => ?_) (rb q (by omega))
        rw [x_up_nr e6 (by decide)]; exact (y_sm_a hsm 142 (by decide) (by decide) _).symm
      · by_cases c : q = (σ 138 7).toNat
        · refine y_PI_ext (fun m hm => ?_) rp
          rw [x_up_nr e6 (by decide), c]; exact (hv m (by omega)).symm
        · refine y_PI_ext (fun m hm => ?_) (rc q (by omega))
          rw [x_up_nr e6 (by decide)]; exact (hu _ (by omega)).symm
theorem cx_209 {E : q_E} {σ : x_S} {Q : Option q_V → x_S → Prop} (kF : σ 138 7 = 2 → Q (some (x_I (-3))) σ) (hR : y_RI σ) (kS : σ 138 7 < 2 → ∀ τ, y_RI τ → y_sm [143] [7] σ τ → τ 138 7 = σ 138 7 + 1 → (∀ m : Nat, m < 256 * (σ 138 7).toNat → τ 143 m = σ 143 m) → (∀ m : Nat, m < 256 → τ 143 (256 * (σ 138 7).toNat + m) = σ 140 m) → Q (some (x_I (σ 138 7 + 1))) τ) : x_P E 209 [x_R 138] σ Q := by
  obtain ⟨rl, rp, ru, rb, rk, rc⟩ := id hR
  refine x_Mt e_209 (h_209 E) (Nat.le_of_ble_eq_true rfl) t_209 rfl ?_
  refine x_blk (b := 0) (a_209 E) rfl ?_
  unfold b_209_0
  refine x_aload rfl ?_
  refine x_getI (r := 138) rfl (by decide) (by decide) (by decide) rfl ?_
  intro g1a g1b
  refine x_push 2 rfl ?_
  refine x_icmp_ne (by omega) (by omega) (by omega) (by omega) (fun z2 => ?_) (fun z2 => ?_)
  · skip
    refine x_push (-3) rfl ?_
    refine x_iret ?_
    exact kF (by omega)
  · skip
    refine x_blk (b := 1) (a_209 E) rfl ?_
    unfold b_209_1
    refine x_push 0 rfl ?_
    refine x_istore ?_
    refine x_fall ?_
    refine x_G_lo (lo' := [(0, x_R 138), (1, x_I 0)]) ⟨rfl, rfl, trivial⟩ ?_
    exact cx_209_a hR (by omega) kS _ 0 σ (by omega) (by omega) rfl y_sm_rf (fun m _ => rfl) (fun m hm => absurd hm (by omega))
theorem cx_179 {E : q_E} {σ : x_S} {Q : Option q_V → x_S → Prop} (hR : y_RI σ) (kN : ((y_rs (y_tx σ) (σ 138 0)).1 ≠ -4 ∨ (y_rs (y_tx σ) (σ 138 0)).2 62 = 0) → ∀ τ, y_RI τ → y_sm [141, 144] [8] σ τ → Q (some (x_I (-2))) τ) (kS : (y_rs (y_tx σ) (σ 138 0)).1 = -4 → (y_rs (y_tx σ) (σ 138 0)).2 62 ≠ 0 → ∀ τ, y_RI τ → y_sm [140, 141, 144] [5, 7, 8] σ τ → y_AG (τ 140) (y_rs (y_tx σ) (σ 138 0)).2 → τ 138 5 = 0 → τ 138 7 = 0 → Q (some (x_I ((y_rs (y_tx σ) (σ 138 0)).2 62))) τ) : x_P E 179 [x_R 138] σ Q := by
  obtain ⟨rl, rp, ru, rb, rk, rc⟩ := id hR
  refine x_Mt e_179 (h_179 E) (Nat.le_of_ble_eq_true rfl) t_179 rfl ?_
  refine x_blk (b := 0) (a_179 E) rfl ?_
  unfold b_179_0
  refine x_aload rfl ?_
  refine x_cV (fun _ => rfl) rfl (by decide) (Nat.le_of_ble_eq_true rfl) ?_
  refine ce_99 (by omega) (by omega) (fun r1 S1 f1 g1 p1 => ?_) (fun ra1 rb1 S1 f1 => ?_)
  · have g621 := g1.2.2.1 62 (by decide) (by decide)
    refine x_push (-4) rfl ?_
    refine x_icmp_ne (by decide) (by decide) (by decide) (by decide) (fun _ => ?_) (fun z => absurd (by decide) z)
    refine x_aload rfl ?_
    refine x_getR (r := 138) rfl (by decide) (by decide) rfl ?_
    refine x_push 62 rfl ?_
    refine x_iald (r := 141) (n := 256) (m := 62) rfl rfl (by decide) (fun _ => rfl) rfl (by omega) (by omega) ?_
    intro g3a g3b
    refine x_if_ne (by omega) (by omega) (fun z4 => ?_) (fun z4 => ?_)
    · skip
      refine x_fall ?_
      refine x_blk (b := 1) (a_179 E) rfl ?_
      unfold b_179_1
      refine x_push (-2) rfl ?_
      refine x_iret ?_
      exact kN (by omega) _ (y_RI_sm f1 (by decide) (by decide) hR) f1
    · skip
      refine x_blk (b := 2) (a_179 E) rfl ?_
      unfold b_179_2
      refine x_aload rfl ?_
      refine x_cV (fun _ => rfl) rfl (by decide) (Nat.le_of_ble_eq_true rfl) ?_
      refine c_59 (fun S5 f5 a5 b5 c5 => ?_)
      refine x_aload rfl ?_
      refine x_getR (r := 138) rfl (by decide) (by decide) rfl ?_
      refine x_push 62 rfl ?_
      refine x_iald (r := 140) (n := 256) (m := 62) rfl rfl (by decide) (fun _ => rfl) rfl (by omega) (by omega) ?_
      intro g6a g6b
      refine x_iret ?_
      have hA : y_AG (S5 140) (y_rs (y_tx σ) (σ 138 0)).2 := y_AG_c p1 g1 (fun m hm => a5 m (by omega))
      have hI : y_PI (S5 140) := y_PI_AG p1 hA
      have n9 := hA.2.2.1 62 (by decide) (by decide)
      have l0 := f1 138 0 (by decide) (by decide)
      refine x_fin n9 ?_
      exact kS r1 (by omega) _ ⟨by rw [f5 138 0 (by decide) (by decide)]; omega, hI, by omega, fun q hq => absurd hq (by omega), by omega, fun q hq => absurd hq (by omega)⟩ (y_sm_tr (y_sm_w (by decide) (by decide) f1) (y_sm_w (by decide) (by decide) f5)) hA b5 c5
  · skip
    refine x_push (-4) rfl ?_
    refine x_icmp_ne (by omega) (by omega) (by omega) (by omega) (fun z => absurd z (by omega)) (fun z7 => ?_)
    refine x_blk (b := 1) (a_179 E) rfl ?_
    unfold b_179_1
    refine x_push (-2) rfl ?_
    refine x_iret ?_
    exact kN (by omega) _ (y_RI_sm f1 (by decide) (by decide) hR) f1
