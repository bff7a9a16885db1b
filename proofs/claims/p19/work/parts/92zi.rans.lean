theorem y_RE_b {τ : x_S} {h : Int} : ∀ {R : Int × w_C}, y_RE τ h R → (0 ≤ τ 138 18 ∧ τ 138 18 ≤ 40) ∧ (h = 1 → 0 ≤ τ 138 21 ∧ τ 138 21 ≤ 40) ∧ (0 ≤ h ∧ h ≤ 2) ∧ τ 138 18 = R.2.2.2.2.2.1 ∧ (h = 0 → R.1 = 0)
  | (s, (_, _, _, _, o, _, _)), E => by
    obtain ⟨E1, E2, E3, _, _⟩ := E
    refine ⟨⟨by omega, by omega⟩, fun z => by omega, ⟨by omega, by omega⟩, E2, fun z => ?_⟩
    show s = 0
    omega
theorem y_RE_u {τ : x_S} {h : Int} : ∀ {R : Int × w_C}, y_RE τ h R → ∀ j, j < R.2.2.2.2.2.1 → τ 151 j = R.2.2.2.2.2.2.1 j
  | (_, (_, _, _, _, _, _, _)), E => E.2.2.2.1
theorem w_bo_1 {R1 R2 : Int × w_C} {τ : x_S} {i h : Int} (E : y_RE τ h R1) (hh : h ≠ 0) : w_an R1 i = w_bo R1 R2 i := by
  have c : R1.1 < 0 := by
    obtain ⟨s, d, a, r, j, o, u, w⟩ := R1
    have E1 := E.1
    show s < 0
    omega
  unfold w_bo w_an
  rw [if_pos c, if_pos c]
theorem w_bo_r {R1 R2 : Int × w_C} {τ : x_S} {i h v : Int} (h0 : ¬ R1.1 < 0) (hi : -1 ≤ i) (E : y_RE τ h R2) (k : (h = 1 ∧ v = -60 - τ 138 21) ∨ (h = 2 ∧ v = -3) ∨ (¬ h = 1 ∧ ¬ h = 2 ∧ i < 0 ∧ v = τ 138 18) ∨ (¬ h = 1 ∧ ¬ h = 2 ∧ 0 ≤ i ∧ i < τ 138 18 ∧ v = τ 151 i.toNat) ∨ (¬ h = 1 ∧ ¬ h = 2 ∧ τ 138 18 ≤ i ∧ v = -4)) : v = w_bo R1 R2 i := by
  unfold w_bo
  rw [if_neg h0]
  by_cases c : R2.1 ≤ -10
  · rw [if_pos c]
    obtain ⟨s, d, a, r, j, o, u, w⟩ := R2
    have E1 := E.1
    have c : s ≤ -10 := c
    show v = s - 50
    omega
  · rw [if_neg c]
    refine w_an_r hi E ?_
    have h1 : h ≠ 1 := by
      obtain ⟨s, d, a, r, j, o, u, w⟩ := R2
      have E1 := E.1
      have c : ¬ s ≤ -10 := c
      omega
    rcases k with k | k
    · exact absurd k.1 h1
    · exact Or.inr k
theorem cx_192_a {E : q_E} {σ : x_S} {Q : Option q_V → x_S → Prop} {i : Int} (bi : -1 ≤ i ∧ i ≤ 2147483647) (hP : y_PI (σ 140)) {R1 R2 : Int × w_C} (r1 : ¬ R1.1 < 0) {n : Nat} {l P V : Nat → Int} (n40 : n ≤ 40) (n0 : 1 ≤ n) (tr : y_tr l n) (ms : y_ms (σ 140) 0 l n P V) (hR2 : w_RS (σ 140) 1 0 l P V = R2) {ρ : x_S} (hf : y_rf σ ρ) (h10 : ρ 138 10 = n) (hu : ∀ x, x < n → ρ 151 x = l x) (kS : ∀ τ, y_rf σ τ → Q (some (x_I (w_bo R1 R2 i))) τ) : ∀ (N : Nat) (v : Int) (τ : x_S), 0 ≤ v → v ≤ n → (40 - v).toNat = N → y_sm [145] [] ρ τ → (∀ x : Nat, (x : Int) < v → τ 145 x = l x) → x_G E m_192 Q (t_192 5) [(0, x_R 138), (2, x_I i), (4, x_I v)] [] τ := by
  intro N
  induction N using Nat.strongRecOn with
  | ind N ih =>
    intro v τ i1 i2 hN hsm hl
    have q10 : τ 138 10 = n := (hsm 138 10 (by decide) (by decide)).trans h10
    have q151 : ∀ m, τ 151 m = ρ 151 m := fun m => y_sm_a hsm 151 (by decide) (by decide) m
    have e140 : τ 140 = σ 140 := funext fun z => (y_sm_a hsm 140 (by decide) (by decide) z).trans (y_rf_n hf z)
    refine x_blk (b := 5) (a_192 E) rfl ?_
    unfold b_192_5
    refine x_iload rfl ?_
    refine x_aload rfl ?_
    refine x_getI (r := 138) rfl (by decide) (by decide) (by decide) rfl ?_
    intro g1a g1b
    refine x_icmp_ge (by omega) (by omega) (by omega) (by omega) (fun z2 => ?_) (fun z2 => ?_)
    · skip
      refine x_aload rfl ?_
      refine x_getR (r := 138) rfl (by decide) (by decide) rfl ?_
      refine x_iload rfl ?_
      refine x_aload rfl ?_
      refine x_getR (r := 138) rfl (by decide) (by decide) rfl ?_
      refine x_iload rfl ?_
      refine x_iald (r := 151) (n := 40) rfl rfl (by decide) (fun _ => rfl) rfl (by omega) (by omega) ?_
      intro g3a g3b
      refine x_ast (r := 145) (n := 40)  rfl rfl (by decide) (fun _ => rfl) rfl (by omega) (by omega) (by omega) (by omega) (fun S4 e4 => ?_)
      have w4 := x_up_at e4
      refine x_iinc 1 rfl rfl ?_
      refine x_goto ?_
      refine x_G_lo (lo' := [(0, x_R 138), (2, x_I i), (4, x_I (v + 1))]) ⟨rfl, rfl, rfl, trivial⟩ ?_
      refine ih _ (by omega) (v + 1) S4 (by omega) (by omega) rfl (y_sm_tr hsm (y_sm_e e4 (Or.inl (by decide)))) (fun x hx => ?_)
      by_cases cx : x = v.toNat
      · subst cx
        rw [w4, q151]
        exact hu _ (by omega)
      · rw [x_up_ne e4 (fun z => cx z.2)]; exact hl x (by omega)
    · skip
      refine x_blk (b := 4) (a_192 E) rfl ?_
      unfold b_192_4
      refine x_aload rfl ?_
      refine x_push 0 rfl ?_
      refine x_cV (fun _ => rfl) rfl (by decide) (Nat.le_of_ble_eq_true rfl) ?_
      have tl : ∀ x, x < n → l x = τ 145 x := fun x hx => (hl x (by omega)).symm
      refine cx_81 (n := n) (P := P) (V := V) (m := 0) (by omega) (by omega) (by rw [e140]; exact hP) q10 n40 (y_tr_ext tl tr) (by rw [e140]; exact y_ms_ext tl ms) (fun S5 f5 w5 => ?_)
      refine x_aload rfl ?_
      refine x_aload rfl ?_
      refine x_push 1 rfl ?_
      refine x_push 0 rfl ?_
      refine x_cV (fun _ => rfl) rfl (by decide) (Nat.le_of_ble_eq_true rfl) ?_
      have e6 : S5 140 = σ 140 := (funext fun z => y_sm_a f5 140 (by decide) (by decide) z).trans e140
      refine rx_94 (n := n) (l := l) (P := P) (V := V) (R := R2) (by omega) (by omega) (by omega) (by omega) (by rw [e6]; exact hP) n40 n0 tr (by rw [e6]; exact ms) (fun v hv => ⟨(y_sm_a f5 145 (by decide) (by decide) v).trans (hl v (by omega)), w5 v hv⟩) (by rw [e6]; exact hR2) (fun S6 h6 f6 E6 => ?_)
      have b6 := y_RE_b E6
      refine x_push (-60) rfl ?_
      refine x_iload rfl ?_
      refine x_cV (fun _ => rfl) rfl (by decide) (Nat.le_of_ble_eq_true rfl) ?_
      refine rx_96 (by omega) (by omega) (by omega) (by omega) (by omega) (by omega) (by omega) (by omega) (fun v7 v7a v7b v7c => ?_)
      refine x_iret ?_
      refine x_fin (b := w_bo R1 R2 i) (w_bo_r r1 (by omega) E6 v7c) ?_
      exact kS _ (y_rf_tr (y_rf_tr (y_rf_tr hf (y_sm_rf2 hsm (by decide) (by decide))) (y_sm_rf2 f5 (by decide) (by decide))) (y_sm_rf2 f6 (by decide) (by decide)))
theorem cx_192 {E : q_E} {σ : x_S} {Q : Option q_V → x_S → Prop} {t i : Int} (t1 : -2147483648 ≤ t) (t2 : t ≤ 2147483647) (i1 : -2147483648 ≤ i) (i2 : i ≤ 2147483647) (hP : y_PI (σ 140)) {P V : Nat → Int} (ms : (0 ≤ t ∧ t ≤ 2) → y_ms (σ 140) 0 (y_lt (σ 140) t.toNat) (σ 140 (2 + t.toNat)).toNat P V) {P2 V2 : Nat → Int} (ms2 : (0 ≤ t ∧ t ≤ 2) → (w_RS (σ 140) 0 0 (y_lt (σ 140) t.toNat) P V).1 = 0 → y_ms (σ 140) 0 (w_RS (σ 140) 0 0 (y_lt (σ 140) t.toNat) P V).2.2.2.2.2.2.1 (w_RS (σ 140) 0 0 (y_lt (σ 140) t.toNat) P V).2.2.2.2.2.1 P2 V2) (kB : ¬ ((0 ≤ t ∧ t ≤ 2) ∧ -1 ≤ i) → Q (some (x_I (-1))) σ) (kS : ((0 ≤ t ∧ t ≤ 2) ∧ -1 ≤ i) → ∀ τ, y_rf σ τ → Q (some (x_I (w_bo (w_RS (σ 140) 0 0 (y_lt (σ 140) t.toNat) P V) (w_RS (σ 140) 1 0 (w_RS (σ 140) 0 0 (y_lt (σ 140) t.toNat) P V).2.2.2.2.2.2.1 P2 V2) i))) τ) : x_P E 192 [x_R 138, x_I t, x_I i] σ Q := by
  refine x_Mt e_192 (h_192 E) (Nat.le_of_ble_eq_true rfl) t_192 rfl ?_
  refine x_blk (b := 0) (a_192 E) rfl ?_
  unfold b_192_0
  refine x_iload rfl ?_
  refine x_cS (fun _ => rfl) (Nat.le_of_ble_eq_true rfl) ?_
  refine c_67 (by omega) (by omega) (fun y1 => ?_) (fun y1 => ?_)
  · skip
    refine x_if_eq (by decide) (by decide) (fun z => absurd z (by decide)) (fun _ => ?_)
    refine x_iload rfl ?_
    refine x_push (-1) rfl ?_
    refine x_icmp_ge (by omega) (by omega) (by omega) (by omega) (fun z3 => ?_) (fun z3 => ?_)
    · skip
      refine x_fall ?_
      refine x_blk (b := 1) (a_192 E) rfl ?_
      unfold b_192_1
      refine x_push (-1) rfl ?_
      refine x_iret ?_
      exact kB (by omega)
    · skip
      refine x_blk (b := 2) (a_192 E) rfl ?_
      unfold b_192_2
      refine x_aload rfl ?_
      refine x_iload rfl ?_
      refine x_push 0 rfl ?_
      refine x_cV (fun _ => rfl) rfl (by decide) (Nat.le_of_ble_eq_true rfl) ?_
      have sz := y_szt hP (t := t) (by omega) (by omega)
      have ez : σ 140 (2 + t).toNat = σ 140 (2 + t.toNat) := congrArg _ (by omega)
      have ms0 := ms (by omega)
      refine cx_80 (t := t) (m := 0) (by omega) (by omega) (by omega) (by omega) hP ms0 (fun S4 f4 g4 w4 => ?_)
      refine x_aload rfl ?_
      refine x_push 0 rfl ?_
      refine x_push 0 rfl ?_
      refine x_cV (fun _ => rfl) rfl (by decide) (Nat.le_of_ble_eq_true rfl) ?_
      have e5 : S4 140 = σ 140 := funext fun z => y_sm_a f4 140 (by decide) (by decide) z
      refine rx_94 (n := (σ 140 (2 + t.toNat)).toNat) (l := y_lt (σ 140) t.toNat) (P := P) (V := V) (R := w_RS (σ 140) 0 0 (y_lt (σ 140) t.toNat) P V) (by omega) (by omega) (by omega) (by omega) (by rw [e5]; exact hP) (by omega) (by omega) (hP.2.1 t.toNat (by omega)).2 (by rw [e5]; exact ms0) (fun v hv => w4 v (by omega)) (by rw [e5]) (fun S5 h5 f5 E5 => ?_)
      have b5 := y_RE_b E5
      refine x_istore ?_
      refine x_iload rfl ?_
      refine x_if_eq (by omega) (by omega) (fun z6 => ?_) (fun z6 => ?_)
      · skip
        refine x_blk (b := 3) (a_192 E) rfl ?_
        unfold b_192_3
        refine x_aload rfl ?_
        refine x_aload rfl ?_
        refine x_getI (r := 138) rfl (by decide) (by decide) (by decide) rfl ?_
        intro g7a g7b
        refine x_putI (r := 138) rfl (by decide) (by decide) (by decide) rfl ⟨by decide, rfl⟩ (by omega) (by omega) (fun S8 e8 => ?_)
        have w8 := x_up_at e8
        refine x_push 0 rfl ?_
        refine x_istore ?_
        refine x_fall ?_
        have rz : (w_RS (σ 140) 0 0 (y_lt (σ 140) t.toNat) P V).1 = 0 := b5.2.2.2.2 (by omega)
        have tt := w_RS_t (p := 0) (q := 0) (P := P) (V := V) (l := y_lt (σ 140) t.toNat) (n := (σ 140 (2 + t.toNat)).toNat) hP (by omega) (by omega) (hP.2.1 t.toNat (by omega)).2 ms0 rz
        refine x_G_lo (lo' := [(0, x_R 138), (2, x_I i), (4, x_I 0)]) ⟨rfl, rfl, rfl, trivial⟩ ?_
        exact cx_192_a (R1 := w_RS (σ 140) 0 0 (y_lt (σ 140) t.toNat) P V) (R2 := w_RS (σ 140) 1 0 (w_RS (σ 140) 0 0 (y_lt (σ 140) t.toNat) P V).2.2.2.2.2.2.1 P2 V2) (l := (w_RS (σ 140) 0 0 (y_lt (σ 140) t.toNat) P V).2.2.2.2.2.2.1) (n := (w_RS (σ 140) 0 0 (y_lt (σ 140) t.toNat) P V).2.2.2.2.2.1) (P := P2) (V := V2) (ρ := S8) ⟨by omega, by omega⟩ hP (by omega) (by omega) (by omega) tt.1 (ms2 (by omega) rz) rfl (y_rf_tr (y_rf_tr (y_sm_rf2 f4 (by decide) (by decide)) (y_sm_rf2 f5 (by decide) (by decide))) (y_sm_rf2 (L := []) (F := [10]) (y_sm_e e8 (Or.inr ⟨rfl, by decide⟩)) (by decide) (by decide))) (by have q := x_up_at e8; omega) (fun x hx => (x_up_nr e8 (by decide)).trans (y_RE_u E5 x hx)) (fun τ f => kS ⟨by omega, by omega⟩ τ f) _ 0 S8 (by omega) (by omega) rfl y_sm_rf (fun x hx => absurd hx (by omega))
      · skip
        refine x_aload rfl ?_
        refine x_iload rfl ?_
        refine x_push (-10) rfl ?_
        refine x_iload rfl ?_
        refine x_cV (fun _ => rfl) rfl (by decide) (Nat.le_of_ble_eq_true rfl) ?_
        refine rx_96 (by omega) (by omega) (by omega) (by omega) (by omega) (by omega) (by omega) (by omega) (fun v9 v9a v9b v9c => ?_)
        refine x_iret ?_
        refine x_fin (b := w_bo (w_RS (σ 140) 0 0 (y_lt (σ 140) t.toNat) P V) (w_RS (σ 140) 1 0 (w_RS (σ 140) 0 0 (y_lt (σ 140) t.toNat) P V).2.2.2.2.2.2.1 P2 V2) i) ((w_an_r (by omega) E5 v9c).trans (w_bo_1 E5 (by omega))) ?_
        exact kS ⟨by omega, by omega⟩ _ (y_rf_tr (y_sm_rf2 f4 (by decide) (by decide)) (y_sm_rf2 f5 (by decide) (by decide)))
  · skip
    refine x_if_eq (by decide) (by decide) (fun _ => ?_) (fun z => absurd (by decide) z)
    refine x_blk (b := 1) (a_192 E) rfl ?_
    unfold b_192_1
    refine x_push (-1) rfl ?_
    refine x_iret ?_
    exact kB (by omega)
