theorem y_RE_b {τ : x_S} {h : Int} : ∀ {R : Int × w_C}, y_RE τ h R → (0 ≤ τ 138 18 ∧ τ 138 18 ≤ 40) ∧ (h = 1 → 0 ≤ τ 138 21 ∧ τ 138 21 ≤ 40) ∧ (0 ≤ h ∧ h ≤ 2) ∧ τ 138 18 = R.2.2.2.2.2.1 ∧ (h = 0 → R.1 = 0)
  | (s, (_, _, _, _, o, _, _)), E => by
    obtain ⟨E1, E2, E3, _, _⟩ := E
    refine ⟨⟨by omega, by omega⟩, fun z => by omega, ⟨by omega, by omega⟩, E2, fun z => ?_⟩
    show s = 0
    omega
theorem y_RE_v {τ : x_S} {h : Int} : ∀ {R : Int × w_C}, y_RE τ h R → ∀ j, j < 40 → τ 152 j = R.2.2.2.2.2.2.2 j
  | (_, (_, _, _, _, _, _, _)), E => E.2.2.2.2
theorem cx_198 {E : q_E} {σ : x_S} {Q : Option q_V → x_S → Prop} {p t v : Int} (p1 : -2147483648 ≤ p) (p2 : p ≤ 2147483647) (t1 : -2147483648 ≤ t) (t2 : t ≤ 2147483647) (v1 : -2147483648 ≤ v) (v2 : v ≤ 2147483647) (hP : y_PI (σ 140)) {P V : Nat → Int} (ms : (0 ≤ t ∧ t ≤ 2) → y_ms (σ 140) 0 (y_lt (σ 140) t.toNat) (σ 140 (2 + t.toNat)).toNat P V) (kB : ¬ ((0 ≤ p ∧ p ≤ 1) ∧ (0 ≤ t ∧ t ≤ 2) ∧ 0 ≤ v ∧ v < σ 140 (2 + t.toNat)) → Q (some (x_I (-1))) σ) (kS : ((0 ≤ p ∧ p ≤ 1) ∧ (0 ≤ t ∧ t ≤ 2) ∧ 0 ≤ v ∧ v < σ 140 (2 + t.toNat)) → ∀ τ, y_rf σ τ → Q (some (x_I ((w_RS (σ 140) p 0 (y_lt (σ 140) t.toNat) P V).2.2.2.2.2.2.2 v.toNat))) τ) : x_P E 198 [x_R 138, x_I p, x_I t, x_I v] σ Q := by
  refine x_Mt e_198 (h_198 E) (Nat.le_of_ble_eq_true rfl) t_198 rfl ?_
  refine x_blk (b := 0) (a_198 E) rfl ?_
  unfold b_198_0
  refine x_iload rfl ?_
  refine x_cS (fun _ => rfl) (Nat.le_of_ble_eq_true rfl) ?_
  refine c_64 (by omega) (by omega) (fun y1 => ?_) (fun y1 => ?_)
  · skip
    refine x_if_eq (by decide) (by decide) (fun z => absurd z (by decide)) (fun _ => ?_)
    refine x_aload rfl ?_
    refine x_iload rfl ?_
    refine x_iload rfl ?_
    refine x_cV (fun _ => rfl) rfl (by decide) (Nat.le_of_ble_eq_true rfl) ?_
    refine c_92 (by omega) (by omega) (by omega) (by omega) (by assumption) (fun y3 => ?_) (fun y3 => ?_)
    · skip
      refine x_if_ne (by decide) (by decide) (fun z => absurd z (by decide)) (fun _ => ?_)
      refine x_blk (b := 2) (a_198 E) rfl ?_
      unfold b_198_2
      refine x_aload rfl ?_
      refine x_iload rfl ?_
      refine x_push 0 rfl ?_
      refine x_cV (fun _ => rfl) rfl (by decide) (Nat.le_of_ble_eq_true rfl) ?_
      have sz := y_szt hP (t := t) (by omega) (by omega)
      have ez : σ 140 (2 + t).toNat = σ 140 (2 + t.toNat) := congrArg _ (by omega)
      have ms0 := ms (by omega)
      refine cx_80 (t := t) (m := 0) (by omega) (by omega) (by omega) (by omega) hP ms0 (fun S5 f5 g5 w5 => ?_)
      refine x_aload rfl ?_
      refine x_iload rfl ?_
      refine x_push 0 rfl ?_
      refine x_cV (fun _ => rfl) rfl (by decide) (Nat.le_of_ble_eq_true rfl) ?_
      have e6 : S5 140 = σ 140 := funext fun z => y_sm_a f5 140 (by decide) (by decide) z
      refine rx_94 (n := (σ 140 (2 + t.toNat)).toNat) (l := y_lt (σ 140) t.toNat) (P := P) (V := V) (R := w_RS (σ 140) p 0 (y_lt (σ 140) t.toNat) P V) (by omega) (by omega) (by omega) (by omega) (by rw [e6]; exact hP) (by omega) (by omega) (hP.2.1 t.toNat (by omega)).2 (by rw [e6]; exact ms0) (fun v hv => w5 v (by omega)) (by rw [e6]) (fun S6 h6 f6 E6 => ?_)
      have b6 := y_RE_b E6
      refine x_pop rfl ?_
      refine x_aload rfl ?_
      refine x_getR (r := 138) rfl (by decide) (by decide) rfl ?_
      refine x_iload rfl ?_
      refine x_iald (r := 152) (n := 40)  rfl rfl (by decide) (fun _ => rfl) rfl (by omega) (by omega) ?_
      intro g7a g7b
      refine x_iret ?_
      refine x_fin (b := (w_RS (σ 140) p 0 (y_lt (σ 140) t.toNat) P V).2.2.2.2.2.2.2 v.toNat) (y_RE_v E6 v.toNat (by omega)) ?_
      exact kS ⟨by omega, by omega, by omega, by omega⟩ _ (y_rf_tr (y_sm_rf2 f5 (by decide) (by decide)) (y_sm_rf2 f6 (by decide) (by decide)))
    · skip
      refine x_if_ne (by decide) (by decide) (fun _ => ?_) (fun z => absurd (by decide) z)
      refine x_fall ?_
      refine x_blk (b := 1) (a_198 E) rfl ?_
      unfold b_198_1
      refine x_push (-1) rfl ?_
      refine x_iret ?_
      exact kB (fun z => by have ez : σ 140 (2 + t).toNat = σ 140 (2 + t.toNat) := congrArg _ (by omega); omega)
  · skip
    refine x_if_eq (by decide) (by decide) (fun _ => ?_) (fun z => absurd (by decide) z)
    refine x_blk (b := 1) (a_198 E) rfl ?_
    unfold b_198_1
    refine x_push (-1) rfl ?_
    refine x_iret ?_
    exact kB (fun z => by have ez : σ 140 (2 + t).toNat = σ 140 (2 + t.toNat) := congrArg _ (by omega); omega)
