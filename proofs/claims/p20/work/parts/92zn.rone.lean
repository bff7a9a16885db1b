theorem y_RF_b {τ : x_S} {h : Int} : ∀ {R : Int × w_C}, y_RF τ h R → (0 ≤ τ 138 18 ∧ τ 138 18 ≤ 40) ∧ (h = 1 → 0 ≤ τ 138 21 ∧ τ 138 21 ≤ 40) ∧ (0 ≤ h ∧ h ≤ 2)
  | (s, (_, _, _, _, o, _, _)), E => by
    obtain ⟨E1, E2, E3, _⟩ := E
    exact ⟨⟨by omega, by omega⟩, fun z => by omega, ⟨by omega, by omega⟩⟩
theorem w_an_u {R : Int × w_C} {τ : x_S} {i h v : Int} (hi : -1 ≤ i) (E : y_RF τ h R) (k : (h = 1 ∧ v = -10 - τ 138 21) ∨ (h = 2 ∧ v = -3) ∨ (¬ h = 1 ∧ ¬ h = 2 ∧ i < 0 ∧ v = τ 138 18) ∨ (¬ h = 1 ∧ ¬ h = 2 ∧ 0 ≤ i ∧ i < τ 138 18 ∧ v = τ 151 i.toNat) ∨ (¬ h = 1 ∧ ¬ h = 2 ∧ τ 138 18 ≤ i ∧ v = -4)) : v = w_an R i := by
  obtain ⟨s, d, a, r, j, o, u, w⟩ := R
  obtain ⟨E1, E2, E3, E4⟩ := E
  show v = if s < 0 then s else if i < 0 then (o : Int) else if i < o then u i.toNat else -4
  by_cases c : s < 0
  · rw [if_pos c]; omega
  rw [if_neg c]
  by_cases d : i < 0
  · rw [if_pos d]; omega
  rw [if_neg d]
  by_cases e : i < o
  · rw [if_pos e]
    have e4 := E4 i.toNat (by omega)
    omega
  · rw [if_neg e]; omega
theorem cx_193 {E : q_E} {σ : x_S} {Q : Option q_V → x_S → Prop} {t i : Int} (t1 : -2147483648 ≤ t) (t2 : t ≤ 2147483647) (i1 : -2147483648 ≤ i) (i2 : i ≤ 2147483647) (hP : y_PI (σ 140)) {P V : Nat → Int} (ms : (0 ≤ t ∧ t ≤ 2) → y_ms (σ 140) 0 (y_lt (σ 140) t.toNat) (σ 140 (2 + t.toNat)).toNat P V) (kB : ¬ ((0 ≤ t ∧ t ≤ 2) ∧ -1 ≤ i) → Q (some (x_I (-1))) σ) (kS : ((0 ≤ t ∧ t ≤ 2) ∧ -1 ≤ i) → ∀ τ, y_rf σ τ → Q (some (x_I (w_an (w_RU (σ 140) (y_lt (σ 140) t.toNat) P V) i))) τ) : x_P E 193 [x_R 138, x_I t, x_I i] σ Q := by
  refine x_Mt e_193 (h_193 E) (Nat.le_of_ble_eq_true rfl) t_193 rfl ?_
  refine x_blk (b := 0) (a_193 E) rfl ?_
  unfold b_193_0
  refine x_iload rfl ?_
  refine x_cS (fun _ => rfl) (Nat.le_of_ble_eq_true rfl) ?_
  refine c_67 (by omega) (by omega) (fun y1 => ?_) (fun y1 => ?_)
  · skip
    refine x_if_eq (by decide) (by decide) (fun z => absurd z (by decide)) (fun _ => ?_)
    refine x_iload rfl ?_
    refine x_push (-1) rfl ?_
    refine x_icmp_ge (by omega) (by omega) (by omega) (by omega) (fun z3 => ?_) (fun z3 => ?_)
    · skip
      refine x_fall ?_
      refine x_blk (b := 1) (a_193 E) rfl ?_
      unfold b_193_1
      refine x_push (-1) rfl ?_
      refine x_iret ?_
      exact kB (by omega)
    · skip
      refine x_blk (b := 2) (a_193 E) rfl ?_
      unfold b_193_2
      refine x_aload rfl ?_
      refine x_iload rfl ?_
      refine x_push 0 rfl ?_
      refine x_cV (fun _ => rfl) rfl (by decide) (Nat.le_of_ble_eq_true rfl) ?_
      have sz := y_szt hP (t := t) (by omega) (by omega)
      have ez : σ 140 (2 + t).toNat = σ 140 (2 + t.toNat) := congrArg _ (by omega)
      have ms0 := ms (by omega)
      refine cx_80 (t := t) (m := 0) (by omega) (by omega) (by omega) (by omega) hP ms0 (fun S4 f4 g4 w4 => ?_)
      refine x_aload rfl ?_
      refine x_aload rfl ?_
      refine x_cV (fun _ => rfl) rfl (by decide) (Nat.le_of_ble_eq_true rfl) ?_
      have e5 : S4 140 = σ 140 := funext fun z => y_sm_a f4 140 (by decide) (by decide) z
      refine rx_116 (n := (σ 140 (2 + t.toNat)).toNat) (l := y_lt (σ 140) t.toNat) (P := P) (V := V) (R := w_RU (σ 140) (y_lt (σ 140) t.toNat) P V) (by rw [e5]; exact hP) (by omega) (by omega) (hP.2.1 t.toNat (by omega)).2 (by rw [e5]; exact ms0) (fun v hv => w4 v (by omega)) (by rw [e5]) (fun S5 h5 f5 E5 => ?_)
      have b5 := y_RF_b E5
      refine x_push (-10) rfl ?_
      refine x_iload rfl ?_
      refine x_cV (fun _ => rfl) rfl (by decide) (Nat.le_of_ble_eq_true rfl) ?_
      refine rx_96 (by omega) (by omega) (by omega) (by omega) (by omega) (by omega) (by omega) (by omega) (fun v6 v6a v6b v6c => ?_)
      refine x_iret ?_
      refine x_fin (b := w_an (w_RU (σ 140) (y_lt (σ 140) t.toNat) P V) i) (w_an_u (by omega) E5 v6c) ?_
      exact kS ⟨by omega, by omega⟩ _ (y_rf_tr (y_sm_rf2 f4 (by decide) (by decide)) (y_bs_F f5))
  · skip
    refine x_if_eq (by decide) (by decide) (fun _ => ?_) (fun z => absurd (by decide) z)
    refine x_blk (b := 1) (a_193 E) rfl ?_
    unfold b_193_1
    refine x_push (-1) rfl ?_
    refine x_iret ?_
    exact kB (by omega)
