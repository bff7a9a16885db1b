theorem y_RE_b {τ : x_S} {h : Int} : ∀ {R : Int × w_C}, y_RE τ h R → (0 ≤ τ 138 18 ∧ τ 138 18 ≤ 40) ∧ (h = 1 → 0 ≤ τ 138 21 ∧ τ 138 21 ≤ 40) ∧ (0 ≤ h ∧ h ≤ 2) ∧ τ 138 18 = R.2.2.2.2.2.1 ∧ (h = 0 → R.1 = 0)
  | (s, (_, _, _, _, o, _, _)), E => by
    obtain ⟨E1, E2, E3, _, _⟩ := E
    refine ⟨⟨by omega, by omega⟩, fun z => by omega, ⟨by omega, by omega⟩, E2, fun z => ?_⟩
    show s = 0
    omega
theorem cx_191 {E : q_E} {σ : x_S} {Q : Option q_V → x_S → Prop} {p q t i : Int} (p1 : -2147483648 ≤ p) (p2 : p ≤ 2147483647) (q1 : -2147483648 ≤ q) (q2 : q ≤ 2147483647) (t1 : -2147483648 ≤ t) (t2 : t ≤ 2147483647) (i1 : -2147483648 ≤ i) (i2 : i ≤ 2147483647) (hP : y_PI (σ 140)) {P V : Nat → Int} (ms : (0 ≤ t ∧ t ≤ 2) → y_ms (σ 140) 0 (y_lt (σ 140) t.toNat) (σ 140 (2 + t.toNat)).toNat P V) (kB : ¬ ((0 ≤ p ∧ p ≤ 1) ∧ (0 ≤ q ∧ q ≤ 2) ∧ (0 ≤ t ∧ t ≤ 2) ∧ -1 ≤ i) → Q (some (x_I (-1))) σ) (kS : ((0 ≤ p ∧ p ≤ 1) ∧ (0 ≤ q ∧ q ≤ 2) ∧ (0 ≤ t ∧ t ≤ 2) ∧ -1 ≤ i) → ∀ τ, y_rf σ τ → Q (some (x_I (w_an (w_RS (σ 140) p q (y_lt (σ 140) t.toNat) P V) i))) τ) : x_P E 191 [x_R 138, x_I p, x_I q, x_I t, x_I i] σ Q := by
  refine x_Mt e_191 (h_191 E) (Nat.le_of_ble_eq_true rfl) t_191 rfl ?_
  refine x_blk (b := 0) (a_191 E) rfl ?_
  unfold b_191_0
  refine x_iload rfl ?_
  refine x_cS (fun _ => rfl) (Nat.le_of_ble_eq_true rfl) ?_
  refine c_64 (by omega) (by omega) (fun y1 => ?_) (fun y1 => ?_)
  · skip
    refine x_if_eq (by decide) (by decide) (fun z => absurd z (by decide)) (fun _ => ?_)
    refine x_iload rfl ?_
    refine x_i2l (by omega) (by omega) ?_
    refine x_pushL 0 rfl ?_
    refine x_pushL 2 rfl ?_
    refine x_cS (fun _ => rfl) (Nat.le_of_ble_eq_true rfl) ?_
    refine c_45 (by omega) (by omega) (by omega) (by omega) (by omega) (by omega) (fun y3 => ?_) (fun y3 => ?_)
    · skip
      refine x_if_eq (by decide) (by decide) (fun z => absurd z (by decide)) (fun _ => ?_)
      refine x_iload rfl ?_
      refine x_cS (fun _ => rfl) (Nat.le_of_ble_eq_true rfl) ?_
      refine c_67 (by omega) (by omega) (fun y5 => ?_) (fun y5 => ?_)
      · skip
        refine x_if_eq (by decide) (by decide) (fun z => absurd z (by decide)) (fun _ => ?_)
        refine x_iload rfl ?_
        refine x_push (-1) rfl ?_
        refine x_icmp_ge (by omega) (by omega) (by omega) (by omega) (fun z7 => ?_) (fun z7 => ?_)
        · skip
          refine x_fall ?_
          refine x_blk (b := 1) (a_191 E) rfl ?_
          unfold b_191_1
          refine x_push (-1) rfl ?_
          refine x_iret ?_
          exact kB (by omega)
        · skip
          refine x_blk (b := 2) (a_191 E) rfl ?_
          unfold b_191_2
          refine x_aload rfl ?_
          refine x_iload rfl ?_
          refine x_push 0 rfl ?_
          refine x_cV (fun _ => rfl) rfl (by decide) (Nat.le_of_ble_eq_true rfl) ?_
          have sz := y_szt hP (t := t) (by omega) (by omega)
          have ez : σ 140 (2 + t).toNat = σ 140 (2 + t.toNat) := congrArg _ (by omega)
          have ms0 := ms (by omega)
          refine cx_80 (t := t) (m := 0) (by omega) (by omega) (by omega) (by omega) hP ms0 (fun S8 f8 g8 w8 => ?_)
          refine x_aload rfl ?_
          refine x_aload rfl ?_
          refine x_iload rfl ?_
          refine x_iload rfl ?_
          refine x_cV (fun _ => rfl) rfl (by decide) (Nat.le_of_ble_eq_true rfl) ?_
          have e9 : S8 140 = σ 140 := funext fun z => y_sm_a f8 140 (by decide) (by decide) z
          refine rx_94 (n := (σ 140 (2 + t.toNat)).toNat) (l := y_lt (σ 140) t.toNat) (P := P) (V := V) (R := w_RS (σ 140) p q (y_lt (σ 140) t.toNat) P V) (by omega) (by omega) (by omega) (by omega) (by rw [e9]; exact hP) (by omega) (by omega) (hP.2.1 t.toNat (by omega)).2 (by rw [e9]; exact ms0) (fun v hv => w8 v (by omega)) (by rw [e9]) (fun S9 h9 f9 E9 => ?_)
          have b9 := y_RE_b E9
          refine x_push (-10) rfl ?_
          refine x_iload rfl ?_
          refine x_cV (fun _ => rfl) rfl (by decide) (Nat.le_of_ble_eq_true rfl) ?_
          refine rx_96 (by omega) (by omega) (by omega) (by omega) (by omega) (by omega) (by omega) (by omega) (fun v10 v10a v10b v10c => ?_)
          refine x_iret ?_
          refine x_fin (b := w_an (w_RS (σ 140) p q (y_lt (σ 140) t.toNat) P V) i) (w_an_r (by omega) E9 v10c) ?_
          exact kS ⟨by omega, by omega, by omega, by omega⟩ _ (y_rf_tr (y_sm_rf2 f8 (by decide) (by decide)) (y_sm_rf2 f9 (by decide) (by decide)))
      · skip
        refine x_if_eq (by decide) (by decide) (fun _ => ?_) (fun z => absurd (by decide) z)
        refine x_blk (b := 1) (a_191 E) rfl ?_
        unfold b_191_1
        refine x_push (-1) rfl ?_
        refine x_iret ?_
        exact kB (by omega)
    · skip
      refine x_if_eq (by decide) (by decide) (fun _ => ?_) (fun z => absurd (by decide) z)
      refine x_blk (b := 1) (a_191 E) rfl ?_
      unfold b_191_1
      refine x_push (-1) rfl ?_
      refine x_iret ?_
      exact kB (by omega)
  · skip
    refine x_if_eq (by decide) (by decide) (fun _ => ?_) (fun z => absurd (by decide) z)
    refine x_blk (b := 1) (a_191 E) rfl ?_
    unfold b_191_1
    refine x_push (-1) rfl ?_
    refine x_iret ?_
    exact kB (by omega)
