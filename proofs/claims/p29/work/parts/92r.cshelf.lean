/-! programs copied, laid by, taken again -/
theorem x_cp_in {σ τ : x_S} {r r' n k : Nat} (e : τ = x_cp σ r 0 r' 0 n) (h : k < n) : τ r' k = σ r k := by
  rw [e]
  unfold x_cp
  rw [if_pos ⟨rfl, by omega, by omega⟩]
  congr 1
  omega
theorem y_ce_b {x : Nat} (h : x < 24) : y_ce x < 40 := by
  unfold y_ce
  (repeat' split) <;> omega
theorem kx_71_4_11 {E : q_E} {σ : x_S} {Q : Option q_V → x_S → Prop} (C0 : y_CI σ) (k : ∀ τ, y_CI τ → (∀ c m, ¬ (4 ≤ c ∧ c ≤ 10) → τ c m = σ c m) → y_CP σ 11 τ 4 → Q none τ) : x_P E 71 [x_R 4, x_R 11] σ Q := by
  refine x_Mt e_71 (h_71 E) (Nat.le_of_ble_eq_true rfl) t_71 rfl ?_
  refine x_blk (b := 0) (a_71 E) rfl ?_
  unfold b_71_0
  refine x_aload rfl ?_
  refine x_getR (r := 11) rfl (by decide) (by decide) rfl ?_
  refine x_push 0 rfl ?_
  refine x_aload rfl ?_
  refine x_getR (r := 4) rfl (by decide) (by decide) rfl ?_
  refine x_push 0 rfl ?_
  refine x_push 33 rfl ?_
  refine x_copyG y_a12 y_a5 (by decide) (by decide) C0 (by decide) (y_fr_rf (lo := 0) (hi := 138)) (by omega) (by omega) (by omega) (by omega) (by omega) (Nat.le_of_ble_eq_true rfl) (fun S1 e1 C1 F1 => ?_)
  refine x_aload rfl ?_
  refine x_getR (r := 11) rfl (by decide) (by decide) rfl ?_
  refine x_push 0 rfl ?_
  refine x_aload rfl ?_
  refine x_getR (r := 4) rfl (by decide) (by decide) rfl ?_
  refine x_push 0 rfl ?_
  refine x_push 3 rfl ?_
  refine x_copyG y_a13 y_a6 (by decide) (by decide) C1 (by decide) F1 (by omega) (by omega) (by omega) (by omega) (by omega) (Nat.le_of_ble_eq_true rfl) (fun S2 e2 C2 F2 => ?_)
  refine x_aload rfl ?_
  refine x_getR (r := 11) rfl (by decide) (by decide) rfl ?_
  refine x_push 0 rfl ?_
  refine x_aload rfl ?_
  refine x_getR (r := 4) rfl (by decide) (by decide) rfl ?_
  refine x_push 0 rfl ?_
  refine x_push 2 rfl ?_
  refine x_copyG y_a14 y_a7 (by decide) (by decide) C2 (by decide) F2 (by omega) (by omega) (by omega) (by omega) (by omega) (Nat.le_of_ble_eq_true rfl) (fun S3 e3 C3 F3 => ?_)
  refine x_aload rfl ?_
  refine x_getR (r := 11) rfl (by decide) (by decide) rfl ?_
  refine x_push 0 rfl ?_
  refine x_aload rfl ?_
  refine x_getR (r := 4) rfl (by decide) (by decide) rfl ?_
  refine x_push 0 rfl ?_
  refine x_push 40 rfl ?_
  refine x_copyG y_a15 y_a8 (by decide) (by decide) C3 (by decide) F3 (by omega) (by omega) (by omega) (by omega) (by omega) (Nat.le_of_ble_eq_true rfl) (fun S4 e4 C4 F4 => ?_)
  refine x_aload rfl ?_
  refine x_getR (r := 11) rfl (by decide) (by decide) rfl ?_
  refine x_push 0 rfl ?_
  refine x_aload rfl ?_
  refine x_getR (r := 4) rfl (by decide) (by decide) rfl ?_
  refine x_push 0 rfl ?_
  refine x_push 192 rfl ?_
  refine x_copyG y_a16 y_a9 (by decide) (by decide) C4 (by decide) F4 (by omega) (by omega) (by omega) (by omega) (by omega) (Nat.le_of_ble_eq_true rfl) (fun S5 e5 C5 F5 => ?_)
  refine x_aload rfl ?_
  refine x_getR (r := 11) rfl (by decide) (by decide) rfl ?_
  refine x_push 0 rfl ?_
  refine x_aload rfl ?_
  refine x_getR (r := 4) rfl (by decide) (by decide) rfl ?_
  refine x_push 0 rfl ?_
  refine x_push 90 rfl ?_
  refine x_copyG y_a17 y_a10 (by decide) (by decide) C5 (by decide) F5 (by omega) (by omega) (by omega) (by omega) (by omega) (Nat.le_of_ble_eq_true rfl) (fun S6 e6 C6 F6 => ?_)
  refine x_aload rfl ?_
  refine x_aload rfl ?_
  refine x_fall ?_
  refine x_blk (b := 1) (a_71 E) rfl ?_
  unfold b_71_1
  refine x_getIG y_f11_6 C6 ?_
  have q7_0 : S6 11 6 = S5 11 6 := x_cp_nr e6 (by decide)
  have q7_1 : S5 11 6 = S4 11 6 := x_cp_nr e5 (by decide)
  have q7_2 : S4 11 6 = S3 11 6 := x_cp_nr e4 (by decide)
  have q7_3 : S3 11 6 = S2 11 6 := x_cp_nr e3 (by decide)
  have q7_4 : S2 11 6 = S1 11 6 := x_cp_nr e2 (by decide)
  have q7_5 : S1 11 6 = σ 11 6 := x_cp_nr e1 (by decide)
  simp only [q7_0, q7_1, q7_2, q7_3, q7_4, q7_5]
  intro g7a g7b
  refine x_putIG y_f4_6 ⟨by decide, rfl⟩ (by decide) C6 (by decide) F6 (by omega) (by omega) (fun S8 e8 C8 F8 => ?_)
  refine x_vret ?_
  refine k _ C8 (fun c m hc => (x_up_ne e8 (fun z => hc (by omega))).trans ((x_cp_nr e6 (fun z => hc (by omega))).trans ((x_cp_nr e5 (fun z => hc (by omega))).trans ((x_cp_nr e4 (fun z => hc (by omega))).trans ((x_cp_nr e3 (fun z => hc (by omega))).trans ((x_cp_nr e2 (fun z => hc (by omega))).trans ((x_cp_nr e1 (fun z => hc (by omega))).trans (rfl)))))))) ⟨fun m hm => y_cv_x (fun h => (x_up_nr e8 (by decide)).trans ((x_cp_nr e6 (by decide)).trans ((x_cp_nr e5 (by decide)).trans ((x_cp_nr e4 (by decide)).trans ((x_cp_in e3 (h)).trans ((x_cp_nr e2 (by decide)).trans (x_cp_nr e1 (by decide)))))))) (fun h h' => (x_up_nr e8 (by decide)).trans ((x_cp_nr e6 (by decide)).trans ((x_cp_nr e5 (by decide)).trans ((x_cp_nr e4 (by decide)).trans ((x_cp_nr e3 (by decide)).trans ((x_cp_in e2 (by omega)).trans (x_cp_nr e1 (by decide)))))))) (fun h h' => (x_up_nr e8 (by decide)).trans ((x_cp_nr e6 (by decide)).trans ((x_cp_nr e5 (by decide)).trans ((x_cp_nr e4 (by decide)).trans ((x_cp_nr e3 (by decide)).trans ((x_cp_nr e2 (by decide)).trans (x_cp_in e1 (by omega)))))))) (fun h h' => (x_up_nr e8 (by decide)).trans ((x_cp_nr e6 (by decide)).trans ((x_cp_nr e5 (by decide)).trans ((x_cp_in e4 (y_ce_b (by omega))).trans ((x_cp_nr e3 (by decide)).trans ((x_cp_nr e2 (by decide)).trans (x_cp_nr e1 (by decide)))))))) (fun _ => (x_up_at e8)) (fun h => (x_up_nr e8 (by decide)).trans ((x_cp_nr e6 (by decide)).trans ((x_cp_in e5 (by omega)).trans ((x_cp_nr e4 (by decide)).trans ((x_cp_nr e3 (by decide)).trans ((x_cp_nr e2 (by decide)).trans (x_cp_nr e1 (by decide)))))))), fun m hm => (x_up_nr e8 (by decide)).trans ((x_cp_in e6 (hm)).trans ((x_cp_nr e5 (by decide)).trans ((x_cp_nr e4 (by decide)).trans ((x_cp_nr e3 (by decide)).trans ((x_cp_nr e2 (by decide)).trans (x_cp_nr e1 (by decide)))))))⟩
theorem kx_71_20_4 {E : q_E} {σ : x_S} {Q : Option q_V → x_S → Prop} (C0 : y_CI σ) (k : ∀ τ, y_CI τ → (∀ c m, ¬ (20 ≤ c ∧ c ≤ 26) → τ c m = σ c m) → y_CP σ 4 τ 20 → Q none τ) : x_P E 71 [x_R 20, x_R 4] σ Q := by
  refine x_Mt e_71 (h_71 E) (Nat.le_of_ble_eq_true rfl) t_71 rfl ?_
  refine x_blk (b := 0) (a_71 E) rfl ?_
  unfold b_71_0
  refine x_aload rfl ?_
  refine x_getR (r := 4) rfl (by decide) (by decide) rfl ?_
  refine x_push 0 rfl ?_
  refine x_aload rfl ?_
  refine x_getR (r := 20) rfl (by decide) (by decide) rfl ?_
  refine x_push 0 rfl ?_
  refine x_push 33 rfl ?_
  refine x_copyG y_a5 y_a21 (by decide) (by decide) C0 (by decide) (y_fr_rf (lo := 0) (hi := 138)) (by omega) (by omega) (by omega) (by omega) (by omega) (Nat.le_of_ble_eq_true rfl) (fun S1 e1 C1 F1 => ?_)
  refine x_aload rfl ?_
  refine x_getR (r := 4) rfl (by decide) (by decide) rfl ?_
  refine x_push 0 rfl ?_
  refine x_aload rfl ?_
  refine x_getR (r := 20) rfl (by decide) (by decide) rfl ?_
  refine x_push 0 rfl ?_
  refine x_push 3 rfl ?_
  refine x_copyG y_a6 y_a22 (by decide) (by decide) C1 (by decide) F1 (by omega) (by omega) (by omega) (by omega) (by omega) (Nat.le_of_ble_eq_true rfl) (fun S2 e2 C2 F2 => ?_)
  refine x_aload rfl ?_
  refine x_getR (r := 4) rfl (by decide) (by decide) rfl ?_
  refine x_push 0 rfl ?_
  refine x_aload rfl ?_
  refine x_getR (r := 20) rfl (by decide) (by decide) rfl ?_
  refine x_push 0 rfl ?_
  refine x_push 2 rfl ?_
  refine x_copyG y_a7 y_a23 (by decide) (by decide) C2 (by decide) F2 (by omega) (by omega) (by omega) (by omega) (by omega) (Nat.le_of_ble_eq_true rfl) (fun S3 e3 C3 F3 => ?_)
  refine x_aload rfl ?_
  refine x_getR (r := 4) rfl (by decide) (by decide) rfl ?_
  refine x_push 0 rfl ?_
  refine x_aload rfl ?_
  refine x_getR (r := 20) rfl (by decide) (by decide) rfl ?_
  refine x_push 0 rfl ?_
  refine x_push 40 rfl ?_
  refine x_copyG y_a8 y_a24 (by decide) (by decide) C3 (by decide) F3 (by omega) (by omega) (by omega) (by omega) (by omega) (Nat.le_of_ble_eq_true rfl) (fun S4 e4 C4 F4 => ?_)
  refine x_aload rfl ?_
  refine x_getR (r := 4) rfl (by decide) (by decide) rfl ?_
  refine x_push 0 rfl ?_
  refine x_aload rfl ?_
  refine x_getR (r := 20) rfl (by decide) (by decide) rfl ?_
  refine x_push 0 rfl ?_
  refine x_push 192 rfl ?_
  refine x_copyG y_a9 y_a25 (by decide) (by decide) C4 (by decide) F4 (by omega) (by omega) (by omega) (by omega) (by omega) (Nat.le_of_ble_eq_true rfl) (fun S5 e5 C5 F5 => ?_)
  refine x_aload rfl ?_
  refine x_getR (r := 4) rfl (by decide) (by decide) rfl ?_
  refine x_push 0 rfl ?_
  refine x_aload rfl ?_
  refine x_getR (r := 20) rfl (by decide) (by decide) rfl ?_
  refine x_push 0 rfl ?_
  refine x_push 90 rfl ?_
  refine x_copyG y_a10 y_a26 (by decide) (by decide) C5 (by decide) F5 (by omega) (by omega) (by omega) (by omega) (by omega) (Nat.le_of_ble_eq_true rfl) (fun S6 e6 C6 F6 => ?_)
  refine x_aload rfl ?_
  refine x_aload rfl ?_
  refine x_fall ?_
  refine x_blk (b := 1) (a_71 E) rfl ?_
  unfold b_71_1
  refine x_getIG y_f4_6 C6 ?_
  have q7_0 : S6 4 6 = S5 4 6 := x_cp_nr e6 (by decide)
  have q7_1 : S5 4 6 = S4 4 6 := x_cp_nr e5 (by decide)
  have q7_2 : S4 4 6 = S3 4 6 := x_cp_nr e4 (by decide)
  have q7_3 : S3 4 6 = S2 4 6 := x_cp_nr e3 (by decide)
  have q7_4 : S2 4 6 = S1 4 6 := x_cp_nr e2 (by decide)
  have q7_5 : S1 4 6 = σ 4 6 := x_cp_nr e1 (by decide)
  simp only [q7_0, q7_1, q7_2, q7_3, q7_4, q7_5]
  intro g7a g7b
  refine x_putIG y_f20_6 ⟨by decide, rfl⟩ (by decide) C6 (by decide) F6 (by omega) (by omega) (fun S8 e8 C8 F8 => ?_)
  refine x_vret ?_
  refine k _ C8 (fun c m hc => (x_up_ne e8 (fun z => hc (by omega))).trans ((x_cp_nr e6 (fun z => hc (by omega))).trans ((x_cp_nr e5 (fun z => hc (by omega))).trans ((x_cp_nr e4 (fun z => hc (by omega))).trans ((x_cp_nr e3 (fun z => hc (by omega))).trans ((x_cp_nr e2 (fun z => hc (by omega))).trans ((x_cp_nr e1 (fun z => hc (by omega))).trans (rfl)))))))) ⟨fun m hm => y_cv_x (fun h => (x_up_nr e8 (by decide)).trans ((x_cp_nr e6 (by decide)).trans ((x_cp_nr e5 (by decide)).trans ((x_cp_nr e4 (by decide)).trans ((x_cp_in e3 (h)).trans ((x_cp_nr e2 (by decide)).trans (x_cp_nr e1 (by decide)))))))) (fun h h' => (x_up_nr e8 (by decide)).trans ((x_cp_nr e6 (by decide)).trans ((x_cp_nr e5 (by decide)).trans ((x_cp_nr e4 (by decide)).trans ((x_cp_nr e3 (by decide)).trans ((x_cp_in e2 (by omega)).trans (x_cp_nr e1 (by decide)))))))) (fun h h' => (x_up_nr e8 (by decide)).trans ((x_cp_nr e6 (by decide)).trans ((x_cp_nr e5 (by decide)).trans ((x_cp_nr e4 (by decide)).trans ((x_cp_nr e3 (by decide)).trans ((x_cp_nr e2 (by decide)).trans (x_cp_in e1 (by omega)))))))) (fun h h' => (x_up_nr e8 (by decide)).trans ((x_cp_nr e6 (by decide)).trans ((x_cp_nr e5 (by decide)).trans ((x_cp_in e4 (y_ce_b (by omega))).trans ((x_cp_nr e3 (by decide)).trans ((x_cp_nr e2 (by decide)).trans (x_cp_nr e1 (by decide)))))))) (fun _ => (x_up_at e8)) (fun h => (x_up_nr e8 (by decide)).trans ((x_cp_nr e6 (by decide)).trans ((x_cp_in e5 (by omega)).trans ((x_cp_nr e4 (by decide)).trans ((x_cp_nr e3 (by decide)).trans ((x_cp_nr e2 (by decide)).trans (x_cp_nr e1 (by decide)))))))), fun m hm => (x_up_nr e8 (by decide)).trans ((x_cp_in e6 (hm)).trans ((x_cp_nr e5 (by decide)).trans ((x_cp_nr e4 (by decide)).trans ((x_cp_nr e3 (by decide)).trans ((x_cp_nr e2 (by decide)).trans (x_cp_nr e1 (by decide)))))))⟩
theorem kx_71_27_4 {E : q_E} {σ : x_S} {Q : Option q_V → x_S → Prop} (C0 : y_CI σ) (k : ∀ τ, y_CI τ → (∀ c m, ¬ (27 ≤ c ∧ c ≤ 33) → τ c m = σ c m) → y_CP σ 4 τ 27 → Q none τ) : x_P E 71 [x_R 27, x_R 4] σ Q := by
  refine x_Mt e_71 (h_71 E) (Nat.le_of_ble_eq_true rfl) t_71 rfl ?_
  refine x_blk (b := 0) (a_71 E) rfl ?_
  unfold b_71_0
  refine x_aload rfl ?_
  refine x_getR (r := 4) rfl (by decide) (by decide) rfl ?_
  refine x_push 0 rfl ?_
  refine x_aload rfl ?_
  refine x_getR (r := 27) rfl (by decide) (by decide) rfl ?_
  refine x_push 0 rfl ?_
  refine x_push 33 rfl ?_
  refine x_copyG y_a5 y_a28 (by decide) (by decide) C0 (by decide) (y_fr_rf (lo := 0) (hi := 138)) (by omega) (by omega) (by omega) (by omega) (by omega) (Nat.le_of_ble_eq_true rfl) (fun S1 e1 C1 F1 => ?_)
  refine x_aload rfl ?_
  refine x_getR (r := 4) rfl (by decide) (by decide) rfl ?_
  refine x_push 0 rfl ?_
  refine x_aload rfl ?_
  refine x_getR (r := 27) rfl (by decide) (by decide) rfl ?_
  refine x_push 0 rfl ?_
  refine x_push 3 rfl ?_
  refine x_copyG y_a6 y_a29 (by decide) (by decide) C1 (by decide) F1 (by omega) (by omega) (by omega) (by omega) (by omega) (Nat.le_of_ble_eq_true rfl) (fun S2 e2 C2 F2 => ?_)
  refine x_aload rfl ?_
  refine x_getR (r := 4) rfl (by decide) (by decide) rfl ?_
  refine x_push 0 rfl ?_
  refine x_aload rfl ?_
  refine x_getR (r := 27) rfl (by decide) (by decide) rfl ?_
  refine x_push 0 rfl ?_
  refine x_push 2 rfl ?_
  refine x_copyG y_a7 y_a30 (by decide) (by decide) C2 (by decide) F2 (by omega) (by omega) (by omega) (by omega) (by omega) (Nat.le_of_ble_eq_true rfl) (fun S3 e3 C3 F3 => ?_)
  refine x_aload rfl ?_
  refine x_getR (r := 4) rfl (by decide) (by decide) rfl ?_
  refine x_push 0 rfl ?_
  refine x_aload rfl ?_
  refine x_getR (r := 27) rfl (by decide) (by decide) rfl ?_
  refine x_push 0 rfl ?_
  refine x_push 40 rfl ?_
  refine x_copyG y_a8 y_a31 (by decide) (by decide) C3 (by decide) F3 (by omega) (by omega) (by omega) (by omega) (by omega) (Nat.le_of_ble_eq_true rfl) (fun S4 e4 C4 F4 => ?_)
  refine x_aload rfl ?_
  refine x_getR (r := 4) rfl (by decide) (by decide) rfl ?_
  refine x_push 0 rfl ?_
  refine x_aload rfl ?_
  refine x_getR (r := 27) rfl (by decide) (by decide) rfl ?_
  refine x_push 0 rfl ?_
  refine x_push 192 rfl ?_
  refine x_copyG y_a9 y_a32 (by decide) (by decide) C4 (by decide) F4 (by omega) (by omega) (by omega) (by omega) (by omega) (Nat.le_of_ble_eq_true rfl) (fun S5 e5 C5 F5 => ?_)
  refine x_aload rfl ?_
  refine x_getR (r := 4) rfl (by decide) (by decide) rfl ?_
  refine x_push 0 rfl ?_
  refine x_aload rfl ?_
  refine x_getR (r := 27) rfl (by decide) (by decide) rfl ?_
  refine x_push 0 rfl ?_
  refine x_push 90 rfl ?_
  refine x_copyG y_a10 y_a33 (by decide) (by decide) C5 (by decide) F5 (by omega) (by omega) (by omega) (by omega) (by omega) (Nat.le_of_ble_eq_true rfl) (fun S6 e6 C6 F6 => ?_)
  refine x_aload rfl ?_
  refine x_aload rfl ?_
  refine x_fall ?_
  refine x_blk (b := 1) (a_71 E) rfl ?_
  unfold b_71_1
  refine x_getIG y_f4_6 C6 ?_
  have q7_0 : S6 4 6 = S5 4 6 := x_cp_nr e6 (by decide)
  have q7_1 : S5 4 6 = S4 4 6 := x_cp_nr e5 (by decide)
  have q7_2 : S4 4 6 = S3 4 6 := x_cp_nr e4 (by decide)
  have q7_3 : S3 4 6 = S2 4 6 := x_cp_nr e3 (by decide)
  have q7_4 : S2 4 6 = S1 4 6 := x_cp_nr e2 (by decide)
  have q7_5 : S1 4 6 = σ 4 6 := x_cp_nr e1 (by decide)
  simp only [q7_0, q7_1, q7_2, q7_3, q7_4, q7_5]
  intro g7a g7b
  refine x_putIG y_f27_6 ⟨by decide, rfl⟩ (by decide) C6 (by decide) F6 (by omega) (by omega) (fun S8 e8 C8 F8 => ?_)
  refine x_vret ?_
  refine k _ C8 (fun c m hc => (x_up_ne e8 (fun z => hc (by omega))).trans ((x_cp_nr e6 (fun z => hc (by omega))).trans ((x_cp_nr e5 (fun z => hc (by omega))).trans ((x_cp_nr e4 (fun z => hc (by omega))).trans ((x_cp_nr e3 (fun z => hc (by omega))).trans ((x_cp_nr e2 (fun z => hc (by omega))).trans ((x_cp_nr e1 (fun z => hc (by omega))).trans (rfl)))))))) ⟨fun m hm => y_cv_x (fun h => (x_up_nr e8 (by decide)).trans ((x_cp_nr e6 (by decide)).trans ((x_cp_nr e5 (by decide)).trans ((x_cp_nr e4 (by decide)).trans ((x_cp_in e3 (h)).trans ((x_cp_nr e2 (by decide)).trans (x_cp_nr e1 (by decide)))))))) (fun h h' => (x_up_nr e8 (by decide)).trans ((x_cp_nr e6 (by decide)).trans ((x_cp_nr e5 (by decide)).trans ((x_cp_nr e4 (by decide)).trans ((x_cp_nr e3 (by decide)).trans ((x_cp_in e2 (by omega)).trans (x_cp_nr e1 (by decide)))))))) (fun h h' => (x_up_nr e8 (by decide)).trans ((x_cp_nr e6 (by decide)).trans ((x_cp_nr e5 (by decide)).trans ((x_cp_nr e4 (by decide)).trans ((x_cp_nr e3 (by decide)).trans ((x_cp_nr e2 (by decide)).trans (x_cp_in e1 (by omega)))))))) (fun h h' => (x_up_nr e8 (by decide)).trans ((x_cp_nr e6 (by decide)).trans ((x_cp_nr e5 (by decide)).trans ((x_cp_in e4 (y_ce_b (by omega))).trans ((x_cp_nr e3 (by decide)).trans ((x_cp_nr e2 (by decide)).trans (x_cp_nr e1 (by decide)))))))) (fun _ => (x_up_at e8)) (fun h => (x_up_nr e8 (by decide)).trans ((x_cp_nr e6 (by decide)).trans ((x_cp_in e5 (by omega)).trans ((x_cp_nr e4 (by decide)).trans ((x_cp_nr e3 (by decide)).trans ((x_cp_nr e2 (by decide)).trans (x_cp_nr e1 (by decide)))))))), fun m hm => (x_up_nr e8 (by decide)).trans ((x_cp_in e6 (hm)).trans ((x_cp_nr e5 (by decide)).trans ((x_cp_nr e4 (by decide)).trans ((x_cp_nr e3 (by decide)).trans ((x_cp_nr e2 (by decide)).trans (x_cp_nr e1 (by decide)))))))⟩
theorem kx_71_34_4 {E : q_E} {σ : x_S} {Q : Option q_V → x_S → Prop} (C0 : y_CI σ) (k : ∀ τ, y_CI τ → (∀ c m, ¬ (34 ≤ c ∧ c ≤ 40) → τ c m = σ c m) → y_CP σ 4 τ 34 → Q none τ) : x_P E 71 [x_R 34, x_R 4] σ Q := by
  refine x_Mt e_71 (h_71 E) (Nat.le_of_ble_eq_true rfl) t_71 rfl ?_
  refine x_blk (b := 0) (a_71 E) rfl ?_
  unfold b_71_0
  refine x_aload rfl ?_
  refine x_getR (r := 4) rfl (by decide) (by decide) rfl ?_
  refine x_push 0 rfl ?_
  refine x_aload rfl ?_
  refine x_getR (r := 34) rfl (by decide) (by decide) rfl ?_
  refine x_push 0 rfl ?_
  refine x_push 33 rfl ?_
  refine x_copyG y_a5 y_a35 (by decide) (by decide) C0 (by decide) (y_fr_rf (lo := 0) (hi := 138)) (by omega) (by omega) (by omega) (by omega) (by omega) (Nat.le_of_ble_eq_true rfl) (fun S1 e1 C1 F1 => ?_)
  refine x_aload rfl ?_
  refine x_getR (r := 4) rfl (by decide) (by decide) rfl ?_
  refine x_push 0 rfl ?_
  refine x_aload rfl ?_
  refine x_getR (r := 34) rfl (by decide) (by decide) rfl ?_
  refine x_push 0 rfl ?_
  refine x_push 3 rfl ?_
  refine x_copyG y_a6 y_a36 (by decide) (by decide) C1 (by decide) F1 (by omega) (by omega) (by omega) (by omega) (by omega) (Nat.le_of_ble_eq_true rfl) (fun S2 e2 C2 F2 => ?_)
  refine x_aload rfl ?_
  refine x_getR (r := 4) rfl (by decide) (by decide) rfl ?_
  refine x_push 0 rfl ?_
  refine x_aload rfl ?_
  refine x_getR (r := 34) rfl (by decide) (by decide) rfl ?_
  refine x_push 0 rfl ?_
  refine x_push 2 rfl ?_
  refine x_copyG y_a7 y_a37 (by decide) (by decide) C2 (by decide) F2 (by omega) (by omega) (by omega) (by omega) (by omega) (Nat.le_of_ble_eq_true rfl) (fun S3 e3 C3 F3 => ?_)
  refine x_aload rfl ?_
  refine x_getR (r := 4) rfl (by decide) (by decide) rfl ?_
  refine x_push 0 rfl ?_
  refine x_aload rfl ?_
  refine x_getR (r := 34) rfl (by decide) (by decide) rfl ?_
  refine x_push 0 rfl ?_
  refine x_push 40 rfl ?_
  refine x_copyG y_a8 y_a38 (by decide) (by decide) C3 (by decide) F3 (by omega) (by omega) (by omega) (by omega) (by omega) (Nat.le_of_ble_eq_true rfl) (fun S4 e4 C4 F4 => ?_)
  refine x_aload rfl ?_
  refine x_getR (r := 4) rfl (by decide) (by decide) rfl ?_
  refine x_push 0 rfl ?_
  refine x_aload rfl ?_
  refine x_getR (r := 34) rfl (by decide) (by decide) rfl ?_
  refine x_push 0 rfl ?_
  refine x_push 192 rfl ?_
  refine x_copyG y_a9 y_a39 (by decide) (by decide) C4 (by decide) F4 (by omega) (by omega) (by omega) (by omega) (by omega) (Nat.le_of_ble_eq_true rfl) (fun S5 e5 C5 F5 => ?_)
  refine x_aload rfl ?_
  refine x_getR (r := 4) rfl (by decide) (by decide) rfl ?_
  refine x_push 0 rfl ?_
  refine x_aload rfl ?_
  refine x_getR (r := 34) rfl (by decide) (by decide) rfl ?_
  refine x_push 0 rfl ?_
  refine x_push 90 rfl ?_
  refine x_copyG y_a10 y_a40 (by decide) (by decide) C5 (by decide) F5 (by omega) (by omega) (by omega) (by omega) (by omega) (Nat.le_of_ble_eq_true rfl) (fun S6 e6 C6 F6 => ?_)
  refine x_aload rfl ?_
  refine x_aload rfl ?_
  refine x_fall ?_
  refine x_blk (b := 1) (a_71 E) rfl ?_
  unfold b_71_1
  refine x_getIG y_f4_6 C6 ?_
  have q7_0 : S6 4 6 = S5 4 6 := x_cp_nr e6 (by decide)
  have q7_1 : S5 4 6 = S4 4 6 := x_cp_nr e5 (by decide)
  have q7_2 : S4 4 6 = S3 4 6 := x_cp_nr e4 (by decide)
  have q7_3 : S3 4 6 = S2 4 6 := x_cp_nr e3 (by decide)
  have q7_4 : S2 4 6 = S1 4 6 := x_cp_nr e2 (by decide)
  have q7_5 : S1 4 6 = σ 4 6 := x_cp_nr e1 (by decide)
  simp only [q7_0, q7_1, q7_2, q7_3, q7_4, q7_5]
  intro g7a g7b
  refine x_putIG y_f34_6 ⟨by decide, rfl⟩ (by decide) C6 (by decide) F6 (by omega) (by omega) (fun S8 e8 C8 F8 => ?_)
  refine x_vret ?_
  refine k _ C8 (fun c m hc => (x_up_ne e8 (fun z => hc (by omega))).trans ((x_cp_nr e6 (fun z => hc (by omega))).trans ((x_cp_nr e5 (fun z => hc (by omega))).trans ((x_cp_nr e4 (fun z => hc (by omega))).trans ((x_cp_nr e3 (fun z => hc (by omega))).trans ((x_cp_nr e2 (fun z => hc (by omega))).trans ((x_cp_nr e1 (fun z => hc (by omega))).trans (rfl)))))))) ⟨fun m hm => y_cv_x (fun h => (x_up_nr e8 (by decide)).trans ((x_cp_nr e6 (by decide)).trans ((x_cp_nr e5 (by decide)).trans ((x_cp_nr e4 (by decide)).trans ((x_cp_in e3 (h)).trans ((x_cp_nr e2 (by decide)).trans (x_cp_nr e1 (by decide)))))))) (fun h h' => (x_up_nr e8 (by decide)).trans ((x_cp_nr e6 (by decide)).trans ((x_cp_nr e5 (by decide)).trans ((x_cp_nr e4 (by decide)).trans ((x_cp_nr e3 (by decide)).trans ((x_cp_in e2 (by omega)).trans (x_cp_nr e1 (by decide)))))))) (fun h h' => (x_up_nr e8 (by decide)).trans ((x_cp_nr e6 (by decide)).trans ((x_cp_nr e5 (by decide)).trans ((x_cp_nr e4 (by decide)).trans ((x_cp_nr e3 (by decide)).trans ((x_cp_nr e2 (by decide)).trans (x_cp_in e1 (by omega)))))))) (fun h h' => (x_up_nr e8 (by decide)).trans ((x_cp_nr e6 (by decide)).trans ((x_cp_nr e5 (by decide)).trans ((x_cp_in e4 (y_ce_b (by omega))).trans ((x_cp_nr e3 (by decide)).trans ((x_cp_nr e2 (by decide)).trans (x_cp_nr e1 (by decide)))))))) (fun _ => (x_up_at e8)) (fun h => (x_up_nr e8 (by decide)).trans ((x_cp_nr e6 (by decide)).trans ((x_cp_in e5 (by omega)).trans ((x_cp_nr e4 (by decide)).trans ((x_cp_nr e3 (by decide)).trans ((x_cp_nr e2 (by decide)).trans (x_cp_nr e1 (by decide)))))))), fun m hm => (x_up_nr e8 (by decide)).trans ((x_cp_in e6 (hm)).trans ((x_cp_nr e5 (by decide)).trans ((x_cp_nr e4 (by decide)).trans ((x_cp_nr e3 (by decide)).trans ((x_cp_nr e2 (by decide)).trans (x_cp_nr e1 (by decide)))))))⟩
theorem kx_71_41_4 {E : q_E} {σ : x_S} {Q : Option q_V → x_S → Prop} (C0 : y_CI σ) (k : ∀ τ, y_CI τ → (∀ c m, ¬ (41 ≤ c ∧ c ≤ 47) → τ c m = σ c m) → y_CP σ 4 τ 41 → Q none τ) : x_P E 71 [x_R 41, x_R 4] σ Q := by
  refine x_Mt e_71 (h_71 E) (Nat.le_of_ble_eq_true rfl) t_71 rfl ?_
  refine x_blk (b := 0) (a_71 E) rfl ?_
  unfold b_71_0
  refine x_aload rfl ?_
  refine x_getR (r := 4) rfl (by decide) (by decide) rfl ?_
  refine x_push 0 rfl ?_
  refine x_aload rfl ?_
  refine x_getR (r := 41) rfl (by decide) (by decide) rfl ?_
  refine x_push 0 rfl ?_
  refine x_push 33 rfl ?_
  refine x_copyG y_a5 y_a42 (by decide) (by decide) C0 (by decide) (y_fr_rf (lo := 0) (hi := 138)) (by omega) (by omega) (by omega) (by omega) (by omega) (Nat.le_of_ble_eq_true rfl) (fun S1 e1 C1 F1 => ?_)
  refine x_aload rfl ?_
  refine x_getR (r := 4) rfl (by decide) (by decide) rfl ?_
  refine x_push 0 rfl ?_
  refine x_aload rfl ?_
  refine x_getR (r := 41) rfl (by decide) (by decide) rfl ?_
  refine x_push 0 rfl ?_
  refine x_push 3 rfl ?_
  refine x_copyG y_a6 y_a43 (by decide) (by decide) C1 (by decide) F1 (by omega) (by omega) (by omega) (by omega) (by omega) (Nat.le_of_ble_eq_true rfl) (fun S2 e2 C2 F2 => ?_)
  refine x_aload rfl ?_
  refine x_getR (r := 4) rfl (by decide) (by decide) rfl ?_
  refine x_push 0 rfl ?_
  refine x_aload rfl ?_
  refine x_getR (r := 41) rfl (by decide) (by decide) rfl ?_
  refine x_push 0 rfl ?_
  refine x_push 2 rfl ?_
  refine x_copyG y_a7 y_a44 (by decide) (by decide) C2 (by decide) F2 (by omega) (by omega) (by omega) (by omega) (by omega) (Nat.le_of_ble_eq_true rfl) (fun S3 e3 C3 F3 => ?_)
  refine x_aload rfl ?_
  refine x_getR (r := 4) rfl (by decide) (by decide) rfl ?_
  refine x_push 0 rfl ?_
  refine x_aload rfl ?_
  refine x_getR (r := 41) rfl (by decide) (by decide) rfl ?_
  refine x_push 0 rfl ?_
  refine x_push 40 rfl ?_
  refine x_copyG y_a8 y_a45 (by decide) (by decide) C3 (by decide) F3 (by omega) (by omega) (by omega) (by omega) (by omega) (Nat.le_of_ble_eq_true rfl) (fun S4 e4 C4 F4 => ?_)
  refine x_aload rfl ?_
  refine x_getR (r := 4) rfl (by decide) (by decide) rfl ?_
  refine x_push 0 rfl ?_
  refine x_aload rfl ?_
  refine x_getR (r := 41) rfl (by decide) (by decide) rfl ?_
  refine x_push 0 rfl ?_
  refine x_push 192 rfl ?_
  refine x_copyG y_a9 y_a46 (by decide) (by decide) C4 (by decide) F4 (by omega) (by omega) (by omega) (by omega) (by omega) (Nat.le_of_ble_eq_true rfl) (fun S5 e5 C5 F5 => ?_)
  refine x_aload rfl ?_
  refine x_getR (r := 4) rfl (by decide) (by decide) rfl ?_
  refine x_push 0 rfl ?_
  refine x_aload rfl ?_
  refine x_getR (r := 41) rfl (by decide) (by decide) rfl ?_
  refine x_push 0 rfl ?_
  refine x_push 90 rfl ?_
  refine x_copyG y_a10 y_a47 (by decide) (by decide) C5 (by decide) F5 (by omega) (by omega) (by omega) (by omega) (by omega) (Nat.le_of_ble_eq_true rfl) (fun S6 e6 C6 F6 => ?_)
  refine x_aload rfl ?_
  refine x_aload rfl ?_
  refine x_fall ?_
  refine x_blk (b := 1) (a_71 E) rfl ?_
  unfold b_71_1
  refine x_getIG y_f4_6 C6 ?_
  have q7_0 : S6 4 6 = S5 4 6 := x_cp_nr e6 (by decide)
  have q7_1 : S5 4 6 = S4 4 6 := x_cp_nr e5 (by decide)
  have q7_2 : S4 4 6 = S3 4 6 := x_cp_nr e4 (by decide)
  have q7_3 : S3 4 6 = S2 4 6 := x_cp_nr e3 (by decide)
  have q7_4 : S2 4 6 = S1 4 6 := x_cp_nr e2 (by decide)
  have q7_5 : S1 4 6 = σ 4 6 := x_cp_nr e1 (by decide)
  simp only [q7_0, q7_1, q7_2, q7_3, q7_4, q7_5]
  intro g7a g7b
  refine x_putIG y_f41_6 ⟨by decide, rfl⟩ (by decide) C6 (by decide) F6 (by omega) (by omega) (fun S8 e8 C8 F8 => ?_)
  refine x_vret ?_
  refine k _ C8 (fun c m hc => (x_up_ne e8 (fun z => hc (by omega))).trans ((x_cp_nr e6 (fun z => hc (by omega))).trans ((x_cp_nr e5 (fun z => hc (by omega))).trans ((x_cp_nr e4 (fun z => hc (by omega))).trans ((x_cp_nr e3 (fun z => hc (by omega))).trans ((x_cp_nr e2 (fun z => hc (by omega))).trans ((x_cp_nr e1 (fun z => hc (by omega))).trans (rfl)))))))) ⟨fun m hm => y_cv_x (fun h => (x_up_nr e8 (by decide)).trans ((x_cp_nr e6 (by decide)).trans ((x_cp_nr e5 (by decide)).trans ((x_cp_nr e4 (by decide)).trans ((x_cp_in e3 (h)).trans ((x_cp_nr e2 (by decide)).trans (x_cp_nr e1 (by decide)))))))) (fun h h' => (x_up_nr e8 (by decide)).trans ((x_cp_nr e6 (by decide)).trans ((x_cp_nr e5 (by decide)).trans ((x_cp_nr e4 (by decide)).trans ((x_cp_nr e3 (by decide)).trans ((x_cp_in e2 (by omega)).trans (x_cp_nr e1 (by decide)))))))) (fun h h' => (x_up_nr e8 (by decide)).trans ((x_cp_nr e6 (by decide)).trans ((x_cp_nr e5 (by decide)).trans ((x_cp_nr e4 (by decide)).trans ((x_cp_nr e3 (by decide)).trans ((x_cp_nr e2 (by decide)).trans (x_cp_in e1 (by omega)))))))) (fun h h' => (x_up_nr e8 (by decide)).trans ((x_cp_nr e6 (by decide)).trans ((x_cp_nr e5 (by decide)).trans ((x_cp_in e4 (y_ce_b (by omega))).trans ((x_cp_nr e3 (by decide)).trans ((x_cp_nr e2 (by decide)).trans (x_cp_nr e1 (by decide)))))))) (fun _ => (x_up_at e8)) (fun h => (x_up_nr e8 (by decide)).trans ((x_cp_nr e6 (by decide)).trans ((x_cp_in e5 (by omega)).trans ((x_cp_nr e4 (by decide)).trans ((x_cp_nr e3 (by decide)).trans ((x_cp_nr e2 (by decide)).trans (x_cp_nr e1 (by decide)))))))), fun m hm => (x_up_nr e8 (by decide)).trans ((x_cp_in e6 (hm)).trans ((x_cp_nr e5 (by decide)).trans ((x_cp_nr e4 (by decide)).trans ((x_cp_nr e3 (by decide)).trans ((x_cp_nr e2 (by decide)).trans (x_cp_nr e1 (by decide)))))))⟩
theorem kx_71_48_4 {E : q_E} {σ : x_S} {Q : Option q_V → x_S → Prop} (C0 : y_CI σ) (k : ∀ τ, y_CI τ → (∀ c m, ¬ (48 ≤ c ∧ c ≤ 54) → τ c m = σ c m) → y_CP σ 4 τ 48 → Q none τ) : x_P E 71 [x_R 48, x_R 4] σ Q := by
  refine x_Mt e_71 (h_71 E) (Nat.le_of_ble_eq_true rfl) t_71 rfl ?_
  refine x_blk (b := 0) (a_71 E) rfl ?_
  unfold b_71_0
  refine x_aload rfl ?_
  refine x_getR (r := 4) rfl (by decide) (by decide) rfl ?_
  refine x_push 0 rfl ?_
  refine x_aload rfl ?_
  refine x_getR (r := 48) rfl (by decide) (by decide) rfl ?_
  refine x_push 0 rfl ?_
  refine x_push 33 rfl ?_
  refine x_copyG y_a5 y_a49 (by decide) (by decide) C0 (by decide) (y_fr_rf (lo := 0) (hi := 138)) (by omega) (by omega) (by omega) (by omega) (by omega) (Nat.le_of_ble_eq_true rfl) (fun S1 e1 C1 F1 => ?_)
  refine x_aload rfl ?_
  refine x_getR (r := 4) rfl (by decide) (by decide) rfl ?_
  refine x_push 0 rfl ?_
  refine x_aload rfl ?_
  refine x_getR (r := 48) rfl (by decide) (by decide) rfl ?_
  refine x_push 0 rfl ?_
  refine x_push 3 rfl ?_
  refine x_copyG y_a6 y_a50 (by decide) (by decide) C1 (by decide) F1 (by omega) (by omega) (by omega) (by omega) (by omega) (Nat.le_of_ble_eq_true rfl) (fun S2 e2 C2 F2 => ?_)
  refine x_aload rfl ?_
  refine x_getR (r := 4) rfl (by decide) (by decide) rfl ?_
  refine x_push 0 rfl ?_
  refine x_aload rfl ?_
  refine x_getR (r := 48) rfl (by decide) (by decide) rfl ?_
  refine x_push 0 rfl ?_
  refine x_push 2 rfl ?_
  refine x_copyG y_a7 y_a51 (by decide) (by decide) C2 (by decide) F2 (by omega) (by omega) (by omega) (by omega) (by omega) (Nat.le_of_ble_eq_true rfl) (fun S3 e3 C3 F3 => ?_)
  refine x_aload rfl ?_
  refine x_getR (r := 4) rfl (by decide) (by decide) rfl ?_
  refine x_push 0 rfl ?_
  refine x_aload rfl ?_
  refine x_getR (r := 48) rfl (by decide) (by decide) rfl ?_
  refine x_push 0 rfl ?_
  refine x_push 40 rfl ?_
  refine x_copyG y_a8 y_a52 (by decide) (by decide) C3 (by decide) F3 (by omega) (by omega) (by omega) (by omega) (by omega) (Nat.le_of_ble_eq_true rfl) (fun S4 e4 C4 F4 => ?_)
  refine x_aload rfl ?_
  refine x_getR (r := 4) rfl (by decide) (by decide) rfl ?_
  refine x_push 0 rfl ?_
  refine x_aload rfl ?_
  refine x_getR (r := 48) rfl (by decide) (by decide) rfl ?_
  refine x_push 0 rfl ?_
  refine x_push 192 rfl ?_
  refine x_copyG y_a9 y_a53 (by decide) (by decide) C4 (by decide) F4 (by omega) (by omega) (by omega) (by omega) (by omega) (Nat.le_of_ble_eq_true rfl) (fun S5 e5 C5 F5 => ?_)
  refine x_aload rfl ?_
  refine x_getR (r := 4) rfl (by decide) (by decide) rfl ?_
  refine x_push 0 rfl ?_
  refine x_aload rfl ?_
  refine x_getR (r := 48) rfl (by decide) (by decide) rfl ?_
  refine x_push 0 rfl ?_
  refine x_push 90 rfl ?_
  refine x_copyG y_a10 y_a54 (by decide) (by decide) C5 (by decide) F5 (by omega) (by omega) (by omega) (by omega) (by omega) (Nat.le_of_ble_eq_true rfl) (fun S6 e6 C6 F6 => ?_)
  refine x_aload rfl ?_
  refine x_aload rfl ?_
  refine x_fall ?_
  refine x_blk (b := 1) (a_71 E) rfl ?_
  unfold b_71_1
  refine x_getIG y_f4_6 C6 ?_
  have q7_0 : S6 4 6 = S5 4 6 := x_cp_nr e6 (by decide)
  have q7_1 : S5 4 6 = S4 4 6 := x_cp_nr e5 (by decide)
  have q7_2 : S4 4 6 = S3 4 6 := x_cp_nr e4 (by decide)
  have q7_3 : S3 4 6 = S2 4 6 := x_cp_nr e3 (by decide)
  have q7_4 : S2 4 6 = S1 4 6 := x_cp_nr e2 (by decide)
  have q7_5 : S1 4 6 = σ 4 6 := x_cp_nr e1 (by decide)
  simp only [q7_0, q7_1, q7_2, q7_3, q7_4, q7_5]
  intro g7a g7b
  refine x_putIG y_f48_6 ⟨by decide, rfl⟩ (by decide) C6 (by decide) F6 (by omega) (by omega) (fun S8 e8 C8 F8 => ?_)
  refine x_vret ?_
  refine k _ C8 (fun c m hc => (x_up_ne e8 (fun z => hc (by omega))).trans ((x_cp_nr e6 (fun z => hc (by omega))).trans ((x_cp_nr e5 (fun z => hc (by omega))).trans ((x_cp_nr e4 (fun z => hc (by omega))).trans ((x_cp_nr e3 (fun z => hc (by omega))).trans ((x_cp_nr e2 (fun z => hc (by omega))).trans ((x_cp_nr e1 (fun z => hc (by omega))).trans (rfl)))))))) ⟨fun m hm => y_cv_x (fun h => (x_up_nr e8 (by decide)).trans ((x_cp_nr e6 (by decide)).trans ((x_cp_nr e5 (by decide)).trans ((x_cp_nr e4 (by decide)).trans ((x_cp_in e3 (h)).trans ((x_cp_nr e2 (by decide)).trans (x_cp_nr e1 (by decide)))))))) (fun h h' => (x_up_nr e8 (by decide)).trans ((x_cp_nr e6 (by decide)).trans ((x_cp_nr e5 (by decide)).trans ((x_cp_nr e4 (by decide)).trans ((x_cp_nr e3 (by decide)).trans ((x_cp_in e2 (by omega)).trans (x_cp_nr e1 (by decide)))))))) (fun h h' => (x_up_nr e8 (by decide)).trans ((x_cp_nr e6 (by decide)).trans ((x_cp_nr e5 (by decide)).trans ((x_cp_nr e4 (by decide)).trans ((x_cp_nr e3 (by decide)).trans ((x_cp_nr e2 (by decide)).trans (x_cp_in e1 (by omega)))))))) (fun h h' => (x_up_nr e8 (by decide)).trans ((x_cp_nr e6 (by decide)).trans ((x_cp_nr e5 (by decide)).trans ((x_cp_in e4 (y_ce_b (by omega))).trans ((x_cp_nr e3 (by decide)).trans ((x_cp_nr e2 (by decide)).trans (x_cp_nr e1 (by decide)))))))) (fun _ => (x_up_at e8)) (fun h => (x_up_nr e8 (by decide)).trans ((x_cp_nr e6 (by decide)).trans ((x_cp_in e5 (by omega)).trans ((x_cp_nr e4 (by decide)).trans ((x_cp_nr e3 (by decide)).trans ((x_cp_nr e2 (by decide)).trans (x_cp_nr e1 (by decide)))))))), fun m hm => (x_up_nr e8 (by decide)).trans ((x_cp_in e6 (hm)).trans ((x_cp_nr e5 (by decide)).trans ((x_cp_nr e4 (by decide)).trans ((x_cp_nr e3 (by decide)).trans ((x_cp_nr e2 (by decide)).trans (x_cp_nr e1 (by decide)))))))⟩
theorem kx_71_55_4 {E : q_E} {σ : x_S} {Q : Option q_V → x_S → Prop} (C0 : y_CI σ) (k : ∀ τ, y_CI τ → (∀ c m, ¬ (55 ≤ c ∧ c ≤ 61) → τ c m = σ c m) → y_CP σ 4 τ 55 → Q none τ) : x_P E 71 [x_R 55, x_R 4] σ Q := by
  refine x_Mt e_71 (h_71 E) (Nat.le_of_ble_eq_true rfl) t_71 rfl ?_
  refine x_blk (b := 0) (a_71 E) rfl ?_
  unfold b_71_0
  refine x_aload rfl ?_
  refine x_getR (r := 4) rfl (by decide) (by decide) rfl ?_
  refine x_push 0 rfl ?_
  refine x_aload rfl ?_
  refine x_getR (r := 55) rfl (by decide) (by decide) rfl ?_
  refine x_push 0 rfl ?_
  refine x_push 33 rfl ?_
  refine x_copyG y_a5 y_a56 (by decide) (by decide) C0 (by decide) (y_fr_rf (lo := 0) (hi := 138)) (by omega) (by omega) (by omega) (by omega) (by omega) (Nat.le_of_ble_eq_true rfl) (fun S1 e1 C1 F1 => ?_)
  refine x_aload rfl ?_
  refine x_getR (r := 4) rfl (by decide) (by decide) rfl ?_
  refine x_push 0 rfl ?_
  refine x_aload rfl ?_
  refine x_getR (r := 55) rfl (by decide) (by decide) rfl ?_
  refine x_push 0 rfl ?_
  refine x_push 3 rfl ?_
  refine x_copyG y_a6 y_a57 (by decide) (by decide) C1 (by decide) F1 (by omega) (by omega) (by omega) (by omega) (by omega) (Nat.le_of_ble_eq_true rfl) (fun S2 e2 C2 F2 => ?_)
  refine x_aload rfl ?_
  refine x_getR (r := 4) rfl (by decide) (by decide) rfl ?_
  refine x_push 0 rfl ?_
  refine x_aload rfl ?_
  refine x_getR (r := 55) rfl (by decide) (by decide) rfl ?_
  refine x_push 0 rfl ?_
  refine x_push 2 rfl ?_
  refine x_copyG y_a7 y_a58 (by decide) (by decide) C2 (by decide) F2 (by omega) (by omega) (by omega) (by omega) (by omega) (Nat.le_of_ble_eq_true rfl) (fun S3 e3 C3 F3 => ?_)
  refine x_aload rfl ?_
  refine x_getR (r := 4) rfl (by decide) (by decide) rfl ?_
  refine x_push 0 rfl ?_
  refine x_aload rfl ?_
  refine x_getR (r := 55) rfl (by decide) (by decide) rfl ?_
  refine x_push 0 rfl ?_
  refine x_push 40 rfl ?_
  refine x_copyG y_a8 y_a59 (by decide) (by decide) C3 (by decide) F3 (by omega) (by omega) (by omega) (by omega) (by omega) (Nat.le_of_ble_eq_true rfl) (fun S4 e4 C4 F4 => ?_)
  refine x_aload rfl ?_
  refine x_getR (r := 4) rfl (by decide) (by decide) rfl ?_
  refine x_push 0 rfl ?_
  refine x_aload rfl ?_
  refine x_getR (r := 55) rfl (by decide) (by decide) rfl ?_
  refine x_push 0 rfl ?_
  refine x_push 192 rfl ?_
  refine x_copyG y_a9 y_a60 (by decide) (by decide) C4 (by decide) F4 (by omega) (by omega) (by omega) (by omega) (by omega) (Nat.le_of_ble_eq_true rfl) (fun S5 e5 C5 F5 => ?_)
  refine x_aload rfl ?_
  refine x_getR (r := 4) rfl (by decide) (by decide) rfl ?_
  refine x_push 0 rfl ?_
  refine x_aload rfl ?_
  refine x_getR (r := 55) rfl (by decide) (by decide) rfl ?_
  refine x_push 0 rfl ?_
  refine x_push 90 rfl ?_
  refine x_copyG y_a10 y_a61 (by decide) (by decide) C5 (by decide) F5 (by omega) (by omega) (by omega) (by omega) (by omega) (Nat.le_of_ble_eq_true rfl) (fun S6 e6 C6 F6 => ?_)
  refine x_aload rfl ?_
  refine x_aload rfl ?_
  refine x_fall ?_
  refine x_blk (b := 1) (a_71 E) rfl ?_
  unfold b_71_1
  refine x_getIG y_f4_6 C6 ?_
  have q7_0 : S6 4 6 = S5 4 6 := x_cp_nr e6 (by decide)
  have q7_1 : S5 4 6 = S4 4 6 := x_cp_nr e5 (by decide)
  have q7_2 : S4 4 6 = S3 4 6 := x_cp_nr e4 (by decide)
  have q7_3 : S3 4 6 = S2 4 6 := x_cp_nr e3 (by decide)
  have q7_4 : S2 4 6 = S1 4 6 := x_cp_nr e2 (by decide)
  have q7_5 : S1 4 6 = σ 4 6 := x_cp_nr e1 (by decide)
  simp only [q7_0, q7_1, q7_2, q7_3, q7_4, q7_5]
  intro g7a g7b
  refine x_putIG y_f55_6 ⟨by decide, rfl⟩ (by decide) C6 (by decide) F6 (by omega) (by omega) (fun S8 e8 C8 F8 => ?_)
  refine x_vret ?_
  refine k _ C8 (fun c m hc => (x_up_ne e8 (fun z => hc (by omega))).trans ((x_cp_nr e6 (fun z => hc (by omega))).trans ((x_cp_nr e5 (fun z => hc (by omega))).trans ((x_cp_nr e4 (fun z => hc (by omega))).trans ((x_cp_nr e3 (fun z => hc (by omega))).trans ((x_cp_nr e2 (fun z => hc (by omega))).trans ((x_cp_nr e1 (fun z => hc (by omega))).trans (rfl)))))))) ⟨fun m hm => y_cv_x (fun h => (x_up_nr e8 (by decide)).trans ((x_cp_nr e6 (by decide)).trans ((x_cp_nr e5 (by decide)).trans ((x_cp_nr e4 (by decide)).trans ((x_cp_in e3 (h)).trans ((x_cp_nr e2 (by decide)).trans (x_cp_nr e1 (by decide)))))))) (fun h h' => (x_up_nr e8 (by decide)).trans ((x_cp_nr e6 (by decide)).trans ((x_cp_nr e5 (by decide)).trans ((x_cp_nr e4 (by decide)).trans ((x_cp_nr e3 (by decide)).trans ((x_cp_in e2 (by omega)).trans (x_cp_nr e1 (by decide)))))))) (fun h h' => (x_up_nr e8 (by decide)).trans ((x_cp_nr e6 (by decide)).trans ((x_cp_nr e5 (by decide)).trans ((x_cp_nr e4 (by decide)).trans ((x_cp_nr e3 (by decide)).trans ((x_cp_nr e2 (by decide)).trans (x_cp_in e1 (by omega)))))))) (fun h h' => (x_up_nr e8 (by decide)).trans ((x_cp_nr e6 (by decide)).trans ((x_cp_nr e5 (by decide)).trans ((x_cp_in e4 (y_ce_b (by omega))).trans ((x_cp_nr e3 (by decide)).trans ((x_cp_nr e2 (by decide)).trans (x_cp_nr e1 (by decide)))))))) (fun _ => (x_up_at e8)) (fun h => (x_up_nr e8 (by decide)).trans ((x_cp_nr e6 (by decide)).trans ((x_cp_in e5 (by omega)).trans ((x_cp_nr e4 (by decide)).trans ((x_cp_nr e3 (by decide)).trans ((x_cp_nr e2 (by decide)).trans (x_cp_nr e1 (by decide)))))))), fun m hm => (x_up_nr e8 (by decide)).trans ((x_cp_in e6 (hm)).trans ((x_cp_nr e5 (by decide)).trans ((x_cp_nr e4 (by decide)).trans ((x_cp_nr e3 (by decide)).trans ((x_cp_nr e2 (by decide)).trans (x_cp_nr e1 (by decide)))))))⟩
theorem kx_71_62_4 {E : q_E} {σ : x_S} {Q : Option q_V → x_S → Prop} (C0 : y_CI σ) (k : ∀ τ, y_CI τ → (∀ c m, ¬ (62 ≤ c ∧ c ≤ 68) → τ c m = σ c m) → y_CP σ 4 τ 62 → Q none τ) : x_P E 71 [x_R 62, x_R 4] σ Q := by
  refine x_Mt e_71 (h_71 E) (Nat.le_of_ble_eq_true rfl) t_71 rfl ?_
  refine x_blk (b := 0) (a_71 E) rfl ?_
  unfold b_71_0
  refine x_aload rfl ?_
  refine x_getR (r := 4) rfl (by decide) (by decide) rfl ?_
  refine x_push 0 rfl ?_
  refine x_aload rfl ?_
  refine x_getR (r := 62) rfl (by decide) (by decide) rfl ?_
  refine x_push 0 rfl ?_
  refine x_push 33 rfl ?_
  refine x_copyG y_a5 y_a63 (by decide) (by decide) C0 (by decide) (y_fr_rf (lo := 0) (hi := 138)) (by omega) (by omega) (by omega) (by omega) (by omega) (Nat.le_of_ble_eq_true rfl) (fun S1 e1 C1 F1 => ?_)
  refine x_aload rfl ?_
  refine x_getR (r := 4) rfl (by decide) (by decide) rfl ?_
  refine x_push 0 rfl ?_
  refine x_aload rfl ?_
  refine x_getR (r := 62) rfl (by decide) (by decide) rfl ?_
  refine x_push 0 rfl ?_
  refine x_push 3 rfl ?_
  refine x_copyG y_a6 y_a64 (by decide) (by decide) C1 (by decide) F1 (by omega) (by omega) (by omega) (by omega) (by omega) (Nat.le_of_ble_eq_true rfl) (fun S2 e2 C2 F2 => ?_)
  refine x_aload rfl ?_
  refine x_getR (r := 4) rfl (by decide) (by decide) rfl ?_
  refine x_push 0 rfl ?_
  refine x_aload rfl ?_
  refine x_getR (r := 62) rfl (by decide) (by decide) rfl ?_
  refine x_push 0 rfl ?_
  refine x_push 2 rfl ?_
  refine x_copyG y_a7 y_a65 (by decide) (by decide) C2 (by decide) F2 (by omega) (by omega) (by omega) (by omega) (by omega) (Nat.le_of_ble_eq_true rfl) (fun S3 e3 C3 F3 => ?_)
  refine x_aload rfl ?_
  refine x_getR (r := 4) rfl (by decide) (by decide) rfl ?_
  refine x_push 0 rfl ?_
  refine x_aload rfl ?_
  refine x_getR (r := 62) rfl (by decide) (by decide) rfl ?_
  refine x_push 0 rfl ?_
  refine x_push 40 rfl ?_
  refine x_copyG y_a8 y_a66 (by decide) (by decide) C3 (by decide) F3 (by omega) (by omega) (by omega) (by omega) (by omega) (Nat.le_of_ble_eq_true rfl) (fun S4 e4 C4 F4 => ?_)
  refine x_aload rfl ?_
  refine x_getR (r := 4) rfl (by decide) (by decide) rfl ?_
  refine x_push 0 rfl ?_
  refine x_aload rfl ?_
  refine x_getR (r := 62) rfl (by decide) (by decide) rfl ?_
  refine x_push 0 rfl ?_
  refine x_push 192 rfl ?_
  refine x_copyG y_a9 y_a67 (by decide) (by decide) C4 (by decide) F4 (by omega) (by omega) (by omega) (by omega) (by omega) (Nat.le_of_ble_eq_true rfl) (fun S5 e5 C5 F5 => ?_)
  refine x_aload rfl ?_
  refine x_getR (r := 4) rfl (by decide) (by decide) rfl ?_
  refine x_push 0 rfl ?_
  refine x_aload rfl ?_
  refine x_getR (r := 62) rfl (by decide) (by decide) rfl ?_
  refine x_push 0 rfl ?_
  refine x_push 90 rfl ?_
  refine x_copyG y_a10 y_a68 (by decide) (by decide) C5 (by decide) F5 (by omega) (by omega) (by omega) (by omega) (by omega) (Nat.le_of_ble_eq_true rfl) (fun S6 e6 C6 F6 => ?_)
  refine x_aload rfl ?_
  refine x_aload rfl ?_
  refine x_fall ?_
  refine x_blk (b := 1) (a_71 E) rfl ?_
  unfold b_71_1
  refine x_getIG y_f4_6 C6 ?_
  have q7_0 : S6 4 6 = S5 4 6 := x_cp_nr e6 (by decide)
  have q7_1 : S5 4 6 = S4 4 6 := x_cp_nr e5 (by decide)
  have q7_2 : S4 4 6 = S3 4 6 := x_cp_nr e4 (by decide)
  have q7_3 : S3 4 6 = S2 4 6 := x_cp_nr e3 (by decide)
  have q7_4 : S2 4 6 = S1 4 6 := x_cp_nr e2 (by decide)
  have q7_5 : S1 4 6 = σ 4 6 := x_cp_nr e1 (by decide)
  simp only [q7_0, q7_1, q7_2, q7_3, q7_4, q7_5]
  intro g7a g7b
  refine x_putIG y_f62_6 ⟨by decide, rfl⟩ (by decide) C6 (by decide) F6 (by omega) (by omega) (fun S8 e8 C8 F8 => ?_)
  refine x_vret ?_
  refine k _ C8 (fun c m hc => (x_up_ne e8 (fun z => hc (by omega))).trans ((x_cp_nr e6 (fun z => hc (by omega))).trans ((x_cp_nr e5 (fun z => hc (by omega))).trans ((x_cp_nr e4 (fun z => hc (by omega))).trans ((x_cp_nr e3 (fun z => hc (by omega))).trans ((x_cp_nr e2 (fun z => hc (by omega))).trans ((x_cp_nr e1 (fun z => hc (by omega))).trans (rfl)))))))) ⟨fun m hm => y_cv_x (fun h => (x_up_nr e8 (by decide)).trans ((x_cp_nr e6 (by decide)).trans ((x_cp_nr e5 (by decide)).trans ((x_cp_nr e4 (by decide)).trans ((x_cp_in e3 (h)).trans ((x_cp_nr e2 (by decide)).trans (x_cp_nr e1 (by decide)))))))) (fun h h' => (x_up_nr e8 (by decide)).trans ((x_cp_nr e6 (by decide)).trans ((x_cp_nr e5 (by decide)).trans ((x_cp_nr e4 (by decide)).trans ((x_cp_nr e3 (by decide)).trans ((x_cp_in e2 (by omega)).trans (x_cp_nr e1 (by decide)))))))) (fun h h' => (x_up_nr e8 (by decide)).trans ((x_cp_nr e6 (by decide)).trans ((x_cp_nr e5 (by decide)).trans ((x_cp_nr e4 (by decide)).trans ((x_cp_nr e3 (by decide)).trans ((x_cp_nr e2 (by decide)).trans (x_cp_in e1 (by omega)))))))) (fun h h' => (x_up_nr e8 (by decide)).trans ((x_cp_nr e6 (by decide)).trans ((x_cp_nr e5 (by decide)).trans ((x_cp_in e4 (y_ce_b (by omega))).trans ((x_cp_nr e3 (by decide)).trans ((x_cp_nr e2 (by decide)).trans (x_cp_nr e1 (by decide)))))))) (fun _ => (x_up_at e8)) (fun h => (x_up_nr e8 (by decide)).trans ((x_cp_nr e6 (by decide)).trans ((x_cp_in e5 (by omega)).trans ((x_cp_nr e4 (by decide)).trans ((x_cp_nr e3 (by decide)).trans ((x_cp_nr e2 (by decide)).trans (x_cp_nr e1 (by decide)))))))), fun m hm => (x_up_nr e8 (by decide)).trans ((x_cp_in e6 (hm)).trans ((x_cp_nr e5 (by decide)).trans ((x_cp_nr e4 (by decide)).trans ((x_cp_nr e3 (by decide)).trans ((x_cp_nr e2 (by decide)).trans (x_cp_nr e1 (by decide)))))))⟩
theorem kx_71_69_4 {E : q_E} {σ : x_S} {Q : Option q_V → x_S → Prop} (C0 : y_CI σ) (k : ∀ τ, y_CI τ → (∀ c m, ¬ (69 ≤ c ∧ c ≤ 75) → τ c m = σ c m) → y_CP σ 4 τ 69 → Q none τ) : x_P E 71 [x_R 69, x_R 4] σ Q := by
  refine x_Mt e_71 (h_71 E) (Nat.le_of_ble_eq_true rfl) t_71 rfl ?_
  refine x_blk (b := 0) (a_71 E) rfl ?_
  unfold b_71_0
  refine x_aload rfl ?_
  refine x_getR (r := 4) rfl (by decide) (by decide) rfl ?_
  refine x_push 0 rfl ?_
  refine x_aload rfl ?_
  refine x_getR (r := 69) rfl (by decide) (by decide) rfl ?_
  refine x_push 0 rfl ?_
  refine x_push 33 rfl ?_
  refine x_copyG y_a5 y_a70 (by decide) (by decide) C0 (by decide) (y_fr_rf (lo := 0) (hi := 138)) (by omega) (by omega) (by omega) (by omega) (by omega) (Nat.le_of_ble_eq_true rfl) (fun S1 e1 C1 F1 => ?_)
  refine x_aload rfl ?_
  refine x_getR (r := 4) rfl (by decide) (by decide) rfl ?_
  refine x_push 0 rfl ?_
  refine x_aload rfl ?_
  refine x_getR (r := 69) rfl (by decide) (by decide) rfl ?_
  refine x_push 0 rfl ?_
  refine x_push 3 rfl ?_
  refine x_copyG y_a6 y_a71 (by decide) (by decide) C1 (by decide) F1 (by omega) (by omega) (by omega) (by omega) (by omega) (Nat.le_of_ble_eq_true rfl) (fun S2 e2 C2 F2 => ?_)
  refine x_aload rfl ?_
  refine x_getR (r := 4) rfl (by decide) (by decide) rfl ?_
  refine x_push 0 rfl ?_
  refine x_aload rfl ?_
  refine x_getR (r := 69) rfl (by decide) (by decide) rfl ?_
  refine x_push 0 rfl ?_
  refine x_push 2 rfl ?_
  refine x_copyG y_a7 y_a72 (by decide) (by decide) C2 (by decide) F2 (by omega) (by omega) (by omega) (by omega) (by omega) (Nat.le_of_ble_eq_true rfl) (fun S3 e3 C3 F3 => ?_)
  refine x_aload rfl ?_
  refine x_getR (r := 4) rfl (by decide) (by decide) rfl ?_
  refine x_push 0 rfl ?_
  refine x_aload rfl ?_
  refine x_getR (r := 69) rfl (by decide) (by decide) rfl ?_
  refine x_push 0 rfl ?_
  refine x_push 40 rfl ?_
  refine x_copyG y_a8 y_a73 (by decide) (by decide) C3 (by decide) F3 (by omega) (by omega) (by omega) (by omega) (by omega) (Nat.le_of_ble_eq_true rfl) (fun S4 e4 C4 F4 => ?_)
  refine x_aload rfl ?_
  refine x_getR (r := 4) rfl (by decide) (by decide) rfl ?_
  refine x_push 0 rfl ?_
  refine x_aload rfl ?_
  refine x_getR (r := 69) rfl (by decide) (by decide) rfl ?_
  refine x_push 0 rfl ?_
  refine x_push 192 rfl ?_
  refine x_copyG y_a9 y_a74 (by decide) (by decide) C4 (by decide) F4 (by omega) (by omega) (by omega) (by omega) (by omega) (Nat.le_of_ble_eq_true rfl) (fun S5 e5 C5 F5 => ?_)
  refine x_aload rfl ?_
  refine x_getR (r := 4) rfl (by decide) (by decide) rfl ?_
  refine x_push 0 rfl ?_
  refine x_aload rfl ?_
  refine x_getR (r := 69) rfl (by decide) (by decide) rfl ?_
  refine x_push 0 rfl ?_
  refine x_push 90 rfl ?_
  refine x_copyG y_a10 y_a75 (by decide) (by decide) C5 (by decide) F5 (by omega) (by omega) (by omega) (by omega) (by omega) (Nat.le_of_ble_eq_true rfl) (fun S6 e6 C6 F6 => ?_)
  refine x_aload rfl ?_
  refine x_aload rfl ?_
  refine x_fall ?_
  refine x_blk (b := 1) (a_71 E) rfl ?_
  unfold b_71_1
  refine x_getIG y_f4_6 C6 ?_
  have q7_0 : S6 4 6 = S5 4 6 := x_cp_nr e6 (by decide)
  have q7_1 : S5 4 6 = S4 4 6 := x_cp_nr e5 (by decide)
  have q7_2 : S4 4 6 = S3 4 6 := x_cp_nr e4 (by decide)
  have q7_3 : S3 4 6 = S2 4 6 := x_cp_nr e3 (by decide)
  have q7_4 : S2 4 6 = S1 4 6 := x_cp_nr e2 (by decide)
  have q7_5 : S1 4 6 = σ 4 6 := x_cp_nr e1 (by decide)
  simp only [q7_0, q7_1, q7_2, q7_3, q7_4, q7_5]
  intro g7a g7b
  refine x_putIG y_f69_6 ⟨by decide, rfl⟩ (by decide) C6 (by decide) F6 (by omega) (by omega) (fun S8 e8 C8 F8 => ?_)
  refine x_vret ?_
  refine k _ C8 (fun c m hc => (x_up_ne e8 (fun z => hc (by omega))).trans ((x_cp_nr e6 (fun z => hc (by omega))).trans ((x_cp_nr e5 (fun z => hc (by omega))).trans ((x_cp_nr e4 (fun z => hc (by omega))).trans ((x_cp_nr e3 (fun z => hc (by omega))).trans ((x_cp_nr e2 (fun z => hc (by omega))).trans ((x_cp_nr e1 (fun z => hc (by omega))).trans (rfl)))))))) ⟨fun m hm => y_cv_x (fun h => (x_up_nr e8 (by decide)).trans ((x_cp_nr e6 (by decide)).trans ((x_cp_nr e5 (by decide)).trans ((x_cp_nr e4 (by decide)).trans ((x_cp_in e3 (h)).trans ((x_cp_nr e2 (by decide)).trans (x_cp_nr e1 (by decide)))))))) (fun h h' => (x_up_nr e8 (by decide)).trans ((x_cp_nr e6 (by decide)).trans ((x_cp_nr e5 (by decide)).trans ((x_cp_nr e4 (by decide)).trans ((x_cp_nr e3 (by decide)).trans ((x_cp_in e2 (by omega)).trans (x_cp_nr e1 (by decide)))))))) (fun h h' => (x_up_nr e8 (by decide)).trans ((x_cp_nr e6 (by decide)).trans ((x_cp_nr e5 (by decide)).trans ((x_cp_nr e4 (by decide)).trans ((x_cp_nr e3 (by decide)).trans ((x_cp_nr e2 (by decide)).trans (x_cp_in e1 (by omega)))))))) (fun h h' => (x_up_nr e8 (by decide)).trans ((x_cp_nr e6 (by decide)).trans ((x_cp_nr e5 (by decide)).trans ((x_cp_in e4 (y_ce_b (by omega))).trans ((x_cp_nr e3 (by decide)).trans ((x_cp_nr e2 (by decide)).trans (x_cp_nr e1 (by decide)))))))) (fun _ => (x_up_at e8)) (fun h => (x_up_nr e8 (by decide)).trans ((x_cp_nr e6 (by decide)).trans ((x_cp_in e5 (by omega)).trans ((x_cp_nr e4 (by decide)).trans ((x_cp_nr e3 (by decide)).trans ((x_cp_nr e2 (by decide)).trans (x_cp_nr e1 (by decide)))))))), fun m hm => (x_up_nr e8 (by decide)).trans ((x_cp_in e6 (hm)).trans ((x_cp_nr e5 (by decide)).trans ((x_cp_nr e4 (by decide)).trans ((x_cp_nr e3 (by decide)).trans ((x_cp_nr e2 (by decide)).trans (x_cp_nr e1 (by decide)))))))⟩
theorem kx_71_78_4 {E : q_E} {σ : x_S} {Q : Option q_V → x_S → Prop} (C0 : y_CI σ) (k : ∀ τ, y_CI τ → (∀ c m, ¬ (78 ≤ c ∧ c ≤ 84) → τ c m = σ c m) → y_CP σ 4 τ 78 → Q none τ) : x_P E 71 [x_R 78, x_R 4] σ Q := by
  refine x_Mt e_71 (h_71 E) (Nat.le_of_ble_eq_true rfl) t_71 rfl ?_
  refine x_blk (b := 0) (a_71 E) rfl ?_
  unfold b_71_0
  refine x_aload rfl ?_
  refine x_getR (r := 4) rfl (by decide) (by decide) rfl ?_
  refine x_push 0 rfl ?_
  refine x_aload rfl ?_
  refine x_getR (r := 78) rfl (by decide) (by decide) rfl ?_
  refine x_push 0 rfl ?_
  refine x_push 33 rfl ?_
  refine x_copyG y_a5 y_a79 (by decide) (by decide) C0 (by decide) (y_fr_rf (lo := 0) (hi := 138)) (by omega) (by omega) (by omega) (by omega) (by omega) (Nat.le_of_ble_eq_true rfl) (fun S1 e1 C1 F1 => ?_)
  refine x_aload rfl ?_
  refine x_getR (r := 4) rfl (by decide) (by decide) rfl ?_
  refine x_push 0 rfl ?_
  refine x_aload rfl ?_
  refine x_getR (r := 78) rfl (by decide) (by decide) rfl ?_
  refine x_push 0 rfl ?_
  refine x_push 3 rfl ?_
  refine x_copyG y_a6 y_a80 (by decide) (by decide) C1 (by decide) F1 (by omega) (by omega) (by omega) (by omega) (by omega) (Nat.le_of_ble_eq_true rfl) (fun S2 e2 C2 F2 => ?_)
  refine x_aload rfl ?_
  refine x_getR (r := 4) rfl (by decide) (by decide) rfl ?_
  refine x_push 0 rfl ?_
  refine x_aload rfl ?_
  refine x_getR (r := 78) rfl (by decide) (by decide) rfl ?_
  refine x_push 0 rfl ?_
  refine x_push 2 rfl ?_
  refine x_copyG y_a7 y_a81 (by decide) (by decide) C2 (by decide) F2 (by omega) (by omega) (by omega) (by omega) (by omega) (Nat.le_of_ble_eq_true rfl) (fun S3 e3 C3 F3 => ?_)
  refine x_aload rfl ?_
  refine x_getR (r := 4) rfl (by decide) (by decide) rfl ?_
  refine x_push 0 rfl ?_
  refine x_aload rfl ?_
  refine x_getR (r := 78) rfl (by decide) (by decide) rfl ?_
  refine x_push 0 rfl ?_
  refine x_push 40 rfl ?_
  refine x_copyG y_a8 y_a82 (by decide) (by decide) C3 (by decide) F3 (by omega) (by omega) (by omega) (by omega) (by omega) (Nat.le_of_ble_eq_true rfl) (fun S4 e4 C4 F4 => ?_)
  refine x_aload rfl ?_
  refine x_getR (r := 4) rfl (by decide) (by decide) rfl ?_
  refine x_push 0 rfl ?_
  refine x_aload rfl ?_
  refine x_getR (r := 78) rfl (by decide) (by decide) rfl ?_
  refine x_push 0 rfl ?_
  refine x_push 192 rfl ?_
  refine x_copyG y_a9 y_a83 (by decide) (by decide) C4 (by decide) F4 (by omega) (by omega) (by omega) (by omega) (by omega) (Nat.le_of_ble_eq_true rfl) (fun S5 e5 C5 F5 => ?_)
  refine x_aload rfl ?_
  refine x_getR (r := 4) rfl (by decide) (by decide) rfl ?_
  refine x_push 0 rfl ?_
  refine x_aload rfl ?_
  refine x_getR (r := 78) rfl (by decide) (by decide) rfl ?_
  refine x_push 0 rfl ?_
  refine x_push 90 rfl ?_
  refine x_copyG y_a10 y_a84 (by decide) (by decide) C5 (by decide) F5 (by omega) (by omega) (by omega) (by omega) (by omega) (Nat.le_of_ble_eq_true rfl) (fun S6 e6 C6 F6 => ?_)
  refine x_aload rfl ?_
  refine x_aload rfl ?_
  refine x_fall ?_
  refine x_blk (b := 1) (a_71 E) rfl ?_
  unfold b_71_1
  refine x_getIG y_f4_6 C6 ?_
  have q7_0 : S6 4 6 = S5 4 6 := x_cp_nr e6 (by decide)
  have q7_1 : S5 4 6 = S4 4 6 := x_cp_nr e5 (by decide)
  have q7_2 : S4 4 6 = S3 4 6 := x_cp_nr e4 (by decide)
  have q7_3 : S3 4 6 = S2 4 6 := x_cp_nr e3 (by decide)
  have q7_4 : S2 4 6 = S1 4 6 := x_cp_nr e2 (by decide)
  have q7_5 : S1 4 6 = σ 4 6 := x_cp_nr e1 (by decide)
  simp only [q7_0, q7_1, q7_2, q7_3, q7_4, q7_5]
  intro g7a g7b
  refine x_putIG y_f78_6 ⟨by decide, rfl⟩ (by decide) C6 (by decide) F6 (by omega) (by omega) (fun S8 e8 C8 F8 => ?_)
  refine x_vret ?_
  refine k _ C8 (fun c m hc => (x_up_ne e8 (fun z => hc (by omega))).trans ((x_cp_nr e6 (fun z => hc (by omega))).trans ((x_cp_nr e5 (fun z => hc (by omega))).trans ((x_cp_nr e4 (fun z => hc (by omega))).trans ((x_cp_nr e3 (fun z => hc (by omega))).trans ((x_cp_nr e2 (fun z => hc (by omega))).trans ((x_cp_nr e1 (fun z => hc (by omega))).trans (rfl)))))))) ⟨fun m hm => y_cv_x (fun h => (x_up_nr e8 (by decide)).trans ((x_cp_nr e6 (by decide)).trans ((x_cp_nr e5 (by decide)).trans ((x_cp_nr e4 (by decide)).trans ((x_cp_in e3 (h)).trans ((x_cp_nr e2 (by decide)).trans (x_cp_nr e1 (by decide)))))))) (fun h h' => (x_up_nr e8 (by decide)).trans ((x_cp_nr e6 (by decide)).trans ((x_cp_nr e5 (by decide)).trans ((x_cp_nr e4 (by decide)).trans ((x_cp_nr e3 (by decide)).trans ((x_cp_in e2 (by omega)).trans (x_cp_nr e1 (by decide)))))))) (fun h h' => (x_up_nr e8 (by decide)).trans ((x_cp_nr e6 (by decide)).trans ((x_cp_nr e5 (by decide)).trans ((x_cp_nr e4 (by decide)).trans ((x_cp_nr e3 (by decide)).trans ((x_cp_nr e2 (by decide)).trans (x_cp_in e1 (by omega)))))))) (fun h h' => (x_up_nr e8 (by decide)).trans ((x_cp_nr e6 (by decide)).trans ((x_cp_nr e5 (by decide)).trans ((x_cp_in e4 (y_ce_b (by omega))).trans ((x_cp_nr e3 (by decide)).trans ((x_cp_nr e2 (by decide)).trans (x_cp_nr e1 (by decide)))))))) (fun _ => (x_up_at e8)) (fun h => (x_up_nr e8 (by decide)).trans ((x_cp_nr e6 (by decide)).trans ((x_cp_in e5 (by omega)).trans ((x_cp_nr e4 (by decide)).trans ((x_cp_nr e3 (by decide)).trans ((x_cp_nr e2 (by decide)).trans (x_cp_nr e1 (by decide)))))))), fun m hm => (x_up_nr e8 (by decide)).trans ((x_cp_in e6 (hm)).trans ((x_cp_nr e5 (by decide)).trans ((x_cp_nr e4 (by decide)).trans ((x_cp_nr e3 (by decide)).trans ((x_cp_nr e2 (by decide)).trans (x_cp_nr e1 (by decide)))))))⟩
theorem kx_71_85_4 {E : q_E} {σ : x_S} {Q : Option q_V → x_S → Prop} (C0 : y_CI σ) (k : ∀ τ, y_CI τ → (∀ c m, ¬ (85 ≤ c ∧ c ≤ 91) → τ c m = σ c m) → y_CP σ 4 τ 85 → Q none τ) : x_P E 71 [x_R 85, x_R 4] σ Q := by
  refine x_Mt e_71 (h_71 E) (Nat.le_of_ble_eq_true rfl) t_71 rfl ?_
  refine x_blk (b := 0) (a_71 E) rfl ?_
  unfold b_71_0
  refine x_aload rfl ?_
  refine x_getR (r := 4) rfl (by decide) (by decide) rfl ?_
  refine x_push 0 rfl ?_
  refine x_aload rfl ?_
  refine x_getR (r := 85) rfl (by decide) (by decide) rfl ?_
  refine x_push 0 rfl ?_
  refine x_push 33 rfl ?_
  refine x_copyG y_a5 y_a86 (by decide) (by decide) C0 (by decide) (y_fr_rf (lo := 0) (hi := 138)) (by omega) (by omega) (by omega) (by omega) (by omega) (Nat.le_of_ble_eq_true rfl) (fun S1 e1 C1 F1 => ?_)
  refine x_aload rfl ?_
  refine x_getR (r := 4) rfl (by decide) (by decide) rfl ?_
  refine x_push 0 rfl ?_
  refine x_aload rfl ?_
  refine x_getR (r := 85) rfl (by decide) (by decide) rfl ?_
  refine x_push 0 rfl ?_
  refine x_push 3 rfl ?_
  refine x_copyG y_a6 y_a87 (by decide) (by decide) C1 (by decide) F1 (by omega) (by omega) (by omega) (by omega) (by omega) (Nat.le_of_ble_eq_true rfl) (fun S2 e2 C2 F2 => ?_)
  refine x_aload rfl ?_
  refine x_getR (r := 4) rfl (by decide) (by decide) rfl ?_
  refine x_push 0 rfl ?_
  refine x_aload rfl ?_
  refine x_getR (r := 85) rfl (by decide) (by decide) rfl ?_
  refine x_push 0 rfl ?_
  refine x_push 2 rfl ?_
  refine x_copyG y_a7 y_a88 (by decide) (by decide) C2 (by decide) F2 (by omega) (by omega) (by omega) (by omega) (by omega) (Nat.le_of_ble_eq_true rfl) (fun S3 e3 C3 F3 => ?_)
  refine x_aload rfl ?_
  refine x_getR (r := 4) rfl (by decide) (by decide) rfl ?_
  refine x_push 0 rfl ?_
  refine x_aload rfl ?_
  refine x_getR (r := 85) rfl (by decide) (by decide) rfl ?_
  refine x_push 0 rfl ?_
  refine x_push 40 rfl ?_
  refine x_copyG y_a8 y_a89 (by decide) (by decide) C3 (by decide) F3 (by omega) (by omega) (by omega) (by omega) (by omega) (Nat.le_of_ble_eq_true rfl) (fun S4 e4 C4 F4 => ?_)
  refine x_aload rfl ?_
  refine x_getR (r := 4) rfl (by decide) (by decide) rfl ?_
  refine x_push 0 rfl ?_
  refine x_aload rfl ?_
  refine x_getR (r := 85) rfl (by decide) (by decide) rfl ?_
  refine x_push 0 rfl ?_
  refine x_push 192 rfl ?_
  refine x_copyG y_a9 y_a90 (by decide) (by decide) C4 (by decide) F4 (by omega) (by omega) (by omega) (by omega) (by omega) (Nat.le_of_ble_eq_true rfl) (fun S5 e5 C5 F5 => ?_)
  refine x_aload rfl ?_
  refine x_getR (r := 4) rfl (by decide) (by decide) rfl ?_
  refine x_push 0 rfl ?_
  refine x_aload rfl ?_
  refine x_getR (r := 85) rfl (by decide) (by decide) rfl ?_
  refine x_push 0 rfl ?_
  refine x_push 90 rfl ?_
  refine x_copyG y_a10 y_a91 (by decide) (by decide) C5 (by decide) F5 (by omega) (by omega) (by omega) (by omega) (by omega) (Nat.le_of_ble_eq_true rfl) (fun S6 e6 C6 F6 => ?_)
  refine x_aload rfl ?_
  refine x_aload rfl ?_
  refine x_fall ?_
  refine x_blk (b := 1) (a_71 E) rfl ?_
  unfold b_71_1
  refine x_getIG y_f4_6 C6 ?_
  have q7_0 : S6 4 6 = S5 4 6 := x_cp_nr e6 (by decide)
  have q7_1 : S5 4 6 = S4 4 6 := x_cp_nr e5 (by decide)
  have q7_2 : S4 4 6 = S3 4 6 := x_cp_nr e4 (by decide)
  have q7_3 : S3 4 6 = S2 4 6 := x_cp_nr e3 (by decide)
  have q7_4 : S2 4 6 = S1 4 6 := x_cp_nr e2 (by decide)
  have q7_5 : S1 4 6 = σ 4 6 := x_cp_nr e1 (by decide)
  simp only [q7_0, q7_1, q7_2, q7_3, q7_4, q7_5]
  intro g7a g7b
  refine x_putIG y_f85_6 ⟨by decide, rfl⟩ (by decide) C6 (by decide) F6 (by omega) (by omega) (fun S8 e8 C8 F8 => ?_)
  refine x_vret ?_
  refine k _ C8 (fun c m hc => (x_up_ne e8 (fun z => hc (by omega))).trans ((x_cp_nr e6 (fun z => hc (by omega))).trans ((x_cp_nr e5 (fun z => hc (by omega))).trans ((x_cp_nr e4 (fun z => hc (by omega))).trans ((x_cp_nr e3 (fun z => hc (by omega))).trans ((x_cp_nr e2 (fun z => hc (by omega))).trans ((x_cp_nr e1 (fun z => hc (by omega))).trans (rfl)))))))) ⟨fun m hm => y_cv_x (fun h => (x_up_nr e8 (by decide)).trans ((x_cp_nr e6 (by decide)).trans ((x_cp_nr e5 (by decide)).trans ((x_cp_nr e4 (by decide)).trans ((x_cp_in e3 (h)).trans ((x_cp_nr e2 (by decide)).trans (x_cp_nr e1 (by decide)))))))) (fun h h' => (x_up_nr e8 (by decide)).trans ((x_cp_nr e6 (by decide)).trans ((x_cp_nr e5 (by decide)).trans ((x_cp_nr e4 (by decide)).trans ((x_cp_nr e3 (by decide)).trans ((x_cp_in e2 (by omega)).trans (x_cp_nr e1 (by decide)))))))) (fun h h' => (x_up_nr e8 (by decide)).trans ((x_cp_nr e6 (by decide)).trans ((x_cp_nr e5 (by decide)).trans ((x_cp_nr e4 (by decide)).trans ((x_cp_nr e3 (by decide)).trans ((x_cp_nr e2 (by decide)).trans (x_cp_in e1 (by omega)))))))) (fun h h' => (x_up_nr e8 (by decide)).trans ((x_cp_nr e6 (by decide)).trans ((x_cp_nr e5 (by decide)).trans ((x_cp_in e4 (y_ce_b (by omega))).trans ((x_cp_nr e3 (by decide)).trans ((x_cp_nr e2 (by decide)).trans (x_cp_nr e1 (by decide)))))))) (fun _ => (x_up_at e8)) (fun h => (x_up_nr e8 (by decide)).trans ((x_cp_nr e6 (by decide)).trans ((x_cp_in e5 (by omega)).trans ((x_cp_nr e4 (by decide)).trans ((x_cp_nr e3 (by decide)).trans ((x_cp_nr e2 (by decide)).trans (x_cp_nr e1 (by decide)))))))), fun m hm => (x_up_nr e8 (by decide)).trans ((x_cp_in e6 (hm)).trans ((x_cp_nr e5 (by decide)).trans ((x_cp_nr e4 (by decide)).trans ((x_cp_nr e3 (by decide)).trans ((x_cp_nr e2 (by decide)).trans (x_cp_nr e1 (by decide)))))))⟩
theorem kx_71_4_20 {E : q_E} {σ : x_S} {Q : Option q_V → x_S → Prop} (C0 : y_CI σ) (k : ∀ τ, y_CI τ → (∀ c m, ¬ (4 ≤ c ∧ c ≤ 10) → τ c m = σ c m) → y_CP σ 20 τ 4 → Q none τ) : x_P E 71 [x_R 4, x_R 20] σ Q := by
  refine x_Mt e_71 (h_71 E) (Nat.le_of_ble_eq_true rfl) t_71 rfl ?_
  refine x_blk (b := 0) (a_71 E) rfl ?_
  unfold b_71_0
  refine x_aload rfl ?_
  refine x_getR (r := 20) rfl (by decide) (by decide) rfl ?_
  refine x_push 0 rfl ?_
  refine x_aload rfl ?_
  refine x_getR (r := 4) rfl (by decide) (by decide) rfl ?_
  refine x_push 0 rfl ?_
  refine x_push 33 rfl ?_
  refine x_copyG y_a21 y_a5 (by decide) (by decide) C0 (by decide) (y_fr_rf (lo := 0) (hi := 138)) (by omega) (by omega) (by omega) (by omega) (by omega) (Nat.le_of_ble_eq_true rfl) (fun S1 e1 C1 F1 => ?_)
  refine x_aload rfl ?_
  refine x_getR (r := 20) rfl (by decide) (by decide) rfl ?_
  refine x_push 0 rfl ?_
  refine x_aload rfl ?_
  refine x_getR (r := 4) rfl (by decide) (by decide) rfl ?_
  refine x_push 0 rfl ?_
  refine x_push 3 rfl ?_
  refine x_copyG y_a22 y_a6 (by decide) (by decide) C1 (by decide) F1 (by omega) (by omega) (by omega) (by omega) (by omega) (Nat.le_of_ble_eq_true rfl) (fun S2 e2 C2 F2 => ?_)
  refine x_aload rfl ?_
  refine x_getR (r := 20) rfl (by decide) (by decide) rfl ?_
  refine x_push 0 rfl ?_
  refine x_aload rfl ?_
  refine x_getR (r := 4) rfl (by decide) (by decide) rfl ?_
  refine x_push 0 rfl ?_
  refine x_push 2 rfl ?_
  refine x_copyG y_a23 y_a7 (by decide) (by decide) C2 (by decide) F2 (by omega) (by omega) (by omega) (by omega) (by omega) (Nat.le_of_ble_eq_true rfl) (fun S3 e3 C3 F3 => ?_)
  refine x_aload rfl ?_
  refine x_getR (r := 20) rfl (by decide) (by decide) rfl ?_
  refine x_push 0 rfl ?_
  refine x_aload rfl ?_
  refine x_getR (r := 4) rfl (by decide) (by decide) rfl ?_
  refine x_push 0 rfl ?_
  refine x_push 40 rfl ?_
  refine x_copyG y_a24 y_a8 (by decide) (by decide) C3 (by decide) F3 (by omega) (by omega) (by omega) (by omega) (by omega) (Nat.le_of_ble_eq_true rfl) (fun S4 e4 C4 F4 => ?_)
  refine x_aload rfl ?_
  refine x_getR (r := 20) rfl (by decide) (by decide) rfl ?_
  refine x_push 0 rfl ?_
  refine x_aload rfl ?_
  refine x_getR (r := 4) rfl (by decide) (by decide) rfl ?_
  refine x_push 0 rfl ?_
  refine x_push 192 rfl ?_
  refine x_copyG y_a25 y_a9 (by decide) (by decide) C4 (by decide) F4 (by omega) (by omega) (by omega) (by omega) (by omega) (Nat.le_of_ble_eq_true rfl) (fun S5 e5 C5 F5 => ?_)
  refine x_aload rfl ?_
  refine x_getR (r := 20) rfl (by decide) (by decide) rfl ?_
  refine x_push 0 rfl ?_
  refine x_aload rfl ?_
  refine x_getR (r := 4) rfl (by decide) (by decide) rfl ?_
  refine x_push 0 rfl ?_
  refine x_push 90 rfl ?_
  refine x_copyG y_a26 y_a10 (by decide) (by decide) C5 (by decide) F5 (by omega) (by omega) (by omega) (by omega) (by omega) (Nat.le_of_ble_eq_true rfl) (fun S6 e6 C6 F6 => ?_)
  refine x_aload rfl ?_
  refine x_aload rfl ?_
  refine x_fall ?_
  refine x_blk (b := 1) (a_71 E) rfl ?_
  unfold b_71_1
  refine x_getIG y_f20_6 C6 ?_
  have q7_0 : S6 20 6 = S5 20 6 := x_cp_nr e6 (by decide)
  have q7_1 : S5 20 6 = S4 20 6 := x_cp_nr e5 (by decide)
  have q7_2 : S4 20 6 = S3 20 6 := x_cp_nr e4 (by decide)
  have q7_3 : S3 20 6 = S2 20 6 := x_cp_nr e3 (by decide)
  have q7_4 : S2 20 6 = S1 20 6 := x_cp_nr e2 (by decide)
  have q7_5 : S1 20 6 = σ 20 6 := x_cp_nr e1 (by decide)
  simp only [q7_0, q7_1, q7_2, q7_3, q7_4, q7_5]
  intro g7a g7b
  refine x_putIG y_f4_6 ⟨by decide, rfl⟩ (by decide) C6 (by decide) F6 (by omega) (by omega) (fun S8 e8 C8 F8 => ?_)
  refine x_vret ?_
  refine k _ C8 (fun c m hc => (x_up_ne e8 (fun z => hc (by omega))).trans ((x_cp_nr e6 (fun z => hc (by omega))).trans ((x_cp_nr e5 (fun z => hc (by omega))).trans ((x_cp_nr e4 (fun z => hc (by omega))).trans ((x_cp_nr e3 (fun z => hc (by omega))).trans ((x_cp_nr e2 (fun z => hc (by omega))).trans ((x_cp_nr e1 (fun z => hc (by omega))).trans (rfl)))))))) ⟨fun m hm => y_cv_x (fun h => (x_up_nr e8 (by decide)).trans ((x_cp_nr e6 (by decide)).trans ((x_cp_nr e5 (by decide)).trans ((x_cp_nr e4 (by decide)).trans ((x_cp_in e3 (h)).trans ((x_cp_nr e2 (by decide)).trans (x_cp_nr e1 (by decide)))))))) (fun h h' => (x_up_nr e8 (by decide)).trans ((x_cp_nr e6 (by decide)).trans ((x_cp_nr e5 (by decide)).trans ((x_cp_nr e4 (by decide)).trans ((x_cp_nr e3 (by decide)).trans ((x_cp_in e2 (by omega)).trans (x_cp_nr e1 (by decide)))))))) (fun h h' => (x_up_nr e8 (by decide)).trans ((x_cp_nr e6 (by decide)).trans ((x_cp_nr e5 (by decide)).trans ((x_cp_nr e4 (by decide)).trans ((x_cp_nr e3 (by decide)).trans ((x_cp_nr e2 (by decide)).trans (x_cp_in e1 (by omega)))))))) (fun h h' => (x_up_nr e8 (by decide)).trans ((x_cp_nr e6 (by decide)).trans ((x_cp_nr e5 (by decide)).trans ((x_cp_in e4 (y_ce_b (by omega))).trans ((x_cp_nr e3 (by decide)).trans ((x_cp_nr e2 (by decide)).trans (x_cp_nr e1 (by decide)))))))) (fun _ => (x_up_at e8)) (fun h => (x_up_nr e8 (by decide)).trans ((x_cp_nr e6 (by decide)).trans ((x_cp_in e5 (by omega)).trans ((x_cp_nr e4 (by decide)).trans ((x_cp_nr e3 (by decide)).trans ((x_cp_nr e2 (by decide)).trans (x_cp_nr e1 (by decide)))))))), fun m hm => (x_up_nr e8 (by decide)).trans ((x_cp_in e6 (hm)).trans ((x_cp_nr e5 (by decide)).trans ((x_cp_nr e4 (by decide)).trans ((x_cp_nr e3 (by decide)).trans ((x_cp_nr e2 (by decide)).trans (x_cp_nr e1 (by decide)))))))⟩
theorem kx_71_4_27 {E : q_E} {σ : x_S} {Q : Option q_V → x_S → Prop} (C0 : y_CI σ) (k : ∀ τ, y_CI τ → (∀ c m, ¬ (4 ≤ c ∧ c ≤ 10) → τ c m = σ c m) → y_CP σ 27 τ 4 → Q none τ) : x_P E 71 [x_R 4, x_R 27] σ Q := by
  refine x_Mt e_71 (h_71 E) (Nat.le_of_ble_eq_true rfl) t_71 rfl ?_
  refine x_blk (b := 0) (a_71 E) rfl ?_
  unfold b_71_0
  refine x_aload rfl ?_
  refine x_getR (r := 27) rfl (by decide) (by decide) rfl ?_
  refine x_push 0 rfl ?_
  refine x_aload rfl ?_
  refine x_getR (r := 4) rfl (by decide) (by decide) rfl ?_
  refine x_push 0 rfl ?_
  refine x_push 33 rfl ?_
  refine x_copyG y_a28 y_a5 (by decide) (by decide) C0 (by decide) (y_fr_rf (lo := 0) (hi := 138)) (by omega) (by omega) (by omega) (by omega) (by omega) (Nat.le_of_ble_eq_true rfl) (fun S1 e1 C1 F1 => ?_)
  refine x_aload rfl ?_
  refine x_getR (r := 27) rfl (by decide) (by decide) rfl ?_
  refine x_push 0 rfl ?_
  refine x_aload rfl ?_
  refine x_getR (r := 4) rfl (by decide) (by decide) rfl ?_
  refine x_push 0 rfl ?_
  refine x_push 3 rfl ?_
  refine x_copyG y_a29 y_a6 (by decide) (by decide) C1 (by decide) F1 (by omega) (by omega) (by omega) (by omega) (by omega) (Nat.le_of_ble_eq_true rfl) (fun S2 e2 C2 F2 => ?_)
  refine x_aload rfl ?_
  refine x_getR (r := 27) rfl (by decide) (by decide) rfl ?_
  refine x_push 0 rfl ?_
  refine x_aload rfl ?_
  refine x_getR (r := 4) rfl (by decide) (by decide) rfl ?_
  refine x_push 0 rfl ?_
  refine x_push 2 rfl ?_
  refine x_copyG y_a30 y_a7 (by decide) (by decide) C2 (by decide) F2 (by omega) (by omega) (by omega) (by omega) (by omega) (Nat.le_of_ble_eq_true rfl) (fun S3 e3 C3 F3 => ?_)
  refine x_aload rfl ?_
  refine x_getR (r := 27) rfl (by decide) (by decide) rfl ?_
  refine x_push 0 rfl ?_
  refine x_aload rfl ?_
  refine x_getR (r := 4) rfl (by decide) (by decide) rfl ?_
  refine x_push 0 rfl ?_
  refine x_push 40 rfl ?_
  refine x_copyG y_a31 y_a8 (by decide) (by decide) C3 (by decide) F3 (by omega) (by omega) (by omega) (by omega) (by omega) (Nat.le_of_ble_eq_true rfl) (fun S4 e4 C4 F4 => ?_)
  refine x_aload rfl ?_
  refine x_getR (r := 27) rfl (by decide) (by decide) rfl ?_
  refine x_push 0 rfl ?_
  refine x_aload rfl ?_
  refine x_getR (r := 4) rfl (by decide) (by decide) rfl ?_
  refine x_push 0 rfl ?_
  refine x_push 192 rfl ?_
  refine x_copyG y_a32 y_a9 (by decide) (by decide) C4 (by decide) F4 (by omega) (by omega) (by omega) (by omega) (by omega) (Nat.le_of_ble_eq_true rfl) (fun S5 e5 C5 F5 => ?_)
  refine x_aload rfl ?_
  refine x_getR (r := 27) rfl (by decide) (by decide) rfl ?_
  refine x_push 0 rfl ?_
  refine x_aload rfl ?_
  refine x_getR (r := 4) rfl (by decide) (by decide) rfl ?_
  refine x_push 0 rfl ?_
  refine x_push 90 rfl ?_
  refine x_copyG y_a33 y_a10 (by decide) (by decide) C5 (by decide) F5 (by omega) (by omega) (by omega) (by omega) (by omega) (Nat.le_of_ble_eq_true rfl) (fun S6 e6 C6 F6 => ?_)
  refine x_aload rfl ?_
  refine x_aload rfl ?_
  refine x_fall ?_
  refine x_blk (b := 1) (a_71 E) rfl ?_
  unfold b_71_1
  refine x_getIG y_f27_6 C6 ?_
  have q7_0 : S6 27 6 = S5 27 6 := x_cp_nr e6 (by decide)
  have q7_1 : S5 27 6 = S4 27 6 := x_cp_nr e5 (by decide)
  have q7_2 : S4 27 6 = S3 27 6 := x_cp_nr e4 (by decide)
  have q7_3 : S3 27 6 = S2 27 6 := x_cp_nr e3 (by decide)
  have q7_4 : S2 27 6 = S1 27 6 := x_cp_nr e2 (by decide)
  have q7_5 : S1 27 6 = σ 27 6 := x_cp_nr e1 (by decide)
  simp only [q7_0, q7_1, q7_2, q7_3, q7_4, q7_5]
  intro g7a g7b
  refine x_putIG y_f4_6 ⟨by decide, rfl⟩ (by decide) C6 (by decide) F6 (by omega) (by omega) (fun S8 e8 C8 F8 => ?_)
  refine x_vret ?_
  refine k _ C8 (fun c m hc => (x_up_ne e8 (fun z => hc (by omega))).trans ((x_cp_nr e6 (fun z => hc (by omega))).trans ((x_cp_nr e5 (fun z => hc (by omega))).trans ((x_cp_nr e4 (fun z => hc (by omega))).trans ((x_cp_nr e3 (fun z => hc (by omega))).trans ((x_cp_nr e2 (fun z => hc (by omega))).trans ((x_cp_nr e1 (fun z => hc (by omega))).trans (rfl)))))))) ⟨fun m hm => y_cv_x (fun h => (x_up_nr e8 (by decide)).trans ((x_cp_nr e6 (by decide)).trans ((x_cp_nr e5 (by decide)).trans ((x_cp_nr e4 (by decide)).trans ((x_cp_in e3 (h)).trans ((x_cp_nr e2 (by decide)).trans (x_cp_nr e1 (by decide)))))))) (fun h h' => (x_up_nr e8 (by decide)).trans ((x_cp_nr e6 (by decide)).trans ((x_cp_nr e5 (by decide)).trans ((x_cp_nr e4 (by decide)).trans ((x_cp_nr e3 (by decide)).trans ((x_cp_in e2 (by omega)).trans (x_cp_nr e1 (by decide)))))))) (fun h h' => (x_up_nr e8 (by decide)).trans ((x_cp_nr e6 (by decide)).trans ((x_cp_nr e5 (by decide)).trans ((x_cp_nr e4 (by decide)).trans ((x_cp_nr e3 (by decide)).trans ((x_cp_nr e2 (by decide)).trans (x_cp_in e1 (by omega)))))))) (fun h h' => (x_up_nr e8 (by decide)).trans ((x_cp_nr e6 (by decide)).trans ((x_cp_nr e5 (by decide)).trans ((x_cp_in e4 (y_ce_b (by omega))).trans ((x_cp_nr e3 (by decide)).trans ((x_cp_nr e2 (by decide)).trans (x_cp_nr e1 (by decide)))))))) (fun _ => (x_up_at e8)) (fun h => (x_up_nr e8 (by decide)).trans ((x_cp_nr e6 (by decide)).trans ((x_cp_in e5 (by omega)).trans ((x_cp_nr e4 (by decide)).trans ((x_cp_nr e3 (by decide)).trans ((x_cp_nr e2 (by decide)).trans (x_cp_nr e1 (by decide)))))))), fun m hm => (x_up_nr e8 (by decide)).trans ((x_cp_in e6 (hm)).trans ((x_cp_nr e5 (by decide)).trans ((x_cp_nr e4 (by decide)).trans ((x_cp_nr e3 (by decide)).trans ((x_cp_nr e2 (by decide)).trans (x_cp_nr e1 (by decide)))))))⟩
theorem kx_71_4_34 {E : q_E} {σ : x_S} {Q : Option q_V → x_S → Prop} (C0 : y_CI σ) (k : ∀ τ, y_CI τ → (∀ c m, ¬ (4 ≤ c ∧ c ≤ 10) → τ c m = σ c m) → y_CP σ 34 τ 4 → Q none τ) : x_P E 71 [x_R 4, x_R 34] σ Q := by
  refine x_Mt e_71 (h_71 E) (Nat.le_of_ble_eq_true rfl) t_71 rfl ?_
  refine x_blk (b := 0) (a_71 E) rfl ?_
  unfold b_71_0
  refine x_aload rfl ?_
  refine x_getR (r := 34) rfl (by decide) (by decide) rfl ?_
  refine x_push 0 rfl ?_
  refine x_aload rfl ?_
  refine x_getR (r := 4) rfl (by decide) (by decide) rfl ?_
  refine x_push 0 rfl ?_
  refine x_push 33 rfl ?_
  refine x_copyG y_a35 y_a5 (by decide) (by decide) C0 (by decide) (y_fr_rf (lo := 0) (hi := 138)) (by omega) (by omega) (by omega) (by omega) (by omega) (Nat.le_of_ble_eq_true rfl) (fun S1 e1 C1 F1 => ?_)
  refine x_aload rfl ?_
  refine x_getR (r := 34) rfl (by decide) (by decide) rfl ?_
  refine x_push 0 rfl ?_
  refine x_aload rfl ?_
  refine x_getR (r := 4) rfl (by decide) (by decide) rfl ?_
  refine x_push 0 rfl ?_
  refine x_push 3 rfl ?_
  refine x_copyG y_a36 y_a6 (by decide) (by decide) C1 (by decide) F1 (by omega) (by omega) (by omega) (by omega) (by omega) (Nat.le_of_ble_eq_true rfl) (fun S2 e2 C2 F2 => ?_)
  refine x_aload rfl ?_
  refine x_getR (r := 34) rfl (by decide) (by decide) rfl ?_
  refine x_push 0 rfl ?_
  refine x_aload rfl ?_
  refine x_getR (r := 4) rfl (by decide) (by decide) rfl ?_
  refine x_push 0 rfl ?_
  refine x_push 2 rfl ?_
  refine x_copyG y_a37 y_a7 (by decide) (by decide) C2 (by decide) F2 (by omega) (by omega) (by omega) (by omega) (by omega) (Nat.le_of_ble_eq_true rfl) (fun S3 e3 C3 F3 => ?_)
  refine x_aload rfl ?_
  refine x_getR (r := 34) rfl (by decide) (by decide) rfl ?_
  refine x_push 0 rfl ?_
  refine x_aload rfl ?_
  refine x_getR (r := 4) rfl (by decide) (by decide) rfl ?_
  refine x_push 0 rfl ?_
  refine x_push 40 rfl ?_
  refine x_copyG y_a38 y_a8 (by decide) (by decide) C3 (by decide) F3 (by omega) (by omega) (by omega) (by omega) (by omega) (Nat.le_of_ble_eq_true rfl) (fun S4 e4 C4 F4 => ?_)
  refine x_aload rfl ?_
  refine x_getR (r := 34) rfl (by decide) (by decide) rfl ?_
  refine x_push 0 rfl ?_
  refine x_aload rfl ?_
  refine x_getR (r := 4) rfl (by decide) (by decide) rfl ?_
  refine x_push 0 rfl ?_
  refine x_push 192 rfl ?_
  refine x_copyG y_a39 y_a9 (by decide) (by decide) C4 (by decide) F4 (by omega) (by omega) (by omega) (by omega) (by omega) (Nat.le_of_ble_eq_true rfl) (fun S5 e5 C5 F5 => ?_)
  refine x_aload rfl ?_
  refine x_getR (r := 34) rfl (by decide) (by decide) rfl ?_
  refine x_push 0 rfl ?_
  refine x_aload rfl ?_
  refine x_getR (r := 4) rfl (by decide) (by decide) rfl ?_
  refine x_push 0 rfl ?_
  refine x_push 90 rfl ?_
  refine x_copyG y_a40 y_a10 (by decide) (by decide) C5 (by decide) F5 (by omega) (by omega) (by omega) (by omega) (by omega) (Nat.le_of_ble_eq_true rfl) (fun S6 e6 C6 F6 => ?_)
  refine x_aload rfl ?_
  refine x_aload rfl ?_
  refine x_fall ?_
  refine x_blk (b := 1) (a_71 E) rfl ?_
  unfold b_71_1
  refine x_getIG y_f34_6 C6 ?_
  have q7_0 : S6 34 6 = S5 34 6 := x_cp_nr e6 (by decide)
  have q7_1 : S5 34 6 = S4 34 6 := x_cp_nr e5 (by decide)
  have q7_2 : S4 34 6 = S3 34 6 := x_cp_nr e4 (by decide)
  have q7_3 : S3 34 6 = S2 34 6 := x_cp_nr e3 (by decide)
  have q7_4 : S2 34 6 = S1 34 6 := x_cp_nr e2 (by decide)
  have q7_5 : S1 34 6 = σ 34 6 := x_cp_nr e1 (by decide)
  simp only [q7_0, q7_1, q7_2, q7_3, q7_4, q7_5]
  intro g7a g7b
  refine x_putIG y_f4_6 ⟨by decide, rfl⟩ (by decide) C6 (by decide) F6 (by omega) (by omega) (fun S8 e8 C8 F8 => ?_)
  refine x_vret ?_
  refine k _ C8 (fun c m hc => (x_up_ne e8 (fun z => hc (by omega))).trans ((x_cp_nr e6 (fun z => hc (by omega))).trans ((x_cp_nr e5 (fun z => hc (by omega))).trans ((x_cp_nr e4 (fun z => hc (by omega))).trans ((x_cp_nr e3 (fun z => hc (by omega))).trans ((x_cp_nr e2 (fun z => hc (by omega))).trans ((x_cp_nr e1 (fun z => hc (by omega))).trans (rfl)))))))) ⟨fun m hm => y_cv_x (fun h => (x_up_nr e8 (by decide)).trans ((x_cp_nr e6 (by decide)).trans ((x_cp_nr e5 (by decide)).trans ((x_cp_nr e4 (by decide)).trans ((x_cp_in e3 (h)).trans ((x_cp_nr e2 (by decide)).trans (x_cp_nr e1 (by decide)))))))) (fun h h' => (x_up_nr e8 (by decide)).trans ((x_cp_nr e6 (by decide)).trans ((x_cp_nr e5 (by decide)).trans ((x_cp_nr e4 (by decide)).trans ((x_cp_nr e3 (by decide)).trans ((x_cp_in e2 (by omega)).trans (x_cp_nr e1 (by decide)))))))) (fun h h' => (x_up_nr e8 (by decide)).trans ((x_cp_nr e6 (by decide)).trans ((x_cp_nr e5 (by decide)).trans ((x_cp_nr e4 (by decide)).trans ((x_cp_nr e3 (by decide)).trans ((x_cp_nr e2 (by decide)).trans (x_cp_in e1 (by omega)))))))) (fun h h' => (x_up_nr e8 (by decide)).trans ((x_cp_nr e6 (by decide)).trans ((x_cp_nr e5 (by decide)).trans ((x_cp_in e4 (y_ce_b (by omega))).trans ((x_cp_nr e3 (by decide)).trans ((x_cp_nr e2 (by decide)).trans (x_cp_nr e1 (by decide)))))))) (fun _ => (x_up_at e8)) (fun h => (x_up_nr e8 (by decide)).trans ((x_cp_nr e6 (by decide)).trans ((x_cp_in e5 (by omega)).trans ((x_cp_nr e4 (by decide)).trans ((x_cp_nr e3 (by decide)).trans ((x_cp_nr e2 (by decide)).trans (x_cp_nr e1 (by decide)))))))), fun m hm => (x_up_nr e8 (by decide)).trans ((x_cp_in e6 (hm)).trans ((x_cp_nr e5 (by decide)).trans ((x_cp_nr e4 (by decide)).trans ((x_cp_nr e3 (by decide)).trans ((x_cp_nr e2 (by decide)).trans (x_cp_nr e1 (by decide)))))))⟩
theorem kx_71_4_41 {E : q_E} {σ : x_S} {Q : Option q_V → x_S → Prop} (C0 : y_CI σ) (k : ∀ τ, y_CI τ → (∀ c m, ¬ (4 ≤ c ∧ c ≤ 10) → τ c m = σ c m) → y_CP σ 41 τ 4 → Q none τ) : x_P E 71 [x_R 4, x_R 41] σ Q := by
  refine x_Mt e_71 (h_71 E) (Nat.le_of_ble_eq_true rfl) t_71 rfl ?_
  refine x_blk (b := 0) (a_71 E) rfl ?_
  unfold b_71_0
  refine x_aload rfl ?_
  refine x_getR (r := 41) rfl (by decide) (by decide) rfl ?_
  refine x_push 0 rfl ?_
  refine x_aload rfl ?_
  refine x_getR (r := 4) rfl (by decide) (by decide) rfl ?_
  refine x_push 0 rfl ?_
  refine x_push 33 rfl ?_
  refine x_copyG y_a42 y_a5 (by decide) (by decide) C0 (by decide) (y_fr_rf (lo := 0) (hi := 138)) (by omega) (by omega) (by omega) (by omega) (by omega) (Nat.le_of_ble_eq_true rfl) (fun S1 e1 C1 F1 => ?_)
  refine x_aload rfl ?_
  refine x_getR (r := 41) rfl (by decide) (by decide) rfl ?_
  refine x_push 0 rfl ?_
  refine x_aload rfl ?_
  refine x_getR (r := 4) rfl (by decide) (by decide) rfl ?_
  refine x_push 0 rfl ?_
  refine x_push 3 rfl ?_
  refine x_copyG y_a43 y_a6 (by decide) (by decide) C1 (by decide) F1 (by omega) (by omega) (by omega) (by omega) (by omega) (Nat.le_of_ble_eq_true rfl) (fun S2 e2 C2 F2 => ?_)
  refine x_aload rfl ?_
  refine x_getR (r := 41) rfl (by decide) (by decide) rfl ?_
  refine x_push 0 rfl ?_
  refine x_aload rfl ?_
  refine x_getR (r := 4) rfl (by decide) (by decide) rfl ?_
  refine x_push 0 rfl ?_
  refine x_push 2 rfl ?_
  refine x_copyG y_a44 y_a7 (by decide) (by decide) C2 (by decide) F2 (by omega) (by omega) (by omega) (by omega) (by omega) (Nat.le_of_ble_eq_true rfl) (fun S3 e3 C3 F3 => ?_)
  refine x_aload rfl ?_
  refine x_getR (r := 41) rfl (by decide) (by decide) rfl ?_
  refine x_push 0 rfl ?_
  refine x_aload rfl ?_
  refine x_getR (r := 4) rfl (by decide) (by decide) rfl ?_
  refine x_push 0 rfl ?_
  refine x_push 40 rfl ?_
  refine x_copyG y_a45 y_a8 (by decide) (by decide) C3 (by decide) F3 (by omega) (by omega) (by omega) (by omega) (by omega) (Nat.le_of_ble_eq_true rfl) (fun S4 e4 C4 F4 => ?_)
  refine x_aload rfl ?_
  refine x_getR (r := 41) rfl (by decide) (by decide) rfl ?_
  refine x_push 0 rfl ?_
  refine x_aload rfl ?_
  refine x_getR (r := 4) rfl (by decide) (by decide) rfl ?_
  refine x_push 0 rfl ?_
  refine x_push 192 rfl ?_
  refine x_copyG y_a46 y_a9 (by decide) (by decide) C4 (by decide) F4 (by omega) (by omega) (by omega) (by omega) (by omega) (Nat.le_of_ble_eq_true rfl) (fun S5 e5 C5 F5 => ?_)
  refine x_aload rfl ?_
  refine x_getR (r := 41) rfl (by decide) (by decide) rfl ?_
  refine x_push 0 rfl ?_
  refine x_aload rfl ?_
  refine x_getR (r := 4) rfl (by decide) (by decide) rfl ?_
  refine x_push 0 rfl ?_
  refine x_push 90 rfl ?_
  refine x_copyG y_a47 y_a10 (by decide) (by decide) C5 (by decide) F5 (by omega) (by omega) (by omega) (by omega) (by omega) (Nat.le_of_ble_eq_true rfl) (fun S6 e6 C6 F6 => ?_)
  refine x_aload rfl ?_
  refine x_aload rfl ?_
  refine x_fall ?_
  refine x_blk (b := 1) (a_71 E) rfl ?_
  unfold b_71_1
  refine x_getIG y_f41_6 C6 ?_
  have q7_0 : S6 41 6 = S5 41 6 := x_cp_nr e6 (by decide)
  have q7_1 : S5 41 6 = S4 41 6 := x_cp_nr e5 (by decide)
  have q7_2 : S4 41 6 = S3 41 6 := x_cp_nr e4 (by decide)
  have q7_3 : S3 41 6 = S2 41 6 := x_cp_nr e3 (by decide)
  have q7_4 : S2 41 6 = S1 41 6 := x_cp_nr e2 (by decide)
  have q7_5 : S1 41 6 = σ 41 6 := x_cp_nr e1 (by decide)
  simp only [q7_0, q7_1, q7_2, q7_3, q7_4, q7_5]
  intro g7a g7b
  refine x_putIG y_f4_6 ⟨by decide, rfl⟩ (by decide) C6 (by decide) F6 (by omega) (by omega) (fun S8 e8 C8 F8 => ?_)
  refine x_vret ?_
  refine k _ C8 (fun c m hc => (x_up_ne e8 (fun z => hc (by omega))).trans ((x_cp_nr e6 (fun z => hc (by omega))).trans ((x_cp_nr e5 (fun z => hc (by omega))).trans ((x_cp_nr e4 (fun z => hc (by omega))).trans ((x_cp_nr e3 (fun z => hc (by omega))).trans ((x_cp_nr e2 (fun z => hc (by omega))).trans ((x_cp_nr e1 (fun z => hc (by omega))).trans (rfl)))))))) ⟨fun m hm => y_cv_x (fun h => (x_up_nr e8 (by decide)).trans ((x_cp_nr e6 (by decide)).trans ((x_cp_nr e5 (by decide)).trans ((x_cp_nr e4 (by decide)).trans ((x_cp_in e3 (h)).trans ((x_cp_nr e2 (by decide)).trans (x_cp_nr e1 (by decide)))))))) (fun h h' => (x_up_nr e8 (by decide)).trans ((x_cp_nr e6 (by decide)).trans ((x_cp_nr e5 (by decide)).trans ((x_cp_nr e4 (by decide)).trans ((x_cp_nr e3 (by decide)).trans ((x_cp_in e2 (by omega)).trans (x_cp_nr e1 (by decide)))))))) (fun h h' => (x_up_nr e8 (by decide)).trans ((x_cp_nr e6 (by decide)).trans ((x_cp_nr e5 (by decide)).trans ((x_cp_nr e4 (by decide)).trans ((x_cp_nr e3 (by decide)).trans ((x_cp_nr e2 (by decide)).trans (x_cp_in e1 (by omega)))))))) (fun h h' => (x_up_nr e8 (by decide)).trans ((x_cp_nr e6 (by decide)).trans ((x_cp_nr e5 (by decide)).trans ((x_cp_in e4 (y_ce_b (by omega))).trans ((x_cp_nr e3 (by decide)).trans ((x_cp_nr e2 (by decide)).trans (x_cp_nr e1 (by decide)))))))) (fun _ => (x_up_at e8)) (fun h => (x_up_nr e8 (by decide)).trans ((x_cp_nr e6 (by decide)).trans ((x_cp_in e5 (by omega)).trans ((x_cp_nr e4 (by decide)).trans ((x_cp_nr e3 (by decide)).trans ((x_cp_nr e2 (by decide)).trans (x_cp_nr e1 (by decide)))))))), fun m hm => (x_up_nr e8 (by decide)).trans ((x_cp_in e6 (hm)).trans ((x_cp_nr e5 (by decide)).trans ((x_cp_nr e4 (by decide)).trans ((x_cp_nr e3 (by decide)).trans ((x_cp_nr e2 (by decide)).trans (x_cp_nr e1 (by decide)))))))⟩
theorem kx_71_4_48 {E : q_E} {σ : x_S} {Q : Option q_V → x_S → Prop} (C0 : y_CI σ) (k : ∀ τ, y_CI τ → (∀ c m, ¬ (4 ≤ c ∧ c ≤ 10) → τ c m = σ c m) → y_CP σ 48 τ 4 → Q none τ) : x_P E 71 [x_R 4, x_R 48] σ Q := by
  refine x_Mt e_71 (h_71 E) (Nat.le_of_ble_eq_true rfl) t_71 rfl ?_
  refine x_blk (b := 0) (a_71 E) rfl ?_
  unfold b_71_0
  refine x_aload rfl ?_
  refine x_getR (r := 48) rfl (by decide) (by decide) rfl ?_
  refine x_push 0 rfl ?_
  refine x_aload rfl ?_
  refine x_getR (r := 4) rfl (by decide) (by decide) rfl ?_
  refine x_push 0 rfl ?_
  refine x_push 33 rfl ?_
  refine x_copyG y_a49 y_a5 (by decide) (by decide) C0 (by decide) (y_fr_rf (lo := 0) (hi := 138)) (by omega) (by omega) (by omega) (by omega) (by omega) (Nat.le_of_ble_eq_true rfl) (fun S1 e1 C1 F1 => ?_)
  refine x_aload rfl ?_
  refine x_getR (r := 48) rfl (by decide) (by decide) rfl ?_
  refine x_push 0 rfl ?_
  refine x_aload rfl ?_
  refine x_getR (r := 4) rfl (by decide) (by decide) rfl ?_
  refine x_push 0 rfl ?_
  refine x_push 3 rfl ?_
  refine x_copyG y_a50 y_a6 (by decide) (by decide) C1 (by decide) F1 (by omega) (by omega) (by omega) (by omega) (by omega) (Nat.le_of_ble_eq_true rfl) (fun S2 e2 C2 F2 => ?_)
  refine x_aload rfl ?_
  refine x_getR (r := 48) rfl (by decide) (by decide) rfl ?_
  refine x_push 0 rfl ?_
  refine x_aload rfl ?_
  refine x_getR (r := 4) rfl (by decide) (by decide) rfl ?_
  refine x_push 0 rfl ?_
  refine x_push 2 rfl ?_
  refine x_copyG y_a51 y_a7 (by decide) (by decide) C2 (by decide) F2 (by omega) (by omega) (by omega) (by omega) (by omega) (Nat.le_of_ble_eq_true rfl) (fun S3 e3 C3 F3 => ?_)
  refine x_aload rfl ?_
  refine x_getR (r := 48) rfl (by decide) (by decide) rfl ?_
  refine x_push 0 rfl ?_
  refine x_aload rfl ?_
  refine x_getR (r := 4) rfl (by decide) (by decide) rfl ?_
  refine x_push 0 rfl ?_
  refine x_push 40 rfl ?_
  refine x_copyG y_a52 y_a8 (by decide) (by decide) C3 (by decide) F3 (by omega) (by omega) (by omega) (by omega) (by omega) (Nat.le_of_ble_eq_true rfl) (fun S4 e4 C4 F4 => ?_)
  refine x_aload rfl ?_
  refine x_getR (r := 48) rfl (by decide) (by decide) rfl ?_
  refine x_push 0 rfl ?_
  refine x_aload rfl ?_
  refine x_getR (r := 4) rfl (by decide) (by decide) rfl ?_
  refine x_push 0 rfl ?_
  refine x_push 192 rfl ?_
  refine x_copyG y_a53 y_a9 (by decide) (by decide) C4 (by decide) F4 (by omega) (by omega) (by omega) (by omega) (by omega) (Nat.le_of_ble_eq_true rfl) (fun S5 e5 C5 F5 => ?_)
  refine x_aload rfl ?_
  refine x_getR (r := 48) rfl (by decide) (by decide) rfl ?_
  refine x_push 0 rfl ?_
  refine x_aload rfl ?_
  refine x_getR (r := 4) rfl (by decide) (by decide) rfl ?_
  refine x_push 0 rfl ?_
  refine x_push 90 rfl ?_
  refine x_copyG y_a54 y_a10 (by decide) (by decide) C5 (by decide) F5 (by omega) (by omega) (by omega) (by omega) (by omega) (Nat.le_of_ble_eq_true rfl) (fun S6 e6 C6 F6 => ?_)
  refine x_aload rfl ?_
  refine x_aload rfl ?_
  refine x_fall ?_
  refine x_blk (b := 1) (a_71 E) rfl ?_
  unfold b_71_1
  refine x_getIG y_f48_6 C6 ?_
  have q7_0 : S6 48 6 = S5 48 6 := x_cp_nr e6 (by decide)
  have q7_1 : S5 48 6 = S4 48 6 := x_cp_nr e5 (by decide)
  have q7_2 : S4 48 6 = S3 48 6 := x_cp_nr e4 (by decide)
  have q7_3 : S3 48 6 = S2 48 6 := x_cp_nr e3 (by decide)
  have q7_4 : S2 48 6 = S1 48 6 := x_cp_nr e2 (by decide)
  have q7_5 : S1 48 6 = σ 48 6 := x_cp_nr e1 (by decide)
  simp only [q7_0, q7_1, q7_2, q7_3, q7_4, q7_5]
  intro g7a g7b
  refine x_putIG y_f4_6 ⟨by decide, rfl⟩ (by decide) C6 (by decide) F6 (by omega) (by omega) (fun S8 e8 C8 F8 => ?_)
  refine x_vret ?_
  refine k _ C8 (fun c m hc => (x_up_ne e8 (fun z => hc (by omega))).trans ((x_cp_nr e6 (fun z => hc (by omega))).trans ((x_cp_nr e5 (fun z => hc (by omega))).trans ((x_cp_nr e4 (fun z => hc (by omega))).trans ((x_cp_nr e3 (fun z => hc (by omega))).trans ((x_cp_nr e2 (fun z => hc (by omega))).trans ((x_cp_nr e1 (fun z => hc (by omega))).trans (rfl)))))))) ⟨fun m hm => y_cv_x (fun h => (x_up_nr e8 (by decide)).trans ((x_cp_nr e6 (by decide)).trans ((x_cp_nr e5 (by decide)).trans ((x_cp_nr e4 (by decide)).trans ((x_cp_in e3 (h)).trans ((x_cp_nr e2 (by decide)).trans (x_cp_nr e1 (by decide)))))))) (fun h h' => (x_up_nr e8 (by decide)).trans ((x_cp_nr e6 (by decide)).trans ((x_cp_nr e5 (by decide)).trans ((x_cp_nr e4 (by decide)).trans ((x_cp_nr e3 (by decide)).trans ((x_cp_in e2 (by omega)).trans (x_cp_nr e1 (by decide)))))))) (fun h h' => (x_up_nr e8 (by decide)).trans ((x_cp_nr e6 (by decide)).trans ((x_cp_nr e5 (by decide)).trans ((x_cp_nr e4 (by decide)).trans ((x_cp_nr e3 (by decide)).trans ((x_cp_nr e2 (by decide)).trans (x_cp_in e1 (by omega)))))))) (fun h h' => (x_up_nr e8 (by decide)).trans ((x_cp_nr e6 (by decide)).trans ((x_cp_nr e5 (by decide)).trans ((x_cp_in e4 (y_ce_b (by omega))).trans ((x_cp_nr e3 (by decide)).trans ((x_cp_nr e2 (by decide)).trans (x_cp_nr e1 (by decide)))))))) (fun _ => (x_up_at e8)) (fun h => (x_up_nr e8 (by decide)).trans ((x_cp_nr e6 (by decide)).trans ((x_cp_in e5 (by omega)).trans ((x_cp_nr e4 (by decide)).trans ((x_cp_nr e3 (by decide)).trans ((x_cp_nr e2 (by decide)).trans (x_cp_nr e1 (by decide)))))))), fun m hm => (x_up_nr e8 (by decide)).trans ((x_cp_in e6 (hm)).trans ((x_cp_nr e5 (by decide)).trans ((x_cp_nr e4 (by decide)).trans ((x_cp_nr e3 (by decide)).trans ((x_cp_nr e2 (by decide)).trans (x_cp_nr e1 (by decide)))))))⟩
theorem kx_71_4_55 {E : q_E} {σ : x_S} {Q : Option q_V → x_S → Prop} (C0 : y_CI σ) (k : ∀ τ, y_CI τ → (∀ c m, ¬ (4 ≤ c ∧ c ≤ 10) → τ c m = σ c m) → y_CP σ 55 τ 4 → Q none τ) : x_P E 71 [x_R 4, x_R 55] σ Q := by
  refine x_Mt e_71 (h_71 E) (Nat.le_of_ble_eq_true rfl) t_71 rfl ?_
  refine x_blk (b := 0) (a_71 E) rfl ?_
  unfold b_71_0
  refine x_aload rfl ?_
  refine x_getR (r := 55) rfl (by decide) (by decide) rfl ?_
  refine x_push 0 rfl ?_
  refine x_aload rfl ?_
  refine x_getR (r := 4) rfl (by decide) (by decide) rfl ?_
  refine x_push 0 rfl ?_
  refine x_push 33 rfl ?_
  refine x_copyG y_a56 y_a5 (by decide) (by decide) C0 (by decide) (y_fr_rf (lo := 0) (hi := 138)) (by omega) (by omega) (by omega) (by omega) (by omega) (Nat.le_of_ble_eq_true rfl) (fun S1 e1 C1 F1 => ?_)
  refine x_aload rfl ?_
  refine x_getR (r := 55) rfl (by decide) (by decide) rfl ?_
  refine x_push 0 rfl ?_
  refine x_aload rfl ?_
  refine x_getR (r := 4) rfl (by decide) (by decide) rfl ?_
  refine x_push 0 rfl ?_
  refine x_push 3 rfl ?_
  refine x_copyG y_a57 y_a6 (by decide) (by decide) C1 (by decide) F1 (by omega) (by omega) (by omega) (by omega) (by omega) (Nat.le_of_ble_eq_true rfl) (fun S2 e2 C2 F2 => ?_)
  refine x_aload rfl ?_
  refine x_getR (r := 55) rfl (by decide) (by decide) rfl ?_
  refine x_push 0 rfl ?_
  refine x_aload rfl ?_
  refine x_getR (r := 4) rfl (by decide) (by decide) rfl ?_
  refine x_push 0 rfl ?_
  refine x_push 2 rfl ?_
  refine x_copyG y_a58 y_a7 (by decide) (by decide) C2 (by decide) F2 (by omega) (by omega) (by omega) (by omega) (by omega) (Nat.le_of_ble_eq_true rfl) (fun S3 e3 C3 F3 => ?_)
  refine x_aload rfl ?_
  refine x_getR (r := 55) rfl (by decide) (by decide) rfl ?_
  refine x_push 0 rfl ?_
  refine x_aload rfl ?_
  refine x_getR (r := 4) rfl (by decide) (by decide) rfl ?_
  refine x_push 0 rfl ?_
  refine x_push 40 rfl ?_
  refine x_copyG y_a59 y_a8 (by decide) (by decide) C3 (by decide) F3 (by omega) (by omega) (by omega) (by omega) (by omega) (Nat.le_of_ble_eq_true rfl) (fun S4 e4 C4 F4 => ?_)
  refine x_aload rfl ?_
  refine x_getR (r := 55) rfl (by decide) (by decide) rfl ?_
  refine x_push 0 rfl ?_
  refine x_aload rfl ?_
  refine x_getR (r := 4) rfl (by decide) (by decide) rfl ?_
  refine x_push 0 rfl ?_
  refine x_push 192 rfl ?_
  refine x_copyG y_a60 y_a9 (by decide) (by decide) C4 (by decide) F4 (by omega) (by omega) (by omega) (by omega) (by omega) (Nat.le_of_ble_eq_true rfl) (fun S5 e5 C5 F5 => ?_)
  refine x_aload rfl ?_
  refine x_getR (r := 55) rfl (by decide) (by decide) rfl ?_
  refine x_push 0 rfl ?_
  refine x_aload rfl ?_
  refine x_getR (r := 4) rfl (by decide) (by decide) rfl ?_
  refine x_push 0 rfl ?_
  refine x_push 90 rfl ?_
  refine x_copyG y_a61 y_a10 (by decide) (by decide) C5 (by decide) F5 (by omega) (by omega) (by omega) (by omega) (by omega) (Nat.le_of_ble_eq_true rfl) (fun S6 e6 C6 F6 => ?_)
  refine x_aload rfl ?_
  refine x_aload rfl ?_
  refine x_fall ?_
  refine x_blk (b := 1) (a_71 E) rfl ?_
  unfold b_71_1
  refine x_getIG y_f55_6 C6 ?_
  have q7_0 : S6 55 6 = S5 55 6 := x_cp_nr e6 (by decide)
  have q7_1 : S5 55 6 = S4 55 6 := x_cp_nr e5 (by decide)
  have q7_2 : S4 55 6 = S3 55 6 := x_cp_nr e4 (by decide)
  have q7_3 : S3 55 6 = S2 55 6 := x_cp_nr e3 (by decide)
  have q7_4 : S2 55 6 = S1 55 6 := x_cp_nr e2 (by decide)
  have q7_5 : S1 55 6 = σ 55 6 := x_cp_nr e1 (by decide)
  simp only [q7_0, q7_1, q7_2, q7_3, q7_4, q7_5]
  intro g7a g7b
  refine x_putIG y_f4_6 ⟨by decide, rfl⟩ (by decide) C6 (by decide) F6 (by omega) (by omega) (fun S8 e8 C8 F8 => ?_)
  refine x_vret ?_
  refine k _ C8 (fun c m hc => (x_up_ne e8 (fun z => hc (by omega))).trans ((x_cp_nr e6 (fun z => hc (by omega))).trans ((x_cp_nr e5 (fun z => hc (by omega))).trans ((x_cp_nr e4 (fun z => hc (by omega))).trans ((x_cp_nr e3 (fun z => hc (by omega))).trans ((x_cp_nr e2 (fun z => hc (by omega))).trans ((x_cp_nr e1 (fun z => hc (by omega))).trans (rfl)))))))) ⟨fun m hm => y_cv_x (fun h => (x_up_nr e8 (by decide)).trans ((x_cp_nr e6 (by decide)).trans ((x_cp_nr e5 (by decide)).trans ((x_cp_nr e4 (by decide)).trans ((x_cp_in e3 (h)).trans ((x_cp_nr e2 (by decide)).trans (x_cp_nr e1 (by decide)))))))) (fun h h' => (x_up_nr e8 (by decide)).trans ((x_cp_nr e6 (by decide)).trans ((x_cp_nr e5 (by decide)).trans ((x_cp_nr e4 (by decide)).trans ((x_cp_nr e3 (by decide)).trans ((x_cp_in e2 (by omega)).trans (x_cp_nr e1 (by decide)))))))) (fun h h' => (x_up_nr e8 (by decide)).trans ((x_cp_nr e6 (by decide)).trans ((x_cp_nr e5 (by decide)).trans ((x_cp_nr e4 (by decide)).trans ((x_cp_nr e3 (by decide)).trans ((x_cp_nr e2 (by decide)).trans (x_cp_in e1 (by omega)))))))) (fun h h' => (x_up_nr e8 (by decide)).trans ((x_cp_nr e6 (by decide)).trans ((x_cp_nr e5 (by decide)).trans ((x_cp_in e4 (y_ce_b (by omega))).trans ((x_cp_nr e3 (by decide)).trans ((x_cp_nr e2 (by decide)).trans (x_cp_nr e1 (by decide)))))))) (fun _ => (x_up_at e8)) (fun h => (x_up_nr e8 (by decide)).trans ((x_cp_nr e6 (by decide)).trans ((x_cp_in e5 (by omega)).trans ((x_cp_nr e4 (by decide)).trans ((x_cp_nr e3 (by decide)).trans ((x_cp_nr e2 (by decide)).trans (x_cp_nr e1 (by decide)))))))), fun m hm => (x_up_nr e8 (by decide)).trans ((x_cp_in e6 (hm)).trans ((x_cp_nr e5 (by decide)).trans ((x_cp_nr e4 (by decide)).trans ((x_cp_nr e3 (by decide)).trans ((x_cp_nr e2 (by decide)).trans (x_cp_nr e1 (by decide)))))))⟩
theorem kx_71_4_62 {E : q_E} {σ : x_S} {Q : Option q_V → x_S → Prop} (C0 : y_CI σ) (k : ∀ τ, y_CI τ → (∀ c m, ¬ (4 ≤ c ∧ c ≤ 10) → τ c m = σ c m) → y_CP σ 62 τ 4 → Q none τ) : x_P E 71 [x_R 4, x_R 62] σ Q := by
  refine x_Mt e_71 (h_71 E) (Nat.le_of_ble_eq_true rfl) t_71 rfl ?_
  refine x_blk (b := 0) (a_71 E) rfl ?_
  unfold b_71_0
  refine x_aload rfl ?_
  refine x_getR (r := 62) rfl (by decide) (by decide) rfl ?_
  refine x_push 0 rfl ?_
  refine x_aload rfl ?_
  refine x_getR (r := 4) rfl (by decide) (by decide) rfl ?_
  refine x_push 0 rfl ?_
  refine x_push 33 rfl ?_
  refine x_copyG y_a63 y_a5 (by decide) (by decide) C0 (by decide) (y_fr_rf (lo := 0) (hi := 138)) (by omega) (by omega) (by omega) (by omega) (by omega) (Nat.le_of_ble_eq_true rfl) (fun S1 e1 C1 F1 => ?_)
  refine x_aload rfl ?_
  refine x_getR (r := 62) rfl (by decide) (by decide) rfl ?_
  refine x_push 0 rfl ?_
  refine x_aload rfl ?_
  refine x_getR (r := 4) rfl (by decide) (by decide) rfl ?_
  refine x_push 0 rfl ?_
  refine x_push 3 rfl ?_
  refine x_copyG y_a64 y_a6 (by decide) (by decide) C1 (by decide) F1 (by omega) (by omega) (by omega) (by omega) (by omega) (Nat.le_of_ble_eq_true rfl) (fun S2 e2 C2 F2 => ?_)
  refine x_aload rfl ?_
  refine x_getR (r := 62) rfl (by decide) (by decide) rfl ?_
  refine x_push 0 rfl ?_
  refine x_aload rfl ?_
  refine x_getR (r := 4) rfl (by decide) (by decide) rfl ?_
  refine x_push 0 rfl ?_
  refine x_push 2 rfl ?_
  refine x_copyG y_a65 y_a7 (by decide) (by decide) C2 (by decide) F2 (by omega) (by omega) (by omega) (by omega) (by omega) (Nat.le_of_ble_eq_true rfl) (fun S3 e3 C3 F3 => ?_)
  refine x_aload rfl ?_
  refine x_getR (r := 62) rfl (by decide) (by decide) rfl ?_
  refine x_push 0 rfl ?_
  refine x_aload rfl ?_
  refine x_getR (r := 4) rfl (by decide) (by decide) rfl ?_
  refine x_push 0 rfl ?_
  refine x_push 40 rfl ?_
  refine x_copyG y_a66 y_a8 (by decide) (by decide) C3 (by decide) F3 (by omega) (by omega) (by omega) (by omega) (by omega) (Nat.le_of_ble_eq_true rfl) (fun S4 e4 C4 F4 => ?_)
  refine x_aload rfl ?_
  refine x_getR (r := 62) rfl (by decide) (by decide) rfl ?_
  refine x_push 0 rfl ?_
  refine x_aload rfl ?_
  refine x_getR (r := 4) rfl (by decide) (by decide) rfl ?_
  refine x_push 0 rfl ?_
  refine x_push 192 rfl ?_
  refine x_copyG y_a67 y_a9 (by decide) (by decide) C4 (by decide) F4 (by omega) (by omega) (by omega) (by omega) (by omega) (Nat.le_of_ble_eq_true rfl) (fun S5 e5 C5 F5 => ?_)
  refine x_aload rfl ?_
  refine x_getR (r := 62) rfl (by decide) (by decide) rfl ?_
  refine x_push 0 rfl ?_
  refine x_aload rfl ?_
  refine x_getR (r := 4) rfl (by decide) (by decide) rfl ?_
  refine x_push 0 rfl ?_
  refine x_push 90 rfl ?_
  refine x_copyG y_a68 y_a10 (by decide) (by decide) C5 (by decide) F5 (by omega) (by omega) (by omega) (by omega) (by omega) (Nat.le_of_ble_eq_true rfl) (fun S6 e6 C6 F6 => ?_)
  refine x_aload rfl ?_
  refine x_aload rfl ?_
  refine x_fall ?_
  refine x_blk (b := 1) (a_71 E) rfl ?_
  unfold b_71_1
  refine x_getIG y_f62_6 C6 ?_
  have q7_0 : S6 62 6 = S5 62 6 := x_cp_nr e6 (by decide)
  have q7_1 : S5 62 6 = S4 62 6 := x_cp_nr e5 (by decide)
  have q7_2 : S4 62 6 = S3 62 6 := x_cp_nr e4 (by decide)
  have q7_3 : S3 62 6 = S2 62 6 := x_cp_nr e3 (by decide)
  have q7_4 : S2 62 6 = S1 62 6 := x_cp_nr e2 (by decide)
  have q7_5 : S1 62 6 = σ 62 6 := x_cp_nr e1 (by decide)
  simp only [q7_0, q7_1, q7_2, q7_3, q7_4, q7_5]
  intro g7a g7b
  refine x_putIG y_f4_6 ⟨by decide, rfl⟩ (by decide) C6 (by decide) F6 (by omega) (by omega) (fun S8 e8 C8 F8 => ?_)
  refine x_vret ?_
  refine k _ C8 (fun c m hc => (x_up_ne e8 (fun z => hc (by omega))).trans ((x_cp_nr e6 (fun z => hc (by omega))).trans ((x_cp_nr e5 (fun z => hc (by omega))).trans ((x_cp_nr e4 (fun z => hc (by omega))).trans ((x_cp_nr e3 (fun z => hc (by omega))).trans ((x_cp_nr e2 (fun z => hc (by omega))).trans ((x_cp_nr e1 (fun z => hc (by omega))).trans (rfl)))))))) ⟨fun m hm => y_cv_x (fun h => (x_up_nr e8 (by decide)).trans ((x_cp_nr e6 (by decide)).trans ((x_cp_nr e5 (by decide)).trans ((x_cp_nr e4 (by decide)).trans ((x_cp_in e3 (h)).trans ((x_cp_nr e2 (by decide)).trans (x_cp_nr e1 (by decide)))))))) (fun h h' => (x_up_nr e8 (by decide)).trans ((x_cp_nr e6 (by decide)).trans ((x_cp_nr e5 (by decide)).trans ((x_cp_nr e4 (by decide)).trans ((x_cp_nr e3 (by decide)).trans ((x_cp_in e2 (by omega)).trans (x_cp_nr e1 (by decide)))))))) (fun h h' => (x_up_nr e8 (by decide)).trans ((x_cp_nr e6 (by decide)).trans ((x_cp_nr e5 (by decide)).trans ((x_cp_nr e4 (by decide)).trans ((x_cp_nr e3 (by decide)).trans ((x_cp_nr e2 (by decide)).trans (x_cp_in e1 (by omega)))))))) (fun h h' => (x_up_nr e8 (by decide)).trans ((x_cp_nr e6 (by decide)).trans ((x_cp_nr e5 (by decide)).trans ((x_cp_in e4 (y_ce_b (by omega))).trans ((x_cp_nr e3 (by decide)).trans ((x_cp_nr e2 (by decide)).trans (x_cp_nr e1 (by decide)))))))) (fun _ => (x_up_at e8)) (fun h => (x_up_nr e8 (by decide)).trans ((x_cp_nr e6 (by decide)).trans ((x_cp_in e5 (by omega)).trans ((x_cp_nr e4 (by decide)).trans ((x_cp_nr e3 (by decide)).trans ((x_cp_nr e2 (by decide)).trans (x_cp_nr e1 (by decide)))))))), fun m hm => (x_up_nr e8 (by decide)).trans ((x_cp_in e6 (hm)).trans ((x_cp_nr e5 (by decide)).trans ((x_cp_nr e4 (by decide)).trans ((x_cp_nr e3 (by decide)).trans ((x_cp_nr e2 (by decide)).trans (x_cp_nr e1 (by decide)))))))⟩
theorem kx_71_4_69 {E : q_E} {σ : x_S} {Q : Option q_V → x_S → Prop} (C0 : y_CI σ) (k : ∀ τ, y_CI τ → (∀ c m, ¬ (4 ≤ c ∧ c ≤ 10) → τ c m = σ c m) → y_CP σ 69 τ 4 → Q none τ) : x_P E 71 [x_R 4, x_R 69] σ Q := by
  refine x_Mt e_71 (h_71 E) (Nat.le_of_ble_eq_true rfl) t_71 rfl ?_
  refine x_blk (b := 0) (a_71 E) rfl ?_
  unfold b_71_0
  refine x_aload rfl ?_
  refine x_getR (r := 69) rfl (by decide) (by decide) rfl ?_
  refine x_push 0 rfl ?_
  refine x_aload rfl ?_
  refine x_getR (r := 4) rfl (by decide) (by decide) rfl ?_
  refine x_push 0 rfl ?_
  refine x_push 33 rfl ?_
  refine x_copyG y_a70 y_a5 (by decide) (by decide) C0 (by decide) (y_fr_rf (lo := 0) (hi := 138)) (by omega) (by omega) (by omega) (by omega) (by omega) (Nat.le_of_ble_eq_true rfl) (fun S1 e1 C1 F1 => ?_)
  refine x_aload rfl ?_
  refine x_getR (r := 69) rfl (by decide) (by decide) rfl ?_
  refine x_push 0 rfl ?_
  refine x_aload rfl ?_
  refine x_getR (r := 4) rfl (by decide) (by decide) rfl ?_
  refine x_push 0 rfl ?_
  refine x_push 3 rfl ?_
  refine x_copyG y_a71 y_a6 (by decide) (by decide) C1 (by decide) F1 (by omega) (by omega) (by omega) (by omega) (by omega) (Nat.le_of_ble_eq_true rfl) (fun S2 e2 C2 F2 => ?_)
  refine x_aload rfl ?_
  refine x_getR (r := 69) rfl (by decide) (by decide) rfl ?_
  refine x_push 0 rfl ?_
  refine x_aload rfl ?_
  refine x_getR (r := 4) rfl (by decide) (by decide) rfl ?_
  refine x_push 0 rfl ?_
  refine x_push 2 rfl ?_
  refine x_copyG y_a72 y_a7 (by decide) (by decide) C2 (by decide) F2 (by omega) (by omega) (by omega) (by omega) (by omega) (Nat.le_of_ble_eq_true rfl) (fun S3 e3 C3 F3 => ?_)
  refine x_aload rfl ?_
  refine x_getR (r := 69) rfl (by decide) (by decide) rfl ?_
  refine x_push 0 rfl ?_
  refine x_aload rfl ?_
  refine x_getR (r := 4) rfl (by decide) (by decide) rfl ?_
  refine x_push 0 rfl ?_
  refine x_push 40 rfl ?_
  refine x_copyG y_a73 y_a8 (by decide) (by decide) C3 (by decide) F3 (by omega) (by omega) (by omega) (by omega) (by omega) (Nat.le_of_ble_eq_true rfl) (fun S4 e4 C4 F4 => ?_)
  refine x_aload rfl ?_
  refine x_getR (r := 69) rfl (by decide) (by decide) rfl ?_
  refine x_push 0 rfl ?_
  refine x_aload rfl ?_
  refine x_getR (r := 4) rfl (by decide) (by decide) rfl ?_
  refine x_push 0 rfl ?_
  refine x_push 192 rfl ?_
  refine x_copyG y_a74 y_a9 (by decide) (by decide) C4 (by decide) F4 (by omega) (by omega) (by omega) (by omega) (by omega) (Nat.le_of_ble_eq_true rfl) (fun S5 e5 C5 F5 => ?_)
  refine x_aload rfl ?_
  refine x_getR (r := 69) rfl (by decide) (by decide) rfl ?_
  refine x_push 0 rfl ?_
  refine x_aload rfl ?_
  refine x_getR (r := 4) rfl (by decide) (by decide) rfl ?_
  refine x_push 0 rfl ?_
  refine x_push 90 rfl ?_
  refine x_copyG y_a75 y_a10 (by decide) (by decide) C5 (by decide) F5 (by omega) (by omega) (by omega) (by omega) (by omega) (Nat.le_of_ble_eq_true rfl) (fun S6 e6 C6 F6 => ?_)
  refine x_aload rfl ?_
  refine x_aload rfl ?_
  refine x_fall ?_
  refine x_blk (b := 1) (a_71 E) rfl ?_
  unfold b_71_1
  refine x_getIG y_f69_6 C6 ?_
  have q7_0 : S6 69 6 = S5 69 6 := x_cp_nr e6 (by decide)
  have q7_1 : S5 69 6 = S4 69 6 := x_cp_nr e5 (by decide)
  have q7_2 : S4 69 6 = S3 69 6 := x_cp_nr e4 (by decide)
  have q7_3 : S3 69 6 = S2 69 6 := x_cp_nr e3 (by decide)
  have q7_4 : S2 69 6 = S1 69 6 := x_cp_nr e2 (by decide)
  have q7_5 : S1 69 6 = σ 69 6 := x_cp_nr e1 (by decide)
  simp only [q7_0, q7_1, q7_2, q7_3, q7_4, q7_5]
  intro g7a g7b
  refine x_putIG y_f4_6 ⟨by decide, rfl⟩ (by decide) C6 (by decide) F6 (by omega) (by omega) (fun S8 e8 C8 F8 => ?_)
  refine x_vret ?_
  refine k _ C8 (fun c m hc => (x_up_ne e8 (fun z => hc (by omega))).trans ((x_cp_nr e6 (fun z => hc (by omega))).trans ((x_cp_nr e5 (fun z => hc (by omega))).trans ((x_cp_nr e4 (fun z => hc (by omega))).trans ((x_cp_nr e3 (fun z => hc (by omega))).trans ((x_cp_nr e2 (fun z => hc (by omega))).trans ((x_cp_nr e1 (fun z => hc (by omega))).trans (rfl)))))))) ⟨fun m hm => y_cv_x (fun h => (x_up_nr e8 (by decide)).trans ((x_cp_nr e6 (by decide)).trans ((x_cp_nr e5 (by decide)).trans ((x_cp_nr e4 (by decide)).trans ((x_cp_in e3 (h)).trans ((x_cp_nr e2 (by decide)).trans (x_cp_nr e1 (by decide)))))))) (fun h h' => (x_up_nr e8 (by decide)).trans ((x_cp_nr e6 (by decide)).trans ((x_cp_nr e5 (by decide)).trans ((x_cp_nr e4 (by decide)).trans ((x_cp_nr e3 (by decide)).trans ((x_cp_in e2 (by omega)).trans (x_cp_nr e1 (by decide)))))))) (fun h h' => (x_up_nr e8 (by decide)).trans ((x_cp_nr e6 (by decide)).trans ((x_cp_nr e5 (by decide)).trans ((x_cp_nr e4 (by decide)).trans ((x_cp_nr e3 (by decide)).trans ((x_cp_nr e2 (by decide)).trans (x_cp_in e1 (by omega)))))))) (fun h h' => (x_up_nr e8 (by decide)).trans ((x_cp_nr e6 (by decide)).trans ((x_cp_nr e5 (by decide)).trans ((x_cp_in e4 (y_ce_b (by omega))).trans ((x_cp_nr e3 (by decide)).trans ((x_cp_nr e2 (by decide)).trans (x_cp_nr e1 (by decide)))))))) (fun _ => (x_up_at e8)) (fun h => (x_up_nr e8 (by decide)).trans ((x_cp_nr e6 (by decide)).trans ((x_cp_in e5 (by omega)).trans ((x_cp_nr e4 (by decide)).trans ((x_cp_nr e3 (by decide)).trans ((x_cp_nr e2 (by decide)).trans (x_cp_nr e1 (by decide)))))))), fun m hm => (x_up_nr e8 (by decide)).trans ((x_cp_in e6 (hm)).trans ((x_cp_nr e5 (by decide)).trans ((x_cp_nr e4 (by decide)).trans ((x_cp_nr e3 (by decide)).trans ((x_cp_nr e2 (by decide)).trans (x_cp_nr e1 (by decide)))))))⟩
theorem kx_71_4_78 {E : q_E} {σ : x_S} {Q : Option q_V → x_S → Prop} (C0 : y_CI σ) (k : ∀ τ, y_CI τ → (∀ c m, ¬ (4 ≤ c ∧ c ≤ 10) → τ c m = σ c m) → y_CP σ 78 τ 4 → Q none τ) : x_P E 71 [x_R 4, x_R 78] σ Q := by
  refine x_Mt e_71 (h_71 E) (Nat.le_of_ble_eq_true rfl) t_71 rfl ?_
  refine x_blk (b := 0) (a_71 E) rfl ?_
  unfold b_71_0
  refine x_aload rfl ?_
  refine x_getR (r := 78) rfl (by decide) (by decide) rfl ?_
  refine x_push 0 rfl ?_
  refine x_aload rfl ?_
  refine x_getR (r := 4) rfl (by decide) (by decide) rfl ?_
  refine x_push 0 rfl ?_
  refine x_push 33 rfl ?_
  refine x_copyG y_a79 y_a5 (by decide) (by decide) C0 (by decide) (y_fr_rf (lo := 0) (hi := 138)) (by omega) (by omega) (by omega) (by omega) (by omega) (Nat.le_of_ble_eq_true rfl) (fun S1 e1 C1 F1 => ?_)
  refine x_aload rfl ?_
  refine x_getR (r := 78) rfl (by decide) (by decide) rfl ?_
  refine x_push 0 rfl ?_
  refine x_aload rfl ?_
  refine x_getR (r := 4) rfl (by decide) (by decide) rfl ?_
  refine x_push 0 rfl ?_
  refine x_push 3 rfl ?_
  refine x_copyG y_a80 y_a6 (by decide) (by decide) C1 (by decide) F1 (by omega) (by omega) (by omega) (by omega) (by omega) (Nat.le_of_ble_eq_true rfl) (fun S2 e2 C2 F2 => ?_)
  refine x_aload rfl ?_
  refine x_getR (r := 78) rfl (by decide) (by decide) rfl ?_
  refine x_push 0 rfl ?_
  refine x_aload rfl ?_
  refine x_getR (r := 4) rfl (by decide) (by decide) rfl ?_
  refine x_push 0 rfl ?_
  refine x_push 2 rfl ?_
  refine x_copyG y_a81 y_a7 (by decide) (by decide) C2 (by decide) F2 (by omega) (by omega) (by omega) (by omega) (by omega) (Nat.le_of_ble_eq_true rfl) (fun S3 e3 C3 F3 => ?_)
  refine x_aload rfl ?_
  refine x_getR (r := 78) rfl (by decide) (by decide) rfl ?_
  refine x_push 0 rfl ?_
  refine x_aload rfl ?_
  refine x_getR (r := 4) rfl (by decide) (by decide) rfl ?_
  refine x_push 0 rfl ?_
  refine x_push 40 rfl ?_
  refine x_copyG y_a82 y_a8 (by decide) (by decide) C3 (by decide) F3 (by omega) (by omega) (by omega) (by omega) (by omega) (Nat.le_of_ble_eq_true rfl) (fun S4 e4 C4 F4 => ?_)
  refine x_aload rfl ?_
  refine x_getR (r := 78) rfl (by decide) (by decide) rfl ?_
  refine x_push 0 rfl ?_
  refine x_aload rfl ?_
  refine x_getR (r := 4) rfl (by decide) (by decide) rfl ?_
  refine x_push 0 rfl ?_
  refine x_push 192 rfl ?_
  refine x_copyG y_a83 y_a9 (by decide) (by decide) C4 (by decide) F4 (by omega) (by omega) (by omega) (by omega) (by omega) (Nat.le_of_ble_eq_true rfl) (fun S5 e5 C5 F5 => ?_)
  refine x_aload rfl ?_
  refine x_getR (r := 78) rfl (by decide) (by decide) rfl ?_
  refine x_push 0 rfl ?_
  refine x_aload rfl ?_
  refine x_getR (r := 4) rfl (by decide) (by decide) rfl ?_
  refine x_push 0 rfl ?_
  refine x_push 90 rfl ?_
  refine x_copyG y_a84 y_a10 (by decide) (by decide) C5 (by decide) F5 (by omega) (by omega) (by omega) (by omega) (by omega) (Nat.le_of_ble_eq_true rfl) (fun S6 e6 C6 F6 => ?_)
  refine x_aload rfl ?_
  refine x_aload rfl ?_
  refine x_fall ?_
  refine x_blk (b := 1) (a_71 E) rfl ?_
  unfold b_71_1
  refine x_getIG y_f78_6 C6 ?_
  have q7_0 : S6 78 6 = S5 78 6 := x_cp_nr e6 (by decide)
  have q7_1 : S5 78 6 = S4 78 6 := x_cp_nr e5 (by decide)
  have q7_2 : S4 78 6 = S3 78 6 := x_cp_nr e4 (by decide)
  have q7_3 : S3 78 6 = S2 78 6 := x_cp_nr e3 (by decide)
  have q7_4 : S2 78 6 = S1 78 6 := x_cp_nr e2 (by decide)
  have q7_5 : S1 78 6 = σ 78 6 := x_cp_nr e1 (by decide)
  simp only [q7_0, q7_1, q7_2, q7_3, q7_4, q7_5]
  intro g7a g7b
  refine x_putIG y_f4_6 ⟨by decide, rfl⟩ (by decide) C6 (by decide) F6 (by omega) (by omega) (fun S8 e8 C8 F8 => ?_)
  refine x_vret ?_
  refine k _ C8 (fun c m hc => (x_up_ne e8 (fun z => hc (by omega))).trans ((x_cp_nr e6 (fun z => hc (by omega))).trans ((x_cp_nr e5 (fun z => hc (by omega))).trans ((x_cp_nr e4 (fun z => hc (by omega))).trans ((x_cp_nr e3 (fun z => hc (by omega))).trans ((x_cp_nr e2 (fun z => hc (by omega))).trans ((x_cp_nr e1 (fun z => hc (by omega))).trans (rfl)))))))) ⟨fun m hm => y_cv_x (fun h => (x_up_nr e8 (by decide)).trans ((x_cp_nr e6 (by decide)).trans ((x_cp_nr e5 (by decide)).trans ((x_cp_nr e4 (by decide)).trans ((x_cp_in e3 (h)).trans ((x_cp_nr e2 (by decide)).trans (x_cp_nr e1 (by decide)))))))) (fun h h' => (x_up_nr e8 (by decide)).trans ((x_cp_nr e6 (by decide)).trans ((x_cp_nr e5 (by decide)).trans ((x_cp_nr e4 (by decide)).trans ((x_cp_nr e3 (by decide)).trans ((x_cp_in e2 (by omega)).trans (x_cp_nr e1 (by decide)))))))) (fun h h' => (x_up_nr e8 (by decide)).trans ((x_cp_nr e6 (by decide)).trans ((x_cp_nr e5 (by decide)).trans ((x_cp_nr e4 (by decide)).trans ((x_cp_nr e3 (by decide)).trans ((x_cp_nr e2 (by decide)).trans (x_cp_in e1 (by omega)))))))) (fun h h' => (x_up_nr e8 (by decide)).trans ((x_cp_nr e6 (by decide)).trans ((x_cp_nr e5 (by decide)).trans ((x_cp_in e4 (y_ce_b (by omega))).trans ((x_cp_nr e3 (by decide)).trans ((x_cp_nr e2 (by decide)).trans (x_cp_nr e1 (by decide)))))))) (fun _ => (x_up_at e8)) (fun h => (x_up_nr e8 (by decide)).trans ((x_cp_nr e6 (by decide)).trans ((x_cp_in e5 (by omega)).trans ((x_cp_nr e4 (by decide)).trans ((x_cp_nr e3 (by decide)).trans ((x_cp_nr e2 (by decide)).trans (x_cp_nr e1 (by decide)))))))), fun m hm => (x_up_nr e8 (by decide)).trans ((x_cp_in e6 (hm)).trans ((x_cp_nr e5 (by decide)).trans ((x_cp_nr e4 (by decide)).trans ((x_cp_nr e3 (by decide)).trans ((x_cp_nr e2 (by decide)).trans (x_cp_nr e1 (by decide)))))))⟩
theorem kx_71_4_85 {E : q_E} {σ : x_S} {Q : Option q_V → x_S → Prop} (C0 : y_CI σ) (k : ∀ τ, y_CI τ → (∀ c m, ¬ (4 ≤ c ∧ c ≤ 10) → τ c m = σ c m) → y_CP σ 85 τ 4 → Q none τ) : x_P E 71 [x_R 4, x_R 85] σ Q := by
  refine x_Mt e_71 (h_71 E) (Nat.le_of_ble_eq_true rfl) t_71 rfl ?_
  refine x_blk (b := 0) (a_71 E) rfl ?_
  unfold b_71_0
  refine x_aload rfl ?_
  refine x_getR (r := 85) rfl (by decide) (by decide) rfl ?_
  refine x_push 0 rfl ?_
  refine x_aload rfl ?_
  refine x_getR (r := 4) rfl (by decide) (by decide) rfl ?_
  refine x_push 0 rfl ?_
  refine x_push 33 rfl ?_
  refine x_copyG y_a86 y_a5 (by decide) (by decide) C0 (by decide) (y_fr_rf (lo := 0) (hi := 138)) (by omega) (by omega) (by omega) (by omega) (by omega) (Nat.le_of_ble_eq_true rfl) (fun S1 e1 C1 F1 => ?_)
  refine x_aload rfl ?_
  refine x_getR (r := 85) rfl (by decide) (by decide) rfl ?_
  refine x_push 0 rfl ?_
  refine x_aload rfl ?_
  refine x_getR (r := 4) rfl (by decide) (by decide) rfl ?_
  refine x_push 0 rfl ?_
  refine x_push 3 rfl ?_
  refine x_copyG y_a87 y_a6 (by decide) (by decide) C1 (by decide) F1 (by omega) (by omega) (by omega) (by omega) (by omega) (Nat.le_of_ble_eq_true rfl) (fun S2 e2 C2 F2 => ?_)
  refine x_aload rfl ?_
  refine x_getR (r := 85) rfl (by decide) (by decide) rfl ?_
  refine x_push 0 rfl ?_
  refine x_aload rfl ?_
  refine x_getR (r := 4) rfl (by decide) (by decide) rfl ?_
  refine x_push 0 rfl ?_
  refine x_push 2 rfl ?_
  refine x_copyG y_a88 y_a7 (by decide) (by decide) C2 (by decide) F2 (by omega) (by omega) (by omega) (by omega) (by omega) (Nat.le_of_ble_eq_true rfl) (fun S3 e3 C3 F3 => ?_)
  refine x_aload rfl ?_
  refine x_getR (r := 85) rfl (by decide) (by decide) rfl ?_
  refine x_push 0 rfl ?_
  refine x_aload rfl ?_
  refine x_getR (r := 4) rfl (by decide) (by decide) rfl ?_
  refine x_push 0 rfl ?_
  refine x_push 40 rfl ?_
  refine x_copyG y_a89 y_a8 (by decide) (by decide) C3 (by decide) F3 (by omega) (by omega) (by omega) (by omega) (by omega) (Nat.le_of_ble_eq_true rfl) (fun S4 e4 C4 F4 => ?_)
  refine x_aload rfl ?_
  refine x_getR (r := 85) rfl (by decide) (by decide) rfl ?_
  refine x_push 0 rfl ?_
  refine x_aload rfl ?_
  refine x_getR (r := 4) rfl (by decide) (by decide) rfl ?_
  refine x_push 0 rfl ?_
  refine x_push 192 rfl ?_
  refine x_copyG y_a90 y_a9 (by decide) (by decide) C4 (by decide) F4 (by omega) (by omega) (by omega) (by omega) (by omega) (Nat.le_of_ble_eq_true rfl) (fun S5 e5 C5 F5 => ?_)
  refine x_aload rfl ?_
  refine x_getR (r := 85) rfl (by decide) (by decide) rfl ?_
  refine x_push 0 rfl ?_
  refine x_aload rfl ?_
  refine x_getR (r := 4) rfl (by decide) (by decide) rfl ?_
  refine x_push 0 rfl ?_
  refine x_push 90 rfl ?_
  refine x_copyG y_a91 y_a10 (by decide) (by decide) C5 (by decide) F5 (by omega) (by omega) (by omega) (by omega) (by omega) (Nat.le_of_ble_eq_true rfl) (fun S6 e6 C6 F6 => ?_)
  refine x_aload rfl ?_
  refine x_aload rfl ?_
  refine x_fall ?_
  refine x_blk (b := 1) (a_71 E) rfl ?_
  unfold b_71_1
  refine x_getIG y_f85_6 C6 ?_
  have q7_0 : S6 85 6 = S5 85 6 := x_cp_nr e6 (by decide)
  have q7_1 : S5 85 6 = S4 85 6 := x_cp_nr e5 (by decide)
  have q7_2 : S4 85 6 = S3 85 6 := x_cp_nr e4 (by decide)
  have q7_3 : S3 85 6 = S2 85 6 := x_cp_nr e3 (by decide)
  have q7_4 : S2 85 6 = S1 85 6 := x_cp_nr e2 (by decide)
  have q7_5 : S1 85 6 = σ 85 6 := x_cp_nr e1 (by decide)
  simp only [q7_0, q7_1, q7_2, q7_3, q7_4, q7_5]
  intro g7a g7b
  refine x_putIG y_f4_6 ⟨by decide, rfl⟩ (by decide) C6 (by decide) F6 (by omega) (by omega) (fun S8 e8 C8 F8 => ?_)
  refine x_vret ?_
  refine k _ C8 (fun c m hc => (x_up_ne e8 (fun z => hc (by omega))).trans ((x_cp_nr e6 (fun z => hc (by omega))).trans ((x_cp_nr e5 (fun z => hc (by omega))).trans ((x_cp_nr e4 (fun z => hc (by omega))).trans ((x_cp_nr e3 (fun z => hc (by omega))).trans ((x_cp_nr e2 (fun z => hc (by omega))).trans ((x_cp_nr e1 (fun z => hc (by omega))).trans (rfl)))))))) ⟨fun m hm => y_cv_x (fun h => (x_up_nr e8 (by decide)).trans ((x_cp_nr e6 (by decide)).trans ((x_cp_nr e5 (by decide)).trans ((x_cp_nr e4 (by decide)).trans ((x_cp_in e3 (h)).trans ((x_cp_nr e2 (by decide)).trans (x_cp_nr e1 (by decide)))))))) (fun h h' => (x_up_nr e8 (by decide)).trans ((x_cp_nr e6 (by decide)).trans ((x_cp_nr e5 (by decide)).trans ((x_cp_nr e4 (by decide)).trans ((x_cp_nr e3 (by decide)).trans ((x_cp_in e2 (by omega)).trans (x_cp_nr e1 (by decide)))))))) (fun h h' => (x_up_nr e8 (by decide)).trans ((x_cp_nr e6 (by decide)).trans ((x_cp_nr e5 (by decide)).trans ((x_cp_nr e4 (by decide)).trans ((x_cp_nr e3 (by decide)).trans ((x_cp_nr e2 (by decide)).trans (x_cp_in e1 (by omega)))))))) (fun h h' => (x_up_nr e8 (by decide)).trans ((x_cp_nr e6 (by decide)).trans ((x_cp_nr e5 (by decide)).trans ((x_cp_in e4 (y_ce_b (by omega))).trans ((x_cp_nr e3 (by decide)).trans ((x_cp_nr e2 (by decide)).trans (x_cp_nr e1 (by decide)))))))) (fun _ => (x_up_at e8)) (fun h => (x_up_nr e8 (by decide)).trans ((x_cp_nr e6 (by decide)).trans ((x_cp_in e5 (by omega)).trans ((x_cp_nr e4 (by decide)).trans ((x_cp_nr e3 (by decide)).trans ((x_cp_nr e2 (by decide)).trans (x_cp_nr e1 (by decide)))))))), fun m hm => (x_up_nr e8 (by decide)).trans ((x_cp_in e6 (hm)).trans ((x_cp_nr e5 (by decide)).trans ((x_cp_nr e4 (by decide)).trans ((x_cp_nr e3 (by decide)).trans ((x_cp_nr e2 (by decide)).trans (x_cp_nr e1 (by decide)))))))⟩
theorem kx_76_18 {E : q_E} {σ : x_S} {Q : Option q_V → x_S → Prop} {a1 : Int} (a1l : -1 ≤ a1) (a1h : a1 ≤ 8) (C0 : y_CI σ) (k : ∀ v, -1 ≤ v → v ≤ 15 → ((σ 18 1 + a1 < 8 ∧ v = σ 18 1 + a1) ∨ (¬ σ 18 1 + a1 < 8 ∧ v = σ 18 1 + a1 - 8)) → Q (some (x_I v)) σ) : x_P E 76 [x_R 18, x_I a1] σ Q := by
  refine x_Mt e_76 (h_76 E) (Nat.le_of_ble_eq_true rfl) t_76 rfl ?_
  refine x_blk (b := 0) (a_76 E) rfl ?_
  unfold b_76_0
  refine x_aload rfl ?_
  refine x_getIG y_f18_1 C0 ?_
  intro g1a g1b
  refine x_iload rfl ?_
  refine x_iadd ?_
  refine x_istore ?_
  refine x_iload rfl ?_
  refine x_aload rfl ?_
  refine x_getR (r := 18) rfl (by decide) (by decide) rfl ?_
  refine x_lenG (n := 8) (L := 8) rfl (by decide) rfl (by decide) rfl ?_
  refine x_icmp_ge (by omega) (by omega) (by omega) (by omega) (fun z2 => ?_) (fun z2 => ?_)
  · skip
    refine x_iload rfl ?_
    refine x_goto ?_
    refine x_blk (b := 2) (a_76 E) rfl ?_
    unfold b_76_2
    refine x_iret ?_
    exact k _ (by omega) (by omega) (by omega)
  · skip
    refine x_blk (b := 1) (a_76 E) rfl ?_
    unfold b_76_1
    refine x_iload rfl ?_
    refine x_aload rfl ?_
    refine x_getR (r := 18) rfl (by decide) (by decide) rfl ?_
    refine x_lenG (n := 8) (L := 8) rfl (by decide) rfl (by decide) rfl ?_
    refine x_isub ?_
    refine x_fall ?_
    refine x_blk (b := 2) (a_76 E) rfl ?_
    unfold b_76_2
    refine x_iret ?_
    exact k _ (by omega) (by omega) (by omega)
theorem kx_76_76 {E : q_E} {σ : x_S} {Q : Option q_V → x_S → Prop} {a1 : Int} (a1l : -1 ≤ a1) (a1h : a1 ≤ 8) (C0 : y_CI σ) (k : ∀ v, -1 ≤ v → v ≤ 15 → ((σ 76 1 + a1 < 2 ∧ v = σ 76 1 + a1) ∨ (¬ σ 76 1 + a1 < 2 ∧ v = σ 76 1 + a1 - 2)) → Q (some (x_I v)) σ) : x_P E 76 [x_R 76, x_I a1] σ Q := by
  refine x_Mt e_76 (h_76 E) (Nat.le_of_ble_eq_true rfl) t_76 rfl ?_
  refine x_blk (b := 0) (a_76 E) rfl ?_
  unfold b_76_0
  refine x_aload rfl ?_
  refine x_getIG y_f76_1 C0 ?_
  intro g1a g1b
  refine x_iload rfl ?_
  refine x_iadd ?_
  refine x_istore ?_
  refine x_iload rfl ?_
  refine x_aload rfl ?_
  refine x_getR (r := 76) rfl (by decide) (by decide) rfl ?_
  refine x_lenG (n := 2) (L := 2) rfl (by decide) rfl (by decide) rfl ?_
  refine x_icmp_ge (by omega) (by omega) (by omega) (by omega) (fun z2 => ?_) (fun z2 => ?_)
  · skip
    refine x_iload rfl ?_
    refine x_goto ?_
    refine x_blk (b := 2) (a_76 E) rfl ?_
    unfold b_76_2
    refine x_iret ?_
    exact k _ (by omega) (by omega) (by omega)
  · skip
    refine x_blk (b := 1) (a_76 E) rfl ?_
    unfold b_76_1
    refine x_iload rfl ?_
    refine x_aload rfl ?_
    refine x_getR (r := 76) rfl (by decide) (by decide) rfl ?_
    refine x_lenG (n := 2) (L := 2) rfl (by decide) rfl (by decide) rfl ?_
    refine x_isub ?_
    refine x_fall ?_
    refine x_blk (b := 2) (a_76 E) rfl ?_
    unfold b_76_2
    refine x_iret ?_
    exact k _ (by omega) (by omega) (by omega)
theorem kx_75_18_4 {E : q_E} {σ : x_S} {Q : Option q_V → x_S → Prop} (C0 : y_CI σ) (k : ∀ τ, y_CI τ → ∀ a : Nat, a < 8 → ((a : Int) = σ 18 1 + σ 18 2 ∨ (a : Int) = σ 18 1 + σ 18 2 - 8) → (∀ c m, (c < 18 ∨ (20 ≤ c ∧ ¬ (20 + 7 * a ≤ c ∧ c ≤ 26 + 7 * a))) → τ c m = σ c m) → y_CP σ 4 τ (20 + 7 * a) → ((σ 18 2 < 8 ∧ τ 18 2 = σ 18 2 + 1 ∧ τ 18 1 = σ 18 1) ∨ (σ 18 2 = 8 ∧ τ 18 2 = σ 18 2 ∧ (τ 18 1 = σ 18 1 + 1 ∨ τ 18 1 = σ 18 1 + 1 - 8))) → Q none τ) : x_P E 75 [x_R 18, x_R 4] σ Q := by
  have c1 : 0 ≤ σ 18 1 ∧ σ 18 1 ≤ 7 := C0 18 1 (by decide) (by decide) (by decide)
  have c2 : 0 ≤ σ 18 2 ∧ σ 18 2 ≤ 8 := C0 18 2 (by decide) (by decide) (by decide)
  refine x_Mt e_75 (h_75 E) (Nat.le_of_ble_eq_true rfl) t_75 rfl ?_
  refine x_blk (b := 0) (a_75 E) rfl ?_
  unfold b_75_0
  refine x_aload rfl ?_
  refine x_aload rfl ?_
  refine x_getIG y_f18_2 C0 ?_
  intro g1a g1b
  refine x_cV (fun _ => rfl) rfl (by decide) (Nat.le_of_ble_eq_true rfl) ?_
  refine kx_76_18 (by omega) (by omega) C0 (fun v2 v2a v2b v2c => ?_)
  refine x_istore ?_
  refine x_aload rfl ?_
  refine x_getIG y_f18_2 C0 ?_
  intro g3a g3b
  refine x_aload rfl ?_
  refine x_getR (r := 18) rfl (by decide) (by decide) rfl ?_
  refine x_lenG (n := 8) (L := 8) rfl (by decide) rfl (by decide) rfl ?_
  refine x_icmp_ge (by omega) (by omega) (by omega) (by omega) (fun z4 => ?_) (fun z4 => ?_)
  · skip
    refine x_aload rfl ?_
    refine x_dup rfl ?_
    refine x_getIG y_f18_2 C0 ?_
    intro g5a g5b
    refine x_push 1 rfl ?_
    refine x_iadd ?_
    refine x_putIG y_f18_2 ⟨by decide, rfl⟩ (by decide) C0 (by decide) (y_fr_rf (lo := 0) (hi := 138)) (by omega) (by omega) (fun S6 e6 C6 F6 => ?_)
    refine x_goto ?_
    refine x_blk (b := 2) (a_75 E) rfl ?_
    unfold b_75_2
    refine x_iload rfl ?_
    refine x_aload rfl ?_
    refine x_getR (r := 18) rfl (by decide) (by decide) rfl ?_
    refine x_lenG (n := 8) (L := 8) rfl (by decide) rfl (by decide) rfl ?_
    refine x_cS (fun _ => rfl) (Nat.le_of_ble_eq_true rfl) ?_
    refine sf_2 (by omega) (by omega) (by omega) (by omega) C6 (fun y7 => ?_) (fun y7 => absurd (by omega) y7)
    refine x_if_eq (by omega) (by omega) (fun z => absurd z (by omega)) (fun z8 => ?_)
    refine x_aload rfl ?_
    refine x_getR (r := 18) rfl (by decide) (by decide) rfl ?_
    refine x_iload rfl ?_
    refine x_aaldG (r := 19) (n := 8) rfl rfl (by decide) (by omega) (by omega) (fun i9 j9 => ?_)
    match i9, j9 with
    | 0, j9 =>
      refine x_aald (r := 19) (n := 8) (q := 20) rfl rfl (by decide) (by omega) (by omega) (by rw [show _ = (0 : Nat) from j9.1]; rfl) ?_
      refine x_aload rfl ?_
      refine x_cV (fun _ => rfl) rfl (by decide) (Nat.le_of_ble_eq_true rfl) ?_
      refine kx_71_20_4 C6 (fun S10 C10 f10 w10 => ?_)
      refine x_fall ?_
      refine x_blk (b := 3) (a_75 E) rfl ?_
      unfold b_75_3
      refine x_vret ?_
      refine k _ C10 0 (by decide) (by omega) (fun c m hc => ?_) (y_CP_tr (y_CP_fr (fun c m h1 h2 => ?_)) w10) ?_
      · rw [f10 c m (by omega), x_up_ne e6 (by omega)]
      · exact x_up_ne e6 (by omega)
      · refine Or.inl ⟨by omega, ?_, ?_⟩
        · rw [f10 18 2 (by decide)]; exact x_up_at e6
        · rw [f10 18 1 (by decide)]; exact x_up_ne e6 (by decide)
    | 1, j9 =>
      refine x_aald (r := 19) (n := 8) (q := 27) rfl rfl (by decide) (by omega) (by omega) (by rw [show _ = (1 : Nat) from j9.1]; rfl) ?_
      refine x_aload rfl ?_
      refine x_cV (fun _ => rfl) rfl (by decide) (Nat.le_of_ble_eq_true rfl) ?_
      refine kx_71_27_4 C6 (fun S11 C11 f11 w11 => ?_)
      refine x_fall ?_
      refine x_blk (b := 3) (a_75 E) rfl ?_
      unfold b_75_3
      refine x_vret ?_
      refine k _ C11 1 (by decide) (by omega) (fun c m hc => ?_) (y_CP_tr (y_CP_fr (fun c m h1 h2 => ?_)) w11) ?_
      · rw [f11 c m (by omega), x_up_ne e6 (by omega)]
      · exact x_up_ne e6 (by omega)
      · refine Or.inl ⟨by omega, ?_, ?_⟩
        · rw [f11 18 2 (by decide)]; exact x_up_at e6
        · rw [f11 18 1 (by decide)]; exact x_up_ne e6 (by decide)
    | 2, j9 =>
      refine x_aald (r := 19) (n := 8) (q := 34) rfl rfl (by decide) (by omega) (by omega) (by rw [show _ = (2 : Nat) from j9.1]; rfl) ?_
      refine x_aload rfl ?_
      refine x_cV (fun _ => rfl) rfl (by decide) (Nat.le_of_ble_eq_true rfl) ?_
      refine kx_71_34_4 C6 (fun S12 C12 f12 w12 => ?_)
      refine x_fall ?_
      refine x_blk (b := 3) (a_75 E) rfl ?_
      unfold b_75_3
      refine x_vret ?_
      refine k _ C12 2 (by decide) (by omega) (fun c m hc => ?_) (y_CP_tr (y_CP_fr (fun c m h1 h2 => ?_)) w12) ?_
      · rw [f12 c m (by omega), x_up_ne e6 (by omega)]
      · exact x_up_ne e6 (by omega)
      · refine Or.inl ⟨by omega, ?_, ?_⟩
        · rw [f12 18 2 (by decide)]; exact x_up_at e6
        · rw [f12 18 1 (by decide)]; exact x_up_ne e6 (by decide)
    | 3, j9 =>
      refine x_aald (r := 19) (n := 8) (q := 41) rfl rfl (by decide) (by omega) (by omega) (by rw [show _ = (3 : Nat) from j9.1]; rfl) ?_
      refine x_aload rfl ?_
      refine x_cV (fun _ => rfl) rfl (by decide) (Nat.le_of_ble_eq_true rfl) ?_
      refine kx_71_41_4 C6 (fun S13 C13 f13 w13 => ?_)
      refine x_fall ?_
      refine x_blk (b := 3) (a_75 E) rfl ?_
      unfold b_75_3
      refine x_vret ?_
      refine k _ C13 3 (by decide) (by omega) (fun c m hc => ?_) (y_CP_tr (y_CP_fr (fun c m h1 h2 => ?_)) w13) ?_
      · rw [f13 c m (by omega), x_up_ne e6 (by omega)]
      · exact x_up_ne e6 (by omega)
      · refine Or.inl ⟨by omega, ?_, ?_⟩
        · rw [f13 18 2 (by decide)]; exact x_up_at e6
        · rw [f13 18 1 (by decide)]; exact x_up_ne e6 (by decide)
    | 4, j9 =>
      refine x_aald (r := 19) (n := 8) (q := 48) rfl rfl (by decide) (by omega) (by omega) (by rw [show _ = (4 : Nat) from j9.1]; rfl) ?_
      refine x_aload rfl ?_
      refine x_cV (fun _ => rfl) rfl (by decide) (Nat.le_of_ble_eq_true rfl) ?_
      refine kx_71_48_4 C6 (fun S14 C14 f14 w14 => ?_)
      refine x_fall ?_
      refine x_blk (b := 3) (a_75 E) rfl ?_
      unfold b_75_3
      refine x_vret ?_
      refine k _ C14 4 (by decide) (by omega) (fun c m hc => ?_) (y_CP_tr (y_CP_fr (fun c m h1 h2 => ?_)) w14) ?_
      · rw [f14 c m (by omega), x_up_ne e6 (by omega)]
      · exact x_up_ne e6 (by omega)
      · refine Or.inl ⟨by omega, ?_, ?_⟩
        · rw [f14 18 2 (by decide)]; exact x_up_at e6
        · rw [f14 18 1 (by decide)]; exact x_up_ne e6 (by decide)
    | 5, j9 =>
      refine x_aald (r := 19) (n := 8) (q := 55) rfl rfl (by decide) (by omega) (by omega) (by rw [show _ = (5 : Nat) from j9.1]; rfl) ?_
      refine x_aload rfl ?_
      refine x_cV (fun _ => rfl) rfl (by decide) (Nat.le_of_ble_eq_true rfl) ?_
      refine kx_71_55_4 C6 (fun S15 C15 f15 w15 => ?_)
      refine x_fall ?_
      refine x_blk (b := 3) (a_75 E) rfl ?_
      unfold b_75_3
      refine x_vret ?_
      refine k _ C15 5 (by decide) (by omega) (fun c m hc => ?_) (y_CP_tr (y_CP_fr (fun c m h1 h2 => ?_)) w15) ?_
      · rw [f15 c m (by omega), x_up_ne e6 (by omega)]
      · exact x_up_ne e6 (by omega)
      · refine Or.inl ⟨by omega, ?_, ?_⟩
        · rw [f15 18 2 (by decide)]; exact x_up_at e6
        · rw [f15 18 1 (by decide)]; exact x_up_ne e6 (by decide)
    | 6, j9 =>
      refine x_aald (r := 19) (n := 8) (q := 62) rfl rfl (by decide) (by omega) (by omega) (by rw [show _ = (6 : Nat) from j9.1]; rfl) ?_
      refine x_aload rfl ?_
      refine x_cV (fun _ => rfl) rfl (by decide) (Nat.le_of_ble_eq_true rfl) ?_
      refine kx_71_62_4 C6 (fun S16 C16 f16 w16 => ?_)
      refine x_fall ?_
      refine x_blk (b := 3) (a_75 E) rfl ?_
      unfold b_75_3
      refine x_vret ?_
      refine k _ C16 6 (by decide) (by omega) (fun c m hc => ?_) (y_CP_tr (y_CP_fr (fun c m h1 h2 => ?_)) w16) ?_
      · rw [f16 c m (by omega), x_up_ne e6 (by omega)]
      · exact x_up_ne e6 (by omega)
      · refine Or.inl ⟨by omega, ?_, ?_⟩
        · rw [f16 18 2 (by decide)]; exact x_up_at e6
        · rw [f16 18 1 (by decide)]; exact x_up_ne e6 (by decide)
    | 7, j9 =>
      refine x_aald (r := 19) (n := 8) (q := 69) rfl rfl (by decide) (by omega) (by omega) (by rw [show _ = (7 : Nat) from j9.1]; rfl) ?_
      refine x_aload rfl ?_
      refine x_cV (fun _ => rfl) rfl (by decide) (Nat.le_of_ble_eq_true rfl) ?_
      refine kx_71_69_4 C6 (fun S17 C17 f17 w17 => ?_)
      refine x_fall ?_
      refine x_blk (b := 3) (a_75 E) rfl ?_
      unfold b_75_3
      refine x_vret ?_
      refine k _ C17 7 (by decide) (by omega) (fun c m hc => ?_) (y_CP_tr (y_CP_fr (fun c m h1 h2 => ?_)) w17) ?_
      · rw [f17 c m (by omega), x_up_ne e6 (by omega)]
      · exact x_up_ne e6 (by omega)
      · refine Or.inl ⟨by omega, ?_, ?_⟩
        · rw [f17 18 2 (by decide)]; exact x_up_at e6
        · rw [f17 18 1 (by decide)]; exact x_up_ne e6 (by decide)
    | (m + 8), j9 => exact absurd j9.2 (by omega)
  · skip
    refine x_blk (b := 1) (a_75 E) rfl ?_
    unfold b_75_1
    refine x_aload rfl ?_
    refine x_aload rfl ?_
    refine x_push 1 rfl ?_
    refine x_cV (fun _ => rfl) rfl (by decide) (Nat.le_of_ble_eq_true rfl) ?_
    refine kx_76_18 (by omega) (by omega) C0 (fun v18 v18a v18b v18c => ?_)
    refine x_putIG y_f18_1 ⟨by decide, rfl⟩ (by decide) C0 (by decide) (y_fr_rf (lo := 0) (hi := 138)) (by omega) (by omega) (fun S19 e19 C19 F19 => ?_)
    refine x_fall ?_
    refine x_blk (b := 2) (a_75 E) rfl ?_
    unfold b_75_2
    refine x_iload rfl ?_
    refine x_aload rfl ?_
    refine x_getR (r := 18) rfl (by decide) (by decide) rfl ?_
    refine x_lenG (n := 8) (L := 8) rfl (by decide) rfl (by decide) rfl ?_
    refine x_cS (fun _ => rfl) (Nat.le_of_ble_eq_true rfl) ?_
    refine sf_2 (by omega) (by omega) (by omega) (by omega) C19 (fun y20 => ?_) (fun y20 => absurd (by omega) y20)
    refine x_if_eq (by omega) (by omega) (fun z => absurd z (by omega)) (fun z21 => ?_)
    refine x_aload rfl ?_
    refine x_getR (r := 18) rfl (by decide) (by decide) rfl ?_
    refine x_iload rfl ?_
    refine x_aaldG (r := 19) (n := 8) rfl rfl (by decide) (by omega) (by omega) (fun i22 j22 => ?_)
    match i22, j22 with
    | 0, j22 =>
      refine x_aald (r := 19) (n := 8) (q := 20) rfl rfl (by decide) (by omega) (by omega) (by rw [show _ = (0 : Nat) from j22.1]; rfl) ?_
      refine x_aload rfl ?_
      refine x_cV (fun _ => rfl) rfl (by decide) (Nat.le_of_ble_eq_true rfl) ?_
      refine kx_71_20_4 C19 (fun S23 C23 f23 w23 => ?_)
      refine x_fall ?_
      refine x_blk (b := 3) (a_75 E) rfl ?_
      unfold b_75_3
      refine x_vret ?_
      refine k _ C23 0 (by decide) (by omega) (fun c m hc => ?_) (y_CP_tr (y_CP_fr (fun c m h1 h2 => ?_)) w23) ?_
      · rw [f23 c m (by omega), x_up_ne e19 (by omega)]
      · exact x_up_ne e19 (by omega)
      · refine Or.inr ⟨by omega, ?_, ?_⟩
        · rw [f23 18 2 (by decide)]; exact x_up_ne e19 (by decide)
        · rw [f23 18 1 (by decide), x_up_at e19]; omega
    | 1, j22 =>
      refine x_aald (r := 19) (n := 8) (q := 27) rfl rfl (by decide) (by omega) (by omega) (by rw [show _ = (1 : Nat) from j22.1]; rfl) ?_
      refine x_aload rfl ?_
      refine x_cV (fun _ => rfl) rfl (by decide) (Nat.le_of_ble_eq_true rfl) ?_
      refine kx_71_27_4 C19 (fun S24 C24 f24 w24 => ?_)
      refine x_fall ?_
      refine x_blk (b := 3) (a_75 E) rfl ?_
      unfold b_75_3
      refine x_vret ?_
      refine k _ C24 1 (by decide) (by omega) (fun c m hc => ?_) (y_CP_tr (y_CP_fr (fun c m h1 h2 => ?_)) w24) ?_
      · rw [f24 c m (by omega), x_up_ne e19 (by omega)]
      · exact x_up_ne e19 (by omega)
      · refine Or.inr ⟨by omega, ?_, ?_⟩
        · rw [f24 18 2 (by decide)]; exact x_up_ne e19 (by decide)
        · rw [f24 18 1 (by decide), x_up_at e19]; omega
    | 2, j22 =>
      refine x_aald (r := 19) (n := 8) (q := 34) rfl rfl (by decide) (by omega) (by omega) (by rw [show _ = (2 : Nat) from j22.1]; rfl) ?_
      refine x_aload rfl ?_
      refine x_cV (fun _ => rfl) rfl (by decide) (Nat.le_of_ble_eq_true rfl) ?_
      refine kx_71_34_4 C19 (fun S25 C25 f25 w25 => ?_)
      refine x_fall ?_
      refine x_blk (b := 3) (a_75 E) rfl ?_
      unfold b_75_3
      refine x_vret ?_
      refine k _ C25 2 (by decide) (by omega) (fun c m hc => ?_) (y_CP_tr (y_CP_fr (fun c m h1 h2 => ?_)) w25) ?_
      · rw [f25 c m (by omega), x_up_ne e19 (by omega)]
      · exact x_up_ne e19 (by omega)
      · refine Or.inr ⟨by omega, ?_, ?_⟩
        · rw [f25 18 2 (by decide)]; exact x_up_ne e19 (by decide)
        · rw [f25 18 1 (by decide), x_up_at e19]; omega
    | 3, j22 =>
      refine x_aald (r := 19) (n := 8) (q := 41) rfl rfl (by decide) (by omega) (by omega) (by rw [show _ = (3 : Nat) from j22.1]; rfl) ?_
      refine x_aload rfl ?_
      refine x_cV (fun _ => rfl) rfl (by decide) (Nat.le_of_ble_eq_true rfl) ?_
      refine kx_71_41_4 C19 (fun S26 C26 f26 w26 => ?_)
      refine x_fall ?_
      refine x_blk (b := 3) (a_75 E) rfl ?_
      unfold b_75_3
      refine x_vret ?_
      refine k _ C26 3 (by decide) (by omega) (fun c m hc => ?_) (y_CP_tr (y_CP_fr (fun c m h1 h2 => ?_)) w26) ?_
      · rw [f26 c m (by omega), x_up_ne e19 (by omega)]
      · exact x_up_ne e19 (by omega)
      · refine Or.inr ⟨by omega, ?_, ?_⟩
        · rw [f26 18 2 (by decide)]; exact x_up_ne e19 (by decide)
        · rw [f26 18 1 (by decide), x_up_at e19]; omega
    | 4, j22 =>
      refine x_aald (r := 19) (n := 8) (q := 48) rfl rfl (by decide) (by omega) (by omega) (by rw [show _ = (4 : Nat) from j22.1]; rfl) ?_
      refine x_aload rfl ?_
      refine x_cV (fun _ => rfl) rfl (by decide) (Nat.le_of_ble_eq_true rfl) ?_
      refine kx_71_48_4 C19 (fun S27 C27 f27 w27 => ?_)
      refine x_fall ?_
      refine x_blk (b := 3) (a_75 E) rfl ?_
      unfold b_75_3
      refine x_vret ?_
      refine k _ C27 4 (by decide) (by omega) (fun c m hc => ?_) (y_CP_tr (y_CP_fr (fun c m h1 h2 => ?_)) w27) ?_
      · rw [f27 c m (by omega), x_up_ne e19 (by omega)]
      · exact x_up_ne e19 (by omega)
      · refine Or.inr ⟨by omega, ?_, ?_⟩
        · rw [f27 18 2 (by decide)]; exact x_up_ne e19 (by decide)
        · rw [f27 18 1 (by decide), x_up_at e19]; omega
    | 5, j22 =>
      refine x_aald (r := 19) (n := 8) (q := 55) rfl rfl (by decide) (by omega) (by omega) (by rw [show _ = (5 : Nat) from j22.1]; rfl) ?_
      refine x_aload rfl ?_
      refine x_cV (fun _ => rfl) rfl (by decide) (Nat.le_of_ble_eq_true rfl) ?_
      refine kx_71_55_4 C19 (fun S28 C28 f28 w28 => ?_)
      refine x_fall ?_
      refine x_blk (b := 3) (a_75 E) rfl ?_
      unfold b_75_3
      refine x_vret ?_
      refine k _ C28 5 (by decide) (by omega) (fun c m hc => ?_) (y_CP_tr (y_CP_fr (fun c m h1 h2 => ?_)) w28) ?_
      · rw [f28 c m (by omega), x_up_ne e19 (by omega)]
      · exact x_up_ne e19 (by omega)
      · refine Or.inr ⟨by omega, ?_, ?_⟩
        · rw [f28 18 2 (by decide)]; exact x_up_ne e19 (by decide)
        · rw [f28 18 1 (by decide), x_up_at e19]; omega
    | 6, j22 =>
      refine x_aald (r := 19) (n := 8) (q := 62) rfl rfl (by decide) (by omega) (by omega) (by rw [show _ = (6 : Nat) from j22.1]; rfl) ?_
      refine x_aload rfl ?_
      refine x_cV (fun _ => rfl) rfl (by decide) (Nat.le_of_ble_eq_true rfl) ?_
      refine kx_71_62_4 C19 (fun S29 C29 f29 w29 => ?_)
      refine x_fall ?_
      refine x_blk (b := 3) (a_75 E) rfl ?_
      unfold b_75_3
      refine x_vret ?_
      refine k _ C29 6 (by decide) (by omega) (fun c m hc => ?_) (y_CP_tr (y_CP_fr (fun c m h1 h2 => ?_)) w29) ?_
      · rw [f29 c m (by omega), x_up_ne e19 (by omega)]
      · exact x_up_ne e19 (by omega)
      · refine Or.inr ⟨by omega, ?_, ?_⟩
        · rw [f29 18 2 (by decide)]; exact x_up_ne e19 (by decide)
        · rw [f29 18 1 (by decide), x_up_at e19]; omega
    | 7, j22 =>
      refine x_aald (r := 19) (n := 8) (q := 69) rfl rfl (by decide) (by omega) (by omega) (by rw [show _ = (7 : Nat) from j22.1]; rfl) ?_
      refine x_aload rfl ?_
      refine x_cV (fun _ => rfl) rfl (by decide) (Nat.le_of_ble_eq_true rfl) ?_
      refine kx_71_69_4 C19 (fun S30 C30 f30 w30 => ?_)
      refine x_fall ?_
      refine x_blk (b := 3) (a_75 E) rfl ?_
      unfold b_75_3
      refine x_vret ?_
      refine k _ C30 7 (by decide) (by omega) (fun c m hc => ?_) (y_CP_tr (y_CP_fr (fun c m h1 h2 => ?_)) w30) ?_
      · rw [f30 c m (by omega), x_up_ne e19 (by omega)]
      · exact x_up_ne e19 (by omega)
      · refine Or.inr ⟨by omega, ?_, ?_⟩
        · rw [f30 18 2 (by decide)]; exact x_up_ne e19 (by decide)
        · rw [f30 18 1 (by decide), x_up_at e19]; omega
    | (m + 8), j22 => exact absurd j22.2 (by omega)
theorem kx_75_76_4 {E : q_E} {σ : x_S} {Q : Option q_V → x_S → Prop} (C0 : y_CI σ) (k : ∀ τ, y_CI τ → ∀ a : Nat, a < 2 → ((a : Int) = σ 76 1 + σ 76 2 ∨ (a : Int) = σ 76 1 + σ 76 2 - 2) → (∀ c m, (c < 76 ∨ (78 ≤ c ∧ ¬ (78 + 7 * a ≤ c ∧ c ≤ 84 + 7 * a))) → τ c m = σ c m) → y_CP σ 4 τ (78 + 7 * a) → ((σ 76 2 < 2 ∧ τ 76 2 = σ 76 2 + 1 ∧ τ 76 1 = σ 76 1) ∨ (σ 76 2 = 2 ∧ τ 76 2 = σ 76 2 ∧ (τ 76 1 = σ 76 1 + 1 ∨ τ 76 1 = σ 76 1 + 1 - 2))) → Q none τ) : x_P E 75 [x_R 76, x_R 4] σ Q := by
  have c1 : 0 ≤ σ 76 1 ∧ σ 76 1 ≤ 1 := C0 76 1 (by decide) (by decide) (by decide)
  have c2 : 0 ≤ σ 76 2 ∧ σ 76 2 ≤ 2 := C0 76 2 (by decide) (by decide) (by decide)
  refine x_Mt e_75 (h_75 E) (Nat.le_of_ble_eq_true rfl) t_75 rfl ?_
  refine x_blk (b := 0) (a_75 E) rfl ?_
  unfold b_75_0
  refine x_aload rfl ?_
  refine x_aload rfl ?_
  refine x_getIG y_f76_2 C0 ?_
  intro g1a g1b
  refine x_cV (fun _ => rfl) rfl (by decide) (Nat.le_of_ble_eq_true rfl) ?_
  refine kx_76_76 (by omega) (by omega) C0 (fun v2 v2a v2b v2c => ?_)
  refine x_istore ?_
  refine x_aload rfl ?_
  refine x_getIG y_f76_2 C0 ?_
  intro g3a g3b
  refine x_aload rfl ?_
  refine x_getR (r := 76) rfl (by decide) (by decide) rfl ?_
  refine x_lenG (n := 2) (L := 2) rfl (by decide) rfl (by decide) rfl ?_
  refine x_icmp_ge (by omega) (by omega) (by omega) (by omega) (fun z4 => ?_) (fun z4 => ?_)
  · skip
    refine x_aload rfl ?_
    refine x_dup rfl ?_
    refine x_getIG y_f76_2 C0 ?_
    intro g5a g5b
    refine x_push 1 rfl ?_
    refine x_iadd ?_
    refine x_putIG y_f76_2 ⟨by decide, rfl⟩ (by decide) C0 (by decide) (y_fr_rf (lo := 0) (hi := 138)) (by omega) (by omega) (fun S6 e6 C6 F6 => ?_)
    refine x_goto ?_
    refine x_blk (b := 2) (a_75 E) rfl ?_
    unfold b_75_2
    refine x_iload rfl ?_
    refine x_aload rfl ?_
    refine x_getR (r := 76) rfl (by decide) (by decide) rfl ?_
    refine x_lenG (n := 2) (L := 2) rfl (by decide) rfl (by decide) rfl ?_
    refine x_cS (fun _ => rfl) (Nat.le_of_ble_eq_true rfl) ?_
    refine sf_2 (by omega) (by omega) (by omega) (by omega) C6 (fun y7 => ?_) (fun y7 => absurd (by omega) y7)
    refine x_if_eq (by omega) (by omega) (fun z => absurd z (by omega)) (fun z8 => ?_)
    refine x_aload rfl ?_
    refine x_getR (r := 76) rfl (by decide) (by decide) rfl ?_
    refine x_iload rfl ?_
    refine x_aaldG (r := 77) (n := 2) rfl rfl (by decide) (by omega) (by omega) (fun i9 j9 => ?_)
    match i9, j9 with
    | 0, j9 =>
      refine x_aald (r := 77) (n := 2) (q := 78) rfl rfl (by decide) (by omega) (by omega) (by rw [show _ = (0 : Nat) from j9.1]; rfl) ?_
      refine x_aload rfl ?_
      refine x_cV (fun _ => rfl) rfl (by decide) (Nat.le_of_ble_eq_true rfl) ?_
      refine kx_71_78_4 C6 (fun S10 C10 f10 w10 => ?_)
      refine x_fall ?_
      refine x_blk (b := 3) (a_75 E) rfl ?_
      unfold b_75_3
      refine x_vret ?_
      refine k _ C10 0 (by decide) (by omega) (fun c m hc => ?_) (y_CP_tr (y_CP_fr (fun c m h1 h2 => ?_)) w10) ?_
      · rw [f10 c m (by omega), x_up_ne e6 (by omega)]
      · exact x_up_ne e6 (by omega)
      · refine Or.inl ⟨by omega, ?_, ?_⟩
        · rw [f10 76 2 (by decide)]; exact x_up_at e6
        · rw [f10 76 1 (by decide)]; exact x_up_ne e6 (by decide)
    | 1, j9 =>
      refine x_aald (r := 77) (n := 2) (q := 85) rfl rfl (by decide) (by omega) (by omega) (by rw [show _ = (1 : Nat) from j9.1]; rfl) ?_
      refine x_aload rfl ?_
      refine x_cV (fun _ => rfl) rfl (by decide) (Nat.le_of_ble_eq_true rfl) ?_
      refine kx_71_85_4 C6 (fun S11 C11 f11 w11 => ?_)
      refine x_fall ?_
      refine x_blk (b := 3) (a_75 E) rfl ?_
      unfold b_75_3
      refine x_vret ?_
      refine k _ C11 1 (by decide) (by omega) (fun c m hc => ?_) (y_CP_tr (y_CP_fr (fun c m h1 h2 => ?_)) w11) ?_
      · rw [f11 c m (by omega), x_up_ne e6 (by omega)]
      · exact x_up_ne e6 (by omega)
      · refine Or.inl ⟨by omega, ?_, ?_⟩
        · rw [f11 76 2 (by decide)]; exact x_up_at e6
        · rw [f11 76 1 (by decide)]; exact x_up_ne e6 (by decide)
    | (m + 2), j9 => exact absurd j9.2 (by omega)
  · skip
    refine x_blk (b := 1) (a_75 E) rfl ?_
    unfold b_75_1
    refine x_aload rfl ?_
    refine x_aload rfl ?_
    refine x_push 1 rfl ?_
    refine x_cV (fun _ => rfl) rfl (by decide) (Nat.le_of_ble_eq_true rfl) ?_
    refine kx_76_76 (by omega) (by omega) C0 (fun v12 v12a v12b v12c => ?_)
    refine x_putIG y_f76_1 ⟨by decide, rfl⟩ (by decide) C0 (by decide) (y_fr_rf (lo := 0) (hi := 138)) (by omega) (by omega) (fun S13 e13 C13 F13 => ?_)
    refine x_fall ?_
    refine x_blk (b := 2) (a_75 E) rfl ?_
    unfold b_75_2
    refine x_iload rfl ?_
    refine x_aload rfl ?_
    refine x_getR (r := 76) rfl (by decide) (by decide) rfl ?_
    refine x_lenG (n := 2) (L := 2) rfl (by decide) rfl (by decide) rfl ?_
    refine x_cS (fun _ => rfl) (Nat.le_of_ble_eq_true rfl) ?_
    refine sf_2 (by omega) (by omega) (by omega) (by omega) C13 (fun y14 => ?_) (fun y14 => absurd (by omega) y14)
    refine x_if_eq (by omega) (by omega) (fun z => absurd z (by omega)) (fun z15 => ?_)
    refine x_aload rfl ?_
    refine x_getR (r := 76) rfl (by decide) (by decide) rfl ?_
    refine x_iload rfl ?_
    refine x_aaldG (r := 77) (n := 2) rfl rfl (by decide) (by omega) (by omega) (fun i16 j16 => ?_)
    match i16, j16 with
    | 0, j16 =>
      refine x_aald (r := 77) (n := 2) (q := 78) rfl rfl (by decide) (by omega) (by omega) (by rw [show _ = (0 : Nat) from j16.1]; rfl) ?_
      refine x_aload rfl ?_
      refine x_cV (fun _ => rfl) rfl (by decide) (Nat.le_of_ble_eq_true rfl) ?_
      refine kx_71_78_4 C13 (fun S17 C17 f17 w17 => ?_)
      refine x_fall ?_
      refine x_blk (b := 3) (a_75 E) rfl ?_
      unfold b_75_3
      refine x_vret ?_
      refine k _ C17 0 (by decide) (by omega) (fun c m hc => ?_) (y_CP_tr (y_CP_fr (fun c m h1 h2 => ?_)) w17) ?_
      · rw [f17 c m (by omega), x_up_ne e13 (by omega)]
      · exact x_up_ne e13 (by omega)
      · refine Or.inr ⟨by omega, ?_, ?_⟩
        · rw [f17 76 2 (by decide)]; exact x_up_ne e13 (by decide)
        · rw [f17 76 1 (by decide), x_up_at e13]; omega
    | 1, j16 =>
      refine x_aald (r := 77) (n := 2) (q := 85) rfl rfl (by decide) (by omega) (by omega) (by rw [show _ = (1 : Nat) from j16.1]; rfl) ?_
      refine x_aload rfl ?_
      refine x_cV (fun _ => rfl) rfl (by decide) (Nat.le_of_ble_eq_true rfl) ?_
      refine kx_71_85_4 C13 (fun S18 C18 f18 w18 => ?_)
      refine x_fall ?_
      refine x_blk (b := 3) (a_75 E) rfl ?_
      unfold b_75_3
      refine x_vret ?_
      refine k _ C18 1 (by decide) (by omega) (fun c m hc => ?_) (y_CP_tr (y_CP_fr (fun c m h1 h2 => ?_)) w18) ?_
      · rw [f18 c m (by omega), x_up_ne e13 (by omega)]
      · exact x_up_ne e13 (by omega)
      · refine Or.inr ⟨by omega, ?_, ?_⟩
        · rw [f18 76 2 (by decide)]; exact x_up_ne e13 (by decide)
        · rw [f18 76 1 (by decide), x_up_at e13]; omega
    | (m + 2), j16 => exact absurd j16.2 (by omega)
theorem kx_139_18_4 {E : q_E} {σ : x_S} {Q : Option q_V → x_S → Prop} (h0 : 0 < σ 18 2) (C0 : y_CI σ) (k : ∀ τ, y_CI τ → ∀ a : Nat, a < 8 → ((a : Int) = σ 18 1 + σ 18 2 - 1 ∨ (a : Int) = σ 18 1 + σ 18 2 - 1 - 8) → (∀ c m, ¬ (4 ≤ c ∧ c ≤ 10) → ¬ (c = 18 ∧ m = 2) → τ c m = σ c m) → y_CP σ (20 + 7 * a) τ 4 → τ 18 2 = σ 18 2 - 1 → Q none τ) : x_P E 139 [x_R 18, x_R 4] σ Q := by
  have c1 : 0 ≤ σ 18 1 ∧ σ 18 1 ≤ 7 := C0 18 1 (by decide) (by decide) (by decide)
  have c2 : 0 ≤ σ 18 2 ∧ σ 18 2 ≤ 8 := C0 18 2 (by decide) (by decide) (by decide)
  refine x_Mt e_139 (h_139 E) (Nat.le_of_ble_eq_true rfl) t_139 rfl ?_
  refine x_blk (b := 0) (a_139 E) rfl ?_
  unfold b_139_0
  refine x_aload rfl ?_
  refine x_aload rfl ?_
  refine x_getIG y_f18_2 C0 ?_
  intro g1a g1b
  refine x_push 1 rfl ?_
  refine x_isub ?_
  refine x_cV (fun _ => rfl) rfl (by decide) (Nat.le_of_ble_eq_true rfl) ?_
  refine kx_76_18 (by omega) (by omega) C0 (fun v2 v2a v2b v2c => ?_)
  refine x_istore ?_
  refine x_aload rfl ?_
  refine x_getIG y_f18_2 C0 ?_
  intro g3a g3b
  refine x_if_le (by omega) (by omega) (fun z => absurd z (by omega)) (fun z4 => ?_)
  refine x_iload rfl ?_
  refine x_aload rfl ?_
  refine x_getR (r := 18) rfl (by decide) (by decide) rfl ?_
  refine x_lenG (n := 8) (L := 8) rfl (by decide) rfl (by decide) rfl ?_
  refine x_cS (fun _ => rfl) (Nat.le_of_ble_eq_true rfl) ?_
  refine sf_2 (by omega) (by omega) (by omega) (by omega) C0 (fun y5 => ?_) (fun y5 => absurd (by omega) y5)
  refine x_if_eq (by omega) (by omega) (fun z => absurd z (by omega)) (fun z6 => ?_)
  refine x_aload rfl ?_
  refine x_dup rfl ?_
  refine x_getIG y_f18_2 C0 ?_
  intro g7a g7b
  refine x_push 1 rfl ?_
  refine x_isub ?_
  refine x_putIG y_f18_2 ⟨by decide, rfl⟩ (by decide) C0 (by decide) (y_fr_rf (lo := 0) (hi := 138)) (by omega) (by omega) (fun S8 e8 C8 F8 => ?_)
  refine x_aload rfl ?_
  refine x_aload rfl ?_
  refine x_getR (r := 18) rfl (by decide) (by decide) rfl ?_
  refine x_iload rfl ?_
  refine x_aaldG (r := 19) (n := 8) rfl rfl (by decide) (by omega) (by omega) (fun i9 j9 => ?_)
  match i9, j9 with
  | 0, j9 =>
    refine x_aald (r := 19) (n := 8) (q := 20) rfl rfl (by decide) (by omega) (by omega) (by rw [show _ = (0 : Nat) from j9.1]; rfl) ?_
    refine x_cV (fun _ => rfl) rfl (by decide) (Nat.le_of_ble_eq_true rfl) ?_
    refine kx_71_4_20 C8 (fun S10 C10 f10 w10 => ?_)
    refine x_fall ?_
    refine x_blk (b := 1) (a_139 E) rfl ?_
    unfold b_139_1
    refine x_vret ?_
    refine k _ C10 0 (by decide) (by omega) (fun c m hc hd => ?_) (y_CP_tr (y_CP_fr (fun c m h1 h2 => ?_)) w10) ?_
    · rw [f10 c m (by omega)]; exact x_up_ne e8 hd
    · exact x_up_ne e8 (by omega)
    · rw [f10 18 2 (by decide)]; exact x_up_at e8
  | 1, j9 =>
    refine x_aald (r := 19) (n := 8) (q := 27) rfl rfl (by decide) (by omega) (by omega) (by rw [show _ = (1 : Nat) from j9.1]; rfl) ?_
    refine x_cV (fun _ => rfl) rfl (by decide) (Nat.le_of_ble_eq_true rfl) ?_
    refine kx_71_4_27 C8 (fun S11 C11 f11 w11 => ?_)
    refine x_fall ?_
    refine x_blk (b := 1) (a_139 E) rfl ?_
    unfold b_139_1
    refine x_vret ?_
    refine k _ C11 1 (by decide) (by omega) (fun c m hc hd => ?_) (y_CP_tr (y_CP_fr (fun c m h1 h2 => ?_)) w11) ?_
    · rw [f11 c m (by omega)]; exact x_up_ne e8 hd
    · exact x_up_ne e8 (by omega)
    · rw [f11 18 2 (by decide)]; exact x_up_at e8
  | 2, j9 =>
    refine x_aald (r := 19) (n := 8) (q := 34) rfl rfl (by decide) (by omega) (by omega) (by rw [show _ = (2 : Nat) from j9.1]; rfl) ?_
    refine x_cV (fun _ => rfl) rfl (by decide) (Nat.le_of_ble_eq_true rfl) ?_
    refine kx_71_4_34 C8 (fun S12 C12 f12 w12 => ?_)
    refine x_fall ?_
    refine x_blk (b := 1) (a_139 E) rfl ?_
    unfold b_139_1
    refine x_vret ?_
    refine k _ C12 2 (by decide) (by omega) (fun c m hc hd => ?_) (y_CP_tr (y_CP_fr (fun c m h1 h2 => ?_)) w12) ?_
    · rw [f12 c m (by omega)]; exact x_up_ne e8 hd
    · exact x_up_ne e8 (by omega)
    · rw [f12 18 2 (by decide)]; exact x_up_at e8
  | 3, j9 =>
    refine x_aald (r := 19) (n := 8) (q := 41) rfl rfl (by decide) (by omega) (by omega) (by rw [show _ = (3 : Nat) from j9.1]; rfl) ?_
    refine x_cV (fun _ => rfl) rfl (by decide) (Nat.le_of_ble_eq_true rfl) ?_
    refine kx_71_4_41 C8 (fun S13 C13 f13 w13 => ?_)
    refine x_fall ?_
    refine x_blk (b := 1) (a_139 E) rfl ?_
    unfold b_139_1
    refine x_vret ?_
    refine k _ C13 3 (by decide) (by omega) (fun c m hc hd => ?_) (y_CP_tr (y_CP_fr (fun c m h1 h2 => ?_)) w13) ?_
    · rw [f13 c m (by omega)]; exact x_up_ne e8 hd
    · exact x_up_ne e8 (by omega)
    · rw [f13 18 2 (by decide)]; exact x_up_at e8
  | 4, j9 =>
    refine x_aald (r := 19) (n := 8) (q := 48) rfl rfl (by decide) (by omega) (by omega) (by rw [show _ = (4 : Nat) from j9.1]; rfl) ?_
    refine x_cV (fun _ => rfl) rfl (by decide) (Nat.le_of_ble_eq_true rfl) ?_
    refine kx_71_4_48 C8 (fun S14 C14 f14 w14 => ?_)
    refine x_fall ?_
    refine x_blk (b := 1) (a_139 E) rfl ?_
    unfold b_139_1
    refine x_vret ?_
    refine k _ C14 4 (by decide) (by omega) (fun c m hc hd => ?_) (y_CP_tr (y_CP_fr (fun c m h1 h2 => ?_)) w14) ?_
    · rw [f14 c m (by omega)]; exact x_up_ne e8 hd
    · exact x_up_ne e8 (by omega)
    · rw [f14 18 2 (by decide)]; exact x_up_at e8
  | 5, j9 =>
    refine x_aald (r := 19) (n := 8) (q := 55) rfl rfl (by decide) (by omega) (by omega) (by rw [show _ = (5 : Nat) from j9.1]; rfl) ?_
    refine x_cV (fun _ => rfl) rfl (by decide) (Nat.le_of_ble_eq_true rfl) ?_
    refine kx_71_4_55 C8 (fun S15 C15 f15 w15 => ?_)
    refine x_fall ?_
    refine x_blk (b := 1) (a_139 E) rfl ?_
    unfold b_139_1
    refine x_vret ?_
    refine k _ C15 5 (by decide) (by omega) (fun c m hc hd => ?_) (y_CP_tr (y_CP_fr (fun c m h1 h2 => ?_)) w15) ?_
    · rw [f15 c m (by omega)]; exact x_up_ne e8 hd
    · exact x_up_ne e8 (by omega)
    · rw [f15 18 2 (by decide)]; exact x_up_at e8
  | 6, j9 =>
    refine x_aald (r := 19) (n := 8) (q := 62) rfl rfl (by decide) (by omega) (by omega) (by rw [show _ = (6 : Nat) from j9.1]; rfl) ?_
    refine x_cV (fun _ => rfl) rfl (by decide) (Nat.le_of_ble_eq_true rfl) ?_
    refine kx_71_4_62 C8 (fun S16 C16 f16 w16 => ?_)
    refine x_fall ?_
    refine x_blk (b := 1) (a_139 E) rfl ?_
    unfold b_139_1
    refine x_vret ?_
    refine k _ C16 6 (by decide) (by omega) (fun c m hc hd => ?_) (y_CP_tr (y_CP_fr (fun c m h1 h2 => ?_)) w16) ?_
    · rw [f16 c m (by omega)]; exact x_up_ne e8 hd
    · exact x_up_ne e8 (by omega)
    · rw [f16 18 2 (by decide)]; exact x_up_at e8
  | 7, j9 =>
    refine x_aald (r := 19) (n := 8) (q := 69) rfl rfl (by decide) (by omega) (by omega) (by rw [show _ = (7 : Nat) from j9.1]; rfl) ?_
    refine x_cV (fun _ => rfl) rfl (by decide) (Nat.le_of_ble_eq_true rfl) ?_
    refine kx_71_4_69 C8 (fun S17 C17 f17 w17 => ?_)
    refine x_fall ?_
    refine x_blk (b := 1) (a_139 E) rfl ?_
    unfold b_139_1
    refine x_vret ?_
    refine k _ C17 7 (by decide) (by omega) (fun c m hc hd => ?_) (y_CP_tr (y_CP_fr (fun c m h1 h2 => ?_)) w17) ?_
    · rw [f17 c m (by omega)]; exact x_up_ne e8 hd
    · exact x_up_ne e8 (by omega)
    · rw [f17 18 2 (by decide)]; exact x_up_at e8
  | (m + 8), j9 => exact absurd j9.2 (by omega)
theorem kx_139_76_4 {E : q_E} {σ : x_S} {Q : Option q_V → x_S → Prop} (h0 : 0 < σ 76 2) (C0 : y_CI σ) (k : ∀ τ, y_CI τ → ∀ a : Nat, a < 2 → ((a : Int) = σ 76 1 + σ 76 2 - 1 ∨ (a : Int) = σ 76 1 + σ 76 2 - 1 - 2) → (∀ c m, ¬ (4 ≤ c ∧ c ≤ 10) → ¬ (c = 76 ∧ m = 2) → τ c m = σ c m) → y_CP σ (78 + 7 * a) τ 4 → τ 76 2 = σ 76 2 - 1 → Q none τ) : x_P E 139 [x_R 76, x_R 4] σ Q := by
  have c1 : 0 ≤ σ 76 1 ∧ σ 76 1 ≤ 1 := C0 76 1 (by decide) (by decide) (by decide)
  have c2 : 0 ≤ σ 76 2 ∧ σ 76 2 ≤ 2 := C0 76 2 (by decide) (by decide) (by decide)
  refine x_Mt e_139 (h_139 E) (Nat.le_of_ble_eq_true rfl) t_139 rfl ?_
  refine x_blk (b := 0) (a_139 E) rfl ?_
  unfold b_139_0
  refine x_aload rfl ?_
  refine x_aload rfl ?_
  refine x_getIG y_f76_2 C0 ?_
  intro g1a g1b
  refine x_push 1 rfl ?_
  refine x_isub ?_
  refine x_cV (fun _ => rfl) rfl (by decide) (Nat.le_of_ble_eq_true rfl) ?_
  refine kx_76_76 (by omega) (by omega) C0 (fun v2 v2a v2b v2c => ?_)
  refine x_istore ?_
  refine x_aload rfl ?_
  refine x_getIG y_f76_2 C0 ?_
  intro g3a g3b
  refine x_if_le (by omega) (by omega) (fun z => absurd z (by omega)) (fun z4 => ?_)
  refine x_iload rfl ?_
  refine x_aload rfl ?_
  refine x_getR (r := 76) rfl (by decide) (by decide) rfl ?_
  refine x_lenG (n := 2) (L := 2) rfl (by decide) rfl (by decide) rfl ?_
  refine x_cS (fun _ => rfl) (Nat.le_of_ble_eq_true rfl) ?_
  refine sf_2 (by omega) (by omega) (by omega) (by omega) C0 (fun y5 => ?_) (fun y5 => absurd (by omega) y5)
  refine x_if_eq (by omega) (by omega) (fun z => absurd z (by omega)) (fun z6 => ?_)
  refine x_aload rfl ?_
  refine x_dup rfl ?_
  refine x_getIG y_f76_2 C0 ?_
  intro g7a g7b
  refine x_push 1 rfl ?_
  refine x_isub ?_
  refine x_putIG y_f76_2 ⟨by decide, rfl⟩ (by decide) C0 (by decide) (y_fr_rf (lo := 0) (hi := 138)) (by omega) (by omega) (fun S8 e8 C8 F8 => ?_)
  refine x_aload rfl ?_
  refine x_aload rfl ?_
  refine x_getR (r := 76) rfl (by decide) (by decide) rfl ?_
  refine x_iload rfl ?_
  refine x_aaldG (r := 77) (n := 2) rfl rfl (by decide) (by omega) (by omega) (fun i9 j9 => ?_)
  match i9, j9 with
  | 0, j9 =>
    refine x_aald (r := 77) (n := 2) (q := 78) rfl rfl (by decide) (by omega) (by omega) (by rw [show _ = (0 : Nat) from j9.1]; rfl) ?_
    refine x_cV (fun _ => rfl) rfl (by decide) (Nat.le_of_ble_eq_true rfl) ?_
    refine kx_71_4_78 C8 (fun S10 C10 f10 w10 => ?_)
    refine x_fall ?_
    refine x_blk (b := 1) (a_139 E) rfl ?_
    unfold b_139_1
    refine x_vret ?_
    refine k _ C10 0 (by decide) (by omega) (fun c m hc hd => ?_) (y_CP_tr (y_CP_fr (fun c m h1 h2 => ?_)) w10) ?_
    · rw [f10 c m (by omega)]; exact x_up_ne e8 hd
    · exact x_up_ne e8 (by omega)
    · rw [f10 76 2 (by decide)]; exact x_up_at e8
  | 1, j9 =>
    refine x_aald (r := 77) (n := 2) (q := 85) rfl rfl (by decide) (by omega) (by omega) (by rw [show _ = (1 : Nat) from j9.1]; rfl) ?_
    refine x_cV (fun _ => rfl) rfl (by decide) (Nat.le_of_ble_eq_true rfl) ?_
    refine kx_71_4_85 C8 (fun S11 C11 f11 w11 => ?_)
    refine x_fall ?_
    refine x_blk (b := 1) (a_139 E) rfl ?_
    unfold b_139_1
    refine x_vret ?_
    refine k _ C11 1 (by decide) (by omega) (fun c m hc hd => ?_) (y_CP_tr (y_CP_fr (fun c m h1 h2 => ?_)) w11) ?_
    · rw [f11 c m (by omega)]; exact x_up_ne e8 hd
    · exact x_up_ne e8 (by omega)
    · rw [f11 76 2 (by decide)]; exact x_up_at e8
  | (m + 2), j9 => exact absurd j9.2 (by omega)
theorem kx_125_18 {E : q_E} {σ : x_S} {Q : Option q_V → x_S → Prop} (C0 : y_CI σ) (k : ∀ τ, y_CI τ → (∀ c m, ¬ (c = 18 ∧ m = 2) → τ c m = σ c m) → τ 18 2 = 0 → Q none τ) : x_P E 125 [x_R 18] σ Q := by
  refine x_Mt e_125 (h_125 E) (Nat.le_of_ble_eq_true rfl) t_125 rfl ?_
  refine x_blk (b := 0) (a_125 E) rfl ?_
  unfold b_125_0
  refine x_aload rfl ?_
  refine x_push 0 rfl ?_
  refine x_putIG y_f18_2 ⟨by decide, rfl⟩ (by decide) C0 (by decide) (y_fr_rf (lo := 0) (hi := 138)) (by omega) (by omega) (fun S1 e1 C1 F1 => ?_)
  refine x_vret ?_
  exact k _ C1 (fun c m hc => x_up_ne e1 hc) (x_up_at e1)
theorem kx_125_76 {E : q_E} {σ : x_S} {Q : Option q_V → x_S → Prop} (C0 : y_CI σ) (k : ∀ τ, y_CI τ → (∀ c m, ¬ (c = 76 ∧ m = 2) → τ c m = σ c m) → τ 76 2 = 0 → Q none τ) : x_P E 125 [x_R 76] σ Q := by
  refine x_Mt e_125 (h_125 E) (Nat.le_of_ble_eq_true rfl) t_125 rfl ?_
  refine x_blk (b := 0) (a_125 E) rfl ?_
  unfold b_125_0
  refine x_aload rfl ?_
  refine x_push 0 rfl ?_
  refine x_putIG y_f76_2 ⟨by decide, rfl⟩ (by decide) C0 (by decide) (y_fr_rf (lo := 0) (hi := 138)) (by omega) (by omega) (fun S1 e1 C1 F1 => ?_)
  refine x_vret ?_
  exact k _ C1 (fun c m hc => x_up_ne e1 hc) (x_up_at e1)
theorem kx_62_111 {E : q_E} {σ : x_S} {Q : Option q_V → x_S → Prop} (C0 : y_CI σ) (k : ∀ τ, y_CI τ → (∀ c m, ¬ (c = 111 ∧ m = 14) → τ c m = σ c m) → τ 111 14 = 0 → Q none τ) : x_P E 62 [x_R 111] σ Q := by
  refine x_Mt e_62 (h_62 E) (Nat.le_of_ble_eq_true rfl) t_62 rfl ?_
  refine x_blk (b := 0) (a_62 E) rfl ?_
  unfold b_62_0
  refine x_aload rfl ?_
  refine x_push 0 rfl ?_
  refine x_putZG y_f111_14 rfl (by decide) C0 (by decide) (y_fr_rf (lo := 0) (hi := 138)) (by omega) (fun S1 e1 C1 F1 => ?_)
  refine x_vret ?_
  exact k _ C1 (fun c m hc => x_up_ne e1 hc) (x_up_at e1)
theorem kx_62_124 {E : q_E} {σ : x_S} {Q : Option q_V → x_S → Prop} (C0 : y_CI σ) (k : ∀ τ, y_CI τ → (∀ c m, ¬ (c = 124 ∧ m = 14) → τ c m = σ c m) → τ 124 14 = 0 → Q none τ) : x_P E 62 [x_R 124] σ Q := by
  refine x_Mt e_62 (h_62 E) (Nat.le_of_ble_eq_true rfl) t_62 rfl ?_
  refine x_blk (b := 0) (a_62 E) rfl ?_
  unfold b_62_0
  refine x_aload rfl ?_
  refine x_push 0 rfl ?_
  refine x_putZG y_f124_14 rfl (by decide) C0 (by decide) (y_fr_rf (lo := 0) (hi := 138)) (by omega) (fun S1 e1 C1 F1 => ?_)
  refine x_vret ?_
  exact k _ C1 (fun c m hc => x_up_ne e1 hc) (x_up_at e1)
theorem kx_83_0 {E : q_E} {σ : x_S} {Q : Option q_V → x_S → Prop} (C0 : y_CI σ) (k : ∀ τ, y_CI τ → (∀ c m, ¬ (c = 111 ∧ m = 14) → ¬ (c = 124 ∧ m = 14) → τ c m = σ c m) → τ 111 14 = 0 → τ 124 14 = 0 → Q none τ) : x_P E 83 [x_R 0] σ Q := by
  refine x_Mt e_83 (h_83 E) (Nat.le_of_ble_eq_true rfl) t_83 rfl ?_
  refine x_blk (b := 0) (a_83 E) rfl ?_
  unfold b_83_0
  refine x_aload rfl ?_
  refine x_getR (r := 0) rfl (by decide) (by decide) rfl ?_
  refine x_cV (fun _ => rfl) rfl (by decide) (Nat.le_of_ble_eq_true rfl) ?_
  refine kx_62_111 C0 (fun S1 C1 f1 w1 => ?_)
  refine x_aload rfl ?_
  refine x_getR (r := 0) rfl (by decide) (by decide) rfl ?_
  refine x_cV (fun _ => rfl) rfl (by decide) (Nat.le_of_ble_eq_true rfl) ?_
  refine kx_62_124 C1 (fun S2 C2 f2 w2 => ?_)
  refine x_vret ?_
  exact k _ C2 (fun q m h1 h2 => (f2 q m h2).trans (f1 q m h1)) ((f2 111 14 (by decide)).trans w1) w2
theorem kx_89_0 {E : q_E} {σ : x_S} {Q : Option q_V → x_S → Prop} (C0 : y_CI σ) {A : Nat → Int} (hP : y_PI A) (hA : y_AG (y_cv σ 4) A) (k : ∀ τ, y_CI τ → (∀ c m, c ≠ 10 → ¬ (c = 111 ∧ m = 14) → ¬ (c = 124 ∧ m = 14) → τ c m = σ c m) → y_PG τ 4 A → τ 111 14 = 0 → τ 124 14 = 0 → Q none τ) : x_P E 89 [x_R 0] σ Q := by
  refine x_Mt e_89 (h_89 E) (Nat.le_of_ble_eq_true rfl) t_89 rfl ?_
  refine x_blk (b := 0) (a_89 E) rfl ?_
  unfold b_89_0
  refine x_aload rfl ?_
  refine x_getR (r := 0) rfl (by decide) (by decide) rfl ?_
  refine x_cV (fun _ => rfl) rfl (by decide) (Nat.le_of_ble_eq_true rfl) ?_
  refine kx_48_4 C0 hP hA (fun S1 C1 f1 w1 => ?_)
  refine x_aload rfl ?_
  refine x_cV (fun _ => rfl) rfl (by decide) (Nat.le_of_ble_eq_true rfl) ?_
  refine kx_83_0 C1 (fun S2 C2 f2 w2a w2b => ?_)
  refine x_vret ?_
  refine k _ C2 (fun q m h0 h1 h2 => (f2 q m h1 h2).trans (f1 q m h0)) ⟨y_AG_ex hA (fun m => y_cv_x (fun _ => ?_) (fun _ _ => ?_) (fun _ _ => ?_) (fun _ _ => ?_) (fun _ => ?_) (fun _ => ?_)), fun P Q F L h1 h2 h3 h4 => ?_⟩ w2a w2b
  all_goals first
    | exact (f2 _ _ (by omega) (by omega)).trans (f1 _ _ (by omega))
    | exact (f2 _ _ (by omega) (by omega)).trans (w1 P Q F L h1 h2 h3 h4)
