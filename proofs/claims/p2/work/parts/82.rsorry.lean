theorem rs_38 {E : q_E} {σ : x_S} {Q : Option q_V → x_S → Prop} {a1 a2 a3 a4 : Int} (a1l : 0 ≤ a1) (a1h : a1 ≤ 1) (a2l : 0 ≤ a2) (a2h : a2 ≤ 15) (a3l : 0 ≤ a3) (a3h : a3 ≤ 53) (a4l : 0 ≤ a4) (a4h : a4 ≤ 53) (rq0 : 0 ≤ a2 ∧ a2 < σ 140 62) (hP : y_PI (σ 140)) (k : ∀ τ v, y_rf σ τ → 0 ≤ v → v ≤ 2 → y_so σ τ → Q (some (x_I v)) τ) : x_P E 38 [x_R 138, x_I a1, x_I a2, x_I a3, x_I a4] σ Q := by
  sorry
theorem rs_118 {E : q_E} {σ : x_S} {Q : Option q_V → x_S → Prop} {a1 : Int} (a1l : 0 ≤ a1) (a1h : a1 ≤ 1) (hP : y_PI (σ 140)) (k : ∀ τ, y_SI τ → y_rf σ τ → Q none τ) : x_P E 118 [x_R 138, x_I a1] σ Q := by
  sorry
theorem rs_80 {E : q_E} {σ : x_S} {Q : Option q_V → x_S → Prop} {a1 a2 : Int} (a1l : 0 ≤ a1) (a1h : a1 ≤ 2) (a2l : 0 ≤ a2) (a2h : a2 ≤ 1) (hP : y_PI (σ 140)) (k : ∀ τ, y_rf σ τ → y_gd τ → τ 138 10 ≤ 11 → Q none τ) : x_P E 80 [x_R 138, x_I a1, x_I a2] σ Q := by
  sorry
theorem rs_81 {E : q_E} {σ : x_S} {Q : Option q_V → x_S → Prop} {a1 : Int} (a1l : 0 ≤ a1) (a1h : a1 ≤ 1) (rq0 : (1 ≤ σ 138 10 ∧ σ 138 10 ≤ 40) ∧ y_tr (σ 145) (σ 138 10).toNat) (hP : y_PI (σ 140)) (k : ∀ τ, y_rf σ τ → y_gd τ → τ 138 10 = σ 138 10 → Q none τ) : x_P E 81 [x_R 138, x_I a1] σ Q := by
  sorry
theorem rs_94 {E : q_E} {σ : x_S} {Q : Option q_V → x_S → Prop} {a1 a2 : Int} (a1l : 0 ≤ a1) (a1h : a1 ≤ 1) (a2l : (-2147483648) ≤ a2) (a2h : a2 ≤ 2147483647) (rq0 : y_gd σ) (hP : y_PI (σ 140)) (k : ∀ τ v, y_rf σ τ → 0 ≤ v → v ≤ 2 → 0 ≤ τ 138 18 ∧ τ 138 18 ≤ 40 → (v = 0 → y_tr (τ 151) (τ 138 18).toNat) → Q (some (x_I v)) τ) : x_P E 94 [x_R 138, x_I a1, x_I a2] σ Q := by
  sorry
theorem rs_116 {E : q_E} {σ : x_S} {Q : Option q_V → x_S → Prop} (rq0 : y_gd σ) (rq1 : σ 138 10 ≤ 11) (hP : y_PI (σ 140)) (k : ∀ τ v, y_rf σ τ → 0 ≤ v → v ≤ 2 → 0 ≤ τ 138 18 ∧ τ 138 18 ≤ 40 → Q (some (x_I v)) τ) : x_P E 116 [x_R 138] σ Q := by
  sorry
