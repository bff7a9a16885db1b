/-- only the pile of types has changed -/
def y_so (σ τ : x_S) : Prop := ∀ r m, r ≠ 158 → τ r m = σ r m
theorem y_so_rf {σ : x_S} : y_so σ σ := fun _ _ _ => rfl
theorem y_so_tr {a b c : x_S} (h1 : y_so a b) (h2 : y_so b c) : y_so a c := fun r m h => (h2 r m h).trans (h1 r m h)
theorem y_so_C {σ τ : x_S} (C : y_SI σ) (h : y_so σ τ) : y_SI τ := y_SI_x C (fun k => h 155 k (by decide)) (fun k => h 156 k (by decide))
theorem y_so_F {σ τ : x_S} (h : y_so σ τ) : y_rf σ τ := fun r k hr _ => h r k (by omega)
theorem y_kdp {σ : x_S} {p : Int} (hP : y_PI (σ 140)) (h1 : 0 ≤ p) (h2 : p ≤ 1) : 0 ≤ σ 140 p.toNat ∧ σ 140 p.toNat ≤ 3 := by
  have hk := hP.1
  have c : p.toNat = 0 ∨ p.toNat = 1 := by omega
  rcases c with c | c <;> rw [c]
  · exact hk.1
  · exact hk.2
theorem y_szt {σ : x_S} {t : Int} (hP : y_PI (σ 140)) (h1 : 0 ≤ t) (h2 : t ≤ 2) : 1 ≤ σ 140 (2 + t).toNat ∧ σ 140 (2 + t).toNat ≤ 11 := by
  rw [show (2 + t).toNat = 2 + t.toNat by omega]
  exact (hP.2.1 t.toNat (by omega)).1
theorem rs_0 {E : q_E} {σ : x_S} {Q : Option q_V → x_S → Prop} {f : Int} (h1 : -2147483648 ≤ f) (h2 : f ≤ 2147483647) (k : ∀ v, 0 ≤ v → v ≤ 2 → ((f < 2 ∧ v = 0) ∨ (f = 2 ∧ v = 1) ∨ (2 < f ∧ v = 2)) → Q (some (x_I v)) σ) : x_P E 0 [x_I f] σ Q := by
  refine c_0 h1 h2 (k _ (y_ch_b f).1 (y_ch_b f).2 ?_)
  unfold y_ch
  (repeat' split) <;> omega
theorem rs_17 {E : q_E} {σ : x_S} {Q : Option q_V → x_S → Prop} {m f e : Int} (m1 : 0 ≤ m) (m2 : m ≤ 1) (f1 : 0 ≤ f) (f2 : f ≤ 4) (e1 : 0 ≤ e) (e2 : (f < 2 ∧ e < 1) ∨ (f = 2 ∧ e < 2) ∨ (2 < f ∧ e < 4)) (k : ∀ v, 38 ≤ v → v < 62 → Q (some (x_I v)) σ) : x_P E 17 [x_I m, x_I f, x_I e] σ Q := by
  refine c_17 (by omega) (by omega) (k _ ?_ ?_)
  · unfold y_tab
    split <;> omega
  · unfold y_tab
    split <;> omega
/-- a ground: a tree, and where each subtree ends -/
def y_gd (σ : x_S) : Prop := (1 ≤ σ 138 10 ∧ σ 138 10 ≤ 40) ∧ y_tr (σ 145) (σ 138 10).toNat ∧ ∀ u : Nat, u < (σ 138 10).toNat → (u : Int) < σ 146 u ∧ σ 146 u ≤ σ 138 10 ∧ y_op (σ 145) (σ 146 u).toNat = y_op (σ 145) u - 1
/-- a sum -/
def y_sum (f : Nat → Int) : Nat → Int
  | 0 => 0
  | n + 1 => y_sum f n + f n
theorem y_sum_s (f : Nat → Int) (n : Nat) : y_sum f (n + 1) = y_sum f n + f n := rfl
theorem y_sum_ext {f g : Nat → Int} : ∀ {n : Nat}, (∀ i, i < n → f i = g i) → y_sum f n = y_sum g n
  | 0, _ => rfl
  | n + 1, h => by rw [y_sum_s, y_sum_s, y_sum_ext (fun i hi => h i (by omega)), h n (by omega)]
theorem y_sum_nn {f : Nat → Int} : ∀ {n : Nat}, (∀ i, i < n → 0 ≤ f i) → 0 ≤ y_sum f n
  | 0, _ => Int.le_refl 0
  | n + 1, h => by
    have h1 := y_sum_nn (f := f) (n := n) (fun i hi => h i (by omega))
    have h2 := h n (by omega)
    rw [y_sum_s]; omega
theorem y_sum_le {f : Nat → Int} {c : Int} : ∀ {n : Nat}, (∀ i, i < n → f i ≤ c) → y_sum f n ≤ c * n
  | 0, _ => by show (0 : Int) ≤ c * 0; omega
  | n + 1, h => by
    have h1 := y_sum_le (f := f) (n := n) (fun i hi => h i (by omega))
    have h2 := h n (by omega)
    rw [y_sum_s, show ((n + 1 : Nat) : Int) = (n : Int) + 1 by omega, Int.mul_add, Int.mul_one]
    omega
theorem y_sum_up {f g : Nat → Int} {p : Nat} (he : ∀ i, i ≠ p → g i = f i) : ∀ {n : Nat}, p < n → y_sum g n = y_sum f n + (g p - f p)
  | 0, h => absurd h (by omega)
  | n + 1, h => by
    rw [y_sum_s, y_sum_s]
    by_cases c : p = n
    · subst c
      rw [y_sum_ext (f := g) (g := f) (fun i hi => he i (by omega))]
      omega
    · rw [y_sum_up he (n := n) (by omega), he n (fun z => c z.symm)]
      omega
