/-- only the pile of types has changed -/
def y_so (σ τ : x_S) : Prop := ∀ r m, r ≠ 158 → τ r m = σ r m
theorem y_so_rf {σ : x_S} : y_so σ σ := fun _ _ _ => rfl
theorem y_so_tr {a b c : x_S} (h1 : y_so a b) (h2 : y_so b c) : y_so a c := fun r m h => (h2 r m h).trans (h1 r m h)
theorem y_so_C {σ τ : x_S} (C : y_SI σ) (h : y_so σ τ) : y_SI τ := y_SI_x C (fun k => h 155 k (by decide)) (fun k => h 156 k (by decide))
theorem y_kdp {σ : x_S} {p : Int} (hP : y_PI (σ 140)) (h1 : 0 ≤ p) (h2 : p ≤ 1) : 0 ≤ σ 140 p.toNat ∧ σ 140 p.toNat ≤ 3 := by
  have hk := hP.1
  have c : p.toNat = 0 ∨ p.toNat = 1 := by omega
  rcases c with c | c <;> rw [c]
  · exact hk.1
  · exact hk.2
theorem y_szt {σ : x_S} {t : Int} (hP : y_PI (σ 140)) (h1 : 0 ≤ t) (h2 : t ≤ 2) : 1 ≤ σ 140 (2 + t).toNat ∧ σ 140 (2 + t).toNat ≤ 11 := by
  rw [show (2 + t).toNat = 2 + t.toNat by omega]
  exact (hP.2.1 t.toNat (by omega)).1
theorem rs_0 {E : q_E} {σ : x_S} {Q : Option q_V → x_S → Prop} {f : Int} (h1 : -2147483648 ≤ f) (h2 : f ≤ 2147483647) (k : ∀ v, 0 ≤ v → v ≤ 2 → ((f < 2 ∧ v = 0) ∨ (f = 2 ∧ v = 1) ∨ (2 < f ∧ v = 2)) → Q (some (x_I v)) σ) : x_P E 0 [x_I f] σ Q := by
  refine c_0 h1 h2 (k _ (y_ch_b f).1 (y_ch_b f).2 ?_)
  unfold y_ch
  (repeat' split) <;> omega
theorem rs_17 {E : q_E} {σ : x_S} {Q : Option q_V → x_S → Prop} {m f e : Int} (m1 : 0 ≤ m) (m2 : m ≤ 1) (f1 : 0 ≤ f) (f2 : f ≤ 4) (e1 : 0 ≤ e) (e2 : (f < 2 ∧ e < 1) ∨ (f = 2 ∧ e < 2) ∨ (2 < f ∧ e < 4)) (k : ∀ v, 38 ≤ v → v < 62 → Q (some (x_I v)) σ) : x_P E 17 [x_I m, x_I f, x_I e] σ Q := by
  refine c_17 (by omega) (by omega) (k _ ?_ ?_)
  · unfold y_tab
    split <;> omega
  · unfold y_tab
    split <;> omega
/-- a ground: a tree, and where each subtree ends -/
def y_gd (σ : x_S) : Prop := (1 ≤ σ 138 10 ∧ σ 138 10 ≤ 40) ∧ y_tr (σ 145) (σ 138 10).toNat ∧ ∀ u : Nat, u < (σ 138 10).toNat → (u : Int) < σ 146 u ∧ σ 146 u ≤ σ 138 10 ∧ y_op (σ 145) (σ 146 u).toNat = y_op (σ 145) u - 1
/-- a sum -/
def y_sum (f : Nat → Int) : Nat → Int
  | 0 => 0
  | n + 1 => y_sum f n + f n
theorem y_sum_s (f : Nat → Int) (n : Nat) : y_sum f (n + 1) = y_sum f n + f n := rfl
theorem y_sum_ext {f g : Nat → Int} : ∀ {n : Nat}, (∀ i, i < n → f i = g i) → y_sum f n = y_sum g n
  | 0, _ => rfl
  | n + 1, h => by rw [y_sum_s, y_sum_s, y_sum_ext (fun i hi => h i (by omega)), h n (by omega)]
theorem y_sum_nn {f : Nat → Int} : ∀ {n : Nat}, (∀ i, i < n → 0 ≤ f i) → 0 ≤ y_sum f n
  | 0, _ => Int.le_refl 0
  | n + 1, h => by
    have h1 := y_sum_nn (f := f) (n := n) (fun i hi => h i (by omega))
    have h2 := h n (by omega)
    rw [y_sum_s]; omega
theorem y_sum_le {f : Nat → Int} {c : Int} : ∀ {n : Nat}, (∀ i, i < n → f i ≤ c) → y_sum f n ≤ c * n
  | 0, _ => by show (0 : Int) ≤ c * 0; omega
  | n + 1, h => by
    have h1 := y_sum_le (f := f) (n := n) (fun i hi => h i (by omega))
    have h2 := h n (by omega)
    rw [y_sum_s, show ((n + 1 : Nat) : Int) = (n : Int) + 1 by omega, Int.mul_add, Int.mul_one]
    omega
theorem y_sum_up {f g : Nat → Int} {p : Nat} (he : ∀ i, i ≠ p → g i = f i) : ∀ {n : Nat}, p < n → y_sum g n = y_sum f n + (g p - f p)
  | 0, h => absurd h (by omega)
  | n + 1, h => by
    rw [y_sum_s, y_sum_s]
    by_cases c : p = n
    · subst c
      rw [y_sum_ext (f := g) (g := f) (fun i hi => he i (by omega))]
      omega
    · rw [y_sum_up he (n := n) (by omega), he n (fun z => c z.symm)]
      omega
theorem x_astN {E : q_E} {M : q_M} {Q : Option q_V → x_S → Prop} {tg : Nat → Nat} {cs : List q_Op} {lo : q_Lo} {st : List q_V} {σ σ0 : x_S} {r n m : Nat} {i v : Int} (a : y_mr r n) (F : y_rf σ0 σ) (hm : i.toNat = m) (hi : 0 ≤ i) (hn : i < n) (h1 : -2147483648 ≤ v) (h2 : v ≤ 2147483647) (kk : ∀ τ, τ = x_up σ r m v → y_rf σ0 τ → x_X E M Q tg cs lo st τ) : x_X E M Q tg (o_ast 0 18446744073709551616 :: cs) lo (x_I v :: x_I i :: x_R r :: st) σ := by
  subst hm
  exact x_astM a F hi hn h1 h2 kk
theorem x_iald140N {E : q_E} {M : q_M} {Q : Option q_V → x_S → Prop} {tg : Nat → Nat} {cs : List q_Op} {lo : q_Lo} {st : List q_V} {σ σ0 : x_S} {m : Nat} {i : Int} (F : y_rf σ0 σ) (hm : i.toNat = m) (hi : 0 ≤ i) (hn : i < 256) (kk : -2147483648 ≤ σ0 140 m → σ0 140 m ≤ 2147483647 → x_X E M Q tg cs lo (x_I (σ0 140 m) :: st) σ) : x_X E M Q tg (o_iald0 :: cs) lo (x_I i :: x_R 140 :: st) σ := by
  subst hm
  exact x_iald140 F hi hn kk
/-- a node of a tree, and where the subtrees below it end -/
theorem y_gdn {p past : Nat → Int} {g : Int} {v : Nat} (ht : y_tr p g.toNat) (hv : (v : Int) < g) (hp : ∀ u : Nat, v < u → (u : Int) < g → (u : Int) < past u ∧ past u ≤ g ∧ y_op p (past u).toNat = y_op p u - 1) : 0 ≤ p v ∧ p v ≤ 4 ∧ (2 ≤ p v → (v : Int) + 1 < g ∧ (v : Int) + 1 < past (v + 1) ∧ past (v + 1) ≤ g) ∧ (3 ≤ p v → past (v + 1) < g ∧ past (v + 1) < past (past (v + 1)).toNat ∧ past (past (v + 1)).toNat ≤ g) ∧ (p v < 2 → y_op p ((v : Int) + 1).toNat = y_op p v - 1) ∧ (p v = 2 → y_op p (past (v + 1)).toNat = y_op p v - 1) ∧ (3 ≤ p v → y_op p (past (past (v + 1)).toNat).toNat = y_op p v - 1) := by
  obtain ⟨t1, t2⟩ := ht
  obtain ⟨l1, l2, l3⟩ := t1 v (by omega)
  have hs := y_op_s p v
  have hc : y_c9 (p v) = if p v < 2 then 0 else if p v = 2 then 1 else 2 := by
    unfold y_c9 y_ch
    rw [if_neg (by omega)]
  have hn : ((v : Int) + 1).toNat = v + 1 := by omega
  have hA : 2 ≤ p v → (v : Int) + 1 < g := by
    intro h
    rw [if_neg (by omega)] at hc
    have hc1 : 1 ≤ y_c9 (p v) := by rw [hc]; split <;> omega
    by_cases c : v + 1 = g.toNat
    · rw [c, t2] at hs
      omega
    · omega
  have hB : 2 ≤ p v → (v : Int) + 1 < past (v + 1) ∧ past (v + 1) ≤ g ∧ y_op p (past (v + 1)).toNat = y_op p (v + 1) - 1 := by
    intro h
    have := hp (v + 1) (by omega) (by have := hA h; omega)
    refine ⟨by omega, this.2.1, this.2.2⟩
  have hC : 3 ≤ p v → past (v + 1) < g := by
    intro h
    obtain ⟨b1, b2, b3⟩ := hB (by omega)
    rw [if_neg (by omega), if_neg (by omega)] at hc
    by_cases c : (past (v + 1)).toNat = g.toNat
    · rw [c, t2] at b3
      omega
    · omega
  have hD : 3 ≤ p v → past (v + 1) < past (past (v + 1)).toNat ∧ past (past (v + 1)).toNat ≤ g ∧ y_op p (past (past (v + 1)).toNat).toNat = y_op p (past (v + 1)).toNat - 1 := by
    intro h
    obtain ⟨b1, b2, b3⟩ := hB (by omega)
    have := hp (past (v + 1)).toNat (by omega) (by have := hC h; omega)
    refine ⟨by omega, this.2.1, this.2.2⟩
  refine ⟨l1, l2, fun h => ⟨hA h, (hB h).1, (hB h).2.1⟩, fun h => ⟨hC h, (hD h).1, (hD h).2.1⟩, fun h => ?_, fun h => ?_, fun h => ?_⟩
  · rw [hn, hs, hc, if_pos h]; omega
  · rw [(hB (by omega)).2.2, hs, hc, if_neg (by omega), if_pos h]; omega
  · rw [(hD h).2.2, (hB (by omega)).2.2, hs, hc, if_neg (by omega), if_neg (by omega)]; omega
