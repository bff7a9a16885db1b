/-! pure: trees as rows of letters, rules, programs as the reference holds them -/
def y_c9 (x : Int) : Int := if 9 < x then 0 else y_ch x
theorem y_c9_b (f : Int) : 0 ≤ y_c9 f ∧ y_c9 f ≤ 2 := by unfold y_c9; have := y_ch_b f; split <;> omega
/-- how many subtrees are still to come, ahead of the k-th -/
def y_op (p : Nat → Int) : Nat → Int
  | 0 => 1
  | k + 1 => y_op p k + y_c9 (p k) - 1
theorem y_op_ext {p q : Nat → Int} : ∀ {n : Nat}, (∀ i, i < n → p i = q i) → y_op p n = y_op q n
  | 0, _ => rfl
  | n + 1, h => by
    show y_op p n + y_c9 (p n) - 1 = y_op q n + y_c9 (q n) - 1
    rw [y_op_ext (fun i hi => h i (Nat.lt_succ_of_lt hi)), h n (Nat.lt_succ_self n)]
theorem y_op_s (p : Nat → Int) (k : Nat) : y_op p (k + 1) = y_op p k + y_c9 (p k) - 1 := rfl
def y_tr (p : Nat → Int) (n : Nat) : Prop := (∀ k, k < n → 0 ≤ p k ∧ p k ≤ 4 ∧ 1 ≤ y_op p k) ∧ y_op p n = 0
theorem y_tr_ext {p q : Nat → Int} {n : Nat} (h : ∀ i, i < n → p i = q i) (ht : y_tr p n) : y_tr q n := by
  refine ⟨fun k hk => ?_, ?_⟩
  · rw [← h k hk, ← y_op_ext (fun i hi => h i (Nat.lt_trans hi hk))]
    exact ht.1 k hk
  · rw [← y_op_ext h]
    exact ht.2
def y_pc (f p : Int) : Prop := (0 ≤ p ∧ p ≤ 4) ∨ (10 ≤ p ∧ p ≤ 15 ∧ 2 ≤ f ∧ (p % 2 = 1 → 3 ≤ f))
def y_rl (q : Nat → Int) : Prop := (0 ≤ q 0 ∧ q 0 ≤ 1) ∧ (0 ≤ q 1 ∧ q 1 ≤ 2) ∧ (0 ≤ q 2 ∧ q 2 ≤ 4) ∧ (0 ≤ q 3 ∧ q 3 ≤ 2) ∧ (1 ≤ q 4 ∧ q 4 ≤ 7) ∧ (∀ k, k < (q 4).toNat → y_pc (q 2) (q (5 + k)) ∧ 1 ≤ y_op (fun i => q (5 + i)) k) ∧ y_op (fun i => q (5 + i)) (q 4).toNat = 0
theorem y_rl_ext {p q : Nat → Int} (h : ∀ i, i < 5 + (p 4).toNat → p i = q i) (hr : y_rl p) : y_rl q := by
  obtain ⟨a, b, c, d, e, f, g⟩ := hr
  have h4 := h 4 (by omega)
  refine ⟨by rw [← h 0 (by omega)]; exact a, by rw [← h 1 (by omega)]; exact b, by rw [← h 2 (by omega)]; exact c, by rw [← h 3 (by omega)]; exact d, by rw [← h4]; exact e, fun k hk => ?_, ?_⟩
  · have f2 := f k (by rw [h4]; exact hk)
    rw [← h4] at hk
    rw [← h 2 (by omega), ← h (5 + k) (by omega)]
    refine ⟨f2.1, ?_⟩
    rw [← y_op_ext (p := fun i => p (5 + i)) (q := fun i => q (5 + i)) (fun i hi => h (5 + i) (by omega))]
    exact f2.2
  · rw [← h4]
    rw [← y_op_ext (p := fun i => p (5 + i)) (q := fun i => q (5 + i)) (fun i hi => h (5 + i) (by omega))]
    exact g
def y_PK (ρ : Nat → Int) : Prop := (0 ≤ ρ 0 ∧ ρ 0 ≤ 3) ∧ (0 ≤ ρ 1 ∧ ρ 1 ≤ 3)
def y_PT (ρ : Nat → Int) (t : Nat) : Prop := (1 ≤ ρ (2 + t) ∧ ρ (2 + t) ≤ 11) ∧ y_tr (fun v => ρ (5 + 11 * t + v)) (ρ (2 + t)).toNat
def y_PE (ρ : Nat → Int) : Prop := ∀ k, 38 ≤ k → k < 62 → 0 ≤ ρ k ∧ ρ k ≤ 1
def y_PR (ρ : Nat → Int) : Prop := (0 ≤ ρ 62 ∧ ρ 62 ≤ 16) ∧ ∀ r, r < (ρ 62).toNat → y_rl (fun k => ρ (63 + 12 * r + k))
def y_PI (ρ : Nat → Int) : Prop := y_PK ρ ∧ (∀ t, t < 3 → y_PT ρ t) ∧ y_PE ρ ∧ y_PR ρ
theorem y_PT_ext {ρ τ : Nat → Int} {t : Nat} (h2 : ρ (2 + t) = τ (2 + t)) (h : ∀ v, v < 11 → ρ (5 + 11 * t + v) = τ (5 + 11 * t + v)) (hp : y_PT ρ t) : y_PT τ t := by
  obtain ⟨a, b⟩ := hp
  refine ⟨by rw [← h2]; exact a, ?_⟩
  rw [← h2]
  exact y_tr_ext (fun i hi => h i (by omega)) b
theorem y_PR_ext {ρ τ : Nat → Int} (h : ∀ k, 62 ≤ k → k < 255 → ρ k = τ k) (hp : y_PR ρ) : y_PR τ := by
  obtain ⟨a, b⟩ := hp
  have h62 := h 62 (by decide) (by decide)
  refine ⟨by rw [← h62]; exact a, fun r hr => ?_⟩
  rw [← h62] at hr
  have hr4 : 1 ≤ ρ (63 + 12 * r + 4) ∧ ρ (63 + 12 * r + 4) ≤ 7 := (b r hr).2.2.2.2.1
  have hi4 : ∀ i, i < 5 + ((fun k => ρ (63 + 12 * r + k)) 4).toNat → i < 5 + (ρ (63 + 12 * r + 4)).toNat := fun _ z => z
  refine y_rl_ext (fun i hi => ?_) (b r hr)
  have hi := hi4 i hi
  exact h _ (by omega) (by omega)
theorem y_PI_ext {ρ τ : Nat → Int} (h : ∀ k, k < 255 → ρ k = τ k) (hp : y_PI ρ) : y_PI τ := by
  obtain ⟨a, b, c, d⟩ := hp
  refine ⟨?_, fun t ht => y_PT_ext (h _ (by omega)) (fun v hv => h _ (by omega)) (b t ht), fun k h1 h2 => ?_, y_PR_ext (fun k _ hk => h k hk) d⟩
  · unfold y_PK
    rw [← h 0 (by decide), ← h 1 (by decide)]
    exact a
  · rw [← h k (by omega)]
    exact c k h1 h2
/-- nothing but these cells, and these words of the reference's own, has changed -/
def y_sm (L F : List Nat) (σ τ : x_S) : Prop := ∀ r k, r ∉ L → (r = 138 → k ∉ F) → τ r k = σ r k
theorem y_sm_a {L F : List Nat} {σ τ : x_S} (h : y_sm L F σ τ) (r : Nat) (hr : r ∉ L) (hn : r ≠ 138) (k : Nat) : τ r k = σ r k := h r k hr (fun z => absurd z hn)
theorem y_sm_rf {L F : List Nat} {σ : x_S} : y_sm L F σ σ := fun _ _ _ _ => rfl
theorem y_sm_tr {L F : List Nat} {a b c : x_S} (h1 : y_sm L F a b) (h2 : y_sm L F b c) : y_sm L F a c := fun r k x y => (h2 r k x y).trans (h1 r k x y)
theorem y_sm_w {L F L' F' : List Nat} {a b : x_S} (hL : ∀ x, x ∈ L → x ∈ L') (hF : ∀ x, x ∈ F → x ∈ F' ∨ 138 ∈ L') (h : y_sm L F a b) : y_sm L' F' a b := fun r k x y => h r k (fun z => x (hL r z)) (fun z w => by
  rcases hF k w with w | w
  · exact y z w
  · rw [z] at x; exact x w)
theorem y_sm_up {L F : List Nat} {σ : x_S} {r k : Nat} {v : Int} (h : r ∈ L ∨ (r = 138 ∧ k ∈ F)) : y_sm L F σ (x_up σ r k v) := by
  intro r' k' h1 h2
  unfold x_up
  rw [if_neg]
  rintro ⟨e1, e2⟩
  subst e1; subst e2
  rcases h with h | ⟨h, h3⟩
  · exact h1 h
  · exact h2 h h3
theorem y_PK_ext {ρ τ : Nat → Int} (h0 : ρ 0 = τ 0) (h1 : ρ 1 = τ 1) (hp : y_PK ρ) : y_PK τ := by
  unfold y_PK at hp ⊢
  rw [← h0, ← h1]
  exact hp
theorem y_PE_ext {ρ τ : Nat → Int} (h : ∀ k, 38 ≤ k → k < 62 → ρ k = τ k) (hp : y_PE ρ) : y_PE τ := fun k h1 h2 => by
  rw [← h k h1 h2]
  exact hp k h1 h2
/-- all but one tree -/
def y_PX (T : Nat) (ρ : Nat → Int) : Prop := y_PK ρ ∧ (∀ t, t < 3 → t ≠ T → y_PT ρ t) ∧ y_PE ρ ∧ y_PR ρ
theorem y_PX_of {T : Nat} {ρ : Nat → Int} (h : y_PI ρ) : y_PX T ρ := ⟨h.1, fun t ht _ => h.2.1 t ht, h.2.2.1, h.2.2.2⟩
theorem y_PX_ext {T : Nat} {ρ τ : Nat → Int} (hT : T < 3) (h : ∀ k, k < 255 → ¬ (5 + 11 * T ≤ k ∧ k < 16 + 11 * T) → k ≠ 2 + T → ρ k = τ k) (hp : y_PX T ρ) : y_PX T τ := by
  obtain ⟨a, b, c, d⟩ := hp
  refine ⟨y_PK_ext (h 0 (by omega) (by omega) (by omega)) (h 1 (by omega) (by omega) (by omega)) a, fun t h1 h2 => y_PT_ext (h _ (by omega) (by omega) (by omega)) (fun v hv => h _ (by omega) (by omega) (by omega)) (b t h1 h2), y_PE_ext (fun k h1 h2 => h k (by omega) (by omega) (by omega)) c, y_PR_ext (fun k h1 h2 => h k (by omega) (by omega) (by omega)) d⟩
theorem y_PX_in {T : Nat} {ρ : Nat → Int} (hp : y_PX T ρ) (h1 : y_PT ρ T) : y_PI ρ := by
  obtain ⟨a, b, c, d⟩ := hp
  refine ⟨a, fun t ht => ?_, c, d⟩
  by_cases e : t = T
  · rw [e]; exact h1
  · exact b t ht e
theorem y_PI_k {ρ τ : Nat → Int} (h : ∀ k, k < 255 → 2 ≤ k → ρ k = τ k) (hk : y_PK τ) (hp : y_PI ρ) : y_PI τ := by
  obtain ⟨a, b, c, d⟩ := hp
  exact ⟨hk, fun t ht => y_PT_ext (h _ (by omega) (by omega)) (fun v hv => h _ (by omega) (by omega)) (b t ht), y_PE_ext (fun k h1 h2 => h k (by omega) (by omega)) c, y_PR_ext (fun k h1 h2 => h k (by omega) (by omega)) d⟩
theorem y_PI_e {ρ τ : Nat → Int} (h : ∀ k, k < 255 → ¬ (38 ≤ k ∧ k < 62) → ρ k = τ k) (hk : y_PE τ) (hp : y_PI ρ) : y_PI τ := by
  obtain ⟨a, b, c, d⟩ := hp
  exact ⟨y_PK_ext (h 0 (by omega) (by omega)) (h 1 (by omega) (by omega)) a, fun t ht => y_PT_ext (h _ (by omega) (by omega)) (fun v hv => h _ (by omega) (by omega)) (b t ht), hk, y_PR_ext (fun k h1 h2 => h k (by omega) (by omega)) d⟩
theorem y_PI_r {ρ τ : Nat → Int} (h : ∀ k, k < 62 → ρ k = τ k) (hk : y_PR τ) (hp : y_PI ρ) : y_PI τ := by
  obtain ⟨a, b, c, d⟩ := hp
  exact ⟨y_PK_ext (h 0 (by omega)) (h 1 (by omega)) a, fun t ht => y_PT_ext (h _ (by omega)) (fun v hv => h _ (by omega)) (b t ht), y_PE_ext (fun k h1 h2 => h k (by omega)) c, hk⟩
def y_pw (c : Int) : Int := if c = 0 then 1 else if c = 1 then 2 else 4
theorem y_pw_b (c : Int) : 1 ≤ y_pw c ∧ y_pw c ≤ 4 := by unfold y_pw; (repeat' split) <;> omega
theorem y_tab_b {m f e : Int} (m1 : 0 ≤ m) (m2 : m ≤ 1) (f1 : 0 ≤ f) (f2 : f ≤ 4) (e1 : 0 ≤ e) (e2 : e < y_pw (y_ch f)) : 38 ≤ y_tab m f e ∧ y_tab m f e < 62 := by
  have : f = 0 ∨ f = 1 ∨ f = 2 ∨ f = 3 ∨ f = 4 := by omega
  unfold y_tab
  rcases this with rfl | rfl | rfl | rfl | rfl
  all_goals (have e2 : e < _ := e2; simp [y_pw, y_ch] at e2; simp; omega)
theorem x_shl1 {E : q_E} {M : q_M} {Q : Option q_V → x_S → Prop} {tg : Nat → Nat} {cs : List q_Op} {lo : q_Lo} {st : List q_V} {σ : x_S} {c : Int} (h1 : 0 ≤ c) (h2 : c ≤ 2) (k : x_X E M Q tg cs lo (x_I (y_pw c) :: st) σ) : x_X E M Q tg (o_binc g_ishl f_ishl :: cs) lo (x_I c :: x_I 1 :: st) σ := by
  have : c = 0 ∨ c = 1 ∨ c = 2 := by omega
  rcases this with rfl | rfl | rfl <;> exact x_binc _ rfl rfl k
