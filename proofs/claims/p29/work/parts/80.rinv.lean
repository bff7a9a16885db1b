/-! the reference's methods that change no program: what they leave as it was -/
def y_rf (σ τ : x_S) : Prop := ∀ r k, r < 145 → (r = 138 → k = 0 ∨ k = 5 ∨ k = 7) → τ r k = σ r k
/-- any answer of a method that changes no program -/
def y_KQ (Q : Option q_V → x_S → Prop) (σ : x_S) : Prop := ∀ (τ : x_S) (v : Int), y_rf σ τ → -2147483648 ≤ v → v ≤ 2147483647 → Q (some (x_I v)) τ
theorem y_rf_rf {σ : x_S} : y_rf σ σ := fun _ _ _ _ => rfl
theorem y_rf_tr {a b c : x_S} (h1 : y_rf a b) (h2 : y_rf b c) : y_rf a c := fun r k h g => (h2 r k h g).trans (h1 r k h g)
theorem y_rf_n {σ τ : x_S} (h : y_rf σ τ) (k : Nat) : τ 140 k = σ 140 k := h 140 k (by decide) (fun z => absurd z (by decide))
theorem y_rf_up {σ τ : x_S} {r k : Nat} {v : Int} (e : τ = x_up σ r k v) (h : 145 ≤ r ∨ (r = 138 ∧ k ≠ 0 ∧ k ≠ 5 ∧ k ≠ 7)) : y_rf σ τ := by
  intro r' k' h1 h2
  refine x_up_ne e (fun z => ?_)
  obtain ⟨z1, z2⟩ := z
  subst z1; subst z2
  rcases h with h | h
  · omega
  · have := h2 h.1
    omega
theorem y_rf_P {σ τ : x_S} (h : y_rf σ τ) (hP : y_PI (σ 140)) : y_PI (τ 140) := y_PI_ext (fun k _ => (y_rf_n h k).symm) hP
theorem y_rf_RI {σ τ : x_S} (h : y_rf σ τ) (hR : y_RI σ) : y_RI τ := y_RI_ext (h 138 0 (by decide) (fun _ => by decide)) (h 138 5 (by decide) (fun _ => by decide)) (h 138 7 (by decide) (fun _ => by decide)) (y_rf_n h) (fun k => h 142 k (by decide) (fun z => absurd z (by decide))) (fun k => h 143 k (by decide) (fun z => absurd z (by decide))) hR
/-- the rows of profiles lie in their ranges -/
def y_SI (σ : x_S) : Prop := ∀ k, k < 54 → (0 ≤ σ 155 k ∧ σ 155 k ≤ 1) ∧ (0 ≤ σ 156 k ∧ σ 156 k ≤ 41)
theorem y_SI_up {σ τ : x_S} {r k : Nat} {v : Int} (C : y_SI σ) (e : τ = x_up σ r k v) (h1 : r = 155 → 0 ≤ v ∧ v ≤ 1) (h2 : r = 156 → 0 ≤ v ∧ v ≤ 41) : y_SI τ := by
  intro q hq
  have c := C q hq
  constructor
  · by_cases z : (155 : Nat) = r ∧ q = k
    · obtain ⟨z1, z2⟩ := z
      subst z1; subst z2
      rw [x_up_at e]; exact h1 rfl
    · rw [x_up_ne e z]; exact c.1
  · by_cases z : (156 : Nat) = r ∧ q = k
    · obtain ⟨z1, z2⟩ := z
      subst z1; subst z2
      rw [x_up_at e]; exact h2 rfl
    · rw [x_up_ne e z]; exact c.2
theorem y_SI_x {σ τ : x_S} (C : y_SI σ) (h1 : ∀ k, τ 155 k = σ 155 k) (h2 : ∀ k, τ 156 k = σ 156 k) : y_SI τ := fun k hk => by rw [h1, h2]; exact C k hk
/-- a row of the reference's own: its length -/
def y_mr (r n : Nat) : Prop := x_tag r = 0 ∧ x_len r = n ∧ n ≤ 2147483648 ∧ (∀ z, x_rf r z = 0) ∧ 145 ≤ r
section
variable {E : q_E} {M : q_M} {Q : Option q_V → x_S → Prop} {tg : Nat → Nat} {cs : List q_Op} {lo : q_Lo} {st : List q_V} {σ σ0 : x_S}
theorem x_ialdM {r n : Nat} {i : Int} (a : y_mr r n) (hi : 0 ≤ i) (hn : i < n) (kk : ∀ v, -2147483648 ≤ v → v ≤ 2147483647 → x_X E M Q tg cs lo (x_I v :: st) σ) : x_X E M Q tg (o_iald0 :: cs) lo (x_I i :: x_R r :: st) σ := by
  obtain ⟨a1, a2, a3, a4, a5⟩ := a
  exact x_iald a1 a2 a3 a4 rfl hi hn (fun h1 h2 => kk _ h1 h2)
theorem x_ialdS {i : Int} (C : y_SI σ) (hi : 0 ≤ i) (hn : i < 54) (kk : 0 ≤ σ 156 i.toNat → σ 156 i.toNat ≤ 41 → x_X E M Q tg cs lo (x_I (σ 156 i.toNat) :: st) σ) : x_X E M Q tg (o_iald0 :: cs) lo (x_I i :: x_R 156 :: st) σ := by
  have c := (C i.toNat (by omega)).2
  exact x_iald (r := 156) (n := 54) rfl rfl (by decide) (fun _ => rfl) rfl hi hn (fun h1 h2 => kk c.1 c.2)
theorem x_aldS {i : Int} (C : y_SI σ) (hi : 0 ≤ i) (hn : i < 54) (kk : 0 ≤ σ 155 i.toNat → σ 155 i.toNat ≤ 1 → x_X E M Q tg cs lo (x_I (σ 155 i.toNat) :: st) σ) : x_X E M Q tg (o_ald 3 :: cs) lo (x_I i :: x_R 155 :: st) σ := by
  have c := (C i.toNat (by omega)).1
  exact x_ald (r := 155) (n := 54) rfl (by decide) rfl (by decide) (fun _ => rfl) rfl hi hn (fun h1 h2 => kk c.1 c.2)
theorem x_iald140 {i : Int} (F : y_rf σ0 σ) (hi : 0 ≤ i) (hn : i < 256) (kk : -2147483648 ≤ σ0 140 i.toNat → σ0 140 i.toNat ≤ 2147483647 → x_X E M Q tg cs lo (x_I (σ0 140 i.toNat) :: st) σ) : x_X E M Q tg (o_iald0 :: cs) lo (x_I i :: x_R 140 :: st) σ := by
  refine x_iald (r := 140) (n := 256) rfl rfl (by decide) (fun _ => rfl) rfl hi hn ?_
  rw [y_rf_n F]
  exact kk
theorem x_astM {r n : Nat} {i v : Int} (a : y_mr r n) (F : y_rf σ0 σ) (hi : 0 ≤ i) (hn : i < n) (h1 : -2147483648 ≤ v) (h2 : v ≤ 2147483647) (kk : ∀ τ, τ = x_up σ r i.toNat v → y_rf σ0 τ → x_X E M Q tg cs lo st τ) : x_X E M Q tg (o_ast 0 18446744073709551616 :: cs) lo (x_I v :: x_I i :: x_R r :: st) σ := by
  obtain ⟨a1, a2, a3, a4, a5⟩ := a
  exact x_ast a1 a2 a3 a4 rfl hi hn h1 h2 (fun τ e => kk τ e (y_rf_tr F (y_rf_up e (Or.inl a5))))
theorem x_ast155 {i v : Int} (F : y_rf σ0 σ) (hi : 0 ≤ i) (hn : i < 54) (h1 : v = 0 ∨ v = 1) (kk : ∀ τ, τ = x_up σ 155 i.toNat v → y_rf σ0 τ → x_X E M Q tg cs lo st τ) : x_X E M Q tg (o_ast 3 2 :: cs) lo (x_I v :: x_I i :: x_R 155 :: st) σ :=
  x_astZ (r := 155) (n := 54) rfl rfl (by decide) (fun _ => rfl) rfl hi hn h1 (fun τ e => kk τ e (y_rf_tr F (y_rf_up e (Or.inl (by decide)))))
theorem x_put138 {k top : Nat} {v : Int} (hk : k < 33) (hf : x_rf 138 k = 0) (htop : 4294967296 ≤ top ∧ x_top 14 k = 4294967296) (hn : k ≠ 0 ∧ k ≠ 5 ∧ k ≠ 7) (F : y_rf σ0 σ) (h1 : -2147483648 ≤ v) (h2 : v ≤ 2147483647) (kk : ∀ τ, τ = x_up σ 138 k v → y_rf σ0 τ → x_X E M Q tg cs lo st τ) : x_X E M Q tg (o_putI 14 k top :: cs) lo (x_I v :: x_R 138 :: st) σ :=
  x_putI (r := 138) rfl (by decide) (by decide) hk hf htop h1 h2 (fun τ e => kk τ e (y_rf_tr F (y_rf_up e (Or.inr ⟨rfl, hn⟩))))
end
section
variable {E : q_E} {Q : Option q_V → x_S → Prop} {σ σ0 : x_S}
/-- a word of a rule -/
theorem rf_3 {r w : Int} (F : y_rf σ0 σ) (r1 : 0 ≤ r) (r2 : r ≤ 15) (w1 : 0 ≤ w) (w2 : w ≤ 11) (k : -2147483648 ≤ σ0 140 (63 + 12 * r.toNat + w.toNat) → σ0 140 (63 + 12 * r.toNat + w.toNat) ≤ 2147483647 → Q (some (x_I (σ0 140 (63 + 12 * r.toNat + w.toNat)))) σ) : x_P E 3 [x_R 138, x_I r, x_I w] σ Q := by
  refine c_3 (by omega) (by omega) ?_
  rw [y_rf_n F, show (63 + 12 * r + w).toNat = 63 + 12 * r.toNat + w.toNat by omega]
  exact k
theorem y_rl_of {σ : x_S} {r : Int} (hP : y_PI (σ 140)) (r1 : 0 ≤ r) (r2 : r < σ 140 62) : y_rl (fun k => σ 140 (63 + 12 * r.toNat + k)) := hP.2.2.2.2 r.toNat (by omega)
theorem rf_3_0 {r : Int} (F : y_rf σ0 σ) (hP : y_PI (σ0 140)) (r1 : 0 ≤ r) (r2 : r < σ0 140 62) (k : ∀ v, 0 ≤ v → v ≤ 1 → v = σ0 140 (63 + 12 * r.toNat + 0) → Q (some (x_I v)) σ) : x_P E 3 [x_R 138, x_I r, x_I 0] σ Q := by
  have ru := hP.2.2.2.1
  have h := (y_rl_of hP r1 r2).1
  exact rf_3 F r1 (by omega) (by decide) (by decide) (fun _ _ => k _ h.1 h.2 rfl)
theorem rf_3_1 {r : Int} (F : y_rf σ0 σ) (hP : y_PI (σ0 140)) (r1 : 0 ≤ r) (r2 : r < σ0 140 62) (k : ∀ v, 0 ≤ v → v ≤ 2 → v = σ0 140 (63 + 12 * r.toNat + 1) → Q (some (x_I v)) σ) : x_P E 3 [x_R 138, x_I r, x_I 1] σ Q := by
  have ru := hP.2.2.2.1
  have h := (y_rl_of hP r1 r2).2.1
  exact rf_3 F r1 (by omega) (by decide) (by decide) (fun _ _ => k _ h.1 h.2 rfl)
theorem rf_3_2 {r : Int} (F : y_rf σ0 σ) (hP : y_PI (σ0 140)) (r1 : 0 ≤ r) (r2 : r < σ0 140 62) (k : ∀ v, 0 ≤ v → v ≤ 4 → v = σ0 140 (63 + 12 * r.toNat + 2) → Q (some (x_I v)) σ) : x_P E 3 [x_R 138, x_I r, x_I 2] σ Q := by
  have ru := hP.2.2.2.1
  have h := (y_rl_of hP r1 r2).2.2.1
  exact rf_3 F r1 (by omega) (by decide) (by decide) (fun _ _ => k _ h.1 h.2 rfl)
theorem rf_3_3 {r : Int} (F : y_rf σ0 σ) (hP : y_PI (σ0 140)) (r1 : 0 ≤ r) (r2 : r < σ0 140 62) (k : ∀ v, 0 ≤ v → v ≤ 2 → v = σ0 140 (63 + 12 * r.toNat + 3) → Q (some (x_I v)) σ) : x_P E 3 [x_R 138, x_I r, x_I 3] σ Q := by
  have ru := hP.2.2.2.1
  have h := (y_rl_of hP r1 r2).2.2.2.1
  exact rf_3 F r1 (by omega) (by decide) (by decide) (fun _ _ => k _ h.1 h.2 rfl)
theorem rf_3_4 {r : Int} (F : y_rf σ0 σ) (hP : y_PI (σ0 140)) (r1 : 0 ≤ r) (r2 : r < σ0 140 62) (k : ∀ v, 1 ≤ v → v ≤ 7 → v = σ0 140 (63 + 12 * r.toNat + 4) → Q (some (x_I v)) σ) : x_P E 3 [x_R 138, x_I r, x_I 4] σ Q := by
  have ru := hP.2.2.2.1
  have h := (y_rl_of hP r1 r2).2.2.2.2.1
  exact rf_3 F r1 (by omega) (by decide) (by decide) (fun _ _ => k _ h.1 h.2 rfl)
/-- a piece of a rule -/
theorem rf_3_p {r w : Int} (F : y_rf σ0 σ) (hP : y_PI (σ0 140)) (r1 : 0 ≤ r) (r2 : r < σ0 140 62) (w1 : 5 ≤ w) (w2 : w < 5 + σ0 140 (63 + 12 * r.toNat + 4)) (k : ∀ v, 0 ≤ v → v ≤ 15 → (v ≤ 4 ∨ (10 ≤ v ∧ 2 ≤ σ0 140 (63 + 12 * r.toNat + 2) ∧ (v % 2 = 1 → 3 ≤ σ0 140 (63 + 12 * r.toNat + 2)))) → v = σ0 140 (63 + 12 * r.toNat + (5 + (w - 5).toNat)) → 1 ≤ y_op (fun i => σ0 140 (63 + 12 * r.toNat + (5 + i))) (w - 5).toNat → Q (some (x_I v)) σ) : x_P E 3 [x_R 138, x_I r, x_I w] σ Q := by
  have ru := hP.2.2.2.1
  have hr := y_rl_of hP r1 r2
  have h4 := hr.2.2.2.2.1
  have h4 : 1 ≤ σ0 140 (63 + 12 * r.toNat + 4) ∧ σ0 140 (63 + 12 * r.toNat + 4) ≤ 7 := h4
  have h := hr.2.2.2.2.2.1 (w - 5).toNat (show _ < (σ0 140 (63 + 12 * r.toNat + 4)).toNat by omega)
  refine rf_3 F r1 (by omega) (by omega) (by omega) (fun _ _ => ?_)
  have hw : w.toNat = 5 + (w - 5).toNat := by omega
  rw [hw]
  have hp : y_pc (σ0 140 (63 + 12 * r.toNat + 2)) (σ0 140 (63 + 12 * r.toNat + (5 + (w - 5).toNat))) := h.1
  refine k _ ?_ ?_ ?_ rfl h.2
  · rcases hp with hp | hp <;> omega
  · rcases hp with hp | hp <;> omega
  · rcases hp with hp | hp
    · exact Or.inl hp.2
    · exact Or.inr ⟨hp.1, hp.2.2.1, hp.2.2.2⟩
end
theorem y_m145 : y_mr 145 40 := ⟨rfl, rfl, by decide, fun _ => rfl, by decide⟩
theorem y_m146 : y_mr 146 40 := ⟨rfl, rfl, by decide, fun _ => rfl, by decide⟩
theorem y_m147 : y_mr 147 40 := ⟨rfl, rfl, by decide, fun _ => rfl, by decide⟩
theorem y_m148 : y_mr 148 128 := ⟨rfl, rfl, by decide, fun _ => rfl, by decide⟩
theorem y_m149 : y_mr 149 128 := ⟨rfl, rfl, by decide, fun _ => rfl, by decide⟩
theorem y_m150 : y_mr 150 128 := ⟨rfl, rfl, by decide, fun _ => rfl, by decide⟩
theorem y_m151 : y_mr 151 40 := ⟨rfl, rfl, by decide, fun _ => rfl, by decide⟩
theorem y_m152 : y_mr 152 40 := ⟨rfl, rfl, by decide, fun _ => rfl, by decide⟩
theorem y_m153 : y_mr 153 128 := ⟨rfl, rfl, by decide, fun _ => rfl, by decide⟩
theorem y_m154 : y_mr 154 128 := ⟨rfl, rfl, by decide, fun _ => rfl, by decide⟩
theorem y_m156 : y_mr 156 54 := ⟨rfl, rfl, by decide, fun _ => rfl, by decide⟩
theorem y_m157 : y_mr 157 2160 := ⟨rfl, rfl, by decide, fun _ => rfl, by decide⟩
theorem y_m158 : y_mr 158 8 := ⟨rfl, rfl, by decide, fun _ => rfl, by decide⟩
theorem y_m159 : y_mr 159 40 := ⟨rfl, rfl, by decide, fun _ => rfl, by decide⟩
