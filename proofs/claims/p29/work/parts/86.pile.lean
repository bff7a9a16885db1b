/-! the pile of a pass: what it holds, that it comes to its end -/
def y_nsum (f : Nat → Nat) : Nat → Nat
  | 0 => 0
  | n + 1 => y_nsum f n + f n
theorem y_nsum_s (f : Nat → Nat) (n : Nat) : y_nsum f (n + 1) = y_nsum f n + f n := rfl
theorem y_nsum_ext {f g : Nat → Nat} : ∀ {n : Nat}, (∀ i, i < n → f i = g i) → y_nsum f n = y_nsum g n
  | 0, _ => rfl
  | n + 1, h => by rw [y_nsum_s, y_nsum_s, y_nsum_ext (fun i hi => h i (by omega)), h n (by omega)]
theorem y_pow9 {a b : Nat} (h : a < b) : 9 * 9 ^ a ≤ 9 ^ b := by
  rw [← Nat.pow_succ']
  exact Nat.pow_le_pow_right (by decide) h
theorem y_sm_rf2 {L F : List Nat} {σ τ : x_S} (h : y_sm L F σ τ) (hL : ∀ r, r ∈ L → 145 ≤ r) (hF : 0 ∉ F ∧ 5 ∉ F ∧ 7 ∉ F) : y_rf σ τ := fun r k h1 h2 => h r k (fun z => absurd (hL r z) (by omega)) (fun z => by
  rcases h2 z with e | e | e
  · rw [e]; exact hF.1
  · rw [e]; exact hF.2.1
  · rw [e]; exact hF.2.2)
/-- an entry of the pile -/
def y_en (σ τ : x_S) (i : Nat) : Prop := (0 ≤ τ 148 i ∧ τ 148 i < σ 140 62) ∧ (0 ≤ τ 149 i ∧ τ 149 i ≤ σ 140 (63 + 12 * (τ 148 i).toNat + 4)) ∧ ((i : Int) ≤ τ 150 i ∧ τ 150 i < σ 138 10) ∧ σ 140 (63 + 12 * (τ 148 i).toNat + 2) = σ 145 (τ 150 i).toNat
def y_opn (σ τ : x_S) (i : Nat) : Int := y_op (y_W σ (τ 148 i).toNat) (τ 149 i).toNat
def y_wt (τ : x_S) (i : Nat) : Nat := (8 - τ 149 i).toNat * 9 ^ (39 - τ 150 i).toNat
def y_GI (σ τ : x_S) (H O : Nat) : Prop := (∀ i, i < H → y_en σ τ i) ∧ O ≤ 40 ∧ (∀ m, m < O → 0 ≤ τ 151 m ∧ τ 151 m ≤ 4 ∧ 1 ≤ y_op (τ 151) m) ∧ y_op (τ 151) O = y_sum (y_opn σ τ) H
theorem y_en_x {σ τ τ' : x_S} {i : Nat} (h1 : τ' 148 i = τ 148 i) (h2 : τ' 149 i = τ 149 i) (h3 : τ' 150 i = τ 150 i) (h : y_en σ τ i) : y_en σ τ' i := by
  unfold y_en at h ⊢
  rw [h1, h2, h3]
  exact h
theorem y_opn_x {σ τ τ' : x_S} {i : Nat} (h1 : τ' 148 i = τ 148 i) (h2 : τ' 149 i = τ 149 i) : y_opn σ τ' i = y_opn σ τ i := by
  unfold y_opn
  rw [h1, h2]
theorem y_wt_x {τ τ' : x_S} {i : Nat} (h2 : τ' 149 i = τ 149 i) (h3 : τ' 150 i = τ 150 i) : y_wt τ' i = y_wt τ i := by
  unfold y_wt
  rw [h2, h3]
/-- a rule of the program, by a pile's entry -/
theorem y_en_rl {σ τ : x_S} {i : Nat} (hP : y_PI (σ 140)) (h : y_en σ τ i) : y_rl (fun k => σ 140 (63 + 12 * (τ 148 i).toNat + k)) := y_rl_of hP h.1.1 h.1.2
theorem y_opn_nn {σ τ : x_S} {i : Nat} (hP : y_PI (σ 140)) (h : y_en σ τ i) : 0 ≤ y_opn σ τ i := by
  have hr := y_en_rl hP h
  have h2 := h.2.1
  by_cases c : (τ 149 i).toNat < (σ 140 (63 + 12 * (τ 148 i).toNat + 4)).toNat
  · have := (hr.2.2.2.2.2.1 (τ 149 i).toNat c).2
    exact Int.le_trans (by decide) this
  · have e : (τ 149 i).toNat = (σ 140 (63 + 12 * (τ 148 i).toNat + 4)).toNat := by omega
    unfold y_opn
    rw [e]
    exact Int.le_of_eq (hr.2.2.2.2.2.2).symm
theorem y_wt_pos {σ τ : x_S} {i : Nat} (hP : y_PI (σ 140)) (h : y_en σ τ i) : 0 < y_wt τ i := by
  have h4 : 1 ≤ σ 140 (63 + 12 * (τ 148 i).toNat + 4) ∧ σ 140 (63 + 12 * (τ 148 i).toNat + 4) ≤ 7 := (y_en_rl hP h).2.2.2.2.1
  have h2 := h.2.1
  exact Nat.mul_pos (by omega) (Nat.pow_pos (by decide))
/-- an entry that is done goes -/
theorem y_GI_pop {σ τ τ' : x_S} {t O : Nat} (hP : y_PI (σ 140)) (h : y_GI σ τ (t + 1) O) (hd : τ 149 t = σ 140 (63 + 12 * (τ 148 t).toNat + 4)) (hs : ∀ r m, r = 148 ∨ r = 149 ∨ r = 150 ∨ r = 151 → τ' r m = τ r m) : y_GI σ τ' t O ∧ y_nsum (y_wt τ') t < y_nsum (y_wt τ) (t + 1) := by
  obtain ⟨h1, h2, h3, h4⟩ := h
  have hA : ∀ m, τ' 148 m = τ 148 m := fun m => hs 148 m (by decide)
  have hB : ∀ m, τ' 149 m = τ 149 m := fun m => hs 149 m (by decide)
  have hC : ∀ m, τ' 150 m = τ 150 m := fun m => hs 150 m (by decide)
  have hO : τ' 151 = τ 151 := funext fun m => hs 151 m (by decide)
  have ht := h1 t (by omega)
  have hz : y_opn σ τ t = 0 := by
    unfold y_opn
    rw [hd]
    exact (y_en_rl hP ht).2.2.2.2.2.2
  refine ⟨⟨fun i hi => y_en_x (hA i) (hB i) (hC i) (h1 i (by omega)), h2, ?_, ?_⟩, ?_⟩
  · rw [hO]; exact h3
  · rw [hO, h4, y_sum_s, hz, y_sum_ext (f := y_opn σ τ') (g := y_opn σ τ) (fun i _ => y_opn_x (hA i) (hB i))]
    omega
  · rw [y_nsum_s, y_nsum_ext (f := y_wt τ') (g := y_wt τ) (fun i _ => y_wt_x (hB i) (hC i))]
    have := y_wt_pos hP ht
    omega
/-- the entry on top goes on by a piece -/
theorem y_wt_step {τ τ' : x_S} {t : Nat} (h1 : τ' 149 t = τ 149 t + 1) (h2 : τ' 150 t = τ 150 t) (h3 : τ 149 t ≤ 7) : y_wt τ' t + 9 ^ (39 - τ 150 t).toNat = y_wt τ t := by
  unfold y_wt
  rw [h1, h2, show (8 - τ 149 t).toNat = (8 - (τ 149 t + 1)).toNat + 1 by omega, Nat.add_mul, Nat.one_mul]
/-- a letter is made -/
theorem y_GI_out {σ τ τ' : x_S} {t O : Nat} {x : Int} (hP : y_PI (σ 140)) (h : y_GI σ τ (t + 1) O) (hO : O < 40) (hd : τ 149 t < σ 140 (63 + 12 * (τ 148 t).toNat + 4)) (hx : x = σ 140 (63 + 12 * (τ 148 t).toNat + (5 + (τ 149 t).toNat))) (x1 : 0 ≤ x) (x2 : x ≤ 4) (hs : ∀ m, τ' 148 m = τ 148 m ∧ τ' 150 m = τ 150 m) (hk : τ' 149 t = τ 149 t + 1) (hk2 : ∀ m, m ≠ t → τ' 149 m = τ 149 m) (ho : τ' 151 O = x) (ho2 : ∀ m, m ≠ O → τ' 151 m = τ 151 m) : y_GI σ τ' (t + 1) (O + 1) ∧ y_nsum (y_wt τ') (t + 1) < y_nsum (y_wt τ) (t + 1) := by
  obtain ⟨h1, h2, h3, h4⟩ := h
  have ht := h1 t (by omega)
  have hrl := y_en_rl hP ht
  have h47 : 1 ≤ σ 140 (63 + 12 * (τ 148 t).toNat + 4) ∧ σ 140 (63 + 12 * (τ 148 t).toNat + 4) ≤ 7 := hrl.2.2.2.2.1
  have hpos : 1 ≤ y_opn σ τ t := (hrl.2.2.2.2.2.1 (τ 149 t).toNat (show _ < (σ 140 (63 + 12 * (τ 148 t).toNat + 4)).toNat by have := ht.2.1; omega)).2
  have hrest : 0 ≤ y_sum (y_opn σ τ) t := y_sum_nn (fun i hi => y_opn_nn hP (h1 i (by omega)))
  rw [y_sum_s] at h4
  have hext : ∀ k, k ≤ O → y_op (τ' 151) k = y_op (τ 151) k := fun k hk => y_op_ext (fun i hi => ho2 i (by omega))
  have hstep : y_opn σ τ' t = y_opn σ τ t + y_c9 x - 1 := by
    unfold y_opn
    rw [(hs t).1, hk, show (τ 149 t + 1).toNat = (τ 149 t).toNat + 1 by have := ht.2.1; omega, y_op_s, hx]
    rfl
  refine ⟨⟨fun i hi => ?_, by omega, fun m hm => ?_, ?_⟩, ?_⟩
  · by_cases c : i = t
    · subst c
      unfold y_en
      rw [(hs i).1, (hs i).2, hk]
      exact ⟨ht.1, ⟨by have := ht.2.1; omega, by omega⟩, ht.2.2⟩
    · exact y_en_x (hs i).1 (hk2 i c) (hs i).2 (h1 i hi)
  · by_cases c : m = O
    · subst c
      rw [ho, hext m (Nat.le_refl m), h4]
      exact ⟨x1, x2, by omega⟩
    · rw [ho2 m c, hext m (by omega)]
      exact h3 m (by omega)
  · rw [y_op_s, hext O (Nat.le_refl O), ho, h4, y_sum_s, hstep, y_sum_ext (f := y_opn σ τ') (g := y_opn σ τ) (fun i hi => y_opn_x (hs i).1 (hk2 i (by omega)))]
    omega
  · rw [y_nsum_s, y_nsum_s, y_nsum_ext (f := y_wt τ') (g := y_wt τ) (fun i hi => y_wt_x (hk2 i (by omega)) (hs i).2)]
    have h8 := y_wt_step hk (hs t).2 (by omega)
    have : 0 < 9 ^ (39 - τ 150 t).toNat := Nat.pow_pos (by decide)
    omega
/-- a call: an entry more -/
theorem y_GI_call {σ τ τ' : x_S} {t O : Nat} (hP : y_PI (σ 140)) (h : y_GI σ τ (t + 1) O) (g40 : σ 138 10 ≤ 40) (hd : τ 149 t < σ 140 (63 + 12 * (τ 148 t).toNat + 4)) (hx : 10 ≤ σ 140 (63 + 12 * (τ 148 t).toNat + (5 + (τ 149 t).toNat))) (hs : ∀ m, m ≠ t + 1 → τ' 148 m = τ 148 m ∧ τ' 150 m = τ 150 m) (hk : τ' 149 t = τ 149 t + 1) (hk2 : ∀ m, m ≠ t → m ≠ t + 1 → τ' 149 m = τ 149 m) (hn0 : 0 ≤ τ' 148 (t + 1) ∧ τ' 148 (t + 1) < σ 140 62) (hn1 : τ' 149 (t + 1) = 0) (hn2 : τ 150 t < τ' 150 (t + 1) ∧ τ' 150 (t + 1) < σ 138 10) (hn3 : σ 140 (63 + 12 * (τ' 148 (t + 1)).toNat + 2) = σ 145 (τ' 150 (t + 1)).toNat) (ho : ∀ m, τ' 151 m = τ 151 m) : y_GI σ τ' (t + 2) O ∧ y_nsum (y_wt τ') (t + 2) < y_nsum (y_wt τ) (t + 1) := by
  obtain ⟨h1, h2, h3, h4⟩ := h
  have ht := h1 t (by omega)
  have ht2 := ht.2.1
  have ht3 := ht.2.2.1
  have hrl := y_en_rl hP ht
  have h47 : 1 ≤ σ 140 (63 + 12 * (τ 148 t).toNat + 4) ∧ σ 140 (63 + 12 * (τ 148 t).toNat + 4) ≤ 7 := hrl.2.2.2.2.1
  have hO : τ' 151 = τ 151 := funext ho
  rw [y_sum_s] at h4
  have hstep : y_opn σ τ' t = y_opn σ τ t - 1 := by
    unfold y_opn
    rw [(hs t (by omega)).1, hk, show (τ 149 t + 1).toNat = (τ 149 t).toNat + 1 by omega, y_op_s]
    have : y_c9 (y_W σ (τ 148 t).toNat (τ 149 t).toNat) = 0 := (y_c9v _).1 (show 9 < σ 140 (63 + 12 * (τ 148 t).toNat + (5 + (τ 149 t).toNat)) by omega)
    rw [this]
    omega
  have hnew : y_opn σ τ' (t + 1) = 1 := by
    unfold y_opn
    rw [hn1]
    rfl
  have hrl' : y_rl (fun k => σ 140 (63 + 12 * (τ' 148 (t + 1)).toNat + k)) := y_rl_of hP hn0.1 hn0.2
  have h47' : 1 ≤ σ 140 (63 + 12 * (τ' 148 (t + 1)).toNat + 4) ∧ σ 140 (63 + 12 * (τ' 148 (t + 1)).toNat + 4) ≤ 7 := hrl'.2.2.2.2.1
  refine ⟨⟨fun i hi => ?_, h2, ?_, ?_⟩, ?_⟩
  · by_cases c : i = t
    · subst c
      unfold y_en
      rw [(hs i (by omega)).1, (hs i (by omega)).2, hk]
      exact ⟨ht.1, ⟨by omega, by omega⟩, ht.2.2⟩
    · by_cases c2 : i = t + 1
      · subst c2
        exact ⟨hn0, ⟨by omega, by omega⟩, ⟨by omega, hn2.2⟩, hn3⟩
      · exact y_en_x (hs i c2).1 (hk2 i c c2) (hs i c2).2 (h1 i (by omega))
  · rw [hO]; exact h3
  · rw [hO, h4, y_sum_s, y_sum_s, hstep, hnew, y_sum_ext (f := y_opn σ τ') (g := y_opn σ τ) (fun i hi => y_opn_x (hs i (by omega)).1 (hk2 i (by omega) (by omega)))]
    omega
  · rw [y_nsum_s, y_nsum_s, y_nsum_s, y_nsum_ext (f := y_wt τ') (g := y_wt τ) (fun i hi => y_wt_x (hk2 i (by omega) (by omega)) (hs i (by omega)).2)]
    have h8 := y_wt_step hk (hs t (by omega)).2 (by omega)
    have h9 : 9 * 9 ^ (39 - τ' 150 (t + 1)).toNat ≤ 9 ^ (39 - τ 150 t).toNat := y_pow9 (by omega)
    have h10 : y_wt τ' (t + 1) = 8 * 9 ^ (39 - τ' 150 (t + 1)).toNat := by
      unfold y_wt
      rw [hn1]
      rfl
    have : 0 < 9 ^ (39 - τ' 150 (t + 1)).toNat := Nat.pow_pos (by decide)
    omega
