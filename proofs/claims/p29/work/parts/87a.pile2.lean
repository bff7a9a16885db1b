/-! the pile of both passes as one -/
/-- what may have changed while both go as one -/
def y_bs (σ τ : x_S) : Prop := y_sm [148, 149, 150, 151, 153, 154] [14, 18, 21, 24, 25, 26] σ τ
/-- only what lies under has changed -/
def y_us (σ τ : x_S) : Prop := y_sm [] [21, 24, 25, 26] σ τ
theorem y_bs_us {a b c : x_S} (h1 : y_bs a b) (h2 : y_us b c) : y_bs a c := y_sm_tr h1 (y_sm_w (by decide) (by decide) h2)
theorem y_bs_F {a b : x_S} (h : y_bs a b) : y_rf a b := y_sm_rf2 h (by decide) (by decide)
/-- what lies under: a rule taken at a node, a piece of it -/
def y_un (σ τ : x_S) : Prop := (0 ≤ τ 138 24 ∧ τ 138 24 < σ 140 62) ∧ (0 ≤ τ 138 25 ∧ τ 138 25 < σ 140 (63 + 12 * (τ 138 24).toNat + 4)) ∧ (0 ≤ τ 138 26 ∧ τ 138 26 < σ 138 10) ∧ σ 140 (63 + 12 * (τ 138 24).toNat + 2) = σ 145 (τ 138 26).toNat
def y_e2 (σ τ : x_S) (i : Nat) : Prop := (0 ≤ τ 148 i ∧ τ 148 i < σ 140 62) ∧ (0 ≤ τ 149 i ∧ τ 149 i ≤ σ 140 (63 + 12 * (τ 148 i).toNat + 4)) ∧ (0 ≤ τ 150 i ∧ τ 150 i < σ 138 10) ∧ (0 ≤ τ 154 i ∧ τ 154 i < σ 140 62) ∧ (0 ≤ τ 153 i ∧ τ 153 i < σ 140 (63 + 12 * (τ 154 i).toNat + 4)) ∧ σ 140 (63 + 12 * (τ 154 i).toNat + 2) = σ 145 (τ 150 i).toNat ∧ σ 140 (63 + 12 * (τ 148 i).toNat + 2) = σ 140 (63 + 12 * (τ 154 i).toNat + (5 + (τ 153 i).toNat)) ∧ σ 140 (63 + 12 * (τ 154 i).toNat + (5 + (τ 153 i).toNat)) ≤ 4 ∧ (i : Int) ≤ 7 * τ 150 i + τ 153 i
def y_w2 (τ : x_S) (i : Nat) : Nat := (8 - τ 149 i).toNat * 9 ^ (76 - (7 * τ 150 i + τ 153 i)).toNat
theorem y_e2_x {σ τ τ' : x_S} {i : Nat} (h : ∀ r, r = 148 ∨ r = 149 ∨ r = 150 ∨ r = 153 ∨ r = 154 → τ' r i = τ r i) (e : y_e2 σ τ i) : y_e2 σ τ' i := by
  unfold y_e2 at e ⊢
  rw [h 148 (by decide), h 149 (by decide), h 150 (by decide), h 153 (by decide), h 154 (by decide)]
  exact e
theorem y_w2_x {τ τ' : x_S} {i : Nat} (h : ∀ r, r = 148 ∨ r = 149 ∨ r = 150 ∨ r = 153 ∨ r = 154 → τ' r i = τ r i) : y_w2 τ' i = y_w2 τ i := by
  unfold y_w2
  rw [h 149 (by decide), h 150 (by decide), h 153 (by decide)]
theorem y_sz {σ : x_S} {r : Int} (hP : y_PI (σ 140)) (h1 : 0 ≤ r) (h2 : r < σ 140 62) : 1 ≤ σ 140 (63 + 12 * r.toNat + 4) ∧ σ 140 (63 + 12 * r.toNat + 4) ≤ 7 := (y_rl_of hP h1 h2).2.2.2.2.1
theorem y_w2_pos {σ τ : x_S} {i : Nat} (hP : y_PI (σ 140)) (h : y_e2 σ τ i) : 0 < y_w2 τ i := by
  have h4 := y_sz hP h.1.1 h.1.2
  have h2 := h.2.1
  exact Nat.mul_pos (by omega) (Nat.pow_pos (by decide))
theorem y_P2_pop {σ τ τ' : x_S} {t : Nat} (hP : y_PI (σ 140)) (h : ∀ i, i < t + 1 → y_e2 σ τ i) (hs : ∀ r m, r = 148 ∨ r = 149 ∨ r = 150 ∨ r = 153 ∨ r = 154 → τ' r m = τ r m) : (∀ i, i < t → y_e2 σ τ' i) ∧ y_nsum (y_w2 τ') t < y_nsum (y_w2 τ) (t + 1) := by
  refine ⟨fun i hi => y_e2_x (fun r hr => hs r i hr) (h i (by omega)), ?_⟩
  rw [y_nsum_s, y_nsum_ext (f := y_w2 τ') (g := y_w2 τ) (fun i _ => y_w2_x (fun r hr => hs r i hr))]
  have := y_w2_pos hP (h t (by omega))
  omega
/-- the top goes on by a piece -/
theorem y_P2_on {σ τ τ' : x_S} {t : Nat} (hP : y_PI (σ 140)) (h : ∀ i, i < t + 1 → y_e2 σ τ i) (hd : τ 149 t < σ 140 (63 + 12 * (τ 148 t).toNat + 4)) (hs : ∀ r m, r = 148 ∨ r = 149 ∨ r = 150 ∨ r = 153 ∨ r = 154 → m < t + 1 → (r = 149 → m ≠ t) → τ' r m = τ r m) (hk : τ' 149 t = τ 149 t + 1) : (∀ i, i < t + 1 → y_e2 σ τ' i) ∧ y_nsum (y_w2 τ') (t + 1) + 9 ^ (76 - (7 * τ 150 t + τ 153 t)).toNat = y_nsum (y_w2 τ) (t + 1) := by
  have ht := h t (by omega)
  have h47 := y_sz hP ht.1.1 ht.1.2
  have hc : ∀ i, i < t → ∀ r, r = 148 ∨ r = 149 ∨ r = 150 ∨ r = 153 ∨ r = 154 → τ' r i = τ r i := fun i hi r hr => hs r i hr (by omega) (by omega)
  constructor
  · intro i hi
    by_cases c : i = t
    · subst c
      unfold y_e2
      rw [hs 148 i (by decide) (by omega) (fun z => absurd z (by decide)), hs 150 i (by decide) (by omega) (fun z => absurd z (by decide)), hs 153 i (by decide) (by omega) (fun z => absurd z (by decide)), hs 154 i (by decide) (by omega) (fun z => absurd z (by decide)), hk]
      exact ⟨ht.1, ⟨by have := ht.2.1; omega, by omega⟩, ht.2.2⟩
    · exact y_e2_x (hc i (by omega)) (h i hi)
  · rw [y_nsum_s, y_nsum_s, y_nsum_ext (f := y_w2 τ') (g := y_w2 τ) (fun i hi => y_w2_x (hc i hi))]
    unfold y_w2
    rw [hk, hs 150 t (by decide) (by omega) (fun z => absurd z (by decide)), hs 153 t (by decide) (by omega) (fun z => absurd z (by decide)), show (8 - τ 149 t).toNat = (8 - (τ 149 t + 1)).toNat + 1 by have := ht.2.1; omega, Nat.add_mul, Nat.one_mul]
    omega
/-- an entry more, further down -/
theorem y_P2_add {σ τ τ' : x_S} {t : Nat} {x : Nat} (h : ∀ i, i < t → y_e2 σ τ i) (hs : ∀ r m, r = 148 ∨ r = 149 ∨ r = 150 ∨ r = 153 ∨ r = 154 → m < t → τ' r m = τ r m) (hn : y_e2 σ τ' t) (hn0 : τ' 149 t = 0) (hx : (76 - (7 * τ' 150 t + τ' 153 t)).toNat < x) : (∀ i, i < t + 1 → y_e2 σ τ' i) ∧ y_nsum (y_w2 τ') (t + 1) < y_nsum (y_w2 τ) t + 9 ^ x := by
  have hc : ∀ i, i < t → ∀ r, r = 148 ∨ r = 149 ∨ r = 150 ∨ r = 153 ∨ r = 154 → τ' r i = τ r i := fun i hi r hr => hs r i hr hi
  constructor
  · intro i hi
    by_cases c : i = t
    · subst c; exact hn
    · exact y_e2_x (hc i (by omega)) (h i (by omega))
  · rw [y_nsum_s, y_nsum_ext (f := y_w2 τ') (g := y_w2 τ) (fun i hi => y_w2_x (hc i hi))]
    have h9 := y_pow9 hx
    have h10 : y_w2 τ' t = 8 * 9 ^ (76 - (7 * τ' 150 t + τ' 153 t)).toNat := by
      unfold y_w2
      rw [hn0]
      rfl
    have : 0 < 9 ^ (76 - (7 * τ' 150 t + τ' 153 t)).toNat := Nat.pow_pos (by decide)
    omega
/-- the piece behind a letter that has children, and the one behind its first subtree -/
theorem y_behind {σ : x_S} {r : Int} {k : Nat} (hP : y_PI (σ 140)) (h1 : 0 ≤ r) (h2 : r < σ 140 62) (hk : (k : Int) < σ 140 (63 + 12 * r.toNat + 4)) (hL : σ 140 (63 + 12 * r.toNat + (5 + k)) ≤ 9) (hc : 2 ≤ σ 140 (63 + 12 * r.toNat + (5 + k))) : (k : Int) + 1 < σ 140 (63 + 12 * r.toNat + 4) ∧ 1 ≤ y_op (y_W σ r.toNat) (k + 1) ∧ (3 ≤ σ 140 (63 + 12 * r.toNat + (5 + k)) → 2 ≤ y_op (y_W σ r.toNat) (k + 1)) := by
  have hr := y_rl_of hP h1 h2
  have h47 := y_sz hP h1 h2
  have ho : 1 ≤ y_op (y_W σ r.toNat) k := (hr.2.2.2.2.2.1 k (show k < (σ 140 (63 + 12 * r.toNat + 4)).toNat by omega)).2
  have hs : y_op (y_W σ r.toNat) (k + 1) = y_op (y_W σ r.toNat) k + y_c9 (σ 140 (63 + 12 * r.toNat + (5 + k))) - 1 := rfl
  have c9 := (y_c9v (σ 140 (63 + 12 * r.toNat + (5 + k)))).2 hL
  have he : y_op (y_W σ r.toNat) (σ 140 (63 + 12 * r.toNat + 4)).toNat = 0 := hr.2.2.2.2.2.2
  refine ⟨?_, by omega, fun h => by omega⟩
  by_cases c : k + 1 = (σ 140 (63 + 12 * r.toNat + 4)).toNat
  · rw [← c] at he
    omega
  · omega
