theorem y_op_c9 {p q : Nat → Int} : ∀ {n : Nat}, (∀ i, i < n → y_c9 (p i) = y_c9 (q i)) → y_op p n = y_op q n
  | 0, _ => rfl
  | n + 1, h => by
    show y_op p n + y_c9 (p n) - 1 = y_op q n + y_c9 (q n) - 1
    rw [y_op_c9 (fun i hi => h i (Nat.lt_succ_of_lt hi)), h n (Nat.lt_succ_self n)]
/-- a node of another letter with as many children -/
theorem y_PI_leaf {ρ τ : Nat → Int} {t v : Nat} {f : Int} (hp : y_PI ρ) (ht : t < 3) (hv : (v : Int) < ρ (2 + t)) (f1 : 0 ≤ f) (f2 : f ≤ 4) (hc : y_ch (ρ (5 + 11 * t + v)) = y_ch f) (h1 : τ (5 + 11 * t + v) = f) (h2 : ∀ k, k ≠ 5 + 11 * t + v → τ k = ρ k) : y_PI τ := by
  have hb := (hp.2.1 t ht).1
  obtain ⟨a, b, c, d⟩ := hp
  refine ⟨y_PK_ext (h2 0 (by omega)).symm (h2 1 (by omega)).symm a, fun u hu => ?_, y_PE_ext (fun k h3 h4 => (h2 k (by omega)).symm) c, y_PR_ext (fun k h3 h4 => (h2 k (by omega)).symm) d⟩
  by_cases e : u = t
  · subst e
    obtain ⟨s1, s2, s3⟩ := b u hu
    have hsz : τ (2 + u) = ρ (2 + u) := h2 _ (by omega)
    have h9 : ∀ i, y_c9 (ρ (5 + 11 * u + i)) = y_c9 (τ (5 + 11 * u + i)) := by
      intro i
      by_cases ci : i = v
      · subst ci
        rw [h1]
        have hl := s2 i (by omega)
        unfold y_c9
        rw [if_neg (by have : ρ (5 + 11 * u + i) ≤ 4 := hl.2.1; omega), if_neg (by omega), hc]
      · rw [h2 _ (by omega)]
    refine ⟨by rw [hsz]; exact s1, ?_⟩
    rw [hsz]
    refine ⟨fun k hk => ?_, ?_⟩
    · have hl := s2 k hk
      rw [← y_op_c9 (p := fun v => ρ (5 + 11 * u + v)) (q := fun v => τ (5 + 11 * u + v)) (fun i _ => h9 i)]
      by_cases ck : k = v
      · subst ck
        show 0 ≤ τ (5 + 11 * u + k) ∧ τ (5 + 11 * u + k) ≤ 4 ∧ _
        rw [h1]
        exact ⟨f1, f2, hl.2.2⟩
      · show 0 ≤ τ (5 + 11 * u + k) ∧ τ (5 + 11 * u + k) ≤ 4 ∧ _
        rw [h2 _ (by omega)]
        exact hl
    · rw [← y_op_c9 (p := fun v => ρ (5 + 11 * u + v)) (q := fun v => τ (5 + 11 * u + v)) (fun i _ => h9 i)]
      exact s3
  · exact y_PT_ext (h2 _ (by omega)).symm (fun w hw => (h2 _ (by omega)).symm) (b u hu)
/-- a rule is out -/
theorem y_PI_cut {ρ τ : Nat → Int} {r : Nat} (hp : y_PI ρ) (hr : (r : Int) < ρ 62) (h62 : τ 62 = ρ 62 - 1) (h : ∀ m : Nat, m ≠ 62 → τ m = if 63 + 12 * r ≤ m ∧ (m : Int) < 51 + 12 * ρ 62 then ρ (m + 12) else ρ m) : y_PI τ := by
  have hb := hp.2.2.2.1
  refine y_PI_r (fun k hk => by rw [h k (by omega), if_neg (by omega)]) ⟨by omega, fun q hq => ?_⟩ hp
  by_cases c : q < r
  · refine y_rl_ext (fun i hi => ?_) (hp.2.2.2.2 q (by omega))
    have h4 : 1 ≤ ρ (63 + 12 * q + 4) ∧ ρ (63 + 12 * q + 4) ≤ 7 := (hp.2.2.2.2 q (by omega)).2.2.2.2.1
    have hi2 : i < 12 := by
      have : i < 5 + (ρ (63 + 12 * q + 4)).toNat := hi
      omega
    show ρ (63 + 12 * q + i) = τ (63 + 12 * q + i)
    rw [h _ (by omega), if_neg (by omega)]
  · refine y_rl_ext (fun i hi => ?_) (hp.2.2.2.2 (q + 1) (by omega))
    have h4 := (hp.2.2.2.2 (q + 1) (by omega)).2.2.2.2.1
    show ρ (63 + 12 * (q + 1) + i) = τ (63 + 12 * q + i)
    have hi2 : i < 12 := by
      have : i < 5 + (ρ (63 + 12 * (q + 1) + 4)).toNat := hi
      have h4 : 1 ≤ ρ (63 + 12 * (q + 1) + 4) ∧ ρ (63 + 12 * (q + 1) + 4) ≤ 7 := h4
      omega
    rw [h _ (by omega), if_pos (by omega)]
    congr 1
    omega
/-- a rule is put in, those from it on one further -/
theorem y_PI_ins {ρ τ ω q : Nat → Int} {t : Nat} (hp : y_PI ρ) (ht : (t : Int) ≤ ρ 62) (h15 : ρ 62 ≤ 15) (h62 : τ 62 = ρ 62 + 1) (h : ∀ m : Nat, m ≠ 62 → τ m = if 75 + 12 * t ≤ m ∧ (m : Int) < 75 + 12 * ρ 62 then ρ (m - 12) else ρ m) (hq : y_rl q) (hw : ∀ m, ¬ (63 + 12 * t ≤ m ∧ m < 75 + 12 * t) → ω m = τ m) (hw2 : ∀ m, m < 12 → ω (63 + 12 * t + m) = q m) : y_PI ω := by
  have hb := hp.2.2.2.1
  have w62 : ω 62 = ρ 62 + 1 := by rw [hw 62 (by omega)]; exact h62
  refine y_PI_r (fun k hk => by rw [hw k (by omega), h k (by omega), if_neg (by omega)]) ⟨by omega, fun u hu => ?_⟩ hp
  by_cases c : u = t
  · subst c
    refine y_rl_ext (fun i hi => ?_) hq
    have h4 := hq.2.2.2.2.1
    exact (hw2 i (by omega)).symm
  · by_cases c2 : u < t
    · refine y_rl_ext (fun i hi => ?_) (hp.2.2.2.2 u (by omega))
      have h4 := (hp.2.2.2.2 u (by omega)).2.2.2.2.1
      have hi2 : i < 12 := by
        have : i < 5 + (ρ (63 + 12 * u + 4)).toNat := hi
        have h4 : 1 ≤ ρ (63 + 12 * u + 4) ∧ ρ (63 + 12 * u + 4) ≤ 7 := h4
        omega
      show ρ (63 + 12 * u + i) = ω (63 + 12 * u + i)
      rw [hw _ (by omega), h _ (by omega), if_neg (by omega)]
    · obtain ⟨w, hwu⟩ : ∃ w, u = w + 1 := ⟨u - 1, by omega⟩
      subst hwu
      refine y_rl_ext (fun i hi => ?_) (hp.2.2.2.2 w (by omega))
      have h4 := (hp.2.2.2.2 w (by omega)).2.2.2.2.1
      have hi2 : i < 12 := by
        have : i < 5 + (ρ (63 + 12 * w + 4)).toNat := hi
        have h4 : 1 ≤ ρ (63 + 12 * w + 4) ∧ ρ (63 + 12 * w + 4) ≤ 7 := h4
        omega
      show ρ (63 + 12 * w + i) = ω (63 + 12 * (w + 1) + i)
      rw [hw _ (by omega), h _ (by omega), if_pos (by omega)]
      congr 1
      omega
/-- a rule is put in place of one, or behind all -/
theorem y_PI_put {ρ ω q : Nat → Int} {t : Nat} {n : Int} (hp : y_PI ρ) (ht : (t : Int) < n) (hn : n = ρ 62 ∨ (n = ρ 62 + 1 ∧ (t : Int) = ρ 62)) (h16 : n ≤ 16) (hq : y_rl q) (w62 : ω 62 = n) (hw : ∀ m, m ≠ 62 → ¬ (63 + 12 * t ≤ m ∧ m < 75 + 12 * t) → ω m = ρ m) (hw2 : ∀ m, m < 12 → ω (63 + 12 * t + m) = q m) : y_PI ω := by
  have hb := hp.2.2.2.1
  refine y_PI_r (fun k hk => (hw k (by omega) (by omega)).symm) ⟨by omega, fun u hu => ?_⟩ hp
  by_cases c : u = t
  · subst c
    refine y_rl_ext (fun i hi => ?_) hq
    have h4 := hq.2.2.2.2.1
    exact (hw2 i (by omega)).symm
  · refine y_rl_ext (fun i hi => ?_) (hp.2.2.2.2 u (by omega))
    have h4 := (hp.2.2.2.2 u (by omega)).2.2.2.2.1
    have hi2 : i < 12 := by
      have : i < 5 + (ρ (63 + 12 * u + 4)).toNat := hi
      have h4 : 1 ≤ ρ (63 + 12 * u + 4) ∧ ρ (63 + 12 * u + 4) ≤ 7 := h4
      omega
    exact (hw _ (by omega) (by omega)).symm
