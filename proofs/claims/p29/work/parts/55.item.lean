theorem y_PI_0 {ρ : Nat → Int} (h : ∀ m : Nat, m < 256 → ρ m = if 2 ≤ m ∧ m < 5 then 1 else 0) : y_PI ρ := by
  have h0 := h 0 (by decide)
  have h1 := h 1 (by decide)
  have h62 := h 62 (by decide)
  rw [if_neg (by omega)] at h0 h1 h62
  refine ⟨⟨by omega, by omega⟩, fun t ht => ?_, fun k k1 k2 => ?_, ⟨by omega, fun r hr => absurd hr (by omega)⟩⟩
  · have hs := h (2 + t) (by omega)
    have hl := h (5 + 11 * t + 0) (by omega)
    rw [if_pos (by omega)] at hs
    rw [if_neg (by omega)] at hl
    refine ⟨by omega, ?_⟩
    rw [hs]
    refine ⟨fun k hk => ?_, ?_⟩
    · have : k = 0 := by omega
      subst this
      exact ⟨by show 0 ≤ ρ (5 + 11 * t + 0); omega, by show ρ (5 + 11 * t + 0) ≤ 4; omega, by show (1 : Int) ≤ 1; omega⟩
    · show (1 : Int) + y_c9 (ρ (5 + 11 * t + 0)) - 1 = 0
      rw [hl]
      rfl
  · have := h k (by omega)
    rw [if_neg (by omega)] at this
    omega
