/-- the pieces of a rule -/
def y_W (σ : x_S) (r : Nat) : Nat → Int := fun i => σ 140 (63 + 12 * r + (5 + i))
theorem y_so_up {σ τ : x_S} {k : Nat} {v : Int} (e : τ = x_up σ 158 k v) : y_so σ τ := fun r m h => x_up_nr e h
theorem y_c9v (x : Int) : (9 < x → y_c9 x = 0) ∧ (x ≤ 9 → (x < 2 ∧ y_c9 x = 0) ∨ (x = 2 ∧ y_c9 x = 1) ∨ (2 < x ∧ y_c9 x = 2)) := by
  unfold y_c9 y_ch
  constructor
  · intro h
    rw [if_pos h]
  · intro h
    rw [if_neg (by omega)]
    (repeat' split) <;> omega
