/-- only the program's row changed, and it stands -/
theorem y_RI_now {σ τ : x_S} (h : y_sm [140] [] σ τ) (hp : y_PI (τ 140)) (hR : y_RI σ) : y_RI τ := by
  obtain ⟨rl, rp, ru, rb, rk, rc⟩ := hR
  have h0 := h 138 0 (by decide) (by decide)
  have h5 := h 138 5 (by decide) (by decide)
  have h7 := h 138 7 (by decide) (by decide)
  exact ⟨by rw [h0]; exact rl, hp, by rw [h5]; exact ru, fun u hu => y_PI_ext (fun q _ => (y_sm_a h 142 (by decide) (by decide) _).symm) (rb u (by omega)), by rw [h7]; exact rk, fun u hu => y_PI_ext (fun q _ => (y_sm_a h 143 (by decide) (by decide) _).symm) (rc u (by omega))⟩
