/-! questions of all trees: the same answers -/
theorem z_p159 {E : q_E} {h : q_H} (hI : z_LI h) {n1 : Nat} (h1 : n1 < 4294967296) : q_P E (q_mt 159) [x_R 0, .inl n1] h (fun r h' => ∃ n, r = some (.inl n) ∧ x_sh h' ∧ q_P E (q_mt 199) [x_R 138, .inl n1] h' (fun r h'' => r = some (.inl n) ∧ z_LI h'')) := by
  rw [z_arg h1]
  have l1 := x_s_lo n1
  have u1 := x_s_hi n1
  generalize x_s n1 = a1 at l1 u1 ⊢
  refine z_two hI (fun σ hL hc => ?_)
  obtain ⟨C0, hR, hT, h4, hS, hK⟩ := id hL
  have rP := hR.2.1
  refine kx_159_0 l1 u1 C0 rP h4 hc (fun z => ⟨_, rfl, ?_⟩) (fun z τ C1 f hc1 hd lf rt sz od mt R => ⟨_, rfl, ?_⟩)
  · exact rx_199 l1 u1 rP (fun _ => ⟨⟨rfl, hL⟩, hc⟩) (fun y => absurd y z)
  · skip
    have hL1 : y_LI τ := y_LI_q hL C1 (fun r k hr => f r k (by omega))
    have e0 : τ 140 = σ 140 := funext (fun m => f 140 m (by omega))
    have hc2 : cn_CR τ (τ 140) := by rw [e0]; exact hc1
    refine rx_199 l1 u1 hL1.2.1.2.1 (fun y => absurd z y) (fun y τ' g cm nn fc => ⟨⟨?_, y_LI_r hL1 g⟩, cn_CR_r g hc2⟩)
    rw [e0] at fc
    rw [cn_eqC R fc]
theorem z_p160 {E : q_E} {h : q_H} (hI : z_LI h) {n1 n2 n3 : Nat} (h1 : n1 < 4294967296) (h2 : n2 < 4294967296) (h3 : n3 < 4294967296) : q_P E (q_mt 160) [x_R 0, .inl n1, .inl n2, .inl n3] h (fun r h' => ∃ n, r = some (.inl n) ∧ x_sh h' ∧ q_P E (q_mt 200) [x_R 138, .inl n1, .inl n2, .inl n3] h' (fun r h'' => r = some (.inl n) ∧ z_LI h'')) := by
  rw [z_arg h1, z_arg h2, z_arg h3]
  have l1 := x_s_lo n1
  have u1 := x_s_hi n1
  generalize x_s n1 = a1 at l1 u1 ⊢
  have l2 := x_s_lo n2
  have u2 := x_s_hi n2
  generalize x_s n2 = a2 at l2 u2 ⊢
  have l3 := x_s_lo n3
  have u3 := x_s_hi n3
  generalize x_s n3 = a3 at l3 u3 ⊢
  refine z_two hI (fun σ hL hc => ?_)
  obtain ⟨C0, hR, hT, h4, hS, hK⟩ := id hL
  have rP := hR.2.1
  refine kx_160_0 l1 u1 l2 u2 l3 u3 C0 rP h4 hc (fun z => ⟨_, rfl, ?_⟩) (fun z τ C1 f hc1 hd lf rt sz od mt R => ?_)
  · exact rx_200 l1 u1 l2 u2 l3 u3 rP (fun _ => ⟨⟨rfl, hL⟩, hc⟩) (fun y => absurd y z)
  · skip
    have hL1 : y_LI τ := y_LI_q hL C1 (fun r k hr => f r k (by omega))
    have e0 : τ 140 = σ 140 := funext (fun m => f 140 m (by omega))
    have hc2 : cn_CR τ (τ 140) := by rw [e0]; exact hc1
    have go : ∀ v : Int, (∀ cm sz' : Nat → Int, ∀ L : Nat → List Int, ∀ nn : Int, cn_RF (σ 140) a1 cm sz' L nn → ((sz' a2.toNat = 41 ∨ sz' a2.toNat ≤ a3) → v = -4) ∧ (sz' a2.toNat ≤ 40 → a3 = -1 → v = sz' a2.toNat) ∧ (sz' a2.toNat ≤ 40 → 0 ≤ a3 → a3 < sz' a2.toNat → v = cn_at (L a2.toNat) a3.toNat)) → x_P E 200 [x_R 138, x_I a1, x_I a2, x_I a3] τ (fun r τ' => (r = some (x_I v) ∧ y_LI τ') ∧ cn_CR τ' (τ' 140)) := fun v hv => by
      refine rx_200 l1 u1 l2 u2 l3 u3 hL1.2.1.2.1 (fun y => absurd z y) (fun y τ' g cm sz' L nn RF => ?_)
      rw [e0] at RF
      have q := hv cm sz' L nn RF
      have K : ∀ w : Int, v = w → ((some (x_I w) = some (x_I v) ∧ y_LI τ') ∧ cn_CR τ' (τ' 140)) := fun w e => ⟨⟨by rw [e], y_LI_r hL1 g⟩, cn_CR_r g hc2⟩
      exact ⟨fun d => K _ (q.1 d), fun d1 d2 => K _ (q.2.1 d1 d2), fun d1 d2 d3 => K _ (q.2.2 d1 d2 d3)⟩
    refine ⟨fun c => ⟨_, rfl, go _ (fun cm sz' L nn RF => ?_)⟩, fun c1 c2 c3 => ⟨_, rfl, go _ (fun cm sz' L nn RF => ?_)⟩, fun c1 c2 c3 => ⟨_, rfl, go _ (fun cm sz' L nn RF => ?_)⟩⟩
    · have q := cn_eqZ R RF (k := a2.toNat) (by omega)
      exact ⟨fun _ => rfl, fun d1 d2 => by omega, fun d1 d2 d3 => by omega⟩
    · have q := cn_eqZ R RF (k := a2.toNat) (by omega)
      exact ⟨fun _ => by omega, fun d1 d2 => by omega, fun d1 d2 d3 => by omega⟩
    · have q := cn_eqZ R RF (k := a2.toNat) (by omega)
      refine ⟨fun _ => by omega, fun d1 d2 => by omega, fun d1 d2 d3 => ?_⟩
      rcases q with q | q
      · have e := q.2.2.2.2 c1
        rw [show ((a2.toNat : Nat) : Int) = a2 by omega] at e
        rw [e]
      · omega
theorem z_p162 {E : q_E} {h : q_H} (hI : z_LI h) {n1 n2 n3 : Nat} (h1 : n1 < 4294967296) (h2 : n2 < 4294967296) (h3 : n3 < 4294967296) : q_P E (q_mt 162) [x_R 0, .inl n1, .inl n2, .inl n3] h (fun r h' => ∃ n, r = some (.inl n) ∧ x_sh h' ∧ q_P E (q_mt 205) [x_R 138, .inl n1, .inl n2, .inl n3] h' (fun r h'' => r = some (.inl n) ∧ z_LI h'')) := by
  rw [z_arg h1, z_arg h2, z_arg h3]
  have l1 := x_s_lo n1
  have u1 := x_s_hi n1
  generalize x_s n1 = a1 at l1 u1 ⊢
  have l2 := x_s_lo n2
  have u2 := x_s_hi n2
  generalize x_s n2 = a2 at l2 u2 ⊢
  have l3 := x_s_lo n3
  have u3 := x_s_hi n3
  generalize x_s n3 = a3 at l3 u3 ⊢
  refine z_two hI (fun σ hL hc => ?_)
  obtain ⟨C0, hR, hT, h4, hS, hK⟩ := id hL
  have rP := hR.2.1
  refine kx_162_0 l1 u1 l2 u2 l3 u3 C0 rP h4 hc (fun z => ⟨_, rfl, ?_⟩) (fun z τ C1 f hc1 hd lf rt sz od mt R => ?_)
  · exact rx_205 l1 u1 l2 u2 l3 u3 rP (fun _ => ⟨⟨rfl, hL⟩, hc⟩) (fun y => absurd y z)
  · skip
    have hL1 : y_LI τ := y_LI_q hL C1 (fun r k hr => f r k (by omega))
    have e0 : τ 140 = σ 140 := funext (fun m => f 140 m (by omega))
    have hc2 : cn_CR τ (τ 140) := by rw [e0]; exact hc1
    have go : ∀ v : Int, (∀ cm sz' : Nat → Int, ∀ L : Nat → List Int, ∀ nn : Int, cn_RF (σ 140) a1 cm sz' L nn → ∀ b, cn_rb cm sz' L a2 2 b 54 → cn_fw sz' a3 b = v) → x_P E 205 [x_R 138, x_I a1, x_I a2, x_I a3] τ (fun r τ' => (r = some (x_I v) ∧ y_LI τ') ∧ cn_CR τ' (τ' 140)) := fun v hv => by
      refine rx_205 l1 u1 l2 u2 l3 u3 hL1.2.1.2.1 (fun y => absurd z y) (fun y τ' g cm sz' L nn RF b rb => ?_)
      rw [e0] at RF
      exact ⟨⟨by rw [hv cm sz' L nn RF b rb], y_LI_r hL1 g⟩, cn_CR_r g hc2⟩
    exact ⟨fun no => ⟨_, rfl, go _ (fun cm sz' L nn RF b rb => cn_fwN R RF no rb)⟩, fun i hi ti fi => ⟨_, rfl, go _ (fun cm sz' L nn RF b rb => cn_fwS R RF hi ti fi rb)⟩⟩
theorem z_p165 {E : q_E} {h : q_H} (hI : z_LI h) {n1 n2 n3 : Nat} (h1 : n1 < 4294967296) (h2 : n2 < 4294967296) (h3 : n3 < 4294967296) : q_P E (q_mt 165) [x_R 0, .inl n1, .inl n2, .inl n3] h (fun r h' => ∃ n, r = some (.inl n) ∧ x_sh h' ∧ q_P E (q_mt 208) [x_R 138, .inl n1, .inl n2, .inl n3] h' (fun r h'' => r = some (.inl n) ∧ z_LI h'')) := by
  rw [z_arg h1, z_arg h2, z_arg h3]
  have l1 := x_s_lo n1
  have u1 := x_s_hi n1
  generalize x_s n1 = a1 at l1 u1 ⊢
  have l2 := x_s_lo n2
  have u2 := x_s_hi n2
  generalize x_s n2 = a2 at l2 u2 ⊢
  have l3 := x_s_lo n3
  have u3 := x_s_hi n3
  generalize x_s n3 = a3 at l3 u3 ⊢
  refine z_two hI (fun σ hL hc => ?_)
  obtain ⟨C0, hR, hT, h4, hS, hK⟩ := id hL
  have rP := hR.2.1
  refine kx_165_0 l1 u1 l2 u2 l3 u3 C0 rP h4 hc (fun z => ⟨_, rfl, ?_⟩) (fun z τ C1 f hc1 hd lf rt sz od mt R => ?_)
  · exact rx_208 l1 u1 l2 u2 l3 u3 rP (fun _ => ⟨⟨rfl, hL⟩, hc⟩) (fun y => absurd y z)
  · skip
    have hL1 : y_LI τ := y_LI_q hL C1 (fun r k hr => f r k (by omega))
    have e0 : τ 140 = σ 140 := funext (fun m => f 140 m (by omega))
    have hc2 : cn_CR τ (τ 140) := by rw [e0]; exact hc1
    have go : ∀ v : Int, (∀ cm sz' : Nat → Int, ∀ L : Nat → List Int, ∀ nn : Int, cn_RF (σ 140) a1 cm sz' L nn → ∀ b, cn_rb cm sz' L a2 0 b 54 → cn_fw sz' a3 b = v) → x_P E 208 [x_R 138, x_I a1, x_I a2, x_I a3] τ (fun r τ' => (r = some (x_I v) ∧ y_LI τ') ∧ cn_CR τ' (τ' 140)) := fun v hv => by
      refine rx_208 l1 u1 l2 u2 l3 u3 hL1.2.1.2.1 (fun y => absurd z y) (fun y τ' g cm sz' L nn RF b rb => ?_)
      rw [e0] at RF
      exact ⟨⟨by rw [hv cm sz' L nn RF b rb], y_LI_r hL1 g⟩, cn_CR_r g hc2⟩
    exact ⟨fun no => ⟨_, rfl, go _ (fun cm sz' L nn RF b rb => cn_fwN R RF no rb)⟩, fun i hi ti fi => ⟨_, rfl, go _ (fun cm sz' L nn RF b rb => cn_fwS R RF hi ti fi rb)⟩⟩
