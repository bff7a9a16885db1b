theorem z_p127 {E : q_E} {h : q_H} (hI : z_LI h) {n1 n2 n3 : Nat} (h1 : n1 < 4294967296) (h2 : n2 < 4294967296) (h3 : n3 < 4294967296) : q_P E (q_mt 127) [x_R 0, .inl n1, .inl n2, .inl n3] h (fun r h' => ∃ n, r = some (.inl n) ∧ x_sh h' ∧ q_P E (q_mt 181) [x_R 138, .inl n1, .inl n2, .inl n3] h' (fun r h'' => r = some (.inl n) ∧ z_LI h'')) := by
  rw [z_arg h1, z_arg h2, z_arg h3]
  have l1 := x_s_lo n1
  have u1 := x_s_hi n1
  generalize x_s n1 = a1 at l1 u1 ⊢
  have l2 := x_s_lo n2
  have u2 := x_s_hi n2
  generalize x_s n2 = a2 at l2 u2 ⊢
  have l3 := x_s_lo n3
  have u3 := x_s_hi n3
  generalize x_s n3 = a3 at l3 u3 ⊢
  refine z_two hI (fun σ hL => ?_)
  obtain ⟨C0, hR, hT, h4, hS, hK⟩ := id hL
  have rP := hR.2.1
  have ex : ∃ P V, (0 ≤ a1 ∧ a1 ≤ 1) → (0 ≤ a2 ∧ a2 ≤ 2) → y_ms (σ 140) a1 (y_lt (σ 140) a2.toNat) (σ 140 (2 + a2.toNat)).toNat P V := by
    by_cases c : (0 ≤ a1 ∧ a1 ≤ 1) ∧ (0 ≤ a2 ∧ a2 ≤ 2)
    · obtain ⟨P, V, h⟩ := y_ms_ex (A := σ 140) (m := a1) (rP.2.1 a2.toNat (by omega)).2
      exact ⟨P, V, fun _ _ => h⟩
    · exact ⟨fun _ => 0, fun _ => 0, fun z1 z2 => absurd ⟨z1, z2⟩ c⟩
  obtain ⟨P, V, ms⟩ := ex
  refine kx_127_0 l1 u1 l2 u2 l3 u3 C0 rP h4.1 ms (fun z => ⟨_, rfl, ?_⟩) (fun z τ C1 f => ⟨_, rfl, ?_⟩)
  · exact cx_181 l1 u1 l2 u2 l3 u3 rP ms (fun _ => ⟨rfl, hL⟩) (fun y => absurd y z)
  · have hL1 : y_LI τ := y_LI_q hL C1 (fun r k hr => f r k (by omega))
    have e0 : τ 140 = σ 140 := funext (fun m => f 140 m (by omega))
    refine cx_181 (P := P) (V := V) l1 u1 l2 u2 l3 u3 hL1.2.1.2.1 (by rw [e0]; exact ms) (fun y => absurd (by rw [e0]; exact z) y) (fun y τ' s => ⟨rfl, y_LI_r hL1 (y_sm_rf2 s (by decide) (by decide))⟩)
