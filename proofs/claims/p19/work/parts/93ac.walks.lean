theorem z_p153 {E : q_E} {h : q_H} (hI : z_LI h) {n1 n2 : Nat} (h1 : n1 < 4294967296) (h2 : n2 < 4294967296) : q_P E (q_mt 153) [x_R 0, .inl n1, .inl n2] h (fun r h' => ∃ n, r = some (.inl n) ∧ x_sh h' ∧ q_P E (q_mt 192) [x_R 138, .inl n1, .inl n2] h' (fun r h'' => r = some (.inl n) ∧ z_LI h'')) := by
  rw [z_arg h1, z_arg h2]
  have l1 := x_s_lo n1
  have u1 := x_s_hi n1
  generalize x_s n1 = a1 at l1 u1 ⊢
  have l2 := x_s_lo n2
  have u2 := x_s_hi n2
  generalize x_s n2 = a2 at l2 u2 ⊢
  refine z_two hI (fun σ hL => ?_)
  obtain ⟨C0, hR, hT, h4, hS, hK⟩ := id hL
  have rP := hR.2.1
  have ex : ∃ P V, (0 ≤ a1 ∧ a1 ≤ 2) → y_ms (σ 140) 0 (y_lt (σ 140) a1.toNat) (σ 140 (2 + a1.toNat)).toNat P V := by
    by_cases c : 0 ≤ a1 ∧ a1 ≤ 2
    · obtain ⟨P, V, h⟩ := y_ms_ex (A := σ 140) (m := 0) (rP.2.1 a1.toNat (by omega)).2
      exact ⟨P, V, fun _ => h⟩
    · exact ⟨fun _ => 0, fun _ => 0, fun z => absurd z c⟩
  obtain ⟨P, V, ms⟩ := ex
  have ex2 : ∃ P2 V2, (0 ≤ a1 ∧ a1 ≤ 2) → (w_RS (σ 140) 0 0 (y_lt (σ 140) a1.toNat) P V).1 = 0 → y_ms (σ 140) 0 (w_RS (σ 140) 0 0 (y_lt (σ 140) a1.toNat) P V).2.2.2.2.2.2.1 (w_RS (σ 140) 0 0 (y_lt (σ 140) a1.toNat) P V).2.2.2.2.2.1 P2 V2 := by
    by_cases c : (0 ≤ a1 ∧ a1 ≤ 2) ∧ (w_RS (σ 140) 0 0 (y_lt (σ 140) a1.toNat) P V).1 = 0
    · have sz := y_PI_sz rP (t := a1.toNat) (by omega)
      have tt := w_RS_t (p := 0) (q := 0) (P := P) (V := V) (l := y_lt (σ 140) a1.toNat) (n := (σ 140 (2 + a1.toNat)).toNat) rP (by omega) (by omega) (rP.2.1 a1.toNat (by omega)).2 (ms c.1) c.2
      obtain ⟨P2, V2, h⟩ := y_ms_ex (A := σ 140) (m := 0) tt.1
      exact ⟨P2, V2, fun _ _ => h⟩
    · exact ⟨fun _ => 0, fun _ => 0, fun z1 z2 => absurd ⟨z1, z2⟩ c⟩
  obtain ⟨P2, V2, ms2⟩ := ex2
  refine kx_153_0 l1 u1 l2 u2 C0 rP h4 ms ms2 (fun z => ⟨_, rfl, ?_⟩) (fun z τ C1 f => ⟨_, rfl, ?_⟩)
  · exact cx_192 l1 u1 l2 u2 rP ms ms2 (fun _ => ⟨rfl, hL⟩) (fun y => absurd y z)
  · have hL1 : y_LI τ := y_LI_q hL C1 (fun r k hr => f r k (by omega))
    have e0 : τ 140 = σ 140 := funext (fun m => f 140 m (by omega))
    refine cx_192 (P := P) (V := V) (P2 := P2) (V2 := V2) l1 u1 l2 u2 hL1.2.1.2.1 (by rw [e0]; exact ms) (by rw [e0]; exact ms2) (fun y => absurd z y) (fun y τ' s => ⟨?_, y_LI_r hL1 s⟩)
    rw [e0]
    try rfl
