theorem z_p132 {E : q_E} {h : q_H} (hI : z_LI h) {n1 : Nat} (h1 : n1 < 4294967296) : q_P E (q_mt 132) [x_R 0, .inl n1] h (fun r h' => ∃ n, r = some (.inl n) ∧ x_sh h' ∧ q_P E (q_mt 185) [x_R 138, .inl n1] h' (fun r h'' => r = some (.inl n) ∧ z_LI h'')) := by
  rw [z_arg h1]
  have l1 := x_s_lo n1
  have u1 := x_s_hi n1
  generalize x_s n1 = a1 at l1 u1 ⊢
  refine z_two hI (fun σ hL => ?_)
  obtain ⟨C0, hR, hT, h4, hS, hK⟩ := id hL
  have r5 := hR.2.2.1
  have r7 := hR.2.2.2.2.1
  have rP := hR.2.1
  refine kx_132_0 l1 u1 C0 rP h4 (by omega) hR.2.2.2.1 hS (fun z => ⟨_, rfl, ?_⟩) (fun z τ C1 fA g4 gS zz => ⟨_, rfl, ?_⟩)
  · exact cx_185 l1 u1 hR (fun _ => ⟨rfl, hL⟩) (fun y => absurd (by omega) z)
  · have hR1 : y_RI τ := z_fR (fun r k hr => fA r k (by omega)) hR
    have e0 : τ 140 = σ 140 := funext (fun m => fA 140 m (by omega))
    refine cx_185 l1 u1 hR1 (fun y => absurd (by rw [e0]; omega) y) (fun y τ' hR2 s N w => ?_)
    rw [e0] at w ⊢
    exact ⟨rfl, y_LI_act hL C1 fA g4 (y_PI_ct rP (by omega)) gS hR2 s N (by rw [show τ' 140 = _ from funext w]; exact y_AG_rf)⟩

theorem z_p133 {E : q_E} {h : q_H} (hI : z_LI h) {n1 n2 : Nat} (h1 : n1 < 4294967296) (h2 : n2 < 4294967296) : q_P E (q_mt 133) [x_R 0, .inl n1, .inl n2] h (fun r h' => ∃ n, r = some (.inl n) ∧ x_sh h' ∧ q_P E (q_mt 186) [x_R 138, .inl n1, .inl n2] h' (fun r h'' => r = some (.inl n) ∧ z_LI h'')) := by
  rw [z_arg h1, z_arg h2]
  have l1 := x_s_lo n1
  have u1 := x_s_hi n1
  generalize x_s n1 = a1 at l1 u1 ⊢
  have l2 := x_s_lo n2
  have u2 := x_s_hi n2
  generalize x_s n2 = a2 at l2 u2 ⊢
  refine z_two hI (fun σ hL => ?_)
  obtain ⟨C0, hR, hT, h4, hS, hK⟩ := id hL
  have r5 := hR.2.2.1
  have r7 := hR.2.2.2.2.1
  have rP := hR.2.1
  refine kx_133_0 l1 u1 l2 u2 C0 rP h4 (by omega) hR.2.2.2.1 hS (fun z => ⟨_, rfl, ?_⟩) (fun z z2 => ⟨_, rfl, ?_⟩) (fun z τ C1 fA g4 gS zz => ⟨_, rfl, ?_⟩)
  · exact cx_186 l1 u1 l2 u2 hR (fun _ => ⟨rfl, hL⟩) (fun y => absurd y z) (fun y => absurd (by omega) z)
  · exact cx_186 l1 u1 l2 u2 hR (fun y => absurd z y) (fun _ _ => ⟨rfl, hL⟩) (fun y => absurd z2 y.2.2.2.2)
  · have hR1 : y_RI τ := z_fR (fun r k hr => fA r k (by omega)) hR
    have e0 : τ 140 = σ 140 := funext (fun m => fA 140 m (by omega))
    refine cx_186 l1 u1 l2 u2 hR1 (fun y => absurd (by rw [e0]; omega) y) (fun _ y => absurd y z.2.2.2.2) (fun y τ' hR2 s N w => ?_)
    rw [e0] at w
    exact ⟨rfl, y_LI_act hL C1 fA g4 (y_PI_sh rP (by omega) (by omega)) gS hR2 s N (by rw [show τ' 140 = _ from funext w]; exact y_AG_rf)⟩

theorem z_p134 {E : q_E} {h : q_H} (hI : z_LI h) {n1 n2 n3 : Nat} (h1 : n1 < 4294967296) (h2 : n2 < 4294967296) (h3 : n3 < 4294967296) : q_P E (q_mt 134) [x_R 0, .inl n1, .inl n2, .inl n3] h (fun r h' => ∃ n, r = some (.inl n) ∧ x_sh h' ∧ q_P E (q_mt 187) [x_R 138, .inl n1, .inl n2, .inl n3] h' (fun r h'' => r = some (.inl n) ∧ z_LI h'')) := by
  rw [z_arg h1, z_arg h2, z_arg h3]
  have l1 := x_s_lo n1
  have u1 := x_s_hi n1
  generalize x_s n1 = a1 at l1 u1 ⊢
  have l2 := x_s_lo n2
  have u2 := x_s_hi n2
  generalize x_s n2 = a2 at l2 u2 ⊢
  have l3 := x_s_lo n3
  have u3 := x_s_hi n3
  generalize x_s n3 = a3 at l3 u3 ⊢
  refine z_two hI (fun σ hL => ?_)
  obtain ⟨C0, hR, hT, h4, hS, hK⟩ := id hL
  have r5 := hR.2.2.1
  have r7 := hR.2.2.2.2.1
  have rP := hR.2.1
  have iff1 : (0 ≤ a1 ∧ a1 ≤ 2 ∧ 0 ≤ a2 ∧ a2 < σ 140 (2 + a1.toNat) ∧ 0 ≤ a3 ∧ a3 ≤ 4 ∧ y_ch (σ 140 (5 + 11 * a1.toNat + a2.toNat)) = y_ch a3) → ((0 ≤ a1 ∧ a1 ≤ 2) ∧ (0 ≤ a2 ∧ a2 ≤ σ 140 (2 + a1).toNat - 1) ∧ (0 ≤ a3 ∧ a3 ≤ 4) ∧ y_ch (σ 140 (5 + 11 * a1 + a2).toNat) = y_ch a3) := fun ⟨b1, b2, b3, b4, b5, b6, b7⟩ => ⟨⟨b1, b2⟩, ⟨b3, by rw [show (2 + a1).toNat = 2 + a1.toNat by omega]; omega⟩, ⟨b5, b6⟩, by rw [show (5 + 11 * a1 + a2).toNat = 5 + 11 * a1.toNat + a2.toNat by omega]; exact b7⟩
  have iff2 : ((0 ≤ a1 ∧ a1 ≤ 2) ∧ (0 ≤ a2 ∧ a2 ≤ σ 140 (2 + a1).toNat - 1) ∧ (0 ≤ a3 ∧ a3 ≤ 4) ∧ y_ch (σ 140 (5 + 11 * a1 + a2).toNat) = y_ch a3) → (0 ≤ a1 ∧ a1 ≤ 2 ∧ 0 ≤ a2 ∧ a2 < σ 140 (2 + a1.toNat) ∧ 0 ≤ a3 ∧ a3 ≤ 4 ∧ y_ch (σ 140 (5 + 11 * a1.toNat + a2.toNat)) = y_ch a3) := fun ⟨⟨b1, b2⟩, ⟨b3, b4⟩, ⟨b5, b6⟩, b7⟩ => ⟨b1, b2, b3, by rw [show (2 + a1).toNat = 2 + a1.toNat by omega] at b4; omega, b5, b6, by rw [show (5 + 11 * a1 + a2).toNat = 5 + 11 * a1.toNat + a2.toNat by omega] at b7; exact b7⟩
  refine kx_134_0 l1 u1 l2 u2 l3 u3 C0 rP h4 (by omega) hR.2.2.2.1 hS (fun z => ⟨_, rfl, ?_⟩) (fun z z2 => ⟨_, rfl, ?_⟩) (fun z τ C1 fA g4 gS zz => ⟨_, rfl, ?_⟩)
  · exact cx_187 l1 u1 l2 u2 l3 u3 hR (fun _ => ⟨rfl, hL⟩) (fun y => absurd (iff2 y) z) (fun y => absurd (iff2 y.1) z)
  · have em : (5 + 11 * a1 + a2).toNat = 5 + 11 * a1.toNat + a2.toNat := by omega
    exact cx_187 l1 u1 l2 u2 l3 u3 hR (fun y => absurd (iff1 z) y) (fun _ _ => ⟨rfl, hL⟩) (fun y => absurd (by rw [em]; exact z2) y.2)
  · have hR1 : y_RI τ := z_fR (fun r k hr => fA r k (by omega)) hR
    have e0 : τ 140 = σ 140 := funext (fun m => fA 140 m (by omega))
    have em : (5 + 11 * a1 + a2).toNat = 5 + 11 * a1.toNat + a2.toNat := by omega
    refine cx_187 l1 u1 l2 u2 l3 u3 hR1 (fun y => absurd (by rw [e0]; exact iff1 z.1) y) (fun _ y => absurd (by rw [e0, em] at y; exact y) z.2) (fun y τ' hR2 s N w => ?_)
    rw [e0, em] at w ⊢
    exact ⟨rfl, y_LI_act hL C1 fA g4 (y_PI_lf rP (by omega) (by have := z.1.2.2.2.1; omega) z.1.2.2.2.2.1 z.1.2.2.2.2.2.1 z.1.2.2.2.2.2.2) gS hR2 s N (by rw [show τ' 140 = _ from funext w]; exact y_AG_rf)⟩

theorem z_p136 {E : q_E} {h : q_H} (hI : z_LI h) {n1 n2 n3 : Nat} (h1 : n1 < 4294967296) (h2 : n2 < 4294967296) (h3 : n3 < 4294967296) : q_P E (q_mt 136) [x_R 0, .inl n1, .inl n2, .inl n3] h (fun r h' => ∃ n, r = some (.inl n) ∧ x_sh h' ∧ q_P E (q_mt 188) [x_R 138, .inl n1, .inl n2, .inl n3] h' (fun r h'' => r = some (.inl n) ∧ z_LI h'')) := by
  rw [z_arg h1, z_arg h2, z_arg h3]
  have l1 := x_s_lo n1
  have u1 := x_s_hi n1
  generalize x_s n1 = a1 at l1 u1 ⊢
  have l2 := x_s_lo n2
  have u2 := x_s_hi n2
  generalize x_s n2 = a2 at l2 u2 ⊢
  have l3 := x_s_lo n3
  have u3 := x_s_hi n3
  generalize x_s n3 = a3 at l3 u3 ⊢
  refine z_two hI (fun σ hL => ?_)
  obtain ⟨C0, hR, hT, h4, hS, hK⟩ := id hL
  have r5 := hR.2.2.1
  have r7 := hR.2.2.2.2.1
  have rP := hR.2.1
  refine kx_136_0 l1 u1 l2 u2 l3 u3 C0 rP h4 (by omega) hR.2.2.2.1 hS (fun z => ⟨_, rfl, ?_⟩) (fun z τ C1 fA g4 gS zz => ⟨_, rfl, ?_⟩)
  · exact cx_188 l1 u1 l2 u2 l3 u3 hR (fun _ => ⟨rfl, hL⟩) (fun y => absurd (by omega) z)
  · have hR1 : y_RI τ := z_fR (fun r k hr => fA r k (by omega)) hR
    have e0 : τ 140 = σ 140 := funext (fun m => fA 140 m (by omega))
    have tb := y_tab_b (m := a1) (f := a2) (e := a3) (by omega) (by omega) (by omega) (by omega) (by omega) (by omega)
    have pe := rP.2.2.1 (y_tab a1 a2 a3).toNat (by omega) (by omega)
    refine cx_188 l1 u1 l2 u2 l3 u3 hR1 (fun y => absurd (by omega) y) (fun y τ' hR2 s N w => ?_)
    rw [e0] at w ⊢
    exact ⟨rfl, y_LI_act hL C1 fA g4 (y_PI_fl rP (by omega) (by omega) (by omega) (by omega)) gS hR2 s N (by rw [show τ' 140 = _ from funext w]; exact y_AG_rf)⟩

theorem z_p137 {E : q_E} {h : q_H} (hI : z_LI h) {n1 n2 : Nat} (h1 : n1 < 4294967296) (h2 : n2 < 4294967296) : q_P E (q_mt 137) [x_R 0, .inl n1, .inl n2] h (fun r h' => ∃ n, r = some (.inl n) ∧ x_sh h' ∧ q_P E (q_mt 189) [x_R 138, .inl n1, .inl n2] h' (fun r h'' => r = some (.inl n) ∧ z_LI h'')) := by
  rw [z_arg h1, z_arg h2]
  have l1 := x_s_lo n1
  have u1 := x_s_hi n1
  generalize x_s n1 = a1 at l1 u1 ⊢
  have l2 := x_s_lo n2
  have u2 := x_s_hi n2
  generalize x_s n2 = a2 at l2 u2 ⊢
  refine z_two hI (fun σ hL => ?_)
  obtain ⟨C0, hR, hT, h4, hS, hK⟩ := id hL
  have r5 := hR.2.2.1
  have r7 := hR.2.2.2.2.1
  have rP := hR.2.1
  refine kx_137_0 l1 u1 l2 u2 C0 rP h4 (by omega) hR.2.2.2.1 hS (fun z => ⟨_, rfl, ?_⟩) (fun z z2 => ⟨_, rfl, ?_⟩) (fun z τ C1 fA g4 gS zz => ⟨_, rfl, ?_⟩)
  · exact cx_189 l1 u1 l2 u2 hR (fun _ => ⟨rfl, hL⟩) (fun y => absurd (by omega) z) (fun y => absurd (by omega) z)
  · exact cx_189 l1 u1 l2 u2 hR (fun y => absurd (by omega) y) (fun _ _ => ⟨rfl, hL⟩) (fun y => absurd z2 y.2.2)
  · have hR1 : y_RI τ := z_fR (fun r k hr => fA r k (by omega)) hR
    have e0 : τ 140 = σ 140 := funext (fun m => fA 140 m (by omega))
    refine cx_189 l1 u1 l2 u2 hR1 (fun y => absurd (by omega) y) (fun _ y => absurd (by rw [e0] at y; exact y) z.2.2.2.2) (fun y τ' hR2 s N w => ?_)
    rw [e0] at w ⊢
    exact ⟨rfl, y_LI_act hL C1 fA g4 (y_PI_K rP (by omega) (by omega) (by omega)) gS hR2 s N (by rw [show τ' 140 = _ from funext w]; exact y_AG_rf)⟩

theorem z_p138 {E : q_E} {h : q_H} (hI : z_LI h) : q_P E (q_mt 138) [x_R 0] h (fun r h' => ∃ n, r = some (.inl n) ∧ x_sh h' ∧ q_P E (q_mt 190) [x_R 138] h' (fun r h'' => r = some (.inl n) ∧ z_LI h'')) := by
  refine z_two hI (fun σ hL => ?_)
  obtain ⟨C0, hR, hT, h4, hS, hK⟩ := id hL
  have r5 := hR.2.2.1
  have r7 := hR.2.2.2.2.1
  have rP := hR.2.1
  refine kx_138_0 C0 rP h4 (by omega) hR.2.2.2.1 hS (fun z => ⟨_, rfl, ?_⟩) (fun n' hn τ C1 fA g4 gS zz => ⟨_, rfl, ?_⟩)
  · exact cx_190 hR (fun _ => ⟨rfl, hL⟩) (fun y => absurd y (by omega))
  · have hR1 : y_RI τ := z_fR (fun r k hr => fA r k (by omega)) hR
    have e5 := fA 138 5 (by omega)
    refine cx_190 hR1 (fun y => absurd y (by omega)) (fun y τ' hR2 s w5 w => ?_)
    have so := y_sm_o s (by decide)
    have e2 : τ 142 = σ 142 := funext (fun m => fA 142 m (by omega))
    have e3 : τ' 143 = σ 143 := funext (fun m => (y_sm_a s 143 (by decide) (by decide) m).trans (fA 143 m (by omega)))
    have e2' : τ' 142 = σ 142 := funext (fun m => (y_sm_a s 142 (by decide) (by decide) m).trans (fA 142 m (by omega)))
    have n5 : (τ 138 5 - 1).toNat = n' := by omega
    have n5' : (τ' 138 5).toNat = n' := by omega
    have e7 : τ' 138 7 = σ 138 7 := (s 138 7 (by decide) (by decide)).trans (fA 138 7 (by omega))
    rw [n5, e2] at w
    have rb := hR.2.2.2.1
    have pn := rb n' (by omega)
    refine ⟨by rw [show (n' : Int) = τ 138 5 - 1 by omega], z_fC so C1, hR2, y_TL_c ((so 1 2 (by decide)).trans (fA 1 2 (by omega))) (fun k => (so 2 k (by decide)).trans (fA 2 k (by omega))) ((s 138 0 (by decide) (by decide)).trans (fA 138 0 (by omega))) (fun k => (y_sm_a s 139 (by decide) (by decide) k).trans (fA 139 k (by omega))) hT, y_PG_ex pn (fun m hm => w m (by omega)) (y_PG_fr pn (fun c k h1 h2 => so c k (by omega)) g4), ?_, ?_⟩
    · rw [n5', e2']
      exact y_SF_fr (fun i hi => rb i (by omega)) (fun c k h1 h2 => so c k (by omega)) gS
    · rw [e7, e3]
      exact y_KF_fr (by omega) hR.2.2.2.2.2 (fun c k h1 h2 => (so c k (by omega)).trans (fA c k (by omega))) hK

theorem z_p166 {E : q_E} {h : q_H} (hI : z_LI h) : q_P E (q_mt 166) [x_R 0] h (fun r h' => ∃ n, r = some (.inl n) ∧ x_sh h' ∧ q_P E (q_mt 209) [x_R 138] h' (fun r h'' => r = some (.inl n) ∧ z_LI h'')) := by
  refine z_two hI (fun σ hL => ?_)
  obtain ⟨C0, hR, hT, h4, hS, hK⟩ := id hL
  have r5 := hR.2.2.1
  have r7 := hR.2.2.2.2.1
  have rP := hR.2.1
  refine kx_166_0 C0 rP h4 (by omega) hR.2.2.2.2.2 hK (fun z => ⟨_, rfl, ?_⟩) (fun z τ C1 f gK => ⟨_, rfl, ?_⟩)
  · exact cx_209 (fun _ => ⟨rfl, hL⟩) hR (fun y => absurd y (by omega))
  · have hR1 : y_RI τ := z_fR (fun r k hr => f r k (by omega)) hR
    have e7 := f 138 7 (by omega)
    refine cx_209 (fun y => absurd y (by omega)) hR1 (fun y τ' hR2 s w7 wu wv => ?_)
    have so := y_sm_o s (by decide)
    have e0 : τ' 140 = σ 140 := funext (fun m => (y_sm_a s 140 (by decide) (by decide) m).trans (f 140 m (by omega)))
    have e2 : τ' 142 = σ 142 := funext (fun m => (y_sm_a s 142 (by decide) (by decide) m).trans (f 142 m (by omega)))
    have e5 : τ' 138 5 = σ 138 5 := (s 138 5 (by decide) (by decide)).trans (f 138 5 (by omega))
    have n7 : (τ' 138 7).toNat = (σ 138 7).toNat + 1 := by omega
    rw [e7] at wu wv
    have rc := hR.2.2.2.2.2
    refine ⟨by rw [show ((σ 138 7).toNat : Int) + 1 = τ 138 7 + 1 by omega], z_fC so C1, hR2, y_TL_c ((so 1 2 (by decide)).trans (f 1 2 (by omega))) (fun k => (so 2 k (by decide)).trans (f 2 k (by omega))) ((s 138 0 (by decide) (by decide)).trans (f 138 0 (by omega))) (fun k => (y_sm_a s 139 (by decide) (by decide) k).trans (f 139 k (by omega))) hT, ?_, ?_, ?_⟩
    · rw [e0]
      exact y_PG_fr rP (fun c k h1 h2 => (so c k (by omega)).trans (f c k (by omega))) h4
    · rw [e5, e2]
      exact y_SF_fr hR.2.2.2.1 (fun c k h1 h2 => (so c k (by omega)).trans (f c k (by omega))) hS
    · rw [n7]
      have PP : ∀ i, i < (σ 138 7).toNat + 1 → y_PI (if i = (σ 138 7).toNat then σ 140 else (fun i m => σ 143 (256 * i + m)) i) := fun i hi => by
        by_cases c : i = (σ 138 7).toNat
        · rw [if_pos c]; exact rP
        · rw [if_neg c]; exact rc i (by omega)
      have q := y_KF_fr (by omega) PP (fun c k h1 h2 => so c k (by omega)) gK
      refine ⟨q.1, q.2.1, fun i hi => y_PG_ex (PP i hi) (fun m hm => ?_) (q.2.2 i hi)⟩
      by_cases c : i = (σ 138 7).toNat
      · rw [if_pos c, c]; exact (wv m (by omega)).trans (f 140 m (by omega))
      · rw [if_neg c]
        show τ' 143 (256 * i + m) = σ 143 (256 * i + m)
        rw [wu _ (by omega)]; exact f 143 _ (by omega)

theorem z_p167 {E : q_E} {h : q_H} (hI : z_LI h) : q_P E (q_mt 167) [x_R 0] h (fun r h' => ∃ n, r = some (.inl n) ∧ x_sh h' ∧ q_P E (q_mt 210) [x_R 138] h' (fun r h'' => r = some (.inl n) ∧ z_LI h'')) := by
  refine z_two hI (fun σ hL => ?_)
  obtain ⟨C0, hR, hT, h4, hS, hK⟩ := id hL
  have r5 := hR.2.2.1
  have r7 := hR.2.2.2.2.1
  have rP := hR.2.1
  refine kx_167_0 C0 rP h4 (by omega) hR.2.2.2.2.2 hK (fun z => ⟨_, rfl, ?_⟩) (fun n' hn τ C1 f g4 s18 gK zz => ⟨_, rfl, ?_⟩)
  · exact cx_210 hR (fun _ => ⟨rfl, hL⟩) (fun y => absurd y (by omega))
  · have hR1 : y_RI τ := z_fR (fun r k hr => f r k (by omega)) hR
    have e7 := f 138 7 (by omega)
    refine cx_210 hR1 (fun y => absurd y (by omega)) (fun y τ' hR2 s w7 w5 w => ?_)
    have so := y_sm_o s (by decide)
    have e3 : τ 143 = σ 143 := funext (fun m => f 143 m (by omega))
    have e3' : τ' 143 = σ 143 := funext (fun m => (y_sm_a s 143 (by decide) (by decide) m).trans (f 143 m (by omega)))
    have n7 : (τ 138 7 - 1).toNat = n' := by omega
    have n7' : (τ' 138 7).toNat = n' := by omega
    rw [n7, e3] at w
    have rc := hR.2.2.2.2.2
    have pn := rc n' (by omega)
    refine ⟨by rw [show (n' : Int) = τ 138 7 - 1 by omega], z_fC so C1, hR2, y_TL_c ((so 1 2 (by decide)).trans (f 1 2 (by omega))) (fun k => (so 2 k (by decide)).trans (f 2 k (by omega))) ((s 138 0 (by decide) (by decide)).trans (f 138 0 (by omega))) (fun k => (y_sm_a s 139 (by decide) (by decide) k).trans (f 139 k (by omega))) hT, y_PG_ex pn (fun m hm => w m (by omega)) (y_PG_fr pn (fun c k h1 h2 => so c k (by omega)) g4), ?_, ?_⟩
    · rw [w5]
      exact ⟨by rw [so 18 2 (by decide), s18]; rfl, fun i hi => absurd hi (by show ¬ i < 0; omega)⟩
    · rw [n7', e3']
      exact y_KF_fr (by omega) (fun i hi => rc i (by omega)) (fun c k h1 h2 => so c k (by omega)) gK

theorem z_p131 {E : q_E} {h : q_H} (hI : z_LI h) {n1 : Nat} (h1 : n1 < 4294967296) : q_P E (q_mt 131) [x_R 0, .inl n1] h (fun r h' => ∃ n, r = some (.inl n) ∧ x_sh h' ∧ q_P E (q_mt 184) [x_R 138, .inl n1] h' (fun r h'' => (∃ n', r = some (.inl n')) ∧ z_LI h'')) := by
  rw [z_arg h1]
  have l1 := x_s_lo n1
  have u1 := x_s_hi n1
  generalize x_s n1 = a1 at l1 u1 ⊢
  refine z_twoE hI (fun σ hL => ?_)
  obtain ⟨C0, hR, hT, h4, hS, hK⟩ := id hL
  have r5 := hR.2.2.1
  have r7 := hR.2.2.2.2.1
  have rP := hR.2.1
  have hx : ∀ τ : x_S, (∀ r k, 138 ≤ r → τ r k = σ r k) → 0 < σ 138 0 → y_tx τ = y_cx σ := fun τ f h0 => (y_tx_eq (f 138 0 (by decide)) (fun k => f 139 k (by decide))).trans (y_cx_tx hT h0).symm
  have t1 := hT.1
  have ne : σ 138 0 = 0 → ∀ l e, y_iR (y_cx σ) 0 = some (l, e) → False := fun h0 l e z => by
    have := (y_iR_i z).1.1
    unfold y_cx at this
    rw [if_neg (by omega)] at this
    omega
  have ne2 : ∀ τ : x_S, τ 138 0 = 0 → ∀ l e, y_iR (y_tx τ) 0 = some (l, e) → False := fun τ h0 l e z => by
    have := (y_iR_i z).1.1
    unfold y_tx at this
    rw [if_neg (by omega)] at this
    omega
  have r0 := hR.1
  refine kx_131_0 l1 u1 C0 rP h4 (by omega) hR.2.2.2.1 hS (fun z => ⟨_, rfl, ?_⟩) (fun z z2 => ⟨_, rfl, ?_⟩) (fun z z2 z3 τ v C1 fA g4 gS f9 _ _ => ⟨_, rfl, ?_⟩) (fun l e z z2 z3 τ C1 fA g4 gS zz => ⟨_, rfl, ?_⟩)
  · exact cx_184 l1 u1 hR (fun _ => ⟨⟨_, rfl⟩, hL⟩) (fun y => absurd y z) (fun y => absurd y z) (fun l e _ _ y => absurd (by omega) z)
  · exact cx_184 l1 u1 hR (fun y => absurd z y) (fun _ _ => ⟨⟨_, rfl⟩, hL⟩) (fun _ y => absurd z2 (by omega)) (fun l e _ _ y => absurd z2 (by omega))
  · have hR1 : y_RI τ := z_fR (fun r k hr => fA r k (by omega)) hR
    have e0 : τ 140 = σ 140 := funext (fun m => fA 140 m (by omega))
    have l0 := fA 138 0 (by omega)
    have hL1 : y_LI τ := ⟨C1, hR1, y_TL_c (fA 1 2 (by omega)) (fun k => fA 2 k (by omega)) l0 (fun k => fA 139 k (by omega)) hT, by rw [e0]; exact g4, by rw [fA 138 5 (by omega), show τ 142 = σ 142 from funext (fun m => fA 142 m (by omega))]; exact gS, by rw [fA 138 7 (by omega), show τ 143 = σ 143 from funext (fun m => fA 143 m (by omega))]; exact y_KF_fr (by omega) hR.2.2.2.2.2 (fun c k h1 h2 => fA c k (by omega)) hK⟩
    refine cx_184 l1 u1 hR1 (fun _ => ⟨⟨_, rfl⟩, hL1⟩) (fun _ _ => ⟨⟨_, rfl⟩, hL1⟩) (fun _ _ _ τ' w hR2 s => ⟨⟨_, rfl⟩, y_LI_rfree hL1 hR2 s (by decide) (by decide)⟩) (fun l e y y2 => ?_)
    by_cases h0 : 0 < σ 138 0
    · rw [hx τ (fun r k hr => fA r k (by omega)) h0] at y
      exact absurd (z3 l e y) (by omega)
    · exact absurd y (fun w => ne2 τ (by omega) l e w)
  · have hR1 : y_RI τ := z_fR (fun r k hr => fA r k (by omega)) hR
    have e0 : τ 140 = σ 140 := funext (fun m => fA 140 m (by omega))
    have l0 := fA 138 0 (by omega)
    have h0 : 0 < σ 138 0 := by
      by_cases c : 0 < σ 138 0
      · exact c
      · exact absurd z (fun w => ne (by omega) l e w)
    have ht := hx τ (fun r k hr => fA r k (by omega)) h0
    refine cx_184 l1 u1 hR1 (fun y => absurd (by rw [e0]; omega) y) (fun _ y => absurd y (by omega)) (fun _ _ y => ?_) (fun l' e' y y2 y3 τ' hR2 s N w => ?_)
    · rw [ht] at y
      exact absurd (y l e z) (by omega)
    · rw [ht, z] at y
      have y4 : l = l' := congrArg Prod.fst (Option.some.inj y)
      subst y4
      rw [e0, ht] at w
      exact ⟨⟨_, rfl⟩, y_LI_act hL C1 fA g4 (y_PI_en rP (by omega) (by omega) (y_rl_rr z).1) gS hR2 s N w⟩

theorem z_p126 {E : q_E} {h : q_H} (hI : z_LI h) {n1 n2 : Nat} (h1 : n1 < 4294967296) (h2 : n2 < 4294967296) : q_P E (q_mt 126) [x_R 0, .inl n1, .inl n2] h (fun r h' => ∃ n, r = some (.inl n) ∧ x_sh h' ∧ q_P E (q_mt 180) [x_R 138, .inl n1, .inl n2] h' (fun r h'' => r = some (.inl n) ∧ z_LI h'')) := by
  rw [z_arg h1, z_arg h2]
  have l1 := x_s_lo n1
  have u1 := x_s_hi n1
  generalize x_s n1 = a1 at l1 u1 ⊢
  have l2 := x_s_lo n2
  have u2 := x_s_hi n2
  generalize x_s n2 = a2 at l2 u2 ⊢
  refine z_two hI (fun σ hL => ?_)
  obtain ⟨C0, hR, hT, h4, hS, hK⟩ := id hL
  have r5 := hR.2.2.1
  have r7 := hR.2.2.2.2.1
  have rP := hR.2.1
  have hA := h4.1
  have em : ∀ t v : Int, 0 ≤ t → 0 ≤ v → (5 + 11 * t + v).toNat = 5 + 11 * t.toNat + v.toNat := fun t v h1 h2 => by omega
  refine kx_126_0 l1 u1 l2 u2 C0 (fun v _ _ hv => ⟨_, rfl, ?_⟩)
  have sz : 0 ≤ a1 → a1 ≤ 2 → σ 6 a1.toNat = σ 140 (2 + a1).toNat := fun h1 h2 => by
    rw [show (2 + a1).toNat = 2 + a1.toNat by omega]; exact y_PG_s hA (by omega)
  have lw : 0 ≤ a1 → a1 ≤ 2 → 0 ≤ a2 → a2 < σ 6 a1.toNat → σ 5 (a1 * 11 + a2).toNat = σ 140 (5 + 11 * a1 + a2).toNat := fun h1 h2 h3 h5 => by
    rw [em a1 a2 h1 h3, show (a1 * 11 + a2).toNat = 11 * a1.toNat + a2.toNat by omega]
    refine y_PG_l rP hA (by omega) ?_
    have := sz h1 h2
    rw [show (2 + a1).toNat = 2 + a1.toNat by omega] at this
    omega
  refine c_180 l1 u1 l2 u2 rP (fun z => ⟨?_, hL⟩) (fun z => ⟨?_, hL⟩) (fun z => ⟨?_, hL⟩) (fun z => ⟨?_, hL⟩)
  · rw [show v = -1 by omega]
  · have := sz (by omega) (by omega)
    rw [show v = σ 140 (2 + a1).toNat by omega]
  · have s1 := sz (by omega) (by omega)
    have s2 := lw (by omega) (by omega) (by omega) (by omega)
    rw [show v = σ 140 (5 + 11 * a1 + a2).toNat by omega]
  · have s1 := sz (by omega) (by omega)
    have s3 := y_szt rP (t := a1) (by omega) (by omega)
    rw [show v = -4 by omega]

theorem z_p128 {E : q_E} {h : q_H} (hI : z_LI h) {n1 n2 n3 : Nat} (h1 : n1 < 4294967296) (h2 : n2 < 4294967296) (h3 : n3 < 4294967296) : q_P E (q_mt 128) [x_R 0, .inl n1, .inl n2, .inl n3] h (fun r h' => ∃ n, r = some (.inl n) ∧ x_sh h' ∧ q_P E (q_mt 114) [x_R 138, .inl n1, .inl n2, .inl n3] h' (fun r h'' => r = some (.inl n) ∧ z_LI h'')) := by
  rw [z_arg h1, z_arg h2, z_arg h3]
  have l1 := x_s_lo n1
  have u1 := x_s_hi n1
  generalize x_s n1 = a1 at l1 u1 ⊢
  have l2 := x_s_lo n2
  have u2 := x_s_hi n2
  generalize x_s n2 = a2 at l2 u2 ⊢
  have l3 := x_s_lo n3
  have u3 := x_s_hi n3
  generalize x_s n3 = a3 at l3 u3 ⊢
  refine z_two hI (fun σ hL => ?_)
  obtain ⟨C0, hR, hT, h4, hS, hK⟩ := id hL
  have r5 := hR.2.2.1
  have r7 := hR.2.2.2.2.1
  have rP := hR.2.1
  refine kx_128_0 l1 u1 l2 u2 l3 u3 C0 (fun v _ _ hv => ⟨_, rfl, ?_⟩)
  refine c_114 l1 u1 l2 u2 l3 u3 (fun z _ _ => ⟨?_, hL⟩) (fun z => ⟨?_, hL⟩)
  · have q := y_PG_e h4.1 (m := a1) (f := a2) (e := a3) (by omega) (by omega) (by omega) (by omega) (by omega) (by omega)
    have q : σ 8 ((a1 * 5 + a2) * 4 + a3).toNat = _ := q
    rw [show v = σ 140 (y_tab a1 a2 a3).toNat by omega]
  · rw [show v = -1 by omega]

theorem z_p129 {E : q_E} {h : q_H} (hI : z_LI h) {n1 n2 : Nat} (h1 : n1 < 4294967296) (h2 : n2 < 4294967296) : q_P E (q_mt 129) [x_R 0, .inl n1, .inl n2] h (fun r h' => ∃ n, r = some (.inl n) ∧ x_sh h' ∧ q_P E (q_mt 182) [x_R 138, .inl n1, .inl n2] h' (fun r h'' => r = some (.inl n) ∧ z_LI h'')) := by
  rw [z_arg h1, z_arg h2]
  have l1 := x_s_lo n1
  have u1 := x_s_hi n1
  generalize x_s n1 = a1 at l1 u1 ⊢
  have l2 := x_s_lo n2
  have u2 := x_s_hi n2
  generalize x_s n2 = a2 at l2 u2 ⊢
  refine z_two hI (fun σ hL => ?_)
  obtain ⟨C0, hR, hT, h4, hS, hK⟩ := id hL
  have r5 := hR.2.2.1
  have r7 := hR.2.2.2.2.1
  have rP := hR.2.1
  have n6 := y_PG_n h4.1
  have c62 := rP.2.2.2.1
  have hw : ∀ c : Nat, 0 ≤ a1 → a1 < σ 140 62 → (c : Int) < 5 + σ 140 (67 + 12 * a1.toNat) → σ 9 (a1 * 12 + c).toNat = σ 140 (63 + 12 * a1 + c).toNat := fun c h1 h2 h3 => by
    rw [show (63 + 12 * a1 + (c : Int)).toNat = 63 + 12 * a1.toNat + c by omega, show (a1 * 12 + (c : Int)).toNat = 12 * a1.toNat + c by omega]
    exact y_PG_w h4.1 (by omega) h3
  have h7 : 0 ≤ a1 → a1 < σ 140 62 → 1 ≤ σ 140 (67 + 12 * a1.toNat) ∧ σ 140 (67 + 12 * a1.toNat) ≤ 7 := fun h1 h2 => y_PI_pc rP (by omega)
  refine kx_129_0 l1 u1 l2 u2 C0 (fun v _ _ hv => ⟨_, rfl, ?_⟩)
  refine c_182 l1 u1 l2 u2 rP (fun z _ _ => ⟨?_, hL⟩) (fun z => ⟨?_, hL⟩)
  · have b := h7 (by omega) (by omega)
    have q := hw a2.toNat (by omega) (by omega) (by omega)
    rw [show ((a2.toNat : Nat) : Int) = a2 by omega] at q
    rw [show v = σ 140 (63 + 12 * a1 + a2).toNat by omega]
  · rw [show v = -1 by omega]

theorem z_p130 {E : q_E} {h : q_H} (hI : z_LI h) {n1 n2 : Nat} (h1 : n1 < 4294967296) (h2 : n2 < 4294967296) : q_P E (q_mt 130) [x_R 0, .inl n1, .inl n2] h (fun r h' => ∃ n, r = some (.inl n) ∧ x_sh h' ∧ q_P E (q_mt 183) [x_R 138, .inl n1, .inl n2] h' (fun r h'' => r = some (.inl n) ∧ z_LI h'')) := by
  rw [z_arg h1, z_arg h2]
  have l1 := x_s_lo n1
  have u1 := x_s_hi n1
  generalize x_s n1 = a1 at l1 u1 ⊢
  have l2 := x_s_lo n2
  have u2 := x_s_hi n2
  generalize x_s n2 = a2 at l2 u2 ⊢
  refine z_two hI (fun σ hL => ?_)
  obtain ⟨C0, hR, hT, h4, hS, hK⟩ := id hL
  have r5 := hR.2.2.1
  have r7 := hR.2.2.2.2.1
  have rP := hR.2.1
  have n6 := y_PG_n h4.1
  have c62 := rP.2.2.2.1
  have hw : ∀ c : Nat, 0 ≤ a1 → a1 < σ 140 62 → (c : Int) < 5 + σ 140 (67 + 12 * a1.toNat) → σ 9 (a1 * 12 + c).toNat = σ 140 (63 + 12 * a1 + c).toNat := fun c h1 h2 h3 => by
    rw [show (63 + 12 * a1 + (c : Int)).toNat = 63 + 12 * a1.toNat + c by omega, show (a1 * 12 + (c : Int)).toNat = 12 * a1.toNat + c by omega]
    exact y_PG_w h4.1 (by omega) h3
  have h7 : 0 ≤ a1 → a1 < σ 140 62 → 1 ≤ σ 140 (67 + 12 * a1.toNat) ∧ σ 140 (67 + 12 * a1.toNat) ≤ 7 := fun h1 h2 => y_PI_pc rP (by omega)
  refine kx_130_0 l1 u1 l2 u2 C0 (fun v _ _ hv => ⟨_, rfl, ?_⟩)
  have s4 : 0 ≤ a1 → a1 < σ 140 62 → σ 9 (a1 * 12 + 4).toNat = σ 140 (67 + 12 * a1.toNat) ∧ σ 140 (63 + 12 * a1 + 4).toNat = σ 140 (67 + 12 * a1.toNat) := fun h1 h2 => by
    have b := h7 h1 h2
    have q := hw 4 h1 h2 (by omega)
    have e : σ 140 (63 + 12 * a1 + 4).toNat = σ 140 (67 + 12 * a1.toNat) := congrArg _ (by omega)
    exact ⟨q.trans e, e⟩
  refine c_183 l1 u1 l2 u2 rP (fun z => ⟨?_, hL⟩) (fun z _ _ => ⟨?_, hL⟩) (fun z => ⟨?_, hL⟩)
  · rw [show v = -1 by omega]
  · have b := h7 (by omega) (by omega)
    have q4 := s4 (by omega) (by omega)
    have q := hw (5 + a2.toNat) (by omega) (by omega) (by omega)
    have e1 : σ 9 (a1 * 12 + ((5 + a2.toNat : Nat) : Int)).toNat = σ 9 (a1 * 12 + 5 + a2).toNat := congrArg _ (by omega)
    have e2 : σ 140 (63 + 12 * a1 + ((5 + a2.toNat : Nat) : Int)).toNat = σ 140 (63 + 12 * a1 + (5 + a2)).toNat := congrArg _ (by omega)
    rw [show v = σ 140 (63 + 12 * a1 + (5 + a2)).toNat by omega]
  · have b := h7 (by omega) (by omega)
    have q4 := s4 (by omega) (by omega)
    rw [show v = -4 by omega]

theorem z_p168 {E : q_E} {h : q_H} (hI : z_LI h) {n1 : Nat} (h1 : n1 < 4294967296) : q_P E (q_mt 168) [x_R 0, .inl n1] h (fun r h' => ∃ n, r = some (.inl n) ∧ x_sh h' ∧ q_P E (q_mt 211) [x_R 138, .inl n1] h' (fun r h'' => r = some (.inl n) ∧ z_LI h'')) := by
  rw [z_arg h1]
  have l1 := x_s_lo n1
  have u1 := x_s_hi n1
  generalize x_s n1 = a1 at l1 u1 ⊢
  refine z_two hI (fun σ hL => ?_)
  obtain ⟨C0, hR, hT, h4, hS, hK⟩ := id hL
  have r5 := hR.2.2.1
  have r7 := hR.2.2.2.2.1
  have rP := hR.2.1
  have s1 := hS.1
  have s2 := hK.2.1
  have t1 := hT.1
  have ks : ∀ v w : Int, v = w → a1 = a1 → x_P E 211 [x_R 138, x_I a1] σ (fun r τ' => r = some (x_I w) ∧ y_LI τ') → x_P E 211 [x_R 138, x_I a1] σ (fun r τ' => r = some (x_I v) ∧ y_LI τ') := fun v w e _ k => by rw [e]; exact k
  have go : ∀ v : Int, (a1 = 0 → v = σ 140 62) → (a1 = 1 → v = y_ro (σ 140) 0 (σ 140 62).toNat) → (a1 = 2 → v = y_ro (σ 140) 1 (σ 140 62).toNat) → (a1 = 3 → v = σ 140 0) → (a1 = 4 → v = σ 140 1) → (a1 = 5 → v = σ 140 2 + σ 140 3 + σ 140 4) → (a1 = 6 → v = σ 138 5) → (a1 = 7 → v = σ 138 7) → (a1 = 8 → v = σ 138 0) → (¬ (0 ≤ a1 ∧ a1 ≤ 8) → v = -1) → x_P E 211 [x_R 138, x_I a1] σ (fun r τ' => r = some (x_I v) ∧ y_LI τ') := fun v q0 q1 q2 q3 q4 q5 q6 q7 q8 q9 => cx_211 l1 u1 rP (fun z => ⟨by rw [q0 z], hL⟩) (fun z => ⟨by rw [q1 z], hL⟩) (fun z => ⟨by rw [q2 z], hL⟩) (fun z => ⟨by rw [q3 z], hL⟩) (fun z => ⟨by rw [q4 z], hL⟩) (fun z => ⟨by rw [q5 z], hL⟩) (fun z => ⟨by rw [q6 z], hL⟩) (fun z => ⟨by rw [q7 z], hL⟩) (fun z => ⟨by rw [q8 z], hL⟩) (fun z => ⟨by rw [q9 z], hL⟩)
  refine kx_168_0 l1 u1 C0 rP h4.1 ?_ ?_ ?_ ?_ ?_ ?_ ?_ ?_ ?_ ?_
  all_goals
    intro z
    refine ⟨_, rfl, go _ ?_ ?_ ?_ ?_ ?_ ?_ ?_ ?_ ?_ ?_⟩
    all_goals
      intro y
      first
        | rfl
        | omega

theorem z_p156 {E : q_E} {h : q_H} (hI : z_LI h) {n1 n2 : Nat} (h1 : n1 < 4294967296) (h2 : n2 < 4294967296) : q_P E (q_mt 156) [x_R 0, .inl n1, .inl n2] h (fun r h' => ∃ n, r = some (.inl n) ∧ x_sh h' ∧ q_P E (q_mt 197) [x_R 138, .inl n1, .inl n2] h' (fun r h'' => r = some (.inl n) ∧ z_LI h'')) := by
  rw [z_arg h1, z_arg h2]
  have l1 := x_s_lo n1
  have u1 := x_s_hi n1
  generalize x_s n1 = a1 at l1 u1 ⊢
  have l2 := x_s_lo n2
  have u2 := x_s_hi n2
  generalize x_s n2 = a2 at l2 u2 ⊢
  refine z_two hI (fun σ hL => ?_)
  obtain ⟨C0, hR, hT, h4, hS, hK⟩ := id hL
  have r5 := hR.2.2.1
  have r7 := hR.2.2.2.2.1
  have rP := hR.2.1
  refine kx_156_0 l1 u1 l2 u2 C0 rP h4.1 (fun z => ⟨_, rfl, ?_⟩) (fun z z2 => ⟨_, rfl, ?_⟩)
  · exact cx_197 l1 u1 l2 u2 rP (fun _ => ⟨rfl, hL⟩) (fun y y2 => absurd ⟨y, y2⟩ z)
  · exact cx_197 l1 u1 l2 u2 rP (fun y => absurd ⟨z, z2⟩ y) (fun _ _ => ⟨rfl, hL⟩)
