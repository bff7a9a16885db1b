/-! what every call keeps -/
/-- both texts are the same -/
def y_TL (σ : x_S) : Prop := σ 1 2 = σ 138 0 ∧ ∀ k : Nat, (k : Int) < σ 138 0 → σ 2 k = σ 139 k
/-- both programs, what was noted and kept of them, are the same -/
def y_RL (σ : x_S) : Prop := y_PG σ 4 (σ 140) ∧ y_SF σ (σ 138 5).toNat (fun i m => σ 142 (256 * i + m)) ∧ y_KF σ (σ 138 7).toNat (fun i m => σ 143 (256 * i + m))
def y_LI (σ : x_S) : Prop := y_CI σ ∧ y_RI σ ∧ y_TL σ ∧ y_RL σ
def z_LI (h : q_H) : Prop := x_sh h ∧ y_LI (x_g h)
theorem z_arg {n : Nat} (h : n < 4294967296) : (Sum.inl n : q_V) = x_I (x_s n) := by
  show Sum.inl n = Sum.inl (x_c (x_s n))
  rw [x_cs, Nat.mod_eq_of_lt h]
def z_R (r : Option q_V) (h' : q_H) : Prop := (∃ n, r = some (.inl n)) ∧ z_LI h'
theorem z_fR {σ τ : x_S} (f : ∀ r k, 138 ≤ r → τ r k = σ r k) (hR : y_RI σ) : y_RI τ := y_RI_ext (f 138 0 (by decide)) (f 138 5 (by decide)) (f 138 7 (by decide)) (fun k => f 140 k (by decide)) (fun k => f 142 k (by decide)) (fun k => f 143 k (by decide)) hR
theorem z_fC {σ τ : x_S} (f : ∀ r k, r < 138 → τ r k = σ r k) (C : y_CI σ) : y_CI τ := fun r k a b c => by rw [f r k a]; exact C r k a b c
theorem y_TL_c {σ τ : x_S} (f2 : τ 1 2 = σ 1 2) (f : ∀ k, τ 2 k = σ 2 k) (g0 : τ 138 0 = σ 138 0) (g : ∀ k, τ 139 k = σ 139 k) (h : y_TL σ) : y_TL τ := by
  refine ⟨by rw [f2, g0]; exact h.1, fun k hk => ?_⟩
  rw [g0] at hk
  rw [f k, g k]
  exact h.2 k hk
theorem y_sm_o {L F : List Nat} {σ τ : x_S} (h : y_sm L F σ τ) (hL : ∀ r, r ∈ L → 138 ≤ r) : ∀ r k, r < 138 → τ r k = σ r k := fun r k hr => h r k (fun z => absurd (hL r z) (by omega)) (fun z => absurd z (by omega))
/-- the relation hangs on these cells alone -/
theorem y_RL_fr {σ τ : x_S} (hR : y_RI σ) (f : ∀ c k, 4 ≤ c → c < 92 → ¬ (11 ≤ c ∧ c < 18) → τ c k = σ c k) (g5 : τ 138 5 = σ 138 5) (g7 : τ 138 7 = σ 138 7) (g0 : ∀ k, τ 140 k = σ 140 k) (g2 : ∀ k, τ 142 k = σ 142 k) (g3 : ∀ k, τ 143 k = σ 143 k) (h : y_RL σ) : y_RL τ := by
  obtain ⟨rl, rp, ru, rb, rk, rc⟩ := hR
  obtain ⟨h4, hS, hK⟩ := h
  have e0 : τ 140 = σ 140 := funext g0
  have e2 : τ 142 = σ 142 := funext g2
  have e3 : τ 143 = σ 143 := funext g3
  unfold y_RL
  rw [g5, g7, e0, e2, e3]
  exact ⟨y_PG_fr rp (fun c k h1 h2 => f c k (by omega) (by omega) (by omega)) h4, y_SF_fr rb (fun c k h1 h2 => f c k (by omega) (by omega) (by omega)) hS, y_KF_fr (by omega) rc (fun c k h1 h2 => f c k (by omega) (by omega) (by omega)) hK⟩
/-- what the class works out at a question -/
theorem y_LI_q {σ τ : x_S} (h : y_LI σ) (C : y_CI τ) (f : ∀ r k, (r < 92 ∨ 138 ≤ r) → τ r k = σ r k) : y_LI τ := by
  obtain ⟨C0, hR, hT, hL⟩ := h
  exact ⟨C, z_fR (fun r k hr => f r k (Or.inr hr)) hR, y_TL_c (f 1 2 (by decide)) (fun k => f 2 k (by omega)) (f 138 0 (by decide)) (fun k => f 139 k (by omega)) hT, y_RL_fr hR (fun c k h1 h2 _ => f c k (by omega)) (f 138 5 (by decide)) (f 138 7 (by decide)) (fun k => f 140 k (by omega)) (fun k => f 142 k (by omega)) (fun k => f 143 k (by omega)) hL⟩
/-- what the reference works out at a question -/
theorem y_LI_r {σ τ : x_S} (h : y_LI σ) (f : y_rf σ τ) : y_LI τ := by
  obtain ⟨C0, hR, hT, hL⟩ := h
  have g : ∀ r k, r < 145 → r ≠ 138 → τ r k = σ r k := fun r k h1 h2 => f r k h1 (fun z => absurd z h2)
  exact ⟨z_fC (fun r k hr => g r k (by omega) (by omega)) C0, y_rf_RI f hR, y_TL_c (g 1 2 (by decide) (by decide)) (fun k => g 2 k (by decide) (by decide)) (f 138 0 (by decide) (fun _ => by decide)) (fun k => g 139 k (by decide) (by decide)) hT, y_RL_fr hR (fun c k h1 h2 _ => g c k (by omega) (by omega)) (f 138 5 (by decide) (fun _ => by decide)) (f 138 7 (by decide) (fun _ => by decide)) (fun k => g 140 k (by decide) (by decide)) (fun k => g 142 k (by decide) (by decide)) (fun k => g 143 k (by decide) (by decide)) hL⟩
theorem z_cls {E : q_E} {j : Nat} {as : List q_V} {h : q_H} (hI : z_LI h) (hP : ∀ Q : Option q_V → x_S → Prop, (∀ (τ : x_S) (v : Int), y_CI τ → (∀ r k, (r < 92 ∨ 138 ≤ r) → τ r k = x_g h r k) → Q (some (x_I v)) τ) → x_P E j as (x_g h) Q) : q_P E (q_mt j) as h z_R := by
  have P := hP (fun r τ => (∃ n, r = some (.inl n)) ∧ y_LI τ) (fun τ v C f => ⟨⟨_, rfl⟩, y_LI_q hI.2 C f⟩) h hI.1 rfl
  exact q_P_mono (fun r h' z => ⟨z.2.1, z.1, z.2.2⟩) P
theorem z_ref {E : q_E} {j : Nat} {as : List q_V} {h : q_H} (hI : z_LI h) (hP : ∀ Q : Option q_V → x_S → Prop, (∀ (τ : x_S) (v : Int), y_rf (x_g h) τ → Q (some (x_I v)) τ) → x_P E j as (x_g h) Q) : q_P E (q_mt j) as h z_R := by
  have P := hP (fun r τ => (∃ n, r = some (.inl n)) ∧ y_LI τ) (fun τ v f => ⟨⟨_, rfl⟩, y_LI_r hI.2 f⟩) h hI.1 rfl
  exact q_P_mono (fun r h' z => ⟨z.2.1, z.1, z.2.2⟩) P
/-- two calls one behind the other, with the same answer -/
theorem z_two {E : q_E} {j1 j2 : Nat} {as1 as2 : List q_V} {h : q_H} (hI : z_LI h) (P : ∀ σ, y_LI σ → x_P E j1 as1 σ (fun r τ => ∃ v, r = some (x_I v) ∧ x_P E j2 as2 τ (fun r τ' => r = some (x_I v) ∧ y_LI τ'))) : q_P E (q_mt j1) as1 h (fun r h' => ∃ n, r = some (.inl n) ∧ x_sh h' ∧ q_P E (q_mt j2) as2 h' (fun r h'' => r = some (.inl n) ∧ z_LI h'')) := by
  refine q_P_mono (fun r h' z => ?_) (P (x_g h) hI.2 h hI.1 rfl)
  obtain ⟨z1, v, z2, z3⟩ := z
  refine ⟨_, z2, z1, q_P_mono (fun r h'' w => ?_) (z3 h' z1 rfl)⟩
  exact ⟨w.2.1, w.1, w.2.2⟩
/-- two calls one behind the other, with some answers -/
theorem z_twoE {E : q_E} {j1 j2 : Nat} {as1 as2 : List q_V} {h : q_H} (hI : z_LI h) (P : ∀ σ, y_LI σ → x_P E j1 as1 σ (fun r τ => ∃ v, r = some (x_I v) ∧ x_P E j2 as2 τ (fun r τ' => (∃ w, r = some (x_I w)) ∧ y_LI τ'))) : q_P E (q_mt j1) as1 h (fun r h' => ∃ n, r = some (.inl n) ∧ x_sh h' ∧ q_P E (q_mt j2) as2 h' (fun r h'' => (∃ n', r = some (.inl n')) ∧ z_LI h'')) := by
  refine q_P_mono (fun r h' z => ?_) (P (x_g h) hI.2 h hI.1 rfl)
  obtain ⟨z1, v, z2, z3⟩ := z
  refine ⟨_, z2, z1, q_P_mono (fun r h'' w => ?_) (z3 h' z1 rfl)⟩
  obtain ⟨w1, ⟨w2, w3⟩, w4⟩ := w
  exact ⟨⟨_, w3⟩, w1, w4⟩
/-- both have acted: noted the program, changed it alike -/
theorem y_LI_act {σ τ τ' : x_S} {A' : Nat → Int} (hL : y_LI σ) (C1 : y_CI τ) (fA : y_fA σ τ) (g4 : y_PG τ 4 A') (hP' : y_PI A') (gS : y_SF τ (y_pn (σ 138 5).toNat) (y_psh (σ 138 5).toNat (fun i m => σ 142 (256 * i + m)) (σ 140))) (hR2 : y_RI τ') (s : y_sm [140, 142, 144] [5, 8] τ τ') (N : y_NT τ τ') (w : y_AG (τ' 140) A') : y_LI τ' := by
  obtain ⟨C0, hR, hT, h4, hS, hK⟩ := hL
  obtain ⟨rl, rp, ru, rb, rk, rc⟩ := hR
  have so := y_sm_o s (by decide)
  have N2 := y_NT_st N (fA 138 5 (by omega)) (fun m => fA 142 m (by omega)) (fun m => fA 140 m (by omega))
  have n5 : (τ' 138 5).toNat = y_pn (σ 138 5).toNat := by rw [N2.1]; omega
  have PP := y_psh_P (by omega) rp rb
  have t7 : τ' 138 7 = σ 138 7 := (s 138 7 (by decide) (by decide)).trans (fA 138 7 (by omega))
  have t3 : ∀ k, τ' 143 k = σ 143 k := fun k => (y_sm_a s 143 (by decide) (by decide) k).trans (fA 143 k (by omega))
  have e3 : τ' 143 = σ 143 := funext t3
  refine ⟨z_fC so C1, hR2, y_TL_c ((so 1 2 (by decide)).trans (fA 1 2 (by omega))) (fun k => (so 2 k (by decide)).trans (fA 2 k (by omega))) ((s 138 0 (by decide) (by decide)).trans (fA 138 0 (by omega))) (fun k => (y_sm_a s 139 (by decide) (by decide) k).trans (fA 139 k (by omega))) hT, y_PG_ag hP' w (y_PG_fr hP' (fun c k h1 h2 => so c k (by omega)) g4), ?_, ?_⟩
  · rw [n5]
    have q := y_SF_fr PP (fun c k h1 h2 => so c k (by omega)) gS
    exact ⟨q.1, fun i hi => y_PG_ex (PP i hi) (fun m hm => N2.2 i hi m (by omega)) (q.2 i hi)⟩
  · rw [t7, e3]
    exact y_KF_fr (by omega) rc (fun c k h1 h2 => (so c k (by omega)).trans (fA c k (by omega))) hK
/-- the class alone has changed what is free -/
theorem y_LI_free {σ τ : x_S} (h : y_LI σ) (C : y_CI τ) (f : ∀ r k, (r = 0 ∨ r = 2 ∨ (r = 1 ∧ k ≠ 3 ∧ k ≠ 4) ∨ (4 ≤ r ∧ r < 11) ∨ (18 ≤ r ∧ r < 92) ∨ 138 ≤ r) → τ r k = σ r k) : y_LI τ := by
  obtain ⟨C0, hR, hT, hL⟩ := h
  exact ⟨C, z_fR (fun r k hr => f r k (by omega)) hR, y_TL_c (f 1 2 (by omega)) (fun k => f 2 k (by omega)) (f 138 0 (by omega)) (fun k => f 139 k (by omega)) hT, y_RL_fr hR (fun c k h1 h2 h3 => f c k (by omega)) (f 138 5 (by omega)) (f 138 7 (by omega)) (fun k => f 140 k (by omega)) (fun k => f 142 k (by omega)) (fun k => f 143 k (by omega)) hL⟩
/-- the reference alone has changed what is free -/
theorem y_LI_rfree {L F : List Nat} {σ τ : x_S} (h : y_LI σ) (hR2 : y_RI τ) (s : y_sm L F σ τ) (hL : ∀ r, r ∈ L → 138 < r ∧ r ≠ 139 ∧ r ≠ 140 ∧ r ≠ 142 ∧ r ≠ 143) (hF : ∀ k, k ∈ F → k ≠ 0 ∧ k ≠ 5 ∧ k ≠ 7) : y_LI τ := by
  obtain ⟨C0, hR, hT, hA⟩ := h
  have so : ∀ r k, r < 138 → τ r k = σ r k := fun r k hr => s r k (fun z => absurd (hL r z).1 (by omega)) (fun z => absurd z (by omega))
  have sc : ∀ r k, (r = 139 ∨ r = 140 ∨ r = 142 ∨ r = 143) → τ r k = σ r k := fun r k hr => s r k (fun z => by have := hL r z; omega) (fun z => absurd z (by omega))
  have sf : ∀ k, (k = 0 ∨ k = 5 ∨ k = 7) → τ 138 k = σ 138 k := fun k hk => s 138 k (fun z => by have := hL 138 z; omega) (fun _ z => by have := hF k z; omega)
  exact ⟨z_fC so C0, hR2, y_TL_c (so 1 2 (by decide)) (fun k => so 2 k (by decide)) (sf 0 (by omega)) (fun k => sc 139 k (by omega)) hT, y_RL_fr hR (fun c k h1 h2 _ => so c k (by omega)) (sf 5 (by omega)) (sf 7 (by omega)) (fun k => sc 140 k (by omega)) (fun k => sc 142 k (by omega)) (fun k => sc 143 k (by omega)) hA⟩
theorem y_RI_len {L F : List Nat} {σ τ : x_S} (f : y_sm L F σ τ) (hL : 138 ∉ L ∧ 140 ∉ L ∧ 142 ∉ L ∧ 143 ∉ L) (hF : 5 ∉ F ∧ 7 ∉ F) (h0 : 0 ≤ τ 138 0 ∧ τ 138 0 ≤ 200) (hR : y_RI σ) : y_RI τ := by
  obtain ⟨r1, r2, r3, r4, r5, r6⟩ := hR
  have e5 := f 138 5 hL.1 (fun _ => hF.1)
  have e7 := f 138 7 hL.1 (fun _ => hF.2)
  refine ⟨h0, y_PI_ext (fun k _ => (y_sm_a f 140 hL.2.1 (by decide) k).symm) r2, by rw [e5]; exact r3, fun u hu => ?_, by rw [e7]; exact r5, fun u hu => ?_⟩
  · rw [e5] at hu
    exact y_PI_ext (fun k _ => (y_sm_a f 142 hL.2.2.1 (by decide) _).symm) (r4 u hu)
  · rw [e7] at hu
    exact y_PI_ext (fun k _ => (y_sm_a f 143 hL.2.2.2 (by decide) _).symm) (r6 u hu)
/-- both texts changed, nothing else -/
theorem y_LI_text {L F : List Nat} {σ τ τ' : x_S} (h : y_LI σ) (C1 : y_CI τ) (f : ∀ r k, 3 ≤ r → τ r k = σ r k) (s : y_sm L F τ τ') (hL : ∀ r, r ∈ L → r = 139) (hF : ∀ k, k ∈ F → k = 0) (h0 : 0 ≤ τ' 138 0 ∧ τ' 138 0 ≤ 200) (hT : y_TL τ') : y_LI τ' := by
  obtain ⟨C0, hR, hT0, hA⟩ := h
  have so : ∀ r k, r < 138 → τ' r k = τ r k := fun r k hr => s r k (fun z => by have := hL r z; omega) (fun z => absurd z (by omega))
  have sc : ∀ r k, 140 ≤ r → τ' r k = τ r k := fun r k hr => s r k (fun z => by have := hL r z; omega) (fun z => absurd z (by omega))
  have sf : ∀ k, k ≠ 0 → τ' 138 k = τ 138 k := fun k hk => s 138 k (fun z => by have := hL 138 z; omega) (fun _ z => hk (hF k z))
  have n138 : 138 ∉ L := fun z => by have := hL 138 z; omega
  refine ⟨z_fC so C1, y_RI_len s ⟨n138, fun z => by have := hL 140 z; omega, fun z => by have := hL 142 z; omega, fun z => by have := hL 143 z; omega⟩ ⟨fun z => by have := hF 5 z; omega, fun z => by have := hF 7 z; omega⟩ h0 (z_fR (fun r k hr => f r k (by omega)) hR), hT, y_RL_fr hR (fun c k h1 h2 _ => (so c k (by omega)).trans (f c k (by omega))) ((sf 5 (by decide)).trans (f 138 5 (by decide))) ((sf 7 (by decide)).trans (f 138 7 (by decide))) (fun k => (sc 140 k (by decide)).trans (f 140 k (by decide))) (fun k => (sc 142 k (by decide)).trans (f 142 k (by decide))) (fun k => (sc 143 k (by decide)).trans (f 143 k (by decide))) hA⟩
theorem z_p121 {E : q_E} {h : q_H} (hI : z_LI h) {n1 : Nat} (h1 : n1 < 4294967296) : q_P E (q_mt 121) [x_R 0, .inl n1] h (fun r h' => ∃ n, r = some (.inl n) ∧ x_sh h' ∧ q_P E (q_mt 171) [x_R 138, .inl n1] h' (fun r h'' => r = some (.inl n) ∧ z_LI h'')) := by
  rw [z_arg h1]
  have a1 := x_s_lo n1
  have a2 := x_s_hi n1
  generalize x_s n1 = a at a1 a2 ⊢
  refine z_two hI (fun σ hL => ?_)
  obtain ⟨C0, hR, hT, hA⟩ := id hL
  have hl := hR.1
  have t1 := hT.1
  refine kw_121 a1 a2 C0 (fun z => ⟨_, rfl, ?_⟩) (fun z z2 => ⟨_, rfl, ?_⟩) (fun z z2 τ C f e1 e2 e3 => ⟨_, rfl, ?_⟩)
  · exact c_171 a1 a2 hl.1 hl.2 (fun _ => ⟨rfl, hL⟩) (fun y => absurd y z) (fun y => absurd y z)
  · exact c_171 a1 a2 hl.1 hl.2 (fun y => absurd z y) (fun _ _ => ⟨rfl, hL⟩) (fun _ y => absurd (by omega) y)
  · have l0 := f 138 0 (by decide)
    refine c_171 a1 a2 (by omega) (by omega) (fun y => absurd z y) (fun _ y => absurd y (by omega)) (fun _ _ τ' g g1 g2 g3 => ⟨by rw [l0, t1], y_LI_text hL C f g (by decide) (by decide) (by omega) ⟨?_, fun k hk => ?_⟩⟩)
    · rw [y_sm_o g (by decide) 1 2 (by decide)]; omega
    · rw [y_sm_o g (by decide) 2 k (by decide)]
      have et : (τ 138 0).toNat = (σ 1 2).toNat := by omega
      rw [et] at g2 g3
      by_cases c : k = (σ 1 2).toNat
      · rw [c, e2, g2]
      · rw [e3 k c, g3 k c, f 139 k (by omega)]
        exact hT.2 k (by omega)
theorem z_p122 {E : q_E} {h : q_H} (hI : z_LI h) : q_P E (q_mt 122) [x_R 0] h (fun r h' => ∃ n, r = some (.inl n) ∧ x_sh h' ∧ q_P E (q_mt 172) [x_R 138] h' (fun r h'' => r = some (.inl n) ∧ z_LI h'')) := by
  refine z_two hI (fun σ hL => ?_)
  obtain ⟨C0, hR, hT, hA⟩ := id hL
  refine kw_122 C0 (fun τ C f e1 e2 => ⟨_, rfl, c_172 (fun τ' g e => ⟨by rw [f 138 0 (by decide), hT.1], y_LI_text hL C f g (by decide) (by decide) (by rw [e]; decide) ⟨?_, fun k hk => ?_⟩⟩)⟩)
  · rw [y_sm_o g (by decide) 1 2 (by decide), e1, e]
  · rw [e] at hk; omega
theorem y_cx_tx {σ : x_S} (h : y_TL σ) (h0 : 0 < σ 138 0) : y_cx σ = y_tx σ := by
  funext k
  unfold y_cx y_tx
  rw [h.1]
  by_cases c : k < σ 138 0
  · rw [if_pos c, if_pos c]
    exact h.2 k.toNat (by omega)
  · rw [if_neg c, if_neg c]
theorem y_rs_eq {σ : x_S} (h : y_TL σ) : y_rs (y_cx σ) (σ 1 2) = y_rs (y_tx σ) (σ 138 0) := by
  rw [h.1]
  by_cases c : 0 < σ 138 0
  · rw [y_cx_tx h c]
  · unfold y_rs
    rw [y_run_e c, y_run_e c]
theorem y_tx_eq {σ τ : x_S} (f0 : τ 138 0 = σ 138 0) (f : ∀ k, τ 139 k = σ 139 k) : y_tx τ = y_tx σ := by
  funext k
  unfold y_tx
  rw [f0, f]
theorem z_p123 {E : q_E} {h : q_H} (hI : z_LI h) : q_P E (q_mt 123) [x_R 0] h (fun r h' => ∃ n, r = some (.inl n) ∧ x_sh h' ∧ q_P E (q_mt 173) [x_R 138] h' (fun r h'' => r = some (.inl n) ∧ z_LI h'')) := by
  refine z_two hI (fun σ hL => ?_)
  obtain ⟨C0, hR, hT, hA⟩ := id hL
  refine ke_123 C0 (fun τ C f => ⟨_, rfl, ?_⟩)
  have hL1 : y_LI τ := y_LI_free hL C (fun r k hr => f r k (by omega))
  have hR1 := hL1.2.1
  refine ce_173 hR1.1.1 hR1.1.2 (fun τ' g => ⟨?_, y_LI_rfree hL1 (y_RI_sm g (by decide) (by decide) hR1) g (by decide) (by decide)⟩)
  rw [← y_rs_eq hL1.2.2.1, y_fi_x f, f 1 2 (by decide)]
theorem z_p124 {E : q_E} {h : q_H} (hI : z_LI h) : q_P E (q_mt 124) [x_R 0] h (fun r h' => ∃ n, r = some (.inl n) ∧ x_sh h' ∧ q_P E (q_mt 179) [x_R 138] h' (fun r h'' => r = some (.inl n) ∧ z_LI h'')) := by
  refine z_two hI (fun σ hL => ?_)
  obtain ⟨C0, hR, hT, h4, hS, hK⟩ := id hL
  have e := y_rs_eq hT
  refine kx_124_0 C0 (fun z τ C f => ⟨_, rfl, ?_⟩) (fun z z2 hP τ C f g4 s18 s76 s1 _ => ⟨_, rfl, ?_⟩)
  · have hL1 : y_LI τ := y_LI_free hL C (fun r k hr => f r k (by omega))
    have et : y_rs (y_tx τ) (τ 138 0) = y_rs (y_cx σ) (σ 1 2) := by rw [y_tx_eq (f 138 0 (by omega)) (fun k => f 139 k (by omega)), f 138 0 (by omega), e]
    refine cx_179 hL1.2.1 (fun _ τ' hR2 g => ⟨rfl, y_LI_rfree hL1 hR2 g (by decide) (by decide)⟩) (fun y y2 => ?_)
    rw [et] at y y2
    exact absurd z (by omega)
  · have hR1 : y_RI τ := z_fR (fun r k hr => f r k (by omega)) hR
    have et : y_rs (y_tx τ) (τ 138 0) = y_rs (y_cx σ) (σ 1 2) := by rw [y_tx_eq (f 138 0 (by omega)) (fun k => f 139 k (by omega)), f 138 0 (by omega), e]
    refine cx_179 hR1 (fun y => ?_) (fun y y2 τ' hR2 g w w5 w7 => ⟨by rw [et], ?_⟩)
    · rw [et] at y
      exact absurd y (by omega)
    · rw [et] at w
      have so := y_sm_o g (by decide)
      have k1 := hK.1
      refine ⟨z_fC so C, hR2, y_TL_c ((so 1 2 (by decide)).trans (f 1 2 (by omega))) (fun k => (so 2 k (by decide)).trans (f 2 k (by omega))) ((g 138 0 (by decide) (by decide)).trans (f 138 0 (by omega))) (fun k => (y_sm_a g 139 (by decide) (by decide) k).trans (f 139 k (by omega))) hT, y_PG_ag hP w (y_PG_fr hP (fun c k h1 h2 => so c k (by omega)) g4), ?_, ?_⟩
      · rw [w5]
        exact ⟨by rw [so 18 2 (by decide), s18]; rfl, fun i hi => absurd hi (by show ¬ i < 0; omega)⟩
      · rw [w7]
        exact ⟨by rw [so 76 1 (by decide), s1]; exact k1, by rw [so 76 2 (by decide), s76]; rfl, fun i hi => absurd hi (by show ¬ i < 0; omega)⟩
