/-! what every call keeps -/
/-- both texts are the same -/
def y_TL (σ : x_S) : Prop := σ 1 2 = σ 138 0 ∧ ∀ k : Nat, (k : Int) < σ 138 0 → σ 2 k = σ 139 k
def y_LI (σ : x_S) : Prop := y_CI σ ∧ y_RI σ ∧ y_TL σ
def z_LI (h : q_H) : Prop := x_sh h ∧ y_LI (x_g h)
theorem z_arg {n : Nat} (h : n < 4294967296) : (Sum.inl n : q_V) = x_I (x_s n) := by
  show Sum.inl n = Sum.inl (x_c (x_s n))
  rw [x_cs, Nat.mod_eq_of_lt h]
def z_R (r : Option q_V) (h' : q_H) : Prop := (∃ n, r = some (.inl n)) ∧ z_LI h'
theorem z_fR {σ τ : x_S} (f : ∀ r k, 138 ≤ r → τ r k = σ r k) (hR : y_RI σ) : y_RI τ := y_RI_ext (f 138 0 (by decide)) (f 138 5 (by decide)) (f 138 7 (by decide)) (fun k => f 140 k (by decide)) (fun k => f 142 k (by decide)) (fun k => f 143 k (by decide)) hR
theorem z_fC {σ τ : x_S} (f : ∀ r k, r < 138 → τ r k = σ r k) (C : y_CI σ) : y_CI τ := fun r k a b c => by rw [f r k a]; exact C r k a b c
theorem y_TL_c {σ τ : x_S} (f : y_fr σ τ) (h : y_TL σ) : y_TL τ := by
  refine ⟨by rw [f 1 2 (by decide), f 138 0 (by decide)]; exact h.1, fun k hk => ?_⟩
  rw [f 138 0 (by decide)] at hk
  rw [f 2 k (by omega), f 139 k (by omega)]
  exact h.2 k hk
theorem y_TL_r {σ τ : x_S} (f : ∀ r k, (r < 138 ∨ r = 139) → τ r k = σ r k) (f0 : τ 138 0 = σ 138 0) (h : y_TL σ) : y_TL τ := by
  refine ⟨by rw [f 1 2 (by decide), f0]; exact h.1, fun k hk => ?_⟩
  rw [f0] at hk
  rw [f 2 k (by omega), f 139 k (by omega)]
  exact h.2 k hk
theorem z_cls {E : q_E} {j : Nat} {as : List q_V} {h : q_H} (hI : z_LI h) (hP : ∀ Q : Option q_V → x_S → Prop, (∀ (τ : x_S) (v : Int), y_CI τ → y_fr (x_g h) τ → Q (some (x_I v)) τ) → x_P E j as (x_g h) Q) : q_P E (q_mt j) as h z_R := by
  have P := hP (fun r τ => (∃ n, r = some (.inl n)) ∧ y_CI τ ∧ y_fr (x_g h) τ) (fun τ v C f => ⟨⟨_, rfl⟩, C, f⟩) h hI.1 rfl
  refine q_P_mono (fun r h' z => ?_) P
  obtain ⟨z1, z2, z3, z4⟩ := z
  exact ⟨z2, z1, z3, z_fR (fun r k hr => z4 r k (by omega)) hI.2.2.1, y_TL_c z4 hI.2.2.2⟩
theorem z_ref {E : q_E} {j : Nat} {as : List q_V} {h : q_H} (hI : z_LI h) (hP : ∀ Q : Option q_V → x_S → Prop, (∀ (τ : x_S) (v : Int), y_RI τ → (∀ r k, (r < 138 ∨ r = 139) → τ r k = x_g h r k) → τ 138 0 = x_g h 138 0 → Q (some (x_I v)) τ) → x_P E j as (x_g h) Q) : q_P E (q_mt j) as h z_R := by
  have P := hP (fun r τ => (∃ n, r = some (.inl n)) ∧ y_RI τ ∧ (∀ r k, (r < 138 ∨ r = 139) → τ r k = x_g h r k) ∧ τ 138 0 = x_g h 138 0) (fun τ v C f g => ⟨⟨_, rfl⟩, C, f, g⟩) h hI.1 rfl
  refine q_P_mono (fun r h' z => ?_) P
  obtain ⟨z1, z2, z3, z4, z5⟩ := z
  exact ⟨z2, z1, z_fC (fun r k hr => z4 r k (Or.inl hr)) hI.2.1, z3, y_TL_r z4 z5 hI.2.2.2⟩
/-- two calls one behind the other -/
theorem z_pair {E : q_E} {j1 j2 : Nat} {as1 as2 : List q_V} {h : q_H} {G : Int → x_S → Prop} (hI : z_LI h) (P1 : x_P E j1 as1 (x_g h) (fun r τ => ∃ v, r = some (x_I v) ∧ G v τ)) (P2 : ∀ (v : Int) (τ : x_S), G v τ → x_P E j2 as2 τ (fun r τ' => r = some (x_I v) ∧ y_LI τ')) : q_P E (q_mt j1) as1 h (fun r h' => ∃ n, r = some (.inl n) ∧ x_sh h' ∧ q_P E (q_mt j2) as2 h' (fun r h'' => r = some (.inl n) ∧ z_LI h'')) := by
  refine q_P_mono (fun r h' z => ?_) (P1 h hI.1 rfl)
  obtain ⟨z1, v, z2, z3⟩ := z
  refine ⟨_, z2, z1, q_P_mono (fun r h'' w => ?_) (P2 v _ z3 h' z1 rfl)⟩
  exact ⟨w.2.1, w.1, w.2.2⟩
/-- what write answers, how long the text is then -/
def y_wr (a l : Int) : Int := if 32 ≤ a ∧ a ≤ 126 then (if l < 200 then l + 1 else -3) else -1
theorem y_RI_len {L F : List Nat} {σ τ : x_S} (f : y_sm L F σ τ) (hL : 138 ∉ L ∧ 140 ∉ L ∧ 142 ∉ L ∧ 143 ∉ L) (hF : 5 ∉ F ∧ 7 ∉ F) (h0 : 0 ≤ τ 138 0 ∧ τ 138 0 ≤ 200) (hR : y_RI σ) : y_RI τ := by
  obtain ⟨r1, r2, r3, r4, r5, r6⟩ := hR
  have e5 := f 138 5 hL.1 (fun _ => hF.1)
  have e7 := f 138 7 hL.1 (fun _ => hF.2)
  refine ⟨h0, y_PI_ext (fun k _ => (y_sm_a f 140 hL.2.1 (by decide) k).symm) r2, by rw [e5]; exact r3, fun u hu => ?_, by rw [e7]; exact r5, fun u hu => ?_⟩
  · rw [e5] at hu
    exact y_PI_ext (fun k _ => (y_sm_a f 142 hL.2.2.1 (by decide) _).symm) (r4 u hu)
  · rw [e7] at hu
    exact y_PI_ext (fun k _ => (y_sm_a f 143 hL.2.2.2 (by decide) _).symm) (r6 u hu)
theorem y_sm_o {L F : List Nat} {σ τ : x_S} (h : y_sm L F σ τ) (hL : ∀ r, r ∈ L → 138 ≤ r) : ∀ r k, r < 138 → τ r k = σ r k := fun r k hr => h r k (fun z => absurd (hL r z) (by omega)) (fun z => absurd z (by omega))
/-- the class has written: its text is longer by that sign -/
def y_W1 (a : Int) (σ τ : x_S) : Prop := y_CI τ ∧ (∀ r k, 138 ≤ r → τ r k = σ r k) ∧ ((((32 ≤ a ∧ a ≤ 126) ∧ σ 1 2 < 200) ∧ τ 1 2 = σ 1 2 + 1 ∧ τ 2 (σ 1 2).toNat = a ∧ ∀ m, m ≠ (σ 1 2).toNat → τ 2 m = σ 2 m) ∨ (¬ ((32 ≤ a ∧ a ≤ 126) ∧ σ 1 2 < 200) ∧ τ = σ))
theorem z_pw {E : q_E} {h : q_H} (hI : z_LI h) {n1 : Nat} (h1 : n1 < 4294967296) : q_P E (q_mt 121) [x_R 0, .inl n1] h (fun r h' => ∃ n, r = some (.inl n) ∧ x_sh h' ∧ q_P E (q_mt 171) [x_R 138, .inl n1] h' (fun r h'' => r = some (.inl n) ∧ z_LI h'')) := by
  rw [z_arg h1]
  generalize ea : x_s n1 = a
  have a1 : -2147483648 ≤ a := by rw [← ea]; exact x_s_lo _
  have a2 : a ≤ 2147483647 := by rw [← ea]; exact x_s_hi _
  refine z_pair (G := fun v τ => v = y_wr a (x_g h 1 2) ∧ y_W1 a (x_g h) τ) hI ?_ ?_
  · obtain ⟨_, C, hR, hT⟩ := hI
    generalize x_g h = σ at C hR hT ⊢
    refine sf_121 a1 a2 C (fun z => ?_) (fun z z2 => ?_) (fun z z2 τ C f e1 e2 e3 => ?_)
    · refine ⟨_, rfl, ?_, C, fun _ _ _ => rfl, Or.inr ⟨fun w => z w.1, rfl⟩⟩
      unfold y_wr
      rw [if_neg z]
    · refine ⟨_, rfl, ?_, C, fun _ _ _ => rfl, Or.inr ⟨fun w => z2 w.2, rfl⟩⟩
      unfold y_wr
      rw [if_pos z, if_neg z2]
    · refine ⟨_, rfl, ?_, C, f, Or.inl ⟨⟨z, z2⟩, e1, e2, e3⟩⟩
      unfold y_wr
      rw [if_pos z, if_pos z2]
  · obtain ⟨_, C0, hR0, hT⟩ := hI
    generalize x_g h = σ at C0 hR0 hT ⊢
    intro v τ hG
    obtain ⟨hv, C, f, hW⟩ := hG
    subst hv
    have hR := z_fR f hR0
    have l0 := f 138 0 (by decide)
    have hl := hR.1
    have t1 := hT.1
    have keep : ¬ ((32 ≤ a ∧ a ≤ 126) ∧ σ 1 2 < 200) → y_LI τ := fun z => by
      rcases hW with w | w
      · exact absurd w.1 z
      · rw [w.2]; exact ⟨C0, hR0, hT⟩
    refine c_171 a1 a2 hl.1 hl.2 (fun z => ?_) (fun z z2 => ?_) (fun z z2 τ' g e1 e2 e3 => ?_)
    · refine ⟨?_, keep (fun w => z w.1)⟩
      unfold y_wr
      rw [if_neg z]
    · refine ⟨?_, keep (fun w => by omega)⟩
      unfold y_wr
      rw [if_pos z, if_neg (by omega)]
    · rcases hW with w | w
      · obtain ⟨w1, w2, w3, w4⟩ := w
        refine ⟨?_, z_fC (y_sm_o g (by decide)) C, y_RI_len g (by decide) (by decide) (by omega) hR, ?_, fun k hk => ?_⟩
        · unfold y_wr
          rw [if_pos z, if_pos (by omega), l0, t1]
        · rw [y_sm_o g (by decide) 1 2 (by decide)]; omega
        · rw [y_sm_o g (by decide) 2 k (by decide)]
          have et : (τ 138 0).toNat = (σ 1 2).toNat := by omega
          rw [et] at e2 e3
          by_cases c : k = (σ 1 2).toNat
          · rw [c, w3, e2]
          · rw [w4 k c, e3 k c, f 139 k (by omega)]
            exact hT.2 k (by omega)
      · exact absurd w.1 (fun q => q ⟨z, by omega⟩)
theorem z_p122 {E : q_E} {h : q_H} (hI : z_LI h) : q_P E (q_mt 122) [x_R 0] h (fun r h' => ∃ n, r = some (.inl n) ∧ x_sh h' ∧ q_P E (q_mt 172) [x_R 138] h' (fun r h'' => r = some (.inl n) ∧ z_LI h'')) := by
  refine z_pair (G := fun v τ => v = x_g h 1 2 ∧ y_CI τ ∧ (∀ r k, 138 ≤ r → τ r k = x_g h r k) ∧ τ 1 2 = 0) hI ?_ ?_
  · obtain ⟨_, C, hR, hT⟩ := hI
    generalize x_g h = σ at C hR hT ⊢
    exact sf_122 C (fun τ C f e1 e2 => ⟨_, rfl, rfl, C, f, e1⟩)
  · obtain ⟨_, C0, hR0, hT⟩ := hI
    generalize x_g h = σ at C0 hR0 hT ⊢
    intro v τ hG
    obtain ⟨hv, C, f, hW⟩ := hG
    subst hv
    have hR := z_fR f hR0
    refine c_172 (fun τ' g e => ⟨by rw [f 138 0 (by decide), hT.1], z_fC (y_sm_o g (by decide)) C, y_RI_len g (by decide) (by decide) (by rw [e]; decide) hR, ?_, fun k hk => ?_⟩)
    · rw [y_sm_o g (by decide) 1 2 (by decide), hW, e]
    · rw [e] at hk; omega
theorem y_cx_tx {σ : x_S} (h : y_TL σ) (h0 : 0 < σ 138 0) : y_cx σ = y_tx σ := by
  funext k
  unfold y_cx y_tx
  rw [h.1]
  by_cases c : k < σ 138 0
  · rw [if_pos c, if_pos c]
    exact h.2 k.toNat (by omega)
  · rw [if_neg c, if_neg c]
theorem y_rs_eq {σ : x_S} (h : y_TL σ) : y_rs (y_cx σ) (σ 1 2) = y_rs (y_tx σ) (σ 138 0) := by
  rw [h.1]
  by_cases c : 0 < σ 138 0
  · rw [y_cx_tx h c]
  · unfold y_rs
    rw [y_run_e c, y_run_e c]
theorem z_p123 {E : q_E} {h : q_H} (hI : z_LI h) : q_P E (q_mt 123) [x_R 0] h (fun r h' => ∃ n, r = some (.inl n) ∧ x_sh h' ∧ q_P E (q_mt 173) [x_R 138] h' (fun r h'' => r = some (.inl n) ∧ z_LI h'')) := by
  refine z_pair (G := fun v τ => v = (y_rs (y_cx (x_g h)) (x_g h 1 2)).1 ∧ y_CI τ ∧ y_fi (x_g h) τ) hI ?_ ?_
  · obtain ⟨_, C, hR, hT⟩ := hI
    generalize x_g h = σ at C hR hT ⊢
    exact ke_123 C (fun τ C f => ⟨_, rfl, rfl, C, f⟩)
  · obtain ⟨_, C0, hR0, hT⟩ := hI
    generalize x_g h = σ at C0 hR0 hT ⊢
    intro v τ hG
    obtain ⟨hv, C, f⟩ := hG
    subst hv
    have hR := z_fR (fun r k hr => f r k (by omega)) hR0
    have hT1 : y_TL τ := by
      refine ⟨by rw [f 1 2 (by decide), f 138 0 (by decide)]; exact hT.1, fun k hk => ?_⟩
      rw [f 138 0 (by decide)] at hk
      rw [f 2 k (by omega), f 139 k (by omega)]
      exact hT.2 k hk
    have ex : y_cx τ = y_cx σ := y_fi_x f
    refine ce_173 hR.1.1 hR.1.2 (fun τ' g => ⟨?_, z_fC (y_sm_o g (by decide)) C, y_RI_sm g (by decide) (by decide) hR, y_TL_r (y_sm_out g (by decide)) (g 138 0 (by decide) (by decide)) hT1⟩)
    rw [← y_rs_eq hT1, ex, f 1 2 (by decide)]

theorem z_p124 {E : q_E} {h : q_H} (hI : z_LI h) : q_P E (q_mt 124) [x_R 0] h z_R := by exact z_cls hI (fun Q k => sf_124_0  hI.2.1 (fun τ v C f _ _ => k τ v C (y_fq_w (by decide) f)))
theorem z_p179 {E : q_E} {h : q_H} (hI : z_LI h) : q_P E (q_mt 179) [x_R 138] h z_R := by exact z_ref hI (fun Q k => c_179  hI.2.2.1 (fun τ v a b c _ _ => k τ v a b c))
theorem z_p126 {E : q_E} {h : q_H} (hI : z_LI h) {n1 n2 : Nat} (h1 : n1 < 4294967296) (h2 : n2 < 4294967296) : q_P E (q_mt 126) [x_R 0, .inl n1, .inl n2] h z_R := by rw [z_arg h1, z_arg h2]; exact z_cls hI (fun Q k => sf_126_0 (x_s_lo _) (x_s_hi _) (x_s_lo _) (x_s_hi _) hI.2.1 (fun v _ _ => k _ v hI.2.1 y_fr_rf))
theorem z_p180 {E : q_E} {h : q_H} (hI : z_LI h) {n1 n2 : Nat} (h1 : n1 < 4294967296) (h2 : n2 < 4294967296) : q_P E (q_mt 180) [x_R 138, .inl n1, .inl n2] h z_R := by rw [z_arg h1, z_arg h2]; exact z_ref hI (fun Q k => c_180 (x_s_lo _) (x_s_hi _) (x_s_lo _) (x_s_hi _) hI.2.2.1.2.1 (fun _ => k _ _ hI.2.2.1 (fun _ _ _ => rfl) rfl) (fun _ => k _ _ hI.2.2.1 (fun _ _ _ => rfl) rfl) (fun _ => k _ _ hI.2.2.1 (fun _ _ _ => rfl) rfl) (fun _ => k _ _ hI.2.2.1 (fun _ _ _ => rfl) rfl))
theorem z_p127 {E : q_E} {h : q_H} (hI : z_LI h) {n1 n2 n3 : Nat} (h1 : n1 < 4294967296) (h2 : n2 < 4294967296) (h3 : n3 < 4294967296) : q_P E (q_mt 127) [x_R 0, .inl n1, .inl n2, .inl n3] h z_R := by rw [z_arg h1, z_arg h2, z_arg h3]; exact z_cls hI (fun Q k => sf_127_0 (x_s_lo _) (x_s_hi _) (x_s_lo _) (x_s_hi _) (x_s_lo _) (x_s_hi _) hI.2.1 (fun τ v C f _ _ => k τ v C (y_fq_w (by decide) f)))
theorem z_p181 {E : q_E} {h : q_H} (hI : z_LI h) {n1 n2 n3 : Nat} (h1 : n1 < 4294967296) (h2 : n2 < 4294967296) (h3 : n3 < 4294967296) : q_P E (q_mt 181) [x_R 138, .inl n1, .inl n2, .inl n3] h z_R := by rw [z_arg h1, z_arg h2, z_arg h3]; exact z_ref hI (fun Q k => rs_181 (x_s_lo _) (x_s_hi _) (x_s_lo _) (x_s_hi _) (x_s_lo _) (x_s_hi _) hI.2.2.1 (fun τ v f _ _ => k τ v (y_rf_RI f hI.2.2.1) (y_rf_out f) (f 138 0 (by decide) (fun _ => by decide))))
theorem z_p128 {E : q_E} {h : q_H} (hI : z_LI h) {n1 n2 n3 : Nat} (h1 : n1 < 4294967296) (h2 : n2 < 4294967296) (h3 : n3 < 4294967296) : q_P E (q_mt 128) [x_R 0, .inl n1, .inl n2, .inl n3] h z_R := by rw [z_arg h1, z_arg h2, z_arg h3]; exact z_cls hI (fun Q k => sf_128_0 (x_s_lo _) (x_s_hi _) (x_s_lo _) (x_s_hi _) (x_s_lo _) (x_s_hi _) hI.2.1 (fun v _ _ => k _ v hI.2.1 y_fr_rf))
theorem z_p114 {E : q_E} {h : q_H} (hI : z_LI h) {n1 n2 n3 : Nat} (h1 : n1 < 4294967296) (h2 : n2 < 4294967296) (h3 : n3 < 4294967296) : q_P E (q_mt 114) [x_R 138, .inl n1, .inl n2, .inl n3] h z_R := by rw [z_arg h1, z_arg h2, z_arg h3]; exact z_ref hI (fun Q k => c_114 (x_s_lo _) (x_s_hi _) (x_s_lo _) (x_s_hi _) (x_s_lo _) (x_s_hi _) (fun _ _ _ => k _ _ hI.2.2.1 (fun _ _ _ => rfl) rfl) (fun _ => k _ _ hI.2.2.1 (fun _ _ _ => rfl) rfl))
theorem z_p129 {E : q_E} {h : q_H} (hI : z_LI h) {n1 n2 : Nat} (h1 : n1 < 4294967296) (h2 : n2 < 4294967296) : q_P E (q_mt 129) [x_R 0, .inl n1, .inl n2] h z_R := by rw [z_arg h1, z_arg h2]; exact z_cls hI (fun Q k => sf_129_0 (x_s_lo _) (x_s_hi _) (x_s_lo _) (x_s_hi _) hI.2.1 (fun v _ _ => k _ v hI.2.1 y_fr_rf))
theorem z_p182 {E : q_E} {h : q_H} (hI : z_LI h) {n1 n2 : Nat} (h1 : n1 < 4294967296) (h2 : n2 < 4294967296) : q_P E (q_mt 182) [x_R 138, .inl n1, .inl n2] h z_R := by rw [z_arg h1, z_arg h2]; exact z_ref hI (fun Q k => c_182 (x_s_lo _) (x_s_hi _) (x_s_lo _) (x_s_hi _) hI.2.2.1.2.1 (fun _ _ _ => k _ _ hI.2.2.1 (fun _ _ _ => rfl) rfl) (fun _ => k _ _ hI.2.2.1 (fun _ _ _ => rfl) rfl))
theorem z_p130 {E : q_E} {h : q_H} (hI : z_LI h) {n1 n2 : Nat} (h1 : n1 < 4294967296) (h2 : n2 < 4294967296) : q_P E (q_mt 130) [x_R 0, .inl n1, .inl n2] h z_R := by rw [z_arg h1, z_arg h2]; exact z_cls hI (fun Q k => sf_130_0 (x_s_lo _) (x_s_hi _) (x_s_lo _) (x_s_hi _) hI.2.1 (fun v _ _ => k _ v hI.2.1 y_fr_rf))
theorem z_p183 {E : q_E} {h : q_H} (hI : z_LI h) {n1 n2 : Nat} (h1 : n1 < 4294967296) (h2 : n2 < 4294967296) : q_P E (q_mt 183) [x_R 138, .inl n1, .inl n2] h z_R := by rw [z_arg h1, z_arg h2]; exact z_ref hI (fun Q k => c_183 (x_s_lo _) (x_s_hi _) (x_s_lo _) (x_s_hi _) hI.2.2.1.2.1 (fun _ => k _ _ hI.2.2.1 (fun _ _ _ => rfl) rfl) (fun _ _ _ => k _ _ hI.2.2.1 (fun _ _ _ => rfl) rfl) (fun _ => k _ _ hI.2.2.1 (fun _ _ _ => rfl) rfl))
theorem z_p131 {E : q_E} {h : q_H} (hI : z_LI h) {n1 : Nat} (h1 : n1 < 4294967296) : q_P E (q_mt 131) [x_R 0, .inl n1] h z_R := by rw [z_arg h1]; exact z_cls hI (fun Q k => sf_131_0 (x_s_lo _) (x_s_hi _) hI.2.1 (fun τ v C f _ _ => k τ v C (y_fq_w (by decide) f)))
theorem z_p184 {E : q_E} {h : q_H} (hI : z_LI h) {n1 : Nat} (h1 : n1 < 4294967296) : q_P E (q_mt 184) [x_R 138, .inl n1] h z_R := by rw [z_arg h1]; exact z_ref hI (fun Q k => c_184 (x_s_lo _) (x_s_hi _) hI.2.2.1 (fun τ v a b c _ _ => k τ v a b c))
theorem z_p132 {E : q_E} {h : q_H} (hI : z_LI h) {n1 : Nat} (h1 : n1 < 4294967296) : q_P E (q_mt 132) [x_R 0, .inl n1] h z_R := by rw [z_arg h1]; exact z_cls hI (fun Q k => sf_132_0 (x_s_lo _) (x_s_hi _) hI.2.1 (fun τ v C f _ _ => k τ v C (y_fq_w (by decide) f)))
theorem z_p185 {E : q_E} {h : q_H} (hI : z_LI h) {n1 : Nat} (h1 : n1 < 4294967296) : q_P E (q_mt 185) [x_R 138, .inl n1] h z_R := by rw [z_arg h1]; exact z_ref hI (fun Q k => c_185 (x_s_lo _) (x_s_hi _) hI.2.2.1 (fun τ v a b c _ _ => k τ v a b c))
theorem z_p133 {E : q_E} {h : q_H} (hI : z_LI h) {n1 n2 : Nat} (h1 : n1 < 4294967296) (h2 : n2 < 4294967296) : q_P E (q_mt 133) [x_R 0, .inl n1, .inl n2] h z_R := by rw [z_arg h1, z_arg h2]; exact z_cls hI (fun Q k => sf_133_0 (x_s_lo _) (x_s_hi _) (x_s_lo _) (x_s_hi _) hI.2.1 (fun τ v C f _ _ => k τ v C (y_fq_w (by decide) f)))
theorem z_p186 {E : q_E} {h : q_H} (hI : z_LI h) {n1 n2 : Nat} (h1 : n1 < 4294967296) (h2 : n2 < 4294967296) : q_P E (q_mt 186) [x_R 138, .inl n1, .inl n2] h z_R := by rw [z_arg h1, z_arg h2]; exact z_ref hI (fun Q k => c_186 (x_s_lo _) (x_s_hi _) (x_s_lo _) (x_s_hi _) hI.2.2.1 (fun τ v a b c _ _ => k τ v a b c))
theorem z_p134 {E : q_E} {h : q_H} (hI : z_LI h) {n1 n2 n3 : Nat} (h1 : n1 < 4294967296) (h2 : n2 < 4294967296) (h3 : n3 < 4294967296) : q_P E (q_mt 134) [x_R 0, .inl n1, .inl n2, .inl n3] h z_R := by rw [z_arg h1, z_arg h2, z_arg h3]; exact z_cls hI (fun Q k => sf_134_0 (x_s_lo _) (x_s_hi _) (x_s_lo _) (x_s_hi _) (x_s_lo _) (x_s_hi _) hI.2.1 (fun τ v C f _ _ => k τ v C (y_fq_w (by decide) f)))
theorem z_p187 {E : q_E} {h : q_H} (hI : z_LI h) {n1 n2 n3 : Nat} (h1 : n1 < 4294967296) (h2 : n2 < 4294967296) (h3 : n3 < 4294967296) : q_P E (q_mt 187) [x_R 138, .inl n1, .inl n2, .inl n3] h z_R := by rw [z_arg h1, z_arg h2, z_arg h3]; exact z_ref hI (fun Q k => c_187 (x_s_lo _) (x_s_hi _) (x_s_lo _) (x_s_hi _) (x_s_lo _) (x_s_hi _) hI.2.2.1 (fun τ v a b c _ _ => k τ v a b c))
theorem z_p136 {E : q_E} {h : q_H} (hI : z_LI h) {n1 n2 n3 : Nat} (h1 : n1 < 4294967296) (h2 : n2 < 4294967296) (h3 : n3 < 4294967296) : q_P E (q_mt 136) [x_R 0, .inl n1, .inl n2, .inl n3] h z_R := by rw [z_arg h1, z_arg h2, z_arg h3]; exact z_cls hI (fun Q k => sf_136_0 (x_s_lo _) (x_s_hi _) (x_s_lo _) (x_s_hi _) (x_s_lo _) (x_s_hi _) hI.2.1 (fun τ v C f _ _ => k τ v C (y_fq_w (by decide) f)))
theorem z_p188 {E : q_E} {h : q_H} (hI : z_LI h) {n1 n2 n3 : Nat} (h1 : n1 < 4294967296) (h2 : n2 < 4294967296) (h3 : n3 < 4294967296) : q_P E (q_mt 188) [x_R 138, .inl n1, .inl n2, .inl n3] h z_R := by rw [z_arg h1, z_arg h2, z_arg h3]; exact z_ref hI (fun Q k => c_188 (x_s_lo _) (x_s_hi _) (x_s_lo _) (x_s_hi _) (x_s_lo _) (x_s_hi _) hI.2.2.1 (fun τ v a b c _ _ => k τ v a b c))
theorem z_p137 {E : q_E} {h : q_H} (hI : z_LI h) {n1 n2 : Nat} (h1 : n1 < 4294967296) (h2 : n2 < 4294967296) : q_P E (q_mt 137) [x_R 0, .inl n1, .inl n2] h z_R := by rw [z_arg h1, z_arg h2]; exact z_cls hI (fun Q k => sf_137_0 (x_s_lo _) (x_s_hi _) (x_s_lo _) (x_s_hi _) hI.2.1 (fun τ v C f _ _ => k τ v C (y_fq_w (by decide) f)))
theorem z_p189 {E : q_E} {h : q_H} (hI : z_LI h) {n1 n2 : Nat} (h1 : n1 < 4294967296) (h2 : n2 < 4294967296) : q_P E (q_mt 189) [x_R 138, .inl n1, .inl n2] h z_R := by rw [z_arg h1, z_arg h2]; exact z_ref hI (fun Q k => c_189 (x_s_lo _) (x_s_hi _) (x_s_lo _) (x_s_hi _) hI.2.2.1 (fun τ v a b c _ _ => k τ v a b c))
theorem z_p138 {E : q_E} {h : q_H} (hI : z_LI h) : q_P E (q_mt 138) [x_R 0] h z_R := by exact z_cls hI (fun Q k => sf_138_0  hI.2.1 (fun τ v C f _ _ => k τ v C (y_fq_w (by decide) f)))
theorem z_p190 {E : q_E} {h : q_H} (hI : z_LI h) : q_P E (q_mt 190) [x_R 138] h z_R := by exact z_ref hI (fun Q k => c_190  hI.2.2.1 (fun τ v a b c _ _ => k τ v a b c))
theorem z_p140 {E : q_E} {h : q_H} (hI : z_LI h) {n1 n2 n3 n4 : Nat} (h1 : n1 < 4294967296) (h2 : n2 < 4294967296) (h3 : n3 < 4294967296) (h4 : n4 < 4294967296) : q_P E (q_mt 140) [x_R 0, .inl n1, .inl n2, .inl n3, .inl n4] h z_R := by rw [z_arg h1, z_arg h2, z_arg h3, z_arg h4]; exact z_cls hI (fun Q k => sf_140_0 (x_s_lo _) (x_s_hi _) (x_s_lo _) (x_s_hi _) (x_s_lo _) (x_s_hi _) (x_s_lo _) (x_s_hi _) hI.2.1 (fun τ v C f _ _ => k τ v C (y_fq_w (by decide) f)))
theorem z_p191 {E : q_E} {h : q_H} (hI : z_LI h) {n1 n2 n3 n4 : Nat} (h1 : n1 < 4294967296) (h2 : n2 < 4294967296) (h3 : n3 < 4294967296) (h4 : n4 < 4294967296) : q_P E (q_mt 191) [x_R 138, .inl n1, .inl n2, .inl n3, .inl n4] h z_R := by rw [z_arg h1, z_arg h2, z_arg h3, z_arg h4]; exact z_ref hI (fun Q k => rs_191 (x_s_lo _) (x_s_hi _) (x_s_lo _) (x_s_hi _) (x_s_lo _) (x_s_hi _) (x_s_lo _) (x_s_hi _) hI.2.2.1 (fun τ v f _ _ => k τ v (y_rf_RI f hI.2.2.1) (y_rf_out f) (f 138 0 (by decide) (fun _ => by decide))))
theorem z_p153 {E : q_E} {h : q_H} (hI : z_LI h) {n1 n2 : Nat} (h1 : n1 < 4294967296) (h2 : n2 < 4294967296) : q_P E (q_mt 153) [x_R 0, .inl n1, .inl n2] h z_R := by rw [z_arg h1, z_arg h2]; exact z_cls hI (fun Q k => sf_153_0 (x_s_lo _) (x_s_hi _) (x_s_lo _) (x_s_hi _) hI.2.1 (fun τ v C f _ _ => k τ v C (y_fq_w (by decide) f)))
theorem z_p192 {E : q_E} {h : q_H} (hI : z_LI h) {n1 n2 : Nat} (h1 : n1 < 4294967296) (h2 : n2 < 4294967296) : q_P E (q_mt 192) [x_R 138, .inl n1, .inl n2] h z_R := by rw [z_arg h1, z_arg h2]; exact z_ref hI (fun Q k => rs_192 (x_s_lo _) (x_s_hi _) (x_s_lo _) (x_s_hi _) hI.2.2.1 (fun τ v f _ _ => k τ v (y_rf_RI f hI.2.2.1) (y_rf_out f) (f 138 0 (by decide) (fun _ => by decide))))
theorem z_p155 {E : q_E} {h : q_H} (hI : z_LI h) {n1 n2 : Nat} (h1 : n1 < 4294967296) (h2 : n2 < 4294967296) : q_P E (q_mt 155) [x_R 0, .inl n1, .inl n2] h z_R := by rw [z_arg h1, z_arg h2]; exact z_cls hI (fun Q k => sf_155_0 (x_s_lo _) (x_s_hi _) (x_s_lo _) (x_s_hi _) hI.2.1 (fun τ v C f _ _ => k τ v C (y_fq_w (by decide) f)))
theorem z_p193 {E : q_E} {h : q_H} (hI : z_LI h) {n1 n2 : Nat} (h1 : n1 < 4294967296) (h2 : n2 < 4294967296) : q_P E (q_mt 193) [x_R 138, .inl n1, .inl n2] h z_R := by rw [z_arg h1, z_arg h2]; exact z_ref hI (fun Q k => rs_193 (x_s_lo _) (x_s_hi _) (x_s_lo _) (x_s_hi _) hI.2.2.1 (fun τ v f _ _ => k τ v (y_rf_RI f hI.2.2.1) (y_rf_out f) (f 138 0 (by decide) (fun _ => by decide))))
theorem z_p156 {E : q_E} {h : q_H} (hI : z_LI h) {n1 n2 : Nat} (h1 : n1 < 4294967296) (h2 : n2 < 4294967296) : q_P E (q_mt 156) [x_R 0, .inl n1, .inl n2] h z_R := by rw [z_arg h1, z_arg h2]; exact z_cls hI (fun Q k => sf_156_0 (x_s_lo _) (x_s_hi _) (x_s_lo _) (x_s_hi _) hI.2.1 (fun v _ _ => k _ v hI.2.1 y_fr_rf))
theorem z_p197 {E : q_E} {h : q_H} (hI : z_LI h) {n1 n2 : Nat} (h1 : n1 < 4294967296) (h2 : n2 < 4294967296) : q_P E (q_mt 197) [x_R 138, .inl n1, .inl n2] h z_R := by rw [z_arg h1, z_arg h2]; exact z_ref hI (fun Q k => rs_197 (x_s_lo _) (x_s_hi _) (x_s_lo _) (x_s_hi _) hI.2.2.1 (fun τ v f _ _ => k τ v (y_rf_RI f hI.2.2.1) (y_rf_out f) (f 138 0 (by decide) (fun _ => by decide))))
theorem z_p158 {E : q_E} {h : q_H} (hI : z_LI h) {n1 n2 n3 : Nat} (h1 : n1 < 4294967296) (h2 : n2 < 4294967296) (h3 : n3 < 4294967296) : q_P E (q_mt 158) [x_R 0, .inl n1, .inl n2, .inl n3] h z_R := by rw [z_arg h1, z_arg h2, z_arg h3]; exact z_cls hI (fun Q k => sf_158_0 (x_s_lo _) (x_s_hi _) (x_s_lo _) (x_s_hi _) (x_s_lo _) (x_s_hi _) hI.2.1 (fun τ v C f _ _ => k τ v C (y_fq_w (by decide) f)))
theorem z_p198 {E : q_E} {h : q_H} (hI : z_LI h) {n1 n2 n3 : Nat} (h1 : n1 < 4294967296) (h2 : n2 < 4294967296) (h3 : n3 < 4294967296) : q_P E (q_mt 198) [x_R 138, .inl n1, .inl n2, .inl n3] h z_R := by rw [z_arg h1, z_arg h2, z_arg h3]; exact z_ref hI (fun Q k => rs_198 (x_s_lo _) (x_s_hi _) (x_s_lo _) (x_s_hi _) (x_s_lo _) (x_s_hi _) hI.2.2.1 (fun τ v f _ _ => k τ v (y_rf_RI f hI.2.2.1) (y_rf_out f) (f 138 0 (by decide) (fun _ => by decide))))
theorem z_p159 {E : q_E} {h : q_H} (hI : z_LI h) {n1 : Nat} (h1 : n1 < 4294967296) : q_P E (q_mt 159) [x_R 0, .inl n1] h z_R := by rw [z_arg h1]; exact z_cls hI (fun Q k => sf_159_0 (x_s_lo _) (x_s_hi _) hI.2.1 (fun τ v C f _ _ => k τ v C (y_fq_w (by decide) f)))
theorem z_p199 {E : q_E} {h : q_H} (hI : z_LI h) {n1 : Nat} (h1 : n1 < 4294967296) : q_P E (q_mt 199) [x_R 138, .inl n1] h z_R := by rw [z_arg h1]; exact z_ref hI (fun Q k => rs_199 (x_s_lo _) (x_s_hi _) hI.2.2.1 (fun τ v f _ _ => k τ v (y_rf_RI f hI.2.2.1) (y_rf_out f) (f 138 0 (by decide) (fun _ => by decide))))
theorem z_p160 {E : q_E} {h : q_H} (hI : z_LI h) {n1 n2 n3 : Nat} (h1 : n1 < 4294967296) (h2 : n2 < 4294967296) (h3 : n3 < 4294967296) : q_P E (q_mt 160) [x_R 0, .inl n1, .inl n2, .inl n3] h z_R := by rw [z_arg h1, z_arg h2, z_arg h3]; exact z_cls hI (fun Q k => sf_160_0 (x_s_lo _) (x_s_hi _) (x_s_lo _) (x_s_hi _) (x_s_lo _) (x_s_hi _) hI.2.1 (fun τ v C f _ _ => k τ v C (y_fq_w (by decide) f)))
theorem z_p200 {E : q_E} {h : q_H} (hI : z_LI h) {n1 n2 n3 : Nat} (h1 : n1 < 4294967296) (h2 : n2 < 4294967296) (h3 : n3 < 4294967296) : q_P E (q_mt 200) [x_R 138, .inl n1, .inl n2, .inl n3] h z_R := by rw [z_arg h1, z_arg h2, z_arg h3]; exact z_ref hI (fun Q k => rs_200 (x_s_lo _) (x_s_hi _) (x_s_lo _) (x_s_hi _) (x_s_lo _) (x_s_hi _) hI.2.2.1 (fun τ v f _ _ => k τ v (y_rf_RI f hI.2.2.1) (y_rf_out f) (f 138 0 (by decide) (fun _ => by decide))))
theorem z_p162 {E : q_E} {h : q_H} (hI : z_LI h) {n1 n2 n3 : Nat} (h1 : n1 < 4294967296) (h2 : n2 < 4294967296) (h3 : n3 < 4294967296) : q_P E (q_mt 162) [x_R 0, .inl n1, .inl n2, .inl n3] h z_R := by rw [z_arg h1, z_arg h2, z_arg h3]; exact z_cls hI (fun Q k => sf_162_0 (x_s_lo _) (x_s_hi _) (x_s_lo _) (x_s_hi _) (x_s_lo _) (x_s_hi _) hI.2.1 (fun τ v C f _ _ => k τ v C (y_fq_w (by decide) f)))
theorem z_p205 {E : q_E} {h : q_H} (hI : z_LI h) {n1 n2 n3 : Nat} (h1 : n1 < 4294967296) (h2 : n2 < 4294967296) (h3 : n3 < 4294967296) : q_P E (q_mt 205) [x_R 138, .inl n1, .inl n2, .inl n3] h z_R := by rw [z_arg h1, z_arg h2, z_arg h3]; exact z_ref hI (fun Q k => rs_205 (x_s_lo _) (x_s_hi _) (x_s_lo _) (x_s_hi _) (x_s_lo _) (x_s_hi _) hI.2.2.1 (fun τ v f _ _ => k τ v (y_rf_RI f hI.2.2.1) (y_rf_out f) (f 138 0 (by decide) (fun _ => by decide))))
theorem z_p165 {E : q_E} {h : q_H} (hI : z_LI h) {n1 n2 n3 : Nat} (h1 : n1 < 4294967296) (h2 : n2 < 4294967296) (h3 : n3 < 4294967296) : q_P E (q_mt 165) [x_R 0, .inl n1, .inl n2, .inl n3] h z_R := by rw [z_arg h1, z_arg h2, z_arg h3]; exact z_cls hI (fun Q k => sf_165_0 (x_s_lo _) (x_s_hi _) (x_s_lo _) (x_s_hi _) (x_s_lo _) (x_s_hi _) hI.2.1 (fun τ v C f _ _ => k τ v C (y_fq_w (by decide) f)))
theorem z_p208 {E : q_E} {h : q_H} (hI : z_LI h) {n1 n2 n3 : Nat} (h1 : n1 < 4294967296) (h2 : n2 < 4294967296) (h3 : n3 < 4294967296) : q_P E (q_mt 208) [x_R 138, .inl n1, .inl n2, .inl n3] h z_R := by rw [z_arg h1, z_arg h2, z_arg h3]; exact z_ref hI (fun Q k => rs_208 (x_s_lo _) (x_s_hi _) (x_s_lo _) (x_s_hi _) (x_s_lo _) (x_s_hi _) hI.2.2.1 (fun τ v f _ _ => k τ v (y_rf_RI f hI.2.2.1) (y_rf_out f) (f 138 0 (by decide) (fun _ => by decide))))
theorem z_p166 {E : q_E} {h : q_H} (hI : z_LI h) : q_P E (q_mt 166) [x_R 0] h z_R := by exact z_cls hI (fun Q k => sf_166_0  hI.2.1 (fun τ v C f _ _ => k τ v C (y_fq_w (by decide) f)))
theorem z_p209 {E : q_E} {h : q_H} (hI : z_LI h) : q_P E (q_mt 209) [x_R 138] h z_R := by exact z_ref hI (fun Q k => c_209  hI.2.2.1 (fun τ v a b c _ _ => k τ v a b c))
theorem z_p167 {E : q_E} {h : q_H} (hI : z_LI h) : q_P E (q_mt 167) [x_R 0] h z_R := by exact z_cls hI (fun Q k => sf_167_0  hI.2.1 (fun τ v C f _ _ => k τ v C (y_fq_w (by decide) f)))
theorem z_p210 {E : q_E} {h : q_H} (hI : z_LI h) : q_P E (q_mt 210) [x_R 138] h z_R := by exact z_ref hI (fun Q k => c_210  hI.2.2.1 (fun τ v a b c _ _ => k τ v a b c))
theorem z_p168 {E : q_E} {h : q_H} (hI : z_LI h) {n1 : Nat} (h1 : n1 < 4294967296) : q_P E (q_mt 168) [x_R 0, .inl n1] h z_R := by rw [z_arg h1]; exact z_cls hI (fun Q k => sf_168_0 (x_s_lo _) (x_s_hi _) hI.2.1 (fun v _ _ => k _ v hI.2.1 y_fr_rf))
theorem z_p211 {E : q_E} {h : q_H} (hI : z_LI h) {n1 : Nat} (h1 : n1 < 4294967296) : q_P E (q_mt 211) [x_R 138, .inl n1] h z_R := by rw [z_arg h1]; exact z_ref hI (fun Q k => rs_211 (x_s_lo _) (x_s_hi _) hI.2.2.1 (fun τ v f _ _ => k τ v (y_rf_RI f hI.2.2.1) (y_rf_out f) (f 138 0 (by decide) (fun _ => by decide))))
