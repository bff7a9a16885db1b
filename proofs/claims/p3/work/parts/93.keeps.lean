/-! what every call keeps -/
/-- both stand, and their texts are as long -/
def z_LI (h : q_H) : Prop := x_sh h ∧ y_CI (x_g h) ∧ y_RI (x_g h) ∧ x_g h 1 2 = x_g h 138 0
theorem z_arg {n : Nat} (h : n < 4294967296) : (Sum.inl n : q_V) = x_I (x_s n) := by
  show Sum.inl n = Sum.inl (x_c (x_s n))
  rw [x_cs, Nat.mod_eq_of_lt h]
def z_R (r : Option q_V) (h' : q_H) : Prop := (∃ n, r = some (.inl n)) ∧ z_LI h'
theorem z_fR {σ τ : x_S} (f : ∀ r k, 138 ≤ r → τ r k = σ r k) (hR : y_RI σ) : y_RI τ := y_RI_ext (f 138 0 (by decide)) (f 138 5 (by decide)) (f 138 7 (by decide)) (fun k => f 140 k (by decide)) (fun k => f 142 k (by decide)) (fun k => f 143 k (by decide)) hR
theorem z_fC {σ τ : x_S} (f : ∀ r k, r < 138 → τ r k = σ r k) (C : y_CI σ) : y_CI τ := fun r k a b c => by rw [f r k a]; exact C r k a b c
theorem z_cls {E : q_E} {j : Nat} {as : List q_V} {h : q_H} (hI : z_LI h) (hP : ∀ Q : Option q_V → x_S → Prop, (∀ (τ : x_S) (v : Int), y_CI τ → y_fr (x_g h) τ → Q (some (x_I v)) τ) → x_P E j as (x_g h) Q) : q_P E (q_mt j) as h z_R := by
  have P := hP (fun r τ => (∃ n, r = some (.inl n)) ∧ y_CI τ ∧ y_fr (x_g h) τ) (fun τ v C f => ⟨⟨_, rfl⟩, C, f⟩) h hI.1 rfl
  refine q_P_mono (fun r h' z => ?_) P
  obtain ⟨z1, z2, z3, z4⟩ := z
  exact ⟨z2, z1, z3, z_fR (fun r k hr => z4 r k (Or.inl hr)) hI.2.2.1, by rw [z4 1 2 (by decide), z4 138 0 (by decide)]; exact hI.2.2.2⟩
theorem z_ref {E : q_E} {j : Nat} {as : List q_V} {h : q_H} (hI : z_LI h) (hP : ∀ Q : Option q_V → x_S → Prop, (∀ (τ : x_S) (v : Int), y_RI τ → (∀ r k, r < 138 → τ r k = x_g h r k) → τ 138 0 = x_g h 138 0 → Q (some (x_I v)) τ) → x_P E j as (x_g h) Q) : q_P E (q_mt j) as h z_R := by
  have P := hP (fun r τ => (∃ n, r = some (.inl n)) ∧ y_RI τ ∧ (∀ r k, r < 138 → τ r k = x_g h r k) ∧ τ 138 0 = x_g h 138 0) (fun τ v C f g => ⟨⟨_, rfl⟩, C, f, g⟩) h hI.1 rfl
  refine q_P_mono (fun r h' z => ?_) P
  obtain ⟨z1, z2, z3, z4, z5⟩ := z
  exact ⟨z2, z1, z_fC z4 hI.2.1, z3, by rw [z4 1 2 (by decide), z5]; exact hI.2.2.2⟩
/-- what write answers, how long the text is then -/
def y_wr (a l : Int) : Int := if 32 ≤ a ∧ a ≤ 126 then (if l < 200 then l + 1 else -3) else -1
def y_wl (a l : Int) : Int := if (32 ≤ a ∧ a ≤ 126) ∧ l < 200 then l + 1 else l
theorem y_RI_len {L F : List Nat} {σ τ : x_S} (f : y_sm L F σ τ) (hL : 138 ∉ L ∧ 140 ∉ L ∧ 142 ∉ L ∧ 143 ∉ L) (hF : 5 ∉ F ∧ 7 ∉ F) (h0 : 0 ≤ τ 138 0 ∧ τ 138 0 ≤ 200) (hR : y_RI σ) : y_RI τ := by
  obtain ⟨r1, r2, r3, r4, r5, r6⟩ := hR
  have e5 := f 138 5 hL.1 (fun _ => hF.1)
  have e7 := f 138 7 hL.1 (fun _ => hF.2)
  refine ⟨h0, y_PI_ext (fun k _ => (y_sm_a f 140 hL.2.1 (by decide) k).symm) r2, by rw [e5]; exact r3, fun u hu => ?_, by rw [e7]; exact r5, fun u hu => ?_⟩
  · rw [e5] at hu
    exact y_PI_ext (fun k _ => (y_sm_a f 142 hL.2.2.1 (by decide) _).symm) (r4 u hu)
  · rw [e7] at hu
    exact y_PI_ext (fun k _ => (y_sm_a f 143 hL.2.2.2 (by decide) _).symm) (r6 u hu)
theorem z_w1 {E : q_E} {σ : x_S} {a : Int} (a1 : -2147483648 ≤ a) (a2 : a ≤ 2147483647) (C : y_CI σ) : x_P E 121 [x_R 0, x_I a] σ (fun r τ => r = some (x_I (y_wr a (σ 1 2))) ∧ y_CI τ ∧ (∀ r k, 138 ≤ r → τ r k = σ r k) ∧ τ 1 2 = y_wl a (σ 1 2)) := by
  refine sf_121 a1 a2 C (fun z => ?_) (fun z z2 => ?_) (fun z z2 τ C f e1 e2 e3 => ?_)
  · unfold y_wr y_wl
    rw [if_neg z, if_neg (fun w => z w.1)]
    exact ⟨rfl, C, fun _ _ _ => rfl, rfl⟩
  · unfold y_wr y_wl
    rw [if_pos z, if_neg z2, if_neg (fun w => z2 w.2)]
    exact ⟨rfl, C, fun _ _ _ => rfl, rfl⟩
  · unfold y_wr y_wl
    rw [if_pos z, if_pos z2, if_pos ⟨z, z2⟩]
    exact ⟨rfl, C, f, e1⟩
theorem z_w2 {E : q_E} {σ : x_S} {a : Int} (a1 : -2147483648 ≤ a) (a2 : a ≤ 2147483647) (hR : y_RI σ) : x_P E 171 [x_R 138, x_I a] σ (fun r τ => r = some (x_I (y_wr a (σ 138 0))) ∧ y_RI τ ∧ (∀ r k, r < 138 → τ r k = σ r k) ∧ τ 138 0 = y_wl a (σ 138 0)) := by
  have hl := hR.1
  refine c_171 a1 a2 hl.1 hl.2 (fun z => ?_) (fun z z2 => ?_) (fun z z2 τ f e1 e2 e3 => ?_)
  · unfold y_wr y_wl
    rw [if_neg z, if_neg (fun w => z w.1)]
    exact ⟨rfl, hR, fun _ _ _ => rfl, rfl⟩
  · have z3 : ¬ σ 138 0 < 200 := by omega
    unfold y_wr y_wl
    rw [if_pos z, if_neg z3, if_neg (fun w => z3 w.2)]
    exact ⟨rfl, hR, fun _ _ _ => rfl, rfl⟩
  · have z3 : σ 138 0 < 200 := by omega
    unfold y_wr y_wl
    rw [if_pos z, if_pos z3, if_pos ⟨z, z3⟩]
    exact ⟨rfl, y_RI_len f (by decide) (by decide) (by omega) hR, y_sm_out f (by decide), e1⟩
theorem z_v1 {E : q_E} {σ : x_S} (C : y_CI σ) : x_P E 122 [x_R 0] σ (fun r τ => r = some (x_I (σ 1 2)) ∧ y_CI τ ∧ (∀ r k, 138 ≤ r → τ r k = σ r k) ∧ τ 1 2 = 0) := sf_122 C (fun τ C f e1 e2 => ⟨rfl, C, f, e1⟩)
theorem z_v2 {E : q_E} {σ : x_S} (hR : y_RI σ) : x_P E 172 [x_R 138] σ (fun r τ => r = some (x_I (σ 138 0)) ∧ y_RI τ ∧ (∀ r k, r < 138 → τ r k = σ r k) ∧ τ 138 0 = 0) := c_172 (fun τ f e => ⟨rfl, y_RI_len f (by decide) (by decide) (by rw [e]; decide) hR, y_sm_out f (by decide), e⟩)
/-- two calls that answer the same -/
theorem z_two {E : q_E} {j1 j2 : Nat} {as1 as2 : List q_V} {h : q_H} {f g : Int → Int} (hI : z_LI h) (P1 : ∀ {σ : x_S}, y_CI σ → x_P E j1 as1 σ (fun r τ => r = some (x_I (f (σ 1 2))) ∧ y_CI τ ∧ (∀ r k, 138 ≤ r → τ r k = σ r k) ∧ τ 1 2 = g (σ 1 2))) (P2 : ∀ {σ : x_S}, y_RI σ → x_P E j2 as2 σ (fun r τ => r = some (x_I (f (σ 138 0))) ∧ y_RI τ ∧ (∀ r k, r < 138 → τ r k = σ r k) ∧ τ 138 0 = g (σ 138 0))) : q_P E (q_mt j1) as1 h (fun r h' => ∃ n, r = some (.inl n) ∧ x_sh h' ∧ q_P E (q_mt j2) as2 h' (fun r h'' => r = some (.inl n) ∧ z_LI h'')) := by
  obtain ⟨i1, i2, i3, i4⟩ := hI
  refine q_P_mono (fun r h' z => ?_) (P1 i2 h i1 rfl)
  obtain ⟨z1, z2, z3, z4, z5⟩ := z
  refine ⟨_, z2, z1, q_P_mono (fun r h'' w => ?_) (P2 (z_fR z4 i3) h' z1 rfl)⟩
  obtain ⟨w1, w2, w3, w4, w5⟩ := w
  rw [z4 138 0 (by decide), ← i4] at w2 w5
  exact ⟨w2, w1, z_fC w4 z3, w3, by rw [w4 1 2 (by decide), z5, w5]⟩
theorem z_pw {E : q_E} {h : q_H} (hI : z_LI h) {n1 : Nat} (h1 : n1 < 4294967296) : q_P E (q_mt 121) [x_R 0, .inl n1] h (fun r h' => ∃ n, r = some (.inl n) ∧ x_sh h' ∧ q_P E (q_mt 171) [x_R 138, .inl n1] h' (fun r h'' => r = some (.inl n) ∧ z_LI h'')) := by
  rw [z_arg h1]
  exact z_two (f := y_wr (x_s n1)) (g := y_wl (x_s n1)) hI (fun C => z_w1 (x_s_lo _) (x_s_hi _) C) (fun hR => z_w2 (x_s_lo _) (x_s_hi _) hR)
theorem z_p122 {E : q_E} {h : q_H} (hI : z_LI h) : q_P E (q_mt 122) [x_R 0] h (fun r h' => ∃ n, r = some (.inl n) ∧ x_sh h' ∧ q_P E (q_mt 172) [x_R 138] h' (fun r h'' => r = some (.inl n) ∧ z_LI h'')) :=
  z_two (f := fun l => l) (g := fun _ => 0) hI (fun C => z_v1 C) (fun hR => z_v2 hR)

theorem z_p123 {E : q_E} {h : q_H} (hI : z_LI h) : q_P E (q_mt 123) [x_R 0] h z_R := by exact z_cls hI (fun Q k => sf_123_0  hI.2.1 (fun τ v C f _ _ => k τ v C f))
theorem z_p173 {E : q_E} {h : q_H} (hI : z_LI h) : q_P E (q_mt 173) [x_R 138] h z_R := by exact z_ref hI (fun Q k => c_173  hI.2.2.1 (fun τ v a b c _ _ => k τ v a b c))
theorem z_p124 {E : q_E} {h : q_H} (hI : z_LI h) : q_P E (q_mt 124) [x_R 0] h z_R := by exact z_cls hI (fun Q k => sf_124_0  hI.2.1 (fun τ v C f _ _ => k τ v C f))
theorem z_p179 {E : q_E} {h : q_H} (hI : z_LI h) : q_P E (q_mt 179) [x_R 138] h z_R := by exact z_ref hI (fun Q k => c_179  hI.2.2.1 (fun τ v a b c _ _ => k τ v a b c))
theorem z_p126 {E : q_E} {h : q_H} (hI : z_LI h) {n1 n2 : Nat} (h1 : n1 < 4294967296) (h2 : n2 < 4294967296) : q_P E (q_mt 126) [x_R 0, .inl n1, .inl n2] h z_R := by rw [z_arg h1, z_arg h2]; exact z_cls hI (fun Q k => sf_126_0 (x_s_lo _) (x_s_hi _) (x_s_lo _) (x_s_hi _) hI.2.1 (fun v _ _ => k _ v hI.2.1 y_fr_rf))
theorem z_p180 {E : q_E} {h : q_H} (hI : z_LI h) {n1 n2 : Nat} (h1 : n1 < 4294967296) (h2 : n2 < 4294967296) : q_P E (q_mt 180) [x_R 138, .inl n1, .inl n2] h z_R := by rw [z_arg h1, z_arg h2]; exact z_ref hI (fun Q k => c_180 (x_s_lo _) (x_s_hi _) (x_s_lo _) (x_s_hi _) hI.2.2.1.2.1 (fun _ => k _ _ hI.2.2.1 (fun _ _ _ => rfl) rfl) (fun _ => k _ _ hI.2.2.1 (fun _ _ _ => rfl) rfl) (fun _ => k _ _ hI.2.2.1 (fun _ _ _ => rfl) rfl) (fun _ => k _ _ hI.2.2.1 (fun _ _ _ => rfl) rfl))
theorem z_p127 {E : q_E} {h : q_H} (hI : z_LI h) {n1 n2 n3 : Nat} (h1 : n1 < 4294967296) (h2 : n2 < 4294967296) (h3 : n3 < 4294967296) : q_P E (q_mt 127) [x_R 0, .inl n1, .inl n2, .inl n3] h z_R := by rw [z_arg h1, z_arg h2, z_arg h3]; exact z_cls hI (fun Q k => sf_127_0 (x_s_lo _) (x_s_hi _) (x_s_lo _) (x_s_hi _) (x_s_lo _) (x_s_hi _) hI.2.1 (fun τ v C f _ _ => k τ v C f))
theorem z_p181 {E : q_E} {h : q_H} (hI : z_LI h) {n1 n2 n3 : Nat} (h1 : n1 < 4294967296) (h2 : n2 < 4294967296) (h3 : n3 < 4294967296) : q_P E (q_mt 181) [x_R 138, .inl n1, .inl n2, .inl n3] h z_R := by rw [z_arg h1, z_arg h2, z_arg h3]; exact z_ref hI (fun Q k => rs_181 (x_s_lo _) (x_s_hi _) (x_s_lo _) (x_s_hi _) (x_s_lo _) (x_s_hi _) hI.2.2.1 (fun τ v a b c _ _ => k τ v a b c))
theorem z_p128 {E : q_E} {h : q_H} (hI : z_LI h) {n1 n2 n3 : Nat} (h1 : n1 < 4294967296) (h2 : n2 < 4294967296) (h3 : n3 < 4294967296) : q_P E (q_mt 128) [x_R 0, .inl n1, .inl n2, .inl n3] h z_R := by rw [z_arg h1, z_arg h2, z_arg h3]; exact z_cls hI (fun Q k => sf_128_0 (x_s_lo _) (x_s_hi _) (x_s_lo _) (x_s_hi _) (x_s_lo _) (x_s_hi _) hI.2.1 (fun v _ _ => k _ v hI.2.1 y_fr_rf))
theorem z_p114 {E : q_E} {h : q_H} (hI : z_LI h) {n1 n2 n3 : Nat} (h1 : n1 < 4294967296) (h2 : n2 < 4294967296) (h3 : n3 < 4294967296) : q_P E (q_mt 114) [x_R 138, .inl n1, .inl n2, .inl n3] h z_R := by rw [z_arg h1, z_arg h2, z_arg h3]; exact z_ref hI (fun Q k => c_114 (x_s_lo _) (x_s_hi _) (x_s_lo _) (x_s_hi _) (x_s_lo _) (x_s_hi _) (fun _ _ _ => k _ _ hI.2.2.1 (fun _ _ _ => rfl) rfl) (fun _ => k _ _ hI.2.2.1 (fun _ _ _ => rfl) rfl))
theorem z_p129 {E : q_E} {h : q_H} (hI : z_LI h) {n1 n2 : Nat} (h1 : n1 < 4294967296) (h2 : n2 < 4294967296) : q_P E (q_mt 129) [x_R 0, .inl n1, .inl n2] h z_R := by rw [z_arg h1, z_arg h2]; exact z_cls hI (fun Q k => sf_129_0 (x_s_lo _) (x_s_hi _) (x_s_lo _) (x_s_hi _) hI.2.1 (fun v _ _ => k _ v hI.2.1 y_fr_rf))
theorem z_p182 {E : q_E} {h : q_H} (hI : z_LI h) {n1 n2 : Nat} (h1 : n1 < 4294967296) (h2 : n2 < 4294967296) : q_P E (q_mt 182) [x_R 138, .inl n1, .inl n2] h z_R := by rw [z_arg h1, z_arg h2]; exact z_ref hI (fun Q k => c_182 (x_s_lo _) (x_s_hi _) (x_s_lo _) (x_s_hi _) hI.2.2.1.2.1 (fun _ _ _ => k _ _ hI.2.2.1 (fun _ _ _ => rfl) rfl) (fun _ => k _ _ hI.2.2.1 (fun _ _ _ => rfl) rfl))
theorem z_p130 {E : q_E} {h : q_H} (hI : z_LI h) {n1 n2 : Nat} (h1 : n1 < 4294967296) (h2 : n2 < 4294967296) : q_P E (q_mt 130) [x_R 0, .inl n1, .inl n2] h z_R := by rw [z_arg h1, z_arg h2]; exact z_cls hI (fun Q k => sf_130_0 (x_s_lo _) (x_s_hi _) (x_s_lo _) (x_s_hi _) hI.2.1 (fun v _ _ => k _ v hI.2.1 y_fr_rf))
theorem z_p183 {E : q_E} {h : q_H} (hI : z_LI h) {n1 n2 : Nat} (h1 : n1 < 4294967296) (h2 : n2 < 4294967296) : q_P E (q_mt 183) [x_R 138, .inl n1, .inl n2] h z_R := by rw [z_arg h1, z_arg h2]; exact z_ref hI (fun Q k => c_183 (x_s_lo _) (x_s_hi _) (x_s_lo _) (x_s_hi _) hI.2.2.1.2.1 (fun _ => k _ _ hI.2.2.1 (fun _ _ _ => rfl) rfl) (fun _ _ _ => k _ _ hI.2.2.1 (fun _ _ _ => rfl) rfl) (fun _ => k _ _ hI.2.2.1 (fun _ _ _ => rfl) rfl))
theorem z_p131 {E : q_E} {h : q_H} (hI : z_LI h) {n1 : Nat} (h1 : n1 < 4294967296) : q_P E (q_mt 131) [x_R 0, .inl n1] h z_R := by rw [z_arg h1]; exact z_cls hI (fun Q k => sf_131_0 (x_s_lo _) (x_s_hi _) hI.2.1 (fun τ v C f _ _ => k τ v C f))
theorem z_p184 {E : q_E} {h : q_H} (hI : z_LI h) {n1 : Nat} (h1 : n1 < 4294967296) : q_P E (q_mt 184) [x_R 138, .inl n1] h z_R := by rw [z_arg h1]; exact z_ref hI (fun Q k => c_184 (x_s_lo _) (x_s_hi _) hI.2.2.1 (fun τ v a b c _ _ => k τ v a b c))
theorem z_p132 {E : q_E} {h : q_H} (hI : z_LI h) {n1 : Nat} (h1 : n1 < 4294967296) : q_P E (q_mt 132) [x_R 0, .inl n1] h z_R := by rw [z_arg h1]; exact z_cls hI (fun Q k => sf_132_0 (x_s_lo _) (x_s_hi _) hI.2.1 (fun τ v C f _ _ => k τ v C f))
theorem z_p185 {E : q_E} {h : q_H} (hI : z_LI h) {n1 : Nat} (h1 : n1 < 4294967296) : q_P E (q_mt 185) [x_R 138, .inl n1] h z_R := by rw [z_arg h1]; exact z_ref hI (fun Q k => c_185 (x_s_lo _) (x_s_hi _) hI.2.2.1 (fun τ v a b c _ _ => k τ v a b c))
theorem z_p133 {E : q_E} {h : q_H} (hI : z_LI h) {n1 n2 : Nat} (h1 : n1 < 4294967296) (h2 : n2 < 4294967296) : q_P E (q_mt 133) [x_R 0, .inl n1, .inl n2] h z_R := by rw [z_arg h1, z_arg h2]; exact z_cls hI (fun Q k => sf_133_0 (x_s_lo _) (x_s_hi _) (x_s_lo _) (x_s_hi _) hI.2.1 (fun τ v C f _ _ => k τ v C f))
theorem z_p186 {E : q_E} {h : q_H} (hI : z_LI h) {n1 n2 : Nat} (h1 : n1 < 4294967296) (h2 : n2 < 4294967296) : q_P E (q_mt 186) [x_R 138, .inl n1, .inl n2] h z_R := by rw [z_arg h1, z_arg h2]; exact z_ref hI (fun Q k => c_186 (x_s_lo _) (x_s_hi _) (x_s_lo _) (x_s_hi _) hI.2.2.1 (fun τ v a b c _ _ => k τ v a b c))
theorem z_p134 {E : q_E} {h : q_H} (hI : z_LI h) {n1 n2 n3 : Nat} (h1 : n1 < 4294967296) (h2 : n2 < 4294967296) (h3 : n3 < 4294967296) : q_P E (q_mt 134) [x_R 0, .inl n1, .inl n2, .inl n3] h z_R := by rw [z_arg h1, z_arg h2, z_arg h3]; exact z_cls hI (fun Q k => sf_134_0 (x_s_lo _) (x_s_hi _) (x_s_lo _) (x_s_hi _) (x_s_lo _) (x_s_hi _) hI.2.1 (fun τ v C f _ _ => k τ v C f))
theorem z_p187 {E : q_E} {h : q_H} (hI : z_LI h) {n1 n2 n3 : Nat} (h1 : n1 < 4294967296) (h2 : n2 < 4294967296) (h3 : n3 < 4294967296) : q_P E (q_mt 187) [x_R 138, .inl n1, .inl n2, .inl n3] h z_R := by rw [z_arg h1, z_arg h2, z_arg h3]; exact z_ref hI (fun Q k => c_187 (x_s_lo _) (x_s_hi _) (x_s_lo _) (x_s_hi _) (x_s_lo _) (x_s_hi _) hI.2.2.1 (fun τ v a b c _ _ => k τ v a b c))
theorem z_p136 {E : q_E} {h : q_H} (hI : z_LI h) {n1 n2 n3 : Nat} (h1 : n1 < 4294967296) (h2 : n2 < 4294967296) (h3 : n3 < 4294967296) : q_P E (q_mt 136) [x_R 0, .inl n1, .inl n2, .inl n3] h z_R := by rw [z_arg h1, z_arg h2, z_arg h3]; exact z_cls hI (fun Q k => sf_136_0 (x_s_lo _) (x_s_hi _) (x_s_lo _) (x_s_hi _) (x_s_lo _) (x_s_hi _) hI.2.1 (fun τ v C f _ _ => k τ v C f))
theorem z_p188 {E : q_E} {h : q_H} (hI : z_LI h) {n1 n2 n3 : Nat} (h1 : n1 < 4294967296) (h2 : n2 < 4294967296) (h3 : n3 < 4294967296) : q_P E (q_mt 188) [x_R 138, .inl n1, .inl n2, .inl n3] h z_R := by rw [z_arg h1, z_arg h2, z_arg h3]; exact z_ref hI (fun Q k => c_188 (x_s_lo _) (x_s_hi _) (x_s_lo _) (x_s_hi _) (x_s_lo _) (x_s_hi _) hI.2.2.1 (fun τ v a b c _ _ => k τ v a b c))
theorem z_p137 {E : q_E} {h : q_H} (hI : z_LI h) {n1 n2 : Nat} (h1 : n1 < 4294967296) (h2 : n2 < 4294967296) : q_P E (q_mt 137) [x_R 0, .inl n1, .inl n2] h z_R := by rw [z_arg h1, z_arg h2]; exact z_cls hI (fun Q k => sf_137_0 (x_s_lo _) (x_s_hi _) (x_s_lo _) (x_s_hi _) hI.2.1 (fun τ v C f _ _ => k τ v C f))
theorem z_p189 {E : q_E} {h : q_H} (hI : z_LI h) {n1 n2 : Nat} (h1 : n1 < 4294967296) (h2 : n2 < 4294967296) : q_P E (q_mt 189) [x_R 138, .inl n1, .inl n2] h z_R := by rw [z_arg h1, z_arg h2]; exact z_ref hI (fun Q k => c_189 (x_s_lo _) (x_s_hi _) (x_s_lo _) (x_s_hi _) hI.2.2.1 (fun τ v a b c _ _ => k τ v a b c))
theorem z_p138 {E : q_E} {h : q_H} (hI : z_LI h) : q_P E (q_mt 138) [x_R 0] h z_R := by exact z_cls hI (fun Q k => sf_138_0  hI.2.1 (fun τ v C f _ _ => k τ v C f))
theorem z_p190 {E : q_E} {h : q_H} (hI : z_LI h) : q_P E (q_mt 190) [x_R 138] h z_R := by exact z_ref hI (fun Q k => c_190  hI.2.2.1 (fun τ v a b c _ _ => k τ v a b c))
theorem z_p140 {E : q_E} {h : q_H} (hI : z_LI h) {n1 n2 n3 n4 : Nat} (h1 : n1 < 4294967296) (h2 : n2 < 4294967296) (h3 : n3 < 4294967296) (h4 : n4 < 4294967296) : q_P E (q_mt 140) [x_R 0, .inl n1, .inl n2, .inl n3, .inl n4] h z_R := by rw [z_arg h1, z_arg h2, z_arg h3, z_arg h4]; exact z_cls hI (fun Q k => sf_140_0 (x_s_lo _) (x_s_hi _) (x_s_lo _) (x_s_hi _) (x_s_lo _) (x_s_hi _) (x_s_lo _) (x_s_hi _) hI.2.1 (fun τ v C f _ _ => k τ v C f))
theorem z_p191 {E : q_E} {h : q_H} (hI : z_LI h) {n1 n2 n3 n4 : Nat} (h1 : n1 < 4294967296) (h2 : n2 < 4294967296) (h3 : n3 < 4294967296) (h4 : n4 < 4294967296) : q_P E (q_mt 191) [x_R 138, .inl n1, .inl n2, .inl n3, .inl n4] h z_R := by rw [z_arg h1, z_arg h2, z_arg h3, z_arg h4]; exact z_ref hI (fun Q k => rs_191 (x_s_lo _) (x_s_hi _) (x_s_lo _) (x_s_hi _) (x_s_lo _) (x_s_hi _) (x_s_lo _) (x_s_hi _) hI.2.2.1 (fun τ v a b c _ _ => k τ v a b c))
theorem z_p153 {E : q_E} {h : q_H} (hI : z_LI h) {n1 n2 : Nat} (h1 : n1 < 4294967296) (h2 : n2 < 4294967296) : q_P E (q_mt 153) [x_R 0, .inl n1, .inl n2] h z_R := by rw [z_arg h1, z_arg h2]; exact z_cls hI (fun Q k => sf_153_0 (x_s_lo _) (x_s_hi _) (x_s_lo _) (x_s_hi _) hI.2.1 (fun τ v C f _ _ => k τ v C f))
theorem z_p192 {E : q_E} {h : q_H} (hI : z_LI h) {n1 n2 : Nat} (h1 : n1 < 4294967296) (h2 : n2 < 4294967296) : q_P E (q_mt 192) [x_R 138, .inl n1, .inl n2] h z_R := by rw [z_arg h1, z_arg h2]; exact z_ref hI (fun Q k => rs_192 (x_s_lo _) (x_s_hi _) (x_s_lo _) (x_s_hi _) hI.2.2.1 (fun τ v a b c _ _ => k τ v a b c))
theorem z_p155 {E : q_E} {h : q_H} (hI : z_LI h) {n1 n2 : Nat} (h1 : n1 < 4294967296) (h2 : n2 < 4294967296) : q_P E (q_mt 155) [x_R 0, .inl n1, .inl n2] h z_R := by rw [z_arg h1, z_arg h2]; exact z_cls hI (fun Q k => sf_155_0 (x_s_lo _) (x_s_hi _) (x_s_lo _) (x_s_hi _) hI.2.1 (fun τ v C f _ _ => k τ v C f))
theorem z_p193 {E : q_E} {h : q_H} (hI : z_LI h) {n1 n2 : Nat} (h1 : n1 < 4294967296) (h2 : n2 < 4294967296) : q_P E (q_mt 193) [x_R 138, .inl n1, .inl n2] h z_R := by rw [z_arg h1, z_arg h2]; exact z_ref hI (fun Q k => rs_193 (x_s_lo _) (x_s_hi _) (x_s_lo _) (x_s_hi _) hI.2.2.1 (fun τ v a b c _ _ => k τ v a b c))
theorem z_p156 {E : q_E} {h : q_H} (hI : z_LI h) {n1 n2 : Nat} (h1 : n1 < 4294967296) (h2 : n2 < 4294967296) : q_P E (q_mt 156) [x_R 0, .inl n1, .inl n2] h z_R := by rw [z_arg h1, z_arg h2]; exact z_cls hI (fun Q k => sf_156_0 (x_s_lo _) (x_s_hi _) (x_s_lo _) (x_s_hi _) hI.2.1 (fun v _ _ => k _ v hI.2.1 y_fr_rf))
theorem z_p197 {E : q_E} {h : q_H} (hI : z_LI h) {n1 n2 : Nat} (h1 : n1 < 4294967296) (h2 : n2 < 4294967296) : q_P E (q_mt 197) [x_R 138, .inl n1, .inl n2] h z_R := by rw [z_arg h1, z_arg h2]; exact z_ref hI (fun Q k => rs_197 (x_s_lo _) (x_s_hi _) (x_s_lo _) (x_s_hi _) hI.2.2.1 (fun τ v a b c _ _ => k τ v a b c))
theorem z_p158 {E : q_E} {h : q_H} (hI : z_LI h) {n1 n2 n3 : Nat} (h1 : n1 < 4294967296) (h2 : n2 < 4294967296) (h3 : n3 < 4294967296) : q_P E (q_mt 158) [x_R 0, .inl n1, .inl n2, .inl n3] h z_R := by rw [z_arg h1, z_arg h2, z_arg h3]; exact z_cls hI (fun Q k => sf_158_0 (x_s_lo _) (x_s_hi _) (x_s_lo _) (x_s_hi _) (x_s_lo _) (x_s_hi _) hI.2.1 (fun τ v C f _ _ => k τ v C f))
theorem z_p198 {E : q_E} {h : q_H} (hI : z_LI h) {n1 n2 n3 : Nat} (h1 : n1 < 4294967296) (h2 : n2 < 4294967296) (h3 : n3 < 4294967296) : q_P E (q_mt 198) [x_R 138, .inl n1, .inl n2, .inl n3] h z_R := by rw [z_arg h1, z_arg h2, z_arg h3]; exact z_ref hI (fun Q k => rs_198 (x_s_lo _) (x_s_hi _) (x_s_lo _) (x_s_hi _) (x_s_lo _) (x_s_hi _) hI.2.2.1 (fun τ v a b c _ _ => k τ v a b c))
theorem z_p159 {E : q_E} {h : q_H} (hI : z_LI h) {n1 : Nat} (h1 : n1 < 4294967296) : q_P E (q_mt 159) [x_R 0, .inl n1] h z_R := by rw [z_arg h1]; exact z_cls hI (fun Q k => sf_159_0 (x_s_lo _) (x_s_hi _) hI.2.1 (fun τ v C f _ _ => k τ v C f))
theorem z_p199 {E : q_E} {h : q_H} (hI : z_LI h) {n1 : Nat} (h1 : n1 < 4294967296) : q_P E (q_mt 199) [x_R 138, .inl n1] h z_R := by rw [z_arg h1]; exact z_ref hI (fun Q k => rs_199 (x_s_lo _) (x_s_hi _) hI.2.2.1 (fun τ v a b c _ _ => k τ v a b c))
theorem z_p160 {E : q_E} {h : q_H} (hI : z_LI h) {n1 n2 n3 : Nat} (h1 : n1 < 4294967296) (h2 : n2 < 4294967296) (h3 : n3 < 4294967296) : q_P E (q_mt 160) [x_R 0, .inl n1, .inl n2, .inl n3] h z_R := by rw [z_arg h1, z_arg h2, z_arg h3]; exact z_cls hI (fun Q k => sf_160_0 (x_s_lo _) (x_s_hi _) (x_s_lo _) (x_s_hi _) (x_s_lo _) (x_s_hi _) hI.2.1 (fun τ v C f _ _ => k τ v C f))
theorem z_p200 {E : q_E} {h : q_H} (hI : z_LI h) {n1 n2 n3 : Nat} (h1 : n1 < 4294967296) (h2 : n2 < 4294967296) (h3 : n3 < 4294967296) : q_P E (q_mt 200) [x_R 138, .inl n1, .inl n2, .inl n3] h z_R := by rw [z_arg h1, z_arg h2, z_arg h3]; exact z_ref hI (fun Q k => rs_200 (x_s_lo _) (x_s_hi _) (x_s_lo _) (x_s_hi _) (x_s_lo _) (x_s_hi _) hI.2.2.1 (fun τ v a b c _ _ => k τ v a b c))
theorem z_p162 {E : q_E} {h : q_H} (hI : z_LI h) {n1 n2 n3 : Nat} (h1 : n1 < 4294967296) (h2 : n2 < 4294967296) (h3 : n3 < 4294967296) : q_P E (q_mt 162) [x_R 0, .inl n1, .inl n2, .inl n3] h z_R := by rw [z_arg h1, z_arg h2, z_arg h3]; exact z_cls hI (fun Q k => sf_162_0 (x_s_lo _) (x_s_hi _) (x_s_lo _) (x_s_hi _) (x_s_lo _) (x_s_hi _) hI.2.1 (fun τ v C f _ _ => k τ v C f))
theorem z_p205 {E : q_E} {h : q_H} (hI : z_LI h) {n1 n2 n3 : Nat} (h1 : n1 < 4294967296) (h2 : n2 < 4294967296) (h3 : n3 < 4294967296) : q_P E (q_mt 205) [x_R 138, .inl n1, .inl n2, .inl n3] h z_R := by rw [z_arg h1, z_arg h2, z_arg h3]; exact z_ref hI (fun Q k => rs_205 (x_s_lo _) (x_s_hi _) (x_s_lo _) (x_s_hi _) (x_s_lo _) (x_s_hi _) hI.2.2.1 (fun τ v a b c _ _ => k τ v a b c))
theorem z_p165 {E : q_E} {h : q_H} (hI : z_LI h) {n1 n2 n3 : Nat} (h1 : n1 < 4294967296) (h2 : n2 < 4294967296) (h3 : n3 < 4294967296) : q_P E (q_mt 165) [x_R 0, .inl n1, .inl n2, .inl n3] h z_R := by rw [z_arg h1, z_arg h2, z_arg h3]; exact z_cls hI (fun Q k => sf_165_0 (x_s_lo _) (x_s_hi _) (x_s_lo _) (x_s_hi _) (x_s_lo _) (x_s_hi _) hI.2.1 (fun τ v C f _ _ => k τ v C f))
theorem z_p208 {E : q_E} {h : q_H} (hI : z_LI h) {n1 n2 n3 : Nat} (h1 : n1 < 4294967296) (h2 : n2 < 4294967296) (h3 : n3 < 4294967296) : q_P E (q_mt 208) [x_R 138, .inl n1, .inl n2, .inl n3] h z_R := by rw [z_arg h1, z_arg h2, z_arg h3]; exact z_ref hI (fun Q k => rs_208 (x_s_lo _) (x_s_hi _) (x_s_lo _) (x_s_hi _) (x_s_lo _) (x_s_hi _) hI.2.2.1 (fun τ v a b c _ _ => k τ v a b c))
theorem z_p166 {E : q_E} {h : q_H} (hI : z_LI h) : q_P E (q_mt 166) [x_R 0] h z_R := by exact z_cls hI (fun Q k => sf_166_0  hI.2.1 (fun τ v C f _ _ => k τ v C f))
theorem z_p209 {E : q_E} {h : q_H} (hI : z_LI h) : q_P E (q_mt 209) [x_R 138] h z_R := by exact z_ref hI (fun Q k => c_209  hI.2.2.1 (fun τ v a b c _ _ => k τ v a b c))
theorem z_p167 {E : q_E} {h : q_H} (hI : z_LI h) : q_P E (q_mt 167) [x_R 0] h z_R := by exact z_cls hI (fun Q k => sf_167_0  hI.2.1 (fun τ v C f _ _ => k τ v C f))
theorem z_p210 {E : q_E} {h : q_H} (hI : z_LI h) : q_P E (q_mt 210) [x_R 138] h z_R := by exact z_ref hI (fun Q k => c_210  hI.2.2.1 (fun τ v a b c _ _ => k τ v a b c))
theorem z_p168 {E : q_E} {h : q_H} (hI : z_LI h) {n1 : Nat} (h1 : n1 < 4294967296) : q_P E (q_mt 168) [x_R 0, .inl n1] h z_R := by rw [z_arg h1]; exact z_cls hI (fun Q k => sf_168_0 (x_s_lo _) (x_s_hi _) hI.2.1 (fun v _ _ => k _ v hI.2.1 y_fr_rf))
theorem z_p211 {E : q_E} {h : q_H} (hI : z_LI h) {n1 : Nat} (h1 : n1 < 4294967296) : q_P E (q_mt 211) [x_R 138, .inl n1] h z_R := by rw [z_arg h1]; exact z_ref hI (fun Q k => rs_211 (x_s_lo _) (x_s_hi _) hI.2.2.1 (fun τ v a b c _ _ => k τ v a b c))
