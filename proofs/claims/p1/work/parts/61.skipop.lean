/-! the passing over as an operation; stops; summaries -/
noncomputable def e_nz (x : Nat) : Bool := cond (Nat.beq (q_bi x) 2147483648) false true
theorem e_nz_f {x : Nat} (h : e_nz x = false) : q_bi x = 2147483648 := by
  unfold e_nz at h
  cases hb : Nat.beq (q_bi x) 2147483648 with
  | true => exact e_eq hb
  | false => rw [hb] at h; cases h
noncomputable def k_f (dC f one : Nat) : Bool := cond (Nat.ble 2 f) (e_nz (q_rd dC one)) (Nat.beq one 0)
noncomputable def k_s (dC f _one two : Nat) : Bool := cond (Nat.ble 3 f) (e_nz (q_rd dC two)) (Nat.beq two 0)
noncomputable def k_z (dS f one two : Nat) : Nat := ((1 + cond (Nat.ble 2 f) (q_rd dS one) 0) % 4294967296 + cond (Nat.ble 3 f) (q_rd dS two) 0) % 4294967296
noncomputable def k_s2 (dC dS n f one two : Nat) : Bool := and (k_s dC f one two) (Nat.beq (q_bi (k_z dS f one two)) (q_bi n))
theorem z_cv_p (f : Nat) : (0 < z_cv f ↔ 2 ≤ f) ∧ (1 < z_cv f ↔ 3 ≤ f) := by
  unfold z_cv
  split
  · omega
  · split <;> omega
theorem k_f_f {dC f one : Nat} (h : k_f dC f one = false) : ¬ z_may1 dC (z_cv f) one := by
  intro w
  unfold z_may1 at w
  unfold k_f at h
  cases hb : Nat.ble 2 f with
  | true =>
    rw [hb, cond_true] at h
    rw [if_pos ((z_cv_p f).1.mpr (e_le hb))] at w
    exact w (e_nz_f h)
  | false =>
    rw [hb, cond_false] at h
    rw [if_neg (fun z => e_nle hb ((z_cv_p f).1.mp z))] at w
    exact e_neq h w
theorem k_s_f {dC f one two : Nat} (h : k_s dC f one two = false) : ¬ z_may2 dC (z_cv f) two := by
  intro w
  unfold z_may2 at w
  unfold k_s at h
  cases hb : Nat.ble 3 f with
  | true =>
    rw [hb, cond_true] at h
    rw [if_pos ((z_cv_p f).2.mpr (e_le hb))] at w
    exact w (e_nz_f h)
  | false =>
    rw [hb, cond_false] at h
    rw [if_neg (fun z => e_nle hb ((z_cv_p f).2.mp z))] at w
    exact e_neq h w
theorem k_z_eq (dS f one two : Nat) : k_z dS f one two = z_szv dS (z_cv f) one two := by
  unfold k_z z_szv
  have e1 : cond (Nat.ble 2 f) (q_rd dS one) 0 = if 0 < z_cv f then q_rd dS one else 0 := by
    cases hb : Nat.ble 2 f with
    | true => rw [if_pos ((z_cv_p f).1.mpr (e_le hb))]; rfl
    | false => rw [if_neg (fun z => e_nle hb ((z_cv_p f).1.mp z))]; rfl
  have e2 : cond (Nat.ble 3 f) (q_rd dS two) 0 = if 1 < z_cv f then q_rd dS two else 0 := by
    cases hb : Nat.ble 3 f with
    | true => rw [if_pos ((z_cv_p f).2.mpr (e_le hb))]; rfl
    | false => rw [if_neg (fun z => e_nle hb ((z_cv_p f).2.mp z))]; rfl
  rw [e1, e2]
theorem k_s2_f {dC dS n f one two : Nat} (h : k_s2 dC dS n f one two = false) : z_may2 dC (z_cv f) two → ¬ q_bi (z_szv dS (z_cv f) one two) = q_bi n := by
  intro w y
  unfold k_s2 at h
  cases hb : k_s dC f one two with
  | false => exact k_s_f hb w
  | true =>
    rw [hb, k_z_eq, Bool.true_and] at h
    exact e_neq h y
/-- the next number from c on that isn't passed over -/
noncomputable def e_sk (a : Nat → Nat → Bool) (b : Nat → Nat → Nat → Bool) (n : Nat) : Nat → (Nat → Bool) → Bool := Nat.rec (motive := fun _ => Nat → (Nat → Bool) → Bool) (fun c k => k c) (fun _ ih c k => cond (Nat.ble 14580 c) (k c) (e_frc (c / 2916) (fun f => e_frc (c / 54 % 54) (fun one => cond (a f one) (e_frc (c % 54) (fun two => cond (b f one two) (k c) (e_frc (c + 1) (fun c => ih c k)))) (e_frc ((c / 54 + 1) * 54) (fun c => ih c k)))))) n
theorem e_sk_ok {a : Nat → Nat → Bool} {b : Nat → Nat → Nat → Bool} : ∀ {n c : Nat} {k : Nat → Bool}, e_sk a b n c k = true → ∃ c', k c' = true ∧ c ≤ c' ∧ ∀ x, c ≤ x → x < c' → x < 14580 ∧ (a (x / 2916) (x / 54 % 54) = false ∨ b (x / 2916) (x / 54 % 54) (x % 54) = false)
  | 0, c, k, h => ⟨c, h, Nat.le_refl c, fun x h1 h2 => by omega⟩
  | n + 1, c, k, h => by
    have h : cond (Nat.ble 14580 c) (k c) (e_frc (c / 2916) (fun f => e_frc (c / 54 % 54) (fun one => cond (a f one) (e_frc (c % 54) (fun two => cond (b f one two) (k c) (e_frc (c + 1) (fun c => e_sk a b n c k)))) (e_frc ((c / 54 + 1) * 54) (fun c => e_sk a b n c k))))) = true := h
    cases hb : Nat.ble 14580 c with
    | true => rw [hb] at h; exact ⟨c, h, Nat.le_refl c, fun x h1 h2 => by omega⟩
    | false =>
      rw [hb] at h
      have hc : c < 14580 := by have := e_nle hb; omega
      have h : e_frc (c / 2916) (fun f => e_frc (c / 54 % 54) (fun one => cond (a f one) (e_frc (c % 54) (fun two => cond (b f one two) (k c) (e_frc (c + 1) (fun c => e_sk a b n c k)))) (e_frc ((c / 54 + 1) * 54) (fun c => e_sk a b n c k)))) = true := h
      rw [e_frc_eq, e_frc_eq] at h
      cases ha : a (c / 2916) (c / 54 % 54) with
      | false =>
        rw [ha] at h
        have h : e_frc ((c / 54 + 1) * 54) (fun c => e_sk a b n c k) = true := h
        rw [e_frc_eq] at h
        obtain ⟨c', k1, k2, k3⟩ := e_sk_ok h
        refine ⟨c', k1, by omega, fun x h1 h2 => ?_⟩
        by_cases hx : x < (c / 54 + 1) * 54
        · have e1 : x / 54 = c / 54 := by omega
          have e2 : x / 2916 = c / 2916 := by omega
          exact ⟨by omega, Or.inl (by rw [e2, e1]; exact ha)⟩
        · exact k3 x (by omega) h2
      | true =>
        rw [ha] at h
        have h : e_frc (c % 54) (fun two => cond (b (c / 2916) (c / 54 % 54) two) (k c) (e_frc (c + 1) (fun c => e_sk a b n c k))) = true := h
        rw [e_frc_eq] at h
        cases hs : b (c / 2916) (c / 54 % 54) (c % 54) with
        | true => rw [hs] at h; exact ⟨c, h, Nat.le_refl c, fun x h1 h2 => by omega⟩
        | false =>
          rw [hs] at h
          have h : e_frc (c + 1) (fun c => e_sk a b n c k) = true := h
          rw [e_frc_eq] at h
          obtain ⟨c', k1, k2, k3⟩ := e_sk_ok h
          refine ⟨c', k1, by omega, fun x h1 h2 => ?_⟩
          by_cases hx : x = c
          · subst hx; exact ⟨hc, Or.inr hs⟩
          · exact k3 x (by omega) h2
theorem z_iter {P : Nat → Prop} {c c' : Nat} (hle : c ≤ c') (step : ∀ x, c ≤ x → x < c' → P (x + 1) → P x) (h : P c') : P c := by
  obtain ⟨d, rfl⟩ := Nat.exists_eq_add_of_le hle
  induction d with
  | zero => exact h
  | succ d ih => exact ih (by omega) (fun x h1 h2 => step x h1 (by omega)) (step (c + d) (by omega) (by omega) h)
noncomputable def e_nil2 (st : List q_V) (ce sl : Nat) (k : Bool) : Bool := e_nil st (cond (and (Nat.beq ce 0) (Nat.beq sl 0)) k false)
theorem e_nil2_ok {st : List q_V} {ce sl : Nat} {k : Bool} (h : e_nil2 st ce sl k = true) : st = [] ∧ ce = 0 ∧ sl = 0 ∧ k = true := by
  obtain ⟨h1, h2⟩ := e_nil_ok h
  obtain ⟨h3, h4⟩ := e_cnd h2
  obtain ⟨h5, h6⟩ := e_and h3
  exact ⟨h1, e_eq h5, e_eq h6, h4⟩
noncomputable def e_prd (n : Nat) (k : Nat → Bool) : Bool := Nat.rec (motive := fun _ => Bool) false (fun m _ => k m) n
theorem e_prd_ok {n : Nat} {k : Nat → Bool} (h : e_prd n k = true) : ∃ m, n = m + 1 ∧ k m = true := by
  cases n with
  | zero => cases h
  | succ m => exact ⟨m, rfl, h⟩
theorem z_lo4 {lo : q_Lo} {a b c d : q_V} (h3 : q_lg lo 3 = some a) (h2 : q_lg lo 2 = some b) (h1 : q_lg lo 1 = some c) (h0 : q_lg lo 0 = some d) : ∀ x ∈ ([(3, a), (2, b), (1, c), (0, d)] : q_Lo), ∃ k : Nat, lo[k]? = some x := by
  intro x hx
  simp only [List.mem_cons, List.not_mem_nil, or_false] at hx
  rcases hx with rfl | rfl | rfl | rfl
  · exact q_lg_get h3
  · exact q_lg_get h2
  · exact q_lg_get h1
  · exact q_lg_get h0
noncomputable def o_sk1 : q_Op := fun B lo st ce sl h ks _ _ _ => e_nil2 st ce sl (e_lg lo 0 (fun v0 => e_isR v0 (fun r0 => e_lg lo 1 (fun v1 => e_lg lo 2 (fun v2 => e_lg lo 3 (fun v3 => e_is v3 (fun c => cond (and (Nat.beq (q_cat v1) 1) (Nat.beq (q_cat v2) 1)) (e_cel h r0 (fun t _ dM => cond (Nat.beq t 14) (e_prd (q_rd dM 28) (fun rc => e_cel h rc (fun t' n' dC => cond (and (Nat.beq t' 3) (Nat.beq n' 54)) (e_sk (k_f dC) (k_s dC) 20000 c (fun c' => ks B [(3, .inl c'), (2, v2), (1, v1), (0, .inr (.inl r0))] [] 0 0 h)) false))) false)) false) (fun _ => false)))))))
theorem o_sk1_ok {E : q_E} {tg : Nat → Nat} {mt : Nat → q_M} : q_OK E tg mt m_118 51 51 o_sk1 := by
  intro Q B lo st ce sl h ks kj kr kc hB hs hj hr hc e
  replace e := e_nil2_ok e
  obtain ⟨rfl, rfl, rfl, e⟩ := e
  replace e := e_lg_ok e
  obtain ⟨v0, l0, e⟩ := e
  replace e := e_isR_ok e
  obtain ⟨r0, rfl, e⟩ := e
  replace e := e_lg_ok e
  obtain ⟨v1, l1, e⟩ := e
  replace e := e_lg_ok e
  obtain ⟨v2, l2, e⟩ := e
  replace e := e_lg_ok e
  obtain ⟨v3, l3, e⟩ := e
  replace e := e_is_ok e
  rcases e with ⟨c, rfl, e⟩ | ⟨s, -, e⟩
  rotate_left
  · cases e
  replace e := e_cnd e
  obtain ⟨e0, e⟩ := e
  obtain ⟨x1, x2⟩ := e_and e0
  replace e := e_cel_ok e
  obtain ⟨t, n0, dM, hM, e⟩ := e
  replace e := e_cnd e
  obtain ⟨e1, e⟩ := e
  rw [e_eq e1] at hM
  replace e := e_prd_ok e
  obtain ⟨rc, hrc, e⟩ := e
  replace e := e_cel_ok e
  obtain ⟨t', n', dC, hC, e⟩ := e
  replace e := e_cnd e
  obtain ⟨e2, e⟩ := e
  obtain ⟨x3, x4⟩ := e_and e2
  rw [e_eq x3, e_eq x4] at hC
  replace e := e_sk_ok e
  obtain ⟨c', e, hle, hq⟩ := e
  have kz := hs _ _ _ _ _ _ hB e
  refine z_lsub (z_lo4 l3 l2 l1 l0) ?_
  refine z_iter (P := fun c => q_W E m_118 Q 51 [(3, .inl c), (2, v2), (1, v1), (0, .inr (.inl r0))] [] 0 0 h) hle (fun x g1 g2 g3 => ?_) kz
  obtain ⟨w1, w2⟩ := hq x g1 g2
  refine z_sk1 E (e_eq x1) (e_eq x2) hM hrc hC w1 (fun y => ?_) g3
  rcases w2 with w2 | w2
  · exact k_f_f w2 y.1
  · exact k_s_f w2 y.2
noncomputable def o_sk2 : q_Op := fun B lo st ce sl h ks _ _ _ => e_nil2 st ce sl (e_lg lo 0 (fun v0 => e_isR v0 (fun r0 => e_lg lo 1 (fun v1 => e_lg lo 2 (fun v2 => e_is v2 (fun n => e_lg lo 3 (fun v3 => e_is v3 (fun c => cond (Nat.beq (q_cat v1) 1) (e_cel h r0 (fun t _ dM => cond (Nat.beq t 14) (e_prd (q_rd dM 28) (fun rc => e_cel h rc (fun t' n' dC => cond (and (Nat.beq t' 3) (Nat.beq n' 54)) (e_prd (q_rd dM 29) (fun rs => e_cel h rs (fun t'' n'' dS => cond (and (Nat.beq t'' 0) (Nat.beq n'' 54)) (e_sk (k_f dC) (k_s2 dC dS n) 20000 c (fun c' => ks B [(3, .inl c'), (2, .inl n), (1, v1), (0, .inr (.inl r0))] [] 0 0 h)) false))) false))) false)) false) (fun _ => false))) (fun _ => false))))))
theorem o_sk2_ok {E : q_E} {tg : Nat → Nat} {mt : Nat → q_M} : q_OK E tg mt m_201 15 15 o_sk2 := by
  intro Q B lo st ce sl h ks kj kr kc hB hs hj hr hc e
  replace e := e_nil2_ok e
  obtain ⟨rfl, rfl, rfl, e⟩ := e
  replace e := e_lg_ok e
  obtain ⟨v0, l0, e⟩ := e
  replace e := e_isR_ok e
  obtain ⟨r0, rfl, e⟩ := e
  replace e := e_lg_ok e
  obtain ⟨v1, l1, e⟩ := e
  replace e := e_lg_ok e
  obtain ⟨v2, l2, e⟩ := e
  replace e := e_is_ok e
  rcases e with ⟨n, rfl, e⟩ | ⟨s, -, e⟩
  rotate_left
  · cases e
  replace e := e_lg_ok e
  obtain ⟨v3, l3, e⟩ := e
  replace e := e_is_ok e
  rcases e with ⟨c, rfl, e⟩ | ⟨s, -, e⟩
  rotate_left
  · cases e
  replace e := e_cnd e
  obtain ⟨x1, e⟩ := e
  replace e := e_cel_ok e
  obtain ⟨t, n0, dM, hM, e⟩ := e
  replace e := e_cnd e
  obtain ⟨e1, e⟩ := e
  rw [e_eq e1] at hM
  replace e := e_prd_ok e
  obtain ⟨rc, hrc, e⟩ := e
  replace e := e_cel_ok e
  obtain ⟨t', n', dC, hC, e⟩ := e
  replace e := e_cnd e
  obtain ⟨e2, e⟩ := e
  obtain ⟨x3, x4⟩ := e_and e2
  rw [e_eq x3, e_eq x4] at hC
  replace e := e_prd_ok e
  obtain ⟨rs, hrs, e⟩ := e
  replace e := e_cel_ok e
  obtain ⟨t'', n'', dS, hS, e⟩ := e
  replace e := e_cnd e
  obtain ⟨e3, e⟩ := e
  obtain ⟨x5, x6⟩ := e_and e3
  rw [e_eq x5, e_eq x6] at hS
  replace e := e_sk_ok e
  obtain ⟨c', e, hle, hq⟩ := e
  have kz := hs _ _ _ _ _ _ hB e
  refine z_lsub (z_lo4 l3 l2 l1 l0) ?_
  refine z_iter (P := fun c => q_W E m_201 Q 15 [(3, .inl c), (2, .inl n), (1, v1), (0, .inr (.inl r0))] [] 0 0 h) hle (fun x g1 g2 g3 => ?_) kz
  obtain ⟨w1, w2⟩ := hq x g1 g2
  refine z_sk2 E (e_eq x1) hM hrc hC hrs hS w1 (fun y => ?_) g3
  rcases w2 with w2 | w2
  · exact absurd y.1 (k_f_f w2)
  · exact k_s2_f w2 y.2

