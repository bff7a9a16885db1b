/-! the reference: which rule, which child (as in 92zf) -/
/-- which of the rules from one on is taken -/
def y_isS (A : Nat → Int) (p q f l : Int) (lo n : Nat) (w : Int) : Prop := (w = -4 ∧ ∀ r, lo ≤ r → r < n → ¬ y_mt A p q f l r) ∨ (0 ≤ w ∧ lo ≤ w.toNat ∧ w.toNat < n ∧ y_mt A p q f l w.toNat ∧ (A p.toNat % 2 = 0 → ∀ r, lo ≤ r → r < w.toNat → ¬ y_mt A p q f l r) ∧ (A p.toNat % 2 = 1 → ∀ r, w.toNat < r → r < n → ¬ y_mt A p q f l r))
theorem y_isS_0 {A : Nat → Int} {p q f l : Int} {lo n : Nat} (h : n ≤ lo) : y_isS A p q f l lo n (-4) := Or.inl ⟨rfl, fun r h1 h2 => absurd h2 (by omega)⟩
theorem y_isS_d {A : Nat → Int} {p q f l : Int} {n : Nat} {r r' w w' : Int} (h : y_isS A p q f l (r + 1).toNat n w) (r0 : 0 ≤ r) (rn : r < n) (hr : r' = r - 1) (hc : (A (63 + 12 * r.toNat + 0) = p ∧ A (63 + 12 * r.toNat + 1) = q ∧ A (63 + 12 * r.toNat + 2) = f ∧ (A (63 + 12 * r.toNat + 3) = 2 ∨ A (63 + 12 * r.toNat + 3) = l) ∧ (w = -4 ∨ A p.toNat % 2 = 0) ∧ w' = r) ∨ (¬ (A (63 + 12 * r.toNat + 0) = p ∧ A (63 + 12 * r.toNat + 1) = q ∧ A (63 + 12 * r.toNat + 2) = f ∧ (A (63 + 12 * r.toNat + 3) = 2 ∨ A (63 + 12 * r.toNat + 3) = l) ∧ (w = -4 ∨ A p.toNat % 2 = 0)) ∧ w' = w)) : y_isS A p q f l (r' + 1).toNat n w' := by
  obtain ⟨R, hR⟩ : ∃ R : Nat, r.toNat = R := ⟨_, rfl⟩
  have hRr : r = R := by omega
  have hlo : (r' + 1).toNat = R := by omega
  have hlo2 : (r + 1).toNat = R + 1 := by omega
  rw [hlo]
  rw [hlo2] at h
  rw [hR] at hc
  have mt : y_mt A p q f l R ↔ (A (63 + 12 * R + 0) = p ∧ A (63 + 12 * R + 1) = q ∧ A (63 + 12 * R + 2) = f ∧ (A (63 + 12 * R + 3) = 2 ∨ A (63 + 12 * R + 3) = l)) := by
    rw [show 63 + 12 * R + 1 = 64 + 12 * R by omega, show 63 + 12 * R + 2 = 65 + 12 * R by omega, show 63 + 12 * R + 3 = 66 + 12 * R by omega]
    exact Iff.rfl
  rcases hc with ⟨c0, c1, c2, c3, c4, c5⟩ | ⟨c, c5⟩
  · have m := mt.2 ⟨c0, c1, c2, c3⟩
    have hw' : w'.toNat = R := by omega
    refine Or.inr ⟨by omega, by omega, by omega, by rw [hw']; exact m, fun _ r h1 h2 => absurd h2 (by omega), fun ho r h1 h2 => ?_⟩
    rcases h with ⟨_, h⟩ | ⟨hw, _⟩
    · exact h r (by omega) h2
    · exact absurd c4 (by omega)
  · rw [c5]
    rcases h with ⟨hw, h⟩ | ⟨hw, h1, h2, h3, h4, h5⟩
    · refine Or.inl ⟨hw, fun r hr1 hr2 m => ?_⟩
      by_cases e : r = R
      · rw [e] at m
        have m2 := mt.1 m
        exact c ⟨m2.1, m2.2.1, m2.2.2.1, m2.2.2.2, Or.inl hw⟩
      · exact h r (by omega) hr2 m
    · refine Or.inr ⟨hw, by omega, h2, h3, fun he r hr1 hr2 m => ?_, h5⟩
      by_cases e : r = R
      · rw [e] at m
        have m2 := mt.1 m
        exact c ⟨m2.1, m2.2.1, m2.2.2.1, m2.2.2.2, Or.inr he⟩
      · exact h4 he r (by omega) hr2 m
theorem y_sel_is {A : Nat → Int} {p q f l : Int} : ∀ n : Nat, y_isS A p q f l 0 n (y_sel A p q f l n)
  | 0 => Or.inl ⟨rfl, fun r h1 h2 => absurd h2 (by omega)⟩
  | n + 1 => by
    have ih := y_sel_is (A := A) (p := p) (q := q) (f := f) (l := l) n
    rw [y_sel_s]
    by_cases c : y_mt A p q f l n ∧ (y_sel A p q f l n < 0 ∨ A p.toNat % 2 = 1)
    · rw [if_pos c]
      have en : (n : Int).toNat = n := by omega
      refine Or.inr ⟨by omega, by omega, by omega, by rw [en]; exact c.1, fun he r h1 h2 => ?_, fun _ r h1 h2 => absurd h2 (by omega)⟩
      rcases ih with ⟨_, h⟩ | ⟨hw, _⟩
      · exact h r (by omega) (by omega)
      · exact absurd c.2 (by omega)
    · rw [if_neg c]
      rcases ih with ⟨hw, h⟩ | ⟨hw, h1, h2, h3, h4, h5⟩
      · refine Or.inl ⟨hw, fun r h1 h2 m => ?_⟩
        by_cases e : r = n
        · rw [e] at m
          exact c ⟨m, Or.inl (by omega)⟩
        · exact h r h1 (by omega) m
      · refine Or.inr ⟨hw, by omega, by omega, h3, h4, fun ho r hr1 hr2 m => ?_⟩
        by_cases e : r = n
        · rw [e] at m
          exact c ⟨m, Or.inr ho⟩
        · exact h5 ho r hr1 (by omega) m
theorem y_isS_e {A : Nat → Int} {p q f l : Int} {lo n : Nat} {w : Int} (h : y_isS A p q f l lo n w) (h0 : lo = 0) : w = y_sel A p q f l n := by
  rw [h0] at h
  have g := y_sel_is (A := A) (p := p) (q := q) (f := f) (l := l) n
  obtain ⟨s, hs⟩ : ∃ s, s = y_sel A p q f l n := ⟨_, rfl⟩
  rw [← hs] at g ⊢
  rcases h with ⟨a, b⟩ | ⟨a1, a2, a3, a4, a5, a6⟩
  · rcases g with ⟨c, d⟩ | ⟨c1, c2, c3, c4, c5, c6⟩
    · rw [a, c]
    · exact absurd c4 (b _ (by omega) c3)
  · rcases g with ⟨c, d⟩ | ⟨c1, c2, c3, c4, c5, c6⟩
    · exact absurd a4 (d _ (by omega) a3)
    · have e : A p.toNat % 2 = 0 ∨ A p.toNat % 2 = 1 := by omega
      by_cases x : w.toNat < s.toNat
      · rcases e with e | e
        · exact absurd a4 (c5 e _ (by omega) x)
        · exact absurd c4 (a6 e _ x c3)
      · by_cases y : s.toNat < w.toNat
        · rcases e with e | e
          · exact absurd c4 (a5 e _ (by omega) y)
          · exact absurd a4 (c6 e _ y a3)
        · omega
theorem w_ch_1 {A : Nat → Int} {p f z : Int} (z1 : 10 ≤ z) (h : (z % 2 = 1 ∧ ¬ (2 ≤ A p.toNat ∧ 2 < f)) ∨ (z % 2 = 0 ∧ 2 ≤ A p.toNat ∧ 2 < f)) : w_ch A p f z = 1 := by
  unfold w_ch
  by_cases c : 2 ≤ A p.toNat ∧ 2 < f
  · rw [if_pos c]; omega
  · rw [if_neg c]; omega
theorem w_ch_0 {A : Nat → Int} {p f z : Int} (z1 : 10 ≤ z) (h : (z % 2 = 0 ∧ ¬ (2 ≤ A p.toNat ∧ 2 < f)) ∨ (z % 2 = 1 ∧ 2 ≤ A p.toNat ∧ 2 < f)) : w_ch A p f z = 0 := by
  unfold w_ch
  by_cases c : 2 ≤ A p.toNat ∧ 2 < f
  · rw [if_pos c]; omega
  · rw [if_neg c]; omega
theorem rx_18_b8 {E : q_E} {σ : x_S} {Q : Option q_V → x_S → Prop} {a1 a2 a3 a4 : Int} (a1l : 0 ≤ a1) (a1h : a1 ≤ 1) (a2l : (-2147483648) ≤ a2) (a2h : a2 ≤ 2147483647) (a3l : (-2147483648) ≤ a3) (a3h : a3 ≤ 2147483647) (a4l : (-2147483648) ≤ a4) (a4h : a4 ≤ 2147483647) (hP : y_PI (σ 140)) (k : ∀ v, (-4) ≤ v → v ≤ 15 → v = y_sel (σ 140) a1 a2 a3 a4 (σ 140 62).toNat → Q (some (x_I v)) σ) : ∀ (N : Nat) (w r : Int), (r + 1).toNat = N → (-4) ≤ w → w ≤ 15 → (-1) ≤ r → r ≤ 15 → r < σ 140 62 → (w = -4 ∨ 0 ≤ w) → y_isS (σ 140) a1 a2 a3 a4 (r + 1).toNat (σ 140 62).toNat w → x_G E m_18 Q (t_18 8) [(0, x_R 138), (1, x_I a1), (2, x_I a2), (3, x_I a3), (4, x_I a4), (5, x_I w), (6, x_I r)] [] σ := by
  have ru := hP.2.2.2.1
  have kd := hP.1
  intro N
  induction N using Nat.strongRecOn with
  | ind N ih =>
    intro w r hN wL wH rL rH ex0 ex1 ex2
    refine x_blk (b := 8) (a_18 E) rfl ?_
    unfold b_18_8
    refine x_iload rfl ?_
    refine x_if_lt (by omega) (by omega) (fun z1 => ?_) (fun z1 => ?_)
    · skip
      refine x_blk (b := 1) (a_18 E) rfl ?_
      unfold b_18_1
      refine x_iload rfl ?_
      refine x_iret ?_
      exact k _ (by omega) (by omega) (y_isS_e ex2 (by omega))
    · skip
      refine x_aload rfl ?_
      refine x_iload rfl ?_
      refine x_push 0 rfl ?_
      refine x_cV (fun _ => rfl) rfl (by decide) (Nat.le_of_ble_eq_true rfl) ?_
      refine rf_3_0 y_rf_rf hP (by omega) (by omega) (fun v2 v2a v2b v2c => ?_)
      refine x_iload rfl ?_
      refine x_icmp_ne (by omega) (by omega) (by omega) (by omega) (fun z3 => ?_) (fun z3 => ?_)
      · skip
        refine x_aload rfl ?_
        refine x_iload rfl ?_
        refine x_push 1 rfl ?_
        refine x_cV (fun _ => rfl) rfl (by decide) (Nat.le_of_ble_eq_true rfl) ?_
        refine rf_3_1 y_rf_rf hP (by omega) (by omega) (fun v4 v4a v4b v4c => ?_)
        refine x_iload rfl ?_
        refine x_icmp_ne (by omega) (by omega) (by omega) (by omega) (fun z5 => ?_) (fun z5 => ?_)
        · skip
          refine x_aload rfl ?_
          refine x_iload rfl ?_
          refine x_push 2 rfl ?_
          refine x_cV (fun _ => rfl) rfl (by decide) (Nat.le_of_ble_eq_true rfl) ?_
          refine rf_3_2 y_rf_rf hP (by omega) (by omega) (fun v6 v6a v6b v6c => ?_)
          refine x_iload rfl ?_
          refine x_icmp_ne (by omega) (by omega) (by omega) (by omega) (fun z7 => ?_) (fun z7 => ?_)
          · skip
            refine x_aload rfl ?_
            refine x_iload rfl ?_
            refine x_push 3 rfl ?_
            refine x_cV (fun _ => rfl) rfl (by decide) (Nat.le_of_ble_eq_true rfl) ?_
            refine rf_3_3 y_rf_rf hP (by omega) (by omega) (fun v8 v8a v8b v8c => ?_)
            refine x_push 2 rfl ?_
            refine x_icmp_eq (by omega) (by omega) (by omega) (by omega) (fun z9 => ?_) (fun z9 => ?_)
            · skip
              refine x_blk (b := 3) (a_18 E) rfl ?_
              unfold b_18_3
              refine x_push 1 rfl ?_
              refine x_goto ?_
              refine x_blk (b := 4) (a_18 E) rfl ?_
              unfold b_18_4
              refine x_istore ?_
              refine x_iload rfl ?_
              refine x_if_eq (by omega) (by omega) (fun z => absurd z (by omega)) (fun z10 => ?_)
              refine x_iload rfl ?_
              refine x_push (-4) rfl ?_
              refine x_icmp_eq (by omega) (by omega) (by omega) (by omega) (fun z11 => ?_) (fun z11 => ?_)
              · skip
                refine x_blk (b := 6) (a_18 E) rfl ?_
                unfold b_18_6
                refine x_iload rfl ?_
                refine x_goto ?_
                refine x_blk (b := 7) (a_18 E) rfl ?_
                unfold b_18_7
                refine x_istore ?_
                refine x_X_lo (lo' := [(0, x_R 138), (1, x_I _), (2, x_I _), (3, x_I _), (4, x_I _), (5, x_I _), (6, x_I _), (7, x_I _)]) ⟨rfl, rfl, rfl, rfl, rfl, rfl, rfl, rfl, trivial⟩ ?_
                refine x_iinc (-1) rfl rfl ?_
                refine x_goto ?_
                refine x_G_lo (lo' := [(0, x_R 138), (1, x_I _), (2, x_I _), (3, x_I _), (4, x_I _), (5, x_I _), (6, x_I _)]) ⟨rfl, rfl, rfl, rfl, rfl, rfl, rfl, trivial⟩ ?_
                exact ih _ (by omega) _ _  rfl (by omega) (by omega) (by omega) (by omega) (by omega) (by omega) (by first | exact y_isS_0 (by omega) | exact y_isS_d ex2 (by omega) (by omega) (by omega) (by omega)) 
              · skip
                refine x_aload rfl ?_
                refine x_getR (r := 138) rfl (by decide) (by decide) rfl ?_
                refine x_iload rfl ?_
                refine x_iald140 y_rf_rf (by omega) (by omega) ?_
                intro g12a g12b
                have kd12 := y_kdp hP (p := a1) (by omega) (by omega)
                refine x_push 2 rfl ?_
                refine x_irem (by omega) (by omega) (by omega) (by omega) ?_
                refine x_if_ne (by omega) (by omega) (fun z13 => ?_) (fun z13 => ?_)
                · skip
                  refine x_fall ?_
                  refine x_blk (b := 6) (a_18 E) rfl ?_
                  unfold b_18_6
                  refine x_iload rfl ?_
                  refine x_goto ?_
                  refine x_blk (b := 7) (a_18 E) rfl ?_
                  unfold b_18_7
                  refine x_istore ?_
                  refine x_X_lo (lo' := [(0, x_R 138), (1, x_I _), (2, x_I _), (3, x_I _), (4, x_I _), (5, x_I _), (6, x_I _), (7, x_I _)]) ⟨rfl, rfl, rfl, rfl, rfl, rfl, rfl, rfl, trivial⟩ ?_
                  refine x_iinc (-1) rfl rfl ?_
                  refine x_goto ?_
                  refine x_G_lo (lo' := [(0, x_R 138), (1, x_I _), (2, x_I _), (3, x_I _), (4, x_I _), (5, x_I _), (6, x_I _)]) ⟨rfl, rfl, rfl, rfl, rfl, rfl, rfl, trivial⟩ ?_
                  exact ih _ (by omega) _ _  rfl (by omega) (by omega) (by omega) (by omega) (by omega) (by omega) (by first | exact y_isS_0 (by omega) | exact y_isS_d ex2 (by omega) (by omega) (by omega) (by omega)) 
                · skip
                  refine x_blk (b := 5) (a_18 E) rfl ?_
                  unfold b_18_5
                  refine x_iload rfl ?_
                  refine x_fall ?_
                  refine x_blk (b := 7) (a_18 E) rfl ?_
                  unfold b_18_7
                  refine x_istore ?_
                  refine x_X_lo (lo' := [(0, x_R 138), (1, x_I _), (2, x_I _), (3, x_I _), (4, x_I _), (5, x_I _), (6, x_I _), (7, x_I _)]) ⟨rfl, rfl, rfl, rfl, rfl, rfl, rfl, rfl, trivial⟩ ?_
                  refine x_iinc (-1) rfl rfl ?_
                  refine x_goto ?_
                  refine x_G_lo (lo' := [(0, x_R 138), (1, x_I _), (2, x_I _), (3, x_I _), (4, x_I _), (5, x_I _), (6, x_I _)]) ⟨rfl, rfl, rfl, rfl, rfl, rfl, rfl, trivial⟩ ?_
                  exact ih _ (by omega) _ _  rfl (by omega) (by omega) (by omega) (by omega) (by omega) (by omega) (by first | exact y_isS_0 (by omega) | exact y_isS_d ex2 (by omega) (by omega) (by omega) (by omega)) 
            · skip
              refine x_aload rfl ?_
              refine x_iload rfl ?_
              refine x_push 3 rfl ?_
              refine x_cV (fun _ => rfl) rfl (by decide) (Nat.le_of_ble_eq_true rfl) ?_
              refine rf_3_3 y_rf_rf hP (by omega) (by omega) (fun v14 v14a v14b v14c => ?_)
              refine x_iload rfl ?_
              refine x_icmp_ne (by omega) (by omega) (by omega) (by omega) (fun z15 => ?_) (fun z15 => ?_)
              · skip
                refine x_fall ?_
                refine x_blk (b := 3) (a_18 E) rfl ?_
                unfold b_18_3
                refine x_push 1 rfl ?_
                refine x_goto ?_
                refine x_blk (b := 4) (a_18 E) rfl ?_
                unfold b_18_4
                refine x_istore ?_
                refine x_iload rfl ?_
                refine x_if_eq (by omega) (by omega) (fun z => absurd z (by omega)) (fun z16 => ?_)
                refine x_iload rfl ?_
                refine x_push (-4) rfl ?_
                refine x_icmp_eq (by omega) (by omega) (by omega) (by omega) (fun z17 => ?_) (fun z17 => ?_)
                · skip
                  refine x_blk (b := 6) (a_18 E) rfl ?_
                  unfold b_18_6
                  refine x_iload rfl ?_
                  refine x_goto ?_
                  refine x_blk (b := 7) (a_18 E) rfl ?_
                  unfold b_18_7
                  refine x_istore ?_
                  refine x_X_lo (lo' := [(0, x_R 138), (1, x_I _), (2, x_I _), (3, x_I _), (4, x_I _), (5, x_I _), (6, x_I _), (7, x_I _)]) ⟨rfl, rfl, rfl, rfl, rfl, rfl, rfl, rfl, trivial⟩ ?_
                  refine x_iinc (-1) rfl rfl ?_
                  refine x_goto ?_
                  refine x_G_lo (lo' := [(0, x_R 138), (1, x_I _), (2, x_I _), (3, x_I _), (4, x_I _), (5, x_I _), (6, x_I _)]) ⟨rfl, rfl, rfl, rfl, rfl, rfl, rfl, trivial⟩ ?_
                  exact ih _ (by omega) _ _  rfl (by omega) (by omega) (by omega) (by omega) (by omega) (by omega) (by first | exact y_isS_0 (by omega) | exact y_isS_d ex2 (by omega) (by omega) (by omega) (by omega)) 
                · skip
                  refine x_aload rfl ?_
                  refine x_getR (r := 138) rfl (by decide) (by decide) rfl ?_
                  refine x_iload rfl ?_
                  refine x_iald140 y_rf_rf (by omega) (by omega) ?_
                  intro g18a g18b
                  have kd18 := y_kdp hP (p := a1) (by omega) (by omega)
                  refine x_push 2 rfl ?_
                  refine x_irem (by omega) (by omega) (by omega) (by omega) ?_
                  refine x_if_ne (by omega) (by omega) (fun z19 => ?_) (fun z19 => ?_)
                  · skip
                    refine x_fall ?_
                    refine x_blk (b := 6) (a_18 E) rfl ?_
                    unfold b_18_6
                    refine x_iload rfl ?_
                    refine x_goto ?_
                    refine x_blk (b := 7) (a_18 E) rfl ?_
                    unfold b_18_7
                    refine x_istore ?_
                    refine x_X_lo (lo' := [(0, x_R 138), (1, x_I _), (2, x_I _), (3, x_I _), (4, x_I _), (5, x_I _), (6, x_I _), (7, x_I _)]) ⟨rfl, rfl, rfl, rfl, rfl, rfl, rfl, rfl, trivial⟩ ?_
                    refine x_iinc (-1) rfl rfl ?_
                    refine x_goto ?_
                    refine x_G_lo (lo' := [(0, x_R 138), (1, x_I _), (2, x_I _), (3, x_I _), (4, x_I _), (5, x_I _), (6, x_I _)]) ⟨rfl, rfl, rfl, rfl, rfl, rfl, rfl, trivial⟩ ?_
                    exact ih _ (by omega) _ _  rfl (by omega) (by omega) (by omega) (by omega) (by omega) (by omega) (by first | exact y_isS_0 (by omega) | exact y_isS_d ex2 (by omega) (by omega) (by omega) (by omega)) 
                  · skip
                    refine x_blk (b := 5) (a_18 E) rfl ?_
                    unfold b_18_5
                    refine x_iload rfl ?_
                    refine x_fall ?_
                    refine x_blk (b := 7) (a_18 E) rfl ?_
                    unfold b_18_7
                    refine x_istore ?_
                    refine x_X_lo (lo' := [(0, x_R 138), (1, x_I _), (2, x_I _), (3, x_I _), (4, x_I _), (5, x_I _), (6, x_I _), (7, x_I _)]) ⟨rfl, rfl, rfl, rfl, rfl, rfl, rfl, rfl, trivial⟩ ?_
                    refine x_iinc (-1) rfl rfl ?_
                    refine x_goto ?_
                    refine x_G_lo (lo' := [(0, x_R 138), (1, x_I _), (2, x_I _), (3, x_I _), (4, x_I _), (5, x_I _), (6, x_I _)]) ⟨rfl, rfl, rfl, rfl, rfl, rfl, rfl, trivial⟩ ?_
                    exact ih _ (by omega) _ _  rfl (by omega) (by omega) (by omega) (by omega) (by omega) (by omega) (by first | exact y_isS_0 (by omega) | exact y_isS_d ex2 (by omega) (by omega) (by omega) (by omega)) 
              · skip
                refine x_blk (b := 2) (a_18 E) rfl ?_
                unfold b_18_2
                refine x_push 0 rfl ?_
                refine x_fall ?_
                refine x_blk (b := 4) (a_18 E) rfl ?_
                unfold b_18_4
                refine x_istore ?_
                refine x_iload rfl ?_
                refine x_if_eq (by omega) (by omega) (fun z20 => ?_) (fun z => absurd (by omega) z)
                refine x_blk (b := 5) (a_18 E) rfl ?_
                unfold b_18_5
                refine x_iload rfl ?_
                refine x_fall ?_
                refine x_blk (b := 7) (a_18 E) rfl ?_
                unfold b_18_7
                refine x_istore ?_
                refine x_X_lo (lo' := [(0, x_R 138), (1, x_I _), (2, x_I _), (3, x_I _), (4, x_I _), (5, x_I _), (6, x_I _), (7, x_I _)]) ⟨rfl, rfl, rfl, rfl, rfl, rfl, rfl, rfl, trivial⟩ ?_
                refine x_iinc (-1) rfl rfl ?_
                refine x_goto ?_
                refine x_G_lo (lo' := [(0, x_R 138), (1, x_I _), (2, x_I _), (3, x_I _), (4, x_I _), (5, x_I _), (6, x_I _)]) ⟨rfl, rfl, rfl, rfl, rfl, rfl, rfl, trivial⟩ ?_
                exact ih _ (by omega) _ _  rfl (by omega) (by omega) (by omega) (by omega) (by omega) (by omega) (by first | exact y_isS_0 (by omega) | exact y_isS_d ex2 (by omega) (by omega) (by omega) (by omega)) 
          · skip
            refine x_blk (b := 2) (a_18 E) rfl ?_
            unfold b_18_2
            refine x_push 0 rfl ?_
            refine x_fall ?_
            refine x_blk (b := 4) (a_18 E) rfl ?_
            unfold b_18_4
            refine x_istore ?_
            refine x_iload rfl ?_
            refine x_if_eq (by omega) (by omega) (fun z21 => ?_) (fun z => absurd (by omega) z)
            refine x_blk (b := 5) (a_18 E) rfl ?_
            unfold b_18_5
            refine x_iload rfl ?_
            refine x_fall ?_
            refine x_blk (b := 7) (a_18 E) rfl ?_
            unfold b_18_7
            refine x_istore ?_
            refine x_X_lo (lo' := [(0, x_R 138), (1, x_I _), (2, x_I _), (3, x_I _), (4, x_I _), (5, x_I _), (6, x_I _), (7, x_I _)]) ⟨rfl, rfl, rfl, rfl, rfl, rfl, rfl, rfl, trivial⟩ ?_
            refine x_iinc (-1) rfl rfl ?_
            refine x_goto ?_
            refine x_G_lo (lo' := [(0, x_R 138), (1, x_I _), (2, x_I _), (3, x_I _), (4, x_I _), (5, x_I _), (6, x_I _)]) ⟨rfl, rfl, rfl, rfl, rfl, rfl, rfl, trivial⟩ ?_
            exact ih _ (by omega) _ _  rfl (by omega) (by omega) (by omega) (by omega) (by omega) (by omega) (by first | exact y_isS_0 (by omega) | exact y_isS_d ex2 (by omega) (by omega) (by omega) (by omega)) 
        · skip
          refine x_blk (b := 2) (a_18 E) rfl ?_
          unfold b_18_2
          refine x_push 0 rfl ?_
          refine x_fall ?_
          refine x_blk (b := 4) (a_18 E) rfl ?_
          unfold b_18_4
          refine x_istore ?_
          refine x_iload rfl ?_
          refine x_if_eq (by omega) (by omega) (fun z22 => ?_) (fun z => absurd (by omega) z)
          refine x_blk (b := 5) (a_18 E) rfl ?_
          unfold b_18_5
          refine x_iload rfl ?_
          refine x_fall ?_
          refine x_blk (b := 7) (a_18 E) rfl ?_
          unfold b_18_7
          refine x_istore ?_
          refine x_X_lo (lo' := [(0, x_R 138), (1, x_I _), (2, x_I _), (3, x_I _), (4, x_I _), (5, x_I _), (6, x_I _), (7, x_I _)]) ⟨rfl, rfl, rfl, rfl, rfl, rfl, rfl, rfl, trivial⟩ ?_
          refine x_iinc (-1) rfl rfl ?_
          refine x_goto ?_
          refine x_G_lo (lo' := [(0, x_R 138), (1, x_I _), (2, x_I _), (3, x_I _), (4, x_I _), (5, x_I _), (6, x_I _)]) ⟨rfl, rfl, rfl, rfl, rfl, rfl, rfl, trivial⟩ ?_
          exact ih _ (by omega) _ _  rfl (by omega) (by omega) (by omega) (by omega) (by omega) (by omega) (by first | exact y_isS_0 (by omega) | exact y_isS_d ex2 (by omega) (by omega) (by omega) (by omega)) 
      · skip
        refine x_blk (b := 2) (a_18 E) rfl ?_
        unfold b_18_2
        refine x_push 0 rfl ?_
        refine x_fall ?_
        refine x_blk (b := 4) (a_18 E) rfl ?_
        unfold b_18_4
        refine x_istore ?_
        refine x_iload rfl ?_
        refine x_if_eq (by omega) (by omega) (fun z23 => ?_) (fun z => absurd (by omega) z)
        refine x_blk (b := 5) (a_18 E) rfl ?_
        unfold b_18_5
        refine x_iload rfl ?_
        refine x_fall ?_
        refine x_blk (b := 7) (a_18 E) rfl ?_
        unfold b_18_7
        refine x_istore ?_
        refine x_X_lo (lo' := [(0, x_R 138), (1, x_I _), (2, x_I _), (3, x_I _), (4, x_I _), (5, x_I _), (6, x_I _), (7, x_I _)]) ⟨rfl, rfl, rfl, rfl, rfl, rfl, rfl, rfl, trivial⟩ ?_
        refine x_iinc (-1) rfl rfl ?_
        refine x_goto ?_
        refine x_G_lo (lo' := [(0, x_R 138), (1, x_I _), (2, x_I _), (3, x_I _), (4, x_I _), (5, x_I _), (6, x_I _)]) ⟨rfl, rfl, rfl, rfl, rfl, rfl, rfl, trivial⟩ ?_
        exact ih _ (by omega) _ _  rfl (by omega) (by omega) (by omega) (by omega) (by omega) (by omega) (by first | exact y_isS_0 (by omega) | exact y_isS_d ex2 (by omega) (by omega) (by omega) (by omega)) 
theorem rx_18 {E : q_E} {σ : x_S} {Q : Option q_V → x_S → Prop} {a1 a2 a3 a4 : Int} (a1l : 0 ≤ a1) (a1h : a1 ≤ 1) (a2l : (-2147483648) ≤ a2) (a2h : a2 ≤ 2147483647) (a3l : (-2147483648) ≤ a3) (a3h : a3 ≤ 2147483647) (a4l : (-2147483648) ≤ a4) (a4h : a4 ≤ 2147483647) (hP : y_PI (σ 140)) (k : ∀ v, (-4) ≤ v → v ≤ 15 → v = y_sel (σ 140) a1 a2 a3 a4 (σ 140 62).toNat → Q (some (x_I v)) σ) : x_P E 18 [x_R 138, x_I a1, x_I a2, x_I a3, x_I a4] σ Q := by
  have ru := hP.2.2.2.1
  have kd := hP.1
  refine x_Mt e_18 (h_18 E) (Nat.le_of_ble_eq_true rfl) t_18 rfl ?_
  refine x_blk (b := 0) (a_18 E) rfl ?_
  unfold b_18_0
  refine x_push (-4) rfl ?_
  refine x_istore ?_
  refine x_aload rfl ?_
  refine x_getR (r := 138) rfl (by decide) (by decide) rfl ?_
  refine x_push 62 rfl ?_
  refine x_iald140 y_rf_rf (by omega) (by omega) ?_
  intro g1a g1b
  simp only [show (62 : Int).toNat = 62 from rfl] at g1a g1b ⊢
  refine x_push 1 rfl ?_
  refine x_isub ?_
  refine x_istore ?_
  refine x_X_lo (lo' := [(0, x_R 138), (1, x_I _), (2, x_I _), (3, x_I _), (4, x_I _), (5, x_I _), (6, x_I _)]) ⟨rfl, rfl, rfl, rfl, rfl, rfl, rfl, trivial⟩ ?_
  refine x_fall ?_
  refine x_G_lo (lo' := [(0, x_R 138), (1, x_I _), (2, x_I _), (3, x_I _), (4, x_I _), (5, x_I _), (6, x_I _)]) ⟨rfl, rfl, rfl, rfl, rfl, rfl, rfl, trivial⟩ ?_
  exact rx_18_b8 a1l a1h a2l a2h a3l a3h a4l a4h hP k  _ _ _  rfl (by omega) (by omega) (by omega) (by omega) (by omega) (by omega) (by first | exact y_isS_0 (by omega) | exact y_isS_d ex2 (by omega) (by omega) (by omega) (by omega)) 
theorem rx_32 {E : q_E} {σ : x_S} {Q : Option q_V → x_S → Prop} {a1 a2 a3 : Int} (a1l : 0 ≤ a1) (a1h : a1 ≤ 1) (a2l : 0 ≤ a2) (a2h : a2 ≤ 4) (a3l : 10 ≤ a3) (a3h : a3 ≤ 15) (hP : y_PI (σ 140)) (k1 : ((a3 % 2 = 1 ∧ ¬ (2 ≤ σ 140 a1.toNat ∧ 2 < a2)) ∨ (a3 % 2 = 0 ∧ 2 ≤ σ 140 a1.toNat ∧ 2 < a2)) → Q (some (x_I 1)) σ) (k0 : ((a3 % 2 = 0 ∧ ¬ (2 ≤ σ 140 a1.toNat ∧ 2 < a2)) ∨ (a3 % 2 = 1 ∧ 2 ≤ σ 140 a1.toNat ∧ 2 < a2)) → Q (some (x_I 0)) σ) : x_P E 32 [x_R 138, x_I a1, x_I a2, x_I a3] σ Q := by
  have ru := hP.2.2.2.1
  have kd := hP.1
  refine x_Mt e_32 (h_32 E) (Nat.le_of_ble_eq_true rfl) t_32 rfl ?_
  refine x_blk (b := 0) (a_32 E) rfl ?_
  unfold b_32_0
  refine x_iload rfl ?_
  refine x_push 2 rfl ?_
  refine x_irem (by omega) (by omega) (by omega) (by omega) ?_
  refine x_push 1 rfl ?_
  refine x_icmp_ne (by omega) (by omega) (by omega) (by omega) (fun z1 => ?_) (fun z1 => ?_)
  · skip
    refine x_push 1 rfl ?_
    refine x_goto ?_
    refine x_blk (b := 2) (a_32 E) rfl ?_
    unfold b_32_2
    refine x_aload rfl ?_
    refine x_getR (r := 138) rfl (by decide) (by decide) rfl ?_
    refine x_iload rfl ?_
    refine x_iald140 y_rf_rf (by omega) (by omega) ?_
    intro g2a g2b
    have kd2 := y_kdp hP (p := a1) (by omega) (by omega)
    refine x_push 1 rfl ?_
    refine x_icmp_le (by omega) (by omega) (by omega) (by omega) (fun z3 => ?_) (fun z3 => ?_)
    · skip
      refine x_blk (b := 3) (a_32 E) rfl ?_
      unfold b_32_3
      refine x_push 0 rfl ?_
      refine x_fall ?_
      refine x_blk (b := 4) (a_32 E) rfl ?_
      unfold b_32_4
      refine x_icmp_eq (by omega) (by omega) (by omega) (by omega) (fun z => absurd z (by omega)) (fun z4 => ?_)
      refine x_push 1 rfl ?_
      refine x_goto ?_
      refine x_blk (b := 6) (a_32 E) rfl ?_
      unfold b_32_6
      refine x_zret (by decide) ?_
      exact k1 (by omega)
    · skip
      refine x_iload rfl ?_
      refine x_cS (fun _ => rfl) (Nat.le_of_ble_eq_true rfl) ?_
      refine rs_0 (by omega) (by omega) (fun v5 v5a v5b v5c => ?_)
      refine x_push 2 rfl ?_
      refine x_icmp_ne (by omega) (by omega) (by omega) (by omega) (fun z6 => ?_) (fun z6 => ?_)
      · skip
        refine x_push 1 rfl ?_
        refine x_goto ?_
        refine x_blk (b := 4) (a_32 E) rfl ?_
        unfold b_32_4
        refine x_icmp_eq (by omega) (by omega) (by omega) (by omega) (fun z7 => ?_) (fun z => absurd (by omega) z)
        refine x_blk (b := 5) (a_32 E) rfl ?_
        unfold b_32_5
        refine x_push 0 rfl ?_
        refine x_fall ?_
        refine x_blk (b := 6) (a_32 E) rfl ?_
        unfold b_32_6
        refine x_zret (by decide) ?_
        exact k0 (by omega)
      · skip
        refine x_blk (b := 3) (a_32 E) rfl ?_
        unfold b_32_3
        refine x_push 0 rfl ?_
        refine x_fall ?_
        refine x_blk (b := 4) (a_32 E) rfl ?_
        unfold b_32_4
        refine x_icmp_eq (by omega) (by omega) (by omega) (by omega) (fun z => absurd z (by omega)) (fun z8 => ?_)
        refine x_push 1 rfl ?_
        refine x_goto ?_
        refine x_blk (b := 6) (a_32 E) rfl ?_
        unfold b_32_6
        refine x_zret (by decide) ?_
        exact k1 (by omega)
  · skip
    refine x_blk (b := 1) (a_32 E) rfl ?_
    unfold b_32_1
    refine x_push 0 rfl ?_
    refine x_fall ?_
    refine x_blk (b := 2) (a_32 E) rfl ?_
    unfold b_32_2
    refine x_aload rfl ?_
    refine x_getR (r := 138) rfl (by decide) (by decide) rfl ?_
    refine x_iload rfl ?_
    refine x_iald140 y_rf_rf (by omega) (by omega) ?_
    intro g9a g9b
    have kd9 := y_kdp hP (p := a1) (by omega) (by omega)
    refine x_push 1 rfl ?_
    refine x_icmp_le (by omega) (by omega) (by omega) (by omega) (fun z10 => ?_) (fun z10 => ?_)
    · skip
      refine x_blk (b := 3) (a_32 E) rfl ?_
      unfold b_32_3
      refine x_push 0 rfl ?_
      refine x_fall ?_
      refine x_blk (b := 4) (a_32 E) rfl ?_
      unfold b_32_4
      refine x_icmp_eq (by omega) (by omega) (by omega) (by omega) (fun z11 => ?_) (fun z => absurd (by omega) z)
      refine x_blk (b := 5) (a_32 E) rfl ?_
      unfold b_32_5
      refine x_push 0 rfl ?_
      refine x_fall ?_
      refine x_blk (b := 6) (a_32 E) rfl ?_
      unfold b_32_6
      refine x_zret (by decide) ?_
      exact k0 (by omega)
    · skip
      refine x_iload rfl ?_
      refine x_cS (fun _ => rfl) (Nat.le_of_ble_eq_true rfl) ?_
      refine rs_0 (by omega) (by omega) (fun v12 v12a v12b v12c => ?_)
      refine x_push 2 rfl ?_
      refine x_icmp_ne (by omega) (by omega) (by omega) (by omega) (fun z13 => ?_) (fun z13 => ?_)
      · skip
        refine x_push 1 rfl ?_
        refine x_goto ?_
        refine x_blk (b := 4) (a_32 E) rfl ?_
        unfold b_32_4
        refine x_icmp_eq (by omega) (by omega) (by omega) (by omega) (fun z => absurd z (by omega)) (fun z14 => ?_)
        refine x_push 1 rfl ?_
        refine x_goto ?_
        refine x_blk (b := 6) (a_32 E) rfl ?_
        unfold b_32_6
        refine x_zret (by decide) ?_
        exact k1 (by omega)
      · skip
        refine x_blk (b := 3) (a_32 E) rfl ?_
        unfold b_32_3
        refine x_push 0 rfl ?_
        refine x_fall ?_
        refine x_blk (b := 4) (a_32 E) rfl ?_
        unfold b_32_4
        refine x_icmp_eq (by omega) (by omega) (by omega) (by omega) (fun z15 => ?_) (fun z => absurd (by omega) z)
        refine x_blk (b := 5) (a_32 E) rfl ?_
        unfold b_32_5
        refine x_push 0 rfl ?_
        refine x_fall ?_
        refine x_blk (b := 6) (a_32 E) rfl ?_
        unfold b_32_6
        refine x_zret (by decide) ?_
        exact k0 (by omega)
