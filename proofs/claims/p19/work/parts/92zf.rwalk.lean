/-! the reference's walk is the machine -/
/-- which of the rules from one on is taken -/
def y_isS (A : Nat → Int) (p q f l : Int) (lo n : Nat) (w : Int) : Prop := (w = -4 ∧ ∀ r, lo ≤ r → r < n → ¬ y_mt A p q f l r) ∨ (0 ≤ w ∧ lo ≤ w.toNat ∧ w.toNat < n ∧ y_mt A p q f l w.toNat ∧ (A p.toNat % 2 = 0 → ∀ r, lo ≤ r → r < w.toNat → ¬ y_mt A p q f l r) ∧ (A p.toNat % 2 = 1 → ∀ r, w.toNat < r → r < n → ¬ y_mt A p q f l r))
theorem y_isS_0 {A : Nat → Int} {p q f l : Int} {lo n : Nat} (h : n ≤ lo) : y_isS A p q f l lo n (-4) := Or.inl ⟨rfl, fun r h1 h2 => absurd h2 (by omega)⟩
theorem y_isS_d {A : Nat → Int} {p q f l : Int} {n : Nat} {r r' w w' : Int} (h : y_isS A p q f l (r + 1).toNat n w) (r0 : 0 ≤ r) (rn : r < n) (hr : r' = r - 1) (hc : (A (63 + 12 * r.toNat + 0) = p ∧ A (63 + 12 * r.toNat + 1) = q ∧ A (63 + 12 * r.toNat + 2) = f ∧ (A (63 + 12 * r.toNat + 3) = 2 ∨ A (63 + 12 * r.toNat + 3) = l) ∧ (w = -4 ∨ A p.toNat % 2 = 0) ∧ w' = r) ∨ (¬ (A (63 + 12 * r.toNat + 0) = p ∧ A (63 + 12 * r.toNat + 1) = q ∧ A (63 + 12 * r.toNat + 2) = f ∧ (A (63 + 12 * r.toNat + 3) = 2 ∨ A (63 + 12 * r.toNat + 3) = l) ∧ (w = -4 ∨ A p.toNat % 2 = 0)) ∧ w' = w)) : y_isS A p q f l (r' + 1).toNat n w' := by
  obtain ⟨R, hR⟩ : ∃ R : Nat, r.toNat = R := ⟨_, rfl⟩
  have hRr : r = R := by omega
  have hlo : (r' + 1).toNat = R := by omega
  have hlo2 : (r + 1).toNat = R + 1 := by omega
  rw [hlo]
  rw [hlo2] at h
  rw [hR] at hc
  have mt : y_mt A p q f l R ↔ (A (63 + 12 * R + 0) = p ∧ A (63 + 12 * R + 1) = q ∧ A (63 + 12 * R + 2) = f ∧ (A (63 + 12 * R + 3) = 2 ∨ A (63 + 12 * R + 3) = l)) := by
    rw [show 63 + 12 * R + 1 = 64 + 12 * R by omega, show 63 + 12 * R + 2 = 65 + 12 * R by omega, show 63 + 12 * R + 3 = 66 + 12 * R by omega]
    exact Iff.rfl
  rcases hc with ⟨c0, c1, c2, c3, c4, c5⟩ | ⟨c, c5⟩
  · have m := mt.2 ⟨c0, c1, c2, c3⟩
    have hw' : w'.toNat = R := by omega
    refine Or.inr ⟨by omega, by omega, by omega, by rw [hw']; exact m, fun _ r h1 h2 => absurd h2 (by omega), fun ho r h1 h2 => ?_⟩
    rcases h with ⟨_, h⟩ | ⟨hw, _⟩
    · exact h r (by omega) h2
    · exact absurd c4 (by omega)
  · rw [c5]
    rcases h with ⟨hw, h⟩ | ⟨hw, h1, h2, h3, h4, h5⟩
    · refine Or.inl ⟨hw, fun r hr1 hr2 m => ?_⟩
      by_cases e : r = R
      · rw [e] at m
        have m2 := mt.1 m
        exact c ⟨m2.1, m2.2.1, m2.2.2.1, m2.2.2.2, Or.inl hw⟩
      · exact h r (by omega) hr2 m
    · refine Or.inr ⟨hw, by omega, h2, h3, fun he r hr1 hr2 m => ?_, h5⟩
      by_cases e : r = R
      · rw [e] at m
        have m2 := mt.1 m
        exact c ⟨m2.1, m2.2.1, m2.2.2.1, m2.2.2.2, Or.inr he⟩
      · exact h4 he r (by omega) hr2 m
theorem y_sel_is {A : Nat → Int} {p q f l : Int} : ∀ n : Nat, y_isS A p q f l 0 n (y_sel A p q f l n)
  | 0 => Or.inl ⟨rfl, fun r h1 h2 => absurd h2 (by omega)⟩
  | n + 1 => by
    have ih := y_sel_is (A := A) (p := p) (q := q) (f := f) (l := l) n
    rw [y_sel_s]
    by_cases c : y_mt A p q f l n ∧ (y_sel A p q f l n < 0 ∨ A p.toNat % 2 = 1)
    · rw [if_pos c]
      have en : (n : Int).toNat = n := by omega
      refine Or.inr ⟨by omega, by omega, by omega, by rw [en]; exact c.1, fun he r h1 h2 => ?_, fun _ r h1 h2 => absurd h2 (by omega)⟩
      rcases ih with ⟨_, h⟩ | ⟨hw, _⟩
      · exact h r (by omega) (by omega)
      · exact absurd c.2 (by omega)
    · rw [if_neg c]
      rcases ih with ⟨hw, h⟩ | ⟨hw, h1, h2, h3, h4, h5⟩
      · refine Or.inl ⟨hw, fun r h1 h2 m => ?_⟩
        by_cases e : r = n
        · rw [e] at m
          exact c ⟨m, Or.inl (by omega)⟩
        · exact h r h1 (by omega) m
      · refine Or.inr ⟨hw, by omega, by omega, h3, h4, fun ho r hr1 hr2 m => ?_⟩
        by_cases e : r = n
        · rw [e] at m
          exact c ⟨m, Or.inr ho⟩
        · exact h5 ho r hr1 (by omega) m
theorem y_isS_e {A : Nat → Int} {p q f l : Int} {lo n : Nat} {w : Int} (h : y_isS A p q f l lo n w) (h0 : lo = 0) : w = y_sel A p q f l n := by
  rw [h0] at h
  have g := y_sel_is (A := A) (p := p) (q := q) (f := f) (l := l) n
  obtain ⟨s, hs⟩ : ∃ s, s = y_sel A p q f l n := ⟨_, rfl⟩
  rw [← hs] at g ⊢
  rcases h with ⟨a, b⟩ | ⟨a1, a2, a3, a4, a5, a6⟩
  · rcases g with ⟨c, d⟩ | ⟨c1, c2, c3, c4, c5, c6⟩
    · rw [a, c]
    · exact absurd c4 (b _ (by omega) c3)
  · rcases g with ⟨c, d⟩ | ⟨c1, c2, c3, c4, c5, c6⟩
    · exact absurd a4 (d _ (by omega) a3)
    · have e : A p.toNat % 2 = 0 ∨ A p.toNat % 2 = 1 := by omega
      by_cases x : w.toNat < s.toNat
      · rcases e with e | e
        · exact absurd a4 (c5 e _ (by omega) x)
        · exact absurd c4 (a6 e _ x c3)
      · by_cases y : s.toNat < w.toNat
        · rcases e with e | e
          · exact absurd c4 (a5 e _ (by omega) y)
          · exact absurd a4 (c6 e _ y a3)
        · omega
theorem w_ch_1 {A : Nat → Int} {p f z : Int} (z1 : 10 ≤ z) (h : (z % 2 = 1 ∧ ¬ (2 ≤ A p.toNat ∧ 2 < f)) ∨ (z % 2 = 0 ∧ 2 ≤ A p.toNat ∧ 2 < f)) : w_ch A p f z = 1 := by
  unfold w_ch
  by_cases c : 2 ≤ A p.toNat ∧ 2 < f
  · rw [if_pos c]; omega
  · rw [if_neg c]; omega
theorem w_ch_0 {A : Nat → Int} {p f z : Int} (z1 : 10 ≤ z) (h : (z % 2 = 0 ∧ ¬ (2 ≤ A p.toNat ∧ 2 < f)) ∨ (z % 2 = 1 ∧ 2 ≤ A p.toNat ∧ 2 < f)) : w_ch A p f z = 0 := by
  unfold w_ch
  by_cases c : 2 ≤ A p.toNat ∧ 2 < f
  · rw [if_pos c]; omega
  · rw [if_neg c]; omega
section
variable {A : Nat → Int} {p : Int} {lt sg nd rk : Int → Int} {bl : Int → Int → Int} {D : Int → Prop}
theorem w_step_pop {t o : Nat} {a r i u v : Nat → Int} (h : ¬ i t < A (67 + 12 * (r t).toNat)) : w_step A p lt sg nd bl (t + 1, a, r, i, o, u, v) = (0, (t, a, r, i, o, u, v)) := by
  rw [w_step_q, if_pos h]
theorem w_step_out {t o : Nat} {a r i u v : Nat → Int} (h : i t < A (67 + 12 * (r t).toNat)) (h2 : ¬ 9 < A (68 + 12 * (r t).toNat + (i t).toNat)) (h3 : o < 40) : w_step A p lt sg nd bl (t + 1, a, r, i, o, u, v) = (0, (t + 1, a, r, y_wK i t (i t + 1), o + 1, y_wK u o (A (68 + 12 * (r t).toNat + (i t).toNat)), v)) := by
  rw [w_step_q, if_neg (fun z => z h), if_neg h2, if_pos h3]
theorem w_step_long {t o : Nat} {a r i u v : Nat → Int} (h : i t < A (67 + 12 * (r t).toNat)) (h2 : ¬ 9 < A (68 + 12 * (r t).toNat + (i t).toNat)) (h3 : ¬ o < 40) : w_step A p lt sg nd bl (t + 1, a, r, i, o, u, v) = (-3, (t + 1, a, r, y_wK i t (i t + 1), o, u, v)) := by
  rw [w_step_q, if_neg (fun z => z h), if_neg h2, if_neg h3]
theorem w_step_call {t o : Nat} {a r i u v : Nat → Int} (h : i t < A (67 + 12 * (r t).toNat)) (h2 : 9 < A (68 + 12 * (r t).toNat + (i t).toNat)) : w_step A p lt sg nd bl (t + 1, a, r, i, o, u, v) = w_come A p lt sg nd ((A (68 + 12 * (r t).toNat + (i t).toNat) - 10) / 2) (bl (a t) (w_ch A p (lt (a t)) (A (68 + 12 * (r t).toNat + (i t).toNat)))) (t + 1, a, r, y_wK i t (i t + 1), o, u, v) := by
  rw [w_step_q, if_neg (fun z => z h), if_pos h2]
theorem w_come_y {q x : Int} {d o : Nat} {a r i u v : Nat → Int} (x0 : 0 ≤ x) (s : 0 ≤ y_sel A p q (lt x) (sg x) (A 62).toNat) : w_come A p lt sg nd q x (d, a, r, i, o, u, v) = (0, (d + 1, y_wK a d x, y_wK r d (y_sel A p q (lt x) (sg x) (A 62).toNat), y_wK i d 0, o, u, y_wK v (nd x).toNat (v (nd x).toNat + 1))) := by
  rw [w_come_q, if_neg (by omega), if_neg (by omega)]
theorem w_come_n {q x : Int} {d o : Nat} {a r i u v : Nat → Int} (x0 : 0 ≤ x) (s : y_sel A p q (lt x) (sg x) (A 62).toNat < 0) : w_come A p lt sg nd q x (d, a, r, i, o, u, v) = (-10 - nd x, (d, a, r, i, o, u, y_wK v (nd x).toNat (v (nd x).toNat + 1))) := by
  rw [w_come_q, if_neg (by omega), if_pos s]
theorem w_run_p {N : Nat} {c : w_C} {R : Int × w_C} (hP : y_PI A) (G : w_G lt nd rk bl D) (hI : w_I A lt rk D c) (d0 : 0 < c.1) (hp : w_phi c ≤ N) (hr : w_run A p lt sg nd bl N (0, c) = R) : ∃ M, N = M + 1 ∧ w_run A p lt sg nd bl M (w_step A p lt sg nd bl c) = R ∧ ((w_step A p lt sg nd bl c).1 = 0 → 0 < (w_step A p lt sg nd bl c).2.1 → w_I A lt rk D (w_step A p lt sg nd bl c).2 ∧ w_phi (w_step A p lt sg nd bl c).2 ≤ M) ∧ ((w_step A p lt sg nd bl c).1 < 0 → w_step A p lt sg nd bl c = R) := by
  have h1 : 1 ≤ w_phi c := by
    obtain ⟨d, a, r, i, o, u, v⟩ := c
    have d0 : 0 < d := d0
    have I1 := hI.1 (d - 1) (by omega)
    have g := G.1 _ I1.1
    have I2 := hI.2.1
    show 1 ≤ (40 - (o : Int)) * 162 + (if i (d - 1) = 0 then 80 - (d : Int) else (d : Int) + 81)
    split <;> omega
  obtain ⟨M, hM⟩ : ∃ M, N = M + 1 := ⟨N - 1, by omega⟩
  subst hM
  have hr2 : w_run A p lt sg nd bl M (w_step A p lt sg nd bl c) = R := by
    rw [← hr]
    exact (w_run_s (x := (0, c)) ⟨rfl, d0⟩).symm
  refine ⟨M, rfl, hr2, fun z1 z2 => ?_, fun z => ?_⟩
  · rcases w_step_I (p := p) (sg := sg) hP G hI d0 with k | k | k
    · have k2 := k.2 z2
      exact ⟨k2.1, by omega⟩
    · omega
    · omega
  · rw [← hr2]
    exact (w_run_t (fun y => by omega) M).symm
end
theorem w_blS {A : Nat → Int} {m x c : Int} {l P V : Nat → Int} {n : Nat} (tr : y_tr l n) (ms : y_ms A m l n P V) (h : 0 ≤ x ∧ x < n) (hc : (c = 0 ∧ 2 ≤ l x.toNat) ∨ (c = 1 ∧ 3 ≤ l x.toNat)) : 0 ≤ w_bl P x c ∧ w_bl P x c < n := by
  have k := y_mp_c tr ms (v := x.toNat) (by omega) (by omega) (by omega)
  have e : (x + 1).toNat = x.toNat + 1 := by omega
  unfold w_bl
  rcases hc with hc | hc
  · rw [if_pos hc.1]
    omega
  · have k2 := k.2.2.2 hc.2
    rw [if_neg (by omega), e]
    omega
/-- the reference's walk stands as the machine -/
def y_RR (τ : x_S) : w_C → Prop
  | (d, a, r, i, o, u, v) => τ 138 14 = d ∧ (∀ j, j < d → τ 148 j = r j ∧ τ 149 j = i j ∧ τ 150 j = a j) ∧ τ 138 18 = o ∧ (∀ j, j < o → τ 151 j = u j) ∧ ∀ j, j < 40 → τ 152 j = v j
/-- the reference's walk has come to its end as the machine -/
def y_RE (τ : x_S) (h : Int) : Int × w_C → Prop
  | (s, (_, _, _, _, o, u, v)) => ((s = 0 ∧ h = 0) ∨ (s = -3 ∧ h = 2) ∨ (s ≤ -10 ∧ -49 ≤ s ∧ h = 1 ∧ τ 138 21 = -10 - s)) ∧ τ 138 18 = o ∧ o ≤ 40 ∧ (∀ j, j < o → τ 151 j = u j) ∧ ∀ j, j < 40 → τ 152 j = v j
theorem rx_18_b8 {E : q_E} {σ : x_S} {Q : Option q_V → x_S → Prop} {a1 a2 a3 a4 : Int} (a1l : 0 ≤ a1) (a1h : a1 ≤ 1) (a2l : (-2147483648) ≤ a2) (a2h : a2 ≤ 2147483647) (a3l : (-2147483648) ≤ a3) (a3h : a3 ≤ 2147483647) (a4l : (-2147483648) ≤ a4) (a4h : a4 ≤ 2147483647) (hP : y_PI (σ 140)) (k : ∀ v, (-4) ≤ v → v ≤ 15 → v = y_sel (σ 140) a1 a2 a3 a4 (σ 140 62).toNat → Q (some (x_I v)) σ) : ∀ (N : Nat) (w r : Int), (r + 1).toNat = N → (-4) ≤ w → w ≤ 15 → (-1) ≤ r → r ≤ 15 → r < σ 140 62 → (w = -4 ∨ 0 ≤ w) → y_isS (σ 140) a1 a2 a3 a4 (r + 1).toNat (σ 140 62).toNat w → x_G E m_18 Q (t_18 8) [(0, x_R 138), (1, x_I a1), (2, x_I a2), (3, x_I a3), (4, x_I a4), (5, x_I w), (6, x_I r)] [] σ := by
  have ru := hP.2.2.2.1
  have kd := hP.1
  intro N
  induction N using Nat.strongRecOn with
  | ind N ih =>
    intro w r hN wL wH rL rH ex0 ex1 ex2
    refine x_blk (b := 8) (a_18 E) rfl ?_
    unfold b_18_8
    refine x_iload rfl ?_
    refine x_if_lt (by omega) (by omega) (fun z1 => ?_) (fun z1 => ?_)
    · skip
      refine x_blk (b := 1) (a_18 E) rfl ?_
      unfold b_18_1
      refine x_iload rfl ?_
      refine x_iret ?_
      exact k _ (by omega) (by omega) (y_isS_e ex2 (by omega))
    · skip
      refine x_aload rfl ?_
      refine x_iload rfl ?_
      refine x_push 0 rfl ?_
      refine x_cV (fun _ => rfl) rfl (by decide) (Nat.le_of_ble_eq_true rfl) ?_
      refine rf_3_0 y_rf_rf hP (by omega) (by omega) (fun v2 v2a v2b v2c => ?_)
      refine x_iload rfl ?_
      refine x_icmp_ne (by omega) (by omega) (by omega) (by omega) (fun z3 => ?_) (fun z3 => ?_)
      · skip
        refine x_aload rfl ?_
        refine x_iload rfl ?_
        refine x_push 1 rfl ?_
        refine x_cV (fun _ => rfl) rfl (by decide) (Nat.le_of_ble_eq_true rfl) ?_
        refine rf_3_1 y_rf_rf hP (by omega) (by omega) (fun v4 v4a v4b v4c => ?_)
        refine x_iload rfl ?_
        refine x_icmp_ne (by omega) (by omega) (by omega) (by omega) (fun z5 => ?_) (fun z5 => ?_)
        · skip
          refine x_aload rfl ?_
          refine x_iload rfl ?_
          refine x_push 2 rfl ?_
          refine x_cV (fun _ => rfl) rfl (by decide) (Nat.le_of_ble_eq_true rfl) ?_
          refine rf_3_2 y_rf_rf hP (by omega) (by omega) (fun v6 v6a v6b v6c => ?_)
          refine x_iload rfl ?_
          refine x_icmp_ne (by omega) (by omega) (by omega) (by omega) (fun z7 => ?_) (fun z7 => ?_)
          · skip
            refine x_aload rfl ?_
            refine x_iload rfl ?_
            refine x_push 3 rfl ?_
            refine x_cV (fun _ => rfl) rfl (by decide) (Nat.le_of_ble_eq_true rfl) ?_
            refine rf_3_3 y_rf_rf hP (by omega) (by omega) (fun v8 v8a v8b v8c => ?_)
            refine x_push 2 rfl ?_
            refine x_icmp_eq (by omega) (by omega) (by omega) (by omega) (fun z9 => ?_) (fun z9 => ?_)
            · skip
              refine x_blk (b := 3) (a_18 E) rfl ?_
              unfold b_18_3
              refine x_push 1 rfl ?_
              refine x_goto ?_
              refine x_blk (b := 4) (a_18 E) rfl ?_
              unfold b_18_4
              refine x_istore ?_
              refine x_iload rfl ?_
              refine x_if_eq (by omega) (by omega) (fun z => absurd z (by omega)) (fun z10 => ?_)
              refine x_iload rfl ?_
              refine x_push (-4) rfl ?_
              refine x_icmp_eq (by omega) (by omega) (by omega) (by omega) (fun z11 => ?_) (fun z11 => ?_)
              · skip
                refine x_blk (b := 6) (a_18 E) rfl ?_
                unfold b_18_6
                refine x_iload rfl ?_
                refine x_goto ?_
                refine x_blk (b := 7) (a_18 E) rfl ?_
                unfold b_18_7
                refine x_istore ?_
                refine x_X_lo (lo' := [(0, x_R 138), (1, x_I _), (2, x_I _), (3, x_I _), (4, x_I _), (5, x_I _), (6, x_I _), (7, x_I _)]) ⟨rfl, rfl, rfl, rfl, rfl, rfl, rfl, rfl, trivial⟩ ?_
                refine x_iinc (-1) rfl rfl ?_
                refine x_goto ?_
                refine x_G_lo (lo' := [(0, x_R 138), (1, x_I _), (2, x_I _), (3, x_I _), (4, x_I _), (5, x_I _), (6, x_I _)]) ⟨rfl, rfl, rfl, rfl, rfl, rfl, rfl, trivial⟩ ?_
                exact ih _ (by omega) _ _  rfl (by omega) (by omega) (by omega) (by omega) (by omega) (by omega) (by first | exact y_isS_0 (by omega) | exact y_isS_d ex2 (by omega) (by omega) (by omega) (by omega)) 
              · skip
                refine x_aload rfl ?_
                refine x_getR (r := 138) rfl (by decide) (by decide) rfl ?_
                refine x_iload rfl ?_
                refine x_iald140 y_rf_rf (by omega) (by omega) ?_
                intro g12a g12b
                have kd12 := y_kdp hP (p := a1) (by omega) (by omega)
                refine x_push 2 rfl ?_
                refine x_irem (by omega) (by omega) (by omega) (by omega) ?_
                refine x_if_ne (by omega) (by omega) (fun z13 => ?_) (fun z13 => ?_)
                · skip
                  refine x_fall ?_
                  refine x_blk (b := 6) (a_18 E) rfl ?_
                  unfold b_18_6
                  refine x_iload rfl ?_
                  refine x_goto ?_
                  refine x_blk (b := 7) (a_18 E) rfl ?_
                  unfold b_18_7
                  refine x_istore ?_
                  refine x_X_lo (lo' := [(0, x_R 138), (1, x_I _), (2, x_I _), (3, x_I _), (4, x_I _), (5, x_I _), (6, x_I _), (7, x_I _)]) ⟨rfl, rfl, rfl, rfl, rfl, rfl, rfl, rfl, trivial⟩ ?_
                  refine x_iinc (-1) rfl rfl ?_
                  refine x_goto ?_
                  refine x_G_lo (lo' := [(0, x_R 138), (1, x_I _), (2, x_I _), (3, x_I _), (4, x_I _), (5, x_I _), (6, x_I _)]) ⟨rfl, rfl, rfl, rfl, rfl, rfl, rfl, trivial⟩ ?_
                  exact ih _ (by omega) _ _  rfl (by omega) (by omega) (by omega) (by omega) (by omega) (by omega) (by first | exact y_isS_0 (by omega) | exact y_isS_d ex2 (by omega) (by omega) (by omega) (by omega)) 
                · skip
                  refine x_blk (b := 5) (a_18 E) rfl ?_
                  unfold b_18_5
                  refine x_iload rfl ?_
                  refine x_fall ?_
                  refine x_blk (b := 7) (a_18 E) rfl ?_
                  unfold b_18_7
                  refine x_istore ?_
                  refine x_X_lo (lo' := [(0, x_R 138), (1, x_I _), (2, x_I _), (3, x_I _), (4, x_I _), (5, x_I _), (6, x_I _), (7, x_I _)]) ⟨rfl, rfl, rfl, rfl, rfl, rfl, rfl, rfl, trivial⟩ ?_
                  refine x_iinc (-1) rfl rfl ?_
                  refine x_goto ?_
                  refine x_G_lo (lo' := [(0, x_R 138), (1, x_I _), (2, x_I _), (3, x_I _), (4, x_I _), (5, x_I _), (6, x_I _)]) ⟨rfl, rfl, rfl, rfl, rfl, rfl, rfl, trivial⟩ ?_
                  exact ih _ (by omega) _ _  rfl (by omega) (by omega) (by omega) (by omega) (by omega) (by omega) (by first | exact y_isS_0 (by omega) | exact y_isS_d ex2 (by omega) (by omega) (by omega) (by omega)) 
            · skip
              refine x_aload rfl ?_
              refine x_iload rfl ?_
              refine x_push 3 rfl ?_
              refine x_cV (fun _ => rfl) rfl (by decide) (Nat.le_of_ble_eq_true rfl) ?_
              refine rf_3_3 y_rf_rf hP (by omega) (by omega) (fun v14 v14a v14b v14c => ?_)
              refine x_iload rfl ?_
              refine x_icmp_ne (by omega) (by omega) (by omega) (by omega) (fun z15 => ?_) (fun z15 => ?_)
              · skip
                refine x_fall ?_
                refine x_blk (b := 3) (a_18 E) rfl ?_
                unfold b_18_3
                refine x_push 1 rfl ?_
                refine x_goto ?_
                refine x_blk (b := 4) (a_18 E) rfl ?_
                unfold b_18_4
                refine x_istore ?_
                refine x_iload rfl ?_
                refine x_if_eq (by omega) (by omega) (fun z => absurd z (by omega)) (fun z16 => ?_)
                refine x_iload rfl ?_
                refine x_push (-4) rfl ?_
                refine x_icmp_eq (by omega) (by omega) (by omega) (by omega) (fun z17 => ?_) (fun z17 => ?_)
                · skip
                  refine x_blk (b := 6) (a_18 E) rfl ?_
                  unfold b_18_6
                  refine x_iload rfl ?_
                  refine x_goto ?_
                  refine x_blk (b := 7) (a_18 E) rfl ?_
                  unfold b_18_7
                  refine x_istore ?_
                  refine x_X_lo (lo' := [(0, x_R 138), (1, x_I _), (2, x_I _), (3, x_I _), (4, x_I _), (5, x_I _), (6, x_I _), (7, x_I _)]) ⟨rfl, rfl, rfl, rfl, rfl, rfl, rfl, rfl, trivial⟩ ?_
                  refine x_iinc (-1) rfl rfl ?_
                  refine x_goto ?_
                  refine x_G_lo (lo' := [(0, x_R 138), (1, x_I _), (2, x_I _), (3, x_I _), (4, x_I _), (5, x_I _), (6, x_I _)]) ⟨rfl, rfl, rfl, rfl, rfl, rfl, rfl, trivial⟩ ?_
                  exact ih _ (by omega) _ _  rfl (by omega) (by omega) (by omega) (by omega) (by omega) (by omega) (by first | exact y_isS_0 (by omega) | exact y_isS_d ex2 (by omega) (by omega) (by omega) (by omega)) 
                · skip
                  refine x_aload rfl ?_
                  refine x_getR (r := 138) rfl (by decide) (by decide) rfl ?_
                  refine x_iload rfl ?_
                  refine x_iald140 y_rf_rf (by omega) (by omega) ?_
                  intro g18a g18b
                  have kd18 := y_kdp hP (p := a1) (by omega) (by omega)
                  refine x_push 2 rfl ?_
                  refine x_irem (by omega) (by omega) (by omega) (by omega) ?_
                  refine x_if_ne (by omega) (by omega) (fun z19 => ?_) (fun z19 => ?_)
                  · skip
                    refine x_fall ?_
                    refine x_blk (b := 6) (a_18 E) rfl ?_
                    unfold b_18_6
                    refine x_iload rfl ?_
                    refine x_goto ?_
                    refine x_blk (b := 7) (a_18 E) rfl ?_
                    unfold b_18_7
                    refine x_istore ?_
                    refine x_X_lo (lo' := [(0, x_R 138), (1, x_I _), (2, x_I _), (3, x_I _), (4, x_I _), (5, x_I _), (6, x_I _), (7, x_I _)]) ⟨rfl, rfl, rfl, rfl, rfl, rfl, rfl, rfl, trivial⟩ ?_
                    refine x_iinc (-1) rfl rfl ?_
                    refine x_goto ?_
                    refine x_G_lo (lo' := [(0, x_R 138), (1, x_I _), (2, x_I _), (3, x_I _), (4, x_I _), (5, x_I _), (6, x_I _)]) ⟨rfl, rfl, rfl, rfl, rfl, rfl, rfl, trivial⟩ ?_
                    exact ih _ (by omega) _ _  rfl (by omega) (by omega) (by omega) (by omega) (by omega) (by omega) (by first | exact y_isS_0 (by omega) | exact y_isS_d ex2 (by omega) (by omega) (by omega) (by omega)) 
                  · skip
                    refine x_blk (b := 5) (a_18 E) rfl ?_
                    unfold b_18_5
                    refine x_iload rfl ?_
                    refine x_fall ?_
                    refine x_blk (b := 7) (a_18 E) rfl ?_
                    unfold b_18_7
                    refine x_istore ?_
                    refine x_X_lo (lo' := [(0, x_R 138), (1, x_I _), (2, x_I _), (3, x_I _), (4, x_I _), (5, x_I _), (6, x_I _), (7, x_I _)]) ⟨rfl, rfl, rfl, rfl, rfl, rfl, rfl, rfl, trivial⟩ ?_
                    refine x_iinc (-1) rfl rfl ?_
                    refine x_goto ?_
                    refine x_G_lo (lo' := [(0, x_R 138), (1, x_I _), (2, x_I _), (3, x_I _), (4, x_I _), (5, x_I _), (6, x_I _)]) ⟨rfl, rfl, rfl, rfl, rfl, rfl, rfl, trivial⟩ ?_
                    exact ih _ (by omega) _ _  rfl (by omega) (by omega) (by omega) (by omega) (by omega) (by omega) (by first | exact y_isS_0 (by omega) | exact y_isS_d ex2 (by omega) (by omega) (by omega) (by omega)) 
              · skip
                refine x_blk (b := 2) (a_18 E) rfl ?_
                unfold b_18_2
                refine x_push 0 rfl ?_
                refine x_fall ?_
                refine x_blk (b := 4) (a_18 E) rfl ?_
                unfold b_18_4
                refine x_istore ?_
                refine x_iload rfl ?_
                refine x_if_eq (by omega) (by omega) (fun z20 => ?_) (fun z => absurd (by omega) z)
                refine x_blk (b := 5) (a_18 E) rfl ?_
                unfold b_18_5
                refine x_iload rfl ?_
                refine x_fall ?_
                refine x_blk (b := 7) (a_18 E) rfl ?_
                unfold b_18_7
                refine x_istore ?_
                refine x_X_lo (lo' := [(0, x_R 138), (1, x_I _), (2, x_I _), (3, x_I _), (4, x_I _), (5, x_I _), (6, x_I _), (7, x_I _)]) ⟨rfl, rfl, rfl, rfl, rfl, rfl, rfl, rfl, trivial⟩ ?_
                refine x_iinc (-1) rfl rfl ?_
                refine x_goto ?_
                refine x_G_lo (lo' := [(0, x_R 138), (1, x_I _), (2, x_I _), (3, x_I _), (4, x_I _), (5, x_I _), (6, x_I _)]) ⟨rfl, rfl, rfl, rfl, rfl, rfl, rfl, trivial⟩ ?_
                exact ih _ (by omega) _ _  rfl (by omega) (by omega) (by omega) (by omega) (by omega) (by omega) (by first | exact y_isS_0 (by omega) | exact y_isS_d ex2 (by omega) (by omega) (by omega) (by omega)) 
          · skip
            refine x_blk (b := 2) (a_18 E) rfl ?_
            unfold b_18_2
            refine x_push 0 rfl ?_
            refine x_fall ?_
            refine x_blk (b := 4) (a_18 E) rfl ?_
            unfold b_18_4
            refine x_istore ?_
            refine x_iload rfl ?_
            refine x_if_eq (by omega) (by omega) (fun z21 => ?_) (fun z => absurd (by omega) z)
            refine x_blk (b := 5) (a_18 E) rfl ?_
            unfold b_18_5
            refine x_iload rfl ?_
            refine x_fall ?_
            refine x_blk (b := 7) (a_18 E) rfl ?_
            unfold b_18_7
            refine x_istore ?_
            refine x_X_lo (lo' := [(0, x_R 138), (1, x_I _), (2, x_I _), (3, x_I _), (4, x_I _), (5, x_I _), (6, x_I _), (7, x_I _)]) ⟨rfl, rfl, rfl, rfl, rfl, rfl, rfl, rfl, trivial⟩ ?_
            refine x_iinc (-1) rfl rfl ?_
            refine x_goto ?_
            refine x_G_lo (lo' := [(0, x_R 138), (1, x_I _), (2, x_I _), (3, x_I _), (4, x_I _), (5, x_I _), (6, x_I _)]) ⟨rfl, rfl, rfl, rfl, rfl, rfl, rfl, trivial⟩ ?_
            exact ih _ (by omega) _ _  rfl (by omega) (by omega) (by omega) (by omega) (by omega) (by omega) (by first | exact y_isS_0 (by omega) | exact y_isS_d ex2 (by omega) (by omega) (by omega) (by omega)) 
        · skip
          refine x_blk (b := 2) (a_18 E) rfl ?_
          unfold b_18_2
          refine x_push 0 rfl ?_
          refine x_fall ?_
          refine x_blk (b := 4) (a_18 E) rfl ?_
          unfold b_18_4
          refine x_istore ?_
          refine x_iload rfl ?_
          refine x_if_eq (by omega) (by omega) (fun z22 => ?_) (fun z => absurd (by omega) z)
          refine x_blk (b := 5) (a_18 E) rfl ?_
          unfold b_18_5
          refine x_iload rfl ?_
          refine x_fall ?_
          refine x_blk (b := 7) (a_18 E) rfl ?_
          unfold b_18_7
          refine x_istore ?_
          refine x_X_lo (lo' := [(0, x_R 138), (1, x_I _), (2, x_I _), (3, x_I _), (4, x_I _), (5, x_I _), (6, x_I _), (7, x_I _)]) ⟨rfl, rfl, rfl, rfl, rfl, rfl, rfl, rfl, trivial⟩ ?_
          refine x_iinc (-1) rfl rfl ?_
          refine x_goto ?_
          refine x_G_lo (lo' := [(0, x_R 138), (1, x_I _), (2, x_I _), (3, x_I _), (4, x_I _), (5, x_I _), (6, x_I _)]) ⟨rfl, rfl, rfl, rfl, rfl, rfl, rfl, trivial⟩ ?_
          exact ih _ (by omega) _ _  rfl (by omega) (by omega) (by omega) (by omega) (by omega) (by omega) (by first | exact y_isS_0 (by omega) | exact y_isS_d ex2 (by omega) (by omega) (by omega) (by omega)) 
      · skip
        refine x_blk (b := 2) (a_18 E) rfl ?_
        unfold b_18_2
        refine x_push 0 rfl ?_
        refine x_fall ?_
        refine x_blk (b := 4) (a_18 E) rfl ?_
        unfold b_18_4
        refine x_istore ?_
        refine x_iload rfl ?_
        refine x_if_eq (by omega) (by omega) (fun z23 => ?_) (fun z => absurd (by omega) z)
        refine x_blk (b := 5) (a_18 E) rfl ?_
        unfold b_18_5
        refine x_iload rfl ?_
        refine x_fall ?_
        refine x_blk (b := 7) (a_18 E) rfl ?_
        unfold b_18_7
        refine x_istore ?_
        refine x_X_lo (lo' := [(0, x_R 138), (1, x_I _), (2, x_I _), (3, x_I _), (4, x_I _), (5, x_I _), (6, x_I _), (7, x_I _)]) ⟨rfl, rfl, rfl, rfl, rfl, rfl, rfl, rfl, trivial⟩ ?_
        refine x_iinc (-1) rfl rfl ?_
        refine x_goto ?_
        refine x_G_lo (lo' := [(0, x_R 138), (1, x_I _), (2, x_I _), (3, x_I _), (4, x_I _), (5, x_I _), (6, x_I _)]) ⟨rfl, rfl, rfl, rfl, rfl, rfl, rfl, trivial⟩ ?_
        exact ih _ (by omega) _ _  rfl (by omega) (by omega) (by omega) (by omega) (by omega) (by omega) (by first | exact y_isS_0 (by omega) | exact y_isS_d ex2 (by omega) (by omega) (by omega) (by omega)) 
theorem rx_18 {E : q_E} {σ : x_S} {Q : Option q_V → x_S → Prop} {a1 a2 a3 a4 : Int} (a1l : 0 ≤ a1) (a1h : a1 ≤ 1) (a2l : (-2147483648) ≤ a2) (a2h : a2 ≤ 2147483647) (a3l : (-2147483648) ≤ a3) (a3h : a3 ≤ 2147483647) (a4l : (-2147483648) ≤ a4) (a4h : a4 ≤ 2147483647) (hP : y_PI (σ 140)) (k : ∀ v, (-4) ≤ v → v ≤ 15 → v = y_sel (σ 140) a1 a2 a3 a4 (σ 140 62).toNat → Q (some (x_I v)) σ) : x_P E 18 [x_R 138, x_I a1, x_I a2, x_I a3, x_I a4] σ Q := by
  have ru := hP.2.2.2.1
  have kd := hP.1
  refine x_Mt e_18 (h_18 E) (Nat.le_of_ble_eq_true rfl) t_18 rfl ?_
  refine x_blk (b := 0) (a_18 E) rfl ?_
  unfold b_18_0
  refine x_push (-4) rfl ?_
  refine x_istore ?_
  refine x_aload rfl ?_
  refine x_getR (r := 138) rfl (by decide) (by decide) rfl ?_
  refine x_push 62 rfl ?_
  refine x_iald140 y_rf_rf (by omega) (by omega) ?_
  intro g1a g1b
  simp only [show (62 : Int).toNat = 62 from rfl] at g1a g1b ⊢
  refine x_push 1 rfl ?_
  refine x_isub ?_
  refine x_istore ?_
  refine x_X_lo (lo' := [(0, x_R 138), (1, x_I _), (2, x_I _), (3, x_I _), (4, x_I _), (5, x_I _), (6, x_I _)]) ⟨rfl, rfl, rfl, rfl, rfl, rfl, rfl, trivial⟩ ?_
  refine x_fall ?_
  refine x_G_lo (lo' := [(0, x_R 138), (1, x_I _), (2, x_I _), (3, x_I _), (4, x_I _), (5, x_I _), (6, x_I _)]) ⟨rfl, rfl, rfl, rfl, rfl, rfl, rfl, trivial⟩ ?_
  exact rx_18_b8 a1l a1h a2l a2h a3l a3h a4l a4h hP k  _ _ _  rfl (by omega) (by omega) (by omega) (by omega) (by omega) (by omega) (by first | exact y_isS_0 (by omega) | exact y_isS_d ex2 (by omega) (by omega) (by omega) (by omega)) 
theorem rx_32 {E : q_E} {σ : x_S} {Q : Option q_V → x_S → Prop} {a1 a2 a3 : Int} (a1l : 0 ≤ a1) (a1h : a1 ≤ 1) (a2l : 0 ≤ a2) (a2h : a2 ≤ 4) (a3l : 10 ≤ a3) (a3h : a3 ≤ 15) (hP : y_PI (σ 140)) (k1 : ((a3 % 2 = 1 ∧ ¬ (2 ≤ σ 140 a1.toNat ∧ 2 < a2)) ∨ (a3 % 2 = 0 ∧ 2 ≤ σ 140 a1.toNat ∧ 2 < a2)) → Q (some (x_I 1)) σ) (k0 : ((a3 % 2 = 0 ∧ ¬ (2 ≤ σ 140 a1.toNat ∧ 2 < a2)) ∨ (a3 % 2 = 1 ∧ 2 ≤ σ 140 a1.toNat ∧ 2 < a2)) → Q (some (x_I 0)) σ) : x_P E 32 [x_R 138, x_I a1, x_I a2, x_I a3] σ Q := by
  have ru := hP.2.2.2.1
  have kd := hP.1
  refine x_Mt e_32 (h_32 E) (Nat.le_of_ble_eq_true rfl) t_32 rfl ?_
  refine x_blk (b := 0) (a_32 E) rfl ?_
  unfold b_32_0
  refine x_iload rfl ?_
  refine x_push 2 rfl ?_
  refine x_irem (by omega) (by omega) (by omega) (by omega) ?_
  refine x_push 1 rfl ?_
  refine x_icmp_ne (by omega) (by omega) (by omega) (by omega) (fun z1 => ?_) (fun z1 => ?_)
  · skip
    refine x_push 1 rfl ?_
    refine x_goto ?_
    refine x_blk (b := 2) (a_32 E) rfl ?_
    unfold b_32_2
    refine x_aload rfl ?_
    refine x_getR (r := 138) rfl (by decide) (by decide) rfl ?_
    refine x_iload rfl ?_
    refine x_iald140 y_rf_rf (by omega) (by omega) ?_
    intro g2a g2b
    have kd2 := y_kdp hP (p := a1) (by omega) (by omega)
    refine x_push 1 rfl ?_
    refine x_icmp_le (by omega) (by omega) (by omega) (by omega) (fun z3 => ?_) (fun z3 => ?_)
    · skip
      refine x_blk (b := 3) (a_32 E) rfl ?_
      unfold b_32_3
      refine x_push 0 rfl ?_
      refine x_fall ?_
      refine x_blk (b := 4) (a_32 E) rfl ?_
      unfold b_32_4
      refine x_icmp_eq (by omega) (by omega) (by omega) (by omega) (fun z => absurd z (by omega)) (fun z4 => ?_)
      refine x_push 1 rfl ?_
      refine x_goto ?_
      refine x_blk (b := 6) (a_32 E) rfl ?_
      unfold b_32_6
      refine x_zret (by decide) ?_
      exact k1 (by omega)
    · skip
      refine x_iload rfl ?_
      refine x_cS (fun _ => rfl) (Nat.le_of_ble_eq_true rfl) ?_
      refine rs_0 (by omega) (by omega) (fun v5 v5a v5b v5c => ?_)
      refine x_push 2 rfl ?_
      refine x_icmp_ne (by omega) (by omega) (by omega) (by omega) (fun z6 => ?_) (fun z6 => ?_)
      · skip
        refine x_push 1 rfl ?_
        refine x_goto ?_
        refine x_blk (b := 4) (a_32 E) rfl ?_
        unfold b_32_4
        refine x_icmp_eq (by omega) (by omega) (by omega) (by omega) (fun z7 => ?_) (fun z => absurd (by omega) z)
        refine x_blk (b := 5) (a_32 E) rfl ?_
        unfold b_32_5
        refine x_push 0 rfl ?_
        refine x_fall ?_
        refine x_blk (b := 6) (a_32 E) rfl ?_
        unfold b_32_6
        refine x_zret (by decide) ?_
        exact k0 (by omega)
      · skip
        refine x_blk (b := 3) (a_32 E) rfl ?_
        unfold b_32_3
        refine x_push 0 rfl ?_
        refine x_fall ?_
        refine x_blk (b := 4) (a_32 E) rfl ?_
        unfold b_32_4
        refine x_icmp_eq (by omega) (by omega) (by omega) (by omega) (fun z => absurd z (by omega)) (fun z8 => ?_)
        refine x_push 1 rfl ?_
        refine x_goto ?_
        refine x_blk (b := 6) (a_32 E) rfl ?_
        unfold b_32_6
        refine x_zret (by decide) ?_
        exact k1 (by omega)
  · skip
    refine x_blk (b := 1) (a_32 E) rfl ?_
    unfold b_32_1
    refine x_push 0 rfl ?_
    refine x_fall ?_
    refine x_blk (b := 2) (a_32 E) rfl ?_
    unfold b_32_2
    refine x_aload rfl ?_
    refine x_getR (r := 138) rfl (by decide) (by decide) rfl ?_
    refine x_iload rfl ?_
    refine x_iald140 y_rf_rf (by omega) (by omega) ?_
    intro g9a g9b
    have kd9 := y_kdp hP (p := a1) (by omega) (by omega)
    refine x_push 1 rfl ?_
    refine x_icmp_le (by omega) (by omega) (by omega) (by omega) (fun z10 => ?_) (fun z10 => ?_)
    · skip
      refine x_blk (b := 3) (a_32 E) rfl ?_
      unfold b_32_3
      refine x_push 0 rfl ?_
      refine x_fall ?_
      refine x_blk (b := 4) (a_32 E) rfl ?_
      unfold b_32_4
      refine x_icmp_eq (by omega) (by omega) (by omega) (by omega) (fun z11 => ?_) (fun z => absurd (by omega) z)
      refine x_blk (b := 5) (a_32 E) rfl ?_
      unfold b_32_5
      refine x_push 0 rfl ?_
      refine x_fall ?_
      refine x_blk (b := 6) (a_32 E) rfl ?_
      unfold b_32_6
      refine x_zret (by decide) ?_
      exact k0 (by omega)
    · skip
      refine x_iload rfl ?_
      refine x_cS (fun _ => rfl) (Nat.le_of_ble_eq_true rfl) ?_
      refine rs_0 (by omega) (by omega) (fun v12 v12a v12b v12c => ?_)
      refine x_push 2 rfl ?_
      refine x_icmp_ne (by omega) (by omega) (by omega) (by omega) (fun z13 => ?_) (fun z13 => ?_)
      · skip
        refine x_push 1 rfl ?_
        refine x_goto ?_
        refine x_blk (b := 4) (a_32 E) rfl ?_
        unfold b_32_4
        refine x_icmp_eq (by omega) (by omega) (by omega) (by omega) (fun z => absurd z (by omega)) (fun z14 => ?_)
        refine x_push 1 rfl ?_
        refine x_goto ?_
        refine x_blk (b := 6) (a_32 E) rfl ?_
        unfold b_32_6
        refine x_zret (by decide) ?_
        exact k1 (by omega)
      · skip
        refine x_blk (b := 3) (a_32 E) rfl ?_
        unfold b_32_3
        refine x_push 0 rfl ?_
        refine x_fall ?_
        refine x_blk (b := 4) (a_32 E) rfl ?_
        unfold b_32_4
        refine x_icmp_eq (by omega) (by omega) (by omega) (by omega) (fun z15 => ?_) (fun z => absurd (by omega) z)
        refine x_blk (b := 5) (a_32 E) rfl ?_
        unfold b_32_5
        refine x_push 0 rfl ?_
        refine x_fall ?_
        refine x_blk (b := 6) (a_32 E) rfl ?_
        unfold b_32_6
        refine x_zret (by decide) ?_
        exact k0 (by omega)
theorem rx_95 {E : q_E} {σ : x_S} {Q : Option q_V → x_S → Prop} {a1 a2 a3 : Int} (a1l : 0 ≤ a1) (a1h : a1 ≤ 1) (a2l : (-2147483648) ≤ a2) (a2h : a2 ≤ 2147483647) (a3l : 0 ≤ a3) (a3h : a3 ≤ 39) (rq0 : 0 ≤ σ 138 14 ∧ σ 138 14 ≤ 127) (rq1 : 0 ≤ σ 152 a3.toNat ∧ σ 152 a3.toNat ≤ 10000) (hP : y_PI (σ 140)) (k1 : ∀ τ : x_S, y_sm [148, 149, 150, 152] [14] σ τ → 0 ≤ y_sel (σ 140) a1 a2 (σ 145 a3.toNat) (σ 147 a3.toNat) (σ 140 62).toNat → τ 138 14 = σ 138 14 + 1 → τ 148 (σ 138 14).toNat = y_sel (σ 140) a1 a2 (σ 145 a3.toNat) (σ 147 a3.toNat) (σ 140 62).toNat → τ 149 (σ 138 14).toNat = 0 → τ 150 (σ 138 14).toNat = a3 → (∀ m : Nat, m ≠ (σ 138 14).toNat → τ 148 m = σ 148 m ∧ τ 149 m = σ 149 m ∧ τ 150 m = σ 150 m) → τ 152 a3.toNat = σ 152 a3.toNat + 1 → (∀ m : Nat, m ≠ a3.toNat → τ 152 m = σ 152 m) → Q (some (x_I 1)) τ) (k0 : ∀ τ, y_sm [152] [21] σ τ → y_sel (σ 140) a1 a2 (σ 145 a3.toNat) (σ 147 a3.toNat) (σ 140 62).toNat < 0 → τ 138 21 = a3 → τ 152 a3.toNat = σ 152 a3.toNat + 1 → (∀ m : Nat, m ≠ a3.toNat → τ 152 m = σ 152 m) → Q (some (x_I 0)) τ) : x_P E 95 [x_R 138, x_I a1, x_I a2, x_I a3] σ Q := by
  have ru := hP.2.2.2.1
  have kd := hP.1
  refine x_Mt e_95 (h_95 E) (Nat.le_of_ble_eq_true rfl) t_95 rfl ?_
  refine x_blk (b := 0) (a_95 E) rfl ?_
  unfold b_95_0
  refine x_aload rfl ?_
  refine x_getR (r := 138) rfl (by decide) (by decide) rfl ?_
  refine x_iload rfl ?_
  refine x_dup2 rfl rfl ?_
  refine x_iald (r := 152) (n := 40) (m := a3.toNat) rfl rfl (by decide) (fun _ => rfl) (by omega) (by omega) (by omega) ?_
  intro g1a g1b
  refine x_push 1 rfl ?_
  refine x_iadd ?_
  refine x_astN (m := a3.toNat) y_m152 y_rf_rf (by omega) (by omega) (by omega) (by omega) (by omega) (fun S2 e2 F2 => ?_)
  have w2 := x_up_at e2
  refine x_aload rfl ?_
  refine x_iload rfl ?_
  refine x_iload rfl ?_
  refine x_aload rfl ?_
  refine x_getR (r := 138) rfl (by decide) (by decide) rfl ?_
  refine x_iload rfl ?_
  refine x_iald (r := 145) (n := 40) (m := a3.toNat) rfl rfl (by decide) (fun _ => rfl) (by omega) (by omega) (by omega) ?_
  have q3_0 : S2 145 (a3.toNat) = σ 145 (a3.toNat) := x_up_nr e2 (by decide)
  rw [q3_0]
  intro g3a g3b
  refine x_aload rfl ?_
  refine x_getR (r := 138) rfl (by decide) (by decide) rfl ?_
  refine x_iload rfl ?_
  refine x_iald (r := 147) (n := 40) (m := a3.toNat) rfl rfl (by decide) (fun _ => rfl) (by omega) (by omega) (by omega) ?_
  have q4_0 : S2 147 (a3.toNat) = σ 147 (a3.toNat) := x_up_nr e2 (by decide)
  rw [q4_0]
  intro g4a g4b
  refine x_cV (fun _ => rfl) rfl (by decide) (Nat.le_of_ble_eq_true rfl) ?_
  refine rx_18 (by omega) (by omega) (by omega) (by omega) (by omega) (by omega) (by omega) (by omega) (y_rf_P F2 hP) (fun v5 v5a v5b k5_0 => ?_)
  have n0 : S2 140 = σ 140 := funext fun z => y_rf_n F2 z
  have kse := k5_0
  rw [n0] at kse
  have sb : v5 = -4 ∨ 0 ≤ v5 := by
    rcases y_sel_b (A := σ 140) (p := a1) (q := a2) (f := σ 145 a3.toNat) (l := σ 147 a3.toNat) (n := (σ 140 62).toNat) with h | h
    · exact Or.inl (kse.trans h)
    · exact Or.inr (kse ▸ h.1)
  refine x_istore ?_
  refine x_iload rfl ?_
  refine x_push (-4) rfl ?_
  refine x_icmp_ne (by omega) (by omega) (by omega) (by omega) (fun z6 => ?_) (fun z6 => ?_)
  · skip
    refine x_aload rfl ?_
    refine x_iload rfl ?_
    refine x_put138 (by decide) rfl ⟨by decide, rfl⟩ (by decide) F2 (by omega) (by omega) (fun S7 e7 F7 => ?_)
    refine x_push 0 rfl ?_
    refine x_zret (by decide) ?_
    exact k0 _ (y_sm_tr (y_sm_tr y_sm_rf (y_sm_e e2 (Or.inl (by decide)))) (y_sm_e e7 (Or.inr ⟨rfl, by decide⟩))) (by omega) (x_up_at e7) ((x_up_nr e7 (by decide)).trans (x_up_at e2)) (fun m hm => (x_up_nr e7 (by decide)).trans (x_up_ne e2 (fun z => hm z.2)))
  · skip
    refine x_blk (b := 1) (a_95 E) rfl ?_
    unfold b_95_1
    refine x_aload rfl ?_
    refine x_getR (r := 138) rfl (by decide) (by decide) rfl ?_
    refine x_aload rfl ?_
    refine x_getI (r := 138) rfl (by decide) (by decide) (by decide) rfl ?_
    have q8_0 : S2 138 14 = σ 138 14 := x_up_nr e2 (by decide)
    simp only [q8_0]
    intro g8a g8b
    refine x_iload rfl ?_
    refine x_astM y_m148 F2 (by omega) (by omega) (by omega) (by omega) (fun S9 e9 F9 => ?_)
    refine x_aload rfl ?_
    refine x_getR (r := 138) rfl (by decide) (by decide) rfl ?_
    refine x_aload rfl ?_
    refine x_getI (r := 138) rfl (by decide) (by decide) (by decide) rfl ?_
    have q10_0 : S9 138 14 = S2 138 14 := x_up_nr e9 (by decide)
    have q10_1 : S2 138 14 = σ 138 14 := x_up_nr e2 (by decide)
    simp only [q10_0, q10_1]
    intro g10a g10b
    refine x_push 0 rfl ?_
    refine x_astM y_m149 F9 (by omega) (by omega) (by omega) (by omega) (fun S11 e11 F11 => ?_)
    refine x_aload rfl ?_
    refine x_getR (r := 138) rfl (by decide) (by decide) rfl ?_
    refine x_aload rfl ?_
    refine x_getI (r := 138) rfl (by decide) (by decide) (by decide) rfl ?_
    have q12_0 : S11 138 14 = S9 138 14 := x_up_nr e11 (by decide)
    have q12_1 : S9 138 14 = S2 138 14 := x_up_nr e9 (by decide)
    have q12_2 : S2 138 14 = σ 138 14 := x_up_nr e2 (by decide)
    simp only [q12_0, q12_1, q12_2]
    intro g12a g12b
    refine x_iload rfl ?_
    refine x_astM y_m150 F11 (by omega) (by omega) (by omega) (by omega) (fun S13 e13 F13 => ?_)
    refine x_aload rfl ?_
    refine x_dup rfl ?_
    refine x_getI (r := 138) rfl (by decide) (by decide) (by decide) rfl ?_
    have q14_0 : S13 138 14 = S11 138 14 := x_up_nr e13 (by decide)
    have q14_1 : S11 138 14 = S9 138 14 := x_up_nr e11 (by decide)
    have q14_2 : S9 138 14 = S2 138 14 := x_up_nr e9 (by decide)
    have q14_3 : S2 138 14 = σ 138 14 := x_up_nr e2 (by decide)
    simp only [q14_0, q14_1, q14_2, q14_3]
    intro g14a g14b
    refine x_push 1 rfl ?_
    refine x_iadd ?_
    refine x_put138 (by decide) rfl ⟨by decide, rfl⟩ (by decide) F13 (by omega) (by omega) (fun S15 e15 F15 => ?_)
    refine x_push 1 rfl ?_
    refine x_zret (by decide) ?_
    refine k1 _ (y_sm_tr (y_sm_tr (y_sm_tr (y_sm_tr (y_sm_tr y_sm_rf (y_sm_e e2 (Or.inl (by decide)))) (y_sm_e e9 (Or.inl (by decide)))) (y_sm_e e11 (Or.inl (by decide)))) (y_sm_e e13 (Or.inl (by decide)))) (y_sm_e e15 (Or.inr ⟨rfl, by decide⟩))) (by omega) (x_up_at e15) ?_ ?_ ?_ (fun m hm => ⟨?_, ?_, ?_⟩) ?_ (fun m hm => ?_)
    · rw [x_up_nr e15 (by decide), x_up_nr e13 (by decide), x_up_nr e11 (by decide), x_up_at e9]; exact kse
    · rw [x_up_nr e15 (by decide), x_up_nr e13 (by decide), x_up_at e11]
    · rw [x_up_nr e15 (by decide), x_up_at e13]
    · rw [x_up_nr e15 (by decide), x_up_nr e13 (by decide), x_up_nr e11 (by decide), x_up_ne e9 (fun z => hm z.2), x_up_nr e2 (by decide)]
    · rw [x_up_nr e15 (by decide), x_up_nr e13 (by decide), x_up_ne e11 (fun z => hm z.2), x_up_nr e9 (by decide), x_up_nr e2 (by decide)]
    · rw [x_up_nr e15 (by decide), x_up_ne e13 (fun z => hm z.2), x_up_nr e11 (by decide), x_up_nr e9 (by decide), x_up_nr e2 (by decide)]
    · rw [x_up_nr e15 (by decide), x_up_nr e13 (by decide), x_up_nr e11 (by decide), x_up_nr e9 (by decide), x_up_at e2]
    · rw [x_up_nr e15 (by decide), x_up_nr e13 (by decide), x_up_nr e11 (by decide), x_up_nr e9 (by decide), x_up_ne e2 (fun z => hm z.2)]
set_option maxHeartbeats 8000000 in
theorem rx_94_b3 {E : q_E} {σ : x_S} {Q : Option q_V → x_S → Prop} {a1 a2 : Int} (a1l : 0 ≤ a1) (a1h : a1 ≤ 1) (a2l : (-2147483648) ≤ a2) (a2h : a2 ≤ 2147483647) (hP : y_PI (σ 140)) {n : Nat} {l P V : Nat → Int} (n40 : n ≤ 40) (n0 : 1 ≤ n) (tr : y_tr l n) (ms : y_ms (σ 140) 0 l n P V) (gr : ∀ v, v < n → σ 145 v = l v ∧ σ 146 v = P v ∧ σ 147 v = V v) {R : Int × w_C} (hR : w_run (σ 140) a1 (w_lt l) (w_lt V) w_nd (w_bl P) 100000 (w_come (σ 140) a1 (w_lt l) (w_lt V) w_nd a2 0 w_0) = R) (k : ∀ τ h, y_sm [148, 149, 150, 151, 152] [14, 18, 21] σ τ → y_RE τ h R → Q (some (x_I h)) τ) : ∀ (N d : Nat) (a r i : Nat → Int) (o : Nat) (u v : Nat → Int) (τ : x_S), y_sm [148, 149, 150, 151, 152] [14, 18, 21] σ τ → y_RR τ (d, a, r, i, o, u, v) → o ≤ 40 → (0 < d → w_I (σ 140) (w_lt l) w_nd (w_D n) (d, a, r, i, o, u, v) ∧ w_phi (d, a, r, i, o, u, v) ≤ N) → w_run (σ 140) a1 (w_lt l) (w_lt V) w_nd (w_bl P) N (0, (d, a, r, i, o, u, v)) = R → x_G E m_94 Q (t_94 3) [(0, x_R 138), (1, x_I a1)] [] τ := by
  have ru := hP.2.2.2.1
  have kd := hP.1
  intro N
  induction N using Nat.strongRecOn with
  | ind N ih =>
    intro d a r i o u v τ hsm hRR ho hI hrun
    obtain ⟨h14, hent, h18, hout, hvis⟩ := hRR
    have F := y_sm_rf2 hsm (by decide) (by decide)
    have l5 : ∀ m, τ 145 m = σ 145 m := y_sm_a hsm 145 (by decide) (by decide)
    have l6 : ∀ m, τ 146 m = σ 146 m := y_sm_a hsm 146 (by decide) (by decide)
    refine x_blk (b := 3) (a_94 E) rfl ?_
    unfold b_94_3
    refine x_aload rfl ?_
    refine x_getI (r := 138) rfl (by decide) (by decide) (by decide) rfl ?_
    intro g1a g1b
    refine x_if_le (by omega) (by omega) (fun z2 => ?_) (fun z2 => ?_)
    · skip
      refine x_blk (b := 4) (a_94 E) rfl ?_
      unfold b_94_4
      refine x_push 0 rfl ?_
      refine x_iret ?_
      have h0 : d = 0 := by omega
      subst h0
      have hE : w_run (σ 140) a1 (w_lt l) (w_lt V) w_nd (w_bl P) N (0, (0, a, r, i, o, u, v)) = (0, (0, a, r, i, o, u, v)) := w_run_t (fun y => absurd y.2 (by show ¬ (0 < 0); omega)) N
      rw [hE] at hrun
      exact k _ _ hsm (by rw [← hrun]; exact ⟨Or.inl ⟨rfl, rfl⟩, h18, ho, hout, hvis⟩)
    · skip
      obtain ⟨t, ht⟩ : ∃ t, d = t + 1 := ⟨d - 1, by omega⟩
      subst ht
      have G := w_GS (A := σ 140) n40 tr ms
      have It := (hI (by omega)).1.1 t (by omega)
      have hI3 := (hI (by omega)).1.2.2.1
      have ct := hent t (by omega)
      have dt : 0 ≤ a t ∧ a t < n := It.1
      have rk : (t : Int) ≤ a t := It.2.2.2.1
      have lr : σ 140 (65 + 12 * (r t).toNat) = l (a t).toNat := It.2.1.2.2
      have e4 : σ 140 (63 + 12 * (r t).toNat + 4) = σ 140 (67 + 12 * (r t).toNat) := congrArg _ (by omega)
      have e2 : σ 140 (63 + 12 * (r t).toNat + 2) = σ 140 (65 + 12 * (r t).toNat) := congrArg _ (by omega)
      have p7 := y_PI_pc hP (r := (r t).toNat) (by omega)
      have tl := tr.1 (a t).toNat (by omega)
      have ph : 0 ≤ w_phi (t + 1, a, r, i, o, u, v) := by
        show 0 ≤ (40 - (o : Int)) * 162 + (if i t = 0 then 80 - ((t + 1 : Nat) : Int) else ((t + 1 : Nat) : Int) + 81)
        split <;> omega
      refine x_aload rfl ?_
      refine x_getI (r := 138) rfl (by decide) (by decide) (by decide) rfl ?_
      intro g3a g3b
      refine x_push 1 rfl ?_
      refine x_isub ?_
      refine x_istore ?_
      refine x_aload rfl ?_
      refine x_getR (r := 138) rfl (by decide) (by decide) rfl ?_
      refine x_iload rfl ?_
      refine x_iald (r := 148) (n := 128) (m := t) rfl rfl (by decide) (fun _ => rfl) (by omega) (by omega) (by omega) ?_
      rw [ct.1]
      intro g4a g4b
      refine x_istore ?_
      refine x_X_lo (lo' := [(0, x_R 138), (1, x_I _), (3, x_I _), (4, x_I _)]) ⟨rfl, rfl, rfl, rfl, trivial⟩ ?_
      refine x_aload rfl ?_
      refine x_getR (r := 138) rfl (by decide) (by decide) rfl ?_
      refine x_iload rfl ?_
      refine x_iald (r := 149) (n := 128) (m := t) rfl rfl (by decide) (fun _ => rfl) (by omega) (by omega) (by omega) ?_
      rw [ct.2.1]
      intro g5a g5b
      refine x_aload rfl ?_
      refine x_iload rfl ?_
      refine x_push 4 rfl ?_
      refine x_cV (fun _ => rfl) rfl (by decide) (Nat.le_of_ble_eq_true rfl) ?_
      refine rf_3_4 F hP (by omega) (by omega) (fun v6 v6a v6b v6c => ?_)
      refine x_icmp_ne (by omega) (by omega) (by omega) (by omega) (fun z7 => ?_) (fun z7 => ?_)
      · skip
        refine x_aload rfl ?_
        refine x_dup rfl ?_
        refine x_getI (r := 138) rfl (by decide) (by decide) (by decide) rfl ?_
        intro g8a g8b
        refine x_push 1 rfl ?_
        refine x_isub ?_
        refine x_put138 (by decide) rfl ⟨by decide, rfl⟩ (by decide) F (by omega) (by omega) (fun S9 e9 F9 => ?_)
        refine x_goto ?_
        refine x_blk (b := 6) (a_94 E) rfl ?_
        unfold b_94_6
        refine x_goto ?_
        refine x_G_lo (lo' := [(0, x_R 138), (1, x_I _)]) ⟨rfl, rfl, trivial⟩ ?_
        obtain ⟨M, hM, hr, hi, hz⟩ := w_run_p hP G (hI (by omega)).1 (show 0 < t + 1 by omega) (hI (by omega)).2 hrun
        rw [w_step_pop (by omega)] at hr hi
        have q14 := x_up_at e9
        exact ih M (by omega) t a r i o u v S9 (y_sm_tr hsm (y_sm_e e9 (Or.inr ⟨rfl, by decide⟩))) ⟨by omega, fun j hj => ⟨(x_up_nr e9 (by decide)).trans (hent j (by omega)).1, (x_up_nr e9 (by decide)).trans (hent j (by omega)).2.1, (x_up_nr e9 (by decide)).trans (hent j (by omega)).2.2⟩, (x_up_ne e9 (by decide)).trans h18, fun j hj => (x_up_nr e9 (by decide)).trans (hout j hj), fun j hj => (x_up_nr e9 (by decide)).trans (hvis j hj)⟩ ho (fun h => hi rfl h) hr
      · skip
        refine x_blk (b := 5) (a_94 E) rfl ?_
        unfold b_94_5
        refine x_aload rfl ?_
        refine x_iload rfl ?_
        refine x_push 5 rfl ?_
        refine x_aload rfl ?_
        refine x_getR (r := 138) rfl (by decide) (by decide) rfl ?_
        refine x_iload rfl ?_
        refine x_iald (r := 149) (n := 128) (m := t) rfl rfl (by decide) (fun _ => rfl) (by omega) (by omega) (by omega) ?_
        rw [ct.2.1]
        intro g10a g10b
        refine x_iadd ?_
        refine x_cV (fun _ => rfl) rfl (by decide) (Nat.le_of_ble_eq_true rfl) ?_
        refine rf_3_p F hP (by omega) (by omega) (by omega) (by omega) (fun v11 v11a v11b v11c v11d v11e => ?_)
        have pe : v11 = σ 140 (68 + 12 * (r t).toNat + (i t).toNat) := v11d.trans (congrArg _ (by omega))
        refine x_istore ?_
        refine x_aload rfl ?_
        refine x_getR (r := 138) rfl (by decide) (by decide) rfl ?_
        refine x_iload rfl ?_
        refine x_dup2 rfl rfl ?_
        refine x_iald (r := 149) (n := 128) (m := t) rfl rfl (by decide) (fun _ => rfl) (by omega) (by omega) (by omega) ?_
        rw [ct.2.1]
        intro g12a g12b
        refine x_push 1 rfl ?_
        refine x_iadd ?_
        refine x_astN (m := t) y_m149 F (by omega) (by omega) (by omega) (by omega) (by omega) (fun S13 e13 F13 => ?_)
        have w13 := x_up_at e13
        refine x_iload rfl ?_
        refine x_push 9 rfl ?_
        refine x_icmp_le (by omega) (by omega) (by omega) (by omega) (fun z14 => ?_) (fun z14 => ?_)
        · skip
          refine x_blk (b := 7) (a_94 E) rfl ?_
          unfold b_94_7
          refine x_aload rfl ?_
          refine x_getI (r := 138) rfl (by decide) (by decide) (by decide) rfl ?_
          have q15_0 : S13 138 18 = τ 138 18 := x_up_nr e13 (by decide)
          simp only [q15_0]
          intro g15a g15b
          refine x_push 40 rfl ?_
          refine x_icmp_ne (by omega) (by omega) (by omega) (by omega) (fun z16 => ?_) (fun z16 => ?_)
          · skip
            refine x_push 2 rfl ?_
            refine x_iret ?_
            obtain ⟨M, hM, hr, hi, hz⟩ := w_run_p hP G (hI (by omega)).1 (show 0 < t + 1 by omega) (hI (by omega)).2 hrun
            rw [w_step_long (by omega) (by omega) (by omega)] at hz
            have hE := hz (by show (-3 : Int) < 0; decide)
            exact k _ _ (y_sm_tr hsm (y_sm_e e13 (Or.inl (by decide)))) (by rw [← hE]; exact ⟨Or.inr (Or.inl ⟨rfl, rfl⟩), (x_up_nr e13 (by decide)).trans h18, ho, fun j hj => (x_up_nr e13 (by decide)).trans (hout j hj), fun j hj => (x_up_nr e13 (by decide)).trans (hvis j hj)⟩)
          · skip
            refine x_blk (b := 11) (a_94 E) rfl ?_
            unfold b_94_11
            refine x_aload rfl ?_
            refine x_getR (r := 138) rfl (by decide) (by decide) rfl ?_
            refine x_aload rfl ?_
            refine x_getI (r := 138) rfl (by decide) (by decide) (by decide) rfl ?_
            have q17_0 : S13 138 18 = τ 138 18 := x_up_nr e13 (by decide)
            simp only [q17_0]
            intro g17a g17b
            refine x_iload rfl ?_
            refine x_astN (m := o) y_m151 F13 (by omega) (by omega) (by omega) (by omega) (by omega) (fun S18 e18 F18 => ?_)
            have w18 := x_up_at e18
            refine x_aload rfl ?_
            refine x_dup rfl ?_
            refine x_getI (r := 138) rfl (by decide) (by decide) (by decide) rfl ?_
            have q19_0 : S18 138 18 = S13 138 18 := x_up_nr e18 (by decide)
            have q19_1 : S13 138 18 = τ 138 18 := x_up_nr e13 (by decide)
            simp only [q19_0, q19_1]
            intro g19a g19b
            refine x_push 1 rfl ?_
            refine x_iadd ?_
            refine x_put138 (by decide) rfl ⟨by decide, rfl⟩ (by decide) F18 (by omega) (by omega) (fun S20 e20 F20 => ?_)
            refine x_fall ?_
            refine x_blk (b := 6) (a_94 E) rfl ?_
            unfold b_94_6
            refine x_goto ?_
            refine x_G_lo (lo' := [(0, x_R 138), (1, x_I _)]) ⟨rfl, rfl, trivial⟩ ?_
            obtain ⟨M, hM, hr, hi, hz⟩ := w_run_p hP G (hI (by omega)).1 (show 0 < t + 1 by omega) (hI (by omega)).2 hrun
            rw [w_step_out (by omega) (by omega) (by omega)] at hr hi
            have q18 := x_up_at e20
            refine ih M (by omega) (t + 1) a r (y_wK i t (i t + 1)) (o + 1) _ v S20 (y_sm_tr (y_sm_tr (y_sm_tr hsm (y_sm_e e13 (Or.inl (by decide)))) (y_sm_e e18 (Or.inl (by decide)))) (y_sm_e e20 (Or.inr ⟨rfl, by decide⟩))) ⟨?_, fun j hj => ⟨?_, ?_, ?_⟩, by omega, fun j hj => ?_, fun j hj => ?_⟩ (by omega) (fun h => hi rfl h) hr
            · exact (x_up_ne e20 (by decide)).trans ((x_up_nr e18 (by decide)).trans ((x_up_nr e13 (by decide)).trans h14))
            · rw [x_up_nr e20 (by decide), x_up_nr e18 (by decide), x_up_nr e13 (by decide)]; exact (hent j hj).1
            · rw [x_up_nr e20 (by decide), x_up_nr e18 (by decide)]
              by_cases cj : j = t
              · rw [cj, y_wK_e]; exact x_up_at e13
              · rw [y_wK_o cj, x_up_ne e13 (fun z => cj z.2)]; exact (hent j hj).2.1
            · rw [x_up_nr e20 (by decide), x_up_nr e18 (by decide), x_up_nr e13 (by decide)]; exact (hent j hj).2.2
            · rw [x_up_nr e20 (by decide)]
              by_cases cj : j = o
              · rw [cj, y_wK_e, ← pe]; exact x_up_at e18
              · rw [y_wK_o cj, x_up_ne e18 (fun z => cj z.2), x_up_nr e13 (by decide)]; exact hout j (by omega)
            · rw [x_up_nr e20 (by decide), x_up_nr e18 (by decide), x_up_nr e13 (by decide)]; exact hvis j hj
        · skip
          have mc := y_mp_c tr ms (v := (a t).toNat) (by omega) (by omega) (by omega)
          refine x_aload rfl ?_
          refine x_getR (r := 138) rfl (by decide) (by decide) rfl ?_
          refine x_iload rfl ?_
          refine x_iald (r := 150) (n := 128) (m := t) rfl rfl (by decide) (fun _ => rfl) (by omega) (by omega) (by omega) ?_
          have q21_0 : S13 150 (t) = τ 150 (t) := x_up_nr e13 (by decide)
          rw [q21_0]
          rw [ct.2.2]
          intro g21a g21b
          refine x_istore ?_
          refine x_X_lo (lo' := [(0, x_R 138), (1, x_I _), (3, x_I _), (4, x_I _), (5, x_I _), (6, x_I _)]) ⟨rfl, rfl, rfl, rfl, rfl, rfl, trivial⟩ ?_
          refine x_aload rfl ?_
          refine x_iload rfl ?_
          refine x_aload rfl ?_
          refine x_getR (r := 138) rfl (by decide) (by decide) rfl ?_
          refine x_iload rfl ?_
          refine x_iald (r := 145) (n := 40) (m := (a t).toNat) rfl rfl (by decide) (fun _ => rfl) (by omega) (by omega) (by omega) ?_
          have q22_0 : S13 145 ((a t).toNat) = τ 145 ((a t).toNat) := x_up_nr e13 (by decide)
          rw [q22_0]
          rw [l5, (gr (a t).toNat (by omega)).1]
          intro g22a g22b
          refine x_iload rfl ?_
          refine x_cV (fun _ => rfl) rfl (by decide) (Nat.le_of_ble_eq_true rfl) ?_
          refine rx_32 (by omega) (by omega) (by omega) (by omega) (by omega) (by omega) (y_rf_P F13 hP) (fun y23 => ?_) (fun y23 => ?_)
          · skip
            refine x_if_eq (by omega) (by omega) (fun z => absurd z (by omega)) (fun z24 => ?_)
            refine x_aload rfl ?_
            refine x_getR (r := 138) rfl (by decide) (by decide) rfl ?_
            refine x_iload rfl ?_
            refine x_push 1 rfl ?_
            refine x_iadd ?_
            refine x_iald (r := 146) (n := 40) (m := (a t).toNat + 1) rfl rfl (by decide) (fun _ => rfl) (by omega) (by omega) (by omega) ?_
            have q25_0 : S13 146 ((a t).toNat + 1) = τ 146 ((a t).toNat + 1) := x_up_nr e13 (by decide)
            rw [q25_0]
            rw [l6, (gr ((a t).toNat + 1) (by omega)).2.1]
            intro g25a g25b
            have n1 := y_rf_n F13 a1.toNat
            have cw := w_ch_1 (A := σ 140) (p := a1) (f := l (a t).toNat) (z := v11) (by omega) (by omega)
            obtain ⟨x, hx⟩ : ∃ x : Int, x = w_bl P (a t) (w_ch (σ 140) a1 (w_lt l (a t)) v11) := ⟨_, rfl⟩
            have xb : 0 ≤ x ∧ x < n := by rw [hx]; exact w_blS tr ms ⟨by omega, by omega⟩ (w_ch_ok (by omega) (by omega))
            have xe : P ((a t).toNat + 1) = x := by
              rw [hx]
              show _ = w_bl P (a t) (w_ch (σ 140) a1 (l (a t).toNat) v11)
              rw [cw]
              unfold w_bl
              rw [if_neg (by decide), show (a t + 1).toNat = (a t).toNat + 1 by omega]
            rw [xe]
            refine x_goto ?_
            refine x_blk (b := 9) (a_94 E) rfl ?_
            unfold b_94_9
            refine x_istore ?_
            refine x_aload rfl ?_
            refine x_iload rfl ?_
            refine x_iload rfl ?_
            refine x_push 10 rfl ?_
            refine x_isub ?_
            refine x_push 2 rfl ?_
            refine x_idiv (by omega) (by omega) (by omega) (by omega) ?_
            refine x_iload rfl ?_
            refine x_cV (fun _ => rfl) rfl (by decide) (Nat.le_of_ble_eq_true rfl) ?_
            have sm26 : y_sm [148, 149, 150, 151, 152] [14, 18, 21] σ S13 := (y_sm_tr hsm (y_sm_e e13 (Or.inl (by decide))))
            have n026 : S13 140 = σ 140 := funext fun z => y_sm_a sm26 140 (by decide) (by decide) z
            have nl26 : S13 145 x.toNat = l x.toNat := (y_sm_a sm26 145 (by decide) (by decide) _).trans (gr x.toNat (by omega)).1
            have nv26 : S13 147 x.toNat = V x.toNat := (y_sm_a sm26 147 (by decide) (by decide) _).trans (gr x.toNat (by omega)).2.2
            have nw26 : S13 152 x.toNat = v x.toNat := (x_up_nr e13 (by decide)).trans (hvis x.toNat (by omega))
            have vb := hI3 x.toNat
            have p14 : S13 138 14 = τ 138 14 := x_up_nr e13 (by decide)
            refine rx_95 (by omega) (by omega) (by omega) (by omega) (by omega) (by omega) (by omega) (by omega) (y_rf_P F13 hP) (fun S26 f26 ra26 rd26 re26 rf26 rg26 rh26 ri26 rj26 => ?_) (fun S26 f26 ra26 rd26 ri26 rj26 => ?_)
            · rw [n026, nl26, nv26] at ra26 re26
              have F26 := y_rf_tr F13 (y_sm_rf2 f26 (by decide) (by decide))
              refine x_if_ne (by omega) (by omega) (fun z => absurd z (by omega)) (fun z27 => ?_)
              refine x_blk (b := 10) (a_94 E) rfl ?_
              unfold b_94_10
              refine x_goto ?_
              refine x_blk (b := 6) (a_94 E) rfl ?_
              unfold b_94_6
              refine x_goto ?_
              refine x_G_lo (lo' := [(0, x_R 138), (1, x_I _)]) ⟨rfl, rfl, trivial⟩ ?_
              obtain ⟨M, hM, hr, hi, hz⟩ := w_run_p hP G (hI (by omega)).1 (show 0 < t + 1 by omega) (hI (by omega)).2 hrun
              rw [w_step_call (by omega) (by omega), ← pe, ← hx, w_come_y xb.1 ra26] at hr hi
              have eH : (S13 138 14).toNat = t + 1 := by omega
              rw [eH] at re26 rf26 rg26 rh26
              refine ih M (by omega) (t + 2) _ _ _ o u _ S26 (y_sm_tr (y_sm_tr hsm (y_sm_e e13 (Or.inl (by decide)))) (y_sm_w (by decide) (by decide) f26)) ⟨by omega, fun j hj => ?_, ?_, fun j hj => ?_, fun j hj => ?_⟩ ho (fun h => hi rfl h) hr
              · by_cases cj : j = t + 1
                · rw [cj, y_wK_e, y_wK_e, y_wK_e]
                  exact ⟨re26, rf26, rg26⟩
                · rw [y_wK_o cj, y_wK_o cj, y_wK_o cj, (rh26 j cj).1, (rh26 j cj).2.1, (rh26 j cj).2.2, x_up_nr e13 (r' := 148) (by decide), x_up_nr e13 (r' := 150) (by decide)]
                  refine ⟨(hent j (by omega)).1, ?_, (hent j (by omega)).2.2⟩
                  by_cases ck : j = t
                  · rw [ck, y_wK_e]; exact x_up_at e13
                  · rw [y_wK_o ck, x_up_ne e13 (fun z => ck z.2)]; exact (hent j (by omega)).2.1
              · exact (f26 138 18 (by decide) (by decide)).trans ((x_up_nr e13 (by decide)).trans h18)
              · rw [y_sm_a f26 151 (by decide) (by decide), x_up_nr e13 (by decide)]; exact hout j hj
              · by_cases cj : j = x.toNat
                · rw [cj]
                  show S26 152 x.toNat = y_wK v x.toNat (v x.toNat + 1) x.toNat
                  rw [y_wK_e, ri26, nw26]
                · show S26 152 j = y_wK v x.toNat (v x.toNat + 1) j
                  rw [y_wK_o cj, rj26 j cj, x_up_nr e13 (by decide)]; exact hvis j hj
            · rw [n026, nl26, nv26] at ra26
              have F26 := y_rf_tr F13 (y_sm_rf2 f26 (by decide) (by decide))
              refine x_if_ne (by omega) (by omega) (fun z28 => ?_) (fun z => absurd (by omega) z)
              refine x_push 1 rfl ?_
              refine x_iret ?_
              obtain ⟨M, hM, hr, hi, hz⟩ := w_run_p hP G (hI (by omega)).1 (show 0 < t + 1 by omega) (hI (by omega)).2 hrun
              rw [w_step_call (by omega) (by omega), ← pe, ← hx, w_come_n xb.1 ra26] at hz
              have hE := hz (by show -10 - x < 0; omega)
              refine k _ _ (y_sm_tr (y_sm_tr hsm (y_sm_e e13 (Or.inl (by decide)))) (y_sm_w (by decide) (by decide) f26)) ?_
              rw [← hE]
              refine ⟨Or.inr (Or.inr ⟨by show -10 - x ≤ -10; omega, by show -49 ≤ -10 - x; omega, rfl, by show S26 138 21 = -10 - (-10 - x); omega⟩), (f26 138 18 (by decide) (by decide)).trans ((x_up_nr e13 (by decide)).trans h18), ho, fun j hj => ?_, fun j hj => ?_⟩
              · rw [y_sm_a f26 151 (by decide) (by decide), x_up_nr e13 (by decide)]; exact hout j hj
              · by_cases cj : j = x.toNat
                · rw [cj]
                  show S26 152 x.toNat = y_wK v x.toNat (v x.toNat + 1) x.toNat
                  rw [y_wK_e, ri26, nw26]
                · show S26 152 j = y_wK v x.toNat (v x.toNat + 1) j
                  rw [y_wK_o cj, rj26 j cj, x_up_nr e13 (by decide)]; exact hvis j hj
          · skip
            refine x_if_eq (by omega) (by omega) (fun z29 => ?_) (fun z => absurd (by omega) z)
            refine x_blk (b := 8) (a_94 E) rfl ?_
            unfold b_94_8
            refine x_iload rfl ?_
            refine x_push 1 rfl ?_
            refine x_iadd ?_
            have n1 := y_rf_n F13 a1.toNat
            have cw := w_ch_0 (A := σ 140) (p := a1) (f := l (a t).toNat) (z := v11) (by omega) (by omega)
            obtain ⟨x, hx⟩ : ∃ x : Int, x = w_bl P (a t) (w_ch (σ 140) a1 (w_lt l (a t)) v11) := ⟨_, rfl⟩
            have xb : 0 ≤ x ∧ x < n := by rw [hx]; exact w_blS tr ms ⟨by omega, by omega⟩ (w_ch_ok (by omega) (by omega))
            have xe : a t + 1 = x := by
              rw [hx]
              show _ = w_bl P (a t) (w_ch (σ 140) a1 (l (a t).toNat) v11)
              rw [cw]
              unfold w_bl
              rw [if_pos rfl]
            rw [xe]
            refine x_fall ?_
            refine x_blk (b := 9) (a_94 E) rfl ?_
            unfold b_94_9
            refine x_istore ?_
            refine x_aload rfl ?_
            refine x_iload rfl ?_
            refine x_iload rfl ?_
            refine x_push 10 rfl ?_
            refine x_isub ?_
            refine x_push 2 rfl ?_
            refine x_idiv (by omega) (by omega) (by omega) (by omega) ?_
            refine x_iload rfl ?_
            refine x_cV (fun _ => rfl) rfl (by decide) (Nat.le_of_ble_eq_true rfl) ?_
            have sm30 : y_sm [148, 149, 150, 151, 152] [14, 18, 21] σ S13 := (y_sm_tr hsm (y_sm_e e13 (Or.inl (by decide))))
            have n030 : S13 140 = σ 140 := funext fun z => y_sm_a sm30 140 (by decide) (by decide) z
            have nl30 : S13 145 x.toNat = l x.toNat := (y_sm_a sm30 145 (by decide) (by decide) _).trans (gr x.toNat (by omega)).1
            have nv30 : S13 147 x.toNat = V x.toNat := (y_sm_a sm30 147 (by decide) (by decide) _).trans (gr x.toNat (by omega)).2.2
            have nw30 : S13 152 x.toNat = v x.toNat := (x_up_nr e13 (by decide)).trans (hvis x.toNat (by omega))
            have vb := hI3 x.toNat
            have p14 : S13 138 14 = τ 138 14 := x_up_nr e13 (by decide)
            refine rx_95 (by omega) (by omega) (by omega) (by omega) (by omega) (by omega) (by omega) (by omega) (y_rf_P F13 hP) (fun S30 f30 ra30 rd30 re30 rf30 rg30 rh30 ri30 rj30 => ?_) (fun S30 f30 ra30 rd30 ri30 rj30 => ?_)
            · rw [n030, nl30, nv30] at ra30 re30
              have F30 := y_rf_tr F13 (y_sm_rf2 f30 (by decide) (by decide))
              refine x_if_ne (by omega) (by omega) (fun z => absurd z (by omega)) (fun z31 => ?_)
              refine x_blk (b := 10) (a_94 E) rfl ?_
              unfold b_94_10
              refine x_goto ?_
              refine x_blk (b := 6) (a_94 E) rfl ?_
              unfold b_94_6
              refine x_goto ?_
              refine x_G_lo (lo' := [(0, x_R 138), (1, x_I _)]) ⟨rfl, rfl, trivial⟩ ?_
              obtain ⟨M, hM, hr, hi, hz⟩ := w_run_p hP G (hI (by omega)).1 (show 0 < t + 1 by omega) (hI (by omega)).2 hrun
              rw [w_step_call (by omega) (by omega), ← pe, ← hx, w_come_y xb.1 ra30] at hr hi
              have eH : (S13 138 14).toNat = t + 1 := by omega
              rw [eH] at re30 rf30 rg30 rh30
              refine ih M (by omega) (t + 2) _ _ _ o u _ S30 (y_sm_tr (y_sm_tr hsm (y_sm_e e13 (Or.inl (by decide)))) (y_sm_w (by decide) (by decide) f30)) ⟨by omega, fun j hj => ?_, ?_, fun j hj => ?_, fun j hj => ?_⟩ ho (fun h => hi rfl h) hr
              · by_cases cj : j = t + 1
                · rw [cj, y_wK_e, y_wK_e, y_wK_e]
                  exact ⟨re30, rf30, rg30⟩
                · rw [y_wK_o cj, y_wK_o cj, y_wK_o cj, (rh30 j cj).1, (rh30 j cj).2.1, (rh30 j cj).2.2, x_up_nr e13 (r' := 148) (by decide), x_up_nr e13 (r' := 150) (by decide)]
                  refine ⟨(hent j (by omega)).1, ?_, (hent j (by omega)).2.2⟩
                  by_cases ck : j = t
                  · rw [ck, y_wK_e]; exact x_up_at e13
                  · rw [y_wK_o ck, x_up_ne e13 (fun z => ck z.2)]; exact (hent j (by omega)).2.1
              · exact (f30 138 18 (by decide) (by decide)).trans ((x_up_nr e13 (by decide)).trans h18)
              · rw [y_sm_a f30 151 (by decide) (by decide), x_up_nr e13 (by decide)]; exact hout j hj
              · by_cases cj : j = x.toNat
                · rw [cj]
                  show S30 152 x.toNat = y_wK v x.toNat (v x.toNat + 1) x.toNat
                  rw [y_wK_e, ri30, nw30]
                · show S30 152 j = y_wK v x.toNat (v x.toNat + 1) j
                  rw [y_wK_o cj, rj30 j cj, x_up_nr e13 (by decide)]; exact hvis j hj
            · rw [n030, nl30, nv30] at ra30
              have F30 := y_rf_tr F13 (y_sm_rf2 f30 (by decide) (by decide))
              refine x_if_ne (by omega) (by omega) (fun z32 => ?_) (fun z => absurd (by omega) z)
              refine x_push 1 rfl ?_
              refine x_iret ?_
              obtain ⟨M, hM, hr, hi, hz⟩ := w_run_p hP G (hI (by omega)).1 (show 0 < t + 1 by omega) (hI (by omega)).2 hrun
              rw [w_step_call (by omega) (by omega), ← pe, ← hx, w_come_n xb.1 ra30] at hz
              have hE := hz (by show -10 - x < 0; omega)
              refine k _ _ (y_sm_tr (y_sm_tr hsm (y_sm_e e13 (Or.inl (by decide)))) (y_sm_w (by decide) (by decide) f30)) ?_
              rw [← hE]
              refine ⟨Or.inr (Or.inr ⟨by show -10 - x ≤ -10; omega, by show -49 ≤ -10 - x; omega, rfl, by show S30 138 21 = -10 - (-10 - x); omega⟩), (f30 138 18 (by decide) (by decide)).trans ((x_up_nr e13 (by decide)).trans h18), ho, fun j hj => ?_, fun j hj => ?_⟩
              · rw [y_sm_a f30 151 (by decide) (by decide), x_up_nr e13 (by decide)]; exact hout j hj
              · by_cases cj : j = x.toNat
                · rw [cj]
                  show S30 152 x.toNat = y_wK v x.toNat (v x.toNat + 1) x.toNat
                  rw [y_wK_e, ri30, nw30]
                · show S30 152 j = y_wK v x.toNat (v x.toNat + 1) j
                  rw [y_wK_o cj, rj30 j cj, x_up_nr e13 (by decide)]; exact hvis j hj
set_option maxHeartbeats 8000000 in
theorem rx_94_b2 {E : q_E} {σ : x_S} {Q : Option q_V → x_S → Prop} {a1 a2 : Int} (a1l : 0 ≤ a1) (a1h : a1 ≤ 1) (a2l : (-2147483648) ≤ a2) (a2h : a2 ≤ 2147483647) (hP : y_PI (σ 140)) {n : Nat} {l P V : Nat → Int} (n40 : n ≤ 40) (n0 : 1 ≤ n) (tr : y_tr l n) (ms : y_ms (σ 140) 0 l n P V) (gr : ∀ v, v < n → σ 145 v = l v ∧ σ 146 v = P v ∧ σ 147 v = V v) {R : Int × w_C} (hR : w_run (σ 140) a1 (w_lt l) (w_lt V) w_nd (w_bl P) 100000 (w_come (σ 140) a1 (w_lt l) (w_lt V) w_nd a2 0 w_0) = R) (k : ∀ τ h, y_sm [148, 149, 150, 151, 152] [14, 18, 21] σ τ → y_RE τ h R → Q (some (x_I h)) τ) : ∀ (N : Nat) (i : Int) (τ : x_S), (40 - i).toNat = N → 0 ≤ i → i ≤ 40 → y_sm [148, 149, 150, 151, 152] [14, 18, 21] σ τ → τ 138 14 = 0 → τ 138 18 = 0 → (∀ j : Nat, (j : Int) < i → τ 152 j = 0) → x_G E m_94 Q (t_94 2) [(0, x_R 138), (1, x_I a1), (2, x_I a2), (3, x_I i)] [] τ := by
  have ru := hP.2.2.2.1
  have kd := hP.1
  intro N
  induction N using Nat.strongRecOn with
  | ind N ih =>
    intro i τ hN i1 i2 hsm h14 h18 hz0
    have F := y_sm_rf2 hsm (by decide) (by decide)
    refine x_blk (b := 2) (a_94 E) rfl ?_
    unfold b_94_2
    refine x_iload rfl ?_
    refine x_push 40 rfl ?_
    refine x_icmp_ge (by omega) (by omega) (by omega) (by omega) (fun z1 => ?_) (fun z1 => ?_)
    · skip
      refine x_aload rfl ?_
      refine x_getR (r := 138) rfl (by decide) (by decide) rfl ?_
      refine x_iload rfl ?_
      refine x_push 0 rfl ?_
      refine x_astN (m := i.toNat) y_m152 F (by omega) (by omega) (by omega) (by omega) (by omega) (fun S2 e2 F2 => ?_)
      have w2 := x_up_at e2
      refine x_iinc 1 rfl rfl ?_
      refine x_goto ?_
      refine x_G_lo (lo' := [(0, x_R 138), (1, x_I _), (2, x_I _), (3, x_I _)]) ⟨rfl, rfl, rfl, rfl, trivial⟩ ?_
      refine ih _ (by omega) _ S2 rfl (by omega) (by omega) (y_sm_tr hsm (y_sm_e e2 (Or.inl (by decide)))) ((x_up_nr e2 (by decide)).trans h14) ((x_up_nr e2 (by decide)).trans h18) (fun j hj => ?_)
      by_cases cx : j = i.toNat
      · rw [cx]; exact x_up_at e2
      · rw [x_up_ne e2 (fun z => cx z.2)]; exact hz0 j (by omega)
    · skip
      refine x_blk (b := 1) (a_94 E) rfl ?_
      unfold b_94_1
      refine x_aload rfl ?_
      refine x_iload rfl ?_
      refine x_iload rfl ?_
      refine x_push 0 rfl ?_
      refine x_cV (fun _ => rfl) rfl (by decide) (Nat.le_of_ble_eq_true rfl) ?_
      have sm3 : y_sm [148, 149, 150, 151, 152] [14, 18, 21] σ τ := hsm
      have n03 : τ 140 = σ 140 := funext fun z => y_sm_a sm3 140 (by decide) (by decide) z
      have nl3 : τ 145 (0 : Int).toNat = l (0 : Int).toNat := (y_sm_a sm3 145 (by decide) (by decide) _).trans (gr (0 : Int).toNat (by omega)).1
      have nv3 : τ 147 (0 : Int).toNat = V (0 : Int).toNat := (y_sm_a sm3 147 (by decide) (by decide) _).trans (gr (0 : Int).toNat (by omega)).2.2
      have nw3 : τ 152 (0 : Int).toNat = 0 := hz0 0 (by omega)
      refine rx_95 (by omega) (by omega) (by omega) (by omega) (by omega) (by omega) (by omega) (by omega) (y_rf_P F hP) (fun S3 f3 ra3 rd3 re3 rf3 rg3 rh3 ri3 rj3 => ?_) (fun S3 f3 ra3 rd3 ri3 rj3 => ?_)
      · rw [n03, nl3, nv3] at ra3 re3
        have F3 := y_rf_tr F (y_sm_rf2 f3 (by decide) (by decide))
        refine x_if_ne (by omega) (by omega) (fun z => absurd z (by omega)) (fun z4 => ?_)
        refine x_G_lo (lo' := [(0, x_R 138), (1, x_I _)]) ⟨rfl, rfl, trivial⟩ ?_
        have G := w_GS (A := σ 140) n40 tr ms
        have q18 : S3 138 18 = τ 138 18 := f3 138 18 (by decide) (by decide)
        have e0 : (τ 138 14).toNat = 0 := by omega
        rw [e0] at re3 rf3 rg3
        have hs : w_come (σ 140) a1 (w_lt l) (w_lt V) w_nd a2 0 w_0 = (0, (1, y_wK (fun _ => 0) 0 0, y_wK (fun _ => 0) 0 (y_sel (σ 140) a1 a2 (l (0 : Int).toNat) (V (0 : Int).toNat) (σ 140 62).toNat), y_wK (fun _ => 0) 0 0, 0, fun _ => 0, y_wK (fun _ => 0) (0 : Int).toNat (0 + 1))) := w_come_y (by omega) ra3
        have c0 := w_come0 (p := a1) (sg := w_lt V) (q := a2) (x := 0) hP G (Or.inr ⟨⟨by omega, by omega⟩, by show (0 : Int) ≤ 0; omega⟩)
        rw [hs] at c0
        have hR2 := hR
        rw [hs] at hR2
        have c1 := c0.resolve_right (fun z => absurd z.2 (by show ¬ ((0 : Int) ≤ -10); decide))
        refine rx_94_b3 a1l a1h a2l a2h hP n40 n0 tr ms gr hR k 100000 1 _ _ _ 0 _ _ S3 (y_sm_tr hsm (y_sm_w (by decide) (by decide) f3)) ⟨by omega, fun j hj => ?_, by omega, fun j hj => absurd hj (by omega), fun j hj => ?_⟩ (by omega) (fun _ => ⟨c1.2.2.1, Int.le_trans c1.2.2.2 (by omega)⟩) hR2
        · have hj0 : j = 0 := by omega
          rw [hj0, y_wK_e, y_wK_e]
          exact ⟨re3, rf3, rg3⟩
        · by_cases cj : j = (0 : Int).toNat
          · rw [cj, y_wK_e, ri3, nw3]
          · rw [y_wK_o cj, rj3 j cj]
            exact hz0 j (by omega)
      · rw [n03, nl3, nv3] at ra3
        have F3 := y_rf_tr F (y_sm_rf2 f3 (by decide) (by decide))
        refine x_if_ne (by omega) (by omega) (fun z5 => ?_) (fun z => absurd (by omega) z)
        refine x_push 1 rfl ?_
        refine x_iret ?_
        have hs : w_come (σ 140) a1 (w_lt l) (w_lt V) w_nd a2 0 w_0 = (-10 - 0, (0, fun _ => 0, fun _ => 0, fun _ => 0, 0, fun _ => 0, y_wK (fun _ => 0) (0 : Int).toNat (0 + 1))) := w_come_n (by omega) ra3
        rw [hs, w_run_t (fun y => absurd y.1 (by show ¬ ((-10 - 0 : Int) = 0); decide)) 100000] at hR
        refine k _ _ (y_sm_tr hsm (y_sm_w (by decide) (by decide) f3)) ?_
        rw [← hR]
        refine ⟨Or.inr (Or.inr ⟨by omega, by omega, rfl, rd3⟩), (f3 138 18 (by decide) (by decide)).trans h18, by omega, fun j hj => absurd hj (by omega), fun j hj => ?_⟩
        by_cases cj : j = (0 : Int).toNat
        · rw [cj, y_wK_e, ri3, nw3]
        · rw [y_wK_o cj, rj3 j cj]
          exact hz0 j (by omega)
theorem rx_94 {E : q_E} {σ : x_S} {Q : Option q_V → x_S → Prop} {a1 a2 : Int} (a1l : 0 ≤ a1) (a1h : a1 ≤ 1) (a2l : (-2147483648) ≤ a2) (a2h : a2 ≤ 2147483647) (hP : y_PI (σ 140)) {n : Nat} {l P V : Nat → Int} (n40 : n ≤ 40) (n0 : 1 ≤ n) (tr : y_tr l n) (ms : y_ms (σ 140) 0 l n P V) (gr : ∀ v, v < n → σ 145 v = l v ∧ σ 146 v = P v ∧ σ 147 v = V v) {R : Int × w_C} (hR : w_run (σ 140) a1 (w_lt l) (w_lt V) w_nd (w_bl P) 100000 (w_come (σ 140) a1 (w_lt l) (w_lt V) w_nd a2 0 w_0) = R) (k : ∀ τ h, y_sm [148, 149, 150, 151, 152] [14, 18, 21] σ τ → y_RE τ h R → Q (some (x_I h)) τ) : x_P E 94 [x_R 138, x_I a1, x_I a2] σ Q := by
  have ru := hP.2.2.2.1
  have kd := hP.1
  refine x_Mt e_94 (h_94 E) (Nat.le_of_ble_eq_true rfl) t_94 rfl ?_
  refine x_blk (b := 0) (a_94 E) rfl ?_
  unfold b_94_0
  refine x_aload rfl ?_
  refine x_push 0 rfl ?_
  refine x_put138 (by decide) rfl ⟨by decide, rfl⟩ (by decide) y_rf_rf (by omega) (by omega) (fun S1 e1 F1 => ?_)
  refine x_aload rfl ?_
  refine x_push 0 rfl ?_
  refine x_put138 (by decide) rfl ⟨by decide, rfl⟩ (by decide) F1 (by omega) (by omega) (fun S2 e2 F2 => ?_)
  refine x_push 0 rfl ?_
  refine x_istore ?_
  refine x_fall ?_
  refine x_G_lo (lo' := [(0, x_R 138), (1, x_I _), (2, x_I _), (3, x_I _)]) ⟨rfl, rfl, rfl, rfl, trivial⟩ ?_
  exact rx_94_b2 a1l a1h a2l a2h hP n40 n0 tr ms gr hR k _ _ S2 rfl (by omega) (by omega) (y_sm_tr (y_sm_tr y_sm_rf (y_sm_e e1 (Or.inr ⟨rfl, by decide⟩))) (y_sm_e e2 (Or.inr ⟨rfl, by decide⟩))) (x_up_at e2) ((x_up_ne e2 (by decide)).trans (x_up_at e1)) (fun j hj => absurd hj (by omega))
theorem rx_96 {E : q_E} {σ : x_S} {Q : Option q_V → x_S → Prop} {a1 a2 a3 : Int} (a1l : (-2147483648) ≤ a1) (a1h : a1 ≤ 2147483647) (a2l : (-60) ≤ a2) (a2h : a2 ≤ (-10)) (a3l : (-1) ≤ a3) (a3h : a3 ≤ 2147483647) (rq0 : 0 ≤ σ 138 18 ∧ σ 138 18 ≤ 40) (rq1 : a1 = 1 → 0 ≤ σ 138 21 ∧ σ 138 21 ≤ 40) (k : ∀ v, (-2147483648) ≤ v → v ≤ 2147483647 → ((a1 = 1 ∧ v = a2 - σ 138 21) ∨ (a1 = 2 ∧ v = -3) ∨ (¬ a1 = 1 ∧ ¬ a1 = 2 ∧ a3 < 0 ∧ v = σ 138 18) ∨ (¬ a1 = 1 ∧ ¬ a1 = 2 ∧ 0 ≤ a3 ∧ a3 < σ 138 18 ∧ v = σ 151 a3.toNat) ∨ (¬ a1 = 1 ∧ ¬ a1 = 2 ∧ σ 138 18 ≤ a3 ∧ v = -4)) → Q (some (x_I v)) σ) : x_P E 96 [x_R 138, x_I a1, x_I a2, x_I a3] σ Q := by
  refine x_Mt e_96 (h_96 E) (Nat.le_of_ble_eq_true rfl) t_96 rfl ?_
  refine x_blk (b := 0) (a_96 E) rfl ?_
  unfold b_96_0
  refine x_iload rfl ?_
  refine x_push 1 rfl ?_
  refine x_icmp_ne (by omega) (by omega) (by omega) (by omega) (fun z1 => ?_) (fun z1 => ?_)
  · skip
    refine x_iload rfl ?_
    refine x_aload rfl ?_
    refine x_getI (r := 138) rfl (by decide) (by decide) (by decide) rfl ?_
    intro g2a g2b
    refine x_isub ?_
    refine x_goto ?_
    refine x_blk (b := 2) (a_96 E) rfl ?_
    unfold b_96_2
    refine x_iret ?_
    exact k _ (by omega) (by omega) (by omega)
  · skip
    refine x_blk (b := 1) (a_96 E) rfl ?_
    unfold b_96_1
    refine x_iload rfl ?_
    refine x_push 2 rfl ?_
    refine x_icmp_ne (by omega) (by omega) (by omega) (by omega) (fun z3 => ?_) (fun z3 => ?_)
    · skip
      refine x_push (-3) rfl ?_
      refine x_goto ?_
      refine x_blk (b := 2) (a_96 E) rfl ?_
      unfold b_96_2
      refine x_iret ?_
      exact k _ (by omega) (by omega) (by omega)
    · skip
      refine x_blk (b := 3) (a_96 E) rfl ?_
      unfold b_96_3
      refine x_iload rfl ?_
      refine x_if_ge (by omega) (by omega) (fun z4 => ?_) (fun z4 => ?_)
      · skip
        refine x_aload rfl ?_
        refine x_getI (r := 138) rfl (by decide) (by decide) (by decide) rfl ?_
        intro g5a g5b
        refine x_goto ?_
        refine x_blk (b := 2) (a_96 E) rfl ?_
        unfold b_96_2
        refine x_iret ?_
        exact k _ (by omega) (by omega) (by omega)
      · skip
        refine x_blk (b := 4) (a_96 E) rfl ?_
        unfold b_96_4
        refine x_iload rfl ?_
        refine x_aload rfl ?_
        refine x_getI (r := 138) rfl (by decide) (by decide) (by decide) rfl ?_
        intro g6a g6b
        refine x_icmp_ge (by omega) (by omega) (by omega) (by omega) (fun z7 => ?_) (fun z7 => ?_)
        · skip
          refine x_aload rfl ?_
          refine x_getR (r := 138) rfl (by decide) (by decide) rfl ?_
          refine x_iload rfl ?_
          refine x_iald (r := 151) (n := 40) (m := a3.toNat) rfl rfl (by decide) (fun _ => rfl) (by omega) (by omega) (by omega) ?_
          intro g8a g8b
          refine x_goto ?_
          refine x_blk (b := 2) (a_96 E) rfl ?_
          unfold b_96_2
          refine x_iret ?_
          exact k _ (by omega) (by omega) (by omega)
        · skip
          refine x_blk (b := 5) (a_96 E) rfl ?_
          unfold b_96_5
          refine x_push (-4) rfl ?_
          refine x_fall ?_
          refine x_blk (b := 2) (a_96 E) rfl ?_
          unfold b_96_2
          refine x_iret ?_
          exact k _ (by omega) (by omega) (by omega)
