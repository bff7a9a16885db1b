/-! the start: both constructors leave what every call keeps -/
def z_ck1 : Bool := (List.range 160).all (fun r => match x_T[r]?, q_get z_h2 r with
  | some (t, n, ws), some (t', n', d) => Nat.beq t t' && Nat.beq n n' && (List.range n).all (fun i => cond (Nat.beq (ws.getD i 0) 0) (Nat.blt (q_rd d i) (x_top t i)) (Nat.beq (q_rd d i) (ws.getD i 0)))
  | _, _ => false)
set_option maxRecDepth 100000 in
theorem z_ck1_ok : z_ck1 = true := by decide +kernel
theorem z_xT : x_T.length = 160 := by decide +kernel
theorem z_sh : x_sh z_h2 := by
  intro r t n ws hT
  have hr : r < 160 := by
    have := (List.getElem?_eq_some_iff.mp hT).1
    rw [z_xT] at this
    exact this
  have h := List.all_eq_true.mp z_ck1_ok r (List.mem_range.mpr hr)
  rw [hT] at h
  cases hg : q_get z_h2 r with
  | none => rw [hg] at h; cases h
  | some c =>
    obtain ⟨t', n', d⟩ := c
    rw [hg] at h
    dsimp only at h
    rw [Bool.and_eq_true, Bool.and_eq_true] at h
    obtain ⟨⟨h1, h2⟩, h3⟩ := h
    have e1 : t = t' := Nat.eq_of_beq_eq_true h1
    have e2 : n = n' := Nat.eq_of_beq_eq_true h2
    subst e1; subst e2
    refine ⟨d, rfl, fun i hi => ?_⟩
    have h4 := List.all_eq_true.mp h3 i (List.mem_range.mpr hi)
    cases hb : Nat.beq (ws.getD i 0) 0 with
    | true =>
      rw [hb] at h4
      have e := Nat.eq_of_beq_eq_true hb
      exact ⟨fun _ => Nat.le_of_ble_eq_true h4, fun z => absurd e z⟩
    | false =>
      rw [hb] at h4
      refine ⟨fun z => ?_, fun _ => Nat.eq_of_beq_eq_true h4⟩
      rw [z] at hb
      cases hb
/-- the words, as codes moved up by half -/
def z_bd (h : q_H) (r k : Nat) : Bool := Nat.beq (x_tag r) 1 || (decide ((y_bn r k).1 + 2147483648 ≤ (q_bi (q_rd (x_d h r) k) : Int)) && decide ((q_bi (q_rd (x_d h r) k) : Int) ≤ (y_bn r k).2 + 2147483648))
def z_ck2 : Bool := (List.range 138).all (fun r => (List.range (x_len r)).all (fun k => z_bd z_h2 r k))
set_option maxRecDepth 100000 in
theorem z_ck2_ok : z_ck2 = true := by decide +kernel
theorem z_g {h : q_H} {r k : Nat} (ht : x_tag r ≠ 1) : x_g h r k = (q_bi (q_rd (x_d h r) k) : Int) - 2147483648 := by
  unfold x_g x_de
  rw [if_neg ht]
  rfl
theorem z_CI : y_CI (x_g z_h2) := by
  intro r k hr ht hk
  have h := List.all_eq_true.mp (List.all_eq_true.mp z_ck2_ok r (List.mem_range.mpr hr)) k (List.mem_range.mpr hk)
  unfold z_bd at h
  have hb : Nat.beq (x_tag r) 1 = false := by
    cases hb : Nat.beq (x_tag r) 1 with
    | false => rfl
    | true => exact absurd (Nat.eq_of_beq_eq_true hb) ht
  rw [hb, Bool.false_or, Bool.and_eq_true] at h
  have h1 := of_decide_eq_true h.1
  have h2 := of_decide_eq_true h.2
  rw [z_g ht]
  generalize (q_bi (q_rd (x_d z_h2 r) k) : Int) = x at h1 h2 ⊢
  exact ⟨by omega, by omega⟩
/-- the reference's row of the program at the start -/
def z_f : Nat → Int := fun k => (q_bi (q_rd (x_d z_h2 140) k) : Int) - 2147483648
theorem z_f_eq (k : Nat) : z_f k = x_g z_h2 140 k := by
  have e := z_g (h := z_h2) (r := 140) (k := k) (by decide)
  unfold z_f
  exact e.symm
def z_rl (q : Nat → Int) : Bool := decide (0 ≤ q 0 ∧ q 0 ≤ 1) && decide (0 ≤ q 1 ∧ q 1 ≤ 2) && decide (0 ≤ q 2 ∧ q 2 ≤ 4) && decide (0 ≤ q 3 ∧ q 3 ≤ 2) && decide (1 ≤ q 4 ∧ q 4 ≤ 7) && (List.range (q 4).toNat).all (fun k => decide (((0 ≤ q (5 + k) ∧ q (5 + k) ≤ 4) ∨ (10 ≤ q (5 + k) ∧ q (5 + k) ≤ 15 ∧ 2 ≤ q 2 ∧ (q (5 + k) % 2 = 1 → 3 ≤ q 2))) ∧ 1 ≤ y_op (fun i => q (5 + i)) k)) && decide (y_op (fun i => q (5 + i)) (q 4).toNat = 0)
theorem z_rl_ok {q : Nat → Int} (h : z_rl q = true) : y_rl q := by
  unfold z_rl at h
  simp only [Bool.and_eq_true, decide_eq_true_eq, List.all_eq_true, List.mem_range] at h
  obtain ⟨⟨⟨⟨⟨⟨a, b⟩, c⟩, d⟩, e⟩, f⟩, g⟩ := h
  exact ⟨a, b, c, d, e, f, g⟩
def z_tr (p : Nat → Int) (n : Nat) : Bool := (List.range n).all (fun k => decide (0 ≤ p k ∧ p k ≤ 4 ∧ 1 ≤ y_op p k)) && decide (y_op p n = 0)
theorem z_tr_ok {p : Nat → Int} {n : Nat} (h : z_tr p n = true) : y_tr p n := by
  unfold z_tr at h
  simp only [Bool.and_eq_true, decide_eq_true_eq, List.all_eq_true, List.mem_range] at h
  exact h
def z_ck3 : Bool := decide (0 ≤ z_f 0 ∧ z_f 0 ≤ 3) && decide (0 ≤ z_f 1 ∧ z_f 1 ≤ 3) && (List.range 3).all (fun t => decide (1 ≤ z_f (2 + t) ∧ z_f (2 + t) ≤ 11) && z_tr (fun v => z_f (5 + 11 * t + v)) (z_f (2 + t)).toNat) && (List.range 24).all (fun k => decide (0 ≤ z_f (38 + k) ∧ z_f (38 + k) ≤ 1)) && decide (0 ≤ z_f 62 ∧ z_f 62 ≤ 16) && (List.range (z_f 62).toNat).all (fun r => z_rl (fun k => z_f (63 + 12 * r + k)))
set_option maxRecDepth 100000 in
theorem z_ck3_ok : z_ck3 = true := by decide +kernel
theorem z_PI : y_PI z_f := by
  have h := z_ck3_ok
  unfold z_ck3 at h
  simp only [Bool.and_eq_true, decide_eq_true_eq, List.all_eq_true, List.mem_range] at h
  obtain ⟨⟨⟨⟨⟨a, b⟩, c⟩, d⟩, e⟩, f⟩ := h
  refine ⟨⟨a, b⟩, fun t ht => ⟨(c t ht).1, z_tr_ok (c t ht).2⟩, fun k h1 h2 => ?_, e, fun r hr => z_rl_ok (f r hr)⟩
  have := d (k - 38) (by omega)
  rw [show 38 + (k - 38) = k by omega] at this
  exact this
/-- the class's program, what it has chosen, at the start -/
def z_cw (r k : Nat) : Int := (q_bi (q_rd (x_d z_h2 r) k) : Int) - 2147483648
theorem z_cw_eq {r k : Nat} (h : x_tag r ≠ 1) : x_g z_h2 r k = z_cw r k := z_g h
def z_cv (m : Nat) : Int := y_cv z_cw 4 m
theorem z_cv_eq (m : Nat) : y_cv (x_g z_h2) 4 m = z_cv m := y_cv_x (fun _ => z_cw_eq (by decide)) (fun _ _ => z_cw_eq (by decide)) (fun _ _ => z_cw_eq (by decide)) (fun _ _ => z_cw_eq (by decide)) (fun _ => z_cw_eq (by decide)) (fun _ => z_cw_eq (by decide))
def z_ck4 : Bool := (List.range 255).all (fun m => decide (z_cv m = z_f m) || (decide (5 ≤ m) && decide (m < 38) && decide (z_f (2 + (m - 5) / 11) ≤ ((m - 5) % 11 : Nat))) || (decide (63 ≤ m) && (decide (z_f 62 ≤ ((m - 63) / 12 : Nat)) || decide (5 + z_f (67 + 12 * ((m - 63) / 12)) ≤ ((m - 63) % 12 : Nat)))))
set_option maxRecDepth 100000 in
theorem z_ck4_ok : z_ck4 = true := by decide +kernel
theorem z_AG : y_AG (y_cv (x_g z_h2) 4) (x_g z_h2 140) := by
  have key : ∀ m, m < 255 → z_cv m = z_f m ∨ ((5 ≤ m ∧ m < 38) ∧ z_f (2 + (m - 5) / 11) ≤ ((m - 5) % 11 : Nat)) ∨ (63 ≤ m ∧ (z_f 62 ≤ ((m - 63) / 12 : Nat) ∨ 5 + z_f (67 + 12 * ((m - 63) / 12)) ≤ ((m - 63) % 12 : Nat))) := by
    intro m hm
    have h := List.all_eq_true.mp z_ck4_ok m (List.mem_range.mpr hm)
    simp only [Bool.or_eq_true, Bool.and_eq_true, decide_eq_true_eq] at h
    rcases h with (h | h) | h
    · exact Or.inl h
    · exact Or.inr (Or.inl h)
    · exact Or.inr (Or.inr h)
  have hP := z_PI
  have e : x_g z_h2 140 = z_f := funext (fun k => (z_f_eq k).symm)
  rw [e]
  have h62 := hP.2.2.2.1
  refine y_AG_ex (f := z_cv) ⟨fun m hm => ?_, fun t v ht hv => ?_, fun m m1 m2 => ?_, fun r c hr hc => ?_⟩ z_cv_eq
  · rcases key m (by omega) with h | h | h
    · exact h
    · exact absurd h.1.1 (by omega)
    · exact absurd h.1 (by omega)
  · have sz := y_PI_sz hP ht
    rcases key (5 + 11 * t + v) (by omega) with h | h | h
    · exact h
    · have h2 := h.2
      rw [show (5 + 11 * t + v - 5) / 11 = t by omega, show (5 + 11 * t + v - 5) % 11 = v by omega] at h2
      omega
    · exact absurd h.1 (by omega)
  · rcases key m (by omega) with h | h | h
    · exact h
    · exact absurd h.1.2 (by omega)
    · exact absurd h.1 (by omega)
  · have h4 := y_PI_pc hP hr
    rcases key (63 + 12 * r + c) (by omega) with h | h | h
    · exact h
    · exact absurd h.1.2 (by omega)
    · have h2 := h.2
      rw [show (63 + 12 * r + c - 63) / 12 = r by omega, show (63 + 12 * r + c - 63) % 12 = c by omega] at h2
      omega
def z_ck5 : Bool := (List.range 2).all (fun P => (List.range 3).all (fun Q => (List.range 5).all (fun F => (List.range 3).all (fun L => decide (z_cw 10 (((P * 3 + Q) * 5 + F) * 3 + L) = y_sel z_f P Q F L (z_f 62).toNat)))))
set_option maxRecDepth 100000 in
theorem z_ck5_ok : z_ck5 = true := by decide +kernel
theorem z_CH : y_CH (x_g z_h2) 4 (x_g z_h2 140) := by
  have e : x_g z_h2 140 = z_f := funext (fun k => (z_f_eq k).symm)
  rw [e]
  intro P Q F L h1 h2 h3 h4
  have h := List.all_eq_true.mp (List.all_eq_true.mp (List.all_eq_true.mp (List.all_eq_true.mp z_ck5_ok P (List.mem_range.mpr h1)) Q (List.mem_range.mpr h2)) F (List.mem_range.mpr h3)) L (List.mem_range.mpr h4)
  have h := of_decide_eq_true h
  exact (z_cw_eq (by decide)).trans h
theorem z_w138 : q_bi (q_rd (x_d z_h2 138) 0) = 2147483648 ∧ q_bi (q_rd (x_d z_h2 138) 5) = 2147483648 ∧ q_bi (q_rd (x_d z_h2 138) 7) = 2147483648 ∧ q_bi (q_rd (x_d z_h2 1) 2) = 2147483648 ∧ q_bi (q_rd (x_d z_h2 18) 2) = 2147483648 ∧ q_bi (q_rd (x_d z_h2 76) 1) = 2147483648 ∧ q_bi (q_rd (x_d z_h2 76) 2) = 2147483648 := by decide +kernel
theorem z_start : z_LI z_h2 := by
  have w := z_w138
  have e0 : x_g z_h2 138 0 = 0 := by rw [z_g (by decide), w.1]; decide
  have e5 : x_g z_h2 138 5 = 0 := by rw [z_g (by decide), w.2.1]; decide
  have e7 : x_g z_h2 138 7 = 0 := by rw [z_g (by decide), w.2.2.1]; decide
  have e2 : x_g z_h2 1 2 = 0 := by rw [z_g (by decide), w.2.2.2.1]; decide
  have e18 : x_g z_h2 18 2 = 0 := by rw [z_g (by decide), w.2.2.2.2.1]; decide
  have e76 : x_g z_h2 76 1 = 0 := by rw [z_g (by decide), w.2.2.2.2.2.1]; decide
  have e77 : x_g z_h2 76 2 = 0 := by rw [z_g (by decide), w.2.2.2.2.2.2]; decide
  refine ⟨z_sh, z_CI, ⟨by rw [e0]; decide, y_PI_ext (fun k hk => z_f_eq k) z_PI, by rw [e5]; decide, fun u hu => ?_, by rw [e7]; decide, fun u hu => ?_⟩, ⟨by rw [e0, e2], fun k hk => by rw [e0] at hk; omega⟩, ⟨z_AG, z_CH⟩, ?_, ?_⟩
  · rw [e5] at hu
    exact absurd hu (by decide +revert)
  · rw [e7] at hu
    exact absurd hu (by decide +revert)
  · rw [e5]
    exact ⟨e18, fun i hi => absurd hi (by show ¬ i < 0; omega)⟩
  · rw [e7]
    exact ⟨e76, e77, fun i hi => absurd hi (by show ¬ i < 0; omega)⟩
