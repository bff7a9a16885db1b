/-! which passes copy, which leave out: how often a rule calls for a child -/
def y_cc (A : Nat → Int) (r : Nat) (ch : Int) : Nat → Int
  | 0 => 0
  | k + 1 => y_cc A r ch k + (if 9 < A (68 + 12 * r + k) ∧ A (68 + 12 * r + k) % 2 = ch then 1 else 0)
theorem y_cc_s (A : Nat → Int) (r : Nat) (ch : Int) (k : Nat) : y_cc A r ch (k + 1) = y_cc A r ch k + (if 9 < A (68 + 12 * r + k) ∧ A (68 + 12 * r + k) % 2 = ch then 1 else 0) := rfl
theorem y_cc_b {A : Nat → Int} {r : Nat} {ch : Int} : ∀ k : Nat, 0 ≤ y_cc A r ch k ∧ y_cc A r ch k ≤ k
  | 0 => ⟨Int.le_refl _, Int.le_refl _⟩
  | k + 1 => by
    have h := y_cc_b (A := A) (r := r) (ch := ch) k
    rw [y_cc_s]
    split <;> omega
def y_nc (A : Nat → Int) (r : Nat) (ch : Int) : Int := y_cc A r ch (A (67 + 12 * r)).toNat
/-- a rule is as it should be: no child twice; each child -/
abbrev y_wl (A : Nat → Int) (w : Int) (r : Nat) : Prop := (w = 0 ∧ y_nc A r 0 < 2 ∧ y_nc A r 1 < 2) ∨ (w ≠ 0 ∧ (y_ch (A (65 + 12 * r)) < 1 ∨ 0 < y_nc A r 0) ∧ (y_ch (A (65 + 12 * r)) < 2 ∨ 0 < y_nc A r 1))
def y_li (A : Nat → Int) (p w : Int) : Nat → Int
  | 0 => 1
  | r + 1 => if A (63 + 12 * r) = p ∧ ¬ y_wl A w r then 0 else y_li A p w r
theorem y_li_s (A : Nat → Int) (p w : Int) (r : Nat) : y_li A p w (r + 1) = if A (63 + 12 * r) = p ∧ ¬ y_wl A w r then 0 else y_li A p w r := rfl
theorem y_li_0 {A : Nat → Int} {p w : Int} {r : Nat} : ∀ {n : Nat}, r < n → A (63 + 12 * r) = p → ¬ y_wl A w r → y_li A p w n = 0
  | 0, h, _, _ => absurd h (by omega)
  | n + 1, h, h1, h2 => by
    rw [y_li_s]
    by_cases c : r = n
    · subst c; rw [if_pos ⟨h1, h2⟩]
    · split
      · rfl
      · exact y_li_0 (by omega) h1 h2
theorem y_pcv {A : Nat → Int} (hP : y_PI A) {r k : Nat} (hr : (r : Int) < A 62) (hk : (k : Int) < A (67 + 12 * r)) : (0 ≤ A (68 + 12 * r + k) ∧ A (68 + 12 * r + k) ≤ 4) ∨ (10 ≤ A (68 + 12 * r + k) ∧ A (68 + 12 * r + k) ≤ 15) := by
  have h62 := hP.2.2.2.1
  have h := (hP.2.2.2.2 r (by omega)).2.2.2.2.2.1 k (by rw [show 67 + 12 * r = 63 + 12 * r + 4 by omega] at hk; show k < (A (63 + 12 * r + 4)).toNat; omega)
  have h1 : y_pc (A (63 + 12 * r + 2)) (A (63 + 12 * r + (5 + k))) := h.1
  rw [show 68 + 12 * r + k = 63 + 12 * r + (5 + k) by omega]
  unfold y_pc at h1
  omega
theorem kx_77_4_b3 {E : q_E} {σ : x_S} {Q : Option q_V → x_S → Prop} (C0 : y_CI σ) {A : Nat → Int} (hP : y_PI A) (hA : y_AG (y_cv σ 4) A) {a1 a2 : Int} (a1l : 0 ≤ a1) (a1h : a1 < A 62) (a2l : 0 ≤ a2) (a2h : a2 ≤ 1) (k : Q (some (x_I (y_nc A a1.toNat a2))) σ) : ∀ (N : Nat) (n i : Int), (7 - i).toNat = N → 0 ≤ i → i ≤ A (67 + 12 * a1.toNat) → n = y_cc A a1.toNat a2 i.toNat → x_G E m_77 Q (t_77 3) [(0, x_R 4), (1, x_I a1), (2, x_I a2), (3, x_I n), (4, x_I i)] [] σ := by
  have h62 := hP.2.2.2.1
  have n6 := y_PG_n hA
  have p7 := y_PI_pc hP (r := a1.toNat) (by omega)
  have w4 : σ 9 (a1 * 12 + 4).toNat = A (67 + 12 * a1.toNat) := by
    have e := y_PG_w hA (r := a1.toNat) (c := 4) (by omega) (by omega)
    rw [show (a1 * 12 + 4).toNat = 12 * a1.toNat + 4 by omega]
    exact e.trans (congrArg A (by omega))
  intro N
  induction N using Nat.strongRecOn with
  | ind N ih =>
    intro n i hN i1 i2 hv
    have nb := y_cc_b (A := A) (r := a1.toNat) (ch := a2) i.toNat
    have wp : i < A (67 + 12 * a1.toNat) → σ 9 (a1 * 12 + 5 + i).toNat = A (68 + 12 * a1.toNat + i.toNat) := fun h => by
      have e := y_PG_w hA (r := a1.toNat) (c := 5 + i.toNat) (by omega) (by omega)
      rw [show (a1 * 12 + 5 + i).toNat = 12 * a1.toNat + (5 + i.toNat) by omega]
      exact e.trans (congrArg A (by omega))
    have pv : i < A (67 + 12 * a1.toNat) → _ := fun h => y_pcv hP (r := a1.toNat) (k := i.toNat) (by omega) (by omega)
    refine x_blk (b := 3) (a_77 E) rfl ?_
    unfold b_77_3
    refine x_iload rfl ?_
    refine x_aload rfl ?_
    refine x_iload rfl ?_
    refine x_push 4 rfl ?_
    refine x_cV (fun _ => rfl) rfl (by decide) (Nat.le_of_ble_eq_true rfl) ?_
    refine kx_6_4 (by omega) (by omega) (by omega) (by omega) C0 (fun v1 v1a v1b v1c => ?_)
    refine x_icmp_ge (by omega) (by omega) (by omega) (by omega) (fun z2 => ?_) (fun z2 => ?_)
    · skip
      refine x_aload rfl ?_
      refine x_iload rfl ?_
      refine x_iload rfl ?_
      refine x_cV (fun _ => rfl) rfl (by decide) (Nat.le_of_ble_eq_true rfl) ?_
      refine kx_53_4 (by omega) (by omega) (by omega) (by omega) C0 (fun v3 v3a v3b v3c => ?_)
      have e1 := wp (by omega)
      have e2 := pv (by omega)
      refine x_istore ?_
      refine x_iload rfl ?_
      refine x_push 10 rfl ?_
      refine x_icmp_lt (by omega) (by omega) (by omega) (by omega) (fun z4 => ?_) (fun z4 => ?_)
      · skip
        refine x_blk (b := 2) (a_77 E) rfl ?_
        unfold b_77_2
        refine x_iinc 1 rfl rfl ?_
        refine x_X_lo (lo' := [(0, x_R 4), (1, x_I _), (2, x_I _), (3, x_I _), (4, x_I _), (5, x_I _)]) ⟨rfl, rfl, rfl, rfl, rfl, rfl, trivial⟩ ?_
        refine x_goto ?_
        refine x_G_lo (lo' := [(0, x_R 4), (1, x_I _), (2, x_I _), (3, x_I _), (4, x_I _)]) ⟨rfl, rfl, rfl, rfl, rfl, trivial⟩ ?_
        refine ih _ (by omega) _ (i + 1) rfl (by omega) (by omega) ?_
        rw [show (i + 1).toNat = i.toNat + 1 by omega, y_cc_s]
        by_cases c : 9 < A (68 + 12 * a1.toNat + i.toNat) ∧ A (68 + 12 * a1.toNat + i.toNat) % 2 = a2
        · rw [if_pos c]; omega
        · rw [if_neg c]; omega
      · skip
        refine x_iload rfl ?_
        refine x_push 10 rfl ?_
        refine x_isub ?_
        refine x_push 1 rfl ?_
        refine x_iand1 (by omega) (by omega) ?_
        refine x_iload rfl ?_
        refine x_icmp_ne (by omega) (by omega) (by omega) (by omega) (fun z5 => ?_) (fun z5 => ?_)
        · skip
          refine x_iinc 1 rfl rfl ?_
          refine x_X_lo (lo' := [(0, x_R 4), (1, x_I _), (2, x_I _), (3, x_I _), (4, x_I _), (5, x_I _)]) ⟨rfl, rfl, rfl, rfl, rfl, rfl, trivial⟩ ?_
          refine x_fall ?_
          refine x_blk (b := 2) (a_77 E) rfl ?_
          unfold b_77_2
          refine x_iinc 1 rfl rfl ?_
          refine x_goto ?_
          refine x_G_lo (lo' := [(0, x_R 4), (1, x_I _), (2, x_I _), (3, x_I _), (4, x_I _)]) ⟨rfl, rfl, rfl, rfl, rfl, trivial⟩ ?_
          refine ih _ (by omega) _ (i + 1) rfl (by omega) (by omega) ?_
          rw [show (i + 1).toNat = i.toNat + 1 by omega, y_cc_s]
          by_cases c : 9 < A (68 + 12 * a1.toNat + i.toNat) ∧ A (68 + 12 * a1.toNat + i.toNat) % 2 = a2
          · rw [if_pos c]; omega
          · rw [if_neg c]; omega
        · skip
          refine x_blk (b := 2) (a_77 E) rfl ?_
          unfold b_77_2
          refine x_iinc 1 rfl rfl ?_
          refine x_X_lo (lo' := [(0, x_R 4), (1, x_I _), (2, x_I _), (3, x_I _), (4, x_I _), (5, x_I _)]) ⟨rfl, rfl, rfl, rfl, rfl, rfl, trivial⟩ ?_
          refine x_goto ?_
          refine x_G_lo (lo' := [(0, x_R 4), (1, x_I _), (2, x_I _), (3, x_I _), (4, x_I _)]) ⟨rfl, rfl, rfl, rfl, rfl, trivial⟩ ?_
          refine ih _ (by omega) _ (i + 1) rfl (by omega) (by omega) ?_
          rw [show (i + 1).toNat = i.toNat + 1 by omega, y_cc_s]
          by_cases c : 9 < A (68 + 12 * a1.toNat + i.toNat) ∧ A (68 + 12 * a1.toNat + i.toNat) % 2 = a2
          · rw [if_pos c]; omega
          · rw [if_neg c]; omega
    · skip
      refine x_blk (b := 1) (a_77 E) rfl ?_
      unfold b_77_1
      refine x_iload rfl ?_
      refine x_iret ?_
      refine x_fin (b := y_nc A a1.toNat a2) ?_ k
      rw [hv]
      unfold y_nc
      congr 1
      omega
theorem kx_77_4 {E : q_E} {σ : x_S} {Q : Option q_V → x_S → Prop} (C0 : y_CI σ) {A : Nat → Int} (hP : y_PI A) (hA : y_AG (y_cv σ 4) A) {a1 a2 : Int} (a1l : 0 ≤ a1) (a1h : a1 < A 62) (a2l : 0 ≤ a2) (a2h : a2 ≤ 1) (k : Q (some (x_I (y_nc A a1.toNat a2))) σ) : x_P E 77 [x_R 4, x_I a1, x_I a2] σ Q := by
  have h62 := hP.2.2.2.1
  have n6 := y_PG_n hA
  have p7 := y_PI_pc hP (r := a1.toNat) (by omega)
  have w4 : σ 9 (a1 * 12 + 4).toNat = A (67 + 12 * a1.toNat) := by
    have e := y_PG_w hA (r := a1.toNat) (c := 4) (by omega) (by omega)
    rw [show (a1 * 12 + 4).toNat = 12 * a1.toNat + 4 by omega]
    exact e.trans (congrArg A (by omega))
  refine x_Mt e_77 (h_77 E) (Nat.le_of_ble_eq_true rfl) t_77 rfl ?_
  refine x_blk (b := 0) (a_77 E) rfl ?_
  unfold b_77_0
  refine x_push 0 rfl ?_
  refine x_istore ?_
  refine x_push 0 rfl ?_
  refine x_istore ?_
  refine x_X_lo (lo' := [(0, x_R 4), (1, x_I _), (2, x_I _), (3, x_I _), (4, x_I _)]) ⟨rfl, rfl, rfl, rfl, rfl, trivial⟩ ?_
  refine x_fall ?_
  refine x_G_lo (lo' := [(0, x_R 4), (1, x_I _), (2, x_I _), (3, x_I _), (4, x_I _)]) ⟨rfl, rfl, rfl, rfl, rfl, trivial⟩ ?_
  exact kx_77_4_b3 C0 hP hA a1l a1h a2l a2h k _ 0 0 rfl (by omega) (by omega) rfl
theorem kx_157_4 {E : q_E} {σ : x_S} {Q : Option q_V → x_S → Prop} (C0 : y_CI σ) {A : Nat → Int} (hP : y_PI A) (hA : y_AG (y_cv σ 4) A) {a1 : Int} (a1l : 0 ≤ a1) (a1h : a1 < A 62) (k1 : (y_nc A a1.toNat 0 < 2 ∧ y_nc A a1.toNat 1 < 2) → Q (some (x_I 1)) σ) (k0 : ¬ (y_nc A a1.toNat 0 < 2 ∧ y_nc A a1.toNat 1 < 2) → Q (some (x_I 0)) σ) : x_P E 157 [x_R 4, x_I a1] σ Q := by
  have h62 := hP.2.2.2.1
  have n6 := y_PG_n hA
  have p7 := y_PI_pc hP (r := a1.toNat) (by omega)
  refine x_Mt e_157 (h_157 E) (Nat.le_of_ble_eq_true rfl) t_157 rfl ?_
  refine x_blk (b := 0) (a_157 E) rfl ?_
  unfold b_157_0
  refine x_aload rfl ?_
  refine x_iload rfl ?_
  refine x_push 0 rfl ?_
  refine x_cV (fun _ => rfl) rfl (by decide) (Nat.le_of_ble_eq_true rfl) ?_
  have cb1 := y_cc_b (A := A) (r := (a1).toNat) (ch := 0) (A (67 + 12 * (a1).toNat)).toNat
  have cb1 : 0 ≤ y_nc A (a1).toNat (0) ∧ y_nc A (a1).toNat (0) ≤ (A (67 + 12 * (a1).toNat)).toNat := cb1
  refine kx_77_4 C0 hP hA (by omega) (by omega) (by omega) (by omega) ?_
  refine x_push 2 rfl ?_
  refine x_icmp_ge (by omega) (by omega) (by omega) (by omega) (fun z2 => ?_) (fun z2 => ?_)
  · skip
    refine x_aload rfl ?_
    refine x_iload rfl ?_
    refine x_push 1 rfl ?_
    refine x_cV (fun _ => rfl) rfl (by decide) (Nat.le_of_ble_eq_true rfl) ?_
    have cb3 := y_cc_b (A := A) (r := (a1).toNat) (ch := 1) (A (67 + 12 * (a1).toNat)).toNat
    have cb3 : 0 ≤ y_nc A (a1).toNat (1) ∧ y_nc A (a1).toNat (1) ≤ (A (67 + 12 * (a1).toNat)).toNat := cb3
    refine kx_77_4 C0 hP hA (by omega) (by omega) (by omega) (by omega) ?_
    refine x_push 2 rfl ?_
    refine x_icmp_ge (by omega) (by omega) (by omega) (by omega) (fun z4 => ?_) (fun z4 => ?_)
    · skip
      refine x_push 1 rfl ?_
      refine x_goto ?_
      refine x_blk (b := 2) (a_157 E) rfl ?_
      unfold b_157_2
      refine x_zret (by decide) ?_
      exact k1 (by omega)
    · skip
      refine x_blk (b := 1) (a_157 E) rfl ?_
      unfold b_157_1
      refine x_push 0 rfl ?_
      refine x_fall ?_
      refine x_blk (b := 2) (a_157 E) rfl ?_
      unfold b_157_2
      refine x_zret (by decide) ?_
      exact k0 (by omega)
  · skip
    refine x_blk (b := 1) (a_157 E) rfl ?_
    unfold b_157_1
    refine x_push 0 rfl ?_
    refine x_fall ?_
    refine x_blk (b := 2) (a_157 E) rfl ?_
    unfold b_157_2
    refine x_zret (by decide) ?_
    exact k0 (by omega)
theorem kx_78_4_b3 {E : q_E} {σ : x_S} {Q : Option q_V → x_S → Prop} (C0 : y_CI σ) {A : Nat → Int} (hP : y_PI A) (hA : y_AG (y_cv σ 4) A) {a1 : Int} (a1l : 0 ≤ a1) (a1h : a1 < A 62) (k1 : ((y_ch (A (65 + 12 * a1.toNat)) < 1 ∨ 0 < y_nc A a1.toNat 0) ∧ (y_ch (A (65 + 12 * a1.toNat)) < 2 ∨ 0 < y_nc A a1.toNat 1)) → Q (some (x_I 1)) σ) (k0 : ¬ ((y_ch (A (65 + 12 * a1.toNat)) < 1 ∨ 0 < y_nc A a1.toNat 0) ∧ (y_ch (A (65 + 12 * a1.toNat)) < 2 ∨ 0 < y_nc A a1.toNat 1)) → Q (some (x_I 0)) σ) : ∀ (N : Nat) (h : Int), (2 - h).toNat = N → 0 ≤ h → h ≤ y_ch (A (65 + 12 * a1.toNat)) → (0 < h → 0 < y_nc A a1.toNat 0) → (1 < h → 0 < y_nc A a1.toNat 1) → x_G E m_78 Q (t_78 3) [(0, x_R 4), (1, x_I a1), (2, x_I h)] [] σ := by
  have h62 := hP.2.2.2.1
  have n6 := y_PG_n hA
  have p7 := y_PI_pc hP (r := a1.toNat) (by omega)
  have w2 : σ 9 (a1 * 12 + 2).toNat = A (65 + 12 * a1.toNat) := by
    have e := y_PG_w hA (r := a1.toNat) (c := 2) (by omega) (by omega)
    rw [show (a1 * 12 + 2).toNat = 12 * a1.toNat + 2 by omega]
    exact e.trans (congrArg A (by omega))
  have f4 : 0 ≤ A (65 + 12 * a1.toNat) ∧ A (65 + 12 * a1.toNat) ≤ 4 := by
    have := (hP.2.2.2.2 a1.toNat (by omega)).2.2.1
    rw [show 65 + 12 * a1.toNat = 63 + 12 * a1.toNat + 2 by omega]; exact this
  intro N
  induction N using Nat.strongRecOn with
  | ind N ih =>
    intro h hN i1 i2 p0 p1
    have ex := y_chx (A (65 + 12 * a1.toNat))
    refine x_blk (b := 3) (a_78 E) rfl ?_
    unfold b_78_3
    refine x_iload rfl ?_
    refine x_aload rfl ?_
    refine x_iload rfl ?_
    refine x_push 2 rfl ?_
    refine x_cV (fun _ => rfl) rfl (by decide) (Nat.le_of_ble_eq_true rfl) ?_
    refine kx_6_4 (by omega) (by omega) (by omega) (by omega) C0 (fun v1 v1a v1b v1c => ?_)
    refine x_cS (fun _ => rfl) (Nat.le_of_ble_eq_true rfl) ?_
    refine ke_7 (by omega) (by omega) (fun v2 v2a v2b v2c => ?_)
    refine x_icmp_ge (by omega) (by omega) (by omega) (by omega) (fun z3 => ?_) (fun z3 => ?_)
    · skip
      refine x_aload rfl ?_
      refine x_iload rfl ?_
      refine x_iload rfl ?_
      refine x_cV (fun _ => rfl) rfl (by decide) (Nat.le_of_ble_eq_true rfl) ?_
      have cb4 := y_cc_b (A := A) (r := (a1).toNat) (ch := h) (A (67 + 12 * (a1).toNat)).toNat
      have cb4 : 0 ≤ y_nc A (a1).toNat (h) ∧ y_nc A (a1).toNat (h) ≤ (A (67 + 12 * (a1).toNat)).toNat := cb4
      refine kx_77_4 C0 hP hA (by omega) (by omega) (by omega) (by omega) ?_
      refine x_if_ne (by omega) (by omega) (fun z5 => ?_) (fun z5 => ?_)
      · skip
        refine x_push 0 rfl ?_
        refine x_zret (by decide) ?_
        have ex := y_chx (A (65 + 12 * a1.toNat))
        have cs : h = 0 ∨ h = 1 ∨ h = 2 := by omega
        rcases cs with rfl | rfl | rfl
        all_goals exact k0 (by omega)
      · skip
        refine x_blk (b := 2) (a_78 E) rfl ?_
        unfold b_78_2
        refine x_iinc 1 rfl rfl ?_
        refine x_goto ?_
        refine x_G_lo (lo' := [(0, x_R 4), (1, x_I _), (2, x_I _)]) ⟨rfl, rfl, rfl, trivial⟩ ?_
        have cs : h = 0 ∨ h = 1 := by omega
        rcases cs with rfl | rfl
        · exact ih _ (by omega) _ rfl (by omega) (by omega) (fun _ => by omega) (fun z => absurd z (by omega))
        · exact ih _ (by omega) _ rfl (by omega) (by omega) (fun _ => by omega) (fun _ => by omega)
    · skip
      refine x_blk (b := 1) (a_78 E) rfl ?_
      unfold b_78_1
      refine x_push 1 rfl ?_
      refine x_zret (by decide) ?_
      have ex := y_chx (A (65 + 12 * a1.toNat))
      have cs : h = 0 ∨ h = 1 ∨ h = 2 := by omega
      rcases cs with rfl | rfl | rfl
      all_goals exact k1 (by omega)
theorem kx_78_4 {E : q_E} {σ : x_S} {Q : Option q_V → x_S → Prop} (C0 : y_CI σ) {A : Nat → Int} (hP : y_PI A) (hA : y_AG (y_cv σ 4) A) {a1 : Int} (a1l : 0 ≤ a1) (a1h : a1 < A 62) (k1 : ((y_ch (A (65 + 12 * a1.toNat)) < 1 ∨ 0 < y_nc A a1.toNat 0) ∧ (y_ch (A (65 + 12 * a1.toNat)) < 2 ∨ 0 < y_nc A a1.toNat 1)) → Q (some (x_I 1)) σ) (k0 : ¬ ((y_ch (A (65 + 12 * a1.toNat)) < 1 ∨ 0 < y_nc A a1.toNat 0) ∧ (y_ch (A (65 + 12 * a1.toNat)) < 2 ∨ 0 < y_nc A a1.toNat 1)) → Q (some (x_I 0)) σ) : x_P E 78 [x_R 4, x_I a1] σ Q := by
  have h62 := hP.2.2.2.1
  have n6 := y_PG_n hA
  have p7 := y_PI_pc hP (r := a1.toNat) (by omega)
  have w2 : σ 9 (a1 * 12 + 2).toNat = A (65 + 12 * a1.toNat) := by
    have e := y_PG_w hA (r := a1.toNat) (c := 2) (by omega) (by omega)
    rw [show (a1 * 12 + 2).toNat = 12 * a1.toNat + 2 by omega]
    exact e.trans (congrArg A (by omega))
  have f4 : 0 ≤ A (65 + 12 * a1.toNat) ∧ A (65 + 12 * a1.toNat) ≤ 4 := by
    have := (hP.2.2.2.2 a1.toNat (by omega)).2.2.1
    rw [show 65 + 12 * a1.toNat = 63 + 12 * a1.toNat + 2 by omega]; exact this
  refine x_Mt e_78 (h_78 E) (Nat.le_of_ble_eq_true rfl) t_78 rfl ?_
  refine x_blk (b := 0) (a_78 E) rfl ?_
  unfold b_78_0
  refine x_push 0 rfl ?_
  refine x_istore ?_
  refine x_fall ?_
  refine x_G_lo (lo' := [(0, x_R 4), (1, x_I _), (2, x_I _)]) ⟨rfl, rfl, rfl, trivial⟩ ?_
  have ex := y_chx (A (65 + 12 * a1.toNat))
  exact kx_78_4_b3 C0 hP hA a1l a1h k1 k0 _ 0 rfl (by omega) (by omega) (fun z => absurd z (by omega)) (fun z => absurd z (by omega))
theorem kx_156_0_b7 {E : q_E} {σ : x_S} {Q : Option q_V → x_S → Prop} {a1 a2 : Int} (a1l : -2147483648 ≤ a1) (a1h : a1 ≤ 2147483647) (a2l : -2147483648 ≤ a2) (a2h : a2 ≤ 2147483647) (C0 : y_CI σ) {A : Nat → Int} (hP : y_PI A) (hA : y_AG (y_cv σ 4) A) (kB : ¬ ((0 ≤ a1 ∧ a1 ≤ 1) ∧ (0 ≤ a2 ∧ a2 ≤ 1)) → Q (some (x_I (-1))) σ) (kS : (0 ≤ a1 ∧ a1 ≤ 1) → (0 ≤ a2 ∧ a2 ≤ 1) → Q (some (x_I (y_li A a1 a2 (A 62).toNat))) σ) (b1 : 0 ≤ a1 ∧ a1 ≤ 1) (b2 : 0 ≤ a2 ∧ a2 ≤ 1) : ∀ (N : Nat) (r : Int), (16 - r).toNat = N → 0 ≤ r → r ≤ A 62 → y_li A a1 a2 r.toNat = 1 → x_G E m_156 Q (t_156 7) [(0, x_R 0), (1, x_I a1), (2, x_I a2), (3, x_I r)] [] σ := by
  have h62 := hP.2.2.2.1
  have n6 := y_PG_n hA
  intro N
  induction N using Nat.strongRecOn with
  | ind N ih =>
    intro r hN i1 i2 hv
    have w0 : r < A 62 → σ 9 (r * 12 + 0).toNat = A (63 + 12 * r.toNat) := fun h => by
      have p7 := y_PI_pc hP (r := r.toNat) (by omega)
      have e := y_PG_w hA (r := r.toNat) (c := 0) (by omega) (by omega)
      rw [show (r * 12 + 0).toNat = 12 * r.toNat + 0 by omega]
      exact e.trans (congrArg A (by omega))
    have wb : r < A 62 → 0 ≤ A (63 + 12 * r.toNat) ∧ A (63 + 12 * r.toNat) ≤ 1 := fun h => (hP.2.2.2.2 r.toNat (by omega)).1
    refine x_blk (b := 7) (a_156 E) rfl ?_
    unfold b_156_7
    refine x_iload rfl ?_
    refine x_aload rfl ?_
    refine x_getR (r := 0) rfl (by decide) (by decide) rfl ?_
    refine x_getIG y_f4_6 C0 ?_
    intro g1a g1b
    refine x_icmp_ge (by omega) (by omega) (by omega) (by omega) (fun z2 => ?_) (fun z2 => ?_)
    · skip
      refine x_aload rfl ?_
      refine x_getR (r := 0) rfl (by decide) (by decide) rfl ?_
      refine x_iload rfl ?_
      refine x_push 0 rfl ?_
      refine x_cV (fun _ => rfl) rfl (by decide) (Nat.le_of_ble_eq_true rfl) ?_
      refine kx_6_4 (by omega) (by omega) (by omega) (by omega) C0 (fun v3 v3a v3b v3c => ?_)
      refine x_iload rfl ?_
      refine x_icmp_ne (by omega) (by omega) (by omega) (by omega) (fun z4 => ?_) (fun z4 => ?_)
      · skip
        refine x_iload rfl ?_
        refine x_if_ne (by omega) (by omega) (fun z5 => ?_) (fun z5 => ?_)
        · skip
          refine x_aload rfl ?_
          refine x_getR (r := 0) rfl (by decide) (by decide) rfl ?_
          refine x_iload rfl ?_
          refine x_cV (fun _ => rfl) rfl (by decide) (Nat.le_of_ble_eq_true rfl) ?_
          refine kx_157_4 C0 hP hA (by omega) (by omega) (fun y6 => ?_) (fun y6 => ?_)
          · skip
            refine x_if_eq (by omega) (by omega) (fun z => absurd z (by omega)) (fun z7 => ?_)
            refine x_goto ?_
            refine x_blk (b := 4) (a_156 E) rfl ?_
            unfold b_156_4
            refine x_iinc 1 rfl rfl ?_
            refine x_goto ?_
            refine x_G_lo (lo' := [(0, x_R 0), (1, x_I _), (2, x_I _), (3, x_I _)]) ⟨rfl, rfl, rfl, rfl, trivial⟩ ?_
            refine ih _ (by omega) (r + 1) rfl (by omega) (by omega) ?_
            rw [show (r + 1).toNat = r.toNat + 1 by omega, y_li_s, if_neg]
            · exact hv
            · rintro ⟨z1, z2⟩
              rw [← w0 (by omega)] at z1
              first
                | omega
                | exact z2 (by unfold y_wl; omega)
          · skip
            refine x_if_eq (by omega) (by omega) (fun z8 => ?_) (fun z => absurd (by omega) z)
            refine x_blk (b := 6) (a_156 E) rfl ?_
            unfold b_156_6
            refine x_push 0 rfl ?_
            refine x_iret ?_
            refine x_fin (b := y_li A a1 a2 (A 62).toNat) ?_ (kS (by omega) (by omega))
            exact (y_li_0 (r := r.toNat) (by omega) (by rw [← w0 (by omega)]; omega) (fun z => by unfold y_wl at z; omega)).symm
        · skip
          refine x_blk (b := 5) (a_156 E) rfl ?_
          unfold b_156_5
          refine x_aload rfl ?_
          refine x_getR (r := 0) rfl (by decide) (by decide) rfl ?_
          refine x_iload rfl ?_
          refine x_cV (fun _ => rfl) rfl (by decide) (Nat.le_of_ble_eq_true rfl) ?_
          refine kx_78_4 C0 hP hA (by omega) (by omega) (fun y9 => ?_) (fun y9 => ?_)
          · skip
            refine x_if_ne (by omega) (by omega) (fun z => absurd z (by omega)) (fun z10 => ?_)
            refine x_blk (b := 4) (a_156 E) rfl ?_
            unfold b_156_4
            refine x_iinc 1 rfl rfl ?_
            refine x_goto ?_
            refine x_G_lo (lo' := [(0, x_R 0), (1, x_I _), (2, x_I _), (3, x_I _)]) ⟨rfl, rfl, rfl, rfl, trivial⟩ ?_
            refine ih _ (by omega) (r + 1) rfl (by omega) (by omega) ?_
            rw [show (r + 1).toNat = r.toNat + 1 by omega, y_li_s, if_neg]
            · exact hv
            · rintro ⟨z1, z2⟩
              rw [← w0 (by omega)] at z1
              first
                | omega
                | exact z2 (by unfold y_wl; omega)
          · skip
            refine x_if_ne (by omega) (by omega) (fun z11 => ?_) (fun z => absurd (by omega) z)
            refine x_fall ?_
            refine x_blk (b := 6) (a_156 E) rfl ?_
            unfold b_156_6
            refine x_push 0 rfl ?_
            refine x_iret ?_
            refine x_fin (b := y_li A a1 a2 (A 62).toNat) ?_ (kS (by omega) (by omega))
            exact (y_li_0 (r := r.toNat) (by omega) (by rw [← w0 (by omega)]; omega) (fun z => by unfold y_wl at z; omega)).symm
      · skip
        refine x_blk (b := 4) (a_156 E) rfl ?_
        unfold b_156_4
        refine x_iinc 1 rfl rfl ?_
        refine x_goto ?_
        refine x_G_lo (lo' := [(0, x_R 0), (1, x_I _), (2, x_I _), (3, x_I _)]) ⟨rfl, rfl, rfl, rfl, trivial⟩ ?_
        refine ih _ (by omega) (r + 1) rfl (by omega) (by omega) ?_
        rw [show (r + 1).toNat = r.toNat + 1 by omega, y_li_s, if_neg]
        · exact hv
        · rintro ⟨z1, z2⟩
          rw [← w0 (by omega)] at z1
          first
            | omega
            | exact z2 (by unfold y_wl; omega)
    · skip
      refine x_blk (b := 3) (a_156 E) rfl ?_
      unfold b_156_3
      refine x_push 1 rfl ?_
      refine x_iret ?_
      refine x_fin (b := y_li A a1 a2 (A 62).toNat) ?_ (kS (by omega) (by omega))
      rw [← hv]
      congr 1
      omega
theorem kx_156_0 {E : q_E} {σ : x_S} {Q : Option q_V → x_S → Prop} {a1 a2 : Int} (a1l : -2147483648 ≤ a1) (a1h : a1 ≤ 2147483647) (a2l : -2147483648 ≤ a2) (a2h : a2 ≤ 2147483647) (C0 : y_CI σ) {A : Nat → Int} (hP : y_PI A) (hA : y_AG (y_cv σ 4) A) (kB : ¬ ((0 ≤ a1 ∧ a1 ≤ 1) ∧ (0 ≤ a2 ∧ a2 ≤ 1)) → Q (some (x_I (-1))) σ) (kS : (0 ≤ a1 ∧ a1 ≤ 1) → (0 ≤ a2 ∧ a2 ≤ 1) → Q (some (x_I (y_li A a1 a2 (A 62).toNat))) σ) : x_P E 156 [x_R 0, x_I a1, x_I a2] σ Q := by
  have h62 := hP.2.2.2.1
  have n6 := y_PG_n hA
  refine x_Mt e_156 (h_156 E) (Nat.le_of_ble_eq_true rfl) t_156 rfl ?_
  refine x_blk (b := 0) (a_156 E) rfl ?_
  unfold b_156_0
  refine x_iload rfl ?_
  refine x_push 2 rfl ?_
  refine x_cS (fun _ => rfl) (Nat.le_of_ble_eq_true rfl) ?_
  refine sf_2 (by omega) (by omega) (by omega) (by omega) C0 (fun y1 => ?_) (fun y1 => ?_)
  · skip
    refine x_if_eq (by omega) (by omega) (fun z => absurd z (by omega)) (fun z2 => ?_)
    refine x_iload rfl ?_
    refine x_push 2 rfl ?_
    refine x_cS (fun _ => rfl) (Nat.le_of_ble_eq_true rfl) ?_
    refine sf_2 (by omega) (by omega) (by omega) (by omega) C0 (fun y3 => ?_) (fun y3 => ?_)
    · skip
      refine x_if_ne (by omega) (by omega) (fun z => absurd z (by omega)) (fun z4 => ?_)
      refine x_blk (b := 2) (a_156 E) rfl ?_
      unfold b_156_2
      refine x_push 0 rfl ?_
      refine x_istore ?_
      refine x_fall ?_
      refine x_G_lo (lo' := [(0, x_R 0), (1, x_I _), (2, x_I _), (3, x_I _)]) ⟨rfl, rfl, rfl, rfl, trivial⟩ ?_
      exact kx_156_0_b7 a1l a1h a2l a2h C0 hP hA kB kS (by omega) (by omega) _ 0 rfl (by omega) (by omega) rfl
    · skip
      refine x_if_ne (by omega) (by omega) (fun z5 => ?_) (fun z => absurd (by omega) z)
      refine x_fall ?_
      refine x_blk (b := 1) (a_156 E) rfl ?_
      unfold b_156_1
      refine x_push (-1) rfl ?_
      refine x_iret ?_
      exact kB (by omega)
  · skip
    refine x_if_eq (by omega) (by omega) (fun z6 => ?_) (fun z => absurd (by omega) z)
    refine x_blk (b := 1) (a_156 E) rfl ?_
    unfold b_156_1
    refine x_push (-1) rfl ?_
    refine x_iret ?_
    exact kB (by omega)
