theorem kx_40_111_4_s3 {E : q_E} {σ : x_S} {Q : Option q_V → x_S → Prop} (C0 : y_CI σ) {A : Nat → Int} (hP : y_PI A) (wo : cn_WO σ 111 A 0) {a2 lk on la X Y t pf : Int} (f1 : 0 ≤ a2) (f2 : a2 ≤ 4) (l1 : 0 ≤ lk) (l2 : lk ≤ 1) (hon : cn_bs on 1 X Y) (hla : cn_bs la 2 X Y) (ht : t = (a2 * 2 + lk) * 3) (hp : pf = lk + 2 * cn_tq A 0 0 a2 lk X Y + 6 * cn_tq A 0 1 a2 lk X Y + 18 * cn_tq A 0 2 a2 lk X Y) (k : ∀ v, v = lk + 2 * cn_tq A 0 0 a2 lk X Y + 6 * cn_tq A 0 1 a2 lk X Y + 18 * cn_tq A 0 2 a2 lk X Y → Q (some (x_I v)) σ) : x_G E m_40 Q (t_40 9) [(0, x_R 111), (6, x_I la), (7, x_I on), (9, x_I pf), (10, x_I 54), (11, x_I t), (12, x_I 3)] [] σ := by
  have r16 := hP.2.2.2.1
  have tb0 := cn_tq_b (p := 0) (q := 0) (f := a2) (lk := lk) (one := X) (two := Y) hP
  have tb1 := cn_tq_b (p := 0) (q := 1) (f := a2) (lk := lk) (one := X) (two := Y) hP
  have tb2 := cn_tq_b (p := 0) (q := 2) (f := a2) (lk := lk) (one := X) (two := Y) hP
  have on1 := hon.1
  have on2 := hon.2.1
  have la1 := hla.1
  have la2 := hla.2.1
  refine x_blk (b := 9) (a_40 E) rfl ?_
  unfold b_40_9
  refine x_iload rfl ?_
  refine x_push 3 rfl ?_
  refine x_icmp_ge (by omega) (by omega) (by omega) (by omega) (fun z => absurd z (by omega)) (fun z1 => ?_)
  refine x_blk (b := 3) (a_40 E) rfl ?_
  unfold b_40_3
  refine x_iload rfl ?_
  refine x_iret ?_
  exact k _ hp
theorem kx_40_111_4_s2 {E : q_E} {σ : x_S} {Q : Option q_V → x_S → Prop} (C0 : y_CI σ) {A : Nat → Int} (hP : y_PI A) (wo : cn_WO σ 111 A 0) {a2 lk on la X Y t pf : Int} (f1 : 0 ≤ a2) (f2 : a2 ≤ 4) (l1 : 0 ≤ lk) (l2 : lk ≤ 1) (hon : cn_bs on 1 X Y) (hla : cn_bs la 2 X Y) (ht : t = (a2 * 2 + lk) * 3) (hp : pf = lk + 2 * cn_tq A 0 0 a2 lk X Y + 6 * cn_tq A 0 1 a2 lk X Y) (k : ∀ v, v = lk + 2 * cn_tq A 0 0 a2 lk X Y + 6 * cn_tq A 0 1 a2 lk X Y + 18 * cn_tq A 0 2 a2 lk X Y → Q (some (x_I v)) σ) : x_G E m_40 Q (t_40 9) [(0, x_R 111), (6, x_I la), (7, x_I on), (9, x_I pf), (10, x_I 18), (11, x_I t), (12, x_I 2)] [] σ := by
  have r16 := hP.2.2.2.1
  have tb0 := cn_tq_b (p := 0) (q := 0) (f := a2) (lk := lk) (one := X) (two := Y) hP
  have tb1 := cn_tq_b (p := 0) (q := 1) (f := a2) (lk := lk) (one := X) (two := Y) hP
  have on1 := hon.1
  have on2 := hon.2.1
  have la1 := hla.1
  have la2 := hla.2.1
  refine x_blk (b := 9) (a_40 E) rfl ?_
  unfold b_40_9
  refine x_iload rfl ?_
  refine x_push 3 rfl ?_
  refine x_icmp_ge (by omega) (by omega) (by omega) (by omega) (fun z1 => ?_) (fun z => absurd (by omega) z)
  refine x_iload rfl ?_
  refine x_iload rfl ?_
  refine x_iadd ?_
  refine x_aload rfl ?_
  refine x_getR (r := 111) rfl (by decide) (by decide) rfl ?_
  refine x_lenG (n := 30) (L := 30) rfl (by decide) rfl (by decide) rfl ?_
  refine x_cS (fun _ => rfl) (Nat.le_of_ble_eq_true rfl) ?_
  refine sf_2 (by omega) (by omega) (by omega) (by omega) C0 (fun y2 => ?_) (fun y2 => absurd (by omega) y2)
  refine x_if_eq (by omega) (by omega) (fun z => absurd z (by omega)) (fun z3 => ?_)
  refine x_aload rfl ?_
  refine x_getR (r := 111) rfl (by decide) (by decide) rfl ?_
  refine x_iload rfl ?_
  refine x_iload rfl ?_
  refine x_iadd ?_
  refine x_ialdX y_a120 C0 (by omega) (by omega) (fun v4 v4x v4a v4b => ?_)
  have tk : v4 = y_sel A 0 2 a2 lk (A 62).toNat := by
    rw [v4x, ht]
    exact wo.1 a2 lk 2 f1 f2 l1 l2 (by omega) (by omega)
  refine x_istore ?_
  refine x_iload rfl ?_
  refine x_push 16 rfl ?_
  refine x_cS (fun _ => rfl) (Nat.le_of_ble_eq_true rfl) ?_
  refine sf_2 (by omega) (by omega) (by omega) (by omega) C0 (fun y5 => ?_) (fun y5 => ?_)
  · skip
    refine x_if_eq (by omega) (by omega) (fun z => absurd z (by omega)) (fun z6 => ?_)
    refine x_aload rfl ?_
    refine x_getR (r := 111) rfl (by decide) (by decide) rfl ?_
    refine x_iload rfl ?_
    refine x_ialdX y_a121 C0 (by omega) (by omega) (fun v7 v7x v7a v7b => ?_)
    have sl := cn_sel tk (by omega) (by omega)
    have ct := wo.2 v4.toNat (by omega) sl.2
    have cdb : 0 ≤ v7 ∧ v7 < 64 := by rw [v7x]; exact ⟨ct.1, ct.2.1⟩
    have ru := cn_rule (X := X) (Y := Y) hP (by omega) ct hon hla
    refine x_iload rfl ?_
    refine x_iandX (by omega) (by omega) (by omega) (by omega) (fun v8 v8x v8a v8b => ?_)
    refine x_if_eq (by omega) (by omega) (fun z9 => ?_) (fun z9 => ?_)
    · skip
      refine x_blk (b := 5) (a_40 E) rfl ?_
      unfold b_40_5
      refine x_push 0 rfl ?_
      refine x_fall ?_
      refine x_blk (b := 6) (a_40 E) rfl ?_
      unfold b_40_6
      refine x_istore ?_
      refine x_X_lo (lo' := [(0, x_R 111), (6, x_I _), (7, x_I _), (9, x_I _), (10, x_I _), (11, x_I _), (12, x_I _), (13, x_I _), (14, x_I _)]) ⟨rfl, rfl, rfl, rfl, rfl, rfl, rfl, rfl, rfl, trivial⟩ ?_
      refine x_iload rfl ?_
      refine x_iload rfl ?_
      refine x_iload rfl ?_
      refine x_if_eq (by omega) (by omega) (fun z10 => ?_) (fun z => absurd (by omega) z)
      refine x_blk (b := 7) (a_40 E) rfl ?_
      unfold b_40_7
      refine x_aload rfl ?_
      refine x_getR (r := 111) rfl (by decide) (by decide) rfl ?_
      refine x_iload rfl ?_
      refine x_laldX (r := 122) (n := 16) rfl rfl (by decide) (by omega) (by omega) (fun m11 m11x => ?_)
      refine x_iload rfl ?_
      refine x_lushrX (by omega) (by omega) ?_
      refine x_pushv ?_
      refine x_lbinX ?_
      refine x_l2iX (by rw [show ∀ q, f_land q 1 = q % 2 from Nat.and_one_is_mod]; omega) ?_
      refine x_fall ?_
      refine x_blk (b := 8) (a_40 E) rfl ?_
      unfold b_40_8
      refine x_imul ?_
      refine x_iadd ?_
      refine x_istore ?_
      refine x_iload rfl ?_
      refine x_push 3 rfl ?_
      refine x_imul ?_
      refine x_istore ?_
      refine x_X_lo (lo' := [(0, x_R 111), (6, x_I _), (7, x_I _), (9, x_I _), (10, x_I _), (11, x_I _), (12, x_I _), (13, x_I _), (14, x_I _)]) ⟨rfl, rfl, rfl, rfl, rfl, rfl, rfl, rfl, rfl, trivial⟩ ?_
      refine x_iinc 1 rfl rfl ?_
      refine x_goto ?_
      refine x_G_lo (lo' := [(0, x_R 111), (6, x_I _), (7, x_I _), (9, x_I _), (10, x_I _), (11, x_I _), (12, x_I _)]) ⟨rfl, rfl, rfl, rfl, rfl, rfl, rfl, trivial⟩ ?_
      have nz : ((((σ 121 v4.toNat).toNat &&& la.toNat : Nat)) : Int) = 0 := by rw [← v7x, ← v8x]; omega
      have tq := (cn_tq_r (X := X) (Y := Y) tk (by omega)).trans (ru.2 nz)
      have tb : cn_b (σ 122 v4.toNat).toNat on.toNat = ((f_land (m11 % 18446744073709551616 / 2 ^ on.toNat) 1 : Nat) : Int) := by
        rw [show (σ 122 v4.toNat).toNat = m11 by omega, ← cn_b_mod (a := m11) (i := on.toNat) (by omega), show f_land (m11 % 18446744073709551616 / 2 ^ on.toNat) 1 = (m11 % 18446744073709551616 / 2 ^ on.toNat) % 2 from Nat.and_one_is_mod _]
        rfl
      rw [tb] at tq
      exact kx_40_111_4_s3 C0 hP wo f1 f2 l1 l2 hon hla ht (by omega) k
    · skip
      refine x_fall ?_
      refine x_blk (b := 4) (a_40 E) rfl ?_
      unfold b_40_4
      refine x_push 1 rfl ?_
      refine x_goto ?_
      refine x_blk (b := 6) (a_40 E) rfl ?_
      unfold b_40_6
      refine x_istore ?_
      refine x_X_lo (lo' := [(0, x_R 111), (6, x_I _), (7, x_I _), (9, x_I _), (10, x_I _), (11, x_I _), (12, x_I _), (13, x_I _), (14, x_I _)]) ⟨rfl, rfl, rfl, rfl, rfl, rfl, rfl, rfl, rfl, trivial⟩ ?_
      refine x_iload rfl ?_
      refine x_iload rfl ?_
      refine x_iload rfl ?_
      refine x_if_eq (by omega) (by omega) (fun z => absurd z (by omega)) (fun z12 => ?_)
      refine x_push 2 rfl ?_
      refine x_goto ?_
      refine x_blk (b := 8) (a_40 E) rfl ?_
      unfold b_40_8
      refine x_imul ?_
      refine x_iadd ?_
      refine x_istore ?_
      refine x_iload rfl ?_
      refine x_push 3 rfl ?_
      refine x_imul ?_
      refine x_istore ?_
      refine x_X_lo (lo' := [(0, x_R 111), (6, x_I _), (7, x_I _), (9, x_I _), (10, x_I _), (11, x_I _), (12, x_I _), (13, x_I _), (14, x_I _)]) ⟨rfl, rfl, rfl, rfl, rfl, rfl, rfl, rfl, rfl, trivial⟩ ?_
      refine x_iinc 1 rfl rfl ?_
      refine x_goto ?_
      refine x_G_lo (lo' := [(0, x_R 111), (6, x_I _), (7, x_I _), (9, x_I _), (10, x_I _), (11, x_I _), (12, x_I _)]) ⟨rfl, rfl, rfl, rfl, rfl, rfl, rfl, trivial⟩ ?_
      have nz : ((((σ 121 v4.toNat).toNat &&& la.toNat : Nat)) : Int) ≠ 0 := by rw [← v7x, ← v8x]; omega
      have tq := (cn_tq_r (X := X) (Y := Y) tk (by omega)).trans (ru.1 nz)
      exact kx_40_111_4_s3 C0 hP wo f1 f2 l1 l2 hon hla ht (by omega) k
  · skip
    refine x_if_eq (by omega) (by omega) (fun z13 => ?_) (fun z => absurd (by omega) z)
    refine x_blk (b := 4) (a_40 E) rfl ?_
    unfold b_40_4
    refine x_push 1 rfl ?_
    refine x_goto ?_
    refine x_blk (b := 6) (a_40 E) rfl ?_
    unfold b_40_6
    refine x_istore ?_
    refine x_X_lo (lo' := [(0, x_R 111), (6, x_I _), (7, x_I _), (9, x_I _), (10, x_I _), (11, x_I _), (12, x_I _), (13, x_I _), (14, x_I _)]) ⟨rfl, rfl, rfl, rfl, rfl, rfl, rfl, rfl, rfl, trivial⟩ ?_
    refine x_iload rfl ?_
    refine x_iload rfl ?_
    refine x_iload rfl ?_
    refine x_if_eq (by omega) (by omega) (fun z => absurd z (by omega)) (fun z14 => ?_)
    refine x_push 2 rfl ?_
    refine x_goto ?_
    refine x_blk (b := 8) (a_40 E) rfl ?_
    unfold b_40_8
    refine x_imul ?_
    refine x_iadd ?_
    refine x_istore ?_
    refine x_iload rfl ?_
    refine x_push 3 rfl ?_
    refine x_imul ?_
    refine x_istore ?_
    refine x_X_lo (lo' := [(0, x_R 111), (6, x_I _), (7, x_I _), (9, x_I _), (10, x_I _), (11, x_I _), (12, x_I _), (13, x_I _), (14, x_I _)]) ⟨rfl, rfl, rfl, rfl, rfl, rfl, rfl, rfl, rfl, trivial⟩ ?_
    refine x_iinc 1 rfl rfl ?_
    refine x_goto ?_
    refine x_G_lo (lo' := [(0, x_R 111), (6, x_I _), (7, x_I _), (9, x_I _), (10, x_I _), (11, x_I _), (12, x_I _)]) ⟨rfl, rfl, rfl, rfl, rfl, rfl, rfl, trivial⟩ ?_
    have tq := cn_tq_n (X := X) (Y := Y) tk (by omega)
    exact kx_40_111_4_s3 C0 hP wo f1 f2 l1 l2 hon hla ht (by omega) k
theorem kx_40_111_4_s1 {E : q_E} {σ : x_S} {Q : Option q_V → x_S → Prop} (C0 : y_CI σ) {A : Nat → Int} (hP : y_PI A) (wo : cn_WO σ 111 A 0) {a2 lk on la X Y t pf : Int} (f1 : 0 ≤ a2) (f2 : a2 ≤ 4) (l1 : 0 ≤ lk) (l2 : lk ≤ 1) (hon : cn_bs on 1 X Y) (hla : cn_bs la 2 X Y) (ht : t = (a2 * 2 + lk) * 3) (hp : pf = lk + 2 * cn_tq A 0 0 a2 lk X Y) (k : ∀ v, v = lk + 2 * cn_tq A 0 0 a2 lk X Y + 6 * cn_tq A 0 1 a2 lk X Y + 18 * cn_tq A 0 2 a2 lk X Y → Q (some (x_I v)) σ) : x_G E m_40 Q (t_40 9) [(0, x_R 111), (6, x_I la), (7, x_I on), (9, x_I pf), (10, x_I 6), (11, x_I t), (12, x_I 1)] [] σ := by
  have r16 := hP.2.2.2.1
  have tb0 := cn_tq_b (p := 0) (q := 0) (f := a2) (lk := lk) (one := X) (two := Y) hP
  have on1 := hon.1
  have on2 := hon.2.1
  have la1 := hla.1
  have la2 := hla.2.1
  refine x_blk (b := 9) (a_40 E) rfl ?_
  unfold b_40_9
  refine x_iload rfl ?_
  refine x_push 3 rfl ?_
  refine x_icmp_ge (by omega) (by omega) (by omega) (by omega) (fun z1 => ?_) (fun z => absurd (by omega) z)
  refine x_iload rfl ?_
  refine x_iload rfl ?_
  refine x_iadd ?_
  refine x_aload rfl ?_
  refine x_getR (r := 111) rfl (by decide) (by decide) rfl ?_
  refine x_lenG (n := 30) (L := 30) rfl (by decide) rfl (by decide) rfl ?_
  refine x_cS (fun _ => rfl) (Nat.le_of_ble_eq_true rfl) ?_
  refine sf_2 (by omega) (by omega) (by omega) (by omega) C0 (fun y2 => ?_) (fun y2 => absurd (by omega) y2)
  refine x_if_eq (by omega) (by omega) (fun z => absurd z (by omega)) (fun z3 => ?_)
  refine x_aload rfl ?_
  refine x_getR (r := 111) rfl (by decide) (by decide) rfl ?_
  refine x_iload rfl ?_
  refine x_iload rfl ?_
  refine x_iadd ?_
  refine x_ialdX y_a120 C0 (by omega) (by omega) (fun v4 v4x v4a v4b => ?_)
  have tk : v4 = y_sel A 0 1 a2 lk (A 62).toNat := by
    rw [v4x, ht]
    exact wo.1 a2 lk 1 f1 f2 l1 l2 (by omega) (by omega)
  refine x_istore ?_
  refine x_iload rfl ?_
  refine x_push 16 rfl ?_
  refine x_cS (fun _ => rfl) (Nat.le_of_ble_eq_true rfl) ?_
  refine sf_2 (by omega) (by omega) (by omega) (by omega) C0 (fun y5 => ?_) (fun y5 => ?_)
  · skip
    refine x_if_eq (by omega) (by omega) (fun z => absurd z (by omega)) (fun z6 => ?_)
    refine x_aload rfl ?_
    refine x_getR (r := 111) rfl (by decide) (by decide) rfl ?_
    refine x_iload rfl ?_
    refine x_ialdX y_a121 C0 (by omega) (by omega) (fun v7 v7x v7a v7b => ?_)
    have sl := cn_sel tk (by omega) (by omega)
    have ct := wo.2 v4.toNat (by omega) sl.2
    have cdb : 0 ≤ v7 ∧ v7 < 64 := by rw [v7x]; exact ⟨ct.1, ct.2.1⟩
    have ru := cn_rule (X := X) (Y := Y) hP (by omega) ct hon hla
    refine x_iload rfl ?_
    refine x_iandX (by omega) (by omega) (by omega) (by omega) (fun v8 v8x v8a v8b => ?_)
    refine x_if_eq (by omega) (by omega) (fun z9 => ?_) (fun z9 => ?_)
    · skip
      refine x_blk (b := 5) (a_40 E) rfl ?_
      unfold b_40_5
      refine x_push 0 rfl ?_
      refine x_fall ?_
      refine x_blk (b := 6) (a_40 E) rfl ?_
      unfold b_40_6
      refine x_istore ?_
      refine x_X_lo (lo' := [(0, x_R 111), (6, x_I _), (7, x_I _), (9, x_I _), (10, x_I _), (11, x_I _), (12, x_I _), (13, x_I _), (14, x_I _)]) ⟨rfl, rfl, rfl, rfl, rfl, rfl, rfl, rfl, rfl, trivial⟩ ?_
      refine x_iload rfl ?_
      refine x_iload rfl ?_
      refine x_iload rfl ?_
      refine x_if_eq (by omega) (by omega) (fun z10 => ?_) (fun z => absurd (by omega) z)
      refine x_blk (b := 7) (a_40 E) rfl ?_
      unfold b_40_7
      refine x_aload rfl ?_
      refine x_getR (r := 111) rfl (by decide) (by decide) rfl ?_
      refine x_iload rfl ?_
      refine x_laldX (r := 122) (n := 16) rfl rfl (by decide) (by omega) (by omega) (fun m11 m11x => ?_)
      refine x_iload rfl ?_
      refine x_lushrX (by omega) (by omega) ?_
      refine x_pushv ?_
      refine x_lbinX ?_
      refine x_l2iX (by rw [show ∀ q, f_land q 1 = q % 2 from Nat.and_one_is_mod]; omega) ?_
      refine x_fall ?_
      refine x_blk (b := 8) (a_40 E) rfl ?_
      unfold b_40_8
      refine x_imul ?_
      refine x_iadd ?_
      refine x_istore ?_
      refine x_iload rfl ?_
      refine x_push 3 rfl ?_
      refine x_imul ?_
      refine x_istore ?_
      refine x_X_lo (lo' := [(0, x_R 111), (6, x_I _), (7, x_I _), (9, x_I _), (10, x_I _), (11, x_I _), (12, x_I _), (13, x_I _), (14, x_I _)]) ⟨rfl, rfl, rfl, rfl, rfl, rfl, rfl, rfl, rfl, trivial⟩ ?_
      refine x_iinc 1 rfl rfl ?_
      refine x_goto ?_
      refine x_G_lo (lo' := [(0, x_R 111), (6, x_I _), (7, x_I _), (9, x_I _), (10, x_I _), (11, x_I _), (12, x_I _)]) ⟨rfl, rfl, rfl, rfl, rfl, rfl, rfl, trivial⟩ ?_
      have nz : ((((σ 121 v4.toNat).toNat &&& la.toNat : Nat)) : Int) = 0 := by rw [← v7x, ← v8x]; omega
      have tq := (cn_tq_r (X := X) (Y := Y) tk (by omega)).trans (ru.2 nz)
      have tb : cn_b (σ 122 v4.toNat).toNat on.toNat = ((f_land (m11 % 18446744073709551616 / 2 ^ on.toNat) 1 : Nat) : Int) := by
        rw [show (σ 122 v4.toNat).toNat = m11 by omega, ← cn_b_mod (a := m11) (i := on.toNat) (by omega), show f_land (m11 % 18446744073709551616 / 2 ^ on.toNat) 1 = (m11 % 18446744073709551616 / 2 ^ on.toNat) % 2 from Nat.and_one_is_mod _]
        rfl
      rw [tb] at tq
      exact kx_40_111_4_s2 C0 hP wo f1 f2 l1 l2 hon hla ht (by omega) k
    · skip
      refine x_fall ?_
      refine x_blk (b := 4) (a_40 E) rfl ?_
      unfold b_40_4
      refine x_push 1 rfl ?_
      refine x_goto ?_
      refine x_blk (b := 6) (a_40 E) rfl ?_
      unfold b_40_6
      refine x_istore ?_
      refine x_X_lo (lo' := [(0, x_R 111), (6, x_I _), (7, x_I _), (9, x_I _), (10, x_I _), (11, x_I _), (12, x_I _), (13, x_I _), (14, x_I _)]) ⟨rfl, rfl, rfl, rfl, rfl, rfl, rfl, rfl, rfl, trivial⟩ ?_
      refine x_iload rfl ?_
      refine x_iload rfl ?_
      refine x_iload rfl ?_
      refine x_if_eq (by omega) (by omega) (fun z => absurd z (by omega)) (fun z12 => ?_)
      refine x_push 2 rfl ?_
      refine x_goto ?_
      refine x_blk (b := 8) (a_40 E) rfl ?_
      unfold b_40_8
      refine x_imul ?_
      refine x_iadd ?_
      refine x_istore ?_
      refine x_iload rfl ?_
      refine x_push 3 rfl ?_
      refine x_imul ?_
      refine x_istore ?_
      refine x_X_lo (lo' := [(0, x_R 111), (6, x_I _), (7, x_I _), (9, x_I _), (10, x_I _), (11, x_I _), (12, x_I _), (13, x_I _), (14, x_I _)]) ⟨rfl, rfl, rfl, rfl, rfl, rfl, rfl, rfl, rfl, trivial⟩ ?_
      refine x_iinc 1 rfl rfl ?_
      refine x_goto ?_
      refine x_G_lo (lo' := [(0, x_R 111), (6, x_I _), (7, x_I _), (9, x_I _), (10, x_I _), (11, x_I _), (12, x_I _)]) ⟨rfl, rfl, rfl, rfl, rfl, rfl, rfl, trivial⟩ ?_
      have nz : ((((σ 121 v4.toNat).toNat &&& la.toNat : Nat)) : Int) ≠ 0 := by rw [← v7x, ← v8x]; omega
      have tq := (cn_tq_r (X := X) (Y := Y) tk (by omega)).trans (ru.1 nz)
      exact kx_40_111_4_s2 C0 hP wo f1 f2 l1 l2 hon hla ht (by omega) k
  · skip
    refine x_if_eq (by omega) (by omega) (fun z13 => ?_) (fun z => absurd (by omega) z)
    refine x_blk (b := 4) (a_40 E) rfl ?_
    unfold b_40_4
    refine x_push 1 rfl ?_
    refine x_goto ?_
    refine x_blk (b := 6) (a_40 E) rfl ?_
    unfold b_40_6
    refine x_istore ?_
    refine x_X_lo (lo' := [(0, x_R 111), (6, x_I _), (7, x_I _), (9, x_I _), (10, x_I _), (11, x_I _), (12, x_I _), (13, x_I _), (14, x_I _)]) ⟨rfl, rfl, rfl, rfl, rfl, rfl, rfl, rfl, rfl, trivial⟩ ?_
    refine x_iload rfl ?_
    refine x_iload rfl ?_
    refine x_iload rfl ?_
    refine x_if_eq (by omega) (by omega) (fun z => absurd z (by omega)) (fun z14 => ?_)
    refine x_push 2 rfl ?_
    refine x_goto ?_
    refine x_blk (b := 8) (a_40 E) rfl ?_
    unfold b_40_8
    refine x_imul ?_
    refine x_iadd ?_
    refine x_istore ?_
    refine x_iload rfl ?_
    refine x_push 3 rfl ?_
    refine x_imul ?_
    refine x_istore ?_
    refine x_X_lo (lo' := [(0, x_R 111), (6, x_I _), (7, x_I _), (9, x_I _), (10, x_I _), (11, x_I _), (12, x_I _), (13, x_I _), (14, x_I _)]) ⟨rfl, rfl, rfl, rfl, rfl, rfl, rfl, rfl, rfl, trivial⟩ ?_
    refine x_iinc 1 rfl rfl ?_
    refine x_goto ?_
    refine x_G_lo (lo' := [(0, x_R 111), (6, x_I _), (7, x_I _), (9, x_I _), (10, x_I _), (11, x_I _), (12, x_I _)]) ⟨rfl, rfl, rfl, rfl, rfl, rfl, rfl, trivial⟩ ?_
    have tq := cn_tq_n (X := X) (Y := Y) tk (by omega)
    exact kx_40_111_4_s2 C0 hP wo f1 f2 l1 l2 hon hla ht (by omega) k
theorem kx_40_111_4_s0 {E : q_E} {σ : x_S} {Q : Option q_V → x_S → Prop} (C0 : y_CI σ) {A : Nat → Int} (hP : y_PI A) (wo : cn_WO σ 111 A 0) {a2 lk on la X Y t pf : Int} (f1 : 0 ≤ a2) (f2 : a2 ≤ 4) (l1 : 0 ≤ lk) (l2 : lk ≤ 1) (hon : cn_bs on 1 X Y) (hla : cn_bs la 2 X Y) (ht : t = (a2 * 2 + lk) * 3) (hp : pf = lk) (k : ∀ v, v = lk + 2 * cn_tq A 0 0 a2 lk X Y + 6 * cn_tq A 0 1 a2 lk X Y + 18 * cn_tq A 0 2 a2 lk X Y → Q (some (x_I v)) σ) : x_G E m_40 Q (t_40 9) [(0, x_R 111), (6, x_I la), (7, x_I on), (9, x_I pf), (10, x_I 2), (11, x_I t), (12, x_I 0)] [] σ := by
  have r16 := hP.2.2.2.1
  have on1 := hon.1
  have on2 := hon.2.1
  have la1 := hla.1
  have la2 := hla.2.1
  refine x_blk (b := 9) (a_40 E) rfl ?_
  unfold b_40_9
  refine x_iload rfl ?_
  refine x_push 3 rfl ?_
  refine x_icmp_ge (by omega) (by omega) (by omega) (by omega) (fun z1 => ?_) (fun z => absurd (by omega) z)
  refine x_iload rfl ?_
  refine x_iload rfl ?_
  refine x_iadd ?_
  refine x_aload rfl ?_
  refine x_getR (r := 111) rfl (by decide) (by decide) rfl ?_
  refine x_lenG (n := 30) (L := 30) rfl (by decide) rfl (by decide) rfl ?_
  refine x_cS (fun _ => rfl) (Nat.le_of_ble_eq_true rfl) ?_
  refine sf_2 (by omega) (by omega) (by omega) (by omega) C0 (fun y2 => ?_) (fun y2 => absurd (by omega) y2)
  refine x_if_eq (by omega) (by omega) (fun z => absurd z (by omega)) (fun z3 => ?_)
  refine x_aload rfl ?_
  refine x_getR (r := 111) rfl (by decide) (by decide) rfl ?_
  refine x_iload rfl ?_
  refine x_iload rfl ?_
  refine x_iadd ?_
  refine x_ialdX y_a120 C0 (by omega) (by omega) (fun v4 v4x v4a v4b => ?_)
  have tk : v4 = y_sel A 0 0 a2 lk (A 62).toNat := by
    rw [v4x, ht]
    exact wo.1 a2 lk 0 f1 f2 l1 l2 (by omega) (by omega)
  refine x_istore ?_
  refine x_iload rfl ?_
  refine x_push 16 rfl ?_
  refine x_cS (fun _ => rfl) (Nat.le_of_ble_eq_true rfl) ?_
  refine sf_2 (by omega) (by omega) (by omega) (by omega) C0 (fun y5 => ?_) (fun y5 => ?_)
  · skip
    refine x_if_eq (by omega) (by omega) (fun z => absurd z (by omega)) (fun z6 => ?_)
    refine x_aload rfl ?_
    refine x_getR (r := 111) rfl (by decide) (by decide) rfl ?_
    refine x_iload rfl ?_
    refine x_ialdX y_a121 C0 (by omega) (by omega) (fun v7 v7x v7a v7b => ?_)
    have sl := cn_sel tk (by omega) (by omega)
    have ct := wo.2 v4.toNat (by omega) sl.2
    have cdb : 0 ≤ v7 ∧ v7 < 64 := by rw [v7x]; exact ⟨ct.1, ct.2.1⟩
    have ru := cn_rule (X := X) (Y := Y) hP (by omega) ct hon hla
    refine x_iload rfl ?_
    refine x_iandX (by omega) (by omega) (by omega) (by omega) (fun v8 v8x v8a v8b => ?_)
    refine x_if_eq (by omega) (by omega) (fun z9 => ?_) (fun z9 => ?_)
    · skip
      refine x_blk (b := 5) (a_40 E) rfl ?_
      unfold b_40_5
      refine x_push 0 rfl ?_
      refine x_fall ?_
      refine x_blk (b := 6) (a_40 E) rfl ?_
      unfold b_40_6
      refine x_istore ?_
      refine x_X_lo (lo' := [(0, x_R 111), (6, x_I _), (7, x_I _), (9, x_I _), (10, x_I _), (11, x_I _), (12, x_I _), (13, x_I _), (14, x_I _)]) ⟨rfl, rfl, rfl, rfl, rfl, rfl, rfl, rfl, rfl, trivial⟩ ?_
      refine x_iload rfl ?_
      refine x_iload rfl ?_
      refine x_iload rfl ?_
      refine x_if_eq (by omega) (by omega) (fun z10 => ?_) (fun z => absurd (by omega) z)
      refine x_blk (b := 7) (a_40 E) rfl ?_
      unfold b_40_7
      refine x_aload rfl ?_
      refine x_getR (r := 111) rfl (by decide) (by decide) rfl ?_
      refine x_iload rfl ?_
      refine x_laldX (r := 122) (n := 16) rfl rfl (by decide) (by omega) (by omega) (fun m11 m11x => ?_)
      refine x_iload rfl ?_
      refine x_lushrX (by omega) (by omega) ?_
      refine x_pushv ?_
      refine x_lbinX ?_
      refine x_l2iX (by rw [show ∀ q, f_land q 1 = q % 2 from Nat.and_one_is_mod]; omega) ?_
      refine x_fall ?_
      refine x_blk (b := 8) (a_40 E) rfl ?_
      unfold b_40_8
      refine x_imul ?_
      refine x_iadd ?_
      refine x_istore ?_
      refine x_iload rfl ?_
      refine x_push 3 rfl ?_
      refine x_imul ?_
      refine x_istore ?_
      refine x_X_lo (lo' := [(0, x_R 111), (6, x_I _), (7, x_I _), (9, x_I _), (10, x_I _), (11, x_I _), (12, x_I _), (13, x_I _), (14, x_I _)]) ⟨rfl, rfl, rfl, rfl, rfl, rfl, rfl, rfl, rfl, trivial⟩ ?_
      refine x_iinc 1 rfl rfl ?_
      refine x_goto ?_
      refine x_G_lo (lo' := [(0, x_R 111), (6, x_I _), (7, x_I _), (9, x_I _), (10, x_I _), (11, x_I _), (12, x_I _)]) ⟨rfl, rfl, rfl, rfl, rfl, rfl, rfl, trivial⟩ ?_
      have nz : ((((σ 121 v4.toNat).toNat &&& la.toNat : Nat)) : Int) = 0 := by rw [← v7x, ← v8x]; omega
      have tq := (cn_tq_r (X := X) (Y := Y) tk (by omega)).trans (ru.2 nz)
      have tb : cn_b (σ 122 v4.toNat).toNat on.toNat = ((f_land (m11 % 18446744073709551616 / 2 ^ on.toNat) 1 : Nat) : Int) := by
        rw [show (σ 122 v4.toNat).toNat = m11 by omega, ← cn_b_mod (a := m11) (i := on.toNat) (by omega), show f_land (m11 % 18446744073709551616 / 2 ^ on.toNat) 1 = (m11 % 18446744073709551616 / 2 ^ on.toNat) % 2 from Nat.and_one_is_mod _]
        rfl
      rw [tb] at tq
      exact kx_40_111_4_s1 C0 hP wo f1 f2 l1 l2 hon hla ht (by omega) k
    · skip
      refine x_fall ?_
      refine x_blk (b := 4) (a_40 E) rfl ?_
      unfold b_40_4
      refine x_push 1 rfl ?_
      refine x_goto ?_
      refine x_blk (b := 6) (a_40 E) rfl ?_
      unfold b_40_6
      refine x_istore ?_
      refine x_X_lo (lo' := [(0, x_R 111), (6, x_I _), (7, x_I _), (9, x_I _), (10, x_I _), (11, x_I _), (12, x_I _), (13, x_I _), (14, x_I _)]) ⟨rfl, rfl, rfl, rfl, rfl, rfl, rfl, rfl, rfl, trivial⟩ ?_
      refine x_iload rfl ?_
      refine x_iload rfl ?_
      refine x_iload rfl ?_
      refine x_if_eq (by omega) (by omega) (fun z => absurd z (by omega)) (fun z12 => ?_)
      refine x_push 2 rfl ?_
      refine x_goto ?_
      refine x_blk (b := 8) (a_40 E) rfl ?_
      unfold b_40_8
      refine x_imul ?_
      refine x_iadd ?_
      refine x_istore ?_
      refine x_iload rfl ?_
      refine x_push 3 rfl ?_
      refine x_imul ?_
      refine x_istore ?_
      refine x_X_lo (lo' := [(0, x_R 111), (6, x_I _), (7, x_I _), (9, x_I _), (10, x_I _), (11, x_I _), (12, x_I _), (13, x_I _), (14, x_I _)]) ⟨rfl, rfl, rfl, rfl, rfl, rfl, rfl, rfl, rfl, trivial⟩ ?_
      refine x_iinc 1 rfl rfl ?_
      refine x_goto ?_
      refine x_G_lo (lo' := [(0, x_R 111), (6, x_I _), (7, x_I _), (9, x_I _), (10, x_I _), (11, x_I _), (12, x_I _)]) ⟨rfl, rfl, rfl, rfl, rfl, rfl, rfl, trivial⟩ ?_
      have nz : ((((σ 121 v4.toNat).toNat &&& la.toNat : Nat)) : Int) ≠ 0 := by rw [← v7x, ← v8x]; omega
      have tq := (cn_tq_r (X := X) (Y := Y) tk (by omega)).trans (ru.1 nz)
      exact kx_40_111_4_s1 C0 hP wo f1 f2 l1 l2 hon hla ht (by omega) k
  · skip
    refine x_if_eq (by omega) (by omega) (fun z13 => ?_) (fun z => absurd (by omega) z)
    refine x_blk (b := 4) (a_40 E) rfl ?_
    unfold b_40_4
    refine x_push 1 rfl ?_
    refine x_goto ?_
    refine x_blk (b := 6) (a_40 E) rfl ?_
    unfold b_40_6
    refine x_istore ?_
    refine x_X_lo (lo' := [(0, x_R 111), (6, x_I _), (7, x_I _), (9, x_I _), (10, x_I _), (11, x_I _), (12, x_I _), (13, x_I _), (14, x_I _)]) ⟨rfl, rfl, rfl, rfl, rfl, rfl, rfl, rfl, rfl, trivial⟩ ?_
    refine x_iload rfl ?_
    refine x_iload rfl ?_
    refine x_iload rfl ?_
    refine x_if_eq (by omega) (by omega) (fun z => absurd z (by omega)) (fun z14 => ?_)
    refine x_push 2 rfl ?_
    refine x_goto ?_
    refine x_blk (b := 8) (a_40 E) rfl ?_
    unfold b_40_8
    refine x_imul ?_
    refine x_iadd ?_
    refine x_istore ?_
    refine x_iload rfl ?_
    refine x_push 3 rfl ?_
    refine x_imul ?_
    refine x_istore ?_
    refine x_X_lo (lo' := [(0, x_R 111), (6, x_I _), (7, x_I _), (9, x_I _), (10, x_I _), (11, x_I _), (12, x_I _), (13, x_I _), (14, x_I _)]) ⟨rfl, rfl, rfl, rfl, rfl, rfl, rfl, rfl, rfl, trivial⟩ ?_
    refine x_iinc 1 rfl rfl ?_
    refine x_goto ?_
    refine x_G_lo (lo' := [(0, x_R 111), (6, x_I _), (7, x_I _), (9, x_I _), (10, x_I _), (11, x_I _), (12, x_I _)]) ⟨rfl, rfl, rfl, rfl, rfl, rfl, rfl, trivial⟩ ?_
    have tq := cn_tq_n (X := X) (Y := Y) tk (by omega)
    exact kx_40_111_4_s1 C0 hP wo f1 f2 l1 l2 hon hla ht (by omega) k
theorem kx_40_111_4 {E : q_E} {σ : x_S} {Q : Option q_V → x_S → Prop} {a2 a3 a4 : Int} (ok : cn_ok (fun _ => True) a2 a3 a4) (C0 : y_CI σ) {A : Nat → Int} (hP : y_PI A) (wo : cn_WO σ 111 A 0) (hA : y_AG (y_cv σ 4) A) (ox : cn_ON σ 111 a3) (oy : cn_ON σ 111 a4) (k : ∀ v, v = cn_pI A 0 a2 (a3.toNat : Nat) (a4.toNat : Nat) → Q (some (x_I v)) σ) : x_P E 40 [x_R 111, x_R 4, x_I a2, x_I a3, x_I a4] σ Q := by
  have okx := cn_okx ok
  have f1 := ok.1.1
  have f2 := ok.1.2
  refine x_Mt e_40 (h_40 E) (Nat.le_of_ble_eq_true rfl) t_40 rfl ?_
  refine x_blk (b := 0) (a_40 E) rfl ?_
  unfold b_40_0
  refine x_push 0 rfl ?_
  refine x_istore ?_
  refine x_push 0 rfl ?_
  refine x_istore ?_
  refine x_X_lo (lo' := [(0, x_R 111), (1, x_R 4), (2, x_I _), (3, x_I _), (4, x_I _), (5, x_I _), (6, x_I _)]) ⟨rfl, rfl, rfl, rfl, rfl, rfl, rfl, trivial⟩ ?_
  refine x_push 0 rfl ?_
  refine x_istore ?_
  refine x_iload rfl ?_
  refine x_push 54 rfl ?_
  refine x_cS (fun _ => rfl) (Nat.le_of_ble_eq_true rfl) ?_
  refine sf_2 (by omega) (by omega) (by omega) (by omega) C0 (fun y1 => ?_) (fun y1 => ?_)
  · skip
    refine x_if_eq (by omega) (by omega) (fun z => absurd z (by omega)) (fun z2 => ?_)
    refine x_iload rfl ?_
    refine x_push 1 rfl ?_
    refine x_iand1 (by omega) (by omega) ?_
    refine x_istore ?_
    refine x_X_lo (lo' := [(0, x_R 111), (1, x_R 4), (2, x_I _), (3, x_I _), (4, x_I _), (5, x_I _), (6, x_I _), (7, x_I _)]) ⟨rfl, rfl, rfl, rfl, rfl, rfl, rfl, rfl, trivial⟩ ?_
    refine x_aload rfl ?_
    refine x_getR (r := 111) rfl (by decide) (by decide) rfl ?_
    refine x_iload rfl ?_
    refine x_ialdX y_a119 C0 (by omega) (by omega) (fun v3 v3x v3a v3b => ?_)
    refine x_istore ?_
    refine x_aload rfl ?_
    refine x_getR (r := 111) rfl (by decide) (by decide) rfl ?_
    refine x_iload rfl ?_
    refine x_ialdX y_a118 C0 (by omega) (by omega) (fun v4 v4x v4a v4b => ?_)
    refine x_istore ?_
    refine x_X_lo (lo' := [(0, x_R 111), (1, x_R 4), (2, x_I _), (3, x_I _), (4, x_I _), (5, x_I _), (6, x_I _), (7, x_I _)]) ⟨rfl, rfl, rfl, rfl, rfl, rfl, rfl, rfl, trivial⟩ ?_
    refine x_fall ?_
    refine x_blk (b := 1) (a_40 E) rfl ?_
    unfold b_40_1
    refine x_iload rfl ?_
    refine x_push 54 rfl ?_
    refine x_cS (fun _ => rfl) (Nat.le_of_ble_eq_true rfl) ?_
    refine sf_2 (by omega) (by omega) (by omega) (by omega) C0 (fun y5 => ?_) (fun y5 => ?_)
    · skip
      refine x_if_eq (by omega) (by omega) (fun z => absurd z (by omega)) (fun z6 => ?_)
      refine x_push 2 rfl ?_
      refine x_iload rfl ?_
      refine x_imul ?_
      refine x_iload rfl ?_
      refine x_push 1 rfl ?_
      refine x_iand1 (by omega) (by omega) ?_
      refine x_iadd ?_
      refine x_istore ?_
      refine x_iload rfl ?_
      refine x_aload rfl ?_
      refine x_getR (r := 111) rfl (by decide) (by decide) rfl ?_
      refine x_iload rfl ?_
      refine x_ialdX y_a119 C0 (by omega) (by omega) (fun v7 v7x v7a v7b => ?_)
      refine x_push 3 rfl ?_
      refine x_shl3 (by omega) (by omega) ?_
      refine x_iorX (by omega) (by omega) (by omega) (by omega) (fun v8 v8x v8a v8b => ?_)
      refine x_istore ?_
      refine x_X_lo (lo' := [(0, x_R 111), (1, x_R 4), (2, x_I _), (3, x_I _), (4, x_I _), (5, x_I _), (6, x_I _), (7, x_I _)]) ⟨rfl, rfl, rfl, rfl, rfl, rfl, rfl, rfl, trivial⟩ ?_
      refine x_iload rfl ?_
      refine x_aload rfl ?_
      refine x_getR (r := 111) rfl (by decide) (by decide) rfl ?_
      refine x_iload rfl ?_
      refine x_ialdX y_a118 C0 (by omega) (by omega) (fun v9 v9x v9a v9b => ?_)
      refine x_push 3 rfl ?_
      refine x_shl3 (by omega) (by omega) ?_
      refine x_iorX (by omega) (by omega) (by omega) (by omega) (fun v10 v10x v10a v10b => ?_)
      refine x_istore ?_
      refine x_fall ?_
      refine x_blk (b := 2) (a_40 E) rfl ?_
      unfold b_40_2
      refine x_aload rfl ?_
      refine x_push 0 rfl ?_
      refine x_iload rfl ?_
      refine x_iload rfl ?_
      refine x_cV (fun _ => rfl) rfl (by decide) (Nat.le_of_ble_eq_true rfl) ?_
      refine kx_30_4 (by omega) (by omega) (by omega) (by omega) (by omega) (by omega) C0 (fun v11 v11a v11b v11c => ?_)
      refine x_istore ?_
      refine x_X_lo (lo' := [(0, x_R 111), (1, x_R 4), (2, x_I _), (3, x_I _), (4, x_I _), (5, x_I _), (6, x_I _), (7, x_I _), (8, x_I _)]) ⟨rfl, rfl, rfl, rfl, rfl, rfl, rfl, rfl, rfl, trivial⟩ ?_
      refine x_iload rfl ?_
      refine x_istore ?_
      refine x_push 2 rfl ?_
      refine x_istore ?_
      refine x_X_lo (lo' := [(0, x_R 111), (1, x_R 4), (2, x_I _), (3, x_I _), (4, x_I _), (5, x_I _), (6, x_I _), (7, x_I _), (8, x_I _), (9, x_I _), (10, x_I _)]) ⟨rfl, rfl, rfl, rfl, rfl, rfl, rfl, rfl, rfl, rfl, rfl, trivial⟩ ?_
      refine x_iload rfl ?_
      refine x_push 2 rfl ?_
      refine x_imul ?_
      refine x_iload rfl ?_
      refine x_iadd ?_
      refine x_push 3 rfl ?_
      refine x_imul ?_
      refine x_istore ?_
      refine x_push 0 rfl ?_
      refine x_istore ?_
      refine x_X_lo (lo' := [(0, x_R 111), (1, x_R 4), (2, x_I _), (3, x_I _), (4, x_I _), (5, x_I _), (6, x_I _), (7, x_I _), (8, x_I _), (9, x_I _), (10, x_I _), (11, x_I _), (12, x_I _)]) ⟨rfl, rfl, rfl, rfl, rfl, rfl, rfl, rfl, rfl, rfl, rfl, rfl, rfl, trivial⟩ ?_
      refine x_fall ?_
      refine x_G_lo (lo' := [(0, x_R 111), (6, x_I _), (7, x_I _), (9, x_I _), (10, x_I _), (11, x_I _), (12, x_I _)]) ⟨rfl, rfl, rfl, rfl, rfl, rfl, rfl, trivial⟩ ?_
      have kx := cn_kkx a2 (a3.toNat : Nat) (a4.toNat : Nat)
      have kq : cn_kk a2 (a3.toNat : Nat) (a4.toNat : Nat) = 2 * (a3 % 2) + a4 % 2 := by omega
      have pw := y_pwx (y_ch a2)
      have elk : v11 = cn_lk A a2 (a3.toNat : Nat) (a4.toNat : Nat) := by
        unfold cn_lk
        rw [kq, ← y_PG_e hA (m := 0) (f := a2) (e := 2 * (a3 % 2) + a4 % 2) (by omega) (by omega) f1 f2 (by omega) (by omega)]
        show _ = σ 8 _
        omega
      have ex := ox.resolve_left (by omega)
      have X0 : ((a3.toNat : Nat) : Int) = a3 := by omega
      have ey := oy.resolve_left (by omega)
      have Y0 : ((a4.toNat : Nat) : Int) = a4 := by omega
      have b1 : cn_bs v10 1 (a3.toNat : Nat) (a4.toNat : Nat) := by rw [X0, Y0, v10x]; exact cn_bs_2 (by rw [v4x]; exact ex.1) (by rw [v9x]; exact ey.1)
      have b2 : cn_bs v8 2 (a3.toNat : Nat) (a4.toNat : Nat) := by rw [X0, Y0, v8x]; exact cn_bs_2 (by rw [v3x]; exact ex.2) (by rw [v7x]; exact ey.2)
      exact kx_40_111_4_s0 C0 hP wo f1 f2 (by omega) (by omega) b1 b2 rfl rfl (fun v hv => k v (by rw [hv, elk]; rfl))
    · skip
      refine x_if_eq (by omega) (by omega) (fun z12 => ?_) (fun z => absurd (by omega) z)
      refine x_blk (b := 2) (a_40 E) rfl ?_
      unfold b_40_2
      refine x_aload rfl ?_
      refine x_push 0 rfl ?_
      refine x_iload rfl ?_
      refine x_iload rfl ?_
      refine x_cV (fun _ => rfl) rfl (by decide) (Nat.le_of_ble_eq_true rfl) ?_
      refine kx_30_4 (by omega) (by omega) (by omega) (by omega) (by omega) (by omega) C0 (fun v13 v13a v13b v13c => ?_)
      refine x_istore ?_
      refine x_iload rfl ?_
      refine x_istore ?_
      refine x_X_lo (lo' := [(0, x_R 111), (1, x_R 4), (2, x_I _), (3, x_I _), (4, x_I _), (5, x_I _), (6, x_I _), (7, x_I _), (8, x_I _), (9, x_I _)]) ⟨rfl, rfl, rfl, rfl, rfl, rfl, rfl, rfl, rfl, rfl, trivial⟩ ?_
      refine x_push 2 rfl ?_
      refine x_istore ?_
      refine x_iload rfl ?_
      refine x_push 2 rfl ?_
      refine x_imul ?_
      refine x_iload rfl ?_
      refine x_iadd ?_
      refine x_push 3 rfl ?_
      refine x_imul ?_
      refine x_istore ?_
      refine x_X_lo (lo' := [(0, x_R 111), (1, x_R 4), (2, x_I _), (3, x_I _), (4, x_I _), (5, x_I _), (6, x_I _), (7, x_I _), (8, x_I _), (9, x_I _), (10, x_I _), (11, x_I _)]) ⟨rfl, rfl, rfl, rfl, rfl, rfl, rfl, rfl, rfl, rfl, rfl, rfl, trivial⟩ ?_
      refine x_push 0 rfl ?_
      refine x_istore ?_
      refine x_fall ?_
      refine x_G_lo (lo' := [(0, x_R 111), (6, x_I _), (7, x_I _), (9, x_I _), (10, x_I _), (11, x_I _), (12, x_I _)]) ⟨rfl, rfl, rfl, rfl, rfl, rfl, rfl, trivial⟩ ?_
      have kx := cn_kkx a2 (a3.toNat : Nat) (a4.toNat : Nat)
      have kq : cn_kk a2 (a3.toNat : Nat) (a4.toNat : Nat) = a3 % 2 := by omega
      have pw := y_pwx (y_ch a2)
      have elk : v13 = cn_lk A a2 (a3.toNat : Nat) (a4.toNat : Nat) := by
        unfold cn_lk
        rw [kq, ← y_PG_e hA (m := 0) (f := a2) (e := a3 % 2) (by omega) (by omega) f1 f2 (by omega) (by omega)]
        show _ = σ 8 _
        omega
      have ex := ox.resolve_left (by omega)
      have X0 : ((a3.toNat : Nat) : Int) = a3 := by omega
      have Y0 : ((a4.toNat : Nat) : Int) = 0 := by omega
      have b1 : cn_bs v4 1 (a3.toNat : Nat) (a4.toNat : Nat) := by rw [X0, Y0]; exact cn_bs_1 (by decide) (by rw [v4x]; exact ex.1)
      have b2 : cn_bs v3 2 (a3.toNat : Nat) (a4.toNat : Nat) := by rw [X0, Y0]; exact cn_bs_1 (by decide) (by rw [v3x]; exact ex.2)
      exact kx_40_111_4_s0 C0 hP wo f1 f2 (by omega) (by omega) b1 b2 rfl rfl (fun v hv => k v (by rw [hv, elk]; rfl))
  · skip
    refine x_if_eq (by omega) (by omega) (fun z14 => ?_) (fun z => absurd (by omega) z)
    refine x_blk (b := 1) (a_40 E) rfl ?_
    unfold b_40_1
    refine x_iload rfl ?_
    refine x_push 54 rfl ?_
    refine x_cS (fun _ => rfl) (Nat.le_of_ble_eq_true rfl) ?_
    refine sf_2 (by omega) (by omega) (by omega) (by omega) C0 (fun y15 => absurd y15 (by omega)) (fun y15 => ?_)
    refine x_if_eq (by omega) (by omega) (fun z16 => ?_) (fun z => absurd (by omega) z)
    refine x_blk (b := 2) (a_40 E) rfl ?_
    unfold b_40_2
    refine x_aload rfl ?_
    refine x_push 0 rfl ?_
    refine x_iload rfl ?_
    refine x_iload rfl ?_
    refine x_cV (fun _ => rfl) rfl (by decide) (Nat.le_of_ble_eq_true rfl) ?_
    refine kx_30_4 (by omega) (by omega) (by omega) (by omega) (by omega) (by omega) C0 (fun v17 v17a v17b v17c => ?_)
    refine x_istore ?_
    refine x_X_lo (lo' := [(0, x_R 111), (1, x_R 4), (2, x_I _), (3, x_I _), (4, x_I _), (5, x_I _), (6, x_I _), (7, x_I _), (8, x_I _)]) ⟨rfl, rfl, rfl, rfl, rfl, rfl, rfl, rfl, rfl, trivial⟩ ?_
    refine x_iload rfl ?_
    refine x_istore ?_
    refine x_push 2 rfl ?_
    refine x_istore ?_
    refine x_X_lo (lo' := [(0, x_R 111), (1, x_R 4), (2, x_I _), (3, x_I _), (4, x_I _), (5, x_I _), (6, x_I _), (7, x_I _), (8, x_I _), (9, x_I _), (10, x_I _)]) ⟨rfl, rfl, rfl, rfl, rfl, rfl, rfl, rfl, rfl, rfl, rfl, trivial⟩ ?_
    refine x_iload rfl ?_
    refine x_push 2 rfl ?_
    refine x_imul ?_
    refine x_iload rfl ?_
    refine x_iadd ?_
    refine x_push 3 rfl ?_
    refine x_imul ?_
    refine x_istore ?_
    refine x_push 0 rfl ?_
    refine x_istore ?_
    refine x_X_lo (lo' := [(0, x_R 111), (1, x_R 4), (2, x_I _), (3, x_I _), (4, x_I _), (5, x_I _), (6, x_I _), (7, x_I _), (8, x_I _), (9, x_I _), (10, x_I _), (11, x_I _), (12, x_I _)]) ⟨rfl, rfl, rfl, rfl, rfl, rfl, rfl, rfl, rfl, rfl, rfl, rfl, rfl, trivial⟩ ?_
    refine x_fall ?_
    refine x_G_lo (lo' := [(0, x_R 111), (6, x_I _), (7, x_I _), (9, x_I _), (10, x_I _), (11, x_I _), (12, x_I _)]) ⟨rfl, rfl, rfl, rfl, rfl, rfl, rfl, trivial⟩ ?_
    have kx := cn_kkx a2 (a3.toNat : Nat) (a4.toNat : Nat)
    have kq : cn_kk a2 (a3.toNat : Nat) (a4.toNat : Nat) = 0 := by omega
    have pw := y_pwx (y_ch a2)
    have elk : v17 = cn_lk A a2 (a3.toNat : Nat) (a4.toNat : Nat) := by
      unfold cn_lk
      rw [kq, ← y_PG_e hA (m := 0) (f := a2) (e := 0) (by omega) (by omega) f1 f2 (by omega) (by omega)]
      show _ = σ 8 _
      omega
    have X0 : ((a3.toNat : Nat) : Int) = 0 := by omega
    have Y0 : ((a4.toNat : Nat) : Int) = 0 := by omega
    have b1 : cn_bs 0 1 (a3.toNat : Nat) (a4.toNat : Nat) := by rw [X0, Y0]; exact cn_bs_0 (by decide)
    have b2 : cn_bs 0 2 (a3.toNat : Nat) (a4.toNat : Nat) := by rw [X0, Y0]; exact cn_bs_0 (by decide)
    exact kx_40_111_4_s0 C0 hP wo f1 f2 (by omega) (by omega) b1 b2 rfl rfl (fun v hv => k v (by rw [hv, elk]; rfl))
theorem kx_40_124_4_s3 {E : q_E} {σ : x_S} {Q : Option q_V → x_S → Prop} (C0 : y_CI σ) {A : Nat → Int} (hP : y_PI A) (wo : cn_WO σ 124 A 1) {a2 lk on la X Y t pf : Int} (f1 : 0 ≤ a2) (f2 : a2 ≤ 4) (l1 : 0 ≤ lk) (l2 : lk ≤ 1) (hon : cn_bs on 1 X Y) (hla : cn_bs la 2 X Y) (ht : t = (a2 * 2 + lk) * 3) (hp : pf = lk + 2 * cn_tq A 1 0 a2 lk X Y + 6 * cn_tq A 1 1 a2 lk X Y + 18 * cn_tq A 1 2 a2 lk X Y) (k : ∀ v, v = lk + 2 * cn_tq A 1 0 a2 lk X Y + 6 * cn_tq A 1 1 a2 lk X Y + 18 * cn_tq A 1 2 a2 lk X Y → Q (some (x_I v)) σ) : x_G E m_40 Q (t_40 9) [(0, x_R 124), (6, x_I la), (7, x_I on), (9, x_I pf), (10, x_I 54), (11, x_I t), (12, x_I 3)] [] σ := by
  have r16 := hP.2.2.2.1
  have tb0 := cn_tq_b (p := 1) (q := 0) (f := a2) (lk := lk) (one := X) (two := Y) hP
  have tb1 := cn_tq_b (p := 1) (q := 1) (f := a2) (lk := lk) (one := X) (two := Y) hP
  have tb2 := cn_tq_b (p := 1) (q := 2) (f := a2) (lk := lk) (one := X) (two := Y) hP
  have on1 := hon.1
  have on2 := hon.2.1
  have la1 := hla.1
  have la2 := hla.2.1
  refine x_blk (b := 9) (a_40 E) rfl ?_
  unfold b_40_9
  refine x_iload rfl ?_
  refine x_push 3 rfl ?_
  refine x_icmp_ge (by omega) (by omega) (by omega) (by omega) (fun z => absurd z (by omega)) (fun z1 => ?_)
  refine x_blk (b := 3) (a_40 E) rfl ?_
  unfold b_40_3
  refine x_iload rfl ?_
  refine x_iret ?_
  exact k _ hp
theorem kx_40_124_4_s2 {E : q_E} {σ : x_S} {Q : Option q_V → x_S → Prop} (C0 : y_CI σ) {A : Nat → Int} (hP : y_PI A) (wo : cn_WO σ 124 A 1) {a2 lk on la X Y t pf : Int} (f1 : 0 ≤ a2) (f2 : a2 ≤ 4) (l1 : 0 ≤ lk) (l2 : lk ≤ 1) (hon : cn_bs on 1 X Y) (hla : cn_bs la 2 X Y) (ht : t = (a2 * 2 + lk) * 3) (hp : pf = lk + 2 * cn_tq A 1 0 a2 lk X Y + 6 * cn_tq A 1 1 a2 lk X Y) (k : ∀ v, v = lk + 2 * cn_tq A 1 0 a2 lk X Y + 6 * cn_tq A 1 1 a2 lk X Y + 18 * cn_tq A 1 2 a2 lk X Y → Q (some (x_I v)) σ) : x_G E m_40 Q (t_40 9) [(0, x_R 124), (6, x_I la), (7, x_I on), (9, x_I pf), (10, x_I 18), (11, x_I t), (12, x_I 2)] [] σ := by
  have r16 := hP.2.2.2.1
  have tb0 := cn_tq_b (p := 1) (q := 0) (f := a2) (lk := lk) (one := X) (two := Y) hP
  have tb1 := cn_tq_b (p := 1) (q := 1) (f := a2) (lk := lk) (one := X) (two := Y) hP
  have on1 := hon.1
  have on2 := hon.2.1
  have la1 := hla.1
  have la2 := hla.2.1
  refine x_blk (b := 9) (a_40 E) rfl ?_
  unfold b_40_9
  refine x_iload rfl ?_
  refine x_push 3 rfl ?_
  refine x_icmp_ge (by omega) (by omega) (by omega) (by omega) (fun z1 => ?_) (fun z => absurd (by omega) z)
  refine x_iload rfl ?_
  refine x_iload rfl ?_
  refine x_iadd ?_
  refine x_aload rfl ?_
  refine x_getR (r := 124) rfl (by decide) (by decide) rfl ?_
  refine x_lenG (n := 30) (L := 30) rfl (by decide) rfl (by decide) rfl ?_
  refine x_cS (fun _ => rfl) (Nat.le_of_ble_eq_true rfl) ?_
  refine sf_2 (by omega) (by omega) (by omega) (by omega) C0 (fun y2 => ?_) (fun y2 => absurd (by omega) y2)
  refine x_if_eq (by omega) (by omega) (fun z => absurd z (by omega)) (fun z3 => ?_)
  refine x_aload rfl ?_
  refine x_getR (r := 124) rfl (by decide) (by decide) rfl ?_
  refine x_iload rfl ?_
  refine x_iload rfl ?_
  refine x_iadd ?_
  refine x_ialdX y_a133 C0 (by omega) (by omega) (fun v4 v4x v4a v4b => ?_)
  have tk : v4 = y_sel A 1 2 a2 lk (A 62).toNat := by
    rw [v4x, ht]
    exact wo.1 a2 lk 2 f1 f2 l1 l2 (by omega) (by omega)
  refine x_istore ?_
  refine x_iload rfl ?_
  refine x_push 16 rfl ?_
  refine x_cS (fun _ => rfl) (Nat.le_of_ble_eq_true rfl) ?_
  refine sf_2 (by omega) (by omega) (by omega) (by omega) C0 (fun y5 => ?_) (fun y5 => ?_)
  · skip
    refine x_if_eq (by omega) (by omega) (fun z => absurd z (by omega)) (fun z6 => ?_)
    refine x_aload rfl ?_
    refine x_getR (r := 124) rfl (by decide) (by decide) rfl ?_
    refine x_iload rfl ?_
    refine x_ialdX y_a134 C0 (by omega) (by omega) (fun v7 v7x v7a v7b => ?_)
    have sl := cn_sel tk (by omega) (by omega)
    have ct := wo.2 v4.toNat (by omega) sl.2
    have cdb : 0 ≤ v7 ∧ v7 < 64 := by rw [v7x]; exact ⟨ct.1, ct.2.1⟩
    have ru := cn_rule (X := X) (Y := Y) hP (by omega) ct hon hla
    refine x_iload rfl ?_
    refine x_iandX (by omega) (by omega) (by omega) (by omega) (fun v8 v8x v8a v8b => ?_)
    refine x_if_eq (by omega) (by omega) (fun z9 => ?_) (fun z9 => ?_)
    · skip
      refine x_blk (b := 5) (a_40 E) rfl ?_
      unfold b_40_5
      refine x_push 0 rfl ?_
      refine x_fall ?_
      refine x_blk (b := 6) (a_40 E) rfl ?_
      unfold b_40_6
      refine x_istore ?_
      refine x_X_lo (lo' := [(0, x_R 124), (6, x_I _), (7, x_I _), (9, x_I _), (10, x_I _), (11, x_I _), (12, x_I _), (13, x_I _), (14, x_I _)]) ⟨rfl, rfl, rfl, rfl, rfl, rfl, rfl, rfl, rfl, trivial⟩ ?_
      refine x_iload rfl ?_
      refine x_iload rfl ?_
      refine x_iload rfl ?_
      refine x_if_eq (by omega) (by omega) (fun z10 => ?_) (fun z => absurd (by omega) z)
      refine x_blk (b := 7) (a_40 E) rfl ?_
      unfold b_40_7
      refine x_aload rfl ?_
      refine x_getR (r := 124) rfl (by decide) (by decide) rfl ?_
      refine x_iload rfl ?_
      refine x_laldX (r := 135) (n := 16) rfl rfl (by decide) (by omega) (by omega) (fun m11 m11x => ?_)
      refine x_iload rfl ?_
      refine x_lushrX (by omega) (by omega) ?_
      refine x_pushv ?_
      refine x_lbinX ?_
      refine x_l2iX (by rw [show ∀ q, f_land q 1 = q % 2 from Nat.and_one_is_mod]; omega) ?_
      refine x_fall ?_
      refine x_blk (b := 8) (a_40 E) rfl ?_
      unfold b_40_8
      refine x_imul ?_
      refine x_iadd ?_
      refine x_istore ?_
      refine x_iload rfl ?_
      refine x_push 3 rfl ?_
      refine x_imul ?_
      refine x_istore ?_
      refine x_X_lo (lo' := [(0, x_R 124), (6, x_I _), (7, x_I _), (9, x_I _), (10, x_I _), (11, x_I _), (12, x_I _), (13, x_I _), (14, x_I _)]) ⟨rfl, rfl, rfl, rfl, rfl, rfl, rfl, rfl, rfl, trivial⟩ ?_
      refine x_iinc 1 rfl rfl ?_
      refine x_goto ?_
      refine x_G_lo (lo' := [(0, x_R 124), (6, x_I _), (7, x_I _), (9, x_I _), (10, x_I _), (11, x_I _), (12, x_I _)]) ⟨rfl, rfl, rfl, rfl, rfl, rfl, rfl, trivial⟩ ?_
      have nz : ((((σ 134 v4.toNat).toNat &&& la.toNat : Nat)) : Int) = 0 := by rw [← v7x, ← v8x]; omega
      have tq := (cn_tq_r (X := X) (Y := Y) tk (by omega)).trans (ru.2 nz)
      have tb : cn_b (σ 135 v4.toNat).toNat on.toNat = ((f_land (m11 % 18446744073709551616 / 2 ^ on.toNat) 1 : Nat) : Int) := by
        rw [show (σ 135 v4.toNat).toNat = m11 by omega, ← cn_b_mod (a := m11) (i := on.toNat) (by omega), show f_land (m11 % 18446744073709551616 / 2 ^ on.toNat) 1 = (m11 % 18446744073709551616 / 2 ^ on.toNat) % 2 from Nat.and_one_is_mod _]
        rfl
      rw [tb] at tq
      exact kx_40_124_4_s3 C0 hP wo f1 f2 l1 l2 hon hla ht (by omega) k
    · skip
      refine x_fall ?_
      refine x_blk (b := 4) (a_40 E) rfl ?_
      unfold b_40_4
      refine x_push 1 rfl ?_
      refine x_goto ?_
      refine x_blk (b := 6) (a_40 E) rfl ?_
      unfold b_40_6
      refine x_istore ?_
      refine x_X_lo (lo' := [(0, x_R 124), (6, x_I _), (7, x_I _), (9, x_I _), (10, x_I _), (11, x_I _), (12, x_I _), (13, x_I _), (14, x_I _)]) ⟨rfl, rfl, rfl, rfl, rfl, rfl, rfl, rfl, rfl, trivial⟩ ?_
      refine x_iload rfl ?_
      refine x_iload rfl ?_
      refine x_iload rfl ?_
      refine x_if_eq (by omega) (by omega) (fun z => absurd z (by omega)) (fun z12 => ?_)
      refine x_push 2 rfl ?_
      refine x_goto ?_
      refine x_blk (b := 8) (a_40 E) rfl ?_
      unfold b_40_8
      refine x_imul ?_
      refine x_iadd ?_
      refine x_istore ?_
      refine x_iload rfl ?_
      refine x_push 3 rfl ?_
      refine x_imul ?_
      refine x_istore ?_
      refine x_X_lo (lo' := [(0, x_R 124), (6, x_I _), (7, x_I _), (9, x_I _), (10, x_I _), (11, x_I _), (12, x_I _), (13, x_I _), (14, x_I _)]) ⟨rfl, rfl, rfl, rfl, rfl, rfl, rfl, rfl, rfl, trivial⟩ ?_
      refine x_iinc 1 rfl rfl ?_
      refine x_goto ?_
      refine x_G_lo (lo' := [(0, x_R 124), (6, x_I _), (7, x_I _), (9, x_I _), (10, x_I _), (11, x_I _), (12, x_I _)]) ⟨rfl, rfl, rfl, rfl, rfl, rfl, rfl, trivial⟩ ?_
      have nz : ((((σ 134 v4.toNat).toNat &&& la.toNat : Nat)) : Int) ≠ 0 := by rw [← v7x, ← v8x]; omega
      have tq := (cn_tq_r (X := X) (Y := Y) tk (by omega)).trans (ru.1 nz)
      exact kx_40_124_4_s3 C0 hP wo f1 f2 l1 l2 hon hla ht (by omega) k
  · skip
    refine x_if_eq (by omega) (by omega) (fun z13 => ?_) (fun z => absurd (by omega) z)
    refine x_blk (b := 4) (a_40 E) rfl ?_
    unfold b_40_4
    refine x_push 1 rfl ?_
    refine x_goto ?_
    refine x_blk (b := 6) (a_40 E) rfl ?_
    unfold b_40_6
    refine x_istore ?_
    refine x_X_lo (lo' := [(0, x_R 124), (6, x_I _), (7, x_I _), (9, x_I _), (10, x_I _), (11, x_I _), (12, x_I _), (13, x_I _), (14, x_I _)]) ⟨rfl, rfl, rfl, rfl, rfl, rfl, rfl, rfl, rfl, trivial⟩ ?_
    refine x_iload rfl ?_
    refine x_iload rfl ?_
    refine x_iload rfl ?_
    refine x_if_eq (by omega) (by omega) (fun z => absurd z (by omega)) (fun z14 => ?_)
    refine x_push 2 rfl ?_
    refine x_goto ?_
    refine x_blk (b := 8) (a_40 E) rfl ?_
    unfold b_40_8
    refine x_imul ?_
    refine x_iadd ?_
    refine x_istore ?_
    refine x_iload rfl ?_
    refine x_push 3 rfl ?_
    refine x_imul ?_
    refine x_istore ?_
    refine x_X_lo (lo' := [(0, x_R 124), (6, x_I _), (7, x_I _), (9, x_I _), (10, x_I _), (11, x_I _), (12, x_I _), (13, x_I _), (14, x_I _)]) ⟨rfl, rfl, rfl, rfl, rfl, rfl, rfl, rfl, rfl, trivial⟩ ?_
    refine x_iinc 1 rfl rfl ?_
    refine x_goto ?_
    refine x_G_lo (lo' := [(0, x_R 124), (6, x_I _), (7, x_I _), (9, x_I _), (10, x_I _), (11, x_I _), (12, x_I _)]) ⟨rfl, rfl, rfl, rfl, rfl, rfl, rfl, trivial⟩ ?_
    have tq := cn_tq_n (X := X) (Y := Y) tk (by omega)
    exact kx_40_124_4_s3 C0 hP wo f1 f2 l1 l2 hon hla ht (by omega) k
theorem kx_40_124_4_s1 {E : q_E} {σ : x_S} {Q : Option q_V → x_S → Prop} (C0 : y_CI σ) {A : Nat → Int} (hP : y_PI A) (wo : cn_WO σ 124 A 1) {a2 lk on la X Y t pf : Int} (f1 : 0 ≤ a2) (f2 : a2 ≤ 4) (l1 : 0 ≤ lk) (l2 : lk ≤ 1) (hon : cn_bs on 1 X Y) (hla : cn_bs la 2 X Y) (ht : t = (a2 * 2 + lk) * 3) (hp : pf = lk + 2 * cn_tq A 1 0 a2 lk X Y) (k : ∀ v, v = lk + 2 * cn_tq A 1 0 a2 lk X Y + 6 * cn_tq A 1 1 a2 lk X Y + 18 * cn_tq A 1 2 a2 lk X Y → Q (some (x_I v)) σ) : x_G E m_40 Q (t_40 9) [(0, x_R 124), (6, x_I la), (7, x_I on), (9, x_I pf), (10, x_I 6), (11, x_I t), (12, x_I 1)] [] σ := by
  have r16 := hP.2.2.2.1
  have tb0 := cn_tq_b (p := 1) (q := 0) (f := a2) (lk := lk) (one := X) (two := Y) hP
  have on1 := hon.1
  have on2 := hon.2.1
  have la1 := hla.1
  have la2 := hla.2.1
  refine x_blk (b := 9) (a_40 E) rfl ?_
  unfold b_40_9
  refine x_iload rfl ?_
  refine x_push 3 rfl ?_
  refine x_icmp_ge (by omega) (by omega) (by omega) (by omega) (fun z1 => ?_) (fun z => absurd (by omega) z)
  refine x_iload rfl ?_
  refine x_iload rfl ?_
  refine x_iadd ?_
  refine x_aload rfl ?_
  refine x_getR (r := 124) rfl (by decide) (by decide) rfl ?_
  refine x_lenG (n := 30) (L := 30) rfl (by decide) rfl (by decide) rfl ?_
  refine x_cS (fun _ => rfl) (Nat.le_of_ble_eq_true rfl) ?_
  refine sf_2 (by omega) (by omega) (by omega) (by omega) C0 (fun y2 => ?_) (fun y2 => absurd (by omega) y2)
  refine x_if_eq (by omega) (by omega) (fun z => absurd z (by omega)) (fun z3 => ?_)
  refine x_aload rfl ?_
  refine x_getR (r := 124) rfl (by decide) (by decide) rfl ?_
  refine x_iload rfl ?_
  refine x_iload rfl ?_
  refine x_iadd ?_
  refine x_ialdX y_a133 C0 (by omega) (by omega) (fun v4 v4x v4a v4b => ?_)
  have tk : v4 = y_sel A 1 1 a2 lk (A 62).toNat := by
    rw [v4x, ht]
    exact wo.1 a2 lk 1 f1 f2 l1 l2 (by omega) (by omega)
  refine x_istore ?_
  refine x_iload rfl ?_
  refine x_push 16 rfl ?_
  refine x_cS (fun _ => rfl) (Nat.le_of_ble_eq_true rfl) ?_
  refine sf_2 (by omega) (by omega) (by omega) (by omega) C0 (fun y5 => ?_) (fun y5 => ?_)
  · skip
    refine x_if_eq (by omega) (by omega) (fun z => absurd z (by omega)) (fun z6 => ?_)
    refine x_aload rfl ?_
    refine x_getR (r := 124) rfl (by decide) (by decide) rfl ?_
    refine x_iload rfl ?_
    refine x_ialdX y_a134 C0 (by omega) (by omega) (fun v7 v7x v7a v7b => ?_)
    have sl := cn_sel tk (by omega) (by omega)
    have ct := wo.2 v4.toNat (by omega) sl.2
    have cdb : 0 ≤ v7 ∧ v7 < 64 := by rw [v7x]; exact ⟨ct.1, ct.2.1⟩
    have ru := cn_rule (X := X) (Y := Y) hP (by omega) ct hon hla
    refine x_iload rfl ?_
    refine x_iandX (by omega) (by omega) (by omega) (by omega) (fun v8 v8x v8a v8b => ?_)
    refine x_if_eq (by omega) (by omega) (fun z9 => ?_) (fun z9 => ?_)
    · skip
      refine x_blk (b := 5) (a_40 E) rfl ?_
      unfold b_40_5
      refine x_push 0 rfl ?_
      refine x_fall ?_
      refine x_blk (b := 6) (a_40 E) rfl ?_
      unfold b_40_6
      refine x_istore ?_
      refine x_X_lo (lo' := [(0, x_R 124), (6, x_I _), (7, x_I _), (9, x_I _), (10, x_I _), (11, x_I _), (12, x_I _), (13, x_I _), (14, x_I _)]) ⟨rfl, rfl, rfl, rfl, rfl, rfl, rfl, rfl, rfl, trivial⟩ ?_
      refine x_iload rfl ?_
      refine x_iload rfl ?_
      refine x_iload rfl ?_
      refine x_if_eq (by omega) (by omega) (fun z10 => ?_) (fun z => absurd (by omega) z)
      refine x_blk (b := 7) (a_40 E) rfl ?_
      unfold b_40_7
      refine x_aload rfl ?_
      refine x_getR (r := 124) rfl (by decide) (by decide) rfl ?_
      refine x_iload rfl ?_
      refine x_laldX (r := 135) (n := 16) rfl rfl (by decide) (by omega) (by omega) (fun m11 m11x => ?_)
      refine x_iload rfl ?_
      refine x_lushrX (by omega) (by omega) ?_
      refine x_pushv ?_
      refine x_lbinX ?_
      refine x_l2iX (by rw [show ∀ q, f_land q 1 = q % 2 from Nat.and_one_is_mod]; omega) ?_
      refine x_fall ?_
      refine x_blk (b := 8) (a_40 E) rfl ?_
      unfold b_40_8
      refine x_imul ?_
      refine x_iadd ?_
      refine x_istore ?_
      refine x_iload rfl ?_
      refine x_push 3 rfl ?_
      refine x_imul ?_
      refine x_istore ?_
      refine x_X_lo (lo' := [(0, x_R 124), (6, x_I _), (7, x_I _), (9, x_I _), (10, x_I _), (11, x_I _), (12, x_I _), (13, x_I _), (14, x_I _)]) ⟨rfl, rfl, rfl, rfl, rfl, rfl, rfl, rfl, rfl, trivial⟩ ?_
      refine x_iinc 1 rfl rfl ?_
      refine x_goto ?_
      refine x_G_lo (lo' := [(0, x_R 124), (6, x_I _), (7, x_I _), (9, x_I _), (10, x_I _), (11, x_I _), (12, x_I _)]) ⟨rfl, rfl, rfl, rfl, rfl, rfl, rfl, trivial⟩ ?_
      have nz : ((((σ 134 v4.toNat).toNat &&& la.toNat : Nat)) : Int) = 0 := by rw [← v7x, ← v8x]; omega
      have tq := (cn_tq_r (X := X) (Y := Y) tk (by omega)).trans (ru.2 nz)
      have tb : cn_b (σ 135 v4.toNat).toNat on.toNat = ((f_land (m11 % 18446744073709551616 / 2 ^ on.toNat) 1 : Nat) : Int) := by
        rw [show (σ 135 v4.toNat).toNat = m11 by omega, ← cn_b_mod (a := m11) (i := on.toNat) (by omega), show f_land (m11 % 18446744073709551616 / 2 ^ on.toNat) 1 = (m11 % 18446744073709551616 / 2 ^ on.toNat) % 2 from Nat.and_one_is_mod _]
        rfl
      rw [tb] at tq
      exact kx_40_124_4_s2 C0 hP wo f1 f2 l1 l2 hon hla ht (by omega) k
    · skip
      refine x_fall ?_
      refine x_blk (b := 4) (a_40 E) rfl ?_
      unfold b_40_4
      refine x_push 1 rfl ?_
      refine x_goto ?_
      refine x_blk (b := 6) (a_40 E) rfl ?_
      unfold b_40_6
      refine x_istore ?_
      refine x_X_lo (lo' := [(0, x_R 124), (6, x_I _), (7, x_I _), (9, x_I _), (10, x_I _), (11, x_I _), (12, x_I _), (13, x_I _), (14, x_I _)]) ⟨rfl, rfl, rfl, rfl, rfl, rfl, rfl, rfl, rfl, trivial⟩ ?_
      refine x_iload rfl ?_
      refine x_iload rfl ?_
      refine x_iload rfl ?_
      refine x_if_eq (by omega) (by omega) (fun z => absurd z (by omega)) (fun z12 => ?_)
      refine x_push 2 rfl ?_
      refine x_goto ?_
      refine x_blk (b := 8) (a_40 E) rfl ?_
      unfold b_40_8
      refine x_imul ?_
      refine x_iadd ?_
      refine x_istore ?_
      refine x_iload rfl ?_
      refine x_push 3 rfl ?_
      refine x_imul ?_
      refine x_istore ?_
      refine x_X_lo (lo' := [(0, x_R 124), (6, x_I _), (7, x_I _), (9, x_I _), (10, x_I _), (11, x_I _), (12, x_I _), (13, x_I _), (14, x_I _)]) ⟨rfl, rfl, rfl, rfl, rfl, rfl, rfl, rfl, rfl, trivial⟩ ?_
      refine x_iinc 1 rfl rfl ?_
      refine x_goto ?_
      refine x_G_lo (lo' := [(0, x_R 124), (6, x_I _), (7, x_I _), (9, x_I _), (10, x_I _), (11, x_I _), (12, x_I _)]) ⟨rfl, rfl, rfl, rfl, rfl, rfl, rfl, trivial⟩ ?_
      have nz : ((((σ 134 v4.toNat).toNat &&& la.toNat : Nat)) : Int) ≠ 0 := by rw [← v7x, ← v8x]; omega
      have tq := (cn_tq_r (X := X) (Y := Y) tk (by omega)).trans (ru.1 nz)
      exact kx_40_124_4_s2 C0 hP wo f1 f2 l1 l2 hon hla ht (by omega) k
  · skip
    refine x_if_eq (by omega) (by omega) (fun z13 => ?_) (fun z => absurd (by omega) z)
    refine x_blk (b := 4) (a_40 E) rfl ?_
    unfold b_40_4
    refine x_push 1 rfl ?_
    refine x_goto ?_
    refine x_blk (b := 6) (a_40 E) rfl ?_
    unfold b_40_6
    refine x_istore ?_
    refine x_X_lo (lo' := [(0, x_R 124), (6, x_I _), (7, x_I _), (9, x_I _), (10, x_I _), (11, x_I _), (12, x_I _), (13, x_I _), (14, x_I _)]) ⟨rfl, rfl, rfl, rfl, rfl, rfl, rfl, rfl, rfl, trivial⟩ ?_
    refine x_iload rfl ?_
    refine x_iload rfl ?_
    refine x_iload rfl ?_
    refine x_if_eq (by omega) (by omega) (fun z => absurd z (by omega)) (fun z14 => ?_)
    refine x_push 2 rfl ?_
    refine x_goto ?_
    refine x_blk (b := 8) (a_40 E) rfl ?_
    unfold b_40_8
    refine x_imul ?_
    refine x_iadd ?_
    refine x_istore ?_
    refine x_iload rfl ?_
    refine x_push 3 rfl ?_
    refine x_imul ?_
    refine x_istore ?_
    refine x_X_lo (lo' := [(0, x_R 124), (6, x_I _), (7, x_I _), (9, x_I _), (10, x_I _), (11, x_I _), (12, x_I _), (13, x_I _), (14, x_I _)]) ⟨rfl, rfl, rfl, rfl, rfl, rfl, rfl, rfl, rfl, trivial⟩ ?_
    refine x_iinc 1 rfl rfl ?_
    refine x_goto ?_
    refine x_G_lo (lo' := [(0, x_R 124), (6, x_I _), (7, x_I _), (9, x_I _), (10, x_I _), (11, x_I _), (12, x_I _)]) ⟨rfl, rfl, rfl, rfl, rfl, rfl, rfl, trivial⟩ ?_
    have tq := cn_tq_n (X := X) (Y := Y) tk (by omega)
    exact kx_40_124_4_s2 C0 hP wo f1 f2 l1 l2 hon hla ht (by omega) k
theorem kx_40_124_4_s0 {E : q_E} {σ : x_S} {Q : Option q_V → x_S → Prop} (C0 : y_CI σ) {A : Nat → Int} (hP : y_PI A) (wo : cn_WO σ 124 A 1) {a2 lk on la X Y t pf : Int} (f1 : 0 ≤ a2) (f2 : a2 ≤ 4) (l1 : 0 ≤ lk) (l2 : lk ≤ 1) (hon : cn_bs on 1 X Y) (hla : cn_bs la 2 X Y) (ht : t = (a2 * 2 + lk) * 3) (hp : pf = lk) (k : ∀ v, v = lk + 2 * cn_tq A 1 0 a2 lk X Y + 6 * cn_tq A 1 1 a2 lk X Y + 18 * cn_tq A 1 2 a2 lk X Y → Q (some (x_I v)) σ) : x_G E m_40 Q (t_40 9) [(0, x_R 124), (6, x_I la), (7, x_I on), (9, x_I pf), (10, x_I 2), (11, x_I t), (12, x_I 0)] [] σ := by
  have r16 := hP.2.2.2.1
  have on1 := hon.1
  have on2 := hon.2.1
  have la1 := hla.1
  have la2 := hla.2.1
  refine x_blk (b := 9) (a_40 E) rfl ?_
  unfold b_40_9
  refine x_iload rfl ?_
  refine x_push 3 rfl ?_
  refine x_icmp_ge (by omega) (by omega) (by omega) (by omega) (fun z1 => ?_) (fun z => absurd (by omega) z)
  refine x_iload rfl ?_
  refine x_iload rfl ?_
  refine x_iadd ?_
  refine x_aload rfl ?_
  refine x_getR (r := 124) rfl (by decide) (by decide) rfl ?_
  refine x_lenG (n := 30) (L := 30) rfl (by decide) rfl (by decide) rfl ?_
  refine x_cS (fun _ => rfl) (Nat.le_of_ble_eq_true rfl) ?_
  refine sf_2 (by omega) (by omega) (by omega) (by omega) C0 (fun y2 => ?_) (fun y2 => absurd (by omega) y2)
  refine x_if_eq (by omega) (by omega) (fun z => absurd z (by omega)) (fun z3 => ?_)
  refine x_aload rfl ?_
  refine x_getR (r := 124) rfl (by decide) (by decide) rfl ?_
  refine x_iload rfl ?_
  refine x_iload rfl ?_
  refine x_iadd ?_
  refine x_ialdX y_a133 C0 (by omega) (by omega) (fun v4 v4x v4a v4b => ?_)
  have tk : v4 = y_sel A 1 0 a2 lk (A 62).toNat := by
    rw [v4x, ht]
    exact wo.1 a2 lk 0 f1 f2 l1 l2 (by omega) (by omega)
  refine x_istore ?_
  refine x_iload rfl ?_
  refine x_push 16 rfl ?_
  refine x_cS (fun _ => rfl) (Nat.le_of_ble_eq_true rfl) ?_
  refine sf_2 (by omega) (by omega) (by omega) (by omega) C0 (fun y5 => ?_) (fun y5 => ?_)
  · skip
    refine x_if_eq (by omega) (by omega) (fun z => absurd z (by omega)) (fun z6 => ?_)
    refine x_aload rfl ?_
    refine x_getR (r := 124) rfl (by decide) (by decide) rfl ?_
    refine x_iload rfl ?_
    refine x_ialdX y_a134 C0 (by omega) (by omega) (fun v7 v7x v7a v7b => ?_)
    have sl := cn_sel tk (by omega) (by omega)
    have ct := wo.2 v4.toNat (by omega) sl.2
    have cdb : 0 ≤ v7 ∧ v7 < 64 := by rw [v7x]; exact ⟨ct.1, ct.2.1⟩
    have ru := cn_rule (X := X) (Y := Y) hP (by omega) ct hon hla
    refine x_iload rfl ?_
    refine x_iandX (by omega) (by omega) (by omega) (by omega) (fun v8 v8x v8a v8b => ?_)
    refine x_if_eq (by omega) (by omega) (fun z9 => ?_) (fun z9 => ?_)
    · skip
      refine x_blk (b := 5) (a_40 E) rfl ?_
      unfold b_40_5
      refine x_push 0 rfl ?_
      refine x_fall ?_
      refine x_blk (b := 6) (a_40 E) rfl ?_
      unfold b_40_6
      refine x_istore ?_
      refine x_X_lo (lo' := [(0, x_R 124), (6, x_I _), (7, x_I _), (9, x_I _), (10, x_I _), (11, x_I _), (12, x_I _), (13, x_I _), (14, x_I _)]) ⟨rfl, rfl, rfl, rfl, rfl, rfl, rfl, rfl, rfl, trivial⟩ ?_
      refine x_iload rfl ?_
      refine x_iload rfl ?_
      refine x_iload rfl ?_
      refine x_if_eq (by omega) (by omega) (fun z10 => ?_) (fun z => absurd (by omega) z)
      refine x_blk (b := 7) (a_40 E) rfl ?_
      unfold b_40_7
      refine x_aload rfl ?_
      refine x_getR (r := 124) rfl (by decide) (by decide) rfl ?_
      refine x_iload rfl ?_
      refine x_laldX (r := 135) (n := 16) rfl rfl (by decide) (by omega) (by omega) (fun m11 m11x => ?_)
      refine x_iload rfl ?_
      refine x_lushrX (by omega) (by omega) ?_
      refine x_pushv ?_
      refine x_lbinX ?_
      refine x_l2iX (by rw [show ∀ q, f_land q 1 = q % 2 from Nat.and_one_is_mod]; omega) ?_
      refine x_fall ?_
      refine x_blk (b := 8) (a_40 E) rfl ?_
      unfold b_40_8
      refine x_imul ?_
      refine x_iadd ?_
      refine x_istore ?_
      refine x_iload rfl ?_
      refine x_push 3 rfl ?_
      refine x_imul ?_
      refine x_istore ?_
      refine x_X_lo (lo' := [(0, x_R 124), (6, x_I _), (7, x_I _), (9, x_I _), (10, x_I _), (11, x_I _), (12, x_I _), (13, x_I _), (14, x_I _)]) ⟨rfl, rfl, rfl, rfl, rfl, rfl, rfl, rfl, rfl, trivial⟩ ?_
      refine x_iinc 1 rfl rfl ?_
      refine x_goto ?_
      refine x_G_lo (lo' := [(0, x_R 124), (6, x_I _), (7, x_I _), (9, x_I _), (10, x_I _), (11, x_I _), (12, x_I _)]) ⟨rfl, rfl, rfl, rfl, rfl, rfl, rfl, trivial⟩ ?_
      have nz : ((((σ 134 v4.toNat).toNat &&& la.toNat : Nat)) : Int) = 0 := by rw [← v7x, ← v8x]; omega
      have tq := (cn_tq_r (X := X) (Y := Y) tk (by omega)).trans (ru.2 nz)
      have tb : cn_b (σ 135 v4.toNat).toNat on.toNat = ((f_land (m11 % 18446744073709551616 / 2 ^ on.toNat) 1 : Nat) : Int) := by
        rw [show (σ 135 v4.toNat).toNat = m11 by omega, ← cn_b_mod (a := m11) (i := on.toNat) (by omega), show f_land (m11 % 18446744073709551616 / 2 ^ on.toNat) 1 = (m11 % 18446744073709551616 / 2 ^ on.toNat) % 2 from Nat.and_one_is_mod _]
        rfl
      rw [tb] at tq
      exact kx_40_124_4_s1 C0 hP wo f1 f2 l1 l2 hon hla ht (by omega) k
    · skip
      refine x_fall ?_
      refine x_blk (b := 4) (a_40 E) rfl ?_
      unfold b_40_4
      refine x_push 1 rfl ?_
      refine x_goto ?_
      refine x_blk (b := 6) (a_40 E) rfl ?_
      unfold b_40_6
      refine x_istore ?_
      refine x_X_lo (lo' := [(0, x_R 124), (6, x_I _), (7, x_I _), (9, x_I _), (10, x_I _), (11, x_I _), (12, x_I _), (13, x_I _), (14, x_I _)]) ⟨rfl, rfl, rfl, rfl, rfl, rfl, rfl, rfl, rfl, trivial⟩ ?_
      refine x_iload rfl ?_
      refine x_iload rfl ?_
      refine x_iload rfl ?_
      refine x_if_eq (by omega) (by omega) (fun z => absurd z (by omega)) (fun z12 => ?_)
      refine x_push 2 rfl ?_
      refine x_goto ?_
      refine x_blk (b := 8) (a_40 E) rfl ?_
      unfold b_40_8
      refine x_imul ?_
      refine x_iadd ?_
      refine x_istore ?_
      refine x_iload rfl ?_
      refine x_push 3 rfl ?_
      refine x_imul ?_
      refine x_istore ?_
      refine x_X_lo (lo' := [(0, x_R 124), (6, x_I _), (7, x_I _), (9, x_I _), (10, x_I _), (11, x_I _), (12, x_I _), (13, x_I _), (14, x_I _)]) ⟨rfl, rfl, rfl, rfl, rfl, rfl, rfl, rfl, rfl, trivial⟩ ?_
      refine x_iinc 1 rfl rfl ?_
      refine x_goto ?_
      refine x_G_lo (lo' := [(0, x_R 124), (6, x_I _), (7, x_I _), (9, x_I _), (10, x_I _), (11, x_I _), (12, x_I _)]) ⟨rfl, rfl, rfl, rfl, rfl, rfl, rfl, trivial⟩ ?_
      have nz : ((((σ 134 v4.toNat).toNat &&& la.toNat : Nat)) : Int) ≠ 0 := by rw [← v7x, ← v8x]; omega
      have tq := (cn_tq_r (X := X) (Y := Y) tk (by omega)).trans (ru.1 nz)
      exact kx_40_124_4_s1 C0 hP wo f1 f2 l1 l2 hon hla ht (by omega) k
  · skip
    refine x_if_eq (by omega) (by omega) (fun z13 => ?_) (fun z => absurd (by omega) z)
    refine x_blk (b := 4) (a_40 E) rfl ?_
    unfold b_40_4
    refine x_push 1 rfl ?_
    refine x_goto ?_
    refine x_blk (b := 6) (a_40 E) rfl ?_
    unfold b_40_6
    refine x_istore ?_
    refine x_X_lo (lo' := [(0, x_R 124), (6, x_I _), (7, x_I _), (9, x_I _), (10, x_I _), (11, x_I _), (12, x_I _), (13, x_I _), (14, x_I _)]) ⟨rfl, rfl, rfl, rfl, rfl, rfl, rfl, rfl, rfl, trivial⟩ ?_
    refine x_iload rfl ?_
    refine x_iload rfl ?_
    refine x_iload rfl ?_
    refine x_if_eq (by omega) (by omega) (fun z => absurd z (by omega)) (fun z14 => ?_)
    refine x_push 2 rfl ?_
    refine x_goto ?_
    refine x_blk (b := 8) (a_40 E) rfl ?_
    unfold b_40_8
    refine x_imul ?_
    refine x_iadd ?_
    refine x_istore ?_
    refine x_iload rfl ?_
    refine x_push 3 rfl ?_
    refine x_imul ?_
    refine x_istore ?_
    refine x_X_lo (lo' := [(0, x_R 124), (6, x_I _), (7, x_I _), (9, x_I _), (10, x_I _), (11, x_I _), (12, x_I _), (13, x_I _), (14, x_I _)]) ⟨rfl, rfl, rfl, rfl, rfl, rfl, rfl, rfl, rfl, trivial⟩ ?_
    refine x_iinc 1 rfl rfl ?_
    refine x_goto ?_
    refine x_G_lo (lo' := [(0, x_R 124), (6, x_I _), (7, x_I _), (9, x_I _), (10, x_I _), (11, x_I _), (12, x_I _)]) ⟨rfl, rfl, rfl, rfl, rfl, rfl, rfl, trivial⟩ ?_
    have tq := cn_tq_n (X := X) (Y := Y) tk (by omega)
    exact kx_40_124_4_s1 C0 hP wo f1 f2 l1 l2 hon hla ht (by omega) k
theorem kx_40_124_4 {E : q_E} {σ : x_S} {Q : Option q_V → x_S → Prop} {a2 a3 a4 : Int} (ok : cn_ok (fun _ => True) a2 a3 a4) (C0 : y_CI σ) {A : Nat → Int} (hP : y_PI A) (wo : cn_WO σ 124 A 1) (hA : y_AG (y_cv σ 4) A) (ox : cn_ON σ 124 a3) (oy : cn_ON σ 124 a4) (k : ∀ v, v = cn_pI A 1 a2 (a3.toNat : Nat) (a4.toNat : Nat) → Q (some (x_I v)) σ) : x_P E 40 [x_R 124, x_R 4, x_I a2, x_I a3, x_I a4] σ Q := by
  have okx := cn_okx ok
  have f1 := ok.1.1
  have f2 := ok.1.2
  refine x_Mt e_40 (h_40 E) (Nat.le_of_ble_eq_true rfl) t_40 rfl ?_
  refine x_blk (b := 0) (a_40 E) rfl ?_
  unfold b_40_0
  refine x_push 0 rfl ?_
  refine x_istore ?_
  refine x_push 0 rfl ?_
  refine x_istore ?_
  refine x_X_lo (lo' := [(0, x_R 124), (1, x_R 4), (2, x_I _), (3, x_I _), (4, x_I _), (5, x_I _), (6, x_I _)]) ⟨rfl, rfl, rfl, rfl, rfl, rfl, rfl, trivial⟩ ?_
  refine x_push 0 rfl ?_
  refine x_istore ?_
  refine x_iload rfl ?_
  refine x_push 54 rfl ?_
  refine x_cS (fun _ => rfl) (Nat.le_of_ble_eq_true rfl) ?_
  refine sf_2 (by omega) (by omega) (by omega) (by omega) C0 (fun y1 => ?_) (fun y1 => ?_)
  · skip
    refine x_if_eq (by omega) (by omega) (fun z => absurd z (by omega)) (fun z2 => ?_)
    refine x_iload rfl ?_
    refine x_push 1 rfl ?_
    refine x_iand1 (by omega) (by omega) ?_
    refine x_istore ?_
    refine x_X_lo (lo' := [(0, x_R 124), (1, x_R 4), (2, x_I _), (3, x_I _), (4, x_I _), (5, x_I _), (6, x_I _), (7, x_I _)]) ⟨rfl, rfl, rfl, rfl, rfl, rfl, rfl, rfl, trivial⟩ ?_
    refine x_aload rfl ?_
    refine x_getR (r := 124) rfl (by decide) (by decide) rfl ?_
    refine x_iload rfl ?_
    refine x_ialdX y_a132 C0 (by omega) (by omega) (fun v3 v3x v3a v3b => ?_)
    refine x_istore ?_
    refine x_aload rfl ?_
    refine x_getR (r := 124) rfl (by decide) (by decide) rfl ?_
    refine x_iload rfl ?_
    refine x_ialdX y_a131 C0 (by omega) (by omega) (fun v4 v4x v4a v4b => ?_)
    refine x_istore ?_
    refine x_X_lo (lo' := [(0, x_R 124), (1, x_R 4), (2, x_I _), (3, x_I _), (4, x_I _), (5, x_I _), (6, x_I _), (7, x_I _)]) ⟨rfl, rfl, rfl, rfl, rfl, rfl, rfl, rfl, trivial⟩ ?_
    refine x_fall ?_
    refine x_blk (b := 1) (a_40 E) rfl ?_
    unfold b_40_1
    refine x_iload rfl ?_
    refine x_push 54 rfl ?_
    refine x_cS (fun _ => rfl) (Nat.le_of_ble_eq_true rfl) ?_
    refine sf_2 (by omega) (by omega) (by omega) (by omega) C0 (fun y5 => ?_) (fun y5 => ?_)
    · skip
      refine x_if_eq (by omega) (by omega) (fun z => absurd z (by omega)) (fun z6 => ?_)
      refine x_push 2 rfl ?_
      refine x_iload rfl ?_
      refine x_imul ?_
      refine x_iload rfl ?_
      refine x_push 1 rfl ?_
      refine x_iand1 (by omega) (by omega) ?_
      refine x_iadd ?_
      refine x_istore ?_
      refine x_iload rfl ?_
      refine x_aload rfl ?_
      refine x_getR (r := 124) rfl (by decide) (by decide) rfl ?_
      refine x_iload rfl ?_
      refine x_ialdX y_a132 C0 (by omega) (by omega) (fun v7 v7x v7a v7b => ?_)
      refine x_push 3 rfl ?_
      refine x_shl3 (by omega) (by omega) ?_
      refine x_iorX (by omega) (by omega) (by omega) (by omega) (fun v8 v8x v8a v8b => ?_)
      refine x_istore ?_
      refine x_X_lo (lo' := [(0, x_R 124), (1, x_R 4), (2, x_I _), (3, x_I _), (4, x_I _), (5, x_I _), (6, x_I _), (7, x_I _)]) ⟨rfl, rfl, rfl, rfl, rfl, rfl, rfl, rfl, trivial⟩ ?_
      refine x_iload rfl ?_
      refine x_aload rfl ?_
      refine x_getR (r := 124) rfl (by decide) (by decide) rfl ?_
      refine x_iload rfl ?_
      refine x_ialdX y_a131 C0 (by omega) (by omega) (fun v9 v9x v9a v9b => ?_)
      refine x_push 3 rfl ?_
      refine x_shl3 (by omega) (by omega) ?_
      refine x_iorX (by omega) (by omega) (by omega) (by omega) (fun v10 v10x v10a v10b => ?_)
      refine x_istore ?_
      refine x_fall ?_
      refine x_blk (b := 2) (a_40 E) rfl ?_
      unfold b_40_2
      refine x_aload rfl ?_
      refine x_push 0 rfl ?_
      refine x_iload rfl ?_
      refine x_iload rfl ?_
      refine x_cV (fun _ => rfl) rfl (by decide) (Nat.le_of_ble_eq_true rfl) ?_
      refine kx_30_4 (by omega) (by omega) (by omega) (by omega) (by omega) (by omega) C0 (fun v11 v11a v11b v11c => ?_)
      refine x_istore ?_
      refine x_X_lo (lo' := [(0, x_R 124), (1, x_R 4), (2, x_I _), (3, x_I _), (4, x_I _), (5, x_I _), (6, x_I _), (7, x_I _), (8, x_I _)]) ⟨rfl, rfl, rfl, rfl, rfl, rfl, rfl, rfl, rfl, trivial⟩ ?_
      refine x_iload rfl ?_
      refine x_istore ?_
      refine x_push 2 rfl ?_
      refine x_istore ?_
      refine x_X_lo (lo' := [(0, x_R 124), (1, x_R 4), (2, x_I _), (3, x_I _), (4, x_I _), (5, x_I _), (6, x_I _), (7, x_I _), (8, x_I _), (9, x_I _), (10, x_I _)]) ⟨rfl, rfl, rfl, rfl, rfl, rfl, rfl, rfl, rfl, rfl, rfl, trivial⟩ ?_
      refine x_iload rfl ?_
      refine x_push 2 rfl ?_
      refine x_imul ?_
      refine x_iload rfl ?_
      refine x_iadd ?_
      refine x_push 3 rfl ?_
      refine x_imul ?_
      refine x_istore ?_
      refine x_push 0 rfl ?_
      refine x_istore ?_
      refine x_X_lo (lo' := [(0, x_R 124), (1, x_R 4), (2, x_I _), (3, x_I _), (4, x_I _), (5, x_I _), (6, x_I _), (7, x_I _), (8, x_I _), (9, x_I _), (10, x_I _), (11, x_I _), (12, x_I _)]) ⟨rfl, rfl, rfl, rfl, rfl, rfl, rfl, rfl, rfl, rfl, rfl, rfl, rfl, trivial⟩ ?_
      refine x_fall ?_
      refine x_G_lo (lo' := [(0, x_R 124), (6, x_I _), (7, x_I _), (9, x_I _), (10, x_I _), (11, x_I _), (12, x_I _)]) ⟨rfl, rfl, rfl, rfl, rfl, rfl, rfl, trivial⟩ ?_
      have kx := cn_kkx a2 (a3.toNat : Nat) (a4.toNat : Nat)
      have kq : cn_kk a2 (a3.toNat : Nat) (a4.toNat : Nat) = 2 * (a3 % 2) + a4 % 2 := by omega
      have pw := y_pwx (y_ch a2)
      have elk : v11 = cn_lk A a2 (a3.toNat : Nat) (a4.toNat : Nat) := by
        unfold cn_lk
        rw [kq, ← y_PG_e hA (m := 0) (f := a2) (e := 2 * (a3 % 2) + a4 % 2) (by omega) (by omega) f1 f2 (by omega) (by omega)]
        show _ = σ 8 _
        omega
      have ex := ox.resolve_left (by omega)
      have X0 : ((a3.toNat : Nat) : Int) = a3 := by omega
      have ey := oy.resolve_left (by omega)
      have Y0 : ((a4.toNat : Nat) : Int) = a4 := by omega
      have b1 : cn_bs v10 1 (a3.toNat : Nat) (a4.toNat : Nat) := by rw [X0, Y0, v10x]; exact cn_bs_2 (by rw [v4x]; exact ex.1) (by rw [v9x]; exact ey.1)
      have b2 : cn_bs v8 2 (a3.toNat : Nat) (a4.toNat : Nat) := by rw [X0, Y0, v8x]; exact cn_bs_2 (by rw [v3x]; exact ex.2) (by rw [v7x]; exact ey.2)
      exact kx_40_124_4_s0 C0 hP wo f1 f2 (by omega) (by omega) b1 b2 rfl rfl (fun v hv => k v (by rw [hv, elk]; rfl))
    · skip
      refine x_if_eq (by omega) (by omega) (fun z12 => ?_) (fun z => absurd (by omega) z)
      refine x_blk (b := 2) (a_40 E) rfl ?_
      unfold b_40_2
      refine x_aload rfl ?_
      refine x_push 0 rfl ?_
      refine x_iload rfl ?_
      refine x_iload rfl ?_
      refine x_cV (fun _ => rfl) rfl (by decide) (Nat.le_of_ble_eq_true rfl) ?_
      refine kx_30_4 (by omega) (by omega) (by omega) (by omega) (by omega) (by omega) C0 (fun v13 v13a v13b v13c => ?_)
      refine x_istore ?_
      refine x_iload rfl ?_
      refine x_istore ?_
      refine x_X_lo (lo' := [(0, x_R 124), (1, x_R 4), (2, x_I _), (3, x_I _), (4, x_I _), (5, x_I _), (6, x_I _), (7, x_I _), (8, x_I _), (9, x_I _)]) ⟨rfl, rfl, rfl, rfl, rfl, rfl, rfl, rfl, rfl, rfl, trivial⟩ ?_
      refine x_push 2 rfl ?_
      refine x_istore ?_
      refine x_iload rfl ?_
      refine x_push 2 rfl ?_
      refine x_imul ?_
      refine x_iload rfl ?_
      refine x_iadd ?_
      refine x_push 3 rfl ?_
      refine x_imul ?_
      refine x_istore ?_
      refine x_X_lo (lo' := [(0, x_R 124), (1, x_R 4), (2, x_I _), (3, x_I _), (4, x_I _), (5, x_I _), (6, x_I _), (7, x_I _), (8, x_I _), (9, x_I _), (10, x_I _), (11, x_I _)]) ⟨rfl, rfl, rfl, rfl, rfl, rfl, rfl, rfl, rfl, rfl, rfl, rfl, trivial⟩ ?_
      refine x_push 0 rfl ?_
      refine x_istore ?_
      refine x_fall ?_
      refine x_G_lo (lo' := [(0, x_R 124), (6, x_I _), (7, x_I _), (9, x_I _), (10, x_I _), (11, x_I _), (12, x_I _)]) ⟨rfl, rfl, rfl, rfl, rfl, rfl, rfl, trivial⟩ ?_
      have kx := cn_kkx a2 (a3.toNat : Nat) (a4.toNat : Nat)
      have kq : cn_kk a2 (a3.toNat : Nat) (a4.toNat : Nat) = a3 % 2 := by omega
      have pw := y_pwx (y_ch a2)
      have elk : v13 = cn_lk A a2 (a3.toNat : Nat) (a4.toNat : Nat) := by
        unfold cn_lk
        rw [kq, ← y_PG_e hA (m := 0) (f := a2) (e := a3 % 2) (by omega) (by omega) f1 f2 (by omega) (by omega)]
        show _ = σ 8 _
        omega
      have ex := ox.resolve_left (by omega)
      have X0 : ((a3.toNat : Nat) : Int) = a3 := by omega
      have Y0 : ((a4.toNat : Nat) : Int) = 0 := by omega
      have b1 : cn_bs v4 1 (a3.toNat : Nat) (a4.toNat : Nat) := by rw [X0, Y0]; exact cn_bs_1 (by decide) (by rw [v4x]; exact ex.1)
      have b2 : cn_bs v3 2 (a3.toNat : Nat) (a4.toNat : Nat) := by rw [X0, Y0]; exact cn_bs_1 (by decide) (by rw [v3x]; exact ex.2)
      exact kx_40_124_4_s0 C0 hP wo f1 f2 (by omega) (by omega) b1 b2 rfl rfl (fun v hv => k v (by rw [hv, elk]; rfl))
  · skip
    refine x_if_eq (by omega) (by omega) (fun z14 => ?_) (fun z => absurd (by omega) z)
    refine x_blk (b := 1) (a_40 E) rfl ?_
    unfold b_40_1
    refine x_iload rfl ?_
    refine x_push 54 rfl ?_
    refine x_cS (fun _ => rfl) (Nat.le_of_ble_eq_true rfl) ?_
    refine sf_2 (by omega) (by omega) (by omega) (by omega) C0 (fun y15 => absurd y15 (by omega)) (fun y15 => ?_)
    refine x_if_eq (by omega) (by omega) (fun z16 => ?_) (fun z => absurd (by omega) z)
    refine x_blk (b := 2) (a_40 E) rfl ?_
    unfold b_40_2
    refine x_aload rfl ?_
    refine x_push 0 rfl ?_
    refine x_iload rfl ?_
    refine x_iload rfl ?_
    refine x_cV (fun _ => rfl) rfl (by decide) (Nat.le_of_ble_eq_true rfl) ?_
    refine kx_30_4 (by omega) (by omega) (by omega) (by omega) (by omega) (by omega) C0 (fun v17 v17a v17b v17c => ?_)
    refine x_istore ?_
    refine x_X_lo (lo' := [(0, x_R 124), (1, x_R 4), (2, x_I _), (3, x_I _), (4, x_I _), (5, x_I _), (6, x_I _), (7, x_I _), (8, x_I _)]) ⟨rfl, rfl, rfl, rfl, rfl, rfl, rfl, rfl, rfl, trivial⟩ ?_
    refine x_iload rfl ?_
    refine x_istore ?_
    refine x_push 2 rfl ?_
    refine x_istore ?_
    refine x_X_lo (lo' := [(0, x_R 124), (1, x_R 4), (2, x_I _), (3, x_I _), (4, x_I _), (5, x_I _), (6, x_I _), (7, x_I _), (8, x_I _), (9, x_I _), (10, x_I _)]) ⟨rfl, rfl, rfl, rfl, rfl, rfl, rfl, rfl, rfl, rfl, rfl, trivial⟩ ?_
    refine x_iload rfl ?_
    refine x_push 2 rfl ?_
    refine x_imul ?_
    refine x_iload rfl ?_
    refine x_iadd ?_
    refine x_push 3 rfl ?_
    refine x_imul ?_
    refine x_istore ?_
    refine x_push 0 rfl ?_
    refine x_istore ?_
    refine x_X_lo (lo' := [(0, x_R 124), (1, x_R 4), (2, x_I _), (3, x_I _), (4, x_I _), (5, x_I _), (6, x_I _), (7, x_I _), (8, x_I _), (9, x_I _), (10, x_I _), (11, x_I _), (12, x_I _)]) ⟨rfl, rfl, rfl, rfl, rfl, rfl, rfl, rfl, rfl, rfl, rfl, rfl, rfl, trivial⟩ ?_
    refine x_fall ?_
    refine x_G_lo (lo' := [(0, x_R 124), (6, x_I _), (7, x_I _), (9, x_I _), (10, x_I _), (11, x_I _), (12, x_I _)]) ⟨rfl, rfl, rfl, rfl, rfl, rfl, rfl, trivial⟩ ?_
    have kx := cn_kkx a2 (a3.toNat : Nat) (a4.toNat : Nat)
    have kq : cn_kk a2 (a3.toNat : Nat) (a4.toNat : Nat) = 0 := by omega
    have pw := y_pwx (y_ch a2)
    have elk : v17 = cn_lk A a2 (a3.toNat : Nat) (a4.toNat : Nat) := by
      unfold cn_lk
      rw [kq, ← y_PG_e hA (m := 0) (f := a2) (e := 0) (by omega) (by omega) f1 f2 (by omega) (by omega)]
      show _ = σ 8 _
      omega
    have X0 : ((a3.toNat : Nat) : Int) = 0 := by omega
    have Y0 : ((a4.toNat : Nat) : Int) = 0 := by omega
    have b1 : cn_bs 0 1 (a3.toNat : Nat) (a4.toNat : Nat) := by rw [X0, Y0]; exact cn_bs_0 (by decide)
    have b2 : cn_bs 0 2 (a3.toNat : Nat) (a4.toNat : Nat) := by rw [X0, Y0]; exact cn_bs_0 (by decide)
    exact kx_40_124_4_s0 C0 hP wo f1 f2 (by omega) (by omega) b1 b2 rfl rfl (fun v hv => k v (by rw [hv, elk]; rfl))
