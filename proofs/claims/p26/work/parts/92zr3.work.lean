theorem kx_65_111_4_b7 {E : q_E} {σ : x_S} {Q : Option q_V → x_S → Prop} {a2 : Int} (r1 : 0 ≤ a2) (C0 : y_CI σ) {A : Nat → Int} (hP : y_PI A) (hA : y_AG (y_cv σ 4) A) (r2 : a2 < A 62) (k : ∀ τ, y_CI τ → (∀ q m, q ≠ 121 → q ≠ 122 → q ≠ 123 → τ q m = σ q m) → (∀ m, m ≠ a2.toNat → τ 121 m = σ 121 m ∧ τ 122 m = σ 122 m) → cn_ct A 0 a2.toNat (τ 121 a2.toNat) (τ 122 a2.toNat) → Q none τ) {f : Int} (hf : f = A (65 + 12 * a2.toNat)) : ∀ (N : Nat) (h cd i : Int) (τ : x_S), (i + 1).toNat = N → -1 ≤ i → i < A (67 + 12 * a2.toNat) → h = y_op (cn_W A a2.toNat) (i + 1).toNat → h ≤ A (67 + 12 * a2.toNat) - 1 - i → 0 ≤ h → 0 ≤ cd → cd < 64 → cn_cb A 0 a2.toNat i cd → cn_sb A 0 a2.toNat i h (τ 123) → y_CI τ → (∀ q m, q ≠ 123 → τ q m = σ q m) → x_G E m_65 Q (t_65 7) [(0, x_R 111), (1, x_R 4), (2, x_I a2), (3, x_I f), (4, x_I h), (5, x_I cd), (6, x_I i)] [] τ := by
  have r16 := hP.2.2.2.1
  have rl := cn_rl (r := a2.toNat) hP (by omega)
  intro N
  induction N using Nat.strongRecOn with
  | ind N ih =>
    intro h cd i τ hN im i2 hh hz h0 cd0 cd1 hcb hsb C fr
    refine x_blk (b := 7) (a_65 E) rfl ?_
    unfold b_65_7
    refine x_iload rfl ?_
    refine x_if_lt (by omega) (by omega) (fun z1 => ?_) (fun z1 => ?_)
    · skip
      refine x_blk (b := 1) (a_65 E) rfl ?_
      unfold b_65_1
      refine x_aload rfl ?_
      refine x_getR (r := 111) rfl (by decide) (by decide) rfl ?_
      refine x_iload rfl ?_
      refine x_iload rfl ?_
      refine x_astG y_a121 C (by decide) (y_fr_rf (lo := 0) (hi := 138)) (by omega) (by omega) (by omega) (by omega) (fun S2 e2 C2 F2 => ?_)
      refine x_aload rfl ?_
      refine x_getR (r := 111) rfl (by decide) (by decide) rfl ?_
      refine x_iload rfl ?_
      refine x_aload rfl ?_
      refine x_getR (r := 111) rfl (by decide) (by decide) rfl ?_
      refine x_push 0 rfl ?_
      refine x_laldX (r := 123) (n := 7) rfl rfl (by decide) (by omega) (by omega) (fun m3 m3x => ?_)
      refine x_lastX (r := 122) (n := 16) rfl rfl (by decide) (fun _ => rfl) C2 (by omega) (by omega) (fun S4 e4 C4 => ?_)
      refine x_vret ?_
      have hi1 : i = -1 := by omega
      subst hi1
      have h1 : h = 1 := hh
      refine k _ C4 (fun q m h1 h2 h3 => (x_up_nr e4 h2).trans ((x_up_nr e2 h1).trans (fr q m h3))) (fun m hm => ⟨(x_up_nr e4 (by decide)).trans ((x_up_ne e2 (fun z => hm z.2)).trans (fr _ _ (by decide))), (x_up_ne e4 (fun z => hm z.2)).trans ((x_up_nr e2 (by decide)).trans (fr _ _ (by decide)))⟩) ?_
      rw [x_up_nr e4 (show 121 ≠ 122 by decide), x_up_at e2, x_up_at e4]
      refine ⟨cd0, cd1, hcb, fun b hb => ?_⟩
      have q := hsb b hb 0 (by omega)
      rw [show ((A (67 + 12 * a2.toNat)).toNat - ((-1 : Int) + 1).toNat) = (A (67 + 12 * a2.toNat)).toNat from rfl] at q
      have q3 : (τ 123 0) = ((m3 : Nat) : Int) := by
        have q4 : S2 123 (0 : Int).toNat = τ 123 0 := x_up_nr e2 (by decide)
        omega
      rw [q3, show (((m3 : Nat) : Int)).toNat = m3 by omega] at q
      rw [show (((m3 % 18446744073709551616 : Nat) : Int)).toNat = m3 % 18446744073709551616 by omega, cn_b_mod hb, q]
    · skip
      have i1 : 0 ≤ i := by omega
      refine x_aload rfl ?_
      refine x_iload rfl ?_
      refine x_iload rfl ?_
      refine x_cV (fun _ => rfl) rfl (by decide) (Nat.le_of_ble_eq_true rfl) ?_
      have w4 : τ 9 (a2 * 12 + 4).toNat = A (67 + 12 * a2.toNat) := by
        rw [fr 9 _ (by decide), show (a2 * 12 + 4).toNat = 12 * a2.toNat + 4 by omega]
        exact (y_PG_w (p := 4) hA (r := a2.toNat) (c := 4) (by omega) (by omega)).trans (congrArg A (by omega))
      have w5 : τ 9 (a2 * 12 + 5 + i).toNat = A (68 + 12 * a2.toNat + i.toNat) := by
        rw [fr 9 _ (by decide), show (a2 * 12 + 5 + i).toNat = 12 * a2.toNat + (5 + i.toNat) by omega]
        exact (y_PG_w (p := 4) hA (r := a2.toNat) (c := 5 + i.toNat) (by omega) (by omega)).trans (congrArg A (by omega))
      refine kx_53_4 (by omega) (by omega) (by omega) (by omega) C (fun v5 v5a v5b v5c => ?_)
      have px : v5 = A (68 + 12 * a2.toNat + i.toNat) := by omega
      have pq := rl.2.2.1 i.toNat (by omega)
      have pc := pq.1
      have op := cn_op_s (A := A) (r := a2.toNat) i1
      have c9 := y_c9v (A (68 + 12 * a2.toNat + i.toNat))
      have chx := y_chx (A (68 + 12 * a2.toNat + i.toNat))
      unfold y_pc at pc
      rw [← px] at pc op c9 chx
      refine x_istore ?_
      refine x_iload rfl ?_
      refine x_push 10 rfl ?_
      refine x_icmp_lt (by omega) (by omega) (by omega) (by omega) (fun z6 => ?_) (fun z6 => ?_)
      · skip
        refine x_blk (b := 2) (a_65 E) rfl ?_
        unfold b_65_2
        refine x_aload rfl ?_
        refine x_aload rfl ?_
        refine x_iload rfl ?_
        refine x_iload rfl ?_
        refine x_cV (fun _ => rfl) rfl (by decide) (Nat.le_of_ble_eq_true rfl) ?_
        have hA2 : y_AG (y_cv τ 4) A := by rw [cn_cv (fun q m _ _ => fr q m (by omega))]; exact hA
        refine kx_66_111_4 (by omega) (by omega) (by omega) (by omega) C hP hA2 (fun n7 n7x => ?_)
        refine x_lstore ?_
        refine x_X_lo (lo' := [(0, x_R 111), (1, x_R 4), (2, x_I _), (3, x_I _), (4, x_I _), (5, x_I _), (6, x_I _), (7, x_I _), (8, x_N _)]) ⟨rfl, rfl, rfl, rfl, rfl, rfl, rfl, rfl, rfl, trivial⟩ ?_
        refine x_iload rfl ?_
        refine x_iload rfl ?_
        refine x_cS (fun _ => rfl) (Nat.le_of_ble_eq_true rfl) ?_
        refine ke_7 (by omega) (by omega) (fun v8 v8a v8b v8c => ?_)
        have cy : v8 = y_ch v5 := by omega
        subst cy
        refine x_isub ?_
        refine x_istore ?_
        refine x_fall ?_
        refine x_blk (b := 5) (a_65 E) rfl ?_
        unfold b_65_5
        refine x_iload rfl ?_
        refine x_push 7 rfl ?_
        refine x_cS (fun _ => rfl) (Nat.le_of_ble_eq_true rfl) ?_
        refine sf_2 (by omega) (by omega) (by omega) (by omega) C (fun y9 => ?_) (fun y9 => absurd (by omega) y9)
        refine x_if_eq (by omega) (by omega) (fun z => absurd z (by omega)) (fun z10 => ?_)
        refine x_aload rfl ?_
        refine x_getR (r := 111) rfl (by decide) (by decide) rfl ?_
        refine x_iload rfl ?_
        refine x_lloadN rfl ?_
        refine x_lastX (r := 123) (n := 7) rfl rfl (by decide) (fun _ => rfl) C (by omega) (by omega) (fun S11 e11 C11 => ?_)
        refine x_iinc 1 rfl rfl ?_
        refine x_X_lo (lo' := [(0, x_R 111), (1, x_R 4), (2, x_I _), (3, x_I _), (4, x_I _), (5, x_I _), (6, x_I _), (7, x_I _), (8, x_N _)]) ⟨rfl, rfl, rfl, rfl, rfl, rfl, rfl, rfl, rfl, trivial⟩ ?_
        refine x_fall ?_
        refine x_blk (b := 6) (a_65 E) rfl ?_
        unfold b_65_6
        refine x_iinc (-1) rfl rfl ?_
        refine x_goto ?_
        refine x_G_lo (lo' := [(0, x_R 111), (1, x_R 4), (2, x_I _), (3, x_I _), (4, x_I _), (5, x_I _), (6, x_I _)]) ⟨rfl, rfl, rfl, rfl, rfl, rfl, rfl, trivial⟩ ?_
        have h9 : ¬ 9 < v5 := by omega
        have hx2 : ¬ 9 < A (68 + 12 * a2.toNat + i.toNat) := by rw [← px]; exact h9
        refine ih _ (by omega) _ _ _ S11 rfl (by omega) (by omega) (by rw [show (i + -1 + 1).toNat = i.toNat by omega]; omega) (by omega) (by omega) cd0 cd1 (cn_cb_l hcb i1 hx2) (cn_sb_l hsb i1 (by omega) hh px h9 (by omega) n7x (x_up_at e11) (fun m hm => x_up_ne e11 (fun z => hm z.2))) C11 (fun q m hq => (x_up_nr e11 hq).trans (fr q m hq))
      · skip
        refine x_push 3 rfl ?_
        refine x_aload rfl ?_
        refine x_aload rfl ?_
        refine x_getIG y_f111_0 C ?_
        intro g12a g12b
        refine x_iload rfl ?_
        refine x_iload rfl ?_
        refine x_cV (fun _ => rfl) rfl (by decide) (Nat.le_of_ble_eq_true rfl) ?_
        have p0 : τ 111 0 = 0 := by omega
        have p7 : τ 7 (τ 111 0).toNat = A (0 : Int).toNat := by
          rw [p0, fr 7 _ (by decide)]
          exact y_PG_k (p := 4) hA (k := 0) (by decide)
        refine kx_69_4 (by omega) (by omega) (by omega) (by omega) (by omega) (by omega) (by omega) (by omega) (by omega) (by omega) C (fun v13 v13a v13b v13c => ?_)
        rw [p7, hf] at v13c
        have wx : v13 = w_ch A 0 (A (65 + 12 * a2.toNat)) v5 := cn_wch (by omega) v13c
        refine x_imul ?_
        refine x_iload rfl ?_
        refine x_cS (fun _ => rfl) (Nat.le_of_ble_eq_true rfl) ?_
        refine kx_68 (by omega) (by omega) C (fun v14 v14a v14b v14c => ?_)
        have ax : 3 * v13 + v14 = cn_an A 0 a2.toNat v5 := by
          unfold cn_an
          rw [← wx]
          omega
        refine x_iadd ?_
        refine x_istore ?_
        refine x_X_lo (lo' := [(0, x_R 111), (1, x_R 4), (2, x_I _), (3, x_I _), (4, x_I _), (5, x_I _), (6, x_I _), (7, x_I _), (10, x_I _)]) ⟨rfl, rfl, rfl, rfl, rfl, rfl, rfl, rfl, rfl, trivial⟩ ?_
        refine x_iload rfl ?_
        refine x_push 1 rfl ?_
        refine x_iload rfl ?_
        refine x_shl5 (by omega) (by omega) (fun v15 v15x v15a v15b => ?_)
        refine x_iorX (by omega) (by omega) (by omega) (by omega) (fun v16 v16x v16a v16b => ?_)
        refine x_istore ?_
        refine x_iload rfl ?_
        refine x_pushv ?_
        refine x_lenZ ?_
        refine x_cS (fun _ => rfl) (Nat.le_of_ble_eq_true rfl) ?_
        refine sf_2 (by omega) (by omega) (by omega) (by omega) C (fun y17 => ?_) (fun y17 => absurd (by omega) y17)
        refine x_if_eq (by omega) (by omega) (fun z => absurd z (by omega)) (fun z18 => ?_)
        refine x_pushv ?_
        refine x_iload rfl ?_
        refine x_lwheX (by omega) (by omega) ?_
        refine x_goto ?_
        refine x_blk (b := 4) (a_65 E) rfl ?_
        unfold b_65_4
        refine x_lstore ?_
        refine x_X_lo (lo' := [(0, x_R 111), (1, x_R 4), (2, x_I _), (3, x_I _), (4, x_I _), (5, x_I _), (6, x_I _), (7, x_I _), (8, x_N _), (10, x_I _)]) ⟨rfl, rfl, rfl, rfl, rfl, rfl, rfl, rfl, rfl, rfl, trivial⟩ ?_
        refine x_goto ?_
        refine x_blk (b := 5) (a_65 E) rfl ?_
        unfold b_65_5
        refine x_iload rfl ?_
        refine x_push 7 rfl ?_
        refine x_cS (fun _ => rfl) (Nat.le_of_ble_eq_true rfl) ?_
        refine sf_2 (by omega) (by omega) (by omega) (by omega) C (fun y20 => ?_) (fun y20 => absurd (by omega) y20)
        refine x_if_eq (by omega) (by omega) (fun z => absurd z (by omega)) (fun z21 => ?_)
        refine x_aload rfl ?_
        refine x_getR (r := 111) rfl (by decide) (by decide) rfl ?_
        refine x_iload rfl ?_
        refine x_lloadN rfl ?_
        refine x_lastX (r := 123) (n := 7) rfl rfl (by decide) (fun _ => rfl) C (by omega) (by omega) (fun S22 e22 C22 => ?_)
        refine x_iinc 1 rfl rfl ?_
        refine x_fall ?_
        refine x_blk (b := 6) (a_65 E) rfl ?_
        unfold b_65_6
        refine x_iinc (-1) rfl rfl ?_
        refine x_X_lo (lo' := [(0, x_R 111), (1, x_R 4), (2, x_I _), (3, x_I _), (4, x_I _), (5, x_I _), (6, x_I _), (7, x_I _), (8, x_N _), (10, x_I _)]) ⟨rfl, rfl, rfl, rfl, rfl, rfl, rfl, rfl, rfl, rfl, trivial⟩ ?_
        refine x_goto ?_
        refine x_G_lo (lo' := [(0, x_R 111), (1, x_R 4), (2, x_I _), (3, x_I _), (4, x_I _), (5, x_I _), (6, x_I _)]) ⟨rfl, rfl, rfl, rfl, rfl, rfl, rfl, trivial⟩ ?_
        have h9 : 9 < A (68 + 12 * a2.toNat + i.toNat) := by omega
        have ax2 := ax
        rw [px] at ax2
        have anb := (cn_anx (A := A) (p := 0) (r := a2.toNat) (x := v5) (by omega) (by omega)).2
        rw [← ax] at anb
        have hcd := cn_cb_c (v := v16) hcb cd0 cd1 i1 (by omega) h9 ax2 anb.1 anb.2 (by rw [v16x, v15x]; rfl)
        refine ih _ (by omega) _ _ _ S22 rfl (by omega) (by omega) (by rw [show (i + -1 + 1).toNat = i.toNat by omega]; omega) (by omega) (by omega) hcd.2.1 hcd.2.2 hcd.1 (cn_sb_c hsb i1 (by omega) hh h0 h9 ax2 anb.1 anb.2 (x_up_at e22) (fun m hm => x_up_ne e22 (fun z => hm z.2))) C22 (fun q m hq => (x_up_nr e22 hq).trans (fr q m hq))
theorem kx_65_111_4 {E : q_E} {σ : x_S} {Q : Option q_V → x_S → Prop} {a2 : Int} (r1 : 0 ≤ a2) (C0 : y_CI σ) {A : Nat → Int} (hP : y_PI A) (hA : y_AG (y_cv σ 4) A) (r2 : a2 < A 62) (k : ∀ τ, y_CI τ → (∀ q m, q ≠ 121 → q ≠ 122 → q ≠ 123 → τ q m = σ q m) → (∀ m, m ≠ a2.toNat → τ 121 m = σ 121 m ∧ τ 122 m = σ 122 m) → cn_ct A 0 a2.toNat (τ 121 a2.toNat) (τ 122 a2.toNat) → Q none τ) : x_P E 65 [x_R 111, x_R 4, x_I a2] σ Q := by
  have r16 := hP.2.2.2.1
  have rl := cn_rl (r := a2.toNat) hP (by omega)
  refine x_Mt e_65 (h_65 E) (Nat.le_of_ble_eq_true rfl) t_65 rfl ?_
  refine x_blk (b := 0) (a_65 E) rfl ?_
  unfold b_65_0
  refine x_aload rfl ?_
  refine x_iload rfl ?_
  refine x_push 2 rfl ?_
  refine x_cV (fun _ => rfl) rfl (by decide) (Nat.le_of_ble_eq_true rfl) ?_
  refine kx_6_4 (by omega) (by omega) (by omega) (by omega) C0 (fun v1 v1a v1b v1c => ?_)
  have x1 : v1 = A (65 + 12 * a2.toNat) := by
    have q := y_PG_w hA (r := a2.toNat) (c := 2) (by omega) (by omega)
    rw [show 63 + 12 * a2.toNat + 2 = 65 + 12 * a2.toNat by omega] at q
    rw [← q]
    show _ = σ 9 _
    rw [show 12 * a2.toNat + 2 = (a2 * 12 + 2).toNat by omega]
    omega
  refine x_istore ?_
  refine x_push 0 rfl ?_
  refine x_istore ?_
  refine x_X_lo (lo' := [(0, x_R 111), (1, x_R 4), (2, x_I _), (3, x_I _), (4, x_I _)]) ⟨rfl, rfl, rfl, rfl, rfl, trivial⟩ ?_
  refine x_push 0 rfl ?_
  refine x_istore ?_
  refine x_aload rfl ?_
  refine x_iload rfl ?_
  refine x_push 4 rfl ?_
  refine x_cV (fun _ => rfl) rfl (by decide) (Nat.le_of_ble_eq_true rfl) ?_
  refine kx_6_4 (by omega) (by omega) (by omega) (by omega) C0 (fun v2 v2a v2b v2c => ?_)
  have x2 : v2 = A (67 + 12 * a2.toNat) := by
    have q := y_PG_w hA (r := a2.toNat) (c := 4) (by omega) (by omega)
    rw [show 63 + 12 * a2.toNat + 4 = 67 + 12 * a2.toNat by omega] at q
    rw [← q]
    show _ = σ 9 _
    rw [show 12 * a2.toNat + 4 = (a2 * 12 + 4).toNat by omega]
    omega
  refine x_push 1 rfl ?_
  refine x_isub ?_
  refine x_istore ?_
  refine x_X_lo (lo' := [(0, x_R 111), (1, x_R 4), (2, x_I _), (3, x_I _), (4, x_I _), (5, x_I _), (6, x_I _)]) ⟨rfl, rfl, rfl, rfl, rfl, rfl, rfl, trivial⟩ ?_
  refine x_fall ?_
  refine x_G_lo (lo' := [(0, x_R 111), (1, x_R 4), (2, x_I _), (3, x_I _), (4, x_I _), (5, x_I _), (6, x_I _)]) ⟨rfl, rfl, rfl, rfl, rfl, rfl, rfl, trivial⟩ ?_
  refine kx_65_111_4_b7 r1 C0 hP hA r2 k x1 _ 0 0 _ σ rfl (by omega) (by omega) ?_ (by omega) (by omega) (by omega) (by omega) (cn_cb_0 (by omega)) (fun b hb m hm => absurd hm (by omega)) C0 (fun _ _ _ => rfl)
  rw [show (v2 - 1 + 1).toNat = (A (67 + 12 * a2.toNat)).toNat by omega]
  exact rl.2.2.2.symm
theorem kx_65_124_4_b7 {E : q_E} {σ : x_S} {Q : Option q_V → x_S → Prop} {a2 : Int} (r1 : 0 ≤ a2) (C0 : y_CI σ) {A : Nat → Int} (hP : y_PI A) (hA : y_AG (y_cv σ 4) A) (r2 : a2 < A 62) (k : ∀ τ, y_CI τ → (∀ q m, q ≠ 134 → q ≠ 135 → q ≠ 136 → τ q m = σ q m) → (∀ m, m ≠ a2.toNat → τ 134 m = σ 134 m ∧ τ 135 m = σ 135 m) → cn_ct A 1 a2.toNat (τ 134 a2.toNat) (τ 135 a2.toNat) → Q none τ) {f : Int} (hf : f = A (65 + 12 * a2.toNat)) : ∀ (N : Nat) (h cd i : Int) (τ : x_S), (i + 1).toNat = N → -1 ≤ i → i < A (67 + 12 * a2.toNat) → h = y_op (cn_W A a2.toNat) (i + 1).toNat → h ≤ A (67 + 12 * a2.toNat) - 1 - i → 0 ≤ h → 0 ≤ cd → cd < 64 → cn_cb A 1 a2.toNat i cd → cn_sb A 1 a2.toNat i h (τ 136) → y_CI τ → (∀ q m, q ≠ 136 → τ q m = σ q m) → x_G E m_65 Q (t_65 7) [(0, x_R 124), (1, x_R 4), (2, x_I a2), (3, x_I f), (4, x_I h), (5, x_I cd), (6, x_I i)] [] τ := by
  have r16 := hP.2.2.2.1
  have rl := cn_rl (r := a2.toNat) hP (by omega)
  intro N
  induction N using Nat.strongRecOn with
  | ind N ih =>
    intro h cd i τ hN im i2 hh hz h0 cd0 cd1 hcb hsb C fr
    refine x_blk (b := 7) (a_65 E) rfl ?_
    unfold b_65_7
    refine x_iload rfl ?_
    refine x_if_lt (by omega) (by omega) (fun z1 => ?_) (fun z1 => ?_)
    · skip
      refine x_blk (b := 1) (a_65 E) rfl ?_
      unfold b_65_1
      refine x_aload rfl ?_
      refine x_getR (r := 124) rfl (by decide) (by decide) rfl ?_
      refine x_iload rfl ?_
      refine x_iload rfl ?_
      refine x_astG y_a134 C (by decide) (y_fr_rf (lo := 0) (hi := 138)) (by omega) (by omega) (by omega) (by omega) (fun S2 e2 C2 F2 => ?_)
      refine x_aload rfl ?_
      refine x_getR (r := 124) rfl (by decide) (by decide) rfl ?_
      refine x_iload rfl ?_
      refine x_aload rfl ?_
      refine x_getR (r := 124) rfl (by decide) (by decide) rfl ?_
      refine x_push 0 rfl ?_
      refine x_laldX (r := 136) (n := 7) rfl rfl (by decide) (by omega) (by omega) (fun m3 m3x => ?_)
      refine x_lastX (r := 135) (n := 16) rfl rfl (by decide) (fun _ => rfl) C2 (by omega) (by omega) (fun S4 e4 C4 => ?_)
      refine x_vret ?_
      have hi1 : i = -1 := by omega
      subst hi1
      have h1 : h = 1 := hh
      refine k _ C4 (fun q m h1 h2 h3 => (x_up_nr e4 h2).trans ((x_up_nr e2 h1).trans (fr q m h3))) (fun m hm => ⟨(x_up_nr e4 (by decide)).trans ((x_up_ne e2 (fun z => hm z.2)).trans (fr _ _ (by decide))), (x_up_ne e4 (fun z => hm z.2)).trans ((x_up_nr e2 (by decide)).trans (fr _ _ (by decide)))⟩) ?_
      rw [x_up_nr e4 (show 134 ≠ 135 by decide), x_up_at e2, x_up_at e4]
      refine ⟨cd0, cd1, hcb, fun b hb => ?_⟩
      have q := hsb b hb 0 (by omega)
      rw [show ((A (67 + 12 * a2.toNat)).toNat - ((-1 : Int) + 1).toNat) = (A (67 + 12 * a2.toNat)).toNat from rfl] at q
      have q3 : (τ 136 0) = ((m3 : Nat) : Int) := by
        have q4 : S2 136 (0 : Int).toNat = τ 136 0 := x_up_nr e2 (by decide)
        omega
      rw [q3, show (((m3 : Nat) : Int)).toNat = m3 by omega] at q
      rw [show (((m3 % 18446744073709551616 : Nat) : Int)).toNat = m3 % 18446744073709551616 by omega, cn_b_mod hb, q]
    · skip
      have i1 : 0 ≤ i := by omega
      refine x_aload rfl ?_
      refine x_iload rfl ?_
      refine x_iload rfl ?_
      refine x_cV (fun _ => rfl) rfl (by decide) (Nat.le_of_ble_eq_true rfl) ?_
      have w4 : τ 9 (a2 * 12 + 4).toNat = A (67 + 12 * a2.toNat) := by
        rw [fr 9 _ (by decide), show (a2 * 12 + 4).toNat = 12 * a2.toNat + 4 by omega]
        exact (y_PG_w (p := 4) hA (r := a2.toNat) (c := 4) (by omega) (by omega)).trans (congrArg A (by omega))
      have w5 : τ 9 (a2 * 12 + 5 + i).toNat = A (68 + 12 * a2.toNat + i.toNat) := by
        rw [fr 9 _ (by decide), show (a2 * 12 + 5 + i).toNat = 12 * a2.toNat + (5 + i.toNat) by omega]
        exact (y_PG_w (p := 4) hA (r := a2.toNat) (c := 5 + i.toNat) (by omega) (by omega)).trans (congrArg A (by omega))
      refine kx_53_4 (by omega) (by omega) (by omega) (by omega) C (fun v5 v5a v5b v5c => ?_)
      have px : v5 = A (68 + 12 * a2.toNat + i.toNat) := by omega
      have pq := rl.2.2.1 i.toNat (by omega)
      have pc := pq.1
      have op := cn_op_s (A := A) (r := a2.toNat) i1
      have c9 := y_c9v (A (68 + 12 * a2.toNat + i.toNat))
      have chx := y_chx (A (68 + 12 * a2.toNat + i.toNat))
      unfold y_pc at pc
      rw [← px] at pc op c9 chx
      refine x_istore ?_
      refine x_iload rfl ?_
      refine x_push 10 rfl ?_
      refine x_icmp_lt (by omega) (by omega) (by omega) (by omega) (fun z6 => ?_) (fun z6 => ?_)
      · skip
        refine x_blk (b := 2) (a_65 E) rfl ?_
        unfold b_65_2
        refine x_aload rfl ?_
        refine x_aload rfl ?_
        refine x_iload rfl ?_
        refine x_iload rfl ?_
        refine x_cV (fun _ => rfl) rfl (by decide) (Nat.le_of_ble_eq_true rfl) ?_
        have hA2 : y_AG (y_cv τ 4) A := by rw [cn_cv (fun q m _ _ => fr q m (by omega))]; exact hA
        refine kx_66_124_4 (by omega) (by omega) (by omega) (by omega) C hP hA2 (fun n7 n7x => ?_)
        refine x_lstore ?_
        refine x_X_lo (lo' := [(0, x_R 124), (1, x_R 4), (2, x_I _), (3, x_I _), (4, x_I _), (5, x_I _), (6, x_I _), (7, x_I _), (8, x_N _)]) ⟨rfl, rfl, rfl, rfl, rfl, rfl, rfl, rfl, rfl, trivial⟩ ?_
        refine x_iload rfl ?_
        refine x_iload rfl ?_
        refine x_cS (fun _ => rfl) (Nat.le_of_ble_eq_true rfl) ?_
        refine ke_7 (by omega) (by omega) (fun v8 v8a v8b v8c => ?_)
        have cy : v8 = y_ch v5 := by omega
        subst cy
        refine x_isub ?_
        refine x_istore ?_
        refine x_fall ?_
        refine x_blk (b := 5) (a_65 E) rfl ?_
        unfold b_65_5
        refine x_iload rfl ?_
        refine x_push 7 rfl ?_
        refine x_cS (fun _ => rfl) (Nat.le_of_ble_eq_true rfl) ?_
        refine sf_2 (by omega) (by omega) (by omega) (by omega) C (fun y9 => ?_) (fun y9 => absurd (by omega) y9)
        refine x_if_eq (by omega) (by omega) (fun z => absurd z (by omega)) (fun z10 => ?_)
        refine x_aload rfl ?_
        refine x_getR (r := 124) rfl (by decide) (by decide) rfl ?_
        refine x_iload rfl ?_
        refine x_lloadN rfl ?_
        refine x_lastX (r := 136) (n := 7) rfl rfl (by decide) (fun _ => rfl) C (by omega) (by omega) (fun S11 e11 C11 => ?_)
        refine x_iinc 1 rfl rfl ?_
        refine x_X_lo (lo' := [(0, x_R 124), (1, x_R 4), (2, x_I _), (3, x_I _), (4, x_I _), (5, x_I _), (6, x_I _), (7, x_I _), (8, x_N _)]) ⟨rfl, rfl, rfl, rfl, rfl, rfl, rfl, rfl, rfl, trivial⟩ ?_
        refine x_fall ?_
        refine x_blk (b := 6) (a_65 E) rfl ?_
        unfold b_65_6
        refine x_iinc (-1) rfl rfl ?_
        refine x_goto ?_
        refine x_G_lo (lo' := [(0, x_R 124), (1, x_R 4), (2, x_I _), (3, x_I _), (4, x_I _), (5, x_I _), (6, x_I _)]) ⟨rfl, rfl, rfl, rfl, rfl, rfl, rfl, trivial⟩ ?_
        have h9 : ¬ 9 < v5 := by omega
        have hx2 : ¬ 9 < A (68 + 12 * a2.toNat + i.toNat) := by rw [← px]; exact h9
        refine ih _ (by omega) _ _ _ S11 rfl (by omega) (by omega) (by rw [show (i + -1 + 1).toNat = i.toNat by omega]; omega) (by omega) (by omega) cd0 cd1 (cn_cb_l hcb i1 hx2) (cn_sb_l hsb i1 (by omega) hh px h9 (by omega) n7x (x_up_at e11) (fun m hm => x_up_ne e11 (fun z => hm z.2))) C11 (fun q m hq => (x_up_nr e11 hq).trans (fr q m hq))
      · skip
        refine x_push 3 rfl ?_
        refine x_aload rfl ?_
        refine x_aload rfl ?_
        refine x_getIG y_f124_0 C ?_
        intro g12a g12b
        refine x_iload rfl ?_
        refine x_iload rfl ?_
        refine x_cV (fun _ => rfl) rfl (by decide) (Nat.le_of_ble_eq_true rfl) ?_
        have p0 : τ 124 0 = 1 := by omega
        have p7 : τ 7 (τ 124 0).toNat = A (1 : Int).toNat := by
          rw [p0, fr 7 _ (by decide)]
          exact y_PG_k (p := 4) hA (k := 1) (by decide)
        refine kx_69_4 (by omega) (by omega) (by omega) (by omega) (by omega) (by omega) (by omega) (by omega) (by omega) (by omega) C (fun v13 v13a v13b v13c => ?_)
        rw [p7, hf] at v13c
        have wx : v13 = w_ch A 1 (A (65 + 12 * a2.toNat)) v5 := cn_wch (by omega) v13c
        refine x_imul ?_
        refine x_iload rfl ?_
        refine x_cS (fun _ => rfl) (Nat.le_of_ble_eq_true rfl) ?_
        refine kx_68 (by omega) (by omega) C (fun v14 v14a v14b v14c => ?_)
        have ax : 3 * v13 + v14 = cn_an A 1 a2.toNat v5 := by
          unfold cn_an
          rw [← wx]
          omega
        refine x_iadd ?_
        refine x_istore ?_
        refine x_X_lo (lo' := [(0, x_R 124), (1, x_R 4), (2, x_I _), (3, x_I _), (4, x_I _), (5, x_I _), (6, x_I _), (7, x_I _), (10, x_I _)]) ⟨rfl, rfl, rfl, rfl, rfl, rfl, rfl, rfl, rfl, trivial⟩ ?_
        refine x_iload rfl ?_
        refine x_push 1 rfl ?_
        refine x_iload rfl ?_
        refine x_shl5 (by omega) (by omega) (fun v15 v15x v15a v15b => ?_)
        refine x_iorX (by omega) (by omega) (by omega) (by omega) (fun v16 v16x v16a v16b => ?_)
        refine x_istore ?_
        refine x_iload rfl ?_
        refine x_pushv ?_
        refine x_lenZ ?_
        refine x_cS (fun _ => rfl) (Nat.le_of_ble_eq_true rfl) ?_
        refine sf_2 (by omega) (by omega) (by omega) (by omega) C (fun y17 => ?_) (fun y17 => absurd (by omega) y17)
        refine x_if_eq (by omega) (by omega) (fun z => absurd z (by omega)) (fun z18 => ?_)
        refine x_pushv ?_
        refine x_iload rfl ?_
        refine x_lwheX (by omega) (by omega) ?_
        refine x_goto ?_
        refine x_blk (b := 4) (a_65 E) rfl ?_
        unfold b_65_4
        refine x_lstore ?_
        refine x_X_lo (lo' := [(0, x_R 124), (1, x_R 4), (2, x_I _), (3, x_I _), (4, x_I _), (5, x_I _), (6, x_I _), (7, x_I _), (8, x_N _), (10, x_I _)]) ⟨rfl, rfl, rfl, rfl, rfl, rfl, rfl, rfl, rfl, rfl, trivial⟩ ?_
        refine x_goto ?_
        refine x_blk (b := 5) (a_65 E) rfl ?_
        unfold b_65_5
        refine x_iload rfl ?_
        refine x_push 7 rfl ?_
        refine x_cS (fun _ => rfl) (Nat.le_of_ble_eq_true rfl) ?_
        refine sf_2 (by omega) (by omega) (by omega) (by omega) C (fun y20 => ?_) (fun y20 => absurd (by omega) y20)
        refine x_if_eq (by omega) (by omega) (fun z => absurd z (by omega)) (fun z21 => ?_)
        refine x_aload rfl ?_
        refine x_getR (r := 124) rfl (by decide) (by decide) rfl ?_
        refine x_iload rfl ?_
        refine x_lloadN rfl ?_
        refine x_lastX (r := 136) (n := 7) rfl rfl (by decide) (fun _ => rfl) C (by omega) (by omega) (fun S22 e22 C22 => ?_)
        refine x_iinc 1 rfl rfl ?_
        refine x_fall ?_
        refine x_blk (b := 6) (a_65 E) rfl ?_
        unfold b_65_6
        refine x_iinc (-1) rfl rfl ?_
        refine x_X_lo (lo' := [(0, x_R 124), (1, x_R 4), (2, x_I _), (3, x_I _), (4, x_I _), (5, x_I _), (6, x_I _), (7, x_I _), (8, x_N _), (10, x_I _)]) ⟨rfl, rfl, rfl, rfl, rfl, rfl, rfl, rfl, rfl, rfl, trivial⟩ ?_
        refine x_goto ?_
        refine x_G_lo (lo' := [(0, x_R 124), (1, x_R 4), (2, x_I _), (3, x_I _), (4, x_I _), (5, x_I _), (6, x_I _)]) ⟨rfl, rfl, rfl, rfl, rfl, rfl, rfl, trivial⟩ ?_
        have h9 : 9 < A (68 + 12 * a2.toNat + i.toNat) := by omega
        have ax2 := ax
        rw [px] at ax2
        have anb := (cn_anx (A := A) (p := 1) (r := a2.toNat) (x := v5) (by omega) (by omega)).2
        rw [← ax] at anb
        have hcd := cn_cb_c (v := v16) hcb cd0 cd1 i1 (by omega) h9 ax2 anb.1 anb.2 (by rw [v16x, v15x]; rfl)
        refine ih _ (by omega) _ _ _ S22 rfl (by omega) (by omega) (by rw [show (i + -1 + 1).toNat = i.toNat by omega]; omega) (by omega) (by omega) hcd.2.1 hcd.2.2 hcd.1 (cn_sb_c hsb i1 (by omega) hh h0 h9 ax2 anb.1 anb.2 (x_up_at e22) (fun m hm => x_up_ne e22 (fun z => hm z.2))) C22 (fun q m hq => (x_up_nr e22 hq).trans (fr q m hq))
theorem kx_65_124_4 {E : q_E} {σ : x_S} {Q : Option q_V → x_S → Prop} {a2 : Int} (r1 : 0 ≤ a2) (C0 : y_CI σ) {A : Nat → Int} (hP : y_PI A) (hA : y_AG (y_cv σ 4) A) (r2 : a2 < A 62) (k : ∀ τ, y_CI τ → (∀ q m, q ≠ 134 → q ≠ 135 → q ≠ 136 → τ q m = σ q m) → (∀ m, m ≠ a2.toNat → τ 134 m = σ 134 m ∧ τ 135 m = σ 135 m) → cn_ct A 1 a2.toNat (τ 134 a2.toNat) (τ 135 a2.toNat) → Q none τ) : x_P E 65 [x_R 124, x_R 4, x_I a2] σ Q := by
  have r16 := hP.2.2.2.1
  have rl := cn_rl (r := a2.toNat) hP (by omega)
  refine x_Mt e_65 (h_65 E) (Nat.le_of_ble_eq_true rfl) t_65 rfl ?_
  refine x_blk (b := 0) (a_65 E) rfl ?_
  unfold b_65_0
  refine x_aload rfl ?_
  refine x_iload rfl ?_
  refine x_push 2 rfl ?_
  refine x_cV (fun _ => rfl) rfl (by decide) (Nat.le_of_ble_eq_true rfl) ?_
  refine kx_6_4 (by omega) (by omega) (by omega) (by omega) C0 (fun v1 v1a v1b v1c => ?_)
  have x1 : v1 = A (65 + 12 * a2.toNat) := by
    have q := y_PG_w hA (r := a2.toNat) (c := 2) (by omega) (by omega)
    rw [show 63 + 12 * a2.toNat + 2 = 65 + 12 * a2.toNat by omega] at q
    rw [← q]
    show _ = σ 9 _
    rw [show 12 * a2.toNat + 2 = (a2 * 12 + 2).toNat by omega]
    omega
  refine x_istore ?_
  refine x_push 0 rfl ?_
  refine x_istore ?_
  refine x_X_lo (lo' := [(0, x_R 124), (1, x_R 4), (2, x_I _), (3, x_I _), (4, x_I _)]) ⟨rfl, rfl, rfl, rfl, rfl, trivial⟩ ?_
  refine x_push 0 rfl ?_
  refine x_istore ?_
  refine x_aload rfl ?_
  refine x_iload rfl ?_
  refine x_push 4 rfl ?_
  refine x_cV (fun _ => rfl) rfl (by decide) (Nat.le_of_ble_eq_true rfl) ?_
  refine kx_6_4 (by omega) (by omega) (by omega) (by omega) C0 (fun v2 v2a v2b v2c => ?_)
  have x2 : v2 = A (67 + 12 * a2.toNat) := by
    have q := y_PG_w hA (r := a2.toNat) (c := 4) (by omega) (by omega)
    rw [show 63 + 12 * a2.toNat + 4 = 67 + 12 * a2.toNat by omega] at q
    rw [← q]
    show _ = σ 9 _
    rw [show 12 * a2.toNat + 4 = (a2 * 12 + 4).toNat by omega]
    omega
  refine x_push 1 rfl ?_
  refine x_isub ?_
  refine x_istore ?_
  refine x_X_lo (lo' := [(0, x_R 124), (1, x_R 4), (2, x_I _), (3, x_I _), (4, x_I _), (5, x_I _), (6, x_I _)]) ⟨rfl, rfl, rfl, rfl, rfl, rfl, rfl, trivial⟩ ?_
  refine x_fall ?_
  refine x_G_lo (lo' := [(0, x_R 124), (1, x_R 4), (2, x_I _), (3, x_I _), (4, x_I _), (5, x_I _), (6, x_I _)]) ⟨rfl, rfl, rfl, rfl, rfl, rfl, rfl, trivial⟩ ?_
  refine kx_65_124_4_b7 r1 C0 hP hA r2 k x1 _ 0 0 _ σ rfl (by omega) (by omega) ?_ (by omega) (by omega) (by omega) (by omega) (cn_cb_0 (by omega)) (fun b hb m hm => absurd hm (by omega)) C0 (fun _ _ _ => rfl)
  rw [show (v2 - 1 + 1).toNat = (A (67 + 12 * a2.toNat)).toNat by omega]
  exact rl.2.2.2.symm
