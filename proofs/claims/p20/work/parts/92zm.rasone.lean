theorem u_bh_back {W : Nat → Int} {i o o' : Int} {X : Nat} (h : u_bh W (7 - i.toNat) o i.toNat = X) (i0 : 0 ≤ i) (i7 : i < 7) (ho : 0 < o) (e : o' = o + y_c9 (W i.toNat) - 1) : u_bh W (7 - (i + 1).toNat) o' (i + 1).toNat = X := by
  rw [show 7 - i.toNat = (6 - i.toNat) + 1 by omega, u_bh_s ho] at h
  rw [show (i + 1).toNat = i.toNat + 1 by omega, show 7 - (i.toNat + 1) = 6 - i.toNat by omega, e]
  exact h
/-- a place, as the reference holds it -/
def u_ok (A l : Nat → Int) (n : Nat) (v r i : Int) : Prop := (0 ≤ v ∧ v < n) ∧ (0 ≤ r ∧ r < A 62) ∧ (0 ≤ i ∧ i < A (67 + 12 * r.toNat)) ∧ A (65 + 12 * r.toNat) = l v.toNat
theorem u_D_ok {A l : Nat → Int} {n : Nat} {x : Int} (h : u_D A l n x) : u_ok A l n (u_nd x) (u_rl x) (u_pi x) := by
  obtain ⟨h0, h1, h2, h3, h4, _⟩ := h
  have e := u_pl_x x
  exact ⟨⟨e.2.2.2.1 h0, h1⟩, ⟨e.2.1.1, h2⟩, ⟨e.2.2.1.1, h4⟩, h3⟩
theorem u_at_l {A l P V : Nat → Int} {n : Nat} {v r i : Int} (hP : y_PI A) (h : u_ok A l n v r i) (h9 : ¬ 9 < A (68 + 12 * r.toNat + i.toNat)) : u_at A l P V v r i = u_pl v r i ∧ u_nd (u_pl v r i) = v ∧ u_rl (u_pl v r i) = r ∧ u_pi (u_pl v r i) = i ∧ u_D A l n (u_pl v r i) := by
  obtain ⟨hv, hr, hi, hl⟩ := h
  have h62 := hP.2.2.2.1
  have p7 := y_PI_pc hP (r := r.toNat) (by omega)
  have pc := w_pc hP hr.1 hr.2 hi.1 hi.2
  obtain ⟨e1, e2, e3⟩ := u_pl_e (v := v) (r := r) (i := i) (by omega) (by omega) (by omega) (by omega)
  have x0 := (u_pl_x (u_pl v r i)).2.2.2.2.1 (by omega)
  refine ⟨by unfold u_at; rw [if_neg h9], e1, e2, e3, x0, by omega, by omega, ?_, ?_, ?_⟩
  · rw [e1, e2]; exact hl
  · rw [e2, e3]; exact hi.2
  · show A (68 + 12 * (u_rl (u_pl v r i)).toNat + (u_pi (u_pl v r i)).toNat) ≤ 4
    rw [e2, e3]
    omega
/-- a node that is begun -/
theorem u_at_c {A l P V : Nat → Int} {n : Nat} {v r i y : Int} (hP : y_PI A) (tr : y_tr l n) (ms : y_ms A 0 l n P V) (n11 : n ≤ 11) (h9 : 9 < A (68 + 12 * r.toNat + i.toNat)) (hy : y = w_bl P v (w_ch A 0 (l v.toNat) (A (68 + 12 * r.toNat + i.toNat)))) (y0 : 0 ≤ y) (y1 : y < n) : (y_sel A 0 ((A (68 + 12 * r.toNat + i.toNat) - 10) / 2) (l y.toNat) (V y.toNat) (A 62).toNat < 0 → u_at A l P V v r i = -10 - y) ∧ (0 ≤ y_sel A 0 ((A (68 + 12 * r.toNat + i.toNat) - 10) / 2) (l y.toNat) (V y.toNat) (A 62).toNat → u_ok A l n y (y_sel A 0 ((A (68 + 12 * r.toNat + i.toNat) - 10) / 2) (l y.toNat) (V y.toNat) (A 62).toNat) 0 ∧ u_at A l P V y (y_sel A 0 ((A (68 + 12 * r.toNat + i.toNat) - 10) / 2) (l y.toNat) (V y.toNat) (A 62).toNat) 0 = u_at A l P V v r i) := by
  have e : u_at A l P V v r i = u_mk A l P V (10 + 1) ((A (68 + 12 * r.toNat + i.toNat) - 10) / 2) y := by
    unfold u_at
    rw [if_pos h9, ← hy]
  rw [e, u_mk_q]
  refine ⟨fun s => by rw [if_pos s], fun s => ?_⟩
  have ns : ¬ y_sel A 0 ((A (68 + 12 * r.toNat + i.toNat) - 10) / 2) (l y.toNat) (V y.toNat) (A 62).toNat < 0 := by omega
  have ws := w_sel ns
  rw [if_neg ns]
  generalize y_sel A 0 ((A (68 + 12 * r.toNat + i.toNat) - 10) / 2) (l y.toNat) (V y.toNat) (A 62).toNat = s at ws ⊢
  have h62 := hP.2.2.2.1
  have p7 := y_PI_pc hP (r := s.toNat) (by omega)
  refine ⟨⟨⟨y0, y1⟩, ⟨ws.1, ws.2.1⟩, ⟨by omega, by omega⟩, ws.2.2⟩, ?_⟩
  have pc := w_pc hP (r := s) (i := 0) (by omega) (by omega) (by omega) (by omega)
  unfold u_at
  rw [show 68 + 12 * s.toNat + (0 : Int).toNat = 68 + 12 * s.toNat by omega] at pc ⊢
  rw [ws.2.2] at pc
  by_cases c : 9 < A (68 + 12 * s.toNat)
  · rw [if_pos c, if_pos c]
    have ch := w_ch_ok (A := A) (p := 0) pc c
    have xb := w_blS tr ms ⟨y0, y1⟩ ch
    have xg : y < w_bl P y (w_ch A 0 (l y.toNat) (A (68 + 12 * s.toNat))) := by
      rcases (w_GS (A := A) (by omega) tr ms).2 y _ ⟨y0, y1⟩ ch with h | h
      · omega
      · exact h.2
    exact u_mk_f hP tr ms n11 _ _ _ _ xb.1 xb.2 (by omega) (by omega)
  · rw [if_neg c, if_neg c]
theorem u_mk_b {A l P V : Nat → Int} {n : Nat} {q y : Int} (hP : y_PI A) (tr : y_tr l n) (ms : y_ms A 0 l n P V) (n11 : n ≤ 11) (y0 : 0 ≤ y) (y1 : y < n) : (y_sel A 0 q (l y.toNat) (V y.toNat) (A 62).toNat < 0 → u_mk A l P V 11 q y = -10 - y) ∧ (0 ≤ y_sel A 0 q (l y.toNat) (V y.toNat) (A 62).toNat → u_ok A l n y (y_sel A 0 q (l y.toNat) (V y.toNat) (A 62).toNat) 0 ∧ u_at A l P V y (y_sel A 0 q (l y.toNat) (V y.toNat) (A 62).toNat) 0 = u_mk A l P V 11 q y) := by
  rw [show u_mk A l P V 11 q y = u_mk A l P V (10 + 1) q y from rfl, u_mk_q]
  refine ⟨fun s => by rw [if_pos s], fun s => ?_⟩
  have ns : ¬ y_sel A 0 q (l y.toNat) (V y.toNat) (A 62).toNat < 0 := by omega
  have ws := w_sel ns
  rw [if_neg ns]
  generalize y_sel A 0 q (l y.toNat) (V y.toNat) (A 62).toNat = s at ws ⊢
  have h62 := hP.2.2.2.1
  have p7 := y_PI_pc hP (r := s.toNat) (by omega)
  refine ⟨⟨⟨y0, y1⟩, ⟨ws.1, ws.2.1⟩, ⟨by omega, by omega⟩, ws.2.2⟩, ?_⟩
  have pc := w_pc hP (r := s) (i := 0) (by omega) (by omega) (by omega) (by omega)
  unfold u_at
  rw [show 68 + 12 * s.toNat + (0 : Int).toNat = 68 + 12 * s.toNat by omega] at pc ⊢
  rw [ws.2.2] at pc
  by_cases c : 9 < A (68 + 12 * s.toNat)
  · rw [if_pos c, if_pos c]
    have ch := w_ch_ok (A := A) (p := 0) pc c
    have xb := w_blS tr ms ⟨y0, y1⟩ ch
    have xg : y < w_bl P y (w_ch A 0 (l y.toNat) (A (68 + 12 * s.toNat))) := by
      rcases (w_GS (A := A) (by omega) tr ms).2 y _ ⟨y0, y1⟩ ch with h | h
      · omega
      · exact h.2
    exact u_mk_f hP tr ms n11 _ _ _ _ xb.1 xb.2 (by omega) (by omega)
  · rw [if_neg c, if_neg c]
/-- the reference's walk as one stands as the machine -/
def y_RU (τ : x_S) : w_C → Prop
  | (d, a, r, i, o, u, _) => τ 138 14 = d ∧ (∀ j, j < d → τ 148 j = r j ∧ τ 149 j = i j ∧ τ 150 j = u_nd (a j) ∧ τ 153 j = u_pi (a j) ∧ τ 154 j = u_rl (a j)) ∧ τ 138 18 = o ∧ ∀ j, j < o → τ 151 j = u j
def y_RF (τ : x_S) (h : Int) : Int × w_C → Prop
  | (s, (_, _, _, _, o, u, _)) => ((s = 0 ∧ h = 0) ∨ (s = -3 ∧ h = 2) ∨ (s ≤ -10 ∧ -49 ≤ s ∧ h = 1 ∧ τ 138 21 = -10 - s)) ∧ τ 138 18 = o ∧ o ≤ 40 ∧ ∀ j, j < o → τ 151 j = u j
theorem rx_196_b4 {E : q_E} {σ : x_S} {Q : Option q_V → x_S → Prop} {a1 a2 : Int} (a1l : 0 ≤ a1) (a1h : a1 ≤ 15) (a2l : 0 ≤ a2) (a2h : a2 ≤ 6) (rq0 : 0 ≤ a1 ∧ a1 < σ 140 62) (rq1 : a2 < σ 140 (67 + 12 * a1.toNat)) (hP : y_PI (σ 140)) (k : ∀ v, 0 ≤ v → v ≤ 7 → v = (u_B (σ 140) a1.toNat a2.toNat : Int) → Q (some (x_I v)) σ) : ∀ (N : Nat) (o i : Int), (7 - i).toNat = N → 0 ≤ o → o ≤ 9 → 0 ≤ i → i ≤ 7 → a2 ≤ i → i ≤ σ 140 (67 + 12 * a1.toNat) → o ≤ i - a2 + 1 → o = y_op (u_W (σ 140) a1.toNat) i.toNat - (y_op (u_W (σ 140) a1.toNat) a2.toNat - 1) → u_bh (u_W (σ 140) a1.toNat) (7 - i.toNat) o i.toNat = u_B (σ 140) a1.toNat a2.toNat → x_G E m_196 Q (t_196 4) [(0, x_R 138), (1, x_I a1), (3, x_I o), (4, x_I i)] [] σ := by
  have ru := hP.2.2.2.1
  have kd := hP.1
  obtain ⟨pb, pp, pz⟩ := u_rw hP (r := a1.toNat) (by omega)
  have pa := pp a2.toNat (by omega)
  have e67 : σ 140 (63 + 12 * a1.toNat + 4) = σ 140 (67 + 12 * a1.toNat) := congrArg _ (by omega)
  intro N
  induction N using Nat.strongRecOn with
  | ind N ih =>
    intro o i hN oL oH iL iH ex0 ex1 ex2 ex3 ex4
    refine x_blk (b := 4) (a_196 E) rfl ?_
    unfold b_196_4
    refine x_iload rfl ?_
    refine x_if_le (by omega) (by omega) (fun z1 => ?_) (fun z1 => ?_)
    · skip
      refine x_blk (b := 1) (a_196 E) rfl ?_
      unfold b_196_1
      refine x_iload rfl ?_
      refine x_iret ?_
      exact k _ (by omega) (by omega) (by rw [← ex4, u_bh_t (by omega)]; omega)
    · skip
      have hlt : i < σ 140 (67 + 12 * a1.toNat) := by
        by_cases e : i.toNat = (σ 140 (67 + 12 * a1.toNat)).toNat
        · rw [e, pz] at ex3; omega
        · omega
      refine x_aload rfl ?_
      refine x_iload rfl ?_
      refine x_push 5 rfl ?_
      refine x_iload rfl ?_
      refine x_iadd ?_
      refine x_cV (fun _ => rfl) rfl (by decide) (Nat.le_of_ble_eq_true rfl) ?_
      refine rf_3_p y_rf_rf hP (by omega) (by omega) (by omega) (by omega) (fun v2 v2a v2b v2c v2d v2e => ?_)
      have hw : u_W (σ 140) a1.toNat i.toNat = v2 := (v2d.trans (congrArg _ (by omega))).symm
      have c9 := y_c9v v2
      have c9w : y_c9 (u_W (σ 140) a1.toNat i.toNat) = y_c9 v2 := by rw [hw]
      have hy := y_op_s (u_W (σ 140) a1.toNat) i.toNat
      have en : (i + 1).toNat = i.toNat + 1 := by omega
      rw [← en] at hy
      refine x_istore ?_
      refine x_iload rfl ?_
      refine x_iload rfl ?_
      refine x_push 9 rfl ?_
      refine x_icmp_le (by omega) (by omega) (by omega) (by omega) (fun z3 => ?_) (fun z3 => ?_)
      · skip
        refine x_blk (b := 2) (a_196 E) rfl ?_
        unfold b_196_2
        refine x_iload rfl ?_
        refine x_cS (fun _ => rfl) (Nat.le_of_ble_eq_true rfl) ?_
        refine rs_0 (by omega) (by omega) (fun v4 v4a v4b v4c => ?_)
        refine x_push 1 rfl ?_
        refine x_isub ?_
        refine x_fall ?_
        refine x_blk (b := 3) (a_196 E) rfl ?_
        unfold b_196_3
        refine x_iadd ?_
        refine x_istore ?_
        refine x_X_lo (lo' := [(0, x_R 138), (1, x_I _), (3, x_I _), (4, x_I _), (5, x_I _)]) ⟨rfl, rfl, rfl, rfl, rfl, trivial⟩ ?_
        refine x_iinc 1 rfl rfl ?_
        refine x_goto ?_
        refine x_G_lo (lo' := [(0, x_R 138), (1, x_I _), (3, x_I _), (4, x_I _)]) ⟨rfl, rfl, rfl, rfl, trivial⟩ ?_
        exact ih _ (by omega) _ _  rfl (by omega) (by omega) (by omega) (by omega) (by omega) (by omega) (by omega) (by omega) (by first | rfl | exact u_bh_back ex4 (by omega) (by omega) (by omega) (by omega)) 
      · skip
        refine x_push (-1) rfl ?_
        refine x_goto ?_
        refine x_blk (b := 3) (a_196 E) rfl ?_
        unfold b_196_3
        refine x_iadd ?_
        refine x_istore ?_
        refine x_X_lo (lo' := [(0, x_R 138), (1, x_I _), (3, x_I _), (4, x_I _), (5, x_I _)]) ⟨rfl, rfl, rfl, rfl, rfl, trivial⟩ ?_
        refine x_iinc 1 rfl rfl ?_
        refine x_goto ?_
        refine x_G_lo (lo' := [(0, x_R 138), (1, x_I _), (3, x_I _), (4, x_I _)]) ⟨rfl, rfl, rfl, rfl, trivial⟩ ?_
        exact ih _ (by omega) _ _  rfl (by omega) (by omega) (by omega) (by omega) (by omega) (by omega) (by omega) (by omega) (by first | rfl | exact u_bh_back ex4 (by omega) (by omega) (by omega) (by omega)) 
theorem rx_196 {E : q_E} {σ : x_S} {Q : Option q_V → x_S → Prop} {a1 a2 : Int} (a1l : 0 ≤ a1) (a1h : a1 ≤ 15) (a2l : 0 ≤ a2) (a2h : a2 ≤ 6) (rq0 : 0 ≤ a1 ∧ a1 < σ 140 62) (rq1 : a2 < σ 140 (67 + 12 * a1.toNat)) (hP : y_PI (σ 140)) (k : ∀ v, 0 ≤ v → v ≤ 7 → v = (u_B (σ 140) a1.toNat a2.toNat : Int) → Q (some (x_I v)) σ) : x_P E 196 [x_R 138, x_I a1, x_I a2] σ Q := by
  have ru := hP.2.2.2.1
  have kd := hP.1
  obtain ⟨pb, pp, pz⟩ := u_rw hP (r := a1.toNat) (by omega)
  have pa := pp a2.toNat (by omega)
  have e67 : σ 140 (63 + 12 * a1.toNat + 4) = σ 140 (67 + 12 * a1.toNat) := congrArg _ (by omega)
  refine x_Mt e_196 (h_196 E) (Nat.le_of_ble_eq_true rfl) t_196 rfl ?_
  refine x_blk (b := 0) (a_196 E) rfl ?_
  unfold b_196_0
  refine x_push 1 rfl ?_
  refine x_istore ?_
  refine x_iload rfl ?_
  refine x_istore ?_
  refine x_X_lo (lo' := [(0, x_R 138), (1, x_I _), (2, x_I _), (3, x_I _), (4, x_I _)]) ⟨rfl, rfl, rfl, rfl, rfl, trivial⟩ ?_
  refine x_fall ?_
  refine x_G_lo (lo' := [(0, x_R 138), (1, x_I _), (3, x_I _), (4, x_I _)]) ⟨rfl, rfl, rfl, rfl, trivial⟩ ?_
  exact rx_196_b4 a1l a1h a2l a2h rq0 rq1 hP k  _ _ _  rfl (by omega) (by omega) (by omega) (by omega) (by omega) (by omega) (by omega) (by omega) (by first | rfl | exact u_bh_back ex4 (by omega) (by omega) (by omega) (by omega)) 
theorem rx_117 {E : q_E} {σ σ0 : x_S} {Q : Option q_V → x_S → Prop} {a1 a2 : Int} (a1l : -2147483648 ≤ a1) (a1h : a1 ≤ 2147483647) (a2l : 0 ≤ a2)  (B : y_bs σ0 σ) (hP : y_PI (σ0 140)) {n : Nat} {l P V : Nat → Int} (n11 : n ≤ 11) (tr : y_tr l n) (ms : y_ms (σ0 140) 0 l n P V) (gr : ∀ v, v < n → σ0 145 v = l v ∧ σ0 146 v = P v ∧ σ0 147 v = V v) (a2h : a2 < n) (k1 : ∀ τ : x_S, y_us σ τ → τ 138 26 = a2 → τ 138 25 = 0 → τ 138 24 = y_sel (σ0 140) 0 a1 (l a2.toNat) (V a2.toNat) (σ0 140 62).toNat → 0 ≤ y_sel (σ0 140) 0 a1 (l a2.toNat) (V a2.toNat) (σ0 140 62).toNat → τ 138 21 = a2 → Q (some (x_I 1)) τ) (k0 : ∀ τ, y_us σ τ → y_sel (σ0 140) 0 a1 (l a2.toNat) (V a2.toNat) (σ0 140 62).toNat < 0 → τ 138 21 = a2 → Q (some (x_I 0)) τ) : x_P E 117 [x_R 138, x_I a1, x_I a2] σ Q := by
  have ru := hP.2.2.2.1
  have kd := hP.1
  have F0 := y_bs_F B
  have l5 : ∀ m, σ 145 m = σ0 145 m := y_sm_a B 145 (by decide) (by decide)
  have l6 : ∀ m, σ 146 m = σ0 146 m := y_sm_a B 146 (by decide) (by decide)
  have l7 : ∀ m, σ 147 m = σ0 147 m := y_sm_a B 147 (by decide) (by decide)
  have h62 := hP.2.2.2.1
  refine x_Mt e_117 (h_117 E) (Nat.le_of_ble_eq_true rfl) t_117 rfl ?_
  refine x_blk (b := 0) (a_117 E) rfl ?_
  unfold b_117_0
  refine x_aload rfl ?_
  refine x_iload rfl ?_
  refine x_put138 (by decide) rfl ⟨by decide, rfl⟩ (by decide) F0 (by omega) (by omega) (fun S1 e1 F1 => ?_)
  refine x_aload rfl ?_
  refine x_aload rfl ?_
  refine x_push 0 rfl ?_
  refine x_iload rfl ?_
  refine x_aload rfl ?_
  refine x_getR (r := 138) rfl (by decide) (by decide) rfl ?_
  refine x_iload rfl ?_
  refine x_iald (r := 145) (n := 40) (m := a2.toNat) rfl rfl (by decide) (fun _ => rfl) (by omega) (by omega) (by omega) ?_
  have q2_0 : S1 145 (a2.toNat) = σ 145 (a2.toNat) := x_up_nr e1 (by decide)
  rw [q2_0]
  rw [l5, (gr a2.toNat (by omega)).1]
  intro g2a g2b
  refine x_aload rfl ?_
  refine x_getR (r := 138) rfl (by decide) (by decide) rfl ?_
  refine x_iload rfl ?_
  refine x_iald (r := 147) (n := 40) (m := a2.toNat) rfl rfl (by decide) (fun _ => rfl) (by omega) (by omega) (by omega) ?_
  have q3_0 : S1 147 (a2.toNat) = σ 147 (a2.toNat) := x_up_nr e1 (by decide)
  rw [q3_0]
  rw [l7, (gr a2.toNat (by omega)).2.2]
  intro g3a g3b
  refine x_cV (fun _ => rfl) rfl (by decide) (Nat.le_of_ble_eq_true rfl) ?_
  refine rx_18 (by omega) (by omega) (by omega) (by omega) (by omega) (by omega) (by omega) (by omega) (y_rf_P F1 hP) (fun v4 v4a v4b k4_0 => ?_)
  have n0 : S1 140 = σ0 140 := funext fun z => y_rf_n F1 z
  have kse := k4_0
  rw [n0] at kse
  have sb : v4 = -4 ∨ 0 ≤ v4 := by
    rcases y_sel_b (A := σ0 140) (p := 0) (q := a1) (f := l a2.toNat) (l := V a2.toNat) (n := (σ0 140 62).toNat) with h | h
    · exact Or.inl (kse.trans h)
    · exact Or.inr (kse ▸ h.1)
  refine x_put138 (by decide) rfl ⟨by decide, rfl⟩ (by decide) F1 (by omega) (by omega) (fun S5 e5 F5 => ?_)
  refine x_aload rfl ?_
  refine x_push 0 rfl ?_
  refine x_put138 (by decide) rfl ⟨by decide, rfl⟩ (by decide) F5 (by omega) (by omega) (fun S6 e6 F6 => ?_)
  refine x_aload rfl ?_
  refine x_iload rfl ?_
  refine x_put138 (by decide) rfl ⟨by decide, rfl⟩ (by decide) F6 (by omega) (by omega) (fun S7 e7 F7 => ?_)
  refine x_aload rfl ?_
  refine x_getI (r := 138) rfl (by decide) (by decide) (by decide) rfl ?_
  have q8_0 : S7 138 24 = S6 138 24 := x_up_ne e7 (by omega)
  have q8_1 : S6 138 24 = S5 138 24 := x_up_ne e6 (by omega)
  simp only [q8_0, q8_1]
  have w8 := x_up_at e5
  intro g8a g8b
  refine x_push (-4) rfl ?_
  refine x_icmp_eq (by omega) (by omega) (by omega) (by omega) (fun z9 => ?_) (fun z9 => ?_)
  · skip
    refine x_blk (b := 1) (a_117 E) rfl ?_
    unfold b_117_1
    refine x_push 0 rfl ?_
    refine x_fall ?_
    refine x_blk (b := 2) (a_117 E) rfl ?_
    unfold b_117_2
    refine x_zret (by decide) ?_
    exact k0 _ (y_sm_tr (y_sm_tr (y_sm_tr (y_sm_tr y_sm_rf (y_sm_e e1 (Or.inr ⟨rfl, by decide⟩))) (y_sm_e e5 (Or.inr ⟨rfl, by decide⟩))) (y_sm_e e6 (Or.inr ⟨rfl, by decide⟩))) (y_sm_e e7 (Or.inr ⟨rfl, by decide⟩))) (by omega) (x_up_at e7)
  · skip
    refine x_push 1 rfl ?_
    refine x_goto ?_
    refine x_blk (b := 2) (a_117 E) rfl ?_
    unfold b_117_2
    refine x_zret (by decide) ?_
    refine k1 _ (y_sm_tr (y_sm_tr (y_sm_tr (y_sm_tr y_sm_rf (y_sm_e e1 (Or.inr ⟨rfl, by decide⟩))) (y_sm_e e5 (Or.inr ⟨rfl, by decide⟩))) (y_sm_e e6 (Or.inr ⟨rfl, by decide⟩))) (y_sm_e e7 (Or.inr ⟨rfl, by decide⟩))) ?_ ?_ ?_ (by omega) (x_up_at e7)
    · rw [x_up_ne e7 (by decide), x_up_ne e6 (by decide), x_up_ne e5 (by decide), x_up_at e1]
    · rw [x_up_ne e7 (by decide), x_up_at e6]
    · rw [x_up_ne e7 (by decide), x_up_ne e6 (by decide), x_up_at e5]; exact kse
theorem rx_195_b0 {E : q_E} {σ σ0 : x_S} {Q : Option q_V → x_S → Prop} (B : y_bs σ0 σ) (hP : y_PI (σ0 140)) {n : Nat} {l P V : Nat → Int} (n11 : n ≤ 11) (tr : y_tr l n) (ms : y_ms (σ0 140) 0 l n P V) (gr : ∀ v, v < n → σ0 145 v = l v ∧ σ0 146 v = P v ∧ σ0 147 v = V v) (un : u_ok (σ0 140) l n (σ 138 26) (σ 138 24) (σ 138 25)) {X : Int} (hX : u_at (σ0 140) l P V (σ 138 26) (σ 138 24) (σ 138 25) = X) (k1 : ∀ τ, y_us σ τ → u_D (σ0 140) l n X → τ 138 26 = u_nd X → τ 138 24 = u_rl X → τ 138 25 = u_pi X → Q (some (x_I 1)) τ) (k0 : ∀ τ, y_us σ τ → X < 0 → X ≤ -10 → -49 ≤ X → τ 138 21 = -10 - X → Q (some (x_I 0)) τ) : ∀ (N : Nat) (τ : x_S), (40 - τ 138 26).toNat = N → y_bs σ0 τ → y_us σ τ → u_ok (σ0 140) l n (τ 138 26) (τ 138 24) (τ 138 25) → u_at (σ0 140) l P V (τ 138 26) (τ 138 24) (τ 138 25) = X → x_G E m_195 Q (t_195 0) [(0, x_R 138)] [] τ := by
  have ru := hP.2.2.2.1
  have kd := hP.1
  have F0 := y_bs_F B
  have l5 : ∀ m, σ 145 m = σ0 145 m := y_sm_a B 145 (by decide) (by decide)
  have l6 : ∀ m, σ 146 m = σ0 146 m := y_sm_a B 146 (by decide) (by decide)
  have l7 : ∀ m, σ 147 m = σ0 147 m := y_sm_a B 147 (by decide) (by decide)
  have h62 := hP.2.2.2.1
  intro N
  induction N using Nat.strongRecOn with
  | ind N ih =>
    intro τ hN Bt hu hun hXt
    have F := y_bs_F Bt
    have t5 : ∀ m, τ 145 m = σ0 145 m := y_sm_a Bt 145 (by decide) (by decide)
    have t6 : ∀ m, τ 146 m = σ0 146 m := y_sm_a Bt 146 (by decide) (by decide)
    obtain ⟨⟨u5, u6⟩, ⟨u1, u2⟩, ⟨u3, u4⟩, u7⟩ := id hun
    have p7 := y_PI_pc hP (r := (τ 138 24).toNat) (by omega)
    have e67 : σ0 140 (63 + 12 * (τ 138 24).toNat + 4) = σ0 140 (67 + 12 * (τ 138 24).toNat) := congrArg _ (by omega)
    have e65 : σ0 140 (63 + 12 * (τ 138 24).toNat + 2) = σ0 140 (65 + 12 * (τ 138 24).toNat) := congrArg _ (by omega)
    have tl := tr.1 (τ 138 26).toNat (by omega)
    refine x_blk (b := 0) (a_195 E) rfl ?_
    unfold b_195_0
    refine x_aload rfl ?_
    refine x_aload rfl ?_
    refine x_getI (r := 138) rfl (by decide) (by decide) (by decide) rfl ?_
    intro g1a g1b
    refine x_push 5 rfl ?_
    refine x_aload rfl ?_
    refine x_getI (r := 138) rfl (by decide) (by decide) (by decide) rfl ?_
    intro g2a g2b
    refine x_iadd ?_
    refine x_cV (fun _ => rfl) rfl (by decide) (Nat.le_of_ble_eq_true rfl) ?_
    refine rf_3_p F hP (by omega) (by omega) (by omega) (by omega) (fun v3 v3a v3b v3c v3d v3e => ?_)
    have pe0 : v3 = σ0 140 (68 + 12 * (τ 138 24).toNat + (τ 138 25).toNat) := v3d.trans (congrArg _ (by omega))
    refine x_push 9 rfl ?_
    refine x_icmp_le (by omega) (by omega) (by omega) (by omega) (fun z4 => ?_) (fun z4 => ?_)
    · skip
      refine x_blk (b := 1) (a_195 E) rfl ?_
      unfold b_195_1
      refine x_push 1 rfl ?_
      refine x_zret (by decide) ?_
      obtain ⟨al, a1, a2, a3, a4⟩ := u_at_l (P := P) (V := V) hP hun (by omega)
      rw [al] at hXt
      rw [hXt] at a1 a2 a3 a4
      exact k1 τ hu a4 a1.symm a2.symm a3.symm
    · skip
      refine x_aload rfl ?_
      refine x_aload rfl ?_
      refine x_getI (r := 138) rfl (by decide) (by decide) (by decide) rfl ?_
      intro g5a g5b
      refine x_push 5 rfl ?_
      refine x_aload rfl ?_
      refine x_getI (r := 138) rfl (by decide) (by decide) (by decide) rfl ?_
      intro g6a g6b
      refine x_iadd ?_
      refine x_cV (fun _ => rfl) rfl (by decide) (Nat.le_of_ble_eq_true rfl) ?_
      refine rf_3_p F hP (by omega) (by omega) (by omega) (by omega) (fun v7 v7a v7b v7c v7d v7e => ?_)
      have pe : v7 = σ0 140 (68 + 12 * (τ 138 24).toNat + (τ 138 25).toNat) := v7d.trans (congrArg _ (by omega))
      refine x_istore ?_
      refine x_aload rfl ?_
      refine x_push 0 rfl ?_
      refine x_aload rfl ?_
      refine x_getR (r := 138) rfl (by decide) (by decide) rfl ?_
      refine x_aload rfl ?_
      refine x_getI (r := 138) rfl (by decide) (by decide) (by decide) rfl ?_
      intro g8a g8b
      refine x_iald (r := 145) (n := 40) (m := (τ 138 26).toNat) rfl rfl (by decide) (fun _ => rfl) (by omega) (by omega) (by omega) ?_
      rw [t5, (gr (τ 138 26).toNat (by omega)).1]
      intro g9a g9b
      refine x_iload rfl ?_
      refine x_cV (fun _ => rfl) rfl (by decide) (Nat.le_of_ble_eq_true rfl) ?_
      refine rx_32 (by omega) (by omega) (by omega) (by omega) (by omega) (by omega) (y_rf_P F hP) (fun y10 => ?_) (fun y10 => ?_)
      · skip
        refine x_if_eq (by omega) (by omega) (fun z => absurd z (by omega)) (fun z11 => ?_)
        have mc := y_mp_c tr ms (v := (τ 138 26).toNat) (by omega) (by omega) (by omega)
        refine x_aload rfl ?_
        refine x_getR (r := 138) rfl (by decide) (by decide) rfl ?_
        refine x_aload rfl ?_
        refine x_getI (r := 138) rfl (by decide) (by decide) (by decide) rfl ?_
        intro g12a g12b
        refine x_push 1 rfl ?_
        refine x_iadd ?_
        refine x_iald (r := 146) (n := 40) (m := (τ 138 26).toNat + 1) rfl rfl (by decide) (fun _ => rfl) (by omega) (by omega) (by omega) ?_
        rw [t6, (gr ((τ 138 26).toNat + 1) (by omega)).2.1]
        intro g13a g13b
        have n1 := y_rf_n F (0 : Int).toNat
        have cw := w_ch_1 (A := σ0 140) (p := 0) (f := l (τ 138 26).toNat) (z := v7) (by omega) (by omega)
        obtain ⟨x, hx⟩ : ∃ x : Int, x = w_bl P (τ 138 26) (w_ch (σ0 140) 0 (l (τ 138 26).toNat) v7) := ⟨_, rfl⟩
        have chk := w_ch_ok (A := σ0 140) (p := 0) (f := l (τ 138 26).toNat) (z := v7) (by omega) (by omega)
        have xb : 0 ≤ x ∧ x < n := by rw [hx]; exact w_blS tr ms ⟨by omega, by omega⟩ chk
        have xg : τ 138 26 < x := by
          rw [hx]
          rcases (w_GS (A := σ0 140) (by omega) tr ms).2 (τ 138 26) _ ⟨by omega, by omega⟩ chk with h | h
          · have := w_blS tr ms (x := τ 138 26) ⟨by omega, by omega⟩ chk; omega
          · exact h.2
        have xe : P ((τ 138 26).toNat + 1) = x := by
          rw [hx, cw]
          unfold w_bl
          rw [if_neg (by decide), show (τ 138 26 + 1).toNat = (τ 138 26).toNat + 1 by omega]
        have ac := u_at_c (A := σ0 140) (v := τ 138 26) (r := τ 138 24) (i := τ 138 25) (y := x) hP tr ms n11 (by omega) (by rw [hx, pe]) xb.1 xb.2
        rw [← pe] at ac
        rw [xe]
        refine x_goto ?_
        refine x_blk (b := 3) (a_195 E) rfl ?_
        unfold b_195_3
        refine x_istore ?_
        refine x_X_lo (lo' := [(0, x_R 138), (1, x_I _), (2, x_I _)]) ⟨rfl, rfl, rfl, trivial⟩ ?_
        refine x_aload rfl ?_
        refine x_iload rfl ?_
        refine x_push 10 rfl ?_
        refine x_isub ?_
        refine x_push 2 rfl ?_
        refine x_idiv (by omega) (by omega) (by omega) (by omega) ?_
        refine x_iload rfl ?_
        refine x_cV (fun _ => rfl) rfl (by decide) (Nat.le_of_ble_eq_true rfl) ?_
        refine rx_117 (by omega) (by omega) (by omega) Bt hP n11 tr ms gr (by omega) (fun S14 f14 ra14 rb14 rc14 rd14 re14 => ?_) (fun S14 f14 rd14 re14 => ?_)
        · skip
          have B14 := y_bs_us Bt f14
          have F14 := y_bs_F B14
          refine x_if_ne (by omega) (by omega) (fun z => absurd z (by omega)) (fun z15 => ?_)
          refine x_blk (b := 4) (a_195 E) rfl ?_
          unfold b_195_4
          refine x_goto ?_
          refine x_G_lo (lo' := [(0, x_R 138)]) ⟨rfl, trivial⟩ ?_
          have ac2 := ac.2 rd14
          refine ih _ (by omega) S14 rfl B14 (y_sm_tr hu f14) ?_ ?_
          · rw [ra14, rb14, rc14]; exact ac2.1
          · rw [ra14, rb14, rc14, ac2.2]; exact hXt
        · skip
          have B14 := y_bs_us Bt f14
          have F14 := y_bs_F B14
          refine x_if_ne (by omega) (by omega) (fun z16 => ?_) (fun z => absurd (by omega) z)
          refine x_push 0 rfl ?_
          refine x_zret (by decide) ?_
          have ac1 := ac.1 rd14
          rw [hXt] at ac1
          exact k0 _ (y_sm_tr hu f14) (by omega) (by omega) (by omega) (by omega)
      · skip
        refine x_if_eq (by omega) (by omega) (fun z17 => ?_) (fun z => absurd (by omega) z)
        refine x_blk (b := 2) (a_195 E) rfl ?_
        unfold b_195_2
        refine x_aload rfl ?_
        refine x_getI (r := 138) rfl (by decide) (by decide) (by decide) rfl ?_
        intro g18a g18b
        refine x_push 1 rfl ?_
        refine x_iadd ?_
        have n1 := y_rf_n F (0 : Int).toNat
        have cw := w_ch_0 (A := σ0 140) (p := 0) (f := l (τ 138 26).toNat) (z := v7) (by omega) (by omega)
        obtain ⟨x, hx⟩ : ∃ x : Int, x = w_bl P (τ 138 26) (w_ch (σ0 140) 0 (l (τ 138 26).toNat) v7) := ⟨_, rfl⟩
        have chk := w_ch_ok (A := σ0 140) (p := 0) (f := l (τ 138 26).toNat) (z := v7) (by omega) (by omega)
        have xb : 0 ≤ x ∧ x < n := by rw [hx]; exact w_blS tr ms ⟨by omega, by omega⟩ chk
        have xg : τ 138 26 < x := by
          rw [hx]
          rcases (w_GS (A := σ0 140) (by omega) tr ms).2 (τ 138 26) _ ⟨by omega, by omega⟩ chk with h | h
          · have := w_blS tr ms (x := τ 138 26) ⟨by omega, by omega⟩ chk; omega
          · exact h.2
        have xe : τ 138 26 + 1 = x := by
          rw [hx, cw]
          unfold w_bl
          rw [if_pos rfl]
        have ac := u_at_c (A := σ0 140) (v := τ 138 26) (r := τ 138 24) (i := τ 138 25) (y := x) hP tr ms n11 (by omega) (by rw [hx, pe]) xb.1 xb.2
        rw [← pe] at ac
        rw [xe]
        refine x_fall ?_
        refine x_blk (b := 3) (a_195 E) rfl ?_
        unfold b_195_3
        refine x_istore ?_
        refine x_X_lo (lo' := [(0, x_R 138), (1, x_I _), (2, x_I _)]) ⟨rfl, rfl, rfl, trivial⟩ ?_
        refine x_aload rfl ?_
        refine x_iload rfl ?_
        refine x_push 10 rfl ?_
        refine x_isub ?_
        refine x_push 2 rfl ?_
        refine x_idiv (by omega) (by omega) (by omega) (by omega) ?_
        refine x_iload rfl ?_
        refine x_cV (fun _ => rfl) rfl (by decide) (Nat.le_of_ble_eq_true rfl) ?_
        refine rx_117 (by omega) (by omega) (by omega) Bt hP n11 tr ms gr (by omega) (fun S19 f19 ra19 rb19 rc19 rd19 re19 => ?_) (fun S19 f19 rd19 re19 => ?_)
        · skip
          have B19 := y_bs_us Bt f19
          have F19 := y_bs_F B19
          refine x_if_ne (by omega) (by omega) (fun z => absurd z (by omega)) (fun z20 => ?_)
          refine x_blk (b := 4) (a_195 E) rfl ?_
          unfold b_195_4
          refine x_goto ?_
          refine x_G_lo (lo' := [(0, x_R 138)]) ⟨rfl, trivial⟩ ?_
          have ac2 := ac.2 rd19
          refine ih _ (by omega) S19 rfl B19 (y_sm_tr hu f19) ?_ ?_
          · rw [ra19, rb19, rc19]; exact ac2.1
          · rw [ra19, rb19, rc19, ac2.2]; exact hXt
        · skip
          have B19 := y_bs_us Bt f19
          have F19 := y_bs_F B19
          refine x_if_ne (by omega) (by omega) (fun z21 => ?_) (fun z => absurd (by omega) z)
          refine x_push 0 rfl ?_
          refine x_zret (by decide) ?_
          have ac1 := ac.1 rd19
          rw [hXt] at ac1
          exact k0 _ (y_sm_tr hu f19) (by omega) (by omega) (by omega) (by omega)
theorem rx_195 {E : q_E} {σ σ0 : x_S} {Q : Option q_V → x_S → Prop} (B : y_bs σ0 σ) (hP : y_PI (σ0 140)) {n : Nat} {l P V : Nat → Int} (n11 : n ≤ 11) (tr : y_tr l n) (ms : y_ms (σ0 140) 0 l n P V) (gr : ∀ v, v < n → σ0 145 v = l v ∧ σ0 146 v = P v ∧ σ0 147 v = V v) (un : u_ok (σ0 140) l n (σ 138 26) (σ 138 24) (σ 138 25)) {X : Int} (hX : u_at (σ0 140) l P V (σ 138 26) (σ 138 24) (σ 138 25) = X) (k1 : ∀ τ, y_us σ τ → u_D (σ0 140) l n X → τ 138 26 = u_nd X → τ 138 24 = u_rl X → τ 138 25 = u_pi X → Q (some (x_I 1)) τ) (k0 : ∀ τ, y_us σ τ → X < 0 → X ≤ -10 → -49 ≤ X → τ 138 21 = -10 - X → Q (some (x_I 0)) τ) : x_P E 195 [x_R 138] σ Q := by
  have ru := hP.2.2.2.1
  have kd := hP.1
  have F0 := y_bs_F B
  have l5 : ∀ m, σ 145 m = σ0 145 m := y_sm_a B 145 (by decide) (by decide)
  have l6 : ∀ m, σ 146 m = σ0 146 m := y_sm_a B 146 (by decide) (by decide)
  have l7 : ∀ m, σ 147 m = σ0 147 m := y_sm_a B 147 (by decide) (by decide)
  have h62 := hP.2.2.2.1
  refine x_Mt e_195 (h_195 E) (Nat.le_of_ble_eq_true rfl) t_195 rfl ?_
  refine x_G_lo (lo' := [(0, x_R 138)]) ⟨rfl, trivial⟩ ?_
  exact rx_195_b0 B hP n11 tr ms gr un hX k1 k0 _ σ rfl B y_sm_rf un hX
theorem rx_194 {E : q_E} {σ σ0 : x_S} {Q : Option q_V → x_S → Prop} {a1 : Int} (a1l : -2147483648 ≤ a1) (a1h : a1 ≤ 2147483647) (B : y_bs σ0 σ) (hP : y_PI (σ0 140)) {n : Nat} {l P V : Nat → Int} (n11 : n ≤ 11) (tr : y_tr l n) (ms : y_ms (σ0 140) 0 l n P V) (gr : ∀ v, v < n → σ0 145 v = l v ∧ σ0 146 v = P v ∧ σ0 147 v = V v) (un : u_ok (σ0 140) l n (σ 138 26) (σ 138 24) (σ 138 25)) {X : Int} (hX : u_at (σ0 140) l P V (σ 138 26) (σ 138 24) (σ 138 25) = X) (hh : 0 ≤ σ 138 14 ∧ σ 138 14 ≤ 127) (k1 : ∀ (τ : x_S), y_sm [148, 149, 150, 153, 154] [14, 21, 24, 25, 26] σ τ → u_D (σ0 140) l n X → 0 ≤ y_sel (σ0 140) 1 a1 (σ0 140 (68 + 12 * (u_rl X).toNat + (u_pi X).toNat)) 2 (σ0 140 62).toNat → τ 138 14 = σ 138 14 + 1 → (∀ r m, r = 148 ∨ r = 149 ∨ r = 150 ∨ r = 153 ∨ r = 154 → m ≠ (σ 138 14).toNat → τ r m = σ r m) → τ 148 (σ 138 14).toNat = y_sel (σ0 140) 1 a1 (σ0 140 (68 + 12 * (u_rl X).toNat + (u_pi X).toNat)) 2 (σ0 140 62).toNat → τ 149 (σ 138 14).toNat = 0 → τ 150 (σ 138 14).toNat = u_nd X → τ 153 (σ 138 14).toNat = u_pi X → τ 154 (σ 138 14).toNat = u_rl X → Q (some (x_I 1)) τ) (k0 : ∀ τ, y_us σ τ → ((X < 0 ∧ X ≤ -10 ∧ -49 ≤ X ∧ τ 138 21 = -10 - X) ∨ (u_D (σ0 140) l n X ∧ y_sel (σ0 140) 1 a1 (σ0 140 (68 + 12 * (u_rl X).toNat + (u_pi X).toNat)) 2 (σ0 140 62).toNat < 0 ∧ τ 138 21 = u_nd X)) → Q (some (x_I 0)) τ) : x_P E 194 [x_R 138, x_I a1] σ Q := by
  have ru := hP.2.2.2.1
  have kd := hP.1
  have F0 := y_bs_F B
  have l5 : ∀ m, σ 145 m = σ0 145 m := y_sm_a B 145 (by decide) (by decide)
  have l6 : ∀ m, σ 146 m = σ0 146 m := y_sm_a B 146 (by decide) (by decide)
  have l7 : ∀ m, σ 147 m = σ0 147 m := y_sm_a B 147 (by decide) (by decide)
  have h62 := hP.2.2.2.1
  refine x_Mt e_194 (h_194 E) (Nat.le_of_ble_eq_true rfl) t_194 rfl ?_
  refine x_blk (b := 0) (a_194 E) rfl ?_
  unfold b_194_0
  refine x_aload rfl ?_
  refine x_cV (fun _ => rfl) rfl (by decide) (Nat.le_of_ble_eq_true rfl) ?_
  refine rx_195 B hP n11 tr ms gr un hX (fun S1 f1 uD1 ua1 ub1 uc1 => ?_) (fun S1 f1 ua1 ub1 uc1 ud1 => ?_)
  · skip
    have B1 := y_bs_us B f1
    have F1 := y_bs_F B1
    refine x_if_ne (by omega) (by omega) (fun z => absurd z (by omega)) (fun z2 => ?_)
    refine x_blk (b := 1) (a_194 E) rfl ?_
    unfold b_194_1
    obtain ⟨⟨x5, x6⟩, ⟨x1, x2⟩, ⟨x3, x4⟩, x7⟩ := u_D_ok uD1
    have p7 := y_PI_pc hP (r := (u_rl X).toNat) (by omega)
    have ex := u_pl_x X
    have e67 : σ0 140 (63 + 12 * (S1 138 24).toNat + 4) = σ0 140 (67 + 12 * (u_rl X).toNat) := by rw [ub1]; exact congrArg _ (by omega)
    have p14 : S1 138 14 = σ 138 14 := f1 138 14 (by decide) (by decide)
    refine x_aload rfl ?_
    refine x_push 1 rfl ?_
    refine x_iload rfl ?_
    refine x_aload rfl ?_
    refine x_aload rfl ?_
    refine x_getI (r := 138) rfl (by decide) (by decide) (by decide) rfl ?_
    intro g3a g3b
    refine x_push 5 rfl ?_
    refine x_aload rfl ?_
    refine x_getI (r := 138) rfl (by decide) (by decide) (by decide) rfl ?_
    intro g4a g4b
    refine x_iadd ?_
    refine x_cV (fun _ => rfl) rfl (by decide) (Nat.le_of_ble_eq_true rfl) ?_
    refine rf_3_p F1 hP (by omega) (by omega) (by omega) (by omega) (fun v5 v5a v5b v5c v5d v5e => ?_)
    have pe : v5 = σ0 140 (68 + 12 * (u_rl X).toNat + (u_pi X).toNat) := by
      rw [v5d, ub1, uc1]
      exact congrArg _ (by omega)
    refine x_push 99 rfl ?_
    refine x_cV (fun _ => rfl) rfl (by decide) (Nat.le_of_ble_eq_true rfl) ?_
    refine rx_18 (by omega) (by omega) (by omega) (by omega) (by omega) (by omega) (by omega) (by omega) (y_rf_P F1 hP) (fun v6 v6a v6b k6_0 => ?_)
    have n0 : S1 140 = σ0 140 := funext fun z => y_rf_n F1 z
    have kse := k6_0
    rw [n0, y_sel_2 (by decide) (fun r hr => by
      have := (hP.2.2.2.2 r hr).2.2.2.1
      have e : σ0 140 (63 + 12 * r + 3) = σ0 140 (66 + 12 * r) := congrArg _ (by omega)
      have t : 0 ≤ σ0 140 (63 + 12 * r + 3) ∧ σ0 140 (63 + 12 * r + 3) ≤ 2 := this
      omega), pe] at kse
    have sb : v6 = -4 ∨ 0 ≤ v6 := by
      rcases y_sel_b (A := σ0 140) (p := 1) (q := a1) (f := σ0 140 (68 + 12 * (u_rl X).toNat + (u_pi X).toNat)) (l := 2) (n := (σ0 140 62).toNat) with h | h
      · exact Or.inl (kse.trans h)
      · exact Or.inr (kse ▸ h.1)
    refine x_istore ?_
    refine x_aload rfl ?_
    refine x_aload rfl ?_
    refine x_getI (r := 138) rfl (by decide) (by decide) (by decide) rfl ?_
    intro g7a g7b
    refine x_put138 (by decide) rfl ⟨by decide, rfl⟩ (by decide) F1 (by omega) (by omega) (fun S8 e8 F8 => ?_)
    refine x_iload rfl ?_
    refine x_push (-4) rfl ?_
    refine x_icmp_ne (by omega) (by omega) (by omega) (by omega) (fun z9 => ?_) (fun z9 => ?_)
    · skip
      refine x_push 0 rfl ?_
      refine x_zret (by decide) ?_
      exact k0 _ (y_sm_tr f1 (y_sm_e e8 (Or.inr ⟨rfl, by decide⟩))) (Or.inr ⟨uD1, by omega, (x_up_at e8).trans ua1⟩)
    · skip
      refine x_blk (b := 2) (a_194 E) rfl ?_
      unfold b_194_2
      refine x_aload rfl ?_
      refine x_getR (r := 138) rfl (by decide) (by decide) rfl ?_
      refine x_aload rfl ?_
      refine x_getI (r := 138) rfl (by decide) (by decide) (by decide) rfl ?_
      have q10_0 : S8 138 14 = S1 138 14 := x_up_ne e8 (by omega)
      simp only [q10_0]
      intro g10a g10b
      refine x_iload rfl ?_
      refine x_astN (m := (σ 138 14).toNat) y_m148 F8 (by omega) (by omega) (by omega) (by omega) (by omega) (fun S11 e11 F11 => ?_)
      have w11 := x_up_at e11
      refine x_aload rfl ?_
      refine x_getR (r := 138) rfl (by decide) (by decide) rfl ?_
      refine x_aload rfl ?_
      refine x_getI (r := 138) rfl (by decide) (by decide) (by decide) rfl ?_
      have q12_0 : S11 138 14 = S8 138 14 := x_up_nr e11 (by decide)
      have q12_1 : S8 138 14 = S1 138 14 := x_up_ne e8 (by omega)
      simp only [q12_0, q12_1]
      intro g12a g12b
      refine x_push 0 rfl ?_
      refine x_astN (m := (σ 138 14).toNat) y_m149 F11 (by omega) (by omega) (by omega) (by omega) (by omega) (fun S13 e13 F13 => ?_)
      have w13 := x_up_at e13
      refine x_aload rfl ?_
      refine x_getR (r := 138) rfl (by decide) (by decide) rfl ?_
      refine x_aload rfl ?_
      refine x_getI (r := 138) rfl (by decide) (by decide) (by decide) rfl ?_
      have q14_0 : S13 138 14 = S11 138 14 := x_up_nr e13 (by decide)
      have q14_1 : S11 138 14 = S8 138 14 := x_up_nr e11 (by decide)
      have q14_2 : S8 138 14 = S1 138 14 := x_up_ne e8 (by omega)
      simp only [q14_0, q14_1, q14_2]
      intro g14a g14b
      refine x_aload rfl ?_
      refine x_getI (r := 138) rfl (by decide) (by decide) (by decide) rfl ?_
      have q15_0 : S13 138 26 = S11 138 26 := x_up_nr e13 (by decide)
      have q15_1 : S11 138 26 = S8 138 26 := x_up_nr e11 (by decide)
      have q15_2 : S8 138 26 = S1 138 26 := x_up_ne e8 (by omega)
      simp only [q15_0, q15_1, q15_2]
      intro g15a g15b
      refine x_astN (m := (σ 138 14).toNat) y_m150 F13 (by omega) (by omega) (by omega) (by omega) (by omega) (fun S16 e16 F16 => ?_)
      have w16 := x_up_at e16
      refine x_aload rfl ?_
      refine x_getR (r := 138) rfl (by decide) (by decide) rfl ?_
      refine x_aload rfl ?_
      refine x_getI (r := 138) rfl (by decide) (by decide) (by decide) rfl ?_
      have q17_0 : S16 138 14 = S13 138 14 := x_up_nr e16 (by decide)
      have q17_1 : S13 138 14 = S11 138 14 := x_up_nr e13 (by decide)
      have q17_2 : S11 138 14 = S8 138 14 := x_up_nr e11 (by decide)
      have q17_3 : S8 138 14 = S1 138 14 := x_up_ne e8 (by omega)
      simp only [q17_0, q17_1, q17_2, q17_3]
      intro g17a g17b
      refine x_aload rfl ?_
      refine x_getI (r := 138) rfl (by decide) (by decide) (by decide) rfl ?_
      have q18_0 : S16 138 25 = S13 138 25 := x_up_nr e16 (by decide)
      have q18_1 : S13 138 25 = S11 138 25 := x_up_nr e13 (by decide)
      have q18_2 : S11 138 25 = S8 138 25 := x_up_nr e11 (by decide)
      have q18_3 : S8 138 25 = S1 138 25 := x_up_ne e8 (by omega)
      simp only [q18_0, q18_1, q18_2, q18_3]
      intro g18a g18b
      refine x_astN (m := (σ 138 14).toNat) y_m153 F16 (by omega) (by omega) (by omega) (by omega) (by omega) (fun S19 e19 F19 => ?_)
      have w19 := x_up_at e19
      refine x_aload rfl ?_
      refine x_getR (r := 138) rfl (by decide) (by decide) rfl ?_
      refine x_aload rfl ?_
      refine x_getI (r := 138) rfl (by decide) (by decide) (by decide) rfl ?_
      have q20_0 : S19 138 14 = S16 138 14 := x_up_nr e19 (by decide)
      have q20_1 : S16 138 14 = S13 138 14 := x_up_nr e16 (by decide)
      have q20_2 : S13 138 14 = S11 138 14 := x_up_nr e13 (by decide)
      have q20_3 : S11 138 14 = S8 138 14 := x_up_nr e11 (by decide)
      have q20_4 : S8 138 14 = S1 138 14 := x_up_ne e8 (by omega)
      simp only [q20_0, q20_1, q20_2, q20_3, q20_4]
      intro g20a g20b
      refine x_aload rfl ?_
      refine x_getI (r := 138) rfl (by decide) (by decide) (by decide) rfl ?_
      have q21_0 : S19 138 24 = S16 138 24 := x_up_nr e19 (by decide)
      have q21_1 : S16 138 24 = S13 138 24 := x_up_nr e16 (by decide)
      have q21_2 : S13 138 24 = S11 138 24 := x_up_nr e13 (by decide)
      have q21_3 : S11 138 24 = S8 138 24 := x_up_nr e11 (by decide)
      have q21_4 : S8 138 24 = S1 138 24 := x_up_ne e8 (by omega)
      simp only [q21_0, q21_1, q21_2, q21_3, q21_4]
      intro g21a g21b
      refine x_astN (m := (σ 138 14).toNat) y_m154 F19 (by omega) (by omega) (by omega) (by omega) (by omega) (fun S22 e22 F22 => ?_)
      have w22 := x_up_at e22
      refine x_aload rfl ?_
      refine x_dup rfl ?_
      refine x_getI (r := 138) rfl (by decide) (by decide) (by decide) rfl ?_
      have q23_0 : S22 138 14 = S19 138 14 := x_up_nr e22 (by decide)
      have q23_1 : S19 138 14 = S16 138 14 := x_up_nr e19 (by decide)
      have q23_2 : S16 138 14 = S13 138 14 := x_up_nr e16 (by decide)
      have q23_3 : S13 138 14 = S11 138 14 := x_up_nr e13 (by decide)
      have q23_4 : S11 138 14 = S8 138 14 := x_up_nr e11 (by decide)
      have q23_5 : S8 138 14 = S1 138 14 := x_up_ne e8 (by omega)
      simp only [q23_0, q23_1, q23_2, q23_3, q23_4, q23_5]
      intro g23a g23b
      refine x_push 1 rfl ?_
      refine x_iadd ?_
      refine x_put138 (by decide) rfl ⟨by decide, rfl⟩ (by decide) F22 (by omega) (by omega) (fun S24 e24 F24 => ?_)
      refine x_push 1 rfl ?_
      refine x_zret (by decide) ?_
      refine k1 _ (y_sm_tr (y_sm_tr (y_sm_tr (y_sm_tr (y_sm_tr (y_sm_tr (y_sm_tr (y_sm_tr y_sm_rf (y_sm_w (by decide) (by decide) f1)) (y_sm_e e8 (Or.inr ⟨rfl, by decide⟩))) (y_sm_e e11 (Or.inl (by decide)))) (y_sm_e e13 (Or.inl (by decide)))) (y_sm_e e16 (Or.inl (by decide)))) (y_sm_e e19 (Or.inl (by decide)))) (y_sm_e e22 (Or.inl (by decide)))) (y_sm_e e24 (Or.inr ⟨rfl, by decide⟩))) uD1 (by omega) (by have := x_up_at e24; omega) (fun q m hq hm => ?_) ?_ ?_ ?_ ?_ ?_
      · have z1 : ∀ (z : q = 138), False := fun z => by omega
        rw [x_up_ne e24 (fun z => z1 z.1), x_up_ne e22 (fun z => hm z.2), x_up_ne e19 (fun z => hm z.2), x_up_ne e16 (fun z => hm z.2), x_up_ne e13 (fun z => hm z.2), x_up_ne e11 (fun z => hm z.2), x_up_ne e8 (fun z => z1 z.1)]
        exact f1 q m (by simp) (fun z => absurd z (fun z => z1 z))
      · rw [x_up_nr e24 (by decide), x_up_nr e22 (by decide), x_up_nr e19 (by decide), x_up_nr e16 (by decide), x_up_nr e13 (by decide), x_up_at e11]; exact kse
      · rw [x_up_nr e24 (by decide), x_up_nr e22 (by decide), x_up_nr e19 (by decide), x_up_nr e16 (by decide), x_up_at e13]
      · rw [x_up_nr e24 (by decide), x_up_nr e22 (by decide), x_up_nr e19 (by decide), x_up_at e16]; exact ua1
      · rw [x_up_nr e24 (by decide), x_up_nr e22 (by decide), x_up_at e19]; exact uc1
      · rw [x_up_nr e24 (by decide), x_up_at e22]; exact ub1
  · skip
    have B1 := y_bs_us B f1
    have F1 := y_bs_F B1
    refine x_if_ne (by omega) (by omega) (fun z25 => ?_) (fun z => absurd (by omega) z)
    refine x_push 0 rfl ?_
    refine x_zret (by decide) ?_
    exact k0 _ f1 (Or.inl ⟨ua1, ub1, uc1, ud1⟩)
set_option maxHeartbeats 8000000 in
theorem rx_116_b2 {E : q_E} {σ : x_S} {Q : Option q_V → x_S → Prop} (hP : y_PI (σ 140)) {n : Nat} {l P V : Nat → Int} (n11 : n ≤ 11) (n0 : 1 ≤ n) (tr : y_tr l n) (ms : y_ms (σ 140) 0 l n P V) (gr : ∀ v, v < n → σ 145 v = l v ∧ σ 146 v = P v ∧ σ 147 v = V v) {R : Int × w_C} (hR : w_run (σ 140) 1 (u_lt (σ 140)) u_sg u_nd (u_bl (σ 140) l P V) 100000 (w_come (σ 140) 1 (u_lt (σ 140)) u_sg u_nd 0 (u_mk (σ 140) l P V 11 0 0) w_0) = R) (k : ∀ τ h, y_bs σ τ → y_RF τ h R → Q (some (x_I h)) τ) : ∀ (N d : Nat) (a r i : Nat → Int) (o : Nat) (u v : Nat → Int) (τ : x_S), y_bs σ τ → y_RU τ (d, a, r, i, o, u, v) → o ≤ 40 → (0 < d → w_I (σ 140) (u_lt (σ 140)) u_rk (u_D (σ 140) l n) (d, a, r, i, o, u, v) ∧ w_phi (d, a, r, i, o, u, v) ≤ N) → w_run (σ 140) 1 (u_lt (σ 140)) u_sg u_nd (u_bl (σ 140) l P V) N (0, (d, a, r, i, o, u, v)) = R → x_G E m_116 Q (t_116 2) [(0, x_R 138)] [] τ := by
  have ru := hP.2.2.2.1
  have kd := hP.1
  have h62 := hP.2.2.2.1
  intro N
  induction N using Nat.strongRecOn with
  | ind N ih =>
    intro d a r i o u v τ Bt hRR ho hI hrun
    obtain ⟨h14, hent, h18, hout⟩ := hRR
    have F := y_bs_F Bt
    refine x_blk (b := 2) (a_116 E) rfl ?_
    unfold b_116_2
    refine x_aload rfl ?_
    refine x_getI (r := 138) rfl (by decide) (by decide) (by decide) rfl ?_
    intro g1a g1b
    refine x_if_le (by omega) (by omega) (fun z2 => ?_) (fun z2 => ?_)
    · skip
      refine x_blk (b := 3) (a_116 E) rfl ?_
      unfold b_116_3
      refine x_push 0 rfl ?_
      refine x_iret ?_
      have h0 : d = 0 := by omega
      subst h0
      have hE : w_run (σ 140) 1 (u_lt (σ 140)) u_sg u_nd (u_bl (σ 140) l P V) N (0, (0, a, r, i, o, u, v)) = (0, (0, a, r, i, o, u, v)) := w_run_t (fun y => absurd y.2 (by show ¬ (0 < 0); omega)) N
      rw [hE] at hrun
      exact k _ _ Bt (by rw [← hrun]; exact ⟨Or.inl ⟨rfl, rfl⟩, h18, ho, hout⟩)
    · skip
      obtain ⟨t, ht⟩ : ∃ t, d = t + 1 := ⟨d - 1, by omega⟩
      subst ht
      have G := w_GU (A := σ 140) hP tr ms n11
      have It := (hI (by omega)).1.1 t (by omega)
      have hI3 := (hI (by omega)).1.2.2.1
      have ct := hent t (by omega)
      have Dt : u_D (σ 140) l n (a t) := It.1
      have gt := G.1 (a t) Dt
      have ok := u_D_ok Dt
      obtain ⟨⟨o1, o2⟩, ⟨o3, o4⟩, ⟨o5, o6⟩, o7⟩ := id ok
      have D5 : σ 140 (68 + 12 * (u_rl (a t)).toNat + (u_pi (a t)).toNat) ≤ 4 := Dt.2.2.2.2.2
      have D6 : 0 ≤ σ 140 (68 + 12 * (u_rl (a t)).toNat + (u_pi (a t)).toNat) := gt.2.2.1.1
      have lr : σ 140 (65 + 12 * (r t).toNat) = σ 140 (68 + 12 * (u_rl (a t)).toNat + (u_pi (a t)).toNat) := It.2.1.2.2
      have rkt : (t : Int) ≤ u_rk (a t) := It.2.2.2.1
      have e4 : σ 140 (63 + 12 * (r t).toNat + 4) = σ 140 (67 + 12 * (r t).toNat) := congrArg _ (by omega)
      have e2 : σ 140 (63 + 12 * (r t).toNat + 2) = σ 140 (65 + 12 * (r t).toNat) := congrArg _ (by omega)
      have e4b : σ 140 (63 + 12 * (u_rl (a t)).toNat + 4) = σ 140 (67 + 12 * (u_rl (a t)).toNat) := congrArg _ (by omega)
      have p7 := y_PI_pc hP (r := (r t).toNat) (by omega)
      have p7b := y_PI_pc hP (r := (u_rl (a t)).toNat) (by omega)
      refine x_aload rfl ?_
      refine x_getI (r := 138) rfl (by decide) (by decide) (by decide) rfl ?_
      intro g3a g3b
      refine x_push 1 rfl ?_
      refine x_isub ?_
      refine x_istore ?_
      refine x_aload rfl ?_
      refine x_getR (r := 138) rfl (by decide) (by decide) rfl ?_
      refine x_iload rfl ?_
      refine x_iald (r := 148) (n := 128) (m := t) rfl rfl (by decide) (fun _ => rfl) (by omega) (by omega) (by omega) ?_
      rw [ct.1]
      intro g4a g4b
      refine x_istore ?_
      refine x_X_lo (lo' := [(0, x_R 138), (1, x_I _), (2, x_I _)]) ⟨rfl, rfl, rfl, trivial⟩ ?_
      refine x_aload rfl ?_
      refine x_getR (r := 138) rfl (by decide) (by decide) rfl ?_
      refine x_iload rfl ?_
      refine x_iald (r := 149) (n := 128) (m := t) rfl rfl (by decide) (fun _ => rfl) (by omega) (by omega) (by omega) ?_
      rw [ct.2.1]
      intro g5a g5b
      refine x_aload rfl ?_
      refine x_iload rfl ?_
      refine x_push 4 rfl ?_
      refine x_cV (fun _ => rfl) rfl (by decide) (Nat.le_of_ble_eq_true rfl) ?_
      refine rf_3_4 F hP (by omega) (by omega) (fun v6 v6a v6b v6c => ?_)
      refine x_icmp_ne (by omega) (by omega) (by omega) (by omega) (fun z7 => ?_) (fun z7 => ?_)
      · skip
        refine x_aload rfl ?_
        refine x_dup rfl ?_
        refine x_getI (r := 138) rfl (by decide) (by decide) (by decide) rfl ?_
        intro g8a g8b
        refine x_push 1 rfl ?_
        refine x_isub ?_
        refine x_put138 (by decide) rfl ⟨by decide, rfl⟩ (by decide) F (by omega) (by omega) (fun S9 e9 F9 => ?_)
        refine x_goto ?_
        refine x_blk (b := 5) (a_116 E) rfl ?_
        unfold b_116_5
        refine x_goto ?_
        refine x_G_lo (lo' := [(0, x_R 138)]) ⟨rfl, trivial⟩ ?_
        obtain ⟨M, hM, hr, hi, hz⟩ := w_run_p hP G (hI (by omega)).1 (show 0 < t + 1 by omega) (hI (by omega)).2 hrun
        rw [w_step_pop (by omega)] at hr hi
        have q14 := x_up_at e9
        exact ih M (by omega) t a r i o u v S9 (y_sm_tr Bt (y_sm_e e9 (Or.inr ⟨rfl, by decide⟩))) ⟨by omega, fun j hj => ⟨(x_up_nr e9 (by decide)).trans (hent j (by omega)).1, (x_up_nr e9 (by decide)).trans (hent j (by omega)).2.1, (x_up_nr e9 (by decide)).trans (hent j (by omega)).2.2.1, (x_up_nr e9 (by decide)).trans (hent j (by omega)).2.2.2.1, (x_up_nr e9 (by decide)).trans (hent j (by omega)).2.2.2.2⟩, (x_up_ne e9 (by decide)).trans h18, fun j hj => (x_up_nr e9 (by decide)).trans (hout j hj)⟩ ho (fun h => hi rfl h) hr
      · skip
        refine x_blk (b := 4) (a_116 E) rfl ?_
        unfold b_116_4
        refine x_aload rfl ?_
        refine x_iload rfl ?_
        refine x_push 5 rfl ?_
        refine x_aload rfl ?_
        refine x_getR (r := 138) rfl (by decide) (by decide) rfl ?_
        refine x_iload rfl ?_
        refine x_iald (r := 149) (n := 128) (m := t) rfl rfl (by decide) (fun _ => rfl) (by omega) (by omega) (by omega) ?_
        rw [ct.2.1]
        intro g10a g10b
        refine x_iadd ?_
        refine x_cV (fun _ => rfl) rfl (by decide) (Nat.le_of_ble_eq_true rfl) ?_
        refine rf_3_p F hP (by omega) (by omega) (by omega) (by omega) (fun v11 v11a v11b v11c v11d v11e => ?_)
        have pe : v11 = σ 140 (68 + 12 * (r t).toNat + (i t).toNat) := v11d.trans (congrArg _ (by omega))
        refine x_istore ?_
        refine x_aload rfl ?_
        refine x_getR (r := 138) rfl (by decide) (by decide) rfl ?_
        refine x_iload rfl ?_
        refine x_dup2 rfl rfl ?_
        refine x_iald (r := 149) (n := 128) (m := t) rfl rfl (by decide) (fun _ => rfl) (by omega) (by omega) (by omega) ?_
        rw [ct.2.1]
        intro g12a g12b
        refine x_push 1 rfl ?_
        refine x_iadd ?_
        refine x_astN (m := t) y_m149 F (by omega) (by omega) (by omega) (by omega) (by omega) (fun S13 e13 F13 => ?_)
        have w13 := x_up_at e13
        refine x_iload rfl ?_
        refine x_push 9 rfl ?_
        refine x_icmp_le (by omega) (by omega) (by omega) (by omega) (fun z14 => ?_) (fun z14 => ?_)
        · skip
          refine x_blk (b := 6) (a_116 E) rfl ?_
          unfold b_116_6
          refine x_aload rfl ?_
          refine x_getI (r := 138) rfl (by decide) (by decide) (by decide) rfl ?_
          have q15_0 : S13 138 18 = τ 138 18 := x_up_nr e13 (by decide)
          simp only [q15_0]
          intro g15a g15b
          refine x_push 40 rfl ?_
          refine x_icmp_ne (by omega) (by omega) (by omega) (by omega) (fun z16 => ?_) (fun z16 => ?_)
          · skip
            refine x_push 2 rfl ?_
            refine x_iret ?_
            obtain ⟨M, hM, hr, hi, hz⟩ := w_run_p hP G (hI (by omega)).1 (show 0 < t + 1 by omega) (hI (by omega)).2 hrun
            rw [w_step_long (by omega) (by omega) (by omega)] at hz
            have hE := hz (by show (-3 : Int) < 0; decide)
            exact k _ _ (y_sm_tr Bt (y_sm_e e13 (Or.inl (by decide)))) (by rw [← hE]; exact ⟨Or.inr (Or.inl ⟨rfl, rfl⟩), (x_up_nr e13 (by decide)).trans h18, ho, fun j hj => (x_up_nr e13 (by decide)).trans (hout j hj)⟩)
          · skip
            refine x_blk (b := 10) (a_116 E) rfl ?_
            unfold b_116_10
            refine x_aload rfl ?_
            refine x_getR (r := 138) rfl (by decide) (by decide) rfl ?_
            refine x_aload rfl ?_
            refine x_getI (r := 138) rfl (by decide) (by decide) (by decide) rfl ?_
            have q17_0 : S13 138 18 = τ 138 18 := x_up_nr e13 (by decide)
            simp only [q17_0]
            intro g17a g17b
            refine x_iload rfl ?_
            refine x_astN (m := o) y_m151 F13 (by omega) (by omega) (by omega) (by omega) (by omega) (fun S18 e18 F18 => ?_)
            have w18 := x_up_at e18
            refine x_aload rfl ?_
            refine x_dup rfl ?_
            refine x_getI (r := 138) rfl (by decide) (by decide) (by decide) rfl ?_
            have q19_0 : S18 138 18 = S13 138 18 := x_up_nr e18 (by decide)
            have q19_1 : S13 138 18 = τ 138 18 := x_up_nr e13 (by decide)
            simp only [q19_0, q19_1]
            intro g19a g19b
            refine x_push 1 rfl ?_
            refine x_iadd ?_
            refine x_put138 (by decide) rfl ⟨by decide, rfl⟩ (by decide) F18 (by omega) (by omega) (fun S20 e20 F20 => ?_)
            refine x_fall ?_
            refine x_blk (b := 5) (a_116 E) rfl ?_
            unfold b_116_5
            refine x_goto ?_
            refine x_G_lo (lo' := [(0, x_R 138)]) ⟨rfl, trivial⟩ ?_
            obtain ⟨M, hM, hr, hi, hz⟩ := w_run_p hP G (hI (by omega)).1 (show 0 < t + 1 by omega) (hI (by omega)).2 hrun
            rw [w_step_out (by omega) (by omega) (by omega)] at hr hi
            have q18 := x_up_at e20
            refine ih M (by omega) (t + 1) a r (y_wK i t (i t + 1)) (o + 1) _ v S20 (y_sm_tr (y_sm_tr (y_sm_tr Bt (y_sm_e e13 (Or.inl (by decide)))) (y_sm_e e18 (Or.inl (by decide)))) (y_sm_e e20 (Or.inr ⟨rfl, by decide⟩))) ⟨?_, fun j hj => ⟨?_, ?_, ?_, ?_, ?_⟩, by omega, fun j hj => ?_⟩ (by omega) (fun h => hi rfl h) hr
            · exact (x_up_ne e20 (by decide)).trans ((x_up_nr e18 (by decide)).trans ((x_up_nr e13 (by decide)).trans h14))
            · rw [x_up_nr e20 (by decide), x_up_nr e18 (by decide), x_up_nr e13 (by decide)]; exact (hent j hj).1
            · rw [x_up_nr e20 (by decide), x_up_nr e18 (by decide)]
              by_cases cj : j = t
              · rw [cj, y_wK_e]; exact x_up_at e13
              · rw [y_wK_o cj, x_up_ne e13 (fun z => cj z.2)]; exact (hent j hj).2.1
            · rw [x_up_nr e20 (by decide), x_up_nr e18 (by decide), x_up_nr e13 (by decide)]; exact (hent j hj).2.2.1
            · rw [x_up_nr e20 (by decide), x_up_nr e18 (by decide), x_up_nr e13 (by decide)]; exact (hent j hj).2.2.2.1
            · rw [x_up_nr e20 (by decide), x_up_nr e18 (by decide), x_up_nr e13 (by decide)]; exact (hent j hj).2.2.2.2
            · rw [x_up_nr e20 (by decide)]
              by_cases cj : j = o
              · rw [cj, y_wK_e, ← pe]; exact x_up_at e18
              · rw [y_wK_o cj, x_up_ne e18 (fun z => cj z.2), x_up_nr e13 (by decide)]; exact hout j (by omega)
        · skip
          refine x_aload rfl ?_
          refine x_aload rfl ?_
          refine x_getR (r := 138) rfl (by decide) (by decide) rfl ?_
          refine x_iload rfl ?_
          refine x_iald (r := 154) (n := 128) (m := t) rfl rfl (by decide) (fun _ => rfl) (by omega) (by omega) (by omega) ?_
          have q21_0 : S13 154 (t) = τ 154 (t) := x_up_nr e13 (by decide)
          rw [q21_0]
          rw [ct.2.2.2.2]
          intro g21a g21b
          refine x_put138 (by decide) rfl ⟨by decide, rfl⟩ (by decide) F13 (by omega) (by omega) (fun S22 e22 F22 => ?_)
          refine x_aload rfl ?_
          refine x_aload rfl ?_
          refine x_getR (r := 138) rfl (by decide) (by decide) rfl ?_
          refine x_iload rfl ?_
          refine x_iald (r := 150) (n := 128) (m := t) rfl rfl (by decide) (fun _ => rfl) (by omega) (by omega) (by omega) ?_
          have q23_0 : S22 150 (t) = S13 150 (t) := x_up_nr e22 (by decide)
          have q23_1 : S13 150 (t) = τ 150 (t) := x_up_nr e13 (by decide)
          rw [q23_0, q23_1]
          rw [ct.2.2.1]
          intro g23a g23b
          refine x_put138 (by decide) rfl ⟨by decide, rfl⟩ (by decide) F22 (by omega) (by omega) (fun S24 e24 F24 => ?_)
          refine x_aload rfl ?_
          refine x_aload rfl ?_
          refine x_getI (r := 138) rfl (by decide) (by decide) (by decide) rfl ?_
          have q25_0 : S24 138 24 = S22 138 24 := x_up_ne e24 (by omega)
          simp only [q25_0]
          have w25 := x_up_at e22
          simp only [w25]
          intro g25a g25b
          refine x_push 5 rfl ?_
          refine x_aload rfl ?_
          refine x_getR (r := 138) rfl (by decide) (by decide) rfl ?_
          refine x_iload rfl ?_
          refine x_iald (r := 153) (n := 128) (m := t) rfl rfl (by decide) (fun _ => rfl) (by omega) (by omega) (by omega) ?_
          have q26_0 : S24 153 (t) = S22 153 (t) := x_up_nr e24 (by decide)
          have q26_1 : S22 153 (t) = S13 153 (t) := x_up_nr e22 (by decide)
          have q26_2 : S13 153 (t) = τ 153 (t) := x_up_nr e13 (by decide)
          rw [q26_0, q26_1, q26_2]
          rw [ct.2.2.2.1]
          intro g26a g26b
          refine x_iadd ?_
          refine x_cV (fun _ => rfl) rfl (by decide) (Nat.le_of_ble_eq_true rfl) ?_
          refine rf_3_p F24 hP (by omega) (by omega) (by omega) (by omega) (fun v27 v27a v27b v27c v27d v27e => ?_)
          have pl : v27 = σ 140 (68 + 12 * (u_rl (a t)).toNat + (u_pi (a t)).toNat) := v27d.trans (congrArg _ (by omega))
          rw [pl]
          refine x_istore ?_
          refine x_X_lo (lo' := [(0, x_R 138), (1, x_I _), (2, x_I _), (3, x_I _), (4, x_I _)]) ⟨rfl, rfl, rfl, rfl, rfl, trivial⟩ ?_
          refine x_aload rfl ?_
          refine x_aload rfl ?_
          refine x_push 1 rfl ?_
          refine x_iload rfl ?_
          refine x_iload rfl ?_
          refine x_cV (fun _ => rfl) rfl (by decide) (Nat.le_of_ble_eq_true rfl) ?_
          refine rx_32 (by omega) (by omega) (by omega) (by omega) (by omega) (by omega) (y_rf_P F24 hP) (fun y28 => ?_) (fun y28 => ?_)
          · skip
            refine x_fall ?_
            refine x_blk (b := 11) (a_116 E) rfl ?_
            unfold b_116_11
            refine x_if_eq (by omega) (by omega) (fun z => absurd z (by omega)) (fun z29 => ?_)
            refine x_aload rfl ?_
            refine x_aload rfl ?_
            refine x_getI (r := 138) rfl (by decide) (by decide) (by decide) rfl ?_
            have q30_0 : S24 138 24 = S22 138 24 := x_up_ne e24 (by omega)
            simp only [q30_0]
            have w30 := x_up_at e22
            simp only [w30]
            intro g30a g30b
            refine x_aload rfl ?_
            refine x_getR (r := 138) rfl (by decide) (by decide) rfl ?_
            refine x_iload rfl ?_
            refine x_iald (r := 153) (n := 128) (m := t) rfl rfl (by decide) (fun _ => rfl) (by omega) (by omega) (by omega) ?_
            have q31_0 : S24 153 (t) = S22 153 (t) := x_up_nr e24 (by decide)
            have q31_1 : S22 153 (t) = S13 153 (t) := x_up_nr e22 (by decide)
            have q31_2 : S13 153 (t) = τ 153 (t) := x_up_nr e13 (by decide)
            rw [q31_0, q31_1, q31_2]
            rw [ct.2.2.2.1]
            intro g31a g31b
            refine x_push 1 rfl ?_
            refine x_iadd ?_
            have kc := u_ch_ok hP o3 o4 o5 o6 D5 (c := 1) (Or.inr ⟨rfl, by omega⟩)
            have n62 := y_rf_n F24 62
            have n67 := y_rf_n F24 (67 + 12 * (u_rl (a t)).toNat)
            have nA : S24 140 = σ 140 := funext fun z => y_rf_n F24 z
            refine x_cV (fun _ => rfl) rfl (by decide) (Nat.le_of_ble_eq_true rfl) ?_
            refine rx_196 (by omega) (by omega) (by omega) (by omega) (by omega) (by omega) (y_rf_P F24 hP) (fun v32 v32a v32b k32_0 => ?_)
            rw [nA] at k32_0
            rw [k32_0]
            rw [if_neg (by decide)] at kc
            have n1 := y_rf_n F24 (1 : Int).toNat
            have cw := w_ch_1 (A := σ 140) (p := 1) (f := σ 140 (68 + 12 * (u_rl (a t)).toNat + (u_pi (a t)).toNat)) (z := v11) (by omega) (by omega)
            obtain ⟨x, hx⟩ : ∃ x : Int, x = u_bl (σ 140) l P V (a t) (w_ch (σ 140) 1 (u_lt (σ 140) (a t)) v11) := ⟨_, rfl⟩
            have xe : u_at (σ 140) l P V (u_nd (a t)) (u_rl (a t)) (u_B (σ 140) (u_rl (a t)).toNat (u_pi (a t) + 1).toNat : Int) = x := by
              rw [hx]
              show _ = u_bl (σ 140) l P V (a t) (w_ch (σ 140) 1 (σ 140 (68 + 12 * (u_rl (a t)).toNat + (u_pi (a t)).toNat)) v11)
              rw [cw]
              unfold u_bl
              rw [if_neg (by decide)]
            refine x_goto ?_
            refine x_blk (b := 8) (a_116 E) rfl ?_
            unfold b_116_8
            refine x_put138 (by decide) rfl ⟨by decide, rfl⟩ (by decide) F24 (by omega) (by omega) (fun S33 e33 F33 => ?_)
            refine x_aload rfl ?_
            refine x_iload rfl ?_
            refine x_push 10 rfl ?_
            refine x_isub ?_
            refine x_push 2 rfl ?_
            refine x_idiv (by omega) (by omega) (by omega) (by omega) ?_
            have w24 : S33 138 24 = u_rl (a t) := by rw [x_up_ne e33 (by decide), x_up_ne e24 (by decide), x_up_at e22]
            have w26 : S33 138 26 = u_nd (a t) := by rw [x_up_ne e33 (by decide), x_up_at e24]
            have w25 := x_up_at e33
            have p14 : S33 138 14 = τ 138 14 := by rw [x_up_ne e33 (by decide), x_up_ne e24 (by decide), x_up_ne e22 (by decide), x_up_nr e13 (by decide)]
            have k0 := u_ch_ok hP o3 o4 o5 o6 D5 (c := 0) (Or.inl ⟨rfl, by omega⟩)
            have un1 : u_ok (σ 140) l n (S33 138 26) (S33 138 24) (S33 138 25) := by
              rw [w24, w26, w25]
              exact ⟨⟨o1, o2⟩, ⟨o3, o4⟩, ⟨by omega, by omega⟩, o7⟩
            have hX1 : u_at (σ 140) l P V (S33 138 26) (S33 138 24) (S33 138 25) = x := by
              rw [w24, w26, w25]
              exact xe
            refine x_cV (fun _ => rfl) rfl (by decide) (Nat.le_of_ble_eq_true rfl) ?_
            refine rx_194 (by omega) (by omega) (y_sm_tr (y_sm_tr (y_sm_tr (y_sm_tr Bt (y_sm_e e13 (Or.inl (by decide)))) (y_sm_e e22 (Or.inr ⟨rfl, by decide⟩))) (y_sm_e e24 (Or.inr ⟨rfl, by decide⟩))) (y_sm_e e33 (Or.inr ⟨rfl, by decide⟩))) hP n11 tr ms gr un1 hX1 (by omega) (fun S34 f34 cD34 cs34 ca34 cb34 cc34 cd34 ce34 cf34 cg34 => ?_) (fun S34 f34 ck34 => ?_)
            · skip
              have B34 : y_bs σ S34 := y_sm_tr (y_sm_tr (y_sm_tr (y_sm_tr (y_sm_tr Bt (y_sm_e e13 (Or.inl (by decide)))) (y_sm_e e22 (Or.inr ⟨rfl, by decide⟩))) (y_sm_e e24 (Or.inr ⟨rfl, by decide⟩))) (y_sm_e e33 (Or.inr ⟨rfl, by decide⟩))) (y_sm_w (by decide) (by decide) f34)
              have F34 := y_bs_F B34
              refine x_if_ne (by omega) (by omega) (fun z => absurd z (by omega)) (fun z35 => ?_)
              refine x_blk (b := 9) (a_116 E) rfl ?_
              unfold b_116_9
              refine x_goto ?_
              refine x_blk (b := 5) (a_116 E) rfl ?_
              unfold b_116_5
              refine x_goto ?_
              refine x_G_lo (lo' := [(0, x_R 138)]) ⟨rfl, trivial⟩ ?_
              obtain ⟨M, hM, hr, hi, hz⟩ := w_run_p hP G (hI (by omega)).1 (show 0 < t + 1 by omega) (hI (by omega)).2 hrun
              rw [w_step_call (by omega) (by omega), ← pe, ← hx, w_come_y cD34.1 cs34] at hr hi
              have eH : (S33 138 14).toNat = t + 1 := by omega
              rw [eH] at cb34 cc34 cd34 ce34 cf34 cg34
              have old : ∀ q m, q = 148 ∨ q = 150 ∨ q = 153 ∨ q = 154 → S33 q m = τ q m := fun q m hq => by
                rw [x_up_nr e33 (by omega), x_up_nr e24 (by omega), x_up_nr e22 (by omega), x_up_nr e13 (by omega)]
              refine ih M (by omega) (t + 2) _ _ _ o u _ S34 (y_sm_tr (y_sm_tr (y_sm_tr (y_sm_tr (y_sm_tr Bt (y_sm_e e13 (Or.inl (by decide)))) (y_sm_e e22 (Or.inr ⟨rfl, by decide⟩))) (y_sm_e e24 (Or.inr ⟨rfl, by decide⟩))) (y_sm_e e33 (Or.inr ⟨rfl, by decide⟩))) (y_sm_w (by decide) (by decide) f34)) ⟨by omega, fun j hj => ?_, ?_, fun j hj => ?_⟩ ho (fun h => hi rfl h) hr
              · by_cases cj : j = t + 1
                · rw [cj, y_wK_e, y_wK_e, y_wK_e]
                  exact ⟨cc34, cd34, ce34, cf34, cg34⟩
                · have hj2 := hent j (by omega)
                  rw [y_wK_o cj, y_wK_o cj, y_wK_o cj]
                  refine ⟨(cb34 148 j (by simp) cj).trans ((old 148 j (by simp)).trans hj2.1), (cb34 149 j (by simp) cj).trans ?_, (cb34 150 j (by simp) cj).trans ((old 150 j (by simp)).trans hj2.2.2.1), (cb34 153 j (by simp) cj).trans ((old 153 j (by simp)).trans hj2.2.2.2.1), (cb34 154 j (by simp) cj).trans ((old 154 j (by simp)).trans hj2.2.2.2.2)⟩
                  rw [x_up_nr e33 (by decide), x_up_nr e24 (by decide), x_up_nr e22 (by decide)]
                  by_cases ck : j = t
                  · rw [ck, y_wK_e]; exact x_up_at e13
                  · rw [y_wK_o ck, x_up_ne e13 (fun z => ck z.2)]; exact hj2.2.1
              · rw [f34 138 18 (by decide) (by decide), x_up_ne e33 (by decide), x_up_ne e24 (by decide), x_up_ne e22 (by decide), x_up_nr e13 (by decide)]; exact h18
              · rw [y_sm_a f34 151 (by decide) (by decide), x_up_nr e33 (by decide), x_up_nr e24 (by decide), x_up_nr e22 (by decide), x_up_nr e13 (by decide)]; exact hout j hj
            · skip
              have B34 := y_bs_us (y_sm_tr (y_sm_tr (y_sm_tr (y_sm_tr Bt (y_sm_e e13 (Or.inl (by decide)))) (y_sm_e e22 (Or.inr ⟨rfl, by decide⟩))) (y_sm_e e24 (Or.inr ⟨rfl, by decide⟩))) (y_sm_e e33 (Or.inr ⟨rfl, by decide⟩))) f34
              have F34 := y_bs_F B34
              refine x_if_ne (by omega) (by omega) (fun z36 => ?_) (fun z => absurd (by omega) z)
              refine x_push 1 rfl ?_
              refine x_iret ?_
              obtain ⟨M, hM, hr, hi, hz⟩ := w_run_p hP G (hI (by omega)).1 (show 0 < t + 1 by omega) (hI (by omega)).2 hrun
              rw [w_step_call (by omega) (by omega), ← pe, ← hx] at hz
              rcases ck34 with ck | ck
              · rw [show w_come (σ 140) 1 (u_lt (σ 140)) u_sg u_nd ((v11 - 10) / 2) x (t + 1, a, r, y_wK i t (i t + 1), o, u, v) = (x, (t + 1, a, r, y_wK i t (i t + 1), o, u, v)) by rw [w_come_q, if_pos ck.1]] at hz
                have hE := hz ck.1
                refine k _ _ (y_sm_tr (y_sm_tr (y_sm_tr (y_sm_tr (y_sm_tr Bt (y_sm_e e13 (Or.inl (by decide)))) (y_sm_e e22 (Or.inr ⟨rfl, by decide⟩))) (y_sm_e e24 (Or.inr ⟨rfl, by decide⟩))) (y_sm_e e33 (Or.inr ⟨rfl, by decide⟩))) (y_sm_w (by decide) (by decide) f34)) ?_
                rw [← hE]
                exact ⟨Or.inr (Or.inr ⟨ck.2.1, ck.2.2.1, rfl, ck.2.2.2⟩), (by rw [f34 138 18 (by decide) (by decide), x_up_ne e33 (by decide), x_up_ne e24 (by decide), x_up_ne e22 (by decide), x_up_nr e13 (by decide)]; exact h18), ho, fun j hj => by rw [y_sm_a f34 151 (by decide) (by decide), x_up_nr e33 (by decide), x_up_nr e24 (by decide), x_up_nr e22 (by decide), x_up_nr e13 (by decide)]; exact hout j hj⟩
              · have xb := G.1 x ck.1
                rw [w_come_n ck.1.1 ck.2.1] at hz
                have hE := hz (by show -10 - u_nd x < 0; omega)
                refine k _ _ (y_sm_tr (y_sm_tr (y_sm_tr (y_sm_tr (y_sm_tr Bt (y_sm_e e13 (Or.inl (by decide)))) (y_sm_e e22 (Or.inr ⟨rfl, by decide⟩))) (y_sm_e e24 (Or.inr ⟨rfl, by decide⟩))) (y_sm_e e33 (Or.inr ⟨rfl, by decide⟩))) (y_sm_w (by decide) (by decide) f34)) ?_
                rw [← hE]
                exact ⟨Or.inr (Or.inr ⟨by show -10 - u_nd x ≤ -10; omega, by show -49 ≤ -10 - u_nd x; omega, rfl, by show _ = -10 - (-10 - u_nd x); rw [ck.2.2]; omega⟩), (by rw [f34 138 18 (by decide) (by decide), x_up_ne e33 (by decide), x_up_ne e24 (by decide), x_up_ne e22 (by decide), x_up_nr e13 (by decide)]; exact h18), ho, fun j hj => by rw [y_sm_a f34 151 (by decide) (by decide), x_up_nr e33 (by decide), x_up_nr e24 (by decide), x_up_nr e22 (by decide), x_up_nr e13 (by decide)]; exact hout j hj⟩
          · skip
            refine x_fall ?_
            refine x_blk (b := 11) (a_116 E) rfl ?_
            unfold b_116_11
            refine x_if_eq (by omega) (by omega) (fun z37 => ?_) (fun z => absurd (by omega) z)
            refine x_blk (b := 7) (a_116 E) rfl ?_
            unfold b_116_7
            refine x_aload rfl ?_
            refine x_getR (r := 138) rfl (by decide) (by decide) rfl ?_
            refine x_iload rfl ?_
            refine x_iald (r := 153) (n := 128) (m := t) rfl rfl (by decide) (fun _ => rfl) (by omega) (by omega) (by omega) ?_
            have q38_0 : S24 153 (t) = S22 153 (t) := x_up_nr e24 (by decide)
            have q38_1 : S22 153 (t) = S13 153 (t) := x_up_nr e22 (by decide)
            have q38_2 : S13 153 (t) = τ 153 (t) := x_up_nr e13 (by decide)
            rw [q38_0, q38_1, q38_2]
            rw [ct.2.2.2.1]
            intro g38a g38b
            refine x_push 1 rfl ?_
            refine x_iadd ?_
            have n1 := y_rf_n F24 (1 : Int).toNat
            have cw := w_ch_0 (A := σ 140) (p := 1) (f := σ 140 (68 + 12 * (u_rl (a t)).toNat + (u_pi (a t)).toNat)) (z := v11) (by omega) (by omega)
            obtain ⟨x, hx⟩ : ∃ x : Int, x = u_bl (σ 140) l P V (a t) (w_ch (σ 140) 1 (u_lt (σ 140) (a t)) v11) := ⟨_, rfl⟩
            have xe : u_at (σ 140) l P V (u_nd (a t)) (u_rl (a t)) (u_pi (a t) + 1) = x := by
              rw [hx]
              show _ = u_bl (σ 140) l P V (a t) (w_ch (σ 140) 1 (σ 140 (68 + 12 * (u_rl (a t)).toNat + (u_pi (a t)).toNat)) v11)
              rw [cw]
              unfold u_bl
              rw [if_pos rfl]
            refine x_fall ?_
            refine x_blk (b := 8) (a_116 E) rfl ?_
            unfold b_116_8
            refine x_put138 (by decide) rfl ⟨by decide, rfl⟩ (by decide) F24 (by omega) (by omega) (fun S39 e39 F39 => ?_)
            refine x_aload rfl ?_
            refine x_iload rfl ?_
            refine x_push 10 rfl ?_
            refine x_isub ?_
            refine x_push 2 rfl ?_
            refine x_idiv (by omega) (by omega) (by omega) (by omega) ?_
            have w24 : S39 138 24 = u_rl (a t) := by rw [x_up_ne e39 (by decide), x_up_ne e24 (by decide), x_up_at e22]
            have w26 : S39 138 26 = u_nd (a t) := by rw [x_up_ne e39 (by decide), x_up_at e24]
            have w25 := x_up_at e39
            have p14 : S39 138 14 = τ 138 14 := by rw [x_up_ne e39 (by decide), x_up_ne e24 (by decide), x_up_ne e22 (by decide), x_up_nr e13 (by decide)]
            have k0 := u_ch_ok hP o3 o4 o5 o6 D5 (c := 0) (Or.inl ⟨rfl, by omega⟩)
            have un1 : u_ok (σ 140) l n (S39 138 26) (S39 138 24) (S39 138 25) := by
              rw [w24, w26, w25]
              exact ⟨⟨o1, o2⟩, ⟨o3, o4⟩, ⟨by omega, by omega⟩, o7⟩
            have hX1 : u_at (σ 140) l P V (S39 138 26) (S39 138 24) (S39 138 25) = x := by
              rw [w24, w26, w25]
              exact xe
            refine x_cV (fun _ => rfl) rfl (by decide) (Nat.le_of_ble_eq_true rfl) ?_
            refine rx_194 (by omega) (by omega) (y_sm_tr (y_sm_tr (y_sm_tr (y_sm_tr Bt (y_sm_e e13 (Or.inl (by decide)))) (y_sm_e e22 (Or.inr ⟨rfl, by decide⟩))) (y_sm_e e24 (Or.inr ⟨rfl, by decide⟩))) (y_sm_e e39 (Or.inr ⟨rfl, by decide⟩))) hP n11 tr ms gr un1 hX1 (by omega) (fun S40 f40 cD40 cs40 ca40 cb40 cc40 cd40 ce40 cf40 cg40 => ?_) (fun S40 f40 ck40 => ?_)
            · skip
              have B40 : y_bs σ S40 := y_sm_tr (y_sm_tr (y_sm_tr (y_sm_tr (y_sm_tr Bt (y_sm_e e13 (Or.inl (by decide)))) (y_sm_e e22 (Or.inr ⟨rfl, by decide⟩))) (y_sm_e e24 (Or.inr ⟨rfl, by decide⟩))) (y_sm_e e39 (Or.inr ⟨rfl, by decide⟩))) (y_sm_w (by decide) (by decide) f40)
              have F40 := y_bs_F B40
              refine x_if_ne (by omega) (by omega) (fun z => absurd z (by omega)) (fun z41 => ?_)
              refine x_blk (b := 9) (a_116 E) rfl ?_
              unfold b_116_9
              refine x_goto ?_
              refine x_blk (b := 5) (a_116 E) rfl ?_
              unfold b_116_5
              refine x_goto ?_
              refine x_G_lo (lo' := [(0, x_R 138)]) ⟨rfl, trivial⟩ ?_
              obtain ⟨M, hM, hr, hi, hz⟩ := w_run_p hP G (hI (by omega)).1 (show 0 < t + 1 by omega) (hI (by omega)).2 hrun
              rw [w_step_call (by omega) (by omega), ← pe, ← hx, w_come_y cD40.1 cs40] at hr hi
              have eH : (S39 138 14).toNat = t + 1 := by omega
              rw [eH] at cb40 cc40 cd40 ce40 cf40 cg40
              have old : ∀ q m, q = 148 ∨ q = 150 ∨ q = 153 ∨ q = 154 → S39 q m = τ q m := fun q m hq => by
                rw [x_up_nr e39 (by omega), x_up_nr e24 (by omega), x_up_nr e22 (by omega), x_up_nr e13 (by omega)]
              refine ih M (by omega) (t + 2) _ _ _ o u _ S40 (y_sm_tr (y_sm_tr (y_sm_tr (y_sm_tr (y_sm_tr Bt (y_sm_e e13 (Or.inl (by decide)))) (y_sm_e e22 (Or.inr ⟨rfl, by decide⟩))) (y_sm_e e24 (Or.inr ⟨rfl, by decide⟩))) (y_sm_e e39 (Or.inr ⟨rfl, by decide⟩))) (y_sm_w (by decide) (by decide) f40)) ⟨by omega, fun j hj => ?_, ?_, fun j hj => ?_⟩ ho (fun h => hi rfl h) hr
              · by_cases cj : j = t + 1
                · rw [cj, y_wK_e, y_wK_e, y_wK_e]
                  exact ⟨cc40, cd40, ce40, cf40, cg40⟩
                · have hj2 := hent j (by omega)
                  rw [y_wK_o cj, y_wK_o cj, y_wK_o cj]
                  refine ⟨(cb40 148 j (by simp) cj).trans ((old 148 j (by simp)).trans hj2.1), (cb40 149 j (by simp) cj).trans ?_, (cb40 150 j (by simp) cj).trans ((old 150 j (by simp)).trans hj2.2.2.1), (cb40 153 j (by simp) cj).trans ((old 153 j (by simp)).trans hj2.2.2.2.1), (cb40 154 j (by simp) cj).trans ((old 154 j (by simp)).trans hj2.2.2.2.2)⟩
                  rw [x_up_nr e39 (by decide), x_up_nr e24 (by decide), x_up_nr e22 (by decide)]
                  by_cases ck : j = t
                  · rw [ck, y_wK_e]; exact x_up_at e13
                  · rw [y_wK_o ck, x_up_ne e13 (fun z => ck z.2)]; exact hj2.2.1
              · rw [f40 138 18 (by decide) (by decide), x_up_ne e39 (by decide), x_up_ne e24 (by decide), x_up_ne e22 (by decide), x_up_nr e13 (by decide)]; exact h18
              · rw [y_sm_a f40 151 (by decide) (by decide), x_up_nr e39 (by decide), x_up_nr e24 (by decide), x_up_nr e22 (by decide), x_up_nr e13 (by decide)]; exact hout j hj
            · skip
              have B40 := y_bs_us (y_sm_tr (y_sm_tr (y_sm_tr (y_sm_tr Bt (y_sm_e e13 (Or.inl (by decide)))) (y_sm_e e22 (Or.inr ⟨rfl, by decide⟩))) (y_sm_e e24 (Or.inr ⟨rfl, by decide⟩))) (y_sm_e e39 (Or.inr ⟨rfl, by decide⟩))) f40
              have F40 := y_bs_F B40
              refine x_if_ne (by omega) (by omega) (fun z42 => ?_) (fun z => absurd (by omega) z)
              refine x_push 1 rfl ?_
              refine x_iret ?_
              obtain ⟨M, hM, hr, hi, hz⟩ := w_run_p hP G (hI (by omega)).1 (show 0 < t + 1 by omega) (hI (by omega)).2 hrun
              rw [w_step_call (by omega) (by omega), ← pe, ← hx] at hz
              rcases ck40 with ck | ck
              · rw [show w_come (σ 140) 1 (u_lt (σ 140)) u_sg u_nd ((v11 - 10) / 2) x (t + 1, a, r, y_wK i t (i t + 1), o, u, v) = (x, (t + 1, a, r, y_wK i t (i t + 1), o, u, v)) by rw [w_come_q, if_pos ck.1]] at hz
                have hE := hz ck.1
                refine k _ _ (y_sm_tr (y_sm_tr (y_sm_tr (y_sm_tr (y_sm_tr Bt (y_sm_e e13 (Or.inl (by decide)))) (y_sm_e e22 (Or.inr ⟨rfl, by decide⟩))) (y_sm_e e24 (Or.inr ⟨rfl, by decide⟩))) (y_sm_e e39 (Or.inr ⟨rfl, by decide⟩))) (y_sm_w (by decide) (by decide) f40)) ?_
                rw [← hE]
                exact ⟨Or.inr (Or.inr ⟨ck.2.1, ck.2.2.1, rfl, ck.2.2.2⟩), (by rw [f40 138 18 (by decide) (by decide), x_up_ne e39 (by decide), x_up_ne e24 (by decide), x_up_ne e22 (by decide), x_up_nr e13 (by decide)]; exact h18), ho, fun j hj => by rw [y_sm_a f40 151 (by decide) (by decide), x_up_nr e39 (by decide), x_up_nr e24 (by decide), x_up_nr e22 (by decide), x_up_nr e13 (by decide)]; exact hout j hj⟩
              · have xb := G.1 x ck.1
                rw [w_come_n ck.1.1 ck.2.1] at hz
                have hE := hz (by show -10 - u_nd x < 0; omega)
                refine k _ _ (y_sm_tr (y_sm_tr (y_sm_tr (y_sm_tr (y_sm_tr Bt (y_sm_e e13 (Or.inl (by decide)))) (y_sm_e e22 (Or.inr ⟨rfl, by decide⟩))) (y_sm_e e24 (Or.inr ⟨rfl, by decide⟩))) (y_sm_e e39 (Or.inr ⟨rfl, by decide⟩))) (y_sm_w (by decide) (by decide) f40)) ?_
                rw [← hE]
                exact ⟨Or.inr (Or.inr ⟨by show -10 - u_nd x ≤ -10; omega, by show -49 ≤ -10 - u_nd x; omega, rfl, by show _ = -10 - (-10 - u_nd x); rw [ck.2.2]; omega⟩), (by rw [f40 138 18 (by decide) (by decide), x_up_ne e39 (by decide), x_up_ne e24 (by decide), x_up_ne e22 (by decide), x_up_nr e13 (by decide)]; exact h18), ho, fun j hj => by rw [y_sm_a f40 151 (by decide) (by decide), x_up_nr e39 (by decide), x_up_nr e24 (by decide), x_up_nr e22 (by decide), x_up_nr e13 (by decide)]; exact hout j hj⟩
theorem rx_116 {E : q_E} {σ : x_S} {Q : Option q_V → x_S → Prop} (hP : y_PI (σ 140)) {n : Nat} {l P V : Nat → Int} (n11 : n ≤ 11) (n0 : 1 ≤ n) (tr : y_tr l n) (ms : y_ms (σ 140) 0 l n P V) (gr : ∀ v, v < n → σ 145 v = l v ∧ σ 146 v = P v ∧ σ 147 v = V v) {R : Int × w_C} (hR : w_run (σ 140) 1 (u_lt (σ 140)) u_sg u_nd (u_bl (σ 140) l P V) 100000 (w_come (σ 140) 1 (u_lt (σ 140)) u_sg u_nd 0 (u_mk (σ 140) l P V 11 0 0) w_0) = R) (k : ∀ τ h, y_bs σ τ → y_RF τ h R → Q (some (x_I h)) τ) : x_P E 116 [x_R 138] σ Q := by
  have ru := hP.2.2.2.1
  have kd := hP.1
  have h62 := hP.2.2.2.1
  refine x_Mt e_116 (h_116 E) (Nat.le_of_ble_eq_true rfl) t_116 rfl ?_
  refine x_blk (b := 0) (a_116 E) rfl ?_
  unfold b_116_0
  refine x_aload rfl ?_
  refine x_push 0 rfl ?_
  refine x_put138 (by decide) rfl ⟨by decide, rfl⟩ (by decide) y_rf_rf (by omega) (by omega) (fun S1 e1 F1 => ?_)
  refine x_aload rfl ?_
  refine x_push 0 rfl ?_
  refine x_put138 (by decide) rfl ⟨by decide, rfl⟩ (by decide) F1 (by omega) (by omega) (fun S2 e2 F2 => ?_)
  refine x_aload rfl ?_
  refine x_push 0 rfl ?_
  refine x_push 0 rfl ?_
  refine x_cV (fun _ => rfl) rfl (by decide) (Nat.le_of_ble_eq_true rfl) ?_
  refine rx_117 (by omega) (by omega) (by omega) (y_sm_tr (y_sm_tr y_sm_rf (y_sm_e e1 (Or.inr ⟨rfl, by decide⟩))) (y_sm_e e2 (Or.inr ⟨rfl, by decide⟩))) hP n11 tr ms gr (by omega) (fun S3 f3 ra3 rb3 rc3 rd3 re3 => ?_) (fun S3 f3 rd3 re3 => ?_)
  · skip
    have B3 := y_bs_us (y_sm_tr (y_sm_tr y_sm_rf (y_sm_e e1 (Or.inr ⟨rfl, by decide⟩))) (y_sm_e e2 (Or.inr ⟨rfl, by decide⟩))) f3
    have F3 := y_bs_F B3
    refine x_if_eq (by omega) (by omega) (fun z => absurd z (by omega)) (fun z4 => ?_)
    have p14 : S3 138 14 = 0 := (f3 138 14 (by decide) (by decide)).trans (x_up_at e2)
    have p18 : S3 138 18 = 0 := (f3 138 18 (by decide) (by decide)).trans ((x_up_ne e2 (by decide)).trans (x_up_at e1))
    have mb := (u_mk_b (A := σ 140) (q := 0) (y := 0) hP tr ms n11 (by omega) (by omega)).2 rd3
    have un1 : u_ok (σ 140) l n (S3 138 26) (S3 138 24) (S3 138 25) := by rw [ra3, rb3, rc3]; exact mb.1
    have hX1 : u_at (σ 140) l P V (S3 138 26) (S3 138 24) (S3 138 25) = u_mk (σ 140) l P V 11 0 0 := by rw [ra3, rb3, rc3]; exact mb.2
    refine x_aload rfl ?_
    refine x_push 0 rfl ?_
    refine x_cV (fun _ => rfl) rfl (by decide) (Nat.le_of_ble_eq_true rfl) ?_
    refine rx_194 (by omega) (by omega) (y_sm_tr (y_sm_tr (y_sm_tr y_sm_rf (y_sm_e e1 (Or.inr ⟨rfl, by decide⟩))) (y_sm_e e2 (Or.inr ⟨rfl, by decide⟩))) (y_sm_w (by decide) (by decide) f3)) hP n11 tr ms gr un1 hX1 (by omega) (fun S5 f5 cD5 cs5 ca5 cb5 cc5 cd5 ce5 cf5 cg5 => ?_) (fun S5 f5 ck5 => ?_)
    · skip
      have B5 : y_bs σ S5 := y_sm_tr (y_sm_tr (y_sm_tr (y_sm_tr y_sm_rf (y_sm_e e1 (Or.inr ⟨rfl, by decide⟩))) (y_sm_e e2 (Or.inr ⟨rfl, by decide⟩))) (y_sm_w (by decide) (by decide) f3)) (y_sm_w (by decide) (by decide) f5)
      have F5 := y_bs_F B5
      refine x_if_ne (by omega) (by omega) (fun z => absurd z (by omega)) (fun z6 => ?_)
      refine x_G_lo (lo' := [(0, x_R 138)]) ⟨rfl, trivial⟩ ?_
      have e0 : (S3 138 14).toNat = 0 := by omega
      rw [e0] at cc5 cd5 ce5 cf5 cg5
      have q18 : S5 138 18 = 0 := (f5 138 18 (by decide) (by decide)).trans p18
      have G := w_GU (A := σ 140) hP tr ms n11
      have x0 : 0 ≤ u_mk (σ 140) l P V 11 0 0 := cD5.1
      have hs : w_come (σ 140) 1 (u_lt (σ 140)) u_sg u_nd 0 (u_mk (σ 140) l P V 11 0 0) w_0 = (0, (1, y_wK (fun _ => 0) 0 (u_mk (σ 140) l P V 11 0 0), y_wK (fun _ => 0) 0 (y_sel (σ 140) 1 0 (σ 140 (68 + 12 * (u_rl (u_mk (σ 140) l P V 11 0 0)).toNat + (u_pi (u_mk (σ 140) l P V 11 0 0)).toNat)) 2 (σ 140 62).toNat), y_wK (fun _ => 0) 0 0, 0, fun _ => 0, y_wK (fun _ => 0) (u_nd (u_mk (σ 140) l P V 11 0 0)).toNat (0 + 1))) := w_come_y x0 cs5
      have c0 := w_come0 (p := 1) (sg := u_sg) (q := 0) (x := u_mk (σ 140) l P V 11 0 0) hP G (Or.inr ⟨cD5, (G.1 _ cD5).2.2.2.1⟩)
      rw [hs] at c0
      have hR2 := hR
      rw [hs] at hR2
      have c1 := c0.resolve_right (fun z => absurd z.2 (by show ¬ ((0 : Int) ≤ -10); decide))
      refine rx_116_b2 hP n11 n0 tr ms gr hR k 100000 1 _ _ _ 0 _ _ S5 (y_sm_tr (y_sm_tr (y_sm_tr (y_sm_tr y_sm_rf (y_sm_e e1 (Or.inr ⟨rfl, by decide⟩))) (y_sm_e e2 (Or.inr ⟨rfl, by decide⟩))) (y_sm_w (by decide) (by decide) f3)) (y_sm_w (by decide) (by decide) f5)) ⟨by omega, fun j hj => ?_, by omega, fun j hj => absurd hj (by omega)⟩ (by omega) (fun _ => ⟨c1.2.2.1, Int.le_trans c1.2.2.2 (by omega)⟩) hR2
      have hj0 : j = 0 := by omega
      rw [hj0, y_wK_e, y_wK_e, y_wK_e]
      exact ⟨cc5, cd5, ce5, cf5, cg5⟩
    · skip
      have B5 := y_bs_us (y_sm_tr (y_sm_tr (y_sm_tr y_sm_rf (y_sm_e e1 (Or.inr ⟨rfl, by decide⟩))) (y_sm_e e2 (Or.inr ⟨rfl, by decide⟩))) (y_sm_w (by decide) (by decide) f3)) f5
      have F5 := y_bs_F B5
      refine x_if_ne (by omega) (by omega) (fun z7 => ?_) (fun z => absurd (by omega) z)
      refine x_fall ?_
      refine x_blk (b := 1) (a_116 E) rfl ?_
      unfold b_116_1
      refine x_push 1 rfl ?_
      refine x_iret ?_
      have z18 : S5 138 18 = ((0 : Nat) : Int) := (f5 138 18 (by decide) (by decide)).trans ((f3 138 18 (by decide) (by decide)).trans ((x_up_ne e2 (by decide)).trans (x_up_at e1)))
      rcases ck5 with ck | ck
      · have hs : w_come (σ 140) 1 (u_lt (σ 140)) u_sg u_nd 0 (u_mk (σ 140) l P V 11 0 0) w_0 = (u_mk (σ 140) l P V 11 0 0, w_0) := by
          show w_come _ _ _ _ _ _ _ (0, fun _ => 0, fun _ => 0, fun _ => 0, 0, fun _ => 0, fun _ => 0) = _
          rw [w_come_q, if_pos ck.1]
          rfl
        rw [hs, w_run_t (fun y => absurd y.1 (by show ¬ (u_mk (σ 140) l P V 11 0 0 = 0); omega)) 100000] at hR
        refine k _ _ (y_sm_tr (y_sm_tr (y_sm_tr (y_sm_tr y_sm_rf (y_sm_e e1 (Or.inr ⟨rfl, by decide⟩))) (y_sm_e e2 (Or.inr ⟨rfl, by decide⟩))) (y_sm_w (by decide) (by decide) f3)) (y_sm_w (by decide) (by decide) f5)) ?_
        rw [← hR]
        exact ⟨Or.inr (Or.inr ⟨ck.2.1, ck.2.2.1, rfl, ck.2.2.2⟩), z18, by omega, fun j hj => absurd hj (by omega)⟩
      · have G := w_GU (A := σ 140) hP tr ms n11
        have xb := G.1 _ ck.1
        have hs : w_come (σ 140) 1 (u_lt (σ 140)) u_sg u_nd 0 (u_mk (σ 140) l P V 11 0 0) w_0 = (-10 - u_nd (u_mk (σ 140) l P V 11 0 0), (0, fun _ => 0, fun _ => 0, fun _ => 0, 0, fun _ => 0, y_wK (fun _ => 0) (u_nd (u_mk (σ 140) l P V 11 0 0)).toNat (0 + 1))) := w_come_n ck.1.1 ck.2.1
        rw [hs, w_run_t (fun y => absurd y.1 (by show ¬ (-10 - u_nd (u_mk (σ 140) l P V 11 0 0) = 0); omega)) 100000] at hR
        refine k _ _ (y_sm_tr (y_sm_tr (y_sm_tr (y_sm_tr y_sm_rf (y_sm_e e1 (Or.inr ⟨rfl, by decide⟩))) (y_sm_e e2 (Or.inr ⟨rfl, by decide⟩))) (y_sm_w (by decide) (by decide) f3)) (y_sm_w (by decide) (by decide) f5)) ?_
        rw [← hR]
        exact ⟨Or.inr (Or.inr ⟨by omega, by omega, rfl, by rw [ck.2.2]; omega⟩), z18, by omega, fun j hj => absurd hj (by omega)⟩
  · skip
    have B3 := y_bs_us (y_sm_tr (y_sm_tr y_sm_rf (y_sm_e e1 (Or.inr ⟨rfl, by decide⟩))) (y_sm_e e2 (Or.inr ⟨rfl, by decide⟩))) f3
    have F3 := y_bs_F B3
    refine x_if_eq (by omega) (by omega) (fun z8 => ?_) (fun z => absurd (by omega) z)
    refine x_blk (b := 1) (a_116 E) rfl ?_
    unfold b_116_1
    refine x_push 1 rfl ?_
    refine x_iret ?_
    have m0 := (u_mk_b (A := σ 140) (q := 0) (y := 0) hP tr ms n11 (by omega) (by omega)).1 rd3
    have hs : w_come (σ 140) 1 (u_lt (σ 140)) u_sg u_nd 0 (u_mk (σ 140) l P V 11 0 0) w_0 = (u_mk (σ 140) l P V 11 0 0, w_0) := by
      show w_come _ _ _ _ _ _ _ (0, fun _ => 0, fun _ => 0, fun _ => 0, 0, fun _ => 0, fun _ => 0) = _
      rw [w_come_q, if_pos (by omega)]
      rfl
    rw [hs, w_run_t (fun y => absurd y.1 (by show ¬ (u_mk (σ 140) l P V 11 0 0 = 0); omega)) 100000] at hR
    refine k _ _ (y_sm_tr (y_sm_tr (y_sm_tr y_sm_rf (y_sm_e e1 (Or.inr ⟨rfl, by decide⟩))) (y_sm_e e2 (Or.inr ⟨rfl, by decide⟩))) (y_sm_w (by decide) (by decide) f3)) ?_
    rw [← hR]
    exact ⟨Or.inr (Or.inr ⟨by omega, by omega, rfl, by omega⟩), (f3 138 18 (by decide) (by decide)).trans ((x_up_ne e2 (by decide)).trans (x_up_at e1)), by omega, fun j hj => absurd hj (by omega)⟩
