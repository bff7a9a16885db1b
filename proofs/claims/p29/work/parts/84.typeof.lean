/-- the pieces of a rule -/
def y_W (σ : x_S) (r : Nat) : Nat → Int := fun i => σ 140 (63 + 12 * r + (5 + i))
theorem y_so_up {σ τ : x_S} {k : Nat} {v : Int} (e : τ = x_up σ 158 k v) : y_so σ τ := fun r m h => x_up_nr e h
theorem y_c9v (x : Int) : (9 < x → y_c9 x = 0) ∧ (x ≤ 9 → (x < 2 ∧ y_c9 x = 0) ∨ (x = 2 ∧ y_c9 x = 1) ∨ (2 < x ∧ y_c9 x = 2)) := by
  unfold y_c9 y_ch
  constructor
  · intro h
    rw [if_pos h]
  · intro h
    rw [if_neg (by omega)]
    (repeat' split) <;> omega
set_option maxHeartbeats 8000000 in
theorem rs_38_b14 {E : q_E} {σ : x_S} {Q : Option q_V → x_S → Prop} {a1 a2 a3 a4 : Int} (a1l : 0 ≤ a1) (a1h : a1 ≤ 1) (a2l : 0 ≤ a2) (a2h : a2 ≤ 15) (a3l : 0 ≤ a3) (a3h : a3 ≤ 53) (a4l : 0 ≤ a4) (a4h : a4 ≤ 53) (rq0 : 0 ≤ a2 ∧ a2 < σ 140 62) (hP : y_PI (σ 140)) (k : ∀ τ v, y_rf σ τ → 0 ≤ v → v ≤ 2 → y_so σ τ → Q (some (x_I v)) τ) : ∀ (N : Nat) (n s i : Int) (τ : x_S), (i + 1).toNat = N → -1 ≤ i → i < σ 140 (63 + 12 * a2.toNat + 4) → 0 ≤ s → s ≤ 1 → n = y_op (y_W σ a2.toNat) (i + 1).toNat → n ≤ σ 140 (63 + 12 * a2.toNat + 4) - 1 - i → y_so σ τ → (∀ m : Nat, (m : Int) < n → 0 ≤ τ 158 m ∧ τ 158 m ≤ 1) → y_rf σ τ → x_G E m_38 Q (t_38 14) [(0, x_R 138), (1, x_I a1), (2, x_I a2), (3, x_I a3), (4, x_I a4), (5, x_I n), (6, x_I s), (7, x_I i)] [] τ := by
  have ru := hP.2.2.2.1
  have kd := hP.1
  intro N
  induction N using Nat.strongRecOn with
  | ind N ih =>
    intro n s i τ hN i1 i2 s1 s2 hn hnb hso hty F
    have h4 : 1 ≤ σ 140 (63 + 12 * a2.toNat + 4) ∧ σ 140 (63 + 12 * a2.toNat + 4) ≤ 7 := (y_rl_of hP rq0.1 rq0.2).2.2.2.2.1
    refine x_blk (b := 14) (a_38 E) rfl ?_
    unfold b_38_14
    refine x_iload rfl ?_
    refine x_if_lt (by omega) (by omega) (fun z1 => ?_) (fun z1 => ?_)
    · skip
      refine x_blk (b := 1) (a_38 E) rfl ?_
      unfold b_38_1
      have h0 : n = 1 := by rw [hn, show i = -1 by omega]; rfl
      have P0 := hty 0 (by omega)
      refine x_iload rfl ?_
      refine x_if_eq (by omega) (by omega) (fun z2 => ?_) (fun z2 => ?_)
      · skip
        refine x_blk (b := 15) (a_38 E) rfl ?_
        unfold b_38_15
        refine x_aload rfl ?_
        refine x_getR (r := 138) rfl (by decide) (by decide) rfl ?_
        refine x_push 0 rfl ?_
        refine x_iald (r := 158) (n := 8) (m := 0) rfl rfl (by decide) (fun _ => rfl) (by omega) (by omega) (by omega) ?_
        intro g3a g3b
        refine x_fall ?_
        refine x_blk (b := 16) (a_38 E) rfl ?_
        unfold b_38_16
        refine x_iret ?_
        exact k _ _ F (by omega) (by omega) hso
      · skip
        refine x_push 2 rfl ?_
        refine x_goto ?_
        refine x_blk (b := 16) (a_38 E) rfl ?_
        unfold b_38_16
        refine x_iret ?_
        exact k _ _ F (by omega) (by omega) hso
    · skip
      obtain ⟨j, hj⟩ : ∃ j : Nat, i = j := ⟨i.toNat, by omega⟩
      subst hj
      have hj : (5 + (j : Int) - 5).toNat = j := by omega
      rw [show ((j : Int) + 1).toNat = j + 1 by omega] at hn
      have hy : y_op (y_W σ a2.toNat) (j + 1) = y_op (y_W σ a2.toNat) j + y_c9 (σ 140 (63 + 12 * a2.toNat + (5 + j))) - 1 := rfl
      refine x_aload rfl ?_
      refine x_iload rfl ?_
      refine x_push 5 rfl ?_
      refine x_iload rfl ?_
      refine x_iadd ?_
      refine x_cV (fun _ => rfl) rfl (by decide) (Nat.le_of_ble_eq_true rfl) ?_
      refine rf_3_p F hP (by omega) (by omega) (by omega) (by omega) (fun v4 v4a v4b v4c v4d v4e => ?_)
      rw [hj] at v4d v4e
      have hop : 1 ≤ y_op (y_W σ a2.toNat) j := v4e
      rw [← v4d] at hy
      have c9 := y_c9v v4
      refine x_istore ?_
      refine x_iload rfl ?_
      refine x_push 9 rfl ?_
      refine x_icmp_le (by omega) (by omega) (by omega) (by omega) (fun z5 => ?_) (fun z5 => ?_)
      · skip
        refine x_blk (b := 2) (a_38 E) rfl ?_
        unfold b_38_2
        refine x_iload rfl ?_
        refine x_cS (fun _ => rfl) (Nat.le_of_ble_eq_true rfl) ?_
        refine rs_0 (by omega) (by omega) (fun v6 v6a v6b v6c => ?_)
        refine x_istore ?_
        refine x_X_lo (lo' := [(0, x_R 138), (1, x_I _), (2, x_I _), (3, x_I _), (4, x_I _), (5, x_I _), (6, x_I _), (7, x_I _), (8, x_I _), (9, x_I _)]) ⟨rfl, rfl, rfl, rfl, rfl, rfl, rfl, rfl, rfl, rfl, trivial⟩ ?_
        refine x_iload rfl ?_
        refine x_if_ne (by omega) (by omega) (fun z7 => ?_) (fun z7 => ?_)
        · skip
          refine x_push 0 rfl ?_
          refine x_goto ?_
          refine x_blk (b := 12) (a_38 E) rfl ?_
          unfold b_38_12
          refine x_istore ?_
          refine x_iload rfl ?_
          refine x_iload rfl ?_
          refine x_isub ?_
          refine x_istore ?_
          refine x_X_lo (lo' := [(0, x_R 138), (1, x_I _), (2, x_I _), (3, x_I _), (4, x_I _), (5, x_I _), (6, x_I _), (7, x_I _), (8, x_I _), (9, x_I _), (10, x_I _)]) ⟨rfl, rfl, rfl, rfl, rfl, rfl, rfl, rfl, rfl, rfl, rfl, trivial⟩ ?_
          refine x_aload rfl ?_
          refine x_getR (r := 138) rfl (by decide) (by decide) rfl ?_
          refine x_iload rfl ?_
          refine x_aload rfl ?_
          refine x_getR (r := 138) rfl (by decide) (by decide) rfl ?_
          refine x_push 1 rfl ?_
          refine x_iload rfl ?_
          refine x_iload rfl ?_
          refine x_cS (fun _ => rfl) (Nat.le_of_ble_eq_true rfl) ?_
          refine rs_17 (by omega) (by omega) (by omega) (by omega) (by omega) (by omega) (fun v8 v8a v8b => ?_)
          refine x_iald140 F (by omega) (by omega) ?_
          intro g9a g9b
          have en9 := hP.2.2.1 (v8).toNat (by omega) (by omega)
          refine x_astM y_m158 F (by omega) (by omega) (by omega) (by omega) (fun S10 e10 F10 => ?_)
          refine x_iinc 1 rfl rfl ?_
          refine x_fall ?_
          refine x_blk (b := 10) (a_38 E) rfl ?_
          unfold b_38_10
          refine x_iinc (-1) rfl rfl ?_
          refine x_X_lo (lo' := [(0, x_R 138), (1, x_I _), (2, x_I _), (3, x_I _), (4, x_I _), (5, x_I _), (6, x_I _), (7, x_I _), (8, x_I _), (9, x_I _), (10, x_I _)]) ⟨rfl, rfl, rfl, rfl, rfl, rfl, rfl, rfl, rfl, rfl, rfl, trivial⟩ ?_
          refine x_goto ?_
          refine x_G_lo (lo' := [(0, x_R 138), (1, x_I _), (2, x_I _), (3, x_I _), (4, x_I _), (5, x_I _), (6, x_I _), (7, x_I _)]) ⟨rfl, rfl, rfl, rfl, rfl, rfl, rfl, rfl, trivial⟩ ?_
          refine ih _ (by omega) _ _ _ S10 rfl (by omega) (by omega) (by omega) (by omega) ?_ (by omega) (y_so_tr hso (y_so_up e10)) (fun m hm => ?_) F10
          · rw [show ((j : Int) + -1 + 1).toNat = j by omega]; omega
          · by_cases cx : m = (n - v6).toNat
            · subst cx
              rw [x_up_at e10]; omega
            · rw [x_up_ne e10 (fun z => cx z.2)]; exact hty m (by omega)
        · skip
          refine x_blk (b := 11) (a_38 E) rfl ?_
          unfold b_38_11
          refine x_iload rfl ?_
          refine x_push 1 rfl ?_
          refine x_icmp_ne (by omega) (by omega) (by omega) (by omega) (fun z11 => ?_) (fun z11 => ?_)
          · skip
            have P1 := hty (n - 1).toNat (by omega)
            refine x_aload rfl ?_
            refine x_getR (r := 138) rfl (by decide) (by decide) rfl ?_
            refine x_iload rfl ?_
            refine x_push 1 rfl ?_
            refine x_isub ?_
            refine x_iald (r := 158) (n := 8) (m := (n - 1).toNat) rfl rfl (by decide) (fun _ => rfl) (by omega) (by omega) (by omega) ?_
            intro g12a g12b
            refine x_goto ?_
            refine x_blk (b := 12) (a_38 E) rfl ?_
            unfold b_38_12
            refine x_istore ?_
            refine x_iload rfl ?_
            refine x_iload rfl ?_
            refine x_isub ?_
            refine x_istore ?_
            refine x_X_lo (lo' := [(0, x_R 138), (1, x_I _), (2, x_I _), (3, x_I _), (4, x_I _), (5, x_I _), (6, x_I _), (7, x_I _), (8, x_I _), (9, x_I _), (10, x_I _)]) ⟨rfl, rfl, rfl, rfl, rfl, rfl, rfl, rfl, rfl, rfl, rfl, trivial⟩ ?_
            refine x_aload rfl ?_
            refine x_getR (r := 138) rfl (by decide) (by decide) rfl ?_
            refine x_iload rfl ?_
            refine x_aload rfl ?_
            refine x_getR (r := 138) rfl (by decide) (by decide) rfl ?_
            refine x_push 1 rfl ?_
            refine x_iload rfl ?_
            refine x_iload rfl ?_
            refine x_cS (fun _ => rfl) (Nat.le_of_ble_eq_true rfl) ?_
            refine rs_17 (by omega) (by omega) (by omega) (by omega) (by omega) (by omega) (fun v13 v13a v13b => ?_)
            refine x_iald140 F (by omega) (by omega) ?_
            intro g14a g14b
            have en14 := hP.2.2.1 (v13).toNat (by omega) (by omega)
            refine x_astM y_m158 F (by omega) (by omega) (by omega) (by omega) (fun S15 e15 F15 => ?_)
            refine x_iinc 1 rfl rfl ?_
            refine x_fall ?_
            refine x_blk (b := 10) (a_38 E) rfl ?_
            unfold b_38_10
            refine x_iinc (-1) rfl rfl ?_
            refine x_X_lo (lo' := [(0, x_R 138), (1, x_I _), (2, x_I _), (3, x_I _), (4, x_I _), (5, x_I _), (6, x_I _), (7, x_I _), (8, x_I _), (9, x_I _), (10, x_I _)]) ⟨rfl, rfl, rfl, rfl, rfl, rfl, rfl, rfl, rfl, rfl, rfl, trivial⟩ ?_
            refine x_goto ?_
            refine x_G_lo (lo' := [(0, x_R 138), (1, x_I _), (2, x_I _), (3, x_I _), (4, x_I _), (5, x_I _), (6, x_I _), (7, x_I _)]) ⟨rfl, rfl, rfl, rfl, rfl, rfl, rfl, rfl, trivial⟩ ?_
            refine ih _ (by omega) _ _ _ S15 rfl (by omega) (by omega) (by omega) (by omega) ?_ (by omega) (y_so_tr hso (y_so_up e15)) (fun m hm => ?_) F15
            · rw [show ((j : Int) + -1 + 1).toNat = j by omega]; omega
            · by_cases cx : m = (n - v6).toNat
              · subst cx
                rw [x_up_at e15]; omega
              · rw [x_up_ne e15 (fun z => cx z.2)]; exact hty m (by omega)
          · skip
            refine x_blk (b := 13) (a_38 E) rfl ?_
            unfold b_38_13
            have P1 := hty (n - 1).toNat (by omega)
            have P2 := hty (n - 2).toNat (by omega)
            refine x_push 2 rfl ?_
            refine x_aload rfl ?_
            refine x_getR (r := 138) rfl (by decide) (by decide) rfl ?_
            refine x_iload rfl ?_
            refine x_push 1 rfl ?_
            refine x_isub ?_
            refine x_iald (r := 158) (n := 8) (m := (n - 1).toNat) rfl rfl (by decide) (fun _ => rfl) (by omega) (by omega) (by omega) ?_
            intro g16a g16b
            refine x_imul ?_
            refine x_aload rfl ?_
            refine x_getR (r := 138) rfl (by decide) (by decide) rfl ?_
            refine x_iload rfl ?_
            refine x_push 2 rfl ?_
            refine x_isub ?_
            refine x_iald (r := 158) (n := 8) (m := (n - 2).toNat) rfl rfl (by decide) (fun _ => rfl) (by omega) (by omega) (by omega) ?_
            intro g17a g17b
            refine x_iadd ?_
            refine x_fall ?_
            refine x_blk (b := 12) (a_38 E) rfl ?_
            unfold b_38_12
            refine x_istore ?_
            refine x_iload rfl ?_
            refine x_iload rfl ?_
            refine x_isub ?_
            refine x_istore ?_
            refine x_X_lo (lo' := [(0, x_R 138), (1, x_I _), (2, x_I _), (3, x_I _), (4, x_I _), (5, x_I _), (6, x_I _), (7, x_I _), (8, x_I _), (9, x_I _), (10, x_I _)]) ⟨rfl, rfl, rfl, rfl, rfl, rfl, rfl, rfl, rfl, rfl, rfl, trivial⟩ ?_
            refine x_aload rfl ?_
            refine x_getR (r := 138) rfl (by decide) (by decide) rfl ?_
            refine x_iload rfl ?_
            refine x_aload rfl ?_
            refine x_getR (r := 138) rfl (by decide) (by decide) rfl ?_
            refine x_push 1 rfl ?_
            refine x_iload rfl ?_
            refine x_iload rfl ?_
            refine x_cS (fun _ => rfl) (Nat.le_of_ble_eq_true rfl) ?_
            refine rs_17 (by omega) (by omega) (by omega) (by omega) (by omega) (by omega) (fun v18 v18a v18b => ?_)
            refine x_iald140 F (by omega) (by omega) ?_
            intro g19a g19b
            have en19 := hP.2.2.1 (v18).toNat (by omega) (by omega)
            refine x_astM y_m158 F (by omega) (by omega) (by omega) (by omega) (fun S20 e20 F20 => ?_)
            refine x_iinc 1 rfl rfl ?_
            refine x_fall ?_
            refine x_blk (b := 10) (a_38 E) rfl ?_
            unfold b_38_10
            refine x_iinc (-1) rfl rfl ?_
            refine x_X_lo (lo' := [(0, x_R 138), (1, x_I _), (2, x_I _), (3, x_I _), (4, x_I _), (5, x_I _), (6, x_I _), (7, x_I _), (8, x_I _), (9, x_I _), (10, x_I _)]) ⟨rfl, rfl, rfl, rfl, rfl, rfl, rfl, rfl, rfl, rfl, rfl, trivial⟩ ?_
            refine x_goto ?_
            refine x_G_lo (lo' := [(0, x_R 138), (1, x_I _), (2, x_I _), (3, x_I _), (4, x_I _), (5, x_I _), (6, x_I _), (7, x_I _)]) ⟨rfl, rfl, rfl, rfl, rfl, rfl, rfl, rfl, trivial⟩ ?_
            refine ih _ (by omega) _ _ _ S20 rfl (by omega) (by omega) (by omega) (by omega) ?_ (by omega) (y_so_tr hso (y_so_up e20)) (fun m hm => ?_) F20
            · rw [show ((j : Int) + -1 + 1).toNat = j by omega]; omega
            · by_cases cx : m = (n - v6).toNat
              · subst cx
                rw [x_up_at e20]; omega
              · rw [x_up_ne e20 (fun z => cx z.2)]; exact hty m (by omega)
      · skip
        refine x_aload rfl ?_
        refine x_iload rfl ?_
        refine x_aload rfl ?_
        refine x_iload rfl ?_
        refine x_push 2 rfl ?_
        refine x_cV (fun _ => rfl) rfl (by decide) (Nat.le_of_ble_eq_true rfl) ?_
        refine rf_3_2 F hP (by omega) (by omega) (fun v21 v21a v21b v21c => ?_)
        refine x_iload rfl ?_
        refine x_cV (fun _ => rfl) rfl (by decide) (Nat.le_of_ble_eq_true rfl) ?_
        refine rs_32 (by omega) (by omega) (by omega) (by omega) (by omega) (by omega) (y_rf_P F hP) (fun y22 => ?_) (fun y22 => ?_)
        · skip
          refine x_if_eq (by omega) (by omega) (fun z => absurd z (by omega)) (fun z23 => ?_)
          refine x_iload rfl ?_
          refine x_goto ?_
          refine x_blk (b := 4) (a_38 E) rfl ?_
          unfold b_38_4
          refine x_iload rfl ?_
          refine x_push 10 rfl ?_
          refine x_isub ?_
          refine x_push 2 rfl ?_
          refine x_idiv (by omega) (by omega) (by omega) (by omega) ?_
          refine x_cS (fun _ => rfl) (Nat.le_of_ble_eq_true rfl) ?_
          refine rs_33 (by omega) (by omega) (by omega) (by omega) (fun v24 v24a v24b => ?_)
          refine x_istore ?_
          refine x_X_lo (lo' := [(0, x_R 138), (1, x_I _), (2, x_I _), (3, x_I _), (4, x_I _), (5, x_I _), (6, x_I _), (7, x_I _), (8, x_I _), (9, x_I _)]) ⟨rfl, rfl, rfl, rfl, rfl, rfl, rfl, rfl, rfl, rfl, trivial⟩ ?_
          refine x_iload rfl ?_
          refine x_if_ne (by omega) (by omega) (fun z25 => ?_) (fun z25 => ?_)
          · skip
            refine x_iload rfl ?_
            refine x_push 2 rfl ?_
            refine x_icmp_ne (by omega) (by omega) (by omega) (by omega) (fun z26 => ?_) (fun z26 => ?_)
            · skip
              refine x_fall ?_
              refine x_blk (b := 5) (a_38 E) rfl ?_
              unfold b_38_5
              refine x_push 1 rfl ?_
              refine x_goto ?_
              refine x_blk (b := 7) (a_38 E) rfl ?_
              unfold b_38_7
              refine x_istore ?_
              refine x_aload rfl ?_
              refine x_getR (r := 138) rfl (by decide) (by decide) rfl ?_
              refine x_iload rfl ?_
              refine x_iload rfl ?_
              refine x_push 2 rfl ?_
              refine x_icmp_ne (by omega) (by omega) (by omega) (by omega) (fun z27 => ?_) (fun z => absurd (by omega) z)
              refine x_push 0 rfl ?_
              refine x_goto ?_
              refine x_blk (b := 9) (a_38 E) rfl ?_
              unfold b_38_9
              refine x_astM y_m158 F (by omega) (by omega) (by omega) (by omega) (fun S28 e28 F28 => ?_)
              refine x_iinc 1 rfl rfl ?_
              refine x_X_lo (lo' := [(0, x_R 138), (1, x_I _), (2, x_I _), (3, x_I _), (4, x_I _), (5, x_I _), (6, x_I _), (7, x_I _), (8, x_I _), (9, x_I _)]) ⟨rfl, rfl, rfl, rfl, rfl, rfl, rfl, rfl, rfl, rfl, trivial⟩ ?_
              refine x_goto ?_
              refine x_blk (b := 10) (a_38 E) rfl ?_
              unfold b_38_10
              refine x_iinc (-1) rfl rfl ?_
              refine x_goto ?_
              refine x_G_lo (lo' := [(0, x_R 138), (1, x_I _), (2, x_I _), (3, x_I _), (4, x_I _), (5, x_I _), (6, x_I _), (7, x_I _)]) ⟨rfl, rfl, rfl, rfl, rfl, rfl, rfl, rfl, trivial⟩ ?_
              refine ih _ (by omega) _ _ _ S28 rfl (by omega) (by omega) (by omega) (by omega) ?_ (by omega) (y_so_tr hso (y_so_up e28)) (fun m hm => ?_) F28
              · rw [show ((j : Int) + -1 + 1).toNat = j by omega]; omega
              · by_cases cx : m = (n).toNat
                · subst cx
                  rw [x_up_at e28]; omega
                · rw [x_up_ne e28 (fun z => cx z.2)]; exact hty m (by omega)
            · skip
              refine x_blk (b := 6) (a_38 E) rfl ?_
              unfold b_38_6
              refine x_push 0 rfl ?_
              refine x_fall ?_
              refine x_blk (b := 7) (a_38 E) rfl ?_
              unfold b_38_7
              refine x_istore ?_
              refine x_aload rfl ?_
              refine x_getR (r := 138) rfl (by decide) (by decide) rfl ?_
              refine x_iload rfl ?_
              refine x_iload rfl ?_
              refine x_push 2 rfl ?_
              refine x_icmp_ne (by omega) (by omega) (by omega) (by omega) (fun z => absurd z (by omega)) (fun z29 => ?_)
              refine x_blk (b := 8) (a_38 E) rfl ?_
              unfold b_38_8
              refine x_iload rfl ?_
              refine x_fall ?_
              refine x_blk (b := 9) (a_38 E) rfl ?_
              unfold b_38_9
              refine x_astM y_m158 F (by omega) (by omega) (by omega) (by omega) (fun S30 e30 F30 => ?_)
              refine x_iinc 1 rfl rfl ?_
              refine x_X_lo (lo' := [(0, x_R 138), (1, x_I _), (2, x_I _), (3, x_I _), (4, x_I _), (5, x_I _), (6, x_I _), (7, x_I _), (8, x_I _), (9, x_I _)]) ⟨rfl, rfl, rfl, rfl, rfl, rfl, rfl, rfl, rfl, rfl, trivial⟩ ?_
              refine x_goto ?_
              refine x_blk (b := 10) (a_38 E) rfl ?_
              unfold b_38_10
              refine x_iinc (-1) rfl rfl ?_
              refine x_goto ?_
              refine x_G_lo (lo' := [(0, x_R 138), (1, x_I _), (2, x_I _), (3, x_I _), (4, x_I _), (5, x_I _), (6, x_I _), (7, x_I _)]) ⟨rfl, rfl, rfl, rfl, rfl, rfl, rfl, rfl, trivial⟩ ?_
              refine ih _ (by omega) _ _ _ S30 rfl (by omega) (by omega) (by omega) (by omega) ?_ (by omega) (y_so_tr hso (y_so_up e30)) (fun m hm => ?_) F30
              · rw [show ((j : Int) + -1 + 1).toNat = j by omega]; omega
              · by_cases cx : m = (n).toNat
                · subst cx
                  rw [x_up_at e30]; omega
                · rw [x_up_ne e30 (fun z => cx z.2)]; exact hty m (by omega)
          · skip
            refine x_blk (b := 5) (a_38 E) rfl ?_
            unfold b_38_5
            refine x_push 1 rfl ?_
            refine x_goto ?_
            refine x_blk (b := 7) (a_38 E) rfl ?_
            unfold b_38_7
            refine x_istore ?_
            refine x_aload rfl ?_
            refine x_getR (r := 138) rfl (by decide) (by decide) rfl ?_
            refine x_iload rfl ?_
            refine x_iload rfl ?_
            refine x_push 2 rfl ?_
            refine x_icmp_ne (by omega) (by omega) (by omega) (by omega) (fun z31 => ?_) (fun z31 => ?_)
            · skip
              refine x_push 0 rfl ?_
              refine x_goto ?_
              refine x_blk (b := 9) (a_38 E) rfl ?_
              unfold b_38_9
              refine x_astM y_m158 F (by omega) (by omega) (by omega) (by omega) (fun S32 e32 F32 => ?_)
              refine x_iinc 1 rfl rfl ?_
              refine x_X_lo (lo' := [(0, x_R 138), (1, x_I _), (2, x_I _), (3, x_I _), (4, x_I _), (5, x_I _), (6, x_I _), (7, x_I _), (8, x_I _), (9, x_I _)]) ⟨rfl, rfl, rfl, rfl, rfl, rfl, rfl, rfl, rfl, rfl, trivial⟩ ?_
              refine x_goto ?_
              refine x_blk (b := 10) (a_38 E) rfl ?_
              unfold b_38_10
              refine x_iinc (-1) rfl rfl ?_
              refine x_goto ?_
              refine x_G_lo (lo' := [(0, x_R 138), (1, x_I _), (2, x_I _), (3, x_I _), (4, x_I _), (5, x_I _), (6, x_I _), (7, x_I _)]) ⟨rfl, rfl, rfl, rfl, rfl, rfl, rfl, rfl, trivial⟩ ?_
              refine ih _ (by omega) _ _ _ S32 rfl (by omega) (by omega) (by omega) (by omega) ?_ (by omega) (y_so_tr hso (y_so_up e32)) (fun m hm => ?_) F32
              · rw [show ((j : Int) + -1 + 1).toNat = j by omega]; omega
              · by_cases cx : m = (n).toNat
                · subst cx
                  rw [x_up_at e32]; omega
                · rw [x_up_ne e32 (fun z => cx z.2)]; exact hty m (by omega)
            · skip
              refine x_blk (b := 8) (a_38 E) rfl ?_
              unfold b_38_8
              refine x_iload rfl ?_
              refine x_fall ?_
              refine x_blk (b := 9) (a_38 E) rfl ?_
              unfold b_38_9
              refine x_astM y_m158 F (by omega) (by omega) (by omega) (by omega) (fun S33 e33 F33 => ?_)
              refine x_iinc 1 rfl rfl ?_
              refine x_X_lo (lo' := [(0, x_R 138), (1, x_I _), (2, x_I _), (3, x_I _), (4, x_I _), (5, x_I _), (6, x_I _), (7, x_I _), (8, x_I _), (9, x_I _)]) ⟨rfl, rfl, rfl, rfl, rfl, rfl, rfl, rfl, rfl, rfl, trivial⟩ ?_
              refine x_goto ?_
              refine x_blk (b := 10) (a_38 E) rfl ?_
              unfold b_38_10
              refine x_iinc (-1) rfl rfl ?_
              refine x_goto ?_
              refine x_G_lo (lo' := [(0, x_R 138), (1, x_I _), (2, x_I _), (3, x_I _), (4, x_I _), (5, x_I _), (6, x_I _), (7, x_I _)]) ⟨rfl, rfl, rfl, rfl, rfl, rfl, rfl, rfl, trivial⟩ ?_
              refine ih _ (by omega) _ _ _ S33 rfl (by omega) (by omega) (by omega) (by omega) ?_ (by omega) (y_so_tr hso (y_so_up e33)) (fun m hm => ?_) F33
              · rw [show ((j : Int) + -1 + 1).toNat = j by omega]; omega
              · by_cases cx : m = (n).toNat
                · subst cx
                  rw [x_up_at e33]; omega
                · rw [x_up_ne e33 (fun z => cx z.2)]; exact hty m (by omega)
        · skip
          refine x_if_eq (by omega) (by omega) (fun z34 => ?_) (fun z => absurd (by omega) z)
          refine x_blk (b := 3) (a_38 E) rfl ?_
          unfold b_38_3
          refine x_iload rfl ?_
          refine x_fall ?_
          refine x_blk (b := 4) (a_38 E) rfl ?_
          unfold b_38_4
          refine x_iload rfl ?_
          refine x_push 10 rfl ?_
          refine x_isub ?_
          refine x_push 2 rfl ?_
          refine x_idiv (by omega) (by omega) (by omega) (by omega) ?_
          refine x_cS (fun _ => rfl) (Nat.le_of_ble_eq_true rfl) ?_
          refine rs_33 (by omega) (by omega) (by omega) (by omega) (fun v35 v35a v35b => ?_)
          refine x_istore ?_
          refine x_X_lo (lo' := [(0, x_R 138), (1, x_I _), (2, x_I _), (3, x_I _), (4, x_I _), (5, x_I _), (6, x_I _), (7, x_I _), (8, x_I _), (9, x_I _)]) ⟨rfl, rfl, rfl, rfl, rfl, rfl, rfl, rfl, rfl, rfl, trivial⟩ ?_
          refine x_iload rfl ?_
          refine x_if_ne (by omega) (by omega) (fun z36 => ?_) (fun z36 => ?_)
          · skip
            refine x_iload rfl ?_
            refine x_push 2 rfl ?_
            refine x_icmp_ne (by omega) (by omega) (by omega) (by omega) (fun z37 => ?_) (fun z37 => ?_)
            · skip
              refine x_fall ?_
              refine x_blk (b := 5) (a_38 E) rfl ?_
              unfold b_38_5
              refine x_push 1 rfl ?_
              refine x_goto ?_
              refine x_blk (b := 7) (a_38 E) rfl ?_
              unfold b_38_7
              refine x_istore ?_
              refine x_aload rfl ?_
              refine x_getR (r := 138) rfl (by decide) (by decide) rfl ?_
              refine x_iload rfl ?_
              refine x_iload rfl ?_
              refine x_push 2 rfl ?_
              refine x_icmp_ne (by omega) (by omega) (by omega) (by omega) (fun z38 => ?_) (fun z => absurd (by omega) z)
              refine x_push 0 rfl ?_
              refine x_goto ?_
              refine x_blk (b := 9) (a_38 E) rfl ?_
              unfold b_38_9
              refine x_astM y_m158 F (by omega) (by omega) (by omega) (by omega) (fun S39 e39 F39 => ?_)
              refine x_iinc 1 rfl rfl ?_
              refine x_X_lo (lo' := [(0, x_R 138), (1, x_I _), (2, x_I _), (3, x_I _), (4, x_I _), (5, x_I _), (6, x_I _), (7, x_I _), (8, x_I _), (9, x_I _)]) ⟨rfl, rfl, rfl, rfl, rfl, rfl, rfl, rfl, rfl, rfl, trivial⟩ ?_
              refine x_goto ?_
              refine x_blk (b := 10) (a_38 E) rfl ?_
              unfold b_38_10
              refine x_iinc (-1) rfl rfl ?_
              refine x_goto ?_
              refine x_G_lo (lo' := [(0, x_R 138), (1, x_I _), (2, x_I _), (3, x_I _), (4, x_I _), (5, x_I _), (6, x_I _), (7, x_I _)]) ⟨rfl, rfl, rfl, rfl, rfl, rfl, rfl, rfl, trivial⟩ ?_
              refine ih _ (by omega) _ _ _ S39 rfl (by omega) (by omega) (by omega) (by omega) ?_ (by omega) (y_so_tr hso (y_so_up e39)) (fun m hm => ?_) F39
              · rw [show ((j : Int) + -1 + 1).toNat = j by omega]; omega
              · by_cases cx : m = (n).toNat
                · subst cx
                  rw [x_up_at e39]; omega
                · rw [x_up_ne e39 (fun z => cx z.2)]; exact hty m (by omega)
            · skip
              refine x_blk (b := 6) (a_38 E) rfl ?_
              unfold b_38_6
              refine x_push 0 rfl ?_
              refine x_fall ?_
              refine x_blk (b := 7) (a_38 E) rfl ?_
              unfold b_38_7
              refine x_istore ?_
              refine x_aload rfl ?_
              refine x_getR (r := 138) rfl (by decide) (by decide) rfl ?_
              refine x_iload rfl ?_
              refine x_iload rfl ?_
              refine x_push 2 rfl ?_
              refine x_icmp_ne (by omega) (by omega) (by omega) (by omega) (fun z => absurd z (by omega)) (fun z40 => ?_)
              refine x_blk (b := 8) (a_38 E) rfl ?_
              unfold b_38_8
              refine x_iload rfl ?_
              refine x_fall ?_
              refine x_blk (b := 9) (a_38 E) rfl ?_
              unfold b_38_9
              refine x_astM y_m158 F (by omega) (by omega) (by omega) (by omega) (fun S41 e41 F41 => ?_)
              refine x_iinc 1 rfl rfl ?_
              refine x_X_lo (lo' := [(0, x_R 138), (1, x_I _), (2, x_I _), (3, x_I _), (4, x_I _), (5, x_I _), (6, x_I _), (7, x_I _), (8, x_I _), (9, x_I _)]) ⟨rfl, rfl, rfl, rfl, rfl, rfl, rfl, rfl, rfl, rfl, trivial⟩ ?_
              refine x_goto ?_
              refine x_blk (b := 10) (a_38 E) rfl ?_
              unfold b_38_10
              refine x_iinc (-1) rfl rfl ?_
              refine x_goto ?_
              refine x_G_lo (lo' := [(0, x_R 138), (1, x_I _), (2, x_I _), (3, x_I _), (4, x_I _), (5, x_I _), (6, x_I _), (7, x_I _)]) ⟨rfl, rfl, rfl, rfl, rfl, rfl, rfl, rfl, trivial⟩ ?_
              refine ih _ (by omega) _ _ _ S41 rfl (by omega) (by omega) (by omega) (by omega) ?_ (by omega) (y_so_tr hso (y_so_up e41)) (fun m hm => ?_) F41
              · rw [show ((j : Int) + -1 + 1).toNat = j by omega]; omega
              · by_cases cx : m = (n).toNat
                · subst cx
                  rw [x_up_at e41]; omega
                · rw [x_up_ne e41 (fun z => cx z.2)]; exact hty m (by omega)
          · skip
            refine x_blk (b := 5) (a_38 E) rfl ?_
            unfold b_38_5
            refine x_push 1 rfl ?_
            refine x_goto ?_
            refine x_blk (b := 7) (a_38 E) rfl ?_
            unfold b_38_7
            refine x_istore ?_
            refine x_aload rfl ?_
            refine x_getR (r := 138) rfl (by decide) (by decide) rfl ?_
            refine x_iload rfl ?_
            refine x_iload rfl ?_
            refine x_push 2 rfl ?_
            refine x_icmp_ne (by omega) (by omega) (by omega) (by omega) (fun z42 => ?_) (fun z42 => ?_)
            · skip
              refine x_push 0 rfl ?_
              refine x_goto ?_
              refine x_blk (b := 9) (a_38 E) rfl ?_
              unfold b_38_9
              refine x_astM y_m158 F (by omega) (by omega) (by omega) (by omega) (fun S43 e43 F43 => ?_)
              refine x_iinc 1 rfl rfl ?_
              refine x_X_lo (lo' := [(0, x_R 138), (1, x_I _), (2, x_I _), (3, x_I _), (4, x_I _), (5, x_I _), (6, x_I _), (7, x_I _), (8, x_I _), (9, x_I _)]) ⟨rfl, rfl, rfl, rfl, rfl, rfl, rfl, rfl, rfl, rfl, trivial⟩ ?_
              refine x_goto ?_
              refine x_blk (b := 10) (a_38 E) rfl ?_
              unfold b_38_10
              refine x_iinc (-1) rfl rfl ?_
              refine x_goto ?_
              refine x_G_lo (lo' := [(0, x_R 138), (1, x_I _), (2, x_I _), (3, x_I _), (4, x_I _), (5, x_I _), (6, x_I _), (7, x_I _)]) ⟨rfl, rfl, rfl, rfl, rfl, rfl, rfl, rfl, trivial⟩ ?_
              refine ih _ (by omega) _ _ _ S43 rfl (by omega) (by omega) (by omega) (by omega) ?_ (by omega) (y_so_tr hso (y_so_up e43)) (fun m hm => ?_) F43
              · rw [show ((j : Int) + -1 + 1).toNat = j by omega]; omega
              · by_cases cx : m = (n).toNat
                · subst cx
                  rw [x_up_at e43]; omega
                · rw [x_up_ne e43 (fun z => cx z.2)]; exact hty m (by omega)
            · skip
              refine x_blk (b := 8) (a_38 E) rfl ?_
              unfold b_38_8
              refine x_iload rfl ?_
              refine x_fall ?_
              refine x_blk (b := 9) (a_38 E) rfl ?_
              unfold b_38_9
              refine x_astM y_m158 F (by omega) (by omega) (by omega) (by omega) (fun S44 e44 F44 => ?_)
              refine x_iinc 1 rfl rfl ?_
              refine x_X_lo (lo' := [(0, x_R 138), (1, x_I _), (2, x_I _), (3, x_I _), (4, x_I _), (5, x_I _), (6, x_I _), (7, x_I _), (8, x_I _), (9, x_I _)]) ⟨rfl, rfl, rfl, rfl, rfl, rfl, rfl, rfl, rfl, rfl, trivial⟩ ?_
              refine x_goto ?_
              refine x_blk (b := 10) (a_38 E) rfl ?_
              unfold b_38_10
              refine x_iinc (-1) rfl rfl ?_
              refine x_goto ?_
              refine x_G_lo (lo' := [(0, x_R 138), (1, x_I _), (2, x_I _), (3, x_I _), (4, x_I _), (5, x_I _), (6, x_I _), (7, x_I _)]) ⟨rfl, rfl, rfl, rfl, rfl, rfl, rfl, rfl, trivial⟩ ?_
              refine ih _ (by omega) _ _ _ S44 rfl (by omega) (by omega) (by omega) (by omega) ?_ (by omega) (y_so_tr hso (y_so_up e44)) (fun m hm => ?_) F44
              · rw [show ((j : Int) + -1 + 1).toNat = j by omega]; omega
              · by_cases cx : m = (n).toNat
                · subst cx
                  rw [x_up_at e44]; omega
                · rw [x_up_ne e44 (fun z => cx z.2)]; exact hty m (by omega)
theorem rs_38 {E : q_E} {σ : x_S} {Q : Option q_V → x_S → Prop} {a1 a2 a3 a4 : Int} (a1l : 0 ≤ a1) (a1h : a1 ≤ 1) (a2l : 0 ≤ a2) (a2h : a2 ≤ 15) (a3l : 0 ≤ a3) (a3h : a3 ≤ 53) (a4l : 0 ≤ a4) (a4h : a4 ≤ 53) (rq0 : 0 ≤ a2 ∧ a2 < σ 140 62) (hP : y_PI (σ 140)) (k : ∀ τ v, y_rf σ τ → 0 ≤ v → v ≤ 2 → y_so σ τ → Q (some (x_I v)) τ) : x_P E 38 [x_R 138, x_I a1, x_I a2, x_I a3, x_I a4] σ Q := by
  have ru := hP.2.2.2.1
  have kd := hP.1
  refine x_Mt e_38 (h_38 E) (Nat.le_of_ble_eq_true rfl) t_38 rfl ?_
  refine x_blk (b := 0) (a_38 E) rfl ?_
  unfold b_38_0
  refine x_push 0 rfl ?_
  refine x_istore ?_
  refine x_push 0 rfl ?_
  refine x_istore ?_
  refine x_X_lo (lo' := [(0, x_R 138), (1, x_I _), (2, x_I _), (3, x_I _), (4, x_I _), (5, x_I _), (6, x_I _)]) ⟨rfl, rfl, rfl, rfl, rfl, rfl, rfl, trivial⟩ ?_
  refine x_aload rfl ?_
  refine x_iload rfl ?_
  refine x_push 4 rfl ?_
  refine x_cV (fun _ => rfl) rfl (by decide) (Nat.le_of_ble_eq_true rfl) ?_
  refine rf_3_4 y_rf_rf hP (by omega) (by omega) (fun v1 v1a v1b v1c => ?_)
  refine x_push 1 rfl ?_
  refine x_isub ?_
  refine x_istore ?_
  refine x_fall ?_
  refine x_G_lo (lo' := [(0, x_R 138), (1, x_I _), (2, x_I _), (3, x_I _), (4, x_I _), (5, x_I _), (6, x_I _), (7, x_I _)]) ⟨rfl, rfl, rfl, rfl, rfl, rfl, rfl, rfl, trivial⟩ ?_
  have hr := y_rl_of hP rq0.1 rq0.2
  exact rs_38_b14 a1l a1h a2l a2h a3l a3h a4l a4h rq0 hP k _ _ _ _ σ rfl (by omega) (by omega) (by omega) (by omega) ((hr.2.2.2.2.2.2).symm.trans (congrArg (y_op (y_W σ a2.toNat)) (show (σ 140 (63 + 12 * a2.toNat + 4)).toNat = _ by omega))) (by omega) y_so_rf (fun m hm => absurd hm (by omega)) y_rf_rf
