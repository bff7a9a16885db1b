/-! the reference: types of rules, profiles, which come -/
theorem rs_17x {E : q_E} {σ : x_S} {Q : Option q_V → x_S → Prop} {m f e : Int} (m1 : 0 ≤ m) (m2 : m ≤ 1) (f1 : 0 ≤ f) (f2 : f ≤ 4) (e1 : 0 ≤ e) (e2 : (f < 2 ∧ e < 1) ∨ (f = 2 ∧ e < 2) ∨ (2 < f ∧ e < 4)) (k : ∀ v, 38 ≤ v → v < 62 → v = y_tab m f e → Q (some (x_I v)) σ) : x_P E 17 [x_I m, x_I f, x_I e] σ Q := by
  refine c_17 (by omega) (by omega) (k _ ?_ ?_ rfl)
  · unfold y_tab; split <;> omega
  · unfold y_tab; split <;> omega
theorem cn_e140 {σ τ : x_S} (F : y_rf σ τ) : τ 140 = σ 140 := funext fun m => F 140 m (by decide) (fun z => absurd z (by decide))
theorem cn_soF {σ τ : x_S} (h : y_so σ τ) : τ 140 = σ 140 := funext fun m => h 140 m (by decide)
section
variable {A : Nat → Int} {p : Int} {r : Nat} {one two : Int}
theorem cn_stS {W : Nat → Int} {v : Int → Int} {tb : Int → Int → Int} {z j : Nat} (h : j < z) : cn_st W v tb z (z - j) = cn_p1 W v tb j (cn_st W v tb z (z - (j + 1))) := by
  rw [show z - j = (z - (j + 1)) + 1 by omega, cn_st_s, show z - 1 - (z - (j + 1)) = j by omega]
theorem cn_pl_l {j : Nat} {n x b : Int} {s s' : Nat → Int} (hz : j < (A (67 + 12 * r)).toNat) (hx : x = A (68 + 12 * r + j)) (x0 : 0 ≤ x) (x4 : x ≤ 4) (hn : n = y_op (cn_W A r) (j + 1)) (hc : y_ch x ≤ n) (h : ∀ m : Nat, (m : Int) < n → s m = cn_st (cn_W A r) (cn_vc A p r one two) (cn_tb A) (A (67 + 12 * r)).toNat ((A (67 + 12 * r)).toNat - (j + 1)) m) (hb : b = cn_by s n x) (hb2 : 0 ≤ b ∧ b < y_pw (y_ch x)) (hv : s' (n - y_ch x).toNat = A (y_tab 1 x b).toNat) (ho : ∀ m, m ≠ (n - y_ch x).toNat → s' m = s m) : ∀ m : Nat, (m : Int) < n - y_ch x + 1 → s' m = cn_st (cn_W A r) (cn_vc A p r one two) (cn_tb A) (A (67 + 12 * r)).toNat ((A (67 + 12 * r)).toNat - j) m := by
  intro m hm
  have hx2 : ¬ 9 < cn_W A r j := by show ¬ 9 < A (68 + 12 * r + j); rw [← hx]; omega
  have cb := y_ch_b x
  rw [cn_stS hz, cn_p1_l hx2, show cn_W A r j = x from hx.symm, ← hn, ← cn_by_x h hc, ← hb, cn_tb_e x0 x4 hb2.1 hb2.2]
  by_cases c : m = (n - y_ch x).toNat
  · rw [c, y_wK_e]; exact hv
  · rw [y_wK_o c, ho m c]; exact h m (by omega)
theorem cn_pl_c {j : Nat} {n x : Int} {s s' : Nat → Int} (hz : j < (A (67 + 12 * r)).toNat) (hx : x = A (68 + 12 * r + j)) (h9 : 9 < x) (hn : n = y_op (cn_W A r) (j + 1)) (n0 : 0 ≤ n) (h : ∀ m : Nat, (m : Int) < n → s m = cn_st (cn_W A r) (cn_vc A p r one two) (cn_tb A) (A (67 + 12 * r)).toNat ((A (67 + 12 * r)).toNat - (j + 1)) m) (hv : s' n.toNat = cn_vc A p r one two x) (ho : ∀ m, m ≠ n.toNat → s' m = s m) : ∀ m : Nat, (m : Int) < n + 1 → s' m = cn_st (cn_W A r) (cn_vc A p r one two) (cn_tb A) (A (67 + 12 * r)).toNat ((A (67 + 12 * r)).toNat - j) m := by
  intro m hm
  have hx2 : 9 < cn_W A r j := by show 9 < A (68 + 12 * r + j); rw [← hx]; exact h9
  rw [cn_stS hz, cn_p1_c hx2, show cn_W A r j = x from hx.symm, ← hn]
  by_cases c : m = n.toNat
  · rw [c, y_wK_e]; exact hv
  · rw [y_wK_o c, ho m c]; exact h m (by omega)
theorem cn_stk_l {j : Nat} {x s : Int} (hx : x = A (68 + 12 * r + j)) (h9 : ¬ 9 < x) (h : s = 1 ↔ cn_stk A p r one two (j + 1)) : s = 1 ↔ cn_stk A p r one two j := by
  refine h.trans ⟨fun ⟨i, a, b, c, d⟩ => ⟨i, by omega, b, c, d⟩, fun ⟨i, a, b, c, d⟩ => ?_⟩
  by_cases e : i = j
  · rw [e, ← hx] at c
    exact absurd c h9
  · exact ⟨i, by omega, b, c, d⟩
theorem cn_stk_c {j : Nat} {x s s' ty : Int} (hz : j < (A (67 + 12 * r)).toNat) (hx : x = A (68 + 12 * r + j)) (h9 : 9 < x) (ht : ty = cn_tc A p r one two x) (h : s = 1 ↔ cn_stk A p r one two (j + 1)) (hs : s' = 1 ↔ (s = 1 ∨ ty = 2)) : s' = 1 ↔ cn_stk A p r one two j := by
  refine hs.trans ⟨fun z => ?_, fun ⟨i, a, b, c, d⟩ => ?_⟩
  · rcases z with z | z
    · obtain ⟨i, a, b, c, d⟩ := h.1 z
      exact ⟨i, by omega, b, c, d⟩
    · exact ⟨j, Nat.le_refl _, hz, by rw [← hx]; exact h9, by rw [← hx, ← ht]; exact z⟩
  · by_cases e : i = j
    · rw [e, ← hx, ← ht] at d
      exact Or.inr d
    · exact Or.inl (h.2 ⟨i, by omega, b, c, d⟩)
theorem cn_stk_0 : ¬ cn_stk A p r one two (A (67 + 12 * r)).toNat := fun ⟨i, a, b, _⟩ => by omega
end
/-- which come -/
def cn_FC (A : Nat → Int) (p : Int) (cm : Nat → Int) (n : Int) : Prop := n = y_sum cm 54 ∧ (∀ k, k < 54 → 0 ≤ cm k ∧ cm k ≤ 1) ∧ cn_cl (cn_pf A p) (fun k => cm k = 1) ∧ cn_mi (cn_pf A p) (fun k => cm k = 1)
theorem cn_tri_cd {S : Nat → Prop} {f : Int} {l r : Nat} (t : cn_tri S f l r) : l < 54 ∧ r < 54 ∧ 0 ≤ f ∧ f ≤ 4 := by
  obtain ⟨a, b, c, d, e⟩ := t
  refine ⟨?_, ?_, a.1, a.2⟩
  · by_cases z : 1 ≤ y_ch f
    · exact (b z).1
    · have := c (by omega); omega
  · by_cases z : 2 ≤ y_ch f
    · exact (d z).1
    · have := e (by omega); omega
theorem cn_mi_a {pf : Int → Nat → Nat → Nat} {S S' : Nat → Prop} (h : cn_mi pf S) {f : Int} {l r : Nat} (t : cn_tri S f l r) {v : Nat} (hv : pf f l r = v) (e : ∀ k, k < 54 → S' k → k = v ∨ S k) : cn_mi pf S' := fun X hX k hk hs => by
  rcases e k hk hs with q | q
  · rw [q, ← hv]
    exact hX f l r (cn_tri_m (fun k hk hs => h X hX k hk hs) t)
  · exact h X hX k hk q
theorem rx_33 {E : q_E} {σ : x_S} {Q : Option q_V → x_S → Prop} {a0 a1 : Int} (a0l : 0 ≤ a0) (a0h : a0 ≤ 53) (a1l : 0 ≤ a1) (a1h : a1 ≤ 2) (k : ∀ v, 0 ≤ v → v ≤ 2 → v = cn_ti a0 a1 → Q (some (x_I v)) σ) : x_P E 33 [x_I a0, x_I a1] σ Q := by
  have tx := cn_tix a0 a1
  refine x_Mt e_33 (h_33 E) (Nat.le_of_ble_eq_true rfl) t_33 rfl ?_
  refine x_blk (b := 0) (a_33 E) rfl ?_
  unfold b_33_0
  refine x_iload rfl ?_
  refine x_iload rfl ?_
  refine x_if_ne (by omega) (by omega) (fun z1 => ?_) (fun z1 => ?_)
  · skip
    refine x_push 2 rfl ?_
    refine x_goto ?_
    refine x_blk (b := 2) (a_33 E) rfl ?_
    unfold b_33_2
    refine x_idiv (by omega) (by omega) (by omega) (by omega) ?_
    refine x_push 3 rfl ?_
    refine x_irem (by omega) (by omega) (by omega) (by omega) ?_
    refine x_iret ?_
    exact k _ (by omega) (by omega) (by omega)
  · skip
    refine x_blk (b := 1) (a_33 E) rfl ?_
    unfold b_33_1
    refine x_iload rfl ?_
    refine x_push 1 rfl ?_
    refine x_icmp_ne (by omega) (by omega) (by omega) (by omega) (fun z2 => ?_) (fun z2 => ?_)
    · skip
      refine x_push 6 rfl ?_
      refine x_goto ?_
      refine x_blk (b := 2) (a_33 E) rfl ?_
      unfold b_33_2
      refine x_idiv (by omega) (by omega) (by omega) (by omega) ?_
      refine x_push 3 rfl ?_
      refine x_irem (by omega) (by omega) (by omega) (by omega) ?_
      refine x_iret ?_
      exact k _ (by omega) (by omega) (by omega)
    · skip
      refine x_blk (b := 3) (a_33 E) rfl ?_
      unfold b_33_3
      refine x_push 18 rfl ?_
      refine x_fall ?_
      refine x_blk (b := 2) (a_33 E) rfl ?_
      unfold b_33_2
      refine x_idiv (by omega) (by omega) (by omega) (by omega) ?_
      refine x_push 3 rfl ?_
      refine x_irem (by omega) (by omega) (by omega) (by omega) ?_
      refine x_iret ?_
      exact k _ (by omega) (by omega) (by omega)
theorem rx_1 {E : q_E} {σ : x_S} {Q : Option q_V → x_S → Prop} {a1 a2 a3 : Int} (a1l : 0 ≤ a1) (a1h : a1 ≤ 4) (a2l : 0 ≤ a2) (a2h : a2 ≤ 53) (a3l : 0 ≤ a3) (a3h : a3 ≤ 53) (C0 : y_SI σ) (k1 : cn_tri (fun k => σ 155 k = 1) a1 a2.toNat a3.toNat → Q (some (x_I 1)) σ) (k0 : ¬ cn_tri (fun k => σ 155 k = 1) a1 a2.toNat a3.toNat → Q (some (x_I 0)) σ) : x_P E 1 [x_R 138, x_I a1, x_I a2, x_I a3] σ Q := by
  have chx := y_chx a1
  refine x_Mt e_1 (h_1 E) (Nat.le_of_ble_eq_true rfl) t_1 rfl ?_
  refine x_blk (b := 0) (a_1 E) rfl ?_
  unfold b_1_0
  refine x_iload rfl ?_
  refine x_cS (fun _ => rfl) (Nat.le_of_ble_eq_true rfl) ?_
  refine rs_0 (by omega) (by omega) (fun v1 v1a v1b v1c => ?_)
  refine x_istore ?_
  refine x_iload rfl ?_
  refine x_if_le (by omega) (by omega) (fun z2 => ?_) (fun z2 => ?_)
  · skip
    refine x_blk (b := 1) (a_1 E) rfl ?_
    unfold b_1_1
    refine x_iload rfl ?_
    refine x_if_ne (by omega) (by omega) (fun z3 => ?_) (fun z3 => ?_)
    · skip
      refine x_fall ?_
      refine x_blk (b := 3) (a_1 E) rfl ?_
      unfold b_1_3
      refine x_iload rfl ?_
      refine x_push 1 rfl ?_
      refine x_icmp_le (by omega) (by omega) (by omega) (by omega) (fun z4 => ?_) (fun z => absurd (by omega) z)
      refine x_blk (b := 4) (a_1 E) rfl ?_
      unfold b_1_4
      refine x_iload rfl ?_
      refine x_if_ne (by omega) (by omega) (fun z5 => ?_) (fun z5 => ?_)
      · skip
        refine x_fall ?_
        refine x_blk (b := 5) (a_1 E) rfl ?_
        unfold b_1_5
        refine x_push 1 rfl ?_
        refine x_goto ?_
        refine x_blk (b := 6) (a_1 E) rfl ?_
        unfold b_1_6
        refine x_zret (by decide) ?_
        refine k1 ⟨by omega, fun z => ⟨by omega, ?_⟩, fun z => by omega, fun z => ⟨by omega, ?_⟩, fun z => by omega⟩
        · show σ 155 a2.toNat = 1
          omega
        · show σ 155 a3.toNat = 1
          omega
      · skip
        refine x_blk (b := 2) (a_1 E) rfl ?_
        unfold b_1_2
        refine x_push 0 rfl ?_
        refine x_fall ?_
        refine x_blk (b := 6) (a_1 E) rfl ?_
        unfold b_1_6
        refine x_zret (by decide) ?_
        refine k0 (fun ⟨t1, t2, t3, t4, t5⟩ => ?_)
        by_cases c1 : 1 ≤ y_ch a1
        · have q := t2 c1
          by_cases c2 : 2 ≤ y_ch a1
          · have q2 := t4 c2
            have w1 : σ 155 a2.toNat = 1 := q.2
            have w2 : σ 155 a3.toNat = 1 := q2.2
            omega
          · have q2 := t5 (by omega)
            have w1 : σ 155 a2.toNat = 1 := q.2
            omega
        · have q := t3 (by omega)
          have q2 := t5 (by omega)
          omega
    · skip
      refine x_blk (b := 2) (a_1 E) rfl ?_
      unfold b_1_2
      refine x_push 0 rfl ?_
      refine x_fall ?_
      refine x_blk (b := 6) (a_1 E) rfl ?_
      unfold b_1_6
      refine x_zret (by decide) ?_
      refine k0 (fun ⟨t1, t2, t3, t4, t5⟩ => ?_)
      by_cases c1 : 1 ≤ y_ch a1
      · have q := t2 c1
        by_cases c2 : 2 ≤ y_ch a1
        · have q2 := t4 c2
          have w1 : σ 155 a2.toNat = 1 := q.2
          have w2 : σ 155 a3.toNat = 1 := q2.2
          omega
        · have q2 := t5 (by omega)
          have w1 : σ 155 a2.toNat = 1 := q.2
          omega
      · have q := t3 (by omega)
        have q2 := t5 (by omega)
        omega
  · skip
    refine x_aload rfl ?_
    refine x_getR (r := 138) rfl (by decide) (by decide) rfl ?_
    refine x_iload rfl ?_
    refine x_aldS C0 (by omega) (by omega) ?_
    intro g6a g6b
    refine x_if_eq (by omega) (by omega) (fun z7 => ?_) (fun z7 => ?_)
    · skip
      refine x_blk (b := 2) (a_1 E) rfl ?_
      unfold b_1_2
      refine x_push 0 rfl ?_
      refine x_fall ?_
      refine x_blk (b := 6) (a_1 E) rfl ?_
      unfold b_1_6
      refine x_zret (by decide) ?_
      refine k0 (fun ⟨t1, t2, t3, t4, t5⟩ => ?_)
      by_cases c1 : 1 ≤ y_ch a1
      · have q := t2 c1
        by_cases c2 : 2 ≤ y_ch a1
        · have q2 := t4 c2
          have w1 : σ 155 a2.toNat = 1 := q.2
          have w2 : σ 155 a3.toNat = 1 := q2.2
          omega
        · have q2 := t5 (by omega)
          have w1 : σ 155 a2.toNat = 1 := q.2
          omega
      · have q := t3 (by omega)
        have q2 := t5 (by omega)
        omega
    · skip
      refine x_goto ?_
      refine x_blk (b := 3) (a_1 E) rfl ?_
      unfold b_1_3
      refine x_iload rfl ?_
      refine x_push 1 rfl ?_
      refine x_icmp_le (by omega) (by omega) (by omega) (by omega) (fun z8 => ?_) (fun z8 => ?_)
      · skip
        refine x_blk (b := 4) (a_1 E) rfl ?_
        unfold b_1_4
        refine x_iload rfl ?_
        refine x_if_ne (by omega) (by omega) (fun z9 => ?_) (fun z9 => ?_)
        · skip
          refine x_fall ?_
          refine x_blk (b := 5) (a_1 E) rfl ?_
          unfold b_1_5
          refine x_push 1 rfl ?_
          refine x_goto ?_
          refine x_blk (b := 6) (a_1 E) rfl ?_
          unfold b_1_6
          refine x_zret (by decide) ?_
          refine k1 ⟨by omega, fun z => ⟨by omega, ?_⟩, fun z => by omega, fun z => ⟨by omega, ?_⟩, fun z => by omega⟩
          · show σ 155 a2.toNat = 1
            omega
          · show σ 155 a3.toNat = 1
            omega
        · skip
          refine x_blk (b := 2) (a_1 E) rfl ?_
          unfold b_1_2
          refine x_push 0 rfl ?_
          refine x_fall ?_
          refine x_blk (b := 6) (a_1 E) rfl ?_
          unfold b_1_6
          refine x_zret (by decide) ?_
          refine k0 (fun ⟨t1, t2, t3, t4, t5⟩ => ?_)
          by_cases c1 : 1 ≤ y_ch a1
          · have q := t2 c1
            by_cases c2 : 2 ≤ y_ch a1
            · have q2 := t4 c2
              have w1 : σ 155 a2.toNat = 1 := q.2
              have w2 : σ 155 a3.toNat = 1 := q2.2
              omega
            · have q2 := t5 (by omega)
              have w1 : σ 155 a2.toNat = 1 := q.2
              omega
          · have q := t3 (by omega)
            have q2 := t5 (by omega)
            omega
      · skip
        refine x_aload rfl ?_
        refine x_getR (r := 138) rfl (by decide) (by decide) rfl ?_
        refine x_iload rfl ?_
        refine x_aldS C0 (by omega) (by omega) ?_
        intro g10a g10b
        refine x_if_eq (by omega) (by omega) (fun z11 => ?_) (fun z11 => ?_)
        · skip
          refine x_blk (b := 2) (a_1 E) rfl ?_
          unfold b_1_2
          refine x_push 0 rfl ?_
          refine x_fall ?_
          refine x_blk (b := 6) (a_1 E) rfl ?_
          unfold b_1_6
          refine x_zret (by decide) ?_
          refine k0 (fun ⟨t1, t2, t3, t4, t5⟩ => ?_)
          by_cases c1 : 1 ≤ y_ch a1
          · have q := t2 c1
            by_cases c2 : 2 ≤ y_ch a1
            · have q2 := t4 c2
              have w1 : σ 155 a2.toNat = 1 := q.2
              have w2 : σ 155 a3.toNat = 1 := q2.2
              omega
            · have q2 := t5 (by omega)
              have w1 : σ 155 a2.toNat = 1 := q.2
              omega
          · have q := t3 (by omega)
            have q2 := t5 (by omega)
            omega
        · skip
          refine x_goto ?_
          refine x_blk (b := 5) (a_1 E) rfl ?_
          unfold b_1_5
          refine x_push 1 rfl ?_
          refine x_goto ?_
          refine x_blk (b := 6) (a_1 E) rfl ?_
          unfold b_1_6
          refine x_zret (by decide) ?_
          refine k1 ⟨by omega, fun z => ⟨by omega, ?_⟩, fun z => by omega, fun z => ⟨by omega, ?_⟩, fun z => by omega⟩
          · show σ 155 a2.toNat = 1
            omega
          · show σ 155 a3.toNat = 1
            omega
set_option maxHeartbeats 8000000 in
theorem rx_38_b14 {E : q_E} {σ : x_S} {Q : Option q_V → x_S → Prop} {a1 a2 a3 a4 : Int} (a1l : 0 ≤ a1) (a1h : a1 ≤ 1) (a2l : 0 ≤ a2) (a2h : a2 ≤ 15) (a3l : 0 ≤ a3) (a3h : a3 ≤ 53) (a4l : 0 ≤ a4) (a4h : a4 ≤ 53) (rq0 : 0 ≤ a2 ∧ a2 < σ 140 62) (hP : y_PI (σ 140)) (k : ∀ τ v, y_rf σ τ → 0 ≤ v → v ≤ 2 → y_so σ τ → v = cn_tr (σ 140) a1 a2.toNat a3 a4 → Q (some (x_I v)) τ) : ∀ (N : Nat) (n s i : Int) (τ : x_S), (i + 1).toNat = N → -1 ≤ i → i < σ 140 (67 + 12 * a2.toNat) → 0 ≤ s → s ≤ 1 → n = y_op (cn_W (σ 140) a2.toNat) (i + 1).toNat → n ≤ σ 140 (67 + 12 * a2.toNat) - 1 - i → y_so σ τ → (∀ m : Nat, (m : Int) < n → τ 158 m = cn_st (cn_W (σ 140) a2.toNat) (cn_vc (σ 140) a1 a2.toNat a3 a4) (cn_tb (σ 140)) (σ 140 (67 + 12 * a2.toNat)).toNat ((σ 140 (67 + 12 * a2.toNat)).toNat - (i + 1).toNat) m) → (s = 1 ↔ cn_stk (σ 140) a1 a2.toNat a3 a4 (i + 1).toNat) → y_rf σ τ → x_G E m_38 Q (t_38 14) [(0, x_R 138), (1, x_I a1), (2, x_I a2), (3, x_I a3), (4, x_I a4), (5, x_I n), (6, x_I s), (7, x_I i)] [] τ := by
  have ru := hP.2.2.2.1
  have kd := hP.1
  obtain ⟨z7, l4, pcs, op0⟩ := cn_rl (A := σ 140) (r := a2.toNat) hP (by omega)
  have eW : (fun i => σ 140 (63 + 12 * a2.toNat + (5 + i))) = cn_W (σ 140) a2.toNat := funext fun i => congrArg (σ 140) (by omega)
  have e67 : σ 140 (63 + 12 * a2.toNat + 4) = σ 140 (67 + 12 * a2.toNat) := congrArg (σ 140) (by omega)
  intro N
  induction N using Nat.strongRecOn with
  | ind N ih =>
    intro n s i τ hN i1 i2 s1 s2 hn hnb hso hty hs F
    have hty1 : ∀ m : Nat, (m : Int) < n → 0 ≤ τ 158 m ∧ τ 158 m ≤ 1 := fun m hm => by
      rw [hty m hm]
      exact cn_st_b (fun x => cn_vc_b x) (fun x k => cn_tb_b hP x k) _ m
    refine x_blk (b := 14) (a_38 E) rfl ?_
    unfold b_38_14
    refine x_iload rfl ?_
    refine x_if_lt (by omega) (by omega) (fun z1 => ?_) (fun z1 => ?_)
    · skip
      refine x_blk (b := 1) (a_38 E) rfl ?_
      unfold b_38_1
      have e1 : i = -1 := by omega
      subst e1
      have h0 : n = 1 := by rw [hn]; rfl
      have P0 := hty1 0 (by omega)
      have hs0 : s = 1 ↔ cn_stk (σ 140) a1 a2.toNat a3 a4 0 := hs
      refine x_iload rfl ?_
      refine x_if_eq (by omega) (by omega) (fun z2 => ?_) (fun z2 => ?_)
      · skip
        refine x_blk (b := 15) (a_38 E) rfl ?_
        unfold b_38_15
        refine x_aload rfl ?_
        refine x_getR (r := 138) rfl (by decide) (by decide) rfl ?_
        refine x_push 0 rfl ?_
        refine x_iald (r := 158) (n := 8) (m := 0) rfl rfl (by decide) (fun _ => rfl) (by omega) (by omega) (by omega) ?_
        intro g3a g3b
        refine x_fall ?_
        refine x_blk (b := 16) (a_38 E) rfl ?_
        unfold b_38_16
        refine x_iret ?_
        refine k _ _ F (by omega) (by omega) hso ?_
        rw [cn_tr_n (fun z => absurd (hs0.2 z) (by omega))]
        exact hty 0 (by omega)
      · skip
        refine x_push 2 rfl ?_
        refine x_goto ?_
        refine x_blk (b := 16) (a_38 E) rfl ?_
        unfold b_38_16
        refine x_iret ?_
        refine k _ _ F (by omega) (by omega) hso (cn_tr_s (hs0.1 (by omega))).symm
    · skip
      obtain ⟨j, hj⟩ : ∃ j : Nat, i = j := ⟨i.toNat, by omega⟩
      subst hj
      have hj : (5 + (j : Int) - 5).toNat = j := by omega
      rw [show ((j : Int) + 1).toNat = j + 1 by omega] at hn hty hs
      have hz : j < (σ 140 (67 + 12 * a2.toNat)).toNat := by omega
      have hy : y_op (cn_W (σ 140) a2.toNat) (j + 1) = y_op (cn_W (σ 140) a2.toNat) j + y_c9 (σ 140 (68 + 12 * a2.toNat + j)) - 1 := rfl
      refine x_aload rfl ?_
      refine x_iload rfl ?_
      refine x_push 5 rfl ?_
      refine x_iload rfl ?_
      refine x_iadd ?_
      refine x_cV (fun _ => rfl) rfl (by decide) (Nat.le_of_ble_eq_true rfl) ?_
      refine rf_3_p F hP (by omega) (by omega) (by omega) (by omega) (fun v4 v4a v4b v4c v4d v4e => ?_)
      rw [hj] at v4d v4e
      rw [eW] at v4e
      have px4 : v4 = σ 140 (68 + 12 * a2.toNat + j) := v4d.trans (congrArg (σ 140) (by omega))
      rw [← px4] at hy
      have c9 := y_c9v v4
      have chv := y_chx v4
      refine x_istore ?_
      refine x_iload rfl ?_
      refine x_push 9 rfl ?_
      refine x_icmp_le (by omega) (by omega) (by omega) (by omega) (fun z5 => ?_) (fun z5 => ?_)
      · skip
        refine x_blk (b := 2) (a_38 E) rfl ?_
        unfold b_38_2
        refine x_iload rfl ?_
        refine x_cS (fun _ => rfl) (Nat.le_of_ble_eq_true rfl) ?_
        refine rs_0 (by omega) (by omega) (fun v6 v6a v6b v6c => ?_)
        refine x_istore ?_
        refine x_X_lo (lo' := [(0, x_R 138), (1, x_I _), (2, x_I _), (3, x_I _), (4, x_I _), (5, x_I _), (6, x_I _), (7, x_I _), (8, x_I _), (9, x_I _)]) ⟨rfl, rfl, rfl, rfl, rfl, rfl, rfl, rfl, rfl, rfl, trivial⟩ ?_
        refine x_iload rfl ?_
        refine x_if_ne (by omega) (by omega) (fun z7 => ?_) (fun z7 => ?_)
        · skip
          refine x_push 0 rfl ?_
          refine x_goto ?_
          refine x_blk (b := 12) (a_38 E) rfl ?_
          unfold b_38_12
          refine x_istore ?_
          refine x_iload rfl ?_
          refine x_iload rfl ?_
          refine x_isub ?_
          refine x_istore ?_
          refine x_X_lo (lo' := [(0, x_R 138), (1, x_I _), (2, x_I _), (3, x_I _), (4, x_I _), (5, x_I _), (6, x_I _), (7, x_I _), (8, x_I _), (9, x_I _), (10, x_I _)]) ⟨rfl, rfl, rfl, rfl, rfl, rfl, rfl, rfl, rfl, rfl, rfl, trivial⟩ ?_
          refine x_aload rfl ?_
          refine x_getR (r := 138) rfl (by decide) (by decide) rfl ?_
          refine x_iload rfl ?_
          refine x_aload rfl ?_
          refine x_getR (r := 138) rfl (by decide) (by decide) rfl ?_
          refine x_push 1 rfl ?_
          refine x_iload rfl ?_
          refine x_iload rfl ?_
          refine x_cS (fun _ => rfl) (Nat.le_of_ble_eq_true rfl) ?_
          refine rs_17x (by omega) (by omega) (by omega) (by omega) (by omega) (by omega) (fun v8 v8a v8b v8c => ?_)
          refine x_iald140 F (by omega) (by omega) ?_
          intro g9a g9b
          have en9 := hP.2.2.1 (v8).toNat (by omega) (by omega)
          refine x_astM y_m158 F (by omega) (by omega) (by omega) (by omega) (fun S10 e10 F10 => ?_)
          refine x_iinc 1 rfl rfl ?_
          refine x_fall ?_
          refine x_blk (b := 10) (a_38 E) rfl ?_
          unfold b_38_10
          refine x_iinc (-1) rfl rfl ?_
          refine x_X_lo (lo' := [(0, x_R 138), (1, x_I _), (2, x_I _), (3, x_I _), (4, x_I _), (5, x_I _), (6, x_I _), (7, x_I _), (8, x_I _), (9, x_I _), (10, x_I _)]) ⟨rfl, rfl, rfl, rfl, rfl, rfl, rfl, rfl, rfl, rfl, rfl, trivial⟩ ?_
          refine x_goto ?_
          refine x_G_lo (lo' := [(0, x_R 138), (1, x_I _), (2, x_I _), (3, x_I _), (4, x_I _), (5, x_I _), (6, x_I _), (7, x_I _)]) ⟨rfl, rfl, rfl, rfl, rfl, rfl, rfl, rfl, trivial⟩ ?_
          have cv : v6 = y_ch v4 := by omega
          subst cv
          have bx := cn_byx (τ 158) n v4
          have px := y_pwx (y_ch v4)
          have eb : y_tab 1 v4 (cn_by (τ 158) n v4) = v8 := by rw [v8c]; unfold y_tab; omega
          have pv : S10 158 (n - y_ch v4).toNat = σ 140 (y_tab 1 v4 (cn_by (τ 158) n v4)).toNat := by rw [x_up_at e10, eb]
          have pl := cn_pl_l (s' := S10 158) (b := cn_by (τ 158) n v4) hz px4 (by omega) (by omega) hn (by omega) hty rfl (by omega) pv (fun m hm => x_up_ne e10 (fun z => hm z.2))
          refine ih _ (by omega) _ _ _ S10 rfl (by omega) (by omega) (by omega) (by omega) ?_ (by omega) (y_so_tr hso (y_so_up e10)) ?_ ?_ F10
          · rw [show ((j : Int) + -1 + 1).toNat = j by omega]; omega
          · rw [show ((j : Int) + -1 + 1).toNat = j by omega]; exact pl
          · rw [show ((j : Int) + -1 + 1).toNat = j by omega]; exact cn_stk_l px4 (by omega) hs
        · skip
          refine x_blk (b := 11) (a_38 E) rfl ?_
          unfold b_38_11
          refine x_iload rfl ?_
          refine x_push 1 rfl ?_
          refine x_icmp_ne (by omega) (by omega) (by omega) (by omega) (fun z11 => ?_) (fun z11 => ?_)
          · skip
            have P1 := hty1 (n - 1).toNat (by omega)
            refine x_aload rfl ?_
            refine x_getR (r := 138) rfl (by decide) (by decide) rfl ?_
            refine x_iload rfl ?_
            refine x_push 1 rfl ?_
            refine x_isub ?_
            refine x_iald (r := 158) (n := 8) (m := (n - 1).toNat) rfl rfl (by decide) (fun _ => rfl) (by omega) (by omega) (by omega) ?_
            intro g12a g12b
            refine x_goto ?_
            refine x_blk (b := 12) (a_38 E) rfl ?_
            unfold b_38_12
            refine x_istore ?_
            refine x_iload rfl ?_
            refine x_iload rfl ?_
            refine x_isub ?_
            refine x_istore ?_
            refine x_X_lo (lo' := [(0, x_R 138), (1, x_I _), (2, x_I _), (3, x_I _), (4, x_I _), (5, x_I _), (6, x_I _), (7, x_I _), (8, x_I _), (9, x_I _), (10, x_I _)]) ⟨rfl, rfl, rfl, rfl, rfl, rfl, rfl, rfl, rfl, rfl, rfl, trivial⟩ ?_
            refine x_aload rfl ?_
            refine x_getR (r := 138) rfl (by decide) (by decide) rfl ?_
            refine x_iload rfl ?_
            refine x_aload rfl ?_
            refine x_getR (r := 138) rfl (by decide) (by decide) rfl ?_
            refine x_push 1 rfl ?_
            refine x_iload rfl ?_
            refine x_iload rfl ?_
            refine x_cS (fun _ => rfl) (Nat.le_of_ble_eq_true rfl) ?_
            refine rs_17x (by omega) (by omega) (by omega) (by omega) (by omega) (by omega) (fun v13 v13a v13b v13c => ?_)
            refine x_iald140 F (by omega) (by omega) ?_
            intro g14a g14b
            have en14 := hP.2.2.1 (v13).toNat (by omega) (by omega)
            refine x_astM y_m158 F (by omega) (by omega) (by omega) (by omega) (fun S15 e15 F15 => ?_)
            refine x_iinc 1 rfl rfl ?_
            refine x_fall ?_
            refine x_blk (b := 10) (a_38 E) rfl ?_
            unfold b_38_10
            refine x_iinc (-1) rfl rfl ?_
            refine x_X_lo (lo' := [(0, x_R 138), (1, x_I _), (2, x_I _), (3, x_I _), (4, x_I _), (5, x_I _), (6, x_I _), (7, x_I _), (8, x_I _), (9, x_I _), (10, x_I _)]) ⟨rfl, rfl, rfl, rfl, rfl, rfl, rfl, rfl, rfl, rfl, rfl, trivial⟩ ?_
            refine x_goto ?_
            refine x_G_lo (lo' := [(0, x_R 138), (1, x_I _), (2, x_I _), (3, x_I _), (4, x_I _), (5, x_I _), (6, x_I _), (7, x_I _)]) ⟨rfl, rfl, rfl, rfl, rfl, rfl, rfl, rfl, trivial⟩ ?_
            have cv : v6 = y_ch v4 := by omega
            subst cv
            have bx := cn_byx (τ 158) n v4
            have px := y_pwx (y_ch v4)
            have eb : y_tab 1 v4 (cn_by (τ 158) n v4) = v13 := by rw [v13c]; unfold y_tab; omega
            have pv : S15 158 (n - y_ch v4).toNat = σ 140 (y_tab 1 v4 (cn_by (τ 158) n v4)).toNat := by rw [x_up_at e15, eb]
            have pl := cn_pl_l (s' := S15 158) (b := cn_by (τ 158) n v4) hz px4 (by omega) (by omega) hn (by omega) hty rfl (by omega) pv (fun m hm => x_up_ne e15 (fun z => hm z.2))
            refine ih _ (by omega) _ _ _ S15 rfl (by omega) (by omega) (by omega) (by omega) ?_ (by omega) (y_so_tr hso (y_so_up e15)) ?_ ?_ F15
            · rw [show ((j : Int) + -1 + 1).toNat = j by omega]; omega
            · rw [show ((j : Int) + -1 + 1).toNat = j by omega]; exact pl
            · rw [show ((j : Int) + -1 + 1).toNat = j by omega]; exact cn_stk_l px4 (by omega) hs
          · skip
            refine x_blk (b := 13) (a_38 E) rfl ?_
            unfold b_38_13
            have P1 := hty1 (n - 1).toNat (by omega)
            have P2 := hty1 (n - 2).toNat (by omega)
            refine x_push 2 rfl ?_
            refine x_aload rfl ?_
            refine x_getR (r := 138) rfl (by decide) (by decide) rfl ?_
            refine x_iload rfl ?_
            refine x_push 1 rfl ?_
            refine x_isub ?_
            refine x_iald (r := 158) (n := 8) (m := (n - 1).toNat) rfl rfl (by decide) (fun _ => rfl) (by omega) (by omega) (by omega) ?_
            intro g16a g16b
            refine x_imul ?_
            refine x_aload rfl ?_
            refine x_getR (r := 138) rfl (by decide) (by decide) rfl ?_
            refine x_iload rfl ?_
            refine x_push 2 rfl ?_
            refine x_isub ?_
            refine x_iald (r := 158) (n := 8) (m := (n - 2).toNat) rfl rfl (by decide) (fun _ => rfl) (by omega) (by omega) (by omega) ?_
            intro g17a g17b
            refine x_iadd ?_
            refine x_fall ?_
            refine x_blk (b := 12) (a_38 E) rfl ?_
            unfold b_38_12
            refine x_istore ?_
            refine x_iload rfl ?_
            refine x_iload rfl ?_
            refine x_isub ?_
            refine x_istore ?_
            refine x_X_lo (lo' := [(0, x_R 138), (1, x_I _), (2, x_I _), (3, x_I _), (4, x_I _), (5, x_I _), (6, x_I _), (7, x_I _), (8, x_I _), (9, x_I _), (10, x_I _)]) ⟨rfl, rfl, rfl, rfl, rfl, rfl, rfl, rfl, rfl, rfl, rfl, trivial⟩ ?_
            refine x_aload rfl ?_
            refine x_getR (r := 138) rfl (by decide) (by decide) rfl ?_
            refine x_iload rfl ?_
            refine x_aload rfl ?_
            refine x_getR (r := 138) rfl (by decide) (by decide) rfl ?_
            refine x_push 1 rfl ?_
            refine x_iload rfl ?_
            refine x_iload rfl ?_
            refine x_cS (fun _ => rfl) (Nat.le_of_ble_eq_true rfl) ?_
            refine rs_17x (by omega) (by omega) (by omega) (by omega) (by omega) (by omega) (fun v18 v18a v18b v18c => ?_)
            refine x_iald140 F (by omega) (by omega) ?_
            intro g19a g19b
            have en19 := hP.2.2.1 (v18).toNat (by omega) (by omega)
            refine x_astM y_m158 F (by omega) (by omega) (by omega) (by omega) (fun S20 e20 F20 => ?_)
            refine x_iinc 1 rfl rfl ?_
            refine x_fall ?_
            refine x_blk (b := 10) (a_38 E) rfl ?_
            unfold b_38_10
            refine x_iinc (-1) rfl rfl ?_
            refine x_X_lo (lo' := [(0, x_R 138), (1, x_I _), (2, x_I _), (3, x_I _), (4, x_I _), (5, x_I _), (6, x_I _), (7, x_I _), (8, x_I _), (9, x_I _), (10, x_I _)]) ⟨rfl, rfl, rfl, rfl, rfl, rfl, rfl, rfl, rfl, rfl, rfl, trivial⟩ ?_
            refine x_goto ?_
            refine x_G_lo (lo' := [(0, x_R 138), (1, x_I _), (2, x_I _), (3, x_I _), (4, x_I _), (5, x_I _), (6, x_I _), (7, x_I _)]) ⟨rfl, rfl, rfl, rfl, rfl, rfl, rfl, rfl, trivial⟩ ?_
            have cv : v6 = y_ch v4 := by omega
            subst cv
            have bx := cn_byx (τ 158) n v4
            have px := y_pwx (y_ch v4)
            have eb : y_tab 1 v4 (cn_by (τ 158) n v4) = v18 := by rw [v18c]; unfold y_tab; omega
            have pv : S20 158 (n - y_ch v4).toNat = σ 140 (y_tab 1 v4 (cn_by (τ 158) n v4)).toNat := by rw [x_up_at e20, eb]
            have pl := cn_pl_l (s' := S20 158) (b := cn_by (τ 158) n v4) hz px4 (by omega) (by omega) hn (by omega) hty rfl (by omega) pv (fun m hm => x_up_ne e20 (fun z => hm z.2))
            refine ih _ (by omega) _ _ _ S20 rfl (by omega) (by omega) (by omega) (by omega) ?_ (by omega) (y_so_tr hso (y_so_up e20)) ?_ ?_ F20
            · rw [show ((j : Int) + -1 + 1).toNat = j by omega]; omega
            · rw [show ((j : Int) + -1 + 1).toNat = j by omega]; exact pl
            · rw [show ((j : Int) + -1 + 1).toNat = j by omega]; exact cn_stk_l px4 (by omega) hs
      · skip
        refine x_aload rfl ?_
        refine x_iload rfl ?_
        refine x_aload rfl ?_
        refine x_iload rfl ?_
        refine x_push 2 rfl ?_
        refine x_cV (fun _ => rfl) rfl (by decide) (Nat.le_of_ble_eq_true rfl) ?_
        refine rf_3_2 F hP (by omega) (by omega) (fun v21 v21a v21b v21c => ?_)
        have p65 : v21 = σ 140 (65 + 12 * a2.toNat) := v21c.trans (congrArg (σ 140) (by omega))
        refine x_iload rfl ?_
        refine x_cV (fun _ => rfl) rfl (by decide) (Nat.le_of_ble_eq_true rfl) ?_
        refine rx_32 (by omega) (by omega) (by omega) (by omega) (by omega) (by omega) (y_rf_P F hP) (fun y22 => ?_) (fun y22 => ?_)
        · skip
          refine x_if_eq (by omega) (by omega) (fun z => absurd z (by omega)) (fun z23 => ?_)
          refine x_iload rfl ?_
          refine x_goto ?_
          refine x_blk (b := 4) (a_38 E) rfl ?_
          unfold b_38_4
          refine x_iload rfl ?_
          refine x_push 10 rfl ?_
          refine x_isub ?_
          refine x_push 2 rfl ?_
          refine x_idiv (by omega) (by omega) (by omega) (by omega) ?_
          refine x_cS (fun _ => rfl) (Nat.le_of_ble_eq_true rfl) ?_
          refine rx_33 (by omega) (by omega) (by omega) (by omega) (fun v24 v24a v24b v24c => ?_)
          refine x_istore ?_
          refine x_X_lo (lo' := [(0, x_R 138), (1, x_I _), (2, x_I _), (3, x_I _), (4, x_I _), (5, x_I _), (6, x_I _), (7, x_I _), (8, x_I _), (9, x_I _)]) ⟨rfl, rfl, rfl, rfl, rfl, rfl, rfl, rfl, rfl, rfl, trivial⟩ ?_
          refine x_iload rfl ?_
          refine x_if_ne (by omega) (by omega) (fun z25 => ?_) (fun z25 => ?_)
          · skip
            refine x_iload rfl ?_
            refine x_push 2 rfl ?_
            refine x_icmp_ne (by omega) (by omega) (by omega) (by omega) (fun z26 => ?_) (fun z26 => ?_)
            · skip
              refine x_fall ?_
              refine x_blk (b := 5) (a_38 E) rfl ?_
              unfold b_38_5
              refine x_push 1 rfl ?_
              refine x_goto ?_
              refine x_blk (b := 7) (a_38 E) rfl ?_
              unfold b_38_7
              refine x_istore ?_
              refine x_aload rfl ?_
              refine x_getR (r := 138) rfl (by decide) (by decide) rfl ?_
              refine x_iload rfl ?_
              refine x_iload rfl ?_
              refine x_push 2 rfl ?_
              refine x_icmp_ne (by omega) (by omega) (by omega) (by omega) (fun z27 => ?_) (fun z => absurd (by omega) z)
              refine x_push 0 rfl ?_
              refine x_goto ?_
              refine x_blk (b := 9) (a_38 E) rfl ?_
              unfold b_38_9
              refine x_astM y_m158 F (by omega) (by omega) (by omega) (by omega) (fun S28 e28 F28 => ?_)
              refine x_iinc 1 rfl rfl ?_
              refine x_X_lo (lo' := [(0, x_R 138), (1, x_I _), (2, x_I _), (3, x_I _), (4, x_I _), (5, x_I _), (6, x_I _), (7, x_I _), (8, x_I _), (9, x_I _)]) ⟨rfl, rfl, rfl, rfl, rfl, rfl, rfl, rfl, rfl, rfl, trivial⟩ ?_
              refine x_goto ?_
              refine x_blk (b := 10) (a_38 E) rfl ?_
              unfold b_38_10
              refine x_iinc (-1) rfl rfl ?_
              refine x_goto ?_
              refine x_G_lo (lo' := [(0, x_R 138), (1, x_I _), (2, x_I _), (3, x_I _), (4, x_I _), (5, x_I _), (6, x_I _), (7, x_I _)]) ⟨rfl, rfl, rfl, rfl, rfl, rfl, rfl, rfl, trivial⟩ ?_
              have wc : w_ch (σ 140) a1 (σ 140 (65 + 12 * a2.toNat)) v4 = 1 := by
                rw [← p65]
                exact w_ch_1 (by omega) (by rw [cn_soF hso] at y22; exact y22)
              have tc : v24 = cn_tc (σ 140) a1 a2.toNat a3 a4 v4 := by
                unfold cn_tc
                rw [wc, if_pos rfl]
                exact v24c
              have ix := cn_isx (cn_tc (σ 140) a1 a2.toNat a3 a4 v4) 1
              have pl := cn_pl_c (s' := S28 158) hz px4 (by omega) hn (by omega) hty (by rw [x_up_at e28]; unfold cn_vc; omega) (fun m hm => x_up_ne e28 (fun z => hm z.2))
              refine ih _ (by omega) _ _ _ S28 rfl (by omega) (by omega) (by omega) (by omega) ?_ (by omega) (y_so_tr hso (y_so_up e28)) ?_ ?_ F28
              · rw [show ((j : Int) + -1 + 1).toNat = j by omega]; omega
              · rw [show ((j : Int) + -1 + 1).toNat = j by omega]; exact pl
              · rw [show ((j : Int) + -1 + 1).toNat = j by omega]; exact cn_stk_c hz px4 (by omega) tc hs (by constructor <;> intro z <;> omega)
            · skip
              refine x_blk (b := 6) (a_38 E) rfl ?_
              unfold b_38_6
              refine x_push 0 rfl ?_
              refine x_fall ?_
              refine x_blk (b := 7) (a_38 E) rfl ?_
              unfold b_38_7
              refine x_istore ?_
              refine x_aload rfl ?_
              refine x_getR (r := 138) rfl (by decide) (by decide) rfl ?_
              refine x_iload rfl ?_
              refine x_iload rfl ?_
              refine x_push 2 rfl ?_
              refine x_icmp_ne (by omega) (by omega) (by omega) (by omega) (fun z => absurd z (by omega)) (fun z29 => ?_)
              refine x_blk (b := 8) (a_38 E) rfl ?_
              unfold b_38_8
              refine x_iload rfl ?_
              refine x_fall ?_
              refine x_blk (b := 9) (a_38 E) rfl ?_
              unfold b_38_9
              refine x_astM y_m158 F (by omega) (by omega) (by omega) (by omega) (fun S30 e30 F30 => ?_)
              refine x_iinc 1 rfl rfl ?_
              refine x_X_lo (lo' := [(0, x_R 138), (1, x_I _), (2, x_I _), (3, x_I _), (4, x_I _), (5, x_I _), (6, x_I _), (7, x_I _), (8, x_I _), (9, x_I _)]) ⟨rfl, rfl, rfl, rfl, rfl, rfl, rfl, rfl, rfl, rfl, trivial⟩ ?_
              refine x_goto ?_
              refine x_blk (b := 10) (a_38 E) rfl ?_
              unfold b_38_10
              refine x_iinc (-1) rfl rfl ?_
              refine x_goto ?_
              refine x_G_lo (lo' := [(0, x_R 138), (1, x_I _), (2, x_I _), (3, x_I _), (4, x_I _), (5, x_I _), (6, x_I _), (7, x_I _)]) ⟨rfl, rfl, rfl, rfl, rfl, rfl, rfl, rfl, trivial⟩ ?_
              have wc : w_ch (σ 140) a1 (σ 140 (65 + 12 * a2.toNat)) v4 = 1 := by
                rw [← p65]
                exact w_ch_1 (by omega) (by rw [cn_soF hso] at y22; exact y22)
              have tc : v24 = cn_tc (σ 140) a1 a2.toNat a3 a4 v4 := by
                unfold cn_tc
                rw [wc, if_pos rfl]
                exact v24c
              have ix := cn_isx (cn_tc (σ 140) a1 a2.toNat a3 a4 v4) 1
              have pl := cn_pl_c (s' := S30 158) hz px4 (by omega) hn (by omega) hty (by rw [x_up_at e30]; unfold cn_vc; omega) (fun m hm => x_up_ne e30 (fun z => hm z.2))
              refine ih _ (by omega) _ _ _ S30 rfl (by omega) (by omega) (by omega) (by omega) ?_ (by omega) (y_so_tr hso (y_so_up e30)) ?_ ?_ F30
              · rw [show ((j : Int) + -1 + 1).toNat = j by omega]; omega
              · rw [show ((j : Int) + -1 + 1).toNat = j by omega]; exact pl
              · rw [show ((j : Int) + -1 + 1).toNat = j by omega]; exact cn_stk_c hz px4 (by omega) tc hs (by constructor <;> intro z <;> omega)
          · skip
            refine x_blk (b := 5) (a_38 E) rfl ?_
            unfold b_38_5
            refine x_push 1 rfl ?_
            refine x_goto ?_
            refine x_blk (b := 7) (a_38 E) rfl ?_
            unfold b_38_7
            refine x_istore ?_
            refine x_aload rfl ?_
            refine x_getR (r := 138) rfl (by decide) (by decide) rfl ?_
            refine x_iload rfl ?_
            refine x_iload rfl ?_
            refine x_push 2 rfl ?_
            refine x_icmp_ne (by omega) (by omega) (by omega) (by omega) (fun z31 => ?_) (fun z31 => ?_)
            · skip
              refine x_push 0 rfl ?_
              refine x_goto ?_
              refine x_blk (b := 9) (a_38 E) rfl ?_
              unfold b_38_9
              refine x_astM y_m158 F (by omega) (by omega) (by omega) (by omega) (fun S32 e32 F32 => ?_)
              refine x_iinc 1 rfl rfl ?_
              refine x_X_lo (lo' := [(0, x_R 138), (1, x_I _), (2, x_I _), (3, x_I _), (4, x_I _), (5, x_I _), (6, x_I _), (7, x_I _), (8, x_I _), (9, x_I _)]) ⟨rfl, rfl, rfl, rfl, rfl, rfl, rfl, rfl, rfl, rfl, trivial⟩ ?_
              refine x_goto ?_
              refine x_blk (b := 10) (a_38 E) rfl ?_
              unfold b_38_10
              refine x_iinc (-1) rfl rfl ?_
              refine x_goto ?_
              refine x_G_lo (lo' := [(0, x_R 138), (1, x_I _), (2, x_I _), (3, x_I _), (4, x_I _), (5, x_I _), (6, x_I _), (7, x_I _)]) ⟨rfl, rfl, rfl, rfl, rfl, rfl, rfl, rfl, trivial⟩ ?_
              have wc : w_ch (σ 140) a1 (σ 140 (65 + 12 * a2.toNat)) v4 = 1 := by
                rw [← p65]
                exact w_ch_1 (by omega) (by rw [cn_soF hso] at y22; exact y22)
              have tc : v24 = cn_tc (σ 140) a1 a2.toNat a3 a4 v4 := by
                unfold cn_tc
                rw [wc, if_pos rfl]
                exact v24c
              have ix := cn_isx (cn_tc (σ 140) a1 a2.toNat a3 a4 v4) 1
              have pl := cn_pl_c (s' := S32 158) hz px4 (by omega) hn (by omega) hty (by rw [x_up_at e32]; unfold cn_vc; omega) (fun m hm => x_up_ne e32 (fun z => hm z.2))
              refine ih _ (by omega) _ _ _ S32 rfl (by omega) (by omega) (by omega) (by omega) ?_ (by omega) (y_so_tr hso (y_so_up e32)) ?_ ?_ F32
              · rw [show ((j : Int) + -1 + 1).toNat = j by omega]; omega
              · rw [show ((j : Int) + -1 + 1).toNat = j by omega]; exact pl
              · rw [show ((j : Int) + -1 + 1).toNat = j by omega]; exact cn_stk_c hz px4 (by omega) tc hs (by constructor <;> intro z <;> omega)
            · skip
              refine x_blk (b := 8) (a_38 E) rfl ?_
              unfold b_38_8
              refine x_iload rfl ?_
              refine x_fall ?_
              refine x_blk (b := 9) (a_38 E) rfl ?_
              unfold b_38_9
              refine x_astM y_m158 F (by omega) (by omega) (by omega) (by omega) (fun S33 e33 F33 => ?_)
              refine x_iinc 1 rfl rfl ?_
              refine x_X_lo (lo' := [(0, x_R 138), (1, x_I _), (2, x_I _), (3, x_I _), (4, x_I _), (5, x_I _), (6, x_I _), (7, x_I _), (8, x_I _), (9, x_I _)]) ⟨rfl, rfl, rfl, rfl, rfl, rfl, rfl, rfl, rfl, rfl, trivial⟩ ?_
              refine x_goto ?_
              refine x_blk (b := 10) (a_38 E) rfl ?_
              unfold b_38_10
              refine x_iinc (-1) rfl rfl ?_
              refine x_goto ?_
              refine x_G_lo (lo' := [(0, x_R 138), (1, x_I _), (2, x_I _), (3, x_I _), (4, x_I _), (5, x_I _), (6, x_I _), (7, x_I _)]) ⟨rfl, rfl, rfl, rfl, rfl, rfl, rfl, rfl, trivial⟩ ?_
              have wc : w_ch (σ 140) a1 (σ 140 (65 + 12 * a2.toNat)) v4 = 1 := by
                rw [← p65]
                exact w_ch_1 (by omega) (by rw [cn_soF hso] at y22; exact y22)
              have tc : v24 = cn_tc (σ 140) a1 a2.toNat a3 a4 v4 := by
                unfold cn_tc
                rw [wc, if_pos rfl]
                exact v24c
              have ix := cn_isx (cn_tc (σ 140) a1 a2.toNat a3 a4 v4) 1
              have pl := cn_pl_c (s' := S33 158) hz px4 (by omega) hn (by omega) hty (by rw [x_up_at e33]; unfold cn_vc; omega) (fun m hm => x_up_ne e33 (fun z => hm z.2))
              refine ih _ (by omega) _ _ _ S33 rfl (by omega) (by omega) (by omega) (by omega) ?_ (by omega) (y_so_tr hso (y_so_up e33)) ?_ ?_ F33
              · rw [show ((j : Int) + -1 + 1).toNat = j by omega]; omega
              · rw [show ((j : Int) + -1 + 1).toNat = j by omega]; exact pl
              · rw [show ((j : Int) + -1 + 1).toNat = j by omega]; exact cn_stk_c hz px4 (by omega) tc hs (by constructor <;> intro z <;> omega)
        · skip
          refine x_if_eq (by omega) (by omega) (fun z34 => ?_) (fun z => absurd (by omega) z)
          refine x_blk (b := 3) (a_38 E) rfl ?_
          unfold b_38_3
          refine x_iload rfl ?_
          refine x_fall ?_
          refine x_blk (b := 4) (a_38 E) rfl ?_
          unfold b_38_4
          refine x_iload rfl ?_
          refine x_push 10 rfl ?_
          refine x_isub ?_
          refine x_push 2 rfl ?_
          refine x_idiv (by omega) (by omega) (by omega) (by omega) ?_
          refine x_cS (fun _ => rfl) (Nat.le_of_ble_eq_true rfl) ?_
          refine rx_33 (by omega) (by omega) (by omega) (by omega) (fun v35 v35a v35b v35c => ?_)
          refine x_istore ?_
          refine x_X_lo (lo' := [(0, x_R 138), (1, x_I _), (2, x_I _), (3, x_I _), (4, x_I _), (5, x_I _), (6, x_I _), (7, x_I _), (8, x_I _), (9, x_I _)]) ⟨rfl, rfl, rfl, rfl, rfl, rfl, rfl, rfl, rfl, rfl, trivial⟩ ?_
          refine x_iload rfl ?_
          refine x_if_ne (by omega) (by omega) (fun z36 => ?_) (fun z36 => ?_)
          · skip
            refine x_iload rfl ?_
            refine x_push 2 rfl ?_
            refine x_icmp_ne (by omega) (by omega) (by omega) (by omega) (fun z37 => ?_) (fun z37 => ?_)
            · skip
              refine x_fall ?_
              refine x_blk (b := 5) (a_38 E) rfl ?_
              unfold b_38_5
              refine x_push 1 rfl ?_
              refine x_goto ?_
              refine x_blk (b := 7) (a_38 E) rfl ?_
              unfold b_38_7
              refine x_istore ?_
              refine x_aload rfl ?_
              refine x_getR (r := 138) rfl (by decide) (by decide) rfl ?_
              refine x_iload rfl ?_
              refine x_iload rfl ?_
              refine x_push 2 rfl ?_
              refine x_icmp_ne (by omega) (by omega) (by omega) (by omega) (fun z38 => ?_) (fun z => absurd (by omega) z)
              refine x_push 0 rfl ?_
              refine x_goto ?_
              refine x_blk (b := 9) (a_38 E) rfl ?_
              unfold b_38_9
              refine x_astM y_m158 F (by omega) (by omega) (by omega) (by omega) (fun S39 e39 F39 => ?_)
              refine x_iinc 1 rfl rfl ?_
              refine x_X_lo (lo' := [(0, x_R 138), (1, x_I _), (2, x_I _), (3, x_I _), (4, x_I _), (5, x_I _), (6, x_I _), (7, x_I _), (8, x_I _), (9, x_I _)]) ⟨rfl, rfl, rfl, rfl, rfl, rfl, rfl, rfl, rfl, rfl, trivial⟩ ?_
              refine x_goto ?_
              refine x_blk (b := 10) (a_38 E) rfl ?_
              unfold b_38_10
              refine x_iinc (-1) rfl rfl ?_
              refine x_goto ?_
              refine x_G_lo (lo' := [(0, x_R 138), (1, x_I _), (2, x_I _), (3, x_I _), (4, x_I _), (5, x_I _), (6, x_I _), (7, x_I _)]) ⟨rfl, rfl, rfl, rfl, rfl, rfl, rfl, rfl, trivial⟩ ?_
              have wc : w_ch (σ 140) a1 (σ 140 (65 + 12 * a2.toNat)) v4 = 0 := by
                rw [← p65]
                exact w_ch_0 (by omega) (by rw [cn_soF hso] at y22; exact y22)
              have tc : v35 = cn_tc (σ 140) a1 a2.toNat a3 a4 v4 := by
                unfold cn_tc
                rw [wc, if_neg (by decide)]
                exact v35c
              have ix := cn_isx (cn_tc (σ 140) a1 a2.toNat a3 a4 v4) 1
              have pl := cn_pl_c (s' := S39 158) hz px4 (by omega) hn (by omega) hty (by rw [x_up_at e39]; unfold cn_vc; omega) (fun m hm => x_up_ne e39 (fun z => hm z.2))
              refine ih _ (by omega) _ _ _ S39 rfl (by omega) (by omega) (by omega) (by omega) ?_ (by omega) (y_so_tr hso (y_so_up e39)) ?_ ?_ F39
              · rw [show ((j : Int) + -1 + 1).toNat = j by omega]; omega
              · rw [show ((j : Int) + -1 + 1).toNat = j by omega]; exact pl
              · rw [show ((j : Int) + -1 + 1).toNat = j by omega]; exact cn_stk_c hz px4 (by omega) tc hs (by constructor <;> intro z <;> omega)
            · skip
              refine x_blk (b := 6) (a_38 E) rfl ?_
              unfold b_38_6
              refine x_push 0 rfl ?_
              refine x_fall ?_
              refine x_blk (b := 7) (a_38 E) rfl ?_
              unfold b_38_7
              refine x_istore ?_
              refine x_aload rfl ?_
              refine x_getR (r := 138) rfl (by decide) (by decide) rfl ?_
              refine x_iload rfl ?_
              refine x_iload rfl ?_
              refine x_push 2 rfl ?_
              refine x_icmp_ne (by omega) (by omega) (by omega) (by omega) (fun z => absurd z (by omega)) (fun z40 => ?_)
              refine x_blk (b := 8) (a_38 E) rfl ?_
              unfold b_38_8
              refine x_iload rfl ?_
              refine x_fall ?_
              refine x_blk (b := 9) (a_38 E) rfl ?_
              unfold b_38_9
              refine x_astM y_m158 F (by omega) (by omega) (by omega) (by omega) (fun S41 e41 F41 => ?_)
              refine x_iinc 1 rfl rfl ?_
              refine x_X_lo (lo' := [(0, x_R 138), (1, x_I _), (2, x_I _), (3, x_I _), (4, x_I _), (5, x_I _), (6, x_I _), (7, x_I _), (8, x_I _), (9, x_I _)]) ⟨rfl, rfl, rfl, rfl, rfl, rfl, rfl, rfl, rfl, rfl, trivial⟩ ?_
              refine x_goto ?_
              refine x_blk (b := 10) (a_38 E) rfl ?_
              unfold b_38_10
              refine x_iinc (-1) rfl rfl ?_
              refine x_goto ?_
              refine x_G_lo (lo' := [(0, x_R 138), (1, x_I _), (2, x_I _), (3, x_I _), (4, x_I _), (5, x_I _), (6, x_I _), (7, x_I _)]) ⟨rfl, rfl, rfl, rfl, rfl, rfl, rfl, rfl, trivial⟩ ?_
              have wc : w_ch (σ 140) a1 (σ 140 (65 + 12 * a2.toNat)) v4 = 0 := by
                rw [← p65]
                exact w_ch_0 (by omega) (by rw [cn_soF hso] at y22; exact y22)
              have tc : v35 = cn_tc (σ 140) a1 a2.toNat a3 a4 v4 := by
                unfold cn_tc
                rw [wc, if_neg (by decide)]
                exact v35c
              have ix := cn_isx (cn_tc (σ 140) a1 a2.toNat a3 a4 v4) 1
              have pl := cn_pl_c (s' := S41 158) hz px4 (by omega) hn (by omega) hty (by rw [x_up_at e41]; unfold cn_vc; omega) (fun m hm => x_up_ne e41 (fun z => hm z.2))
              refine ih _ (by omega) _ _ _ S41 rfl (by omega) (by omega) (by omega) (by omega) ?_ (by omega) (y_so_tr hso (y_so_up e41)) ?_ ?_ F41
              · rw [show ((j : Int) + -1 + 1).toNat = j by omega]; omega
              · rw [show ((j : Int) + -1 + 1).toNat = j by omega]; exact pl
              · rw [show ((j : Int) + -1 + 1).toNat = j by omega]; exact cn_stk_c hz px4 (by omega) tc hs (by constructor <;> intro z <;> omega)
          · skip
            refine x_blk (b := 5) (a_38 E) rfl ?_
            unfold b_38_5
            refine x_push 1 rfl ?_
            refine x_goto ?_
            refine x_blk (b := 7) (a_38 E) rfl ?_
            unfold b_38_7
            refine x_istore ?_
            refine x_aload rfl ?_
            refine x_getR (r := 138) rfl (by decide) (by decide) rfl ?_
            refine x_iload rfl ?_
            refine x_iload rfl ?_
            refine x_push 2 rfl ?_
            refine x_icmp_ne (by omega) (by omega) (by omega) (by omega) (fun z42 => ?_) (fun z42 => ?_)
            · skip
              refine x_push 0 rfl ?_
              refine x_goto ?_
              refine x_blk (b := 9) (a_38 E) rfl ?_
              unfold b_38_9
              refine x_astM y_m158 F (by omega) (by omega) (by omega) (by omega) (fun S43 e43 F43 => ?_)
              refine x_iinc 1 rfl rfl ?_
              refine x_X_lo (lo' := [(0, x_R 138), (1, x_I _), (2, x_I _), (3, x_I _), (4, x_I _), (5, x_I _), (6, x_I _), (7, x_I _), (8, x_I _), (9, x_I _)]) ⟨rfl, rfl, rfl, rfl, rfl, rfl, rfl, rfl, rfl, rfl, trivial⟩ ?_
              refine x_goto ?_
              refine x_blk (b := 10) (a_38 E) rfl ?_
              unfold b_38_10
              refine x_iinc (-1) rfl rfl ?_
              refine x_goto ?_
              refine x_G_lo (lo' := [(0, x_R 138), (1, x_I _), (2, x_I _), (3, x_I _), (4, x_I _), (5, x_I _), (6, x_I _), (7, x_I _)]) ⟨rfl, rfl, rfl, rfl, rfl, rfl, rfl, rfl, trivial⟩ ?_
              have wc : w_ch (σ 140) a1 (σ 140 (65 + 12 * a2.toNat)) v4 = 0 := by
                rw [← p65]
                exact w_ch_0 (by omega) (by rw [cn_soF hso] at y22; exact y22)
              have tc : v35 = cn_tc (σ 140) a1 a2.toNat a3 a4 v4 := by
                unfold cn_tc
                rw [wc, if_neg (by decide)]
                exact v35c
              have ix := cn_isx (cn_tc (σ 140) a1 a2.toNat a3 a4 v4) 1
              have pl := cn_pl_c (s' := S43 158) hz px4 (by omega) hn (by omega) hty (by rw [x_up_at e43]; unfold cn_vc; omega) (fun m hm => x_up_ne e43 (fun z => hm z.2))
              refine ih _ (by omega) _ _ _ S43 rfl (by omega) (by omega) (by omega) (by omega) ?_ (by omega) (y_so_tr hso (y_so_up e43)) ?_ ?_ F43
              · rw [show ((j : Int) + -1 + 1).toNat = j by omega]; omega
              · rw [show ((j : Int) + -1 + 1).toNat = j by omega]; exact pl
              · rw [show ((j : Int) + -1 + 1).toNat = j by omega]; exact cn_stk_c hz px4 (by omega) tc hs (by constructor <;> intro z <;> omega)
            · skip
              refine x_blk (b := 8) (a_38 E) rfl ?_
              unfold b_38_8
              refine x_iload rfl ?_
              refine x_fall ?_
              refine x_blk (b := 9) (a_38 E) rfl ?_
              unfold b_38_9
              refine x_astM y_m158 F (by omega) (by omega) (by omega) (by omega) (fun S44 e44 F44 => ?_)
              refine x_iinc 1 rfl rfl ?_
              refine x_X_lo (lo' := [(0, x_R 138), (1, x_I _), (2, x_I _), (3, x_I _), (4, x_I _), (5, x_I _), (6, x_I _), (7, x_I _), (8, x_I _), (9, x_I _)]) ⟨rfl, rfl, rfl, rfl, rfl, rfl, rfl, rfl, rfl, rfl, trivial⟩ ?_
              refine x_goto ?_
              refine x_blk (b := 10) (a_38 E) rfl ?_
              unfold b_38_10
              refine x_iinc (-1) rfl rfl ?_
              refine x_goto ?_
              refine x_G_lo (lo' := [(0, x_R 138), (1, x_I _), (2, x_I _), (3, x_I _), (4, x_I _), (5, x_I _), (6, x_I _), (7, x_I _)]) ⟨rfl, rfl, rfl, rfl, rfl, rfl, rfl, rfl, trivial⟩ ?_
              have wc : w_ch (σ 140) a1 (σ 140 (65 + 12 * a2.toNat)) v4 = 0 := by
                rw [← p65]
                exact w_ch_0 (by omega) (by rw [cn_soF hso] at y22; exact y22)
              have tc : v35 = cn_tc (σ 140) a1 a2.toNat a3 a4 v4 := by
                unfold cn_tc
                rw [wc, if_neg (by decide)]
                exact v35c
              have ix := cn_isx (cn_tc (σ 140) a1 a2.toNat a3 a4 v4) 1
              have pl := cn_pl_c (s' := S44 158) hz px4 (by omega) hn (by omega) hty (by rw [x_up_at e44]; unfold cn_vc; omega) (fun m hm => x_up_ne e44 (fun z => hm z.2))
              refine ih _ (by omega) _ _ _ S44 rfl (by omega) (by omega) (by omega) (by omega) ?_ (by omega) (y_so_tr hso (y_so_up e44)) ?_ ?_ F44
              · rw [show ((j : Int) + -1 + 1).toNat = j by omega]; omega
              · rw [show ((j : Int) + -1 + 1).toNat = j by omega]; exact pl
              · rw [show ((j : Int) + -1 + 1).toNat = j by omega]; exact cn_stk_c hz px4 (by omega) tc hs (by constructor <;> intro z <;> omega)
theorem rx_38 {E : q_E} {σ : x_S} {Q : Option q_V → x_S → Prop} {a1 a2 a3 a4 : Int} (a1l : 0 ≤ a1) (a1h : a1 ≤ 1) (a2l : 0 ≤ a2) (a2h : a2 ≤ 15) (a3l : 0 ≤ a3) (a3h : a3 ≤ 53) (a4l : 0 ≤ a4) (a4h : a4 ≤ 53) (rq0 : 0 ≤ a2 ∧ a2 < σ 140 62) (hP : y_PI (σ 140)) (k : ∀ τ v, y_rf σ τ → 0 ≤ v → v ≤ 2 → y_so σ τ → v = cn_tr (σ 140) a1 a2.toNat a3 a4 → Q (some (x_I v)) τ) : x_P E 38 [x_R 138, x_I a1, x_I a2, x_I a3, x_I a4] σ Q := by
  have ru := hP.2.2.2.1
  have kd := hP.1
  obtain ⟨z7, l4, pcs, op0⟩ := cn_rl (A := σ 140) (r := a2.toNat) hP (by omega)
  have eW : (fun i => σ 140 (63 + 12 * a2.toNat + (5 + i))) = cn_W (σ 140) a2.toNat := funext fun i => congrArg (σ 140) (by omega)
  have e67 : σ 140 (63 + 12 * a2.toNat + 4) = σ 140 (67 + 12 * a2.toNat) := congrArg (σ 140) (by omega)
  refine x_Mt e_38 (h_38 E) (Nat.le_of_ble_eq_true rfl) t_38 rfl ?_
  refine x_blk (b := 0) (a_38 E) rfl ?_
  unfold b_38_0
  refine x_push 0 rfl ?_
  refine x_istore ?_
  refine x_push 0 rfl ?_
  refine x_istore ?_
  refine x_X_lo (lo' := [(0, x_R 138), (1, x_I _), (2, x_I _), (3, x_I _), (4, x_I _), (5, x_I _), (6, x_I _)]) ⟨rfl, rfl, rfl, rfl, rfl, rfl, rfl, trivial⟩ ?_
  refine x_aload rfl ?_
  refine x_iload rfl ?_
  refine x_push 4 rfl ?_
  refine x_cV (fun _ => rfl) rfl (by decide) (Nat.le_of_ble_eq_true rfl) ?_
  refine rf_3_4 y_rf_rf hP (by omega) (by omega) (fun v1 v1a v1b v1c => ?_)
  refine x_push 1 rfl ?_
  refine x_isub ?_
  refine x_istore ?_
  refine x_fall ?_
  refine x_G_lo (lo' := [(0, x_R 138), (1, x_I _), (2, x_I _), (3, x_I _), (4, x_I _), (5, x_I _), (6, x_I _), (7, x_I _)]) ⟨rfl, rfl, rfl, rfl, rfl, rfl, rfl, rfl, trivial⟩ ?_
  have z4 : v1 = σ 140 (67 + 12 * a2.toNat) := v1c.trans (congrArg (σ 140) (by omega))
  refine rx_38_b14 a1l a1h a2l a2h a3l a3h a4l a4h rq0 hP k _ _ _ _ σ rfl (by omega) (by omega) (by omega) (by omega) ?_ (by omega) y_so_rf (fun m hm => absurd hm (by omega)) ?_ y_rf_rf
  · rw [show (v1 - 1 + 1).toNat = (σ 140 (67 + 12 * a2.toNat)).toNat by omega]; exact op0.symm
  · rw [show (v1 - 1 + 1).toNat = (σ 140 (67 + 12 * a2.toNat)).toNat by omega]; exact ⟨fun z => absurd z (by decide), fun z => absurd z cn_stk_0⟩
