/-! the class's walk is the machine -/
/-- a standing tree of the class -/
def y_gS (σ : x_S) (g n : Nat) (l P V : Nat → Int) : Prop := σ g 3 = n ∧ ∀ v : Nat, v < n → σ (g + 1) v = l v ∧ σ (g + 2) v = P v - v ∧ σ (g + 3) v = V v
theorem y_gS_fr {σ τ : x_S} {g n : Nat} {l P V : Nat → Int} (f : ∀ c m, g ≤ c → c ≤ g + 3 → τ c m = σ c m) (h : y_gS σ g n l P V) : y_gS τ g n l P V := ⟨(f _ _ (by omega) (by omega)).trans h.1, fun v hv => ⟨(f _ _ (by omega) (by omega)).trans (h.2 v hv).1, (f _ _ (by omega) (by omega)).trans (h.2 v hv).2.1, (f _ _ (by omega) (by omega)).trans (h.2 v hv).2.2⟩⟩
/-- the class's walk stands as the machine -/
def y_WR (τ : x_S) : w_C → Prop
  | (d, a, r, i, o, u, v) => τ 105 6 = d ∧ τ 105 5 = o ∧ (∀ j, j < d → τ 108 j = a j ∧ τ 109 j = r j ∧ τ 110 j = i j) ∧ (∀ j, j < o → τ 106 j = u j) ∧ ∀ j, j < 40 → τ 107 j = v j
/-- what is chosen is what is taken -/
theorem y_chs {σ : x_S} {A : Nat → Int} {p q f l : Int} (h : y_CH σ 4 A) (p1 : 0 ≤ p) (p2 : p ≤ 1) (q1 : 0 ≤ q) (q2 : q ≤ 2) (f1 : 0 ≤ f) (f2 : f ≤ 4) (l1 : 0 ≤ l) (l2 : l ≤ 2) : σ 10 (((p * 3 + q) * 5 + f) * 3 + l).toNat = y_sel A p q f l (A 62).toNat := by
  have e := h p.toNat q.toNat f.toNat l.toNat (by omega) (by omega) (by omega) (by omega)
  rw [show ((p.toNat : Nat) : Int) = p by omega, show ((q.toNat : Nat) : Int) = q by omega, show ((f.toNat : Nat) : Int) = f by omega, show ((l.toNat : Nat) : Int) = l by omega] at e
  rw [← e]
  show σ 10 _ = σ 10 _
  congr 1
  omega
/-- a standing tree, to be walked over -/
abbrev w_lt (l : Nat → Int) : Int → Int := fun x => l x.toNat
abbrev w_nd : Int → Int := fun x => x
def w_bl (P : Nat → Int) : Int → Int → Int := fun x c => if c = 0 then x + 1 else P (x + 1).toNat
abbrev w_D (n : Nat) : Int → Prop := fun x => 0 ≤ x ∧ x < n
theorem w_GS {A : Nat → Int} {m : Int} {l P V : Nat → Int} {n : Nat} (n40 : n ≤ 40) (tr : y_tr l n) (ms : y_ms A m l n P V) : w_G (w_lt l) w_nd w_nd (w_bl P) (w_D n) := by
  refine ⟨fun x h => ?_, fun x c h hc => Or.inr ?_⟩
  · have t := tr.1 x.toNat (by omega)
    show (0 ≤ x ∧ x ≤ 2147483647) ∧ (0 ≤ x ∧ x < 40) ∧ (0 ≤ l x.toNat ∧ l x.toNat ≤ 4) ∧ 0 ≤ x ∧ x ≤ 78
    omega
  · have hc : (c = 0 ∧ 2 ≤ l x.toNat) ∨ (c = 1 ∧ 3 ≤ l x.toNat) := hc
    have k := y_mp_c tr ms (v := x.toNat) (by omega) (by omega) (by omega)
    have e : (x + 1).toNat = x.toNat + 1 := by omega
    unfold w_bl
    rcases hc with hc | hc
    · rw [if_pos hc.1]
      show (0 ≤ x + 1 ∧ x + 1 < n) ∧ x < x + 1
      omega
    · have k2 := k.2.2.2 hc.2
      rw [if_neg (by omega), e]
      show (0 ≤ P (x.toNat + 1) ∧ P (x.toNat + 1) < n) ∧ x < P (x.toNat + 1)
      omega
theorem kx_85_92_4 {E : q_E} {σ : x_S} {Q : Option q_V → x_S → Prop} {a2 : Int} (a2l : -2147483648 ≤ a2) (a2h : a2 ≤ 2147483647) (C0 : y_CI σ) (k : ∀ v, (-4) ≤ v → v ≤ 15 → (((0 ≤ a2 ∧ a2 < σ 92 3) ∧ v = σ 93 a2.toNat) ∨ (¬ (0 ≤ a2 ∧ a2 < σ 92 3) ∧ v = -4)) → Q (some (x_I v)) σ) : x_P E 85 [x_R 92, x_R 4, x_I a2] σ Q := by
  have c3 : 0 ≤ σ 92 3 ∧ σ 92 3 ≤ 40 := C0 92 3 (by decide) (by decide) (by decide)
  refine x_Mt e_85 (h_85 E) (Nat.le_of_ble_eq_true rfl) t_85 rfl ?_
  refine x_blk (b := 0) (a_85 E) rfl ?_
  unfold b_85_0
  refine x_iload rfl ?_
  refine x_aload rfl ?_
  refine x_getIG y_f92_3 C0 ?_
  intro g1a g1b
  refine x_cS (fun _ => rfl) (Nat.le_of_ble_eq_true rfl) ?_
  refine sf_2 (by omega) (by omega) (by omega) (by omega) C0 (fun y2 => ?_) (fun y2 => ?_)
  · skip
    refine x_if_eq (by omega) (by omega) (fun z => absurd z (by omega)) (fun z3 => ?_)
    refine x_aload rfl ?_
    refine x_getR (r := 92) rfl (by decide) (by decide) rfl ?_
    refine x_iload rfl ?_
    refine x_ialdX y_a93 C0 (by omega) (by omega) (fun v4 v4x v4a v4b => ?_)
    refine x_goto ?_
    refine x_blk (b := 2) (a_85 E) rfl ?_
    unfold b_85_2
    refine x_iret ?_
    exact k _ (by omega) (by omega) (by omega)
  · skip
    refine x_if_eq (by omega) (by omega) (fun z5 => ?_) (fun z => absurd (by omega) z)
    refine x_blk (b := 1) (a_85 E) rfl ?_
    unfold b_85_1
    refine x_push (-4) rfl ?_
    refine x_fall ?_
    refine x_blk (b := 2) (a_85 E) rfl ?_
    unfold b_85_2
    refine x_iret ?_
    exact k _ (by omega) (by omega) (by omega)
theorem kx_142_92_4 {E : q_E} {σ : x_S} {Q : Option q_V → x_S → Prop} {a2 a3 : Int} (b1 : 0 ≤ a2) (b2 : a2 ≤ 39) (b3 : 0 ≤ a3) (b4 : a3 ≤ 1) (hs : a2 + 1 < σ 92 3 → 0 ≤ σ 94 (a2 + 1).toNat ∧ σ 94 (a2 + 1).toNat ≤ 40) (C0 : y_CI σ) (k : ∀ v, 0 ≤ v → v ≤ 100 → ((a3 = 0 ∧ v = a2 + 1) ∨ (a3 = 1 ∧ a2 + 1 < σ 92 3 ∧ v = a2 + 1 + σ 94 (a2 + 1).toNat) ∨ (a3 = 1 ∧ ¬ a2 + 1 < σ 92 3 ∧ v = a2 + 1)) → Q (some (x_I v)) σ) : x_P E 142 [x_R 92, x_R 4, x_I a2, x_I a3] σ Q := by
  have c3 : 0 ≤ σ 92 3 ∧ σ 92 3 ≤ 40 := C0 92 3 (by decide) (by decide) (by decide)
  refine x_Mt e_142 (h_142 E) (Nat.le_of_ble_eq_true rfl) t_142 rfl ?_
  refine x_blk (b := 0) (a_142 E) rfl ?_
  unfold b_142_0
  refine x_iload rfl ?_
  refine x_push 1 rfl ?_
  refine x_iadd ?_
  refine x_istore ?_
  refine x_iload rfl ?_
  refine x_if_eq (by omega) (by omega) (fun z1 => ?_) (fun z1 => ?_)
  · skip
    refine x_blk (b := 1) (a_142 E) rfl ?_
    unfold b_142_1
    refine x_iload rfl ?_
    refine x_goto ?_
    refine x_blk (b := 3) (a_142 E) rfl ?_
    unfold b_142_3
    refine x_iret ?_
    exact k _ (by omega) (by omega) (by omega)
  · skip
    refine x_iload rfl ?_
    refine x_aload rfl ?_
    refine x_getIG y_f92_3 C0 ?_
    intro g2a g2b
    refine x_cS (fun _ => rfl) (Nat.le_of_ble_eq_true rfl) ?_
    refine sf_2 (by omega) (by omega) (by omega) (by omega) C0 (fun y3 => ?_) (fun y3 => ?_)
    · skip
      refine x_if_ne (by omega) (by omega) (fun z => absurd z (by omega)) (fun z4 => ?_)
      refine x_blk (b := 2) (a_142 E) rfl ?_
      unfold b_142_2
      refine x_iload rfl ?_
      refine x_aload rfl ?_
      refine x_getR (r := 92) rfl (by decide) (by decide) rfl ?_
      refine x_iload rfl ?_
      refine x_ialdX y_a94 C0 (by omega) (by omega) (fun v5 v5x v5a v5b => ?_)
      have hs2 := hs (by omega)
      refine x_iadd ?_
      refine x_fall ?_
      refine x_blk (b := 3) (a_142 E) rfl ?_
      unfold b_142_3
      refine x_iret ?_
      exact k _ (by omega) (by omega) (by omega)
    · skip
      refine x_if_ne (by omega) (by omega) (fun z6 => ?_) (fun z => absurd (by omega) z)
      refine x_fall ?_
      refine x_blk (b := 1) (a_142 E) rfl ?_
      unfold b_142_1
      refine x_iload rfl ?_
      refine x_goto ?_
      refine x_blk (b := 3) (a_142 E) rfl ?_
      unfold b_142_3
      refine x_iret ?_
      exact k _ (by omega) (by omega) (by omega)
theorem kx_85_96_4 {E : q_E} {σ : x_S} {Q : Option q_V → x_S → Prop} {a2 : Int} (a2l : -2147483648 ≤ a2) (a2h : a2 ≤ 2147483647) (C0 : y_CI σ) (k : ∀ v, (-4) ≤ v → v ≤ 15 → (((0 ≤ a2 ∧ a2 < σ 96 3) ∧ v = σ 97 a2.toNat) ∨ (¬ (0 ≤ a2 ∧ a2 < σ 96 3) ∧ v = -4)) → Q (some (x_I v)) σ) : x_P E 85 [x_R 96, x_R 4, x_I a2] σ Q := by
  have c3 : 0 ≤ σ 96 3 ∧ σ 96 3 ≤ 40 := C0 96 3 (by decide) (by decide) (by decide)
  refine x_Mt e_85 (h_85 E) (Nat.le_of_ble_eq_true rfl) t_85 rfl ?_
  refine x_blk (b := 0) (a_85 E) rfl ?_
  unfold b_85_0
  refine x_iload rfl ?_
  refine x_aload rfl ?_
  refine x_getIG y_f96_3 C0 ?_
  intro g1a g1b
  refine x_cS (fun _ => rfl) (Nat.le_of_ble_eq_true rfl) ?_
  refine sf_2 (by omega) (by omega) (by omega) (by omega) C0 (fun y2 => ?_) (fun y2 => ?_)
  · skip
    refine x_if_eq (by omega) (by omega) (fun z => absurd z (by omega)) (fun z3 => ?_)
    refine x_aload rfl ?_
    refine x_getR (r := 96) rfl (by decide) (by decide) rfl ?_
    refine x_iload rfl ?_
    refine x_ialdX y_a97 C0 (by omega) (by omega) (fun v4 v4x v4a v4b => ?_)
    refine x_goto ?_
    refine x_blk (b := 2) (a_85 E) rfl ?_
    unfold b_85_2
    refine x_iret ?_
    exact k _ (by omega) (by omega) (by omega)
  · skip
    refine x_if_eq (by omega) (by omega) (fun z5 => ?_) (fun z => absurd (by omega) z)
    refine x_blk (b := 1) (a_85 E) rfl ?_
    unfold b_85_1
    refine x_push (-4) rfl ?_
    refine x_fall ?_
    refine x_blk (b := 2) (a_85 E) rfl ?_
    unfold b_85_2
    refine x_iret ?_
    exact k _ (by omega) (by omega) (by omega)
theorem kx_142_96_4 {E : q_E} {σ : x_S} {Q : Option q_V → x_S → Prop} {a2 a3 : Int} (b1 : 0 ≤ a2) (b2 : a2 ≤ 39) (b3 : 0 ≤ a3) (b4 : a3 ≤ 1) (hs : a2 + 1 < σ 96 3 → 0 ≤ σ 98 (a2 + 1).toNat ∧ σ 98 (a2 + 1).toNat ≤ 40) (C0 : y_CI σ) (k : ∀ v, 0 ≤ v → v ≤ 100 → ((a3 = 0 ∧ v = a2 + 1) ∨ (a3 = 1 ∧ a2 + 1 < σ 96 3 ∧ v = a2 + 1 + σ 98 (a2 + 1).toNat) ∨ (a3 = 1 ∧ ¬ a2 + 1 < σ 96 3 ∧ v = a2 + 1)) → Q (some (x_I v)) σ) : x_P E 142 [x_R 96, x_R 4, x_I a2, x_I a3] σ Q := by
  have c3 : 0 ≤ σ 96 3 ∧ σ 96 3 ≤ 40 := C0 96 3 (by decide) (by decide) (by decide)
  refine x_Mt e_142 (h_142 E) (Nat.le_of_ble_eq_true rfl) t_142 rfl ?_
  refine x_blk (b := 0) (a_142 E) rfl ?_
  unfold b_142_0
  refine x_iload rfl ?_
  refine x_push 1 rfl ?_
  refine x_iadd ?_
  refine x_istore ?_
  refine x_iload rfl ?_
  refine x_if_eq (by omega) (by omega) (fun z1 => ?_) (fun z1 => ?_)
  · skip
    refine x_blk (b := 1) (a_142 E) rfl ?_
    unfold b_142_1
    refine x_iload rfl ?_
    refine x_goto ?_
    refine x_blk (b := 3) (a_142 E) rfl ?_
    unfold b_142_3
    refine x_iret ?_
    exact k _ (by omega) (by omega) (by omega)
  · skip
    refine x_iload rfl ?_
    refine x_aload rfl ?_
    refine x_getIG y_f96_3 C0 ?_
    intro g2a g2b
    refine x_cS (fun _ => rfl) (Nat.le_of_ble_eq_true rfl) ?_
    refine sf_2 (by omega) (by omega) (by omega) (by omega) C0 (fun y3 => ?_) (fun y3 => ?_)
    · skip
      refine x_if_ne (by omega) (by omega) (fun z => absurd z (by omega)) (fun z4 => ?_)
      refine x_blk (b := 2) (a_142 E) rfl ?_
      unfold b_142_2
      refine x_iload rfl ?_
      refine x_aload rfl ?_
      refine x_getR (r := 96) rfl (by decide) (by decide) rfl ?_
      refine x_iload rfl ?_
      refine x_ialdX y_a98 C0 (by omega) (by omega) (fun v5 v5x v5a v5b => ?_)
      have hs2 := hs (by omega)
      refine x_iadd ?_
      refine x_fall ?_
      refine x_blk (b := 3) (a_142 E) rfl ?_
      unfold b_142_3
      refine x_iret ?_
      exact k _ (by omega) (by omega) (by omega)
    · skip
      refine x_if_ne (by omega) (by omega) (fun z6 => ?_) (fun z => absurd (by omega) z)
      refine x_fall ?_
      refine x_blk (b := 1) (a_142 E) rfl ?_
      unfold b_142_1
      refine x_iload rfl ?_
      refine x_goto ?_
      refine x_blk (b := 3) (a_142 E) rfl ?_
      unfold b_142_3
      refine x_iret ?_
      exact k _ (by omega) (by omega) (by omega)
theorem kx_91_92 {E : q_E} {σ : x_S} {Q : Option q_V → x_S → Prop} {a1 : Int} (a1l : -2147483648 ≤ a1) (a1h : a1 ≤ 2147483647) (C0 : y_CI σ) (k : ∀ v, (-2147483648) ≤ v → v ≤ 2147483647 → (v = a1) → Q (some (x_I v)) σ) : x_P E 91 [x_R 92, x_I a1] σ Q := by
  refine x_Mt e_91 (h_91 E) (Nat.le_of_ble_eq_true rfl) t_91 rfl ?_
  refine x_blk (b := 0) (a_91 E) rfl ?_
  unfold b_91_0
  refine x_iload rfl ?_
  refine x_iret ?_
  exact k _ (by omega) (by omega) (by omega)
theorem kx_91_96 {E : q_E} {σ : x_S} {Q : Option q_V → x_S → Prop} {a1 : Int} (a1l : -2147483648 ≤ a1) (a1h : a1 ≤ 2147483647) (C0 : y_CI σ) (k : ∀ v, (-2147483648) ≤ v → v ≤ 2147483647 → (v = a1) → Q (some (x_I v)) σ) : x_P E 91 [x_R 96, x_I a1] σ Q := by
  refine x_Mt e_91 (h_91 E) (Nat.le_of_ble_eq_true rfl) t_91 rfl ?_
  refine x_blk (b := 0) (a_91 E) rfl ?_
  unfold b_91_0
  refine x_iload rfl ?_
  refine x_iret ?_
  exact k _ (by omega) (by omega) (by omega)
theorem kx_86_105_4_92 {E : q_E} {σ : x_S} {Q : Option q_V → x_S → Prop} {a3 a4 a5 : Int} (p1 : 0 ≤ a3) (p2 : a3 ≤ 1) (q1 : 0 ≤ a4) (q2 : a4 ≤ 2) (C0 : y_CI σ) {A : Nat → Int} (hP : y_PI A) (h4 : y_PG σ 4 A) {n : Nat} {l P V : Nat → Int} (n40 : n ≤ 40) (tr : y_tr l n) (ms : y_ms A 0 l n P V) (gs : y_gS σ 92 n l P V) (x1 : 0 ≤ a5) (x2 : a5 < n) {d o : Nat} {a r i u v : Nat → Int} (hd : d ≤ 78) (vb : ∀ j, 0 ≤ v j ∧ v j ≤ 10000) (W : y_WR σ (d, a, r, i, o, u, v)) (k : ∀ τ, y_CI τ → (∀ k m, (k < 105 ∨ 110 < k) → τ k m = σ k m) → y_WR τ (w_come A a3 (w_lt l) (w_lt V) w_nd a4 a5 (d, a, r, i, o, u, v)).2 → Q (some (x_I (w_come A a3 (w_lt l) (w_lt V) w_nd a4 a5 (d, a, r, i, o, u, v)).1)) τ) : x_P E 86 [x_R 105, x_R 4, x_R 92, x_I a3, x_I a4, x_I a5] σ Q := by
  obtain ⟨W1, W2, W3, W4, W5⟩ := W
  have t5 := tr.1 a5.toNat (by omega)
  have v5 := (y_ms_V hP (by decide) (by decide) tr ms _ a5.toNat rfl (by omega)).1
  have n3 := gs.1
  refine x_Mt e_86 (h_86 E) (Nat.le_of_ble_eq_true rfl) t_86 rfl ?_
  refine x_blk (b := 0) (a_86 E) rfl ?_
  unfold b_86_0
  refine x_iload rfl ?_
  refine x_if_ge (by omega) (by omega) (fun z => absurd z (by omega)) (fun z1 => ?_)
  refine x_blk (b := 1) (a_86 E) rfl ?_
  unfold b_86_1
  refine x_aload rfl ?_
  refine x_iload rfl ?_
  refine x_cU1 (fun _ => rfl) rfl (by decide) (Nat.le_of_ble_eq_true rfl) ?_
  refine kx_91_92 (by omega) (by omega) C0 (fun v2 v2a v2b v2c => ?_)
  rw [v2c]
  refine x_istore ?_
  refine x_iload rfl ?_
  refine x_push 40 rfl ?_
  refine x_cS (fun _ => rfl) (Nat.le_of_ble_eq_true rfl) ?_
  refine sf_2 (by omega) (by omega) (by omega) (by omega) C0 (fun y3 => ?_) (fun y3 => absurd (by omega) y3)
  refine x_if_eq (by omega) (by omega) (fun z => absurd z (by omega)) (fun z4 => ?_)
  refine x_aload rfl ?_
  refine x_getR (r := 105) rfl (by decide) (by decide) rfl ?_
  refine x_iload rfl ?_
  refine x_dup2 rfl rfl ?_
  refine x_ialdX y_a107 C0 (by omega) (by omega) (fun v5 v5x v5a v5b => ?_)
  have c7 := W5 a5.toNat (by omega)
  have cb := vb a5.toNat
  refine x_push 1 rfl ?_
  refine x_iadd ?_
  refine x_astG y_a107 C0 (by decide) (y_fr_rf (lo := 0) (hi := 138)) (by omega) (by omega) (by omega) (by omega) (fun S6 e6 C6 F6 => ?_)
  refine x_fall ?_
  refine x_blk (b := 2) (a_86 E) rfl ?_
  unfold b_86_2
  refine x_aload rfl ?_
  refine x_iload rfl ?_
  refine x_iload rfl ?_
  refine x_aload rfl ?_
  refine x_aload rfl ?_
  refine x_iload rfl ?_
  refine x_cU1 (fun _ => rfl) rfl (by decide) (Nat.le_of_ble_eq_true rfl) ?_
  refine kx_85_92_4 (by omega) (by omega) C6 (fun v7 v7a v7b v7c => ?_)
  refine x_aload rfl ?_
  refine x_iload rfl ?_
  refine x_cU1 (fun _ => rfl) rfl (by decide) (Nat.le_of_ble_eq_true rfl) ?_
  refine kx_74_92 (by omega) (by omega) C6 (fun v8 v8a v8b v8c => ?_)
  refine x_cV (fun _ => rfl) rfl (by decide) (Nat.le_of_ble_eq_true rfl) ?_
  have lx := (gs.2 a5.toNat (by omega)).1
  have vx := (gs.2 a5.toNat (by omega)).2.2
  have n3q : S6 92 3 = n := (x_up_nr e6 (by decide)).trans gs.1
  have lq : S6 93 a5.toNat = l a5.toNat := (x_up_nr e6 (by decide)).trans lx
  have vq : S6 95 a5.toNat = V a5.toNat := (x_up_nr e6 (by decide)).trans vx
  have cs := y_chs h4.2 (p := a3) (q := a4) (f := l a5.toNat) (l := V a5.toNat) (by omega) (by omega) (by omega) (by omega) (by omega) (by omega) (by omega) (by omega)
  have ll : v7 = l a5.toNat := by omega
  have ss : v8 = V a5.toNat := by omega
  rw [ll, ss]
  refine kx_46_4 (by omega) (by omega) (by omega) (by omega) (by omega) (by omega) (by omega) (by omega) C6 (fun v9 v9a v9b v9c => ?_)
  have ch : S6 10 (((a3 * 3 + a4) * 5 + l a5.toNat) * 3 + V a5.toNat).toNat = y_sel A a3 a4 (l a5.toNat) (V a5.toNat) (A 62).toNat := (x_up_nr e6 (by decide)).trans cs
  refine x_istore ?_
  refine x_X_lo (lo' := [(0, x_R 105), (1, x_R 4), (2, x_R 92), (3, x_I _), (4, x_I _), (5, x_I _), (6, x_I _), (7, x_I _)]) ⟨rfl, rfl, rfl, rfl, rfl, rfl, rfl, rfl, trivial⟩ ?_
  refine x_iload rfl ?_
  refine x_if_ge (by omega) (by omega) (fun z10 => ?_) (fun z10 => ?_)
  · skip
    refine x_push (-10) rfl ?_
    refine x_iload rfl ?_
    refine x_isub ?_
    refine x_iret ?_
    have sl : y_sel A a3 a4 (l a5.toNat) (V a5.toNat) (A 62).toNat < 0 := by omega
    have ew : w_come A a3 (w_lt l) (w_lt V) w_nd a4 a5 (d, a, r, i, o, u, v) = (-10 - a5, (d, a, r, i, o, u, y_wK v a5.toNat (v a5.toNat + 1))) := by
      rw [w_come_q, if_neg (by omega), if_pos sl]
    rw [ew] at k
    refine x_fin (b := -10 - a5) (by omega) ?_
    refine k _ C6 (fun c m h => x_up_nr e6 (by omega)) ⟨(x_up_nr e6 (by decide)).trans W1, (x_up_nr e6 (by decide)).trans W2, fun j hj => ?_, fun j hj => (x_up_nr e6 (by decide)).trans (W4 j hj), fun j hj => ?_⟩
    · have q := W3 j hj
      exact ⟨(x_up_nr e6 (by decide)).trans q.1, (x_up_nr e6 (by decide)).trans q.2.1, (x_up_nr e6 (by decide)).trans q.2.2⟩
    · by_cases c : j = a5.toNat
      · rw [c, y_wK_e]; exact (x_up_at e6).trans (by omega)
      · rw [y_wK_o c, x_up_ne e6 (fun z => c (by omega))]; exact W5 j hj
  · skip
    refine x_blk (b := 3) (a_86 E) rfl ?_
    unfold b_86_3
    refine x_aload rfl ?_
    refine x_getIG y_f105_6 C6 ?_
    have q11_0 : S6 105 6 = σ 105 6 := x_up_nr e6 (by decide)
    simp only [q11_0]
    intro g11a g11b
    refine x_push 80 rfl ?_
    refine x_cS (fun _ => rfl) (Nat.le_of_ble_eq_true rfl) ?_
    refine sf_2 (by omega) (by omega) (by omega) (by omega) C6 (fun y12 => ?_) (fun y12 => absurd (by omega) y12)
    refine x_if_ne (by omega) (by omega) (fun z => absurd z (by omega)) (fun z13 => ?_)
    refine x_blk (b := 4) (a_86 E) rfl ?_
    unfold b_86_4
    refine x_aload rfl ?_
    refine x_getR (r := 105) rfl (by decide) (by decide) rfl ?_
    refine x_aload rfl ?_
    refine x_getIG y_f105_6 C6 ?_
    have q14_0 : S6 105 6 = σ 105 6 := x_up_nr e6 (by decide)
    simp only [q14_0]
    intro g14a g14b
    refine x_iload rfl ?_
    refine x_astG y_a108 C6 (by decide) F6 (by omega) (by omega) (by omega) (by omega) (fun S15 e15 C15 F15 => ?_)
    refine x_aload rfl ?_
    refine x_getR (r := 105) rfl (by decide) (by decide) rfl ?_
    refine x_aload rfl ?_
    refine x_getIG y_f105_6 C15 ?_
    have q16_0 : S15 105 6 = S6 105 6 := x_up_nr e15 (by decide)
    have q16_1 : S6 105 6 = σ 105 6 := x_up_nr e6 (by decide)
    simp only [q16_0, q16_1]
    intro g16a g16b
    refine x_iload rfl ?_
    refine x_astG y_a109 C15 (by decide) F15 (by omega) (by omega) (by omega) (by omega) (fun S17 e17 C17 F17 => ?_)
    refine x_aload rfl ?_
    refine x_getR (r := 105) rfl (by decide) (by decide) rfl ?_
    refine x_aload rfl ?_
    refine x_getIG y_f105_6 C17 ?_
    have q18_0 : S17 105 6 = S15 105 6 := x_up_nr e17 (by decide)
    have q18_1 : S15 105 6 = S6 105 6 := x_up_nr e15 (by decide)
    have q18_2 : S6 105 6 = σ 105 6 := x_up_nr e6 (by decide)
    simp only [q18_0, q18_1, q18_2]
    intro g18a g18b
    refine x_push 0 rfl ?_
    refine x_astG y_a110 C17 (by decide) F17 (by omega) (by omega) (by omega) (by omega) (fun S19 e19 C19 F19 => ?_)
    refine x_aload rfl ?_
    refine x_dup rfl ?_
    refine x_getIG y_f105_6 C19 ?_
    have q20_0 : S19 105 6 = S17 105 6 := x_up_nr e19 (by decide)
    have q20_1 : S17 105 6 = S15 105 6 := x_up_nr e17 (by decide)
    have q20_2 : S15 105 6 = S6 105 6 := x_up_nr e15 (by decide)
    have q20_3 : S6 105 6 = σ 105 6 := x_up_nr e6 (by decide)
    simp only [q20_0, q20_1, q20_2, q20_3]
    intro g20a g20b
    refine x_push 1 rfl ?_
    refine x_iadd ?_
    refine x_putIG y_f105_6 ⟨by decide, rfl⟩ (by decide) C19 (by decide) F19 (by omega) (by omega) (fun S21 e21 C21 F21 => ?_)
    refine x_push 0 rfl ?_
    refine x_iret ?_
    have sl : ¬ y_sel A a3 a4 (l a5.toNat) (V a5.toNat) (A 62).toNat < 0 := by omega
    have ew : w_come A a3 (w_lt l) (w_lt V) w_nd a4 a5 (d, a, r, i, o, u, v) = (0, (d + 1, y_wK a d a5, y_wK r d (y_sel A a3 a4 (l a5.toNat) (V a5.toNat) (A 62).toNat), y_wK i d 0, o, u, y_wK v a5.toNat (v a5.toNat + 1))) := by
      rw [w_come_q, if_neg (by omega), if_neg sl]
    rw [ew] at k
    have d105 : (σ 105 6).toNat = d := by omega
    refine k _ C21 (fun c m h => ?_) ⟨?_, ?_, fun j hj => ⟨?_, ?_, ?_⟩, fun j hj => ?_, fun j hj => ?_⟩
    · rw [x_up_nr e21 (by omega), x_up_nr e19 (by omega), x_up_nr e17 (by omega), x_up_nr e15 (by omega), x_up_nr e6 (by omega)]
    · rw [x_up_at e21]; omega
    · rw [x_up_ne e21 (by decide), x_up_nr e19 (by decide), x_up_nr e17 (by decide), x_up_nr e15 (by decide), x_up_nr e6 (by decide)]; exact W2
    · rw [x_up_nr e21 (by decide), x_up_nr e19 (by decide), x_up_nr e17 (by decide)]
      by_cases c : j = d
      · rw [c, y_wK_e, ← d105]; exact x_up_at e15
      · rw [y_wK_o c, x_up_ne e15 (fun z => c (by omega)), x_up_nr e6 (by decide)]; exact (W3 j (by omega)).1
    · rw [x_up_nr e21 (by decide), x_up_nr e19 (by decide)]
      by_cases c : j = d
      · rw [c, y_wK_e, ← d105, x_up_at e17]; omega
      · rw [y_wK_o c, x_up_ne e17 (fun z => c (by omega)), x_up_nr e15 (by decide), x_up_nr e6 (by decide)]; exact (W3 j (by omega)).2.1
    · rw [x_up_nr e21 (by decide)]
      by_cases c : j = d
      · rw [c, y_wK_e, ← d105]; exact x_up_at e19
      · rw [y_wK_o c, x_up_ne e19 (fun z => c (by omega)), x_up_nr e17 (by decide), x_up_nr e15 (by decide), x_up_nr e6 (by decide)]; exact (W3 j (by omega)).2.2
    · rw [x_up_nr e21 (by decide), x_up_nr e19 (by decide), x_up_nr e17 (by decide), x_up_nr e15 (by decide), x_up_nr e6 (by decide)]; exact W4 j hj
    · rw [x_up_nr e21 (by decide), x_up_nr e19 (by decide), x_up_nr e17 (by decide), x_up_nr e15 (by decide)]
      by_cases c : j = a5.toNat
      · rw [c, y_wK_e]; exact (x_up_at e6).trans (by omega)
      · rw [y_wK_o c, x_up_ne e6 (fun z => c (by omega))]; exact W5 j hj
theorem kx_86_105_4_96 {E : q_E} {σ : x_S} {Q : Option q_V → x_S → Prop} {a3 a4 a5 : Int} (p1 : 0 ≤ a3) (p2 : a3 ≤ 1) (q1 : 0 ≤ a4) (q2 : a4 ≤ 2) (C0 : y_CI σ) {A : Nat → Int} (hP : y_PI A) (h4 : y_PG σ 4 A) {n : Nat} {l P V : Nat → Int} (n40 : n ≤ 40) (tr : y_tr l n) (ms : y_ms A 0 l n P V) (gs : y_gS σ 96 n l P V) (x1 : 0 ≤ a5) (x2 : a5 < n) {d o : Nat} {a r i u v : Nat → Int} (hd : d ≤ 78) (vb : ∀ j, 0 ≤ v j ∧ v j ≤ 10000) (W : y_WR σ (d, a, r, i, o, u, v)) (k : ∀ τ, y_CI τ → (∀ k m, (k < 105 ∨ 110 < k) → τ k m = σ k m) → y_WR τ (w_come A a3 (w_lt l) (w_lt V) w_nd a4 a5 (d, a, r, i, o, u, v)).2 → Q (some (x_I (w_come A a3 (w_lt l) (w_lt V) w_nd a4 a5 (d, a, r, i, o, u, v)).1)) τ) : x_P E 86 [x_R 105, x_R 4, x_R 96, x_I a3, x_I a4, x_I a5] σ Q := by
  obtain ⟨W1, W2, W3, W4, W5⟩ := W
  have t5 := tr.1 a5.toNat (by omega)
  have v5 := (y_ms_V hP (by decide) (by decide) tr ms _ a5.toNat rfl (by omega)).1
  have n3 := gs.1
  refine x_Mt e_86 (h_86 E) (Nat.le_of_ble_eq_true rfl) t_86 rfl ?_
  refine x_blk (b := 0) (a_86 E) rfl ?_
  unfold b_86_0
  refine x_iload rfl ?_
  refine x_if_ge (by omega) (by omega) (fun z => absurd z (by omega)) (fun z1 => ?_)
  refine x_blk (b := 1) (a_86 E) rfl ?_
  unfold b_86_1
  refine x_aload rfl ?_
  refine x_iload rfl ?_
  refine x_cU1 (fun _ => rfl) rfl (by decide) (Nat.le_of_ble_eq_true rfl) ?_
  refine kx_91_96 (by omega) (by omega) C0 (fun v2 v2a v2b v2c => ?_)
  rw [v2c]
  refine x_istore ?_
  refine x_iload rfl ?_
  refine x_push 40 rfl ?_
  refine x_cS (fun _ => rfl) (Nat.le_of_ble_eq_true rfl) ?_
  refine sf_2 (by omega) (by omega) (by omega) (by omega) C0 (fun y3 => ?_) (fun y3 => absurd (by omega) y3)
  refine x_if_eq (by omega) (by omega) (fun z => absurd z (by omega)) (fun z4 => ?_)
  refine x_aload rfl ?_
  refine x_getR (r := 105) rfl (by decide) (by decide) rfl ?_
  refine x_iload rfl ?_
  refine x_dup2 rfl rfl ?_
  refine x_ialdX y_a107 C0 (by omega) (by omega) (fun v5 v5x v5a v5b => ?_)
  have c7 := W5 a5.toNat (by omega)
  have cb := vb a5.toNat
  refine x_push 1 rfl ?_
  refine x_iadd ?_
  refine x_astG y_a107 C0 (by decide) (y_fr_rf (lo := 0) (hi := 138)) (by omega) (by omega) (by omega) (by omega) (fun S6 e6 C6 F6 => ?_)
  refine x_fall ?_
  refine x_blk (b := 2) (a_86 E) rfl ?_
  unfold b_86_2
  refine x_aload rfl ?_
  refine x_iload rfl ?_
  refine x_iload rfl ?_
  refine x_aload rfl ?_
  refine x_aload rfl ?_
  refine x_iload rfl ?_
  refine x_cU1 (fun _ => rfl) rfl (by decide) (Nat.le_of_ble_eq_true rfl) ?_
  refine kx_85_96_4 (by omega) (by omega) C6 (fun v7 v7a v7b v7c => ?_)
  refine x_aload rfl ?_
  refine x_iload rfl ?_
  refine x_cU1 (fun _ => rfl) rfl (by decide) (Nat.le_of_ble_eq_true rfl) ?_
  refine kx_74_96 (by omega) (by omega) C6 (fun v8 v8a v8b v8c => ?_)
  refine x_cV (fun _ => rfl) rfl (by decide) (Nat.le_of_ble_eq_true rfl) ?_
  have lx := (gs.2 a5.toNat (by omega)).1
  have vx := (gs.2 a5.toNat (by omega)).2.2
  have n3q : S6 96 3 = n := (x_up_nr e6 (by decide)).trans gs.1
  have lq : S6 97 a5.toNat = l a5.toNat := (x_up_nr e6 (by decide)).trans lx
  have vq : S6 99 a5.toNat = V a5.toNat := (x_up_nr e6 (by decide)).trans vx
  have cs := y_chs h4.2 (p := a3) (q := a4) (f := l a5.toNat) (l := V a5.toNat) (by omega) (by omega) (by omega) (by omega) (by omega) (by omega) (by omega) (by omega)
  have ll : v7 = l a5.toNat := by omega
  have ss : v8 = V a5.toNat := by omega
  rw [ll, ss]
  refine kx_46_4 (by omega) (by omega) (by omega) (by omega) (by omega) (by omega) (by omega) (by omega) C6 (fun v9 v9a v9b v9c => ?_)
  have ch : S6 10 (((a3 * 3 + a4) * 5 + l a5.toNat) * 3 + V a5.toNat).toNat = y_sel A a3 a4 (l a5.toNat) (V a5.toNat) (A 62).toNat := (x_up_nr e6 (by decide)).trans cs
  refine x_istore ?_
  refine x_X_lo (lo' := [(0, x_R 105), (1, x_R 4), (2, x_R 96), (3, x_I _), (4, x_I _), (5, x_I _), (6, x_I _), (7, x_I _)]) ⟨rfl, rfl, rfl, rfl, rfl, rfl, rfl, rfl, trivial⟩ ?_
  refine x_iload rfl ?_
  refine x_if_ge (by omega) (by omega) (fun z10 => ?_) (fun z10 => ?_)
  · skip
    refine x_push (-10) rfl ?_
    refine x_iload rfl ?_
    refine x_isub ?_
    refine x_iret ?_
    have sl : y_sel A a3 a4 (l a5.toNat) (V a5.toNat) (A 62).toNat < 0 := by omega
    have ew : w_come A a3 (w_lt l) (w_lt V) w_nd a4 a5 (d, a, r, i, o, u, v) = (-10 - a5, (d, a, r, i, o, u, y_wK v a5.toNat (v a5.toNat + 1))) := by
      rw [w_come_q, if_neg (by omega), if_pos sl]
    rw [ew] at k
    refine x_fin (b := -10 - a5) (by omega) ?_
    refine k _ C6 (fun c m h => x_up_nr e6 (by omega)) ⟨(x_up_nr e6 (by decide)).trans W1, (x_up_nr e6 (by decide)).trans W2, fun j hj => ?_, fun j hj => (x_up_nr e6 (by decide)).trans (W4 j hj), fun j hj => ?_⟩
    · have q := W3 j hj
      exact ⟨(x_up_nr e6 (by decide)).trans q.1, (x_up_nr e6 (by decide)).trans q.2.1, (x_up_nr e6 (by decide)).trans q.2.2⟩
    · by_cases c : j = a5.toNat
      · rw [c, y_wK_e]; exact (x_up_at e6).trans (by omega)
      · rw [y_wK_o c, x_up_ne e6 (fun z => c (by omega))]; exact W5 j hj
  · skip
    refine x_blk (b := 3) (a_86 E) rfl ?_
    unfold b_86_3
    refine x_aload rfl ?_
    refine x_getIG y_f105_6 C6 ?_
    have q11_0 : S6 105 6 = σ 105 6 := x_up_nr e6 (by decide)
    simp only [q11_0]
    intro g11a g11b
    refine x_push 80 rfl ?_
    refine x_cS (fun _ => rfl) (Nat.le_of_ble_eq_true rfl) ?_
    refine sf_2 (by omega) (by omega) (by omega) (by omega) C6 (fun y12 => ?_) (fun y12 => absurd (by omega) y12)
    refine x_if_ne (by omega) (by omega) (fun z => absurd z (by omega)) (fun z13 => ?_)
    refine x_blk (b := 4) (a_86 E) rfl ?_
    unfold b_86_4
    refine x_aload rfl ?_
    refine x_getR (r := 105) rfl (by decide) (by decide) rfl ?_
    refine x_aload rfl ?_
    refine x_getIG y_f105_6 C6 ?_
    have q14_0 : S6 105 6 = σ 105 6 := x_up_nr e6 (by decide)
    simp only [q14_0]
    intro g14a g14b
    refine x_iload rfl ?_
    refine x_astG y_a108 C6 (by decide) F6 (by omega) (by omega) (by omega) (by omega) (fun S15 e15 C15 F15 => ?_)
    refine x_aload rfl ?_
    refine x_getR (r := 105) rfl (by decide) (by decide) rfl ?_
    refine x_aload rfl ?_
    refine x_getIG y_f105_6 C15 ?_
    have q16_0 : S15 105 6 = S6 105 6 := x_up_nr e15 (by decide)
    have q16_1 : S6 105 6 = σ 105 6 := x_up_nr e6 (by decide)
    simp only [q16_0, q16_1]
    intro g16a g16b
    refine x_iload rfl ?_
    refine x_astG y_a109 C15 (by decide) F15 (by omega) (by omega) (by omega) (by omega) (fun S17 e17 C17 F17 => ?_)
    refine x_aload rfl ?_
    refine x_getR (r := 105) rfl (by decide) (by decide) rfl ?_
    refine x_aload rfl ?_
    refine x_getIG y_f105_6 C17 ?_
    have q18_0 : S17 105 6 = S15 105 6 := x_up_nr e17 (by decide)
    have q18_1 : S15 105 6 = S6 105 6 := x_up_nr e15 (by decide)
    have q18_2 : S6 105 6 = σ 105 6 := x_up_nr e6 (by decide)
    simp only [q18_0, q18_1, q18_2]
    intro g18a g18b
    refine x_push 0 rfl ?_
    refine x_astG y_a110 C17 (by decide) F17 (by omega) (by omega) (by omega) (by omega) (fun S19 e19 C19 F19 => ?_)
    refine x_aload rfl ?_
    refine x_dup rfl ?_
    refine x_getIG y_f105_6 C19 ?_
    have q20_0 : S19 105 6 = S17 105 6 := x_up_nr e19 (by decide)
    have q20_1 : S17 105 6 = S15 105 6 := x_up_nr e17 (by decide)
    have q20_2 : S15 105 6 = S6 105 6 := x_up_nr e15 (by decide)
    have q20_3 : S6 105 6 = σ 105 6 := x_up_nr e6 (by decide)
    simp only [q20_0, q20_1, q20_2, q20_3]
    intro g20a g20b
    refine x_push 1 rfl ?_
    refine x_iadd ?_
    refine x_putIG y_f105_6 ⟨by decide, rfl⟩ (by decide) C19 (by decide) F19 (by omega) (by omega) (fun S21 e21 C21 F21 => ?_)
    refine x_push 0 rfl ?_
    refine x_iret ?_
    have sl : ¬ y_sel A a3 a4 (l a5.toNat) (V a5.toNat) (A 62).toNat < 0 := by omega
    have ew : w_come A a3 (w_lt l) (w_lt V) w_nd a4 a5 (d, a, r, i, o, u, v) = (0, (d + 1, y_wK a d a5, y_wK r d (y_sel A a3 a4 (l a5.toNat) (V a5.toNat) (A 62).toNat), y_wK i d 0, o, u, y_wK v a5.toNat (v a5.toNat + 1))) := by
      rw [w_come_q, if_neg (by omega), if_neg sl]
    rw [ew] at k
    have d105 : (σ 105 6).toNat = d := by omega
    refine k _ C21 (fun c m h => ?_) ⟨?_, ?_, fun j hj => ⟨?_, ?_, ?_⟩, fun j hj => ?_, fun j hj => ?_⟩
    · rw [x_up_nr e21 (by omega), x_up_nr e19 (by omega), x_up_nr e17 (by omega), x_up_nr e15 (by omega), x_up_nr e6 (by omega)]
    · rw [x_up_at e21]; omega
    · rw [x_up_ne e21 (by decide), x_up_nr e19 (by decide), x_up_nr e17 (by decide), x_up_nr e15 (by decide), x_up_nr e6 (by decide)]; exact W2
    · rw [x_up_nr e21 (by decide), x_up_nr e19 (by decide), x_up_nr e17 (by decide)]
      by_cases c : j = d
      · rw [c, y_wK_e, ← d105]; exact x_up_at e15
      · rw [y_wK_o c, x_up_ne e15 (fun z => c (by omega)), x_up_nr e6 (by decide)]; exact (W3 j (by omega)).1
    · rw [x_up_nr e21 (by decide), x_up_nr e19 (by decide)]
      by_cases c : j = d
      · rw [c, y_wK_e, ← d105, x_up_at e17]; omega
      · rw [y_wK_o c, x_up_ne e17 (fun z => c (by omega)), x_up_nr e15 (by decide), x_up_nr e6 (by decide)]; exact (W3 j (by omega)).2.1
    · rw [x_up_nr e21 (by decide)]
      by_cases c : j = d
      · rw [c, y_wK_e, ← d105]; exact x_up_at e19
      · rw [y_wK_o c, x_up_ne e19 (fun z => c (by omega)), x_up_nr e17 (by decide), x_up_nr e15 (by decide), x_up_nr e6 (by decide)]; exact (W3 j (by omega)).2.2
    · rw [x_up_nr e21 (by decide), x_up_nr e19 (by decide), x_up_nr e17 (by decide), x_up_nr e15 (by decide), x_up_nr e6 (by decide)]; exact W4 j hj
    · rw [x_up_nr e21 (by decide), x_up_nr e19 (by decide), x_up_nr e17 (by decide), x_up_nr e15 (by decide)]
      by_cases c : j = a5.toNat
      · rw [c, y_wK_e]; exact (x_up_at e6).trans (by omega)
      · rw [y_wK_o c, x_up_ne e6 (fun z => c (by omega))]; exact W5 j hj
theorem kx_149_105 {E : q_E} {σ : x_S} {Q : Option q_V → x_S → Prop} {a1 : Int} (b1 : 0 ≤ a1) (b2 : a1 ≤ 9) (C0 : y_CI σ) (kF : ¬ σ 105 5 < 40 → Q (some (x_I (-3))) σ) (kS : σ 105 5 < 40 → ∀ τ, y_CI τ → (∀ k m, k ≠ 106 → ¬ (k = 105 ∧ m = 5) → τ k m = σ k m) → τ 105 5 = σ 105 5 + 1 → (∀ m, τ 106 m = y_wK (σ 106) (σ 105 5).toNat a1 m) → Q (some (x_I 0)) τ) : x_P E 149 [x_R 105, x_I a1] σ Q := by
  have c5 : 0 ≤ σ 105 5 ∧ σ 105 5 ≤ 40 := C0 105 5 (by decide) (by decide) (by decide)
  refine x_Mt e_149 (h_149 E) (Nat.le_of_ble_eq_true rfl) t_149 rfl ?_
  refine x_blk (b := 0) (a_149 E) rfl ?_
  unfold b_149_0
  refine x_aload rfl ?_
  refine x_getIG y_f105_5 C0 ?_
  intro g1a g1b
  refine x_push 40 rfl ?_
  refine x_icmp_lt (by omega) (by omega) (by omega) (by omega) (fun z2 => ?_) (fun z2 => ?_)
  · skip
    refine x_blk (b := 1) (a_149 E) rfl ?_
    unfold b_149_1
    refine x_aload rfl ?_
    refine x_getR (r := 105) rfl (by decide) (by decide) rfl ?_
    refine x_aload rfl ?_
    refine x_getIG y_f105_5 C0 ?_
    intro g3a g3b
    refine x_iload rfl ?_
    refine x_astG y_a106 C0 (by decide) (y_fr_rf (lo := 0) (hi := 138)) (by omega) (by omega) (by omega) (by omega) (fun S4 e4 C4 F4 => ?_)
    refine x_aload rfl ?_
    refine x_dup rfl ?_
    refine x_getIG y_f105_5 C4 ?_
    have q5_0 : S4 105 5 = σ 105 5 := x_up_nr e4 (by decide)
    simp only [q5_0]
    intro g5a g5b
    refine x_push 1 rfl ?_
    refine x_iadd ?_
    refine x_putIG y_f105_5 ⟨by decide, rfl⟩ (by decide) C4 (by decide) F4 (by omega) (by omega) (fun S6 e6 C6 F6 => ?_)
    refine x_push 0 rfl ?_
    refine x_iret ?_
    refine kS (by omega) _ C6 (fun k m h1 h2 => (x_up_ne e6 h2).trans (x_up_nr e4 h1)) (x_up_at e6) (fun m => (x_up_nr e6 (by decide)).trans ?_)
    by_cases c : m = (σ 105 5).toNat
    · rw [c, y_wK_e]; exact x_up_at e4
    · rw [y_wK_o c]; exact x_up_ne e4 (fun z => c z.2)
  · skip
    refine x_push (-3) rfl ?_
    refine x_iret ?_
    exact kF (by omega)
theorem kx_68 {E : q_E} {σ : x_S} {Q : Option q_V → x_S → Prop} {a0 : Int} (b1 : 10 ≤ a0) (b2 : a0 ≤ 15) (C0 : y_CI σ) (k : ∀ v, 0 ≤ v → v ≤ 2 → v = (a0 - 10) / 2 → Q (some (x_I v)) σ) : x_P E 68 [x_I a0] σ Q := by
  refine x_Mt e_68 (h_68 E) (Nat.le_of_ble_eq_true rfl) t_68 rfl ?_
  refine x_blk (b := 0) (a_68 E) rfl ?_
  unfold b_68_0
  refine x_iload rfl ?_
  refine x_push 10 rfl ?_
  refine x_isub ?_
  refine x_push 2 rfl ?_
  refine x_idiv (by omega) (by omega) (by omega) (by omega) ?_
  refine x_iret ?_
  exact k _ (by omega) (by omega) (by omega)
theorem kx_148_105_4_92 {E : q_E} {σ : x_S} {Q : Option q_V → x_S → Prop} {a3 : Int} (p1 : 0 ≤ a3) (p2 : a3 ≤ 1) (C0 : y_CI σ) {A : Nat → Int} (hP : y_PI A) (h4 : y_PG σ 4 A) {n : Nat} {l P V : Nat → Int} (n40 : n ≤ 40) (tr : y_tr l n) (ms : y_ms A 0 l n P V) (gs : y_gS σ 92 n l P V) {d o : Nat} {a r i u v : Nat → Int} (d0 : 0 < d) (I : w_I A (w_lt l) w_nd (w_D n) (d, a, r, i, o, u, v)) (W : y_WR σ (d, a, r, i, o, u, v)) (k : ∀ τ, y_CI τ → (∀ k m, (k < 105 ∨ 110 < k) → τ k m = σ k m) → y_WR τ (w_step A a3 (w_lt l) (w_lt V) w_nd (w_bl P) (d, a, r, i, o, u, v)).2 → Q (some (x_I (w_step A a3 (w_lt l) (w_lt V) w_nd (w_bl P) (d, a, r, i, o, u, v)).1)) τ) : x_P E 148 [x_R 105, x_R 4, x_R 92, x_I a3] σ Q := by
  obtain ⟨W1, W2, W3, W4, W5⟩ := W
  obtain ⟨t, ht⟩ : ∃ t, d = t + 1 := ⟨d - 1, by omega⟩
  subst ht
  obtain ⟨I1, I2, I3, I4⟩ := I
  have It := I1 t (by omega)
  have p7 := y_PI_pc hP (r := (r t).toNat) (by omega)
  have h62 := hP.2.2.2.1
  have Gt := (w_GS n40 tr ms).1 (a t) It.1
  have Dt : 0 ≤ a t ∧ a t < n := It.1
  have rt : (t : Int) ≤ a t := It.2.2.2.1
  have lq : A (65 + 12 * (r t).toNat) = l (a t).toNat := It.2.1.2.2
  have pcv : i t < A (67 + 12 * (r t).toNat) → _ := fun h => w_pc hP It.2.1.1 It.2.1.2.1 It.2.2.1.1 h
  have tt : (σ 105 6 - 1).toNat = t := by omega
  have vb : ∀ j, 0 ≤ v j ∧ v j ≤ 10000 := fun j => by
    have q := I3 j
    have q2 : v j + ((40 - (o : Int)) * 162 + (if i (t + 1 - 1) = 0 then 80 - ((t + 1 : Nat) : Int) else ((t + 1 : Nat) : Int) + 81)) ≤ 6700 := q.2
    split at q2 <;> omega
  refine x_Mt e_148 (h_148 E) (Nat.le_of_ble_eq_true rfl) t_148 rfl ?_
  refine x_blk (b := 0) (a_148 E) rfl ?_
  unfold b_148_0
  refine x_aload rfl ?_
  refine x_getIG y_f105_6 C0 ?_
  intro g1a g1b
  refine x_push 1 rfl ?_
  refine x_isub ?_
  refine x_istore ?_
  refine x_iload rfl ?_
  refine x_push 80 rfl ?_
  refine x_cS (fun _ => rfl) (Nat.le_of_ble_eq_true rfl) ?_
  refine sf_2 (by omega) (by omega) (by omega) (by omega) C0 (fun y2 => ?_) (fun y2 => absurd (by omega) y2)
  refine x_if_ne (by omega) (by omega) (fun z => absurd z (by omega)) (fun z3 => ?_)
  refine x_blk (b := 1) (a_148 E) rfl ?_
  unfold b_148_1
  refine x_aload rfl ?_
  refine x_aload rfl ?_
  refine x_getR (r := 105) rfl (by decide) (by decide) rfl ?_
  refine x_iload rfl ?_
  refine x_ialdX y_a109 C0 (by omega) (by omega) (fun v4 v4x v4a v4b => ?_)
  have hr : v4 = r t := by rw [v4x, tt]; exact (W3 t (by omega)).2.1
  refine x_aload rfl ?_
  refine x_getR (r := 105) rfl (by decide) (by decide) rfl ?_
  refine x_iload rfl ?_
  refine x_ialdX y_a110 C0 (by omega) (by omega) (fun v5 v5x v5a v5b => ?_)
  have hi : v5 = i t := by rw [v5x, tt]; exact (W3 t (by omega)).2.2
  refine x_cV (fun _ => rfl) rfl (by decide) (Nat.le_of_ble_eq_true rfl) ?_
  rw [hr, hi]
  refine kx_53_4 (by omega) (by omega) (by omega) (by omega) C0 (fun v6 v6a v6b v6c => ?_)
  have w4 : σ 9 (r t * 12 + 4).toNat = A (67 + 12 * (r t).toNat) := by
    have e := y_PG_w h4.1 (r := (r t).toNat) (c := 4) (by omega) (by omega)
    rw [show (r t * 12 + 4).toNat = 12 * (r t).toNat + 4 by omega]
    exact e.trans (congrArg A (by omega))
  have wp : i t < A (67 + 12 * (r t).toNat) → σ 9 (r t * 12 + 5 + i t).toNat = A (68 + 12 * (r t).toNat + (i t).toNat) := fun h => by
    have e := y_PG_w h4.1 (r := (r t).toNat) (c := 5 + (i t).toNat) (by omega) (by omega)
    rw [show (r t * 12 + 5 + i t).toNat = 12 * (r t).toNat + (5 + (i t).toNat) by omega]
    exact e.trans (congrArg A (by omega))
  refine x_istore ?_
  refine x_X_lo (lo' := [(0, x_R 105), (1, x_R 4), (2, x_R 92), (3, x_I _), (4, x_I _), (5, x_I _)]) ⟨rfl, rfl, rfl, rfl, rfl, rfl, trivial⟩ ?_
  refine x_iload rfl ?_
  refine x_push (-4) rfl ?_
  refine x_icmp_ne (by omega) (by omega) (by omega) (by omega) (fun z7 => ?_) (fun z7 => ?_)
  · skip
    refine x_aload rfl ?_
    refine x_dup rfl ?_
    refine x_getIG y_f105_6 C0 ?_
    intro g8a g8b
    refine x_push 1 rfl ?_
    refine x_isub ?_
    refine x_putIG y_f105_6 ⟨by decide, rfl⟩ (by decide) C0 (by decide) (y_fr_rf (lo := 0) (hi := 138)) (by omega) (by omega) (fun S9 e9 C9 F9 => ?_)
    refine x_push 0 rfl ?_
    refine x_iret ?_
    have nl : ¬ i t < A (67 + 12 * (r t).toNat) := fun z => by have := wp z; omega
    have es : w_step A a3 (w_lt l) (w_lt V) w_nd (w_bl P) (t + 1, a, r, i, o, u, v) = (0, (t, a, r, i, o, u, v)) := by
      rw [w_step_q, if_pos nl]
    rw [es] at k
    refine k _ C9 (fun k m h => x_up_nr e9 (by omega)) ⟨(x_up_at e9).trans (by omega), (x_up_ne e9 (by decide)).trans W2, fun j hj => ?_, fun j hj => (x_up_nr e9 (by decide)).trans (W4 j hj), fun j hj => (x_up_nr e9 (by decide)).trans (W5 j hj)⟩
    have q := W3 j (by omega)
    exact ⟨(x_up_nr e9 (by decide)).trans q.1, (x_up_nr e9 (by decide)).trans q.2.1, (x_up_nr e9 (by decide)).trans q.2.2⟩
  · skip
    refine x_blk (b := 2) (a_148 E) rfl ?_
    unfold b_148_2
    refine x_aload rfl ?_
    refine x_getR (r := 105) rfl (by decide) (by decide) rfl ?_
    refine x_iload rfl ?_
    refine x_dup2 rfl rfl ?_
    refine x_ialdX y_a110 C0 (by omega) (by omega) (fun v10 v10x v10a v10b => ?_)
    have hi2 : v10 = i t := by rw [v10x, tt]; exact (W3 t (by omega)).2.2
    refine x_push 1 rfl ?_
    refine x_iadd ?_
    refine x_astG y_a110 C0 (by decide) (y_fr_rf (lo := 0) (hi := 138)) (by omega) (by omega) (by omega) (by omega) (fun S11 e11 C11 F11 => ?_)
    refine x_iload rfl ?_
    refine x_push 10 rfl ?_
    refine x_icmp_ge (by omega) (by omega) (by omega) (by omega) (fun z12 => ?_) (fun z12 => ?_)
    · skip
      refine x_aload rfl ?_
      refine x_iload rfl ?_
      refine x_cV (fun _ => rfl) rfl (by decide) (Nat.le_of_ble_eq_true rfl) ?_
      have NXT : ∀ j, j < t + 1 → S11 110 j = y_wK i t (i t + 1) j := fun j hj => by
        by_cases c : j = t
        · have q := x_up_at e11
          rw [tt] at q
          rw [c, y_wK_e]; exact q.trans (by omega)
        · rw [y_wK_o c, x_up_ne e11 (fun z => c (by omega))]; exact (W3 j hj).2.2
      have o0 : S11 105 5 = o := (x_up_nr e11 (by decide)).trans W2
      refine kx_149_105 (by omega) (by omega) C11 (fun z13 => ?_) (fun z13 S13 C13 f13 m13 w13 => ?_)
      · skip
        refine x_iret ?_
        have lt0 : i t < A (67 + 12 * (r t).toNat) := by omega
        have e9 := wp lt0
        have n9 : ¬ 9 < A (68 + 12 * (r t).toNat + (i t).toNat) := by omega
        have es : w_step A a3 (w_lt l) (w_lt V) w_nd (w_bl P) (t + 1, a, r, i, o, u, v) = (-3, (t + 1, a, r, y_wK i t (i t + 1), o, u, v)) := by
          rw [w_step_q, if_neg (fun z => z lt0), if_neg n9, if_neg (by omega)]
        rw [es] at k
        refine k _ C11 (fun k m h => x_up_nr e11 (by omega)) ⟨(x_up_nr e11 (by decide)).trans W1, (x_up_nr e11 (by decide)).trans W2, fun j hj => ?_, fun j hj => (x_up_nr e11 (by decide)).trans (W4 j hj), fun j hj => (x_up_nr e11 (by decide)).trans (W5 j hj)⟩
        have q := W3 j hj
        exact ⟨(x_up_nr e11 (by decide)).trans q.1, (x_up_nr e11 (by decide)).trans q.2.1, NXT j hj⟩
      · skip
        refine x_iret ?_
        have lt0 : i t < A (67 + 12 * (r t).toNat) := by omega
        have e9 := wp lt0
        have n9 : ¬ 9 < A (68 + 12 * (r t).toNat + (i t).toNat) := by omega
        have es : w_step A a3 (w_lt l) (w_lt V) w_nd (w_bl P) (t + 1, a, r, i, o, u, v) = (0, (t + 1, a, r, y_wK i t (i t + 1), o + 1, y_wK u o (A (68 + 12 * (r t).toNat + (i t).toNat)), v)) := by
          rw [w_step_q, if_neg (fun z => z lt0), if_neg n9, if_pos (by omega)]
        rw [es] at k
        refine k _ C13 (fun k m h => (f13 k m (by omega) (by omega)).trans (x_up_nr e11 (by omega))) ⟨(f13 _ _ (by decide) (by omega)).trans ((x_up_nr e11 (by decide)).trans W1), ?_, fun j hj => ?_, fun j hj => ?_, fun j hj => (f13 _ _ (by decide) (by omega)).trans ((x_up_nr e11 (by decide)).trans (W5 j hj))⟩
        · rw [m13]; omega
        · have q := W3 j hj
          refine ⟨(f13 _ _ (by decide) (by omega)).trans ((x_up_nr e11 (by decide)).trans q.1), (f13 _ _ (by decide) (by omega)).trans ((x_up_nr e11 (by decide)).trans q.2.1), (f13 _ _ (by decide) (by omega)).trans ?_⟩
          exact NXT j hj
        · rw [w13]
          have o5 : (S11 105 5).toNat = o := by omega
          rw [o5]
          by_cases c : j = o
          · rw [c, y_wK_e, y_wK_e]; omega
          · rw [y_wK_o c, y_wK_o c]; exact (x_up_nr e11 (by decide)).trans (W4 j (by omega))
    · skip
      refine x_blk (b := 3) (a_148 E) rfl ?_
      unfold b_148_3
      refine x_aload rfl ?_
      refine x_getR (r := 105) rfl (by decide) (by decide) rfl ?_
      refine x_iload rfl ?_
      refine x_ialdX y_a108 C11 (by omega) (by omega) (fun v14 v14x v14a v14b => ?_)
      have ha : v14 = a t := by rw [v14x, tt]; exact (x_up_nr e11 (by decide)).trans (W3 t (by omega)).1
      rw [ha]
      refine x_istore ?_
      refine x_aload rfl ?_
      refine x_iload rfl ?_
      refine x_aload rfl ?_
      refine x_aload rfl ?_
      refine x_iload rfl ?_
      refine x_cU1 (fun _ => rfl) rfl (by decide) (Nat.le_of_ble_eq_true rfl) ?_
      refine kx_85_92_4 (by omega) (by omega) C11 (fun v15 v15a v15b v15c => ?_)
      refine x_iload rfl ?_
      refine x_cV (fun _ => rfl) rfl (by decide) (Nat.le_of_ble_eq_true rfl) ?_
      have lt0 : i t < A (67 + 12 * (r t).toNat) := by omega
      have e9 := wp lt0
      have n3q : S11 92 3 = n := (x_up_nr e11 (by decide)).trans gs.1
      have ll : v15 = l (a t).toNat := by
        have q := (gs.2 (a t).toNat (by omega)).1
        have q2 : S11 93 (a t).toNat = l (a t).toNat := (x_up_nr e11 (by decide)).trans q
        omega
      have tl := tr.1 (a t).toNat (by omega)
      refine kx_69_4 (by omega) (by omega) (by omega) (by omega) (by omega) (by omega) (by omega) (by omega) (by omega) (by omega) C11 (fun v16 v16a v16b v16c => ?_)
      have kd : S11 7 a3.toNat = A a3.toNat := (x_up_nr e11 (by decide)).trans (y_PG_k h4.1 (k := a3.toNat) (by omega))
      have ce : v16 = w_ch A a3 (l (a t).toNat) (A (68 + 12 * (r t).toNat + (i t).toNat)) := by
        unfold w_ch
        by_cases c : 2 ≤ A a3.toNat ∧ 2 < l (a t).toNat
        · rw [if_pos c]; omega
        · rw [if_neg c]; omega
      refine x_istore ?_
      refine x_X_lo (lo' := [(0, x_R 105), (1, x_R 4), (2, x_R 92), (3, x_I _), (4, x_I _), (5, x_I _), (6, x_I _), (7, x_I _)]) ⟨rfl, rfl, rfl, rfl, rfl, rfl, rfl, rfl, trivial⟩ ?_
      refine x_aload rfl ?_
      refine x_aload rfl ?_
      refine x_aload rfl ?_
      refine x_iload rfl ?_
      refine x_iload rfl ?_
      refine x_cS (fun _ => rfl) (Nat.le_of_ble_eq_true rfl) ?_
      refine kx_68 (by omega) (by omega) C11 (fun v17 v17a v17b v17c => ?_)
      refine x_aload rfl ?_
      refine x_aload rfl ?_
      refine x_iload rfl ?_
      refine x_iload rfl ?_
      refine x_cU1 (fun _ => rfl) rfl (by decide) (Nat.le_of_ble_eq_true rfl) ?_
      have chk := w_ch_ok (A := A) (p := a3) (pcv lt0) (by omega)
      rw [It.2.1.2.2] at chk
      have chk : (w_ch A a3 (l (a t).toNat) (A (68 + 12 * (r t).toNat + (i t).toNat)) = 0 ∧ 2 ≤ l (a t).toNat) ∨ (w_ch A a3 (l (a t).toNat) (A (68 + 12 * (r t).toNat + (i t).toNat)) = 1 ∧ 3 ≤ l (a t).toNat) := chk
      have mc := y_mp_c tr ms (v := (a t).toNat) (by omega) (by omega) (by omega)
      have n3 : S11 92 3 = n := (x_up_nr e11 (by decide)).trans gs.1
      have sp : S11 94 (a t + 1).toNat = P ((a t).toNat + 1) - ((a t).toNat + 1) := by
        rw [show (a t + 1).toNat = (a t).toNat + 1 by omega]
        exact (x_up_nr e11 (by decide)).trans (gs.2 ((a t).toNat + 1) (by omega)).2.1
      refine kx_142_92_4 (by omega) (by omega) (by omega) (by omega) (fun _ => by omega) C11 (fun v18 v18a v18b v18c => ?_)
      have be : v18 = w_bl P (a t) (w_ch A a3 (l (a t).toNat) (A (68 + 12 * (r t).toNat + (i t).toNat))) := by
        unfold w_bl
        rw [show (a t + 1).toNat = (a t).toNat + 1 by omega] at *
        by_cases c : w_ch A a3 (l (a t).toNat) (A (68 + 12 * (r t).toNat + (i t).toNat)) = 0
        · rw [if_pos c]; omega
        · rw [if_neg c]
          have m3 := mc.2.2.2 (by omega)
          omega
      have bd := (w_GS n40 tr ms).2 (a t) _ ⟨by omega, by omega⟩ chk
      have bx : 0 ≤ v18 ∧ v18 < n ∧ a t < v18 := by
        rcases bd with h | h
        · rw [← be] at h; omega
        · rw [← be] at h; exact ⟨h.1.1, h.1.2, h.2⟩
      refine x_cV (fun _ => rfl) rfl (by decide) (Nat.le_of_ble_eq_true rfl) ?_
      have NXT : ∀ j, j < t + 1 → S11 110 j = y_wK i t (i t + 1) j := fun j hj => by
        by_cases c : j = t
        · have q := x_up_at e11
          rw [tt] at q
          rw [c, y_wK_e]; exact q.trans (by omega)
        · rw [y_wK_o c, x_up_ne e11 (fun z => c (by omega))]; exact (W3 j hj).2.2
      have W' : y_WR S11 (t + 1, a, r, y_wK i t (i t + 1), o, u, v) := ⟨(x_up_nr e11 (by decide)).trans W1, (x_up_nr e11 (by decide)).trans W2, fun j hj => ⟨(x_up_nr e11 (by decide)).trans (W3 j hj).1, (x_up_nr e11 (by decide)).trans (W3 j hj).2.1, NXT j hj⟩, fun j hj => (x_up_nr e11 (by decide)).trans (W4 j hj), fun j hj => (x_up_nr e11 (by decide)).trans (W5 j hj)⟩
      have es : w_step A a3 (w_lt l) (w_lt V) w_nd (w_bl P) (t + 1, a, r, i, o, u, v) = w_come A a3 (w_lt l) (w_lt V) w_nd ((A (68 + 12 * (r t).toNat + (i t).toNat) - 10) / 2) (w_bl P (a t) (w_ch A a3 (l (a t).toNat) (A (68 + 12 * (r t).toNat + (i t).toNat)))) (t + 1, a, r, y_wK i t (i t + 1), o, u, v) := by
        rw [w_step_q, if_neg (fun z => z lt0), if_pos (by omega)]
      rw [es, ← be, show (A (68 + 12 * (r t).toNat + (i t).toNat) - 10) / 2 = v17 by omega] at k
      refine kx_86_105_4_92 (by omega) (by omega) (by omega) (by omega) C11 hP (y_PG_fr hP (fun c m h1 h2 => x_up_nr e11 (by omega)) h4) n40 tr ms (y_gS_fr (fun c m h1 h2 => x_up_nr e11 (by omega)) gs) (by omega) (by omega) (by omega) vb W' (fun S19 C19 f19 w19 => ?_)
      refine x_iret ?_
      refine k _ C19 (fun k m h => (f19 k m h).trans (x_up_nr e11 (by omega))) ?_
      exact w19
theorem kx_148_105_4_96 {E : q_E} {σ : x_S} {Q : Option q_V → x_S → Prop} {a3 : Int} (p1 : 0 ≤ a3) (p2 : a3 ≤ 1) (C0 : y_CI σ) {A : Nat → Int} (hP : y_PI A) (h4 : y_PG σ 4 A) {n : Nat} {l P V : Nat → Int} (n40 : n ≤ 40) (tr : y_tr l n) (ms : y_ms A 0 l n P V) (gs : y_gS σ 96 n l P V) {d o : Nat} {a r i u v : Nat → Int} (d0 : 0 < d) (I : w_I A (w_lt l) w_nd (w_D n) (d, a, r, i, o, u, v)) (W : y_WR σ (d, a, r, i, o, u, v)) (k : ∀ τ, y_CI τ → (∀ k m, (k < 105 ∨ 110 < k) → τ k m = σ k m) → y_WR τ (w_step A a3 (w_lt l) (w_lt V) w_nd (w_bl P) (d, a, r, i, o, u, v)).2 → Q (some (x_I (w_step A a3 (w_lt l) (w_lt V) w_nd (w_bl P) (d, a, r, i, o, u, v)).1)) τ) : x_P E 148 [x_R 105, x_R 4, x_R 96, x_I a3] σ Q := by
  obtain ⟨W1, W2, W3, W4, W5⟩ := W
  obtain ⟨t, ht⟩ : ∃ t, d = t + 1 := ⟨d - 1, by omega⟩
  subst ht
  obtain ⟨I1, I2, I3, I4⟩ := I
  have It := I1 t (by omega)
  have p7 := y_PI_pc hP (r := (r t).toNat) (by omega)
  have h62 := hP.2.2.2.1
  have Gt := (w_GS n40 tr ms).1 (a t) It.1
  have Dt : 0 ≤ a t ∧ a t < n := It.1
  have rt : (t : Int) ≤ a t := It.2.2.2.1
  have lq : A (65 + 12 * (r t).toNat) = l (a t).toNat := It.2.1.2.2
  have pcv : i t < A (67 + 12 * (r t).toNat) → _ := fun h => w_pc hP It.2.1.1 It.2.1.2.1 It.2.2.1.1 h
  have tt : (σ 105 6 - 1).toNat = t := by omega
  have vb : ∀ j, 0 ≤ v j ∧ v j ≤ 10000 := fun j => by
    have q := I3 j
    have q2 : v j + ((40 - (o : Int)) * 162 + (if i (t + 1 - 1) = 0 then 80 - ((t + 1 : Nat) : Int) else ((t + 1 : Nat) : Int) + 81)) ≤ 6700 := q.2
    split at q2 <;> omega
  refine x_Mt e_148 (h_148 E) (Nat.le_of_ble_eq_true rfl) t_148 rfl ?_
  refine x_blk (b := 0) (a_148 E) rfl ?_
  unfold b_148_0
  refine x_aload rfl ?_
  refine x_getIG y_f105_6 C0 ?_
  intro g1a g1b
  refine x_push 1 rfl ?_
  refine x_isub ?_
  refine x_istore ?_
  refine x_iload rfl ?_
  refine x_push 80 rfl ?_
  refine x_cS (fun _ => rfl) (Nat.le_of_ble_eq_true rfl) ?_
  refine sf_2 (by omega) (by omega) (by omega) (by omega) C0 (fun y2 => ?_) (fun y2 => absurd (by omega) y2)
  refine x_if_ne (by omega) (by omega) (fun z => absurd z (by omega)) (fun z3 => ?_)
  refine x_blk (b := 1) (a_148 E) rfl ?_
  unfold b_148_1
  refine x_aload rfl ?_
  refine x_aload rfl ?_
  refine x_getR (r := 105) rfl (by decide) (by decide) rfl ?_
  refine x_iload rfl ?_
  refine x_ialdX y_a109 C0 (by omega) (by omega) (fun v4 v4x v4a v4b => ?_)
  have hr : v4 = r t := by rw [v4x, tt]; exact (W3 t (by omega)).2.1
  refine x_aload rfl ?_
  refine x_getR (r := 105) rfl (by decide) (by decide) rfl ?_
  refine x_iload rfl ?_
  refine x_ialdX y_a110 C0 (by omega) (by omega) (fun v5 v5x v5a v5b => ?_)
  have hi : v5 = i t := by rw [v5x, tt]; exact (W3 t (by omega)).2.2
  refine x_cV (fun _ => rfl) rfl (by decide) (Nat.le_of_ble_eq_true rfl) ?_
  rw [hr, hi]
  refine kx_53_4 (by omega) (by omega) (by omega) (by omega) C0 (fun v6 v6a v6b v6c => ?_)
  have w4 : σ 9 (r t * 12 + 4).toNat = A (67 + 12 * (r t).toNat) := by
    have e := y_PG_w h4.1 (r := (r t).toNat) (c := 4) (by omega) (by omega)
    rw [show (r t * 12 + 4).toNat = 12 * (r t).toNat + 4 by omega]
    exact e.trans (congrArg A (by omega))
  have wp : i t < A (67 + 12 * (r t).toNat) → σ 9 (r t * 12 + 5 + i t).toNat = A (68 + 12 * (r t).toNat + (i t).toNat) := fun h => by
    have e := y_PG_w h4.1 (r := (r t).toNat) (c := 5 + (i t).toNat) (by omega) (by omega)
    rw [show (r t * 12 + 5 + i t).toNat = 12 * (r t).toNat + (5 + (i t).toNat) by omega]
    exact e.trans (congrArg A (by omega))
  refine x_istore ?_
  refine x_X_lo (lo' := [(0, x_R 105), (1, x_R 4), (2, x_R 96), (3, x_I _), (4, x_I _), (5, x_I _)]) ⟨rfl, rfl, rfl, rfl, rfl, rfl, trivial⟩ ?_
  refine x_iload rfl ?_
  refine x_push (-4) rfl ?_
  refine x_icmp_ne (by omega) (by omega) (by omega) (by omega) (fun z7 => ?_) (fun z7 => ?_)
  · skip
    refine x_aload rfl ?_
    refine x_dup rfl ?_
    refine x_getIG y_f105_6 C0 ?_
    intro g8a g8b
    refine x_push 1 rfl ?_
    refine x_isub ?_
    refine x_putIG y_f105_6 ⟨by decide, rfl⟩ (by decide) C0 (by decide) (y_fr_rf (lo := 0) (hi := 138)) (by omega) (by omega) (fun S9 e9 C9 F9 => ?_)
    refine x_push 0 rfl ?_
    refine x_iret ?_
    have nl : ¬ i t < A (67 + 12 * (r t).toNat) := fun z => by have := wp z; omega
    have es : w_step A a3 (w_lt l) (w_lt V) w_nd (w_bl P) (t + 1, a, r, i, o, u, v) = (0, (t, a, r, i, o, u, v)) := by
      rw [w_step_q, if_pos nl]
    rw [es] at k
    refine k _ C9 (fun k m h => x_up_nr e9 (by omega)) ⟨(x_up_at e9).trans (by omega), (x_up_ne e9 (by decide)).trans W2, fun j hj => ?_, fun j hj => (x_up_nr e9 (by decide)).trans (W4 j hj), fun j hj => (x_up_nr e9 (by decide)).trans (W5 j hj)⟩
    have q := W3 j (by omega)
    exact ⟨(x_up_nr e9 (by decide)).trans q.1, (x_up_nr e9 (by decide)).trans q.2.1, (x_up_nr e9 (by decide)).trans q.2.2⟩
  · skip
    refine x_blk (b := 2) (a_148 E) rfl ?_
    unfold b_148_2
    refine x_aload rfl ?_
    refine x_getR (r := 105) rfl (by decide) (by decide) rfl ?_
    refine x_iload rfl ?_
    refine x_dup2 rfl rfl ?_
    refine x_ialdX y_a110 C0 (by omega) (by omega) (fun v10 v10x v10a v10b => ?_)
    have hi2 : v10 = i t := by rw [v10x, tt]; exact (W3 t (by omega)).2.2
    refine x_push 1 rfl ?_
    refine x_iadd ?_
    refine x_astG y_a110 C0 (by decide) (y_fr_rf (lo := 0) (hi := 138)) (by omega) (by omega) (by omega) (by omega) (fun S11 e11 C11 F11 => ?_)
    refine x_iload rfl ?_
    refine x_push 10 rfl ?_
    refine x_icmp_ge (by omega) (by omega) (by omega) (by omega) (fun z12 => ?_) (fun z12 => ?_)
    · skip
      refine x_aload rfl ?_
      refine x_iload rfl ?_
      refine x_cV (fun _ => rfl) rfl (by decide) (Nat.le_of_ble_eq_true rfl) ?_
      have NXT : ∀ j, j < t + 1 → S11 110 j = y_wK i t (i t + 1) j := fun j hj => by
        by_cases c : j = t
        · have q := x_up_at e11
          rw [tt] at q
          rw [c, y_wK_e]; exact q.trans (by omega)
        · rw [y_wK_o c, x_up_ne e11 (fun z => c (by omega))]; exact (W3 j hj).2.2
      have o0 : S11 105 5 = o := (x_up_nr e11 (by decide)).trans W2
      refine kx_149_105 (by omega) (by omega) C11 (fun z13 => ?_) (fun z13 S13 C13 f13 m13 w13 => ?_)
      · skip
        refine x_iret ?_
        have lt0 : i t < A (67 + 12 * (r t).toNat) := by omega
        have e9 := wp lt0
        have n9 : ¬ 9 < A (68 + 12 * (r t).toNat + (i t).toNat) := by omega
        have es : w_step A a3 (w_lt l) (w_lt V) w_nd (w_bl P) (t + 1, a, r, i, o, u, v) = (-3, (t + 1, a, r, y_wK i t (i t + 1), o, u, v)) := by
          rw [w_step_q, if_neg (fun z => z lt0), if_neg n9, if_neg (by omega)]
        rw [es] at k
        refine k _ C11 (fun k m h => x_up_nr e11 (by omega)) ⟨(x_up_nr e11 (by decide)).trans W1, (x_up_nr e11 (by decide)).trans W2, fun j hj => ?_, fun j hj => (x_up_nr e11 (by decide)).trans (W4 j hj), fun j hj => (x_up_nr e11 (by decide)).trans (W5 j hj)⟩
        have q := W3 j hj
        exact ⟨(x_up_nr e11 (by decide)).trans q.1, (x_up_nr e11 (by decide)).trans q.2.1, NXT j hj⟩
      · skip
        refine x_iret ?_
        have lt0 : i t < A (67 + 12 * (r t).toNat) := by omega
        have e9 := wp lt0
        have n9 : ¬ 9 < A (68 + 12 * (r t).toNat + (i t).toNat) := by omega
        have es : w_step A a3 (w_lt l) (w_lt V) w_nd (w_bl P) (t + 1, a, r, i, o, u, v) = (0, (t + 1, a, r, y_wK i t (i t + 1), o + 1, y_wK u o (A (68 + 12 * (r t).toNat + (i t).toNat)), v)) := by
          rw [w_step_q, if_neg (fun z => z lt0), if_neg n9, if_pos (by omega)]
        rw [es] at k
        refine k _ C13 (fun k m h => (f13 k m (by omega) (by omega)).trans (x_up_nr e11 (by omega))) ⟨(f13 _ _ (by decide) (by omega)).trans ((x_up_nr e11 (by decide)).trans W1), ?_, fun j hj => ?_, fun j hj => ?_, fun j hj => (f13 _ _ (by decide) (by omega)).trans ((x_up_nr e11 (by decide)).trans (W5 j hj))⟩
        · rw [m13]; omega
        · have q := W3 j hj
          refine ⟨(f13 _ _ (by decide) (by omega)).trans ((x_up_nr e11 (by decide)).trans q.1), (f13 _ _ (by decide) (by omega)).trans ((x_up_nr e11 (by decide)).trans q.2.1), (f13 _ _ (by decide) (by omega)).trans ?_⟩
          exact NXT j hj
        · rw [w13]
          have o5 : (S11 105 5).toNat = o := by omega
          rw [o5]
          by_cases c : j = o
          · rw [c, y_wK_e, y_wK_e]; omega
          · rw [y_wK_o c, y_wK_o c]; exact (x_up_nr e11 (by decide)).trans (W4 j (by omega))
    · skip
      refine x_blk (b := 3) (a_148 E) rfl ?_
      unfold b_148_3
      refine x_aload rfl ?_
      refine x_getR (r := 105) rfl (by decide) (by decide) rfl ?_
      refine x_iload rfl ?_
      refine x_ialdX y_a108 C11 (by omega) (by omega) (fun v14 v14x v14a v14b => ?_)
      have ha : v14 = a t := by rw [v14x, tt]; exact (x_up_nr e11 (by decide)).trans (W3 t (by omega)).1
      rw [ha]
      refine x_istore ?_
      refine x_aload rfl ?_
      refine x_iload rfl ?_
      refine x_aload rfl ?_
      refine x_aload rfl ?_
      refine x_iload rfl ?_
      refine x_cU1 (fun _ => rfl) rfl (by decide) (Nat.le_of_ble_eq_true rfl) ?_
      refine kx_85_96_4 (by omega) (by omega) C11 (fun v15 v15a v15b v15c => ?_)
      refine x_iload rfl ?_
      refine x_cV (fun _ => rfl) rfl (by decide) (Nat.le_of_ble_eq_true rfl) ?_
      have lt0 : i t < A (67 + 12 * (r t).toNat) := by omega
      have e9 := wp lt0
      have n3q : S11 96 3 = n := (x_up_nr e11 (by decide)).trans gs.1
      have ll : v15 = l (a t).toNat := by
        have q := (gs.2 (a t).toNat (by omega)).1
        have q2 : S11 97 (a t).toNat = l (a t).toNat := (x_up_nr e11 (by decide)).trans q
        omega
      have tl := tr.1 (a t).toNat (by omega)
      refine kx_69_4 (by omega) (by omega) (by omega) (by omega) (by omega) (by omega) (by omega) (by omega) (by omega) (by omega) C11 (fun v16 v16a v16b v16c => ?_)
      have kd : S11 7 a3.toNat = A a3.toNat := (x_up_nr e11 (by decide)).trans (y_PG_k h4.1 (k := a3.toNat) (by omega))
      have ce : v16 = w_ch A a3 (l (a t).toNat) (A (68 + 12 * (r t).toNat + (i t).toNat)) := by
        unfold w_ch
        by_cases c : 2 ≤ A a3.toNat ∧ 2 < l (a t).toNat
        · rw [if_pos c]; omega
        · rw [if_neg c]; omega
      refine x_istore ?_
      refine x_X_lo (lo' := [(0, x_R 105), (1, x_R 4), (2, x_R 96), (3, x_I _), (4, x_I _), (5, x_I _), (6, x_I _), (7, x_I _)]) ⟨rfl, rfl, rfl, rfl, rfl, rfl, rfl, rfl, trivial⟩ ?_
      refine x_aload rfl ?_
      refine x_aload rfl ?_
      refine x_aload rfl ?_
      refine x_iload rfl ?_
      refine x_iload rfl ?_
      refine x_cS (fun _ => rfl) (Nat.le_of_ble_eq_true rfl) ?_
      refine kx_68 (by omega) (by omega) C11 (fun v17 v17a v17b v17c => ?_)
      refine x_aload rfl ?_
      refine x_aload rfl ?_
      refine x_iload rfl ?_
      refine x_iload rfl ?_
      refine x_cU1 (fun _ => rfl) rfl (by decide) (Nat.le_of_ble_eq_true rfl) ?_
      have chk := w_ch_ok (A := A) (p := a3) (pcv lt0) (by omega)
      rw [It.2.1.2.2] at chk
      have chk : (w_ch A a3 (l (a t).toNat) (A (68 + 12 * (r t).toNat + (i t).toNat)) = 0 ∧ 2 ≤ l (a t).toNat) ∨ (w_ch A a3 (l (a t).toNat) (A (68 + 12 * (r t).toNat + (i t).toNat)) = 1 ∧ 3 ≤ l (a t).toNat) := chk
      have mc := y_mp_c tr ms (v := (a t).toNat) (by omega) (by omega) (by omega)
      have n3 : S11 96 3 = n := (x_up_nr e11 (by decide)).trans gs.1
      have sp : S11 98 (a t + 1).toNat = P ((a t).toNat + 1) - ((a t).toNat + 1) := by
        rw [show (a t + 1).toNat = (a t).toNat + 1 by omega]
        exact (x_up_nr e11 (by decide)).trans (gs.2 ((a t).toNat + 1) (by omega)).2.1
      refine kx_142_96_4 (by omega) (by omega) (by omega) (by omega) (fun _ => by omega) C11 (fun v18 v18a v18b v18c => ?_)
      have be : v18 = w_bl P (a t) (w_ch A a3 (l (a t).toNat) (A (68 + 12 * (r t).toNat + (i t).toNat))) := by
        unfold w_bl
        rw [show (a t + 1).toNat = (a t).toNat + 1 by omega] at *
        by_cases c : w_ch A a3 (l (a t).toNat) (A (68 + 12 * (r t).toNat + (i t).toNat)) = 0
        · rw [if_pos c]; omega
        · rw [if_neg c]
          have m3 := mc.2.2.2 (by omega)
          omega
      have bd := (w_GS n40 tr ms).2 (a t) _ ⟨by omega, by omega⟩ chk
      have bx : 0 ≤ v18 ∧ v18 < n ∧ a t < v18 := by
        rcases bd with h | h
        · rw [← be] at h; omega
        · rw [← be] at h; exact ⟨h.1.1, h.1.2, h.2⟩
      refine x_cV (fun _ => rfl) rfl (by decide) (Nat.le_of_ble_eq_true rfl) ?_
      have NXT : ∀ j, j < t + 1 → S11 110 j = y_wK i t (i t + 1) j := fun j hj => by
        by_cases c : j = t
        · have q := x_up_at e11
          rw [tt] at q
          rw [c, y_wK_e]; exact q.trans (by omega)
        · rw [y_wK_o c, x_up_ne e11 (fun z => c (by omega))]; exact (W3 j hj).2.2
      have W' : y_WR S11 (t + 1, a, r, y_wK i t (i t + 1), o, u, v) := ⟨(x_up_nr e11 (by decide)).trans W1, (x_up_nr e11 (by decide)).trans W2, fun j hj => ⟨(x_up_nr e11 (by decide)).trans (W3 j hj).1, (x_up_nr e11 (by decide)).trans (W3 j hj).2.1, NXT j hj⟩, fun j hj => (x_up_nr e11 (by decide)).trans (W4 j hj), fun j hj => (x_up_nr e11 (by decide)).trans (W5 j hj)⟩
      have es : w_step A a3 (w_lt l) (w_lt V) w_nd (w_bl P) (t + 1, a, r, i, o, u, v) = w_come A a3 (w_lt l) (w_lt V) w_nd ((A (68 + 12 * (r t).toNat + (i t).toNat) - 10) / 2) (w_bl P (a t) (w_ch A a3 (l (a t).toNat) (A (68 + 12 * (r t).toNat + (i t).toNat)))) (t + 1, a, r, y_wK i t (i t + 1), o, u, v) := by
        rw [w_step_q, if_neg (fun z => z lt0), if_pos (by omega)]
      rw [es, ← be, show (A (68 + 12 * (r t).toNat + (i t).toNat) - 10) / 2 = v17 by omega] at k
      refine kx_86_105_4_96 (by omega) (by omega) (by omega) (by omega) C11 hP (y_PG_fr hP (fun c m h1 h2 => x_up_nr e11 (by omega)) h4) n40 tr ms (y_gS_fr (fun c m h1 h2 => x_up_nr e11 (by omega)) gs) (by omega) (by omega) (by omega) vb W' (fun S19 C19 f19 w19 => ?_)
      refine x_iret ?_
      refine k _ C19 (fun k m h => (f19 k m h).trans (x_up_nr e11 (by omega))) ?_
      exact w19
theorem kx_90_92_4 {E : q_E} {σ : x_S} {Q : Option q_V → x_S → Prop} (C0 : y_CI σ) (k : ∀ v, 0 ≤ v → v ≤ 0 → (v = 0) → Q (some (x_I v)) σ) : x_P E 90 [x_R 92, x_R 4] σ Q := by
  refine x_Mt e_90 (h_90 E) (Nat.le_of_ble_eq_true rfl) t_90 rfl ?_
  refine x_blk (b := 0) (a_90 E) rfl ?_
  unfold b_90_0
  refine x_push 0 rfl ?_
  refine x_iret ?_
  exact k _ (by omega) (by omega) (by omega)
theorem kx_90_96_4 {E : q_E} {σ : x_S} {Q : Option q_V → x_S → Prop} (C0 : y_CI σ) (k : ∀ v, 0 ≤ v → v ≤ 0 → (v = 0) → Q (some (x_I v)) σ) : x_P E 90 [x_R 96, x_R 4] σ Q := by
  refine x_Mt e_90 (h_90 E) (Nat.le_of_ble_eq_true rfl) t_90 rfl ?_
  refine x_blk (b := 0) (a_90 E) rfl ?_
  unfold b_90_0
  refine x_push 0 rfl ?_
  refine x_iret ?_
  exact k _ (by omega) (by omega) (by omega)
theorem kx_84_105_4_92_b2 {E : q_E} {σ : x_S} {Q : Option q_V → x_S → Prop} {a3 a4 : Int} (p1 : 0 ≤ a3) (p2 : a3 ≤ 1) (q1 : 0 ≤ a4) (q2 : a4 ≤ 2) (C0 : y_CI σ) {A : Nat → Int} (hP : y_PI A) (h4 : y_PG σ 4 A) {n : Nat} {l P V : Nat → Int} (n40 : n ≤ 40) (n0 : 1 ≤ n) (tr : y_tr l n) (ms : y_ms A 0 l n P V) (gs : y_gS σ 92 n l P V) (k : ∀ τ, y_CI τ → (∀ k m, (k < 105 ∨ 110 < k) → τ k m = σ k m) → y_WR τ (w_run A a3 (w_lt l) (w_lt V) w_nd (w_bl P) 100000 (w_come A a3 (w_lt l) (w_lt V) w_nd a4 0 w_0)).2 → Q (some (x_I (if (w_run A a3 (w_lt l) (w_lt V) w_nd (w_bl P) 100000 (w_come A a3 (w_lt l) (w_lt V) w_nd a4 0 w_0)).1 < 0 then (w_run A a3 (w_lt l) (w_lt V) w_nd (w_bl P) 100000 (w_come A a3 (w_lt l) (w_lt V) w_nd a4 0 w_0)).1 else (w_run A a3 (w_lt l) (w_lt V) w_nd (w_bl P) 100000 (w_come A a3 (w_lt l) (w_lt V) w_nd a4 0 w_0)).2.2.2.2.2.1))) τ) : ∀ (N : Nat) (c st : Int) (d : Nat) (a r i : Nat → Int) (o : Nat) (u v : Nat → Int) (τ : x_S), (100000 - c).toNat = N → 0 ≤ c → c ≤ 100000 → -60 ≤ st → st ≤ 0 → y_CI τ → (∀ k m, (k < 105 ∨ 110 < k) → τ k m = σ k m) → y_WR τ (d, a, r, i, o, u, v) → w_run A a3 (w_lt l) (w_lt V) w_nd (w_bl P) (100000 - c).toNat (st, (d, a, r, i, o, u, v)) = w_run A a3 (w_lt l) (w_lt V) w_nd (w_bl P) 100000 (w_come A a3 (w_lt l) (w_lt V) w_nd a4 0 w_0) → (st = 0 → 0 < d → w_I A (w_lt l) w_nd (w_D n) (d, a, r, i, o, u, v) ∧ True) → x_G E m_84 Q (t_84 2) [(0, x_R 105), (1, x_R 4), (2, x_R 92), (3, x_I a3), (4, x_I a4), (5, x_I st), (6, x_I c)] [] τ := by
  intro N
  induction N using Nat.strongRecOn with
  | ind N ih =>
    intro c st d a r i o u v τ hN c1 c2 s1 s2 C fr W hr hI
    have W1 := W.1
    have W2 := W.2.1
    refine x_blk (b := 2) (a_84 E) rfl ?_
    unfold b_84_2
    refine x_iload rfl ?_
    refine x_push 100000 rfl ?_
    refine x_icmp_ge (by omega) (by omega) (by omega) (by omega) (fun z1 => ?_) (fun z1 => ?_)
    · skip
      refine x_iload rfl ?_
      refine x_if_ne (by omega) (by omega) (fun z2 => ?_) (fun z2 => ?_)
      · skip
        refine x_aload rfl ?_
        refine x_getIG y_f105_6 C ?_
        intro g3a g3b
        refine x_if_le (by omega) (by omega) (fun z4 => ?_) (fun z4 => ?_)
        · skip
          refine x_blk (b := 1) (a_84 E) rfl ?_
          unfold b_84_1
          refine x_iload rfl ?_
          refine x_if_ge (by omega) (by omega) (fun z => absurd z (by omega)) (fun z5 => ?_)
          refine x_blk (b := 3) (a_84 E) rfl ?_
          unfold b_84_3
          refine x_aload rfl ?_
          refine x_getIG y_f105_5 C ?_
          intro g6a g6b
          refine x_fall ?_
          refine x_blk (b := 4) (a_84 E) rfl ?_
          unfold b_84_4
          refine x_iret ?_
          have tm : w_run A a3 (w_lt l) (w_lt V) w_nd (w_bl P) 100000 (w_come A a3 (w_lt l) (w_lt V) w_nd a4 0 w_0) = (st, (d, a, r, i, o, u, v)) := by
            rw [← hr]
            first
              | (rw [show (100000 - c).toNat = 0 by omega]; rfl)
              | exact w_run_t (fun z => by have z1 : st = 0 := z.1; have z2 : 0 < d := z.2; omega) _
          rw [tm] at k
          refine x_fin (b := if st < 0 then st else (o : Int)) (by split <;> omega) ?_
          exact k τ C fr W
        · skip
          refine x_aload rfl ?_
          refine x_aload rfl ?_
          refine x_aload rfl ?_
          refine x_iload rfl ?_
          refine x_cV (fun _ => rfl) rfl (by decide) (Nat.le_of_ble_eq_true rfl) ?_
          obtain ⟨I', hph⟩ := hI (by omega) (by omega)
          have sI := w_step_I (p := a3) (sg := w_lt V) hP (w_GS n40 tr ms) I' (by show 0 < d; omega)
          have sb : -60 ≤ (w_step A a3 (w_lt l) (w_lt V) w_nd (w_bl P) (d, a, r, i, o, u, v)).1 ∧ (w_step A a3 (w_lt l) (w_lt V) w_nd (w_bl P) (d, a, r, i, o, u, v)).1 ≤ 0 := by rcases sI with h | h | h <;> omega
          refine kx_148_105_4_92 p1 p2 C hP (y_PG_fr hP (fun c m h1 h2 => fr c m (by omega)) h4) n40 tr ms (y_gS_fr (fun c m h1 h2 => fr c m (by omega)) gs) (by omega) I' W (fun S7 C7 f7 w7 => ?_)
          refine x_istore ?_
          refine x_iinc 1 rfl rfl ?_
          refine x_X_lo (lo' := [(0, x_R 105), (1, x_R 4), (2, x_R 92), (3, x_I _), (4, x_I _), (5, x_I _), (6, x_I _)]) ⟨rfl, rfl, rfl, rfl, rfl, rfl, rfl, trivial⟩ ?_
          refine x_goto ?_
          refine x_G_lo (lo' := [(0, x_R 105), (1, x_R 4), (2, x_R 92), (3, x_I _), (4, x_I _), (5, x_I _), (6, x_I _)]) ⟨rfl, rfl, rfl, rfl, rfl, rfl, rfl, trivial⟩ ?_
          obtain ⟨M, hM⟩ : ∃ M : Nat, (100000 - c).toNat = M + 1 := ⟨(100000 - c).toNat - 1, by omega⟩
          rw [hM, w_run_s (x := (st, (d, a, r, i, o, u, v))) ⟨by show st = 0; omega, by show 0 < d; omega⟩] at hr
          refine ih _ (by omega) (c + 1) _ _ _ _ _ _ _ _ _ rfl (by omega) (by omega) sb.1 sb.2 C7 (fun k m h => (f7 k m h).trans (fr k m h)) w7 ?_ (fun z1 z2 => ?_)
          · rw [show (100000 - (c + 1)).toNat = M by omega]; exact hr
          · rcases sI with h | h | h
            · exact ⟨(h.2 z2).1, trivial⟩
            · exact absurd z1 (by omega)
            · exact absurd z1 (by omega)
      · skip
        refine x_blk (b := 1) (a_84 E) rfl ?_
        unfold b_84_1
        refine x_iload rfl ?_
        refine x_if_ge (by omega) (by omega) (fun z8 => ?_) (fun z => absurd (by omega) z)
        refine x_iload rfl ?_
        refine x_goto ?_
        refine x_blk (b := 4) (a_84 E) rfl ?_
        unfold b_84_4
        refine x_iret ?_
        have tm : w_run A a3 (w_lt l) (w_lt V) w_nd (w_bl P) 100000 (w_come A a3 (w_lt l) (w_lt V) w_nd a4 0 w_0) = (st, (d, a, r, i, o, u, v)) := by
          rw [← hr]
          first
            | (rw [show (100000 - c).toNat = 0 by omega]; rfl)
            | exact w_run_t (fun z => by have z1 : st = 0 := z.1; have z2 : 0 < d := z.2; omega) _
        rw [tm] at k
        refine x_fin (b := if st < 0 then st else (o : Int)) (by split <;> omega) ?_
        exact k τ C fr W
    · skip
      refine x_blk (b := 1) (a_84 E) rfl ?_
      unfold b_84_1
      refine x_iload rfl ?_
      refine x_if_ge (by omega) (by omega) (fun z9 => ?_) (fun z9 => ?_)
      · skip
        refine x_iload rfl ?_
        refine x_goto ?_
        refine x_blk (b := 4) (a_84 E) rfl ?_
        unfold b_84_4
        refine x_iret ?_
        have tm : w_run A a3 (w_lt l) (w_lt V) w_nd (w_bl P) 100000 (w_come A a3 (w_lt l) (w_lt V) w_nd a4 0 w_0) = (st, (d, a, r, i, o, u, v)) := by
          rw [← hr]
          first
            | (rw [show (100000 - c).toNat = 0 by omega]; rfl)
            | exact w_run_t (fun z => by have z1 : st = 0 := z.1; have z2 : 0 < d := z.2; omega) _
        rw [tm] at k
        refine x_fin (b := if st < 0 then st else (o : Int)) (by split <;> omega) ?_
        exact k τ C fr W
      · skip
        refine x_blk (b := 3) (a_84 E) rfl ?_
        unfold b_84_3
        refine x_aload rfl ?_
        refine x_getIG y_f105_5 C ?_
        intro g10a g10b
        refine x_fall ?_
        refine x_blk (b := 4) (a_84 E) rfl ?_
        unfold b_84_4
        refine x_iret ?_
        have tm : w_run A a3 (w_lt l) (w_lt V) w_nd (w_bl P) 100000 (w_come A a3 (w_lt l) (w_lt V) w_nd a4 0 w_0) = (st, (d, a, r, i, o, u, v)) := by
          rw [← hr]
          first
            | (rw [show (100000 - c).toNat = 0 by omega]; rfl)
            | exact w_run_t (fun z => by have z1 : st = 0 := z.1; have z2 : 0 < d := z.2; omega) _
        rw [tm] at k
        refine x_fin (b := if st < 0 then st else (o : Int)) (by split <;> omega) ?_
        exact k τ C fr W
theorem kx_84_105_4_92 {E : q_E} {σ : x_S} {Q : Option q_V → x_S → Prop} {a3 a4 : Int} (p1 : 0 ≤ a3) (p2 : a3 ≤ 1) (q1 : 0 ≤ a4) (q2 : a4 ≤ 2) (C0 : y_CI σ) {A : Nat → Int} (hP : y_PI A) (h4 : y_PG σ 4 A) {n : Nat} {l P V : Nat → Int} (n40 : n ≤ 40) (n0 : 1 ≤ n) (tr : y_tr l n) (ms : y_ms A 0 l n P V) (gs : y_gS σ 92 n l P V) (k : ∀ τ, y_CI τ → (∀ k m, (k < 105 ∨ 110 < k) → τ k m = σ k m) → y_WR τ (w_run A a3 (w_lt l) (w_lt V) w_nd (w_bl P) 100000 (w_come A a3 (w_lt l) (w_lt V) w_nd a4 0 w_0)).2 → Q (some (x_I (if (w_run A a3 (w_lt l) (w_lt V) w_nd (w_bl P) 100000 (w_come A a3 (w_lt l) (w_lt V) w_nd a4 0 w_0)).1 < 0 then (w_run A a3 (w_lt l) (w_lt V) w_nd (w_bl P) 100000 (w_come A a3 (w_lt l) (w_lt V) w_nd a4 0 w_0)).1 else (w_run A a3 (w_lt l) (w_lt V) w_nd (w_bl P) 100000 (w_come A a3 (w_lt l) (w_lt V) w_nd a4 0 w_0)).2.2.2.2.2.1))) τ) : x_P E 84 [x_R 105, x_R 4, x_R 92, x_I a3, x_I a4] σ Q := by
  refine x_Mt e_84 (h_84 E) (Nat.le_of_ble_eq_true rfl) t_84 rfl ?_
  refine x_blk (b := 0) (a_84 E) rfl ?_
  unfold b_84_0
  refine x_aload rfl ?_
  refine x_getR (r := 105) rfl (by decide) (by decide) rfl ?_
  refine x_push 0 rfl ?_
  refine x_cS (fun _ => rfl) (Nat.le_of_ble_eq_true rfl) ?_
  refine ke_27 y_a107 (by decide) (by decide) C0 (fun S1 C1 f1 w1 => ?_)
  refine x_aload rfl ?_
  refine x_push 0 rfl ?_
  refine x_putIG y_f105_5 ⟨by decide, rfl⟩ (by decide) C1 (by decide) (y_fr_rf (lo := 0) (hi := 138)) (by omega) (by omega) (fun S2 e2 C2 F2 => ?_)
  refine x_aload rfl ?_
  refine x_push 0 rfl ?_
  refine x_putIG y_f105_6 ⟨by decide, rfl⟩ (by decide) C2 (by decide) F2 (by omega) (by omega) (fun S3 e3 C3 F3 => ?_)
  refine x_aload rfl ?_
  refine x_aload rfl ?_
  refine x_aload rfl ?_
  refine x_iload rfl ?_
  refine x_iload rfl ?_
  refine x_aload rfl ?_
  refine x_aload rfl ?_
  refine x_cU1 (fun _ => rfl) rfl (by decide) (Nat.le_of_ble_eq_true rfl) ?_
  refine kx_90_92_4 C3 (fun v4 v4a v4b v4c => ?_)
  rw [v4c]
  refine x_cV (fun _ => rfl) rfl (by decide) (Nat.le_of_ble_eq_true rfl) ?_
  have fr0 : ∀ k m, (k < 105 ∨ 110 < k) → S3 k m = σ k m := fun k m h => (x_up_nr e3 (by omega)).trans ((x_up_nr e2 (by omega)).trans (f1 k m (by omega)))
  have W0 : y_WR S3 w_0 := ⟨x_up_at e3, (x_up_ne e3 (by decide)).trans (x_up_at e2), fun j hj => absurd hj (by omega), fun j hj => absurd hj (by omega), fun j hj => (x_up_nr e3 (by decide)).trans ((x_up_nr e2 (by decide)).trans (w1 j hj))⟩
  have cI := w_come0 (p := a3) (sg := w_lt V) (q := a4) (x := 0) hP (w_GS n40 tr ms) (Or.inr ⟨⟨by omega, by omega⟩, by show (0 : Int) ≤ 0; omega⟩)
  have cb : -60 ≤ (w_come A a3 (w_lt l) (w_lt V) w_nd a4 0 w_0).1 ∧ (w_come A a3 (w_lt l) (w_lt V) w_nd a4 0 w_0).1 ≤ 0 := by rcases cI with h | h <;> omega
  refine kx_86_105_4_92 (a5 := 0) (d := 0) (o := 0) (a := fun _ => 0) (r := fun _ => 0) (i := fun _ => 0) (u := fun _ => 0) (v := fun _ => 0) (by omega) (by omega) (by omega) (by omega) C3 hP (y_PG_fr hP (fun c m h1 h2 => fr0 c m (by omega)) h4) n40 tr ms (y_gS_fr (fun c m h1 h2 => fr0 c m (by omega)) gs) (by omega) (by omega) (by omega) (fun j => ⟨by omega, by omega⟩) W0 (fun S5 C5 f5 w5 => ?_)
  refine x_istore ?_
  refine x_push 0 rfl ?_
  refine x_istore ?_
  refine x_X_lo (lo' := [(0, x_R 105), (1, x_R 4), (2, x_R 92), (3, x_I _), (4, x_I _), (5, x_I _), (6, x_I _)]) ⟨rfl, rfl, rfl, rfl, rfl, rfl, rfl, trivial⟩ ?_
  refine x_fall ?_
  refine x_G_lo (lo' := [(0, x_R 105), (1, x_R 4), (2, x_R 92), (3, x_I _), (4, x_I _), (5, x_I _), (6, x_I _)]) ⟨rfl, rfl, rfl, rfl, rfl, rfl, rfl, trivial⟩ ?_
  exact kx_84_105_4_92_b2 p1 p2 q1 q2 C0 hP h4 n40 n0 tr ms gs k _ 0 _ _ _ _ _ _ _ _ S5 rfl (by omega) (by omega) cb.1 cb.2 C5 (fun k m h => (f5 k m h).trans (fr0 k m h)) w5 rfl (fun z1 z2 => by
    rcases cI with h | h
    · exact ⟨h.2.2.1, trivial⟩
    · have z3 : (w_come A a3 (w_lt l) (w_lt V) w_nd a4 0 w_0).1 = 0 := z1
      omega)
theorem kx_84_105_4_96_b2 {E : q_E} {σ : x_S} {Q : Option q_V → x_S → Prop} {a3 a4 : Int} (p1 : 0 ≤ a3) (p2 : a3 ≤ 1) (q1 : 0 ≤ a4) (q2 : a4 ≤ 2) (C0 : y_CI σ) {A : Nat → Int} (hP : y_PI A) (h4 : y_PG σ 4 A) {n : Nat} {l P V : Nat → Int} (n40 : n ≤ 40) (n0 : 1 ≤ n) (tr : y_tr l n) (ms : y_ms A 0 l n P V) (gs : y_gS σ 96 n l P V) (k : ∀ τ, y_CI τ → (∀ k m, (k < 105 ∨ 110 < k) → τ k m = σ k m) → y_WR τ (w_run A a3 (w_lt l) (w_lt V) w_nd (w_bl P) 100000 (w_come A a3 (w_lt l) (w_lt V) w_nd a4 0 w_0)).2 → Q (some (x_I (if (w_run A a3 (w_lt l) (w_lt V) w_nd (w_bl P) 100000 (w_come A a3 (w_lt l) (w_lt V) w_nd a4 0 w_0)).1 < 0 then (w_run A a3 (w_lt l) (w_lt V) w_nd (w_bl P) 100000 (w_come A a3 (w_lt l) (w_lt V) w_nd a4 0 w_0)).1 else (w_run A a3 (w_lt l) (w_lt V) w_nd (w_bl P) 100000 (w_come A a3 (w_lt l) (w_lt V) w_nd a4 0 w_0)).2.2.2.2.2.1))) τ) : ∀ (N : Nat) (c st : Int) (d : Nat) (a r i : Nat → Int) (o : Nat) (u v : Nat → Int) (τ : x_S), (100000 - c).toNat = N → 0 ≤ c → c ≤ 100000 → -60 ≤ st → st ≤ 0 → y_CI τ → (∀ k m, (k < 105 ∨ 110 < k) → τ k m = σ k m) → y_WR τ (d, a, r, i, o, u, v) → w_run A a3 (w_lt l) (w_lt V) w_nd (w_bl P) (100000 - c).toNat (st, (d, a, r, i, o, u, v)) = w_run A a3 (w_lt l) (w_lt V) w_nd (w_bl P) 100000 (w_come A a3 (w_lt l) (w_lt V) w_nd a4 0 w_0) → (st = 0 → 0 < d → w_I A (w_lt l) w_nd (w_D n) (d, a, r, i, o, u, v) ∧ True) → x_G E m_84 Q (t_84 2) [(0, x_R 105), (1, x_R 4), (2, x_R 96), (3, x_I a3), (4, x_I a4), (5, x_I st), (6, x_I c)] [] τ := by
  intro N
  induction N using Nat.strongRecOn with
  | ind N ih =>
    intro c st d a r i o u v τ hN c1 c2 s1 s2 C fr W hr hI
    have W1 := W.1
    have W2 := W.2.1
    refine x_blk (b := 2) (a_84 E) rfl ?_
    unfold b_84_2
    refine x_iload rfl ?_
    refine x_push 100000 rfl ?_
    refine x_icmp_ge (by omega) (by omega) (by omega) (by omega) (fun z1 => ?_) (fun z1 => ?_)
    · skip
      refine x_iload rfl ?_
      refine x_if_ne (by omega) (by omega) (fun z2 => ?_) (fun z2 => ?_)
      · skip
        refine x_aload rfl ?_
        refine x_getIG y_f105_6 C ?_
        intro g3a g3b
        refine x_if_le (by omega) (by omega) (fun z4 => ?_) (fun z4 => ?_)
        · skip
          refine x_blk (b := 1) (a_84 E) rfl ?_
          unfold b_84_1
          refine x_iload rfl ?_
          refine x_if_ge (by omega) (by omega) (fun z => absurd z (by omega)) (fun z5 => ?_)
          refine x_blk (b := 3) (a_84 E) rfl ?_
          unfold b_84_3
          refine x_aload rfl ?_
          refine x_getIG y_f105_5 C ?_
          intro g6a g6b
          refine x_fall ?_
          refine x_blk (b := 4) (a_84 E) rfl ?_
          unfold b_84_4
          refine x_iret ?_
          have tm : w_run A a3 (w_lt l) (w_lt V) w_nd (w_bl P) 100000 (w_come A a3 (w_lt l) (w_lt V) w_nd a4 0 w_0) = (st, (d, a, r, i, o, u, v)) := by
            rw [← hr]
            first
              | (rw [show (100000 - c).toNat = 0 by omega]; rfl)
              | exact w_run_t (fun z => by have z1 : st = 0 := z.1; have z2 : 0 < d := z.2; omega) _
          rw [tm] at k
          refine x_fin (b := if st < 0 then st else (o : Int)) (by split <;> omega) ?_
          exact k τ C fr W
        · skip
          refine x_aload rfl ?_
          refine x_aload rfl ?_
          refine x_aload rfl ?_
          refine x_iload rfl ?_
          refine x_cV (fun _ => rfl) rfl (by decide) (Nat.le_of_ble_eq_true rfl) ?_
          obtain ⟨I', hph⟩ := hI (by omega) (by omega)
          have sI := w_step_I (p := a3) (sg := w_lt V) hP (w_GS n40 tr ms) I' (by show 0 < d; omega)
          have sb : -60 ≤ (w_step A a3 (w_lt l) (w_lt V) w_nd (w_bl P) (d, a, r, i, o, u, v)).1 ∧ (w_step A a3 (w_lt l) (w_lt V) w_nd (w_bl P) (d, a, r, i, o, u, v)).1 ≤ 0 := by rcases sI with h | h | h <;> omega
          refine kx_148_105_4_96 p1 p2 C hP (y_PG_fr hP (fun c m h1 h2 => fr c m (by omega)) h4) n40 tr ms (y_gS_fr (fun c m h1 h2 => fr c m (by omega)) gs) (by omega) I' W (fun S7 C7 f7 w7 => ?_)
          refine x_istore ?_
          refine x_iinc 1 rfl rfl ?_
          refine x_X_lo (lo' := [(0, x_R 105), (1, x_R 4), (2, x_R 96), (3, x_I _), (4, x_I _), (5, x_I _), (6, x_I _)]) ⟨rfl, rfl, rfl, rfl, rfl, rfl, rfl, trivial⟩ ?_
          refine x_goto ?_
          refine x_G_lo (lo' := [(0, x_R 105), (1, x_R 4), (2, x_R 96), (3, x_I _), (4, x_I _), (5, x_I _), (6, x_I _)]) ⟨rfl, rfl, rfl, rfl, rfl, rfl, rfl, trivial⟩ ?_
          obtain ⟨M, hM⟩ : ∃ M : Nat, (100000 - c).toNat = M + 1 := ⟨(100000 - c).toNat - 1, by omega⟩
          rw [hM, w_run_s (x := (st, (d, a, r, i, o, u, v))) ⟨by show st = 0; omega, by show 0 < d; omega⟩] at hr
          refine ih _ (by omega) (c + 1) _ _ _ _ _ _ _ _ _ rfl (by omega) (by omega) sb.1 sb.2 C7 (fun k m h => (f7 k m h).trans (fr k m h)) w7 ?_ (fun z1 z2 => ?_)
          · rw [show (100000 - (c + 1)).toNat = M by omega]; exact hr
          · rcases sI with h | h | h
            · exact ⟨(h.2 z2).1, trivial⟩
            · exact absurd z1 (by omega)
            · exact absurd z1 (by omega)
      · skip
        refine x_blk (b := 1) (a_84 E) rfl ?_
        unfold b_84_1
        refine x_iload rfl ?_
        refine x_if_ge (by omega) (by omega) (fun z8 => ?_) (fun z => absurd (by omega) z)
        refine x_iload rfl ?_
        refine x_goto ?_
        refine x_blk (b := 4) (a_84 E) rfl ?_
        unfold b_84_4
        refine x_iret ?_
        have tm : w_run A a3 (w_lt l) (w_lt V) w_nd (w_bl P) 100000 (w_come A a3 (w_lt l) (w_lt V) w_nd a4 0 w_0) = (st, (d, a, r, i, o, u, v)) := by
          rw [← hr]
          first
            | (rw [show (100000 - c).toNat = 0 by omega]; rfl)
            | exact w_run_t (fun z => by have z1 : st = 0 := z.1; have z2 : 0 < d := z.2; omega) _
        rw [tm] at k
        refine x_fin (b := if st < 0 then st else (o : Int)) (by split <;> omega) ?_
        exact k τ C fr W
    · skip
      refine x_blk (b := 1) (a_84 E) rfl ?_
      unfold b_84_1
      refine x_iload rfl ?_
      refine x_if_ge (by omega) (by omega) (fun z9 => ?_) (fun z9 => ?_)
      · skip
        refine x_iload rfl ?_
        refine x_goto ?_
        refine x_blk (b := 4) (a_84 E) rfl ?_
        unfold b_84_4
        refine x_iret ?_
        have tm : w_run A a3 (w_lt l) (w_lt V) w_nd (w_bl P) 100000 (w_come A a3 (w_lt l) (w_lt V) w_nd a4 0 w_0) = (st, (d, a, r, i, o, u, v)) := by
          rw [← hr]
          first
            | (rw [show (100000 - c).toNat = 0 by omega]; rfl)
            | exact w_run_t (fun z => by have z1 : st = 0 := z.1; have z2 : 0 < d := z.2; omega) _
        rw [tm] at k
        refine x_fin (b := if st < 0 then st else (o : Int)) (by split <;> omega) ?_
        exact k τ C fr W
      · skip
        refine x_blk (b := 3) (a_84 E) rfl ?_
        unfold b_84_3
        refine x_aload rfl ?_
        refine x_getIG y_f105_5 C ?_
        intro g10a g10b
        refine x_fall ?_
        refine x_blk (b := 4) (a_84 E) rfl ?_
        unfold b_84_4
        refine x_iret ?_
        have tm : w_run A a3 (w_lt l) (w_lt V) w_nd (w_bl P) 100000 (w_come A a3 (w_lt l) (w_lt V) w_nd a4 0 w_0) = (st, (d, a, r, i, o, u, v)) := by
          rw [← hr]
          first
            | (rw [show (100000 - c).toNat = 0 by omega]; rfl)
            | exact w_run_t (fun z => by have z1 : st = 0 := z.1; have z2 : 0 < d := z.2; omega) _
        rw [tm] at k
        refine x_fin (b := if st < 0 then st else (o : Int)) (by split <;> omega) ?_
        exact k τ C fr W
theorem kx_84_105_4_96 {E : q_E} {σ : x_S} {Q : Option q_V → x_S → Prop} {a3 a4 : Int} (p1 : 0 ≤ a3) (p2 : a3 ≤ 1) (q1 : 0 ≤ a4) (q2 : a4 ≤ 2) (C0 : y_CI σ) {A : Nat → Int} (hP : y_PI A) (h4 : y_PG σ 4 A) {n : Nat} {l P V : Nat → Int} (n40 : n ≤ 40) (n0 : 1 ≤ n) (tr : y_tr l n) (ms : y_ms A 0 l n P V) (gs : y_gS σ 96 n l P V) (k : ∀ τ, y_CI τ → (∀ k m, (k < 105 ∨ 110 < k) → τ k m = σ k m) → y_WR τ (w_run A a3 (w_lt l) (w_lt V) w_nd (w_bl P) 100000 (w_come A a3 (w_lt l) (w_lt V) w_nd a4 0 w_0)).2 → Q (some (x_I (if (w_run A a3 (w_lt l) (w_lt V) w_nd (w_bl P) 100000 (w_come A a3 (w_lt l) (w_lt V) w_nd a4 0 w_0)).1 < 0 then (w_run A a3 (w_lt l) (w_lt V) w_nd (w_bl P) 100000 (w_come A a3 (w_lt l) (w_lt V) w_nd a4 0 w_0)).1 else (w_run A a3 (w_lt l) (w_lt V) w_nd (w_bl P) 100000 (w_come A a3 (w_lt l) (w_lt V) w_nd a4 0 w_0)).2.2.2.2.2.1))) τ) : x_P E 84 [x_R 105, x_R 4, x_R 96, x_I a3, x_I a4] σ Q := by
  refine x_Mt e_84 (h_84 E) (Nat.le_of_ble_eq_true rfl) t_84 rfl ?_
  refine x_blk (b := 0) (a_84 E) rfl ?_
  unfold b_84_0
  refine x_aload rfl ?_
  refine x_getR (r := 105) rfl (by decide) (by decide) rfl ?_
  refine x_push 0 rfl ?_
  refine x_cS (fun _ => rfl) (Nat.le_of_ble_eq_true rfl) ?_
  refine ke_27 y_a107 (by decide) (by decide) C0 (fun S1 C1 f1 w1 => ?_)
  refine x_aload rfl ?_
  refine x_push 0 rfl ?_
  refine x_putIG y_f105_5 ⟨by decide, rfl⟩ (by decide) C1 (by decide) (y_fr_rf (lo := 0) (hi := 138)) (by omega) (by omega) (fun S2 e2 C2 F2 => ?_)
  refine x_aload rfl ?_
  refine x_push 0 rfl ?_
  refine x_putIG y_f105_6 ⟨by decide, rfl⟩ (by decide) C2 (by decide) F2 (by omega) (by omega) (fun S3 e3 C3 F3 => ?_)
  refine x_aload rfl ?_
  refine x_aload rfl ?_
  refine x_aload rfl ?_
  refine x_iload rfl ?_
  refine x_iload rfl ?_
  refine x_aload rfl ?_
  refine x_aload rfl ?_
  refine x_cU1 (fun _ => rfl) rfl (by decide) (Nat.le_of_ble_eq_true rfl) ?_
  refine kx_90_96_4 C3 (fun v4 v4a v4b v4c => ?_)
  rw [v4c]
  refine x_cV (fun _ => rfl) rfl (by decide) (Nat.le_of_ble_eq_true rfl) ?_
  have fr0 : ∀ k m, (k < 105 ∨ 110 < k) → S3 k m = σ k m := fun k m h => (x_up_nr e3 (by omega)).trans ((x_up_nr e2 (by omega)).trans (f1 k m (by omega)))
  have W0 : y_WR S3 w_0 := ⟨x_up_at e3, (x_up_ne e3 (by decide)).trans (x_up_at e2), fun j hj => absurd hj (by omega), fun j hj => absurd hj (by omega), fun j hj => (x_up_nr e3 (by decide)).trans ((x_up_nr e2 (by decide)).trans (w1 j hj))⟩
  have cI := w_come0 (p := a3) (sg := w_lt V) (q := a4) (x := 0) hP (w_GS n40 tr ms) (Or.inr ⟨⟨by omega, by omega⟩, by show (0 : Int) ≤ 0; omega⟩)
  have cb : -60 ≤ (w_come A a3 (w_lt l) (w_lt V) w_nd a4 0 w_0).1 ∧ (w_come A a3 (w_lt l) (w_lt V) w_nd a4 0 w_0).1 ≤ 0 := by rcases cI with h | h <;> omega
  refine kx_86_105_4_96 (a5 := 0) (d := 0) (o := 0) (a := fun _ => 0) (r := fun _ => 0) (i := fun _ => 0) (u := fun _ => 0) (v := fun _ => 0) (by omega) (by omega) (by omega) (by omega) C3 hP (y_PG_fr hP (fun c m h1 h2 => fr0 c m (by omega)) h4) n40 tr ms (y_gS_fr (fun c m h1 h2 => fr0 c m (by omega)) gs) (by omega) (by omega) (by omega) (fun j => ⟨by omega, by omega⟩) W0 (fun S5 C5 f5 w5 => ?_)
  refine x_istore ?_
  refine x_push 0 rfl ?_
  refine x_istore ?_
  refine x_X_lo (lo' := [(0, x_R 105), (1, x_R 4), (2, x_R 96), (3, x_I _), (4, x_I _), (5, x_I _), (6, x_I _)]) ⟨rfl, rfl, rfl, rfl, rfl, rfl, rfl, trivial⟩ ?_
  refine x_fall ?_
  refine x_G_lo (lo' := [(0, x_R 105), (1, x_R 4), (2, x_R 96), (3, x_I _), (4, x_I _), (5, x_I _), (6, x_I _)]) ⟨rfl, rfl, rfl, rfl, rfl, rfl, rfl, trivial⟩ ?_
  exact kx_84_105_4_96_b2 p1 p2 q1 q2 C0 hP h4 n40 n0 tr ms gs k _ 0 _ _ _ _ _ _ _ _ S5 rfl (by omega) (by omega) cb.1 cb.2 C5 (fun k m h => (f5 k m h).trans (fr0 k m h)) w5 rfl (fun z1 z2 => by
    rcases cI with h | h
    · exact ⟨h.2.2.1, trivial⟩
    · have z3 : (w_come A a3 (w_lt l) (w_lt V) w_nd a4 0 w_0).1 = 0 := z1
      omega)
