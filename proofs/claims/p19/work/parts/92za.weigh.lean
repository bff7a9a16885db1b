/-! trees weighed: where a subtree ends, what an automaton makes of it -/
def y_kk (l P V : Nat → Int) (v : Nat) : Int := if l v < 2 then 0 else if l v = 2 then V (v + 1) else 2 * V (v + 1) + V (P (v + 1)).toNat
def y_pq (l P : Nat → Int) (v : Nat) : Int := if l v < 2 then (v : Int) + 1 else if l v = 2 then P (v + 1) else P (P (v + 1)).toNat
/-- from a node on -/
def y_mp (A : Nat → Int) (m : Int) (l : Nat → Int) (n k : Nat) (P V : Nat → Int) : Prop := ∀ v, k ≤ v → v < n → P v = y_pq l P v ∧ V v = A (y_tab m (l v) (y_kk l P V v)).toNat
abbrev y_ms (A : Nat → Int) (m : Int) (l : Nat → Int) (n : Nat) (P V : Nat → Int) : Prop := y_mp A m l n 0 P V
theorem y_opx (l : Nat → Int) (v : Nat) (h1 : 0 ≤ l v) (h2 : l v ≤ 4) : (l v < 2 ∧ y_op l (v + 1) = y_op l v - 1) ∨ (l v = 2 ∧ y_op l (v + 1) = y_op l v) ∨ (2 < l v ∧ y_op l (v + 1) = y_op l v + 1) := by
  have h := (y_c9v (l v)).2 (by omega)
  rw [y_op_s]
  omega
theorem y_mp_ok {A : Nat → Int} {m : Int} {l : Nat → Int} {n k : Nat} {P V : Nat → Int} (tr : y_tr l n) (h : y_mp A m l n k P V) : ∀ (N v : Nat), n - v = N → k ≤ v → v < n → (v : Int) < P v ∧ P v ≤ n ∧ y_op l (P v).toNat = y_op l v - 1 := by
  intro N
  induction N using Nat.strongRecOn with
  | ind N ih =>
    intro v hN h1 h2
    have t := tr.1 v h2
    have o := y_opx l v t.1 t.2.1
    have e := (h v h1 h2).1
    unfold y_pq at e
    have hn : ∀ u, u ≤ n → 1 ≤ y_op l u → u < n := fun u hu ho => by
      by_cases c : u = n
      · rw [c, tr.2] at ho; omega
      · omega
    rcases o with o | o | o
    · rw [if_pos o.1] at e
      rw [e, show ((v : Int) + 1).toNat = v + 1 by omega]
      exact ⟨by omega, by omega, o.2⟩
    · rw [if_neg (by omega), if_pos o.1] at e
      have c1 := hn (v + 1) (by omega) (by omega)
      have q := ih _ (by omega) (v + 1) rfl (by omega) c1
      rw [e]
      exact ⟨by omega, q.2.1, by omega⟩
    · rw [if_neg (by omega), if_neg (by omega)] at e
      have c1 := hn (v + 1) (by omega) (by omega)
      have q := ih _ (by omega) (v + 1) rfl (by omega) c1
      have c2 := hn (P (v + 1)).toNat (by omega) (by omega)
      have q2 := ih _ (by omega) (P (v + 1)).toNat rfl (by omega) c2
      rw [e]
      exact ⟨by omega, q2.2.1, by omega⟩
/-- where children lie -/
theorem y_mp_c {A : Nat → Int} {m : Int} {l : Nat → Int} {n k : Nat} {P V : Nat → Int} (tr : y_tr l n) (h : y_mp A m l n k P V) {v : Nat} (h1 : k ≤ v + 1) (h2 : v < n) (hc : 2 ≤ l v) : v + 1 < n ∧ (v : Int) + 1 < P (v + 1) ∧ P (v + 1) ≤ n ∧ (3 ≤ l v → P (v + 1) < n ∧ P (v + 1) < P (P (v + 1)).toNat ∧ P (P (v + 1)).toNat ≤ n) := by
  have t := tr.1 v h2
  have o := y_opx l v t.1 t.2.1
  have hn : ∀ u, u ≤ n → 1 ≤ y_op l u → u < n := fun u hu ho => by
    by_cases c : u = n
    · rw [c, tr.2] at ho; omega
    · omega
  have c1 := hn (v + 1) (by omega) (by omega)
  have q := y_mp_ok tr h _ (v + 1) rfl h1 c1
  refine ⟨c1, by omega, q.2.1, fun h3 => ?_⟩
  have c2 := hn (P (v + 1)).toNat (by omega) (by omega)
  have q2 := y_mp_ok tr h _ (P (v + 1)).toNat rfl (by omega) c2
  exact ⟨by omega, by omega, q2.2.1⟩
theorem y_pk_ext {l P V P' V' : Nat → Int} {v : Nat} (h1 : 2 ≤ l v → P' (v + 1) = P (v + 1) ∧ V' (v + 1) = V (v + 1)) (h2 : 3 ≤ l v → P' (P (v + 1)).toNat = P (P (v + 1)).toNat ∧ V' (P (v + 1)).toNat = V (P (v + 1)).toNat) : y_pq l P' v = y_pq l P v ∧ y_kk l P' V' v = y_kk l P V v := by
  unfold y_pq y_kk
  by_cases c1 : l v < 2
  · rw [if_pos c1, if_pos c1, if_pos c1, if_pos c1]; exact ⟨rfl, rfl⟩
  rw [if_neg c1, if_neg c1, if_neg c1, if_neg c1, (h1 (by omega)).1, (h1 (by omega)).2]
  by_cases c2 : l v = 2
  · rw [if_pos c2, if_pos c2, if_pos c2, if_pos c2]; exact ⟨rfl, rfl⟩
  rw [if_neg c2, if_neg c2, if_neg c2, if_neg c2, (h2 (by omega)).1, (h2 (by omega)).2]
  exact ⟨rfl, rfl⟩
theorem y_mp_ex {A : Nat → Int} {m : Int} {l : Nat → Int} {n : Nat} (tr : y_tr l n) : ∀ j, j ≤ n → ∃ P V, y_mp A m l n (n - j) P V
  | 0, _ => ⟨fun _ => 0, fun _ => 0, fun v h1 h2 => absurd h2 (by omega)⟩
  | j + 1, hj => by
    obtain ⟨P, V, h⟩ := y_mp_ex (A := A) (m := m) tr j (by omega)
    have hP : ∀ u, u ≠ n - (j + 1) → (fun x => if x = n - (j + 1) then y_pq l P x else P x) u = P u := fun u hu => if_neg hu
    have hV : ∀ u, u ≠ n - (j + 1) → (fun x => if x = n - (j + 1) then A (y_tab m (l x) (y_kk l P V x)).toNat else V x) u = V u := fun u hu => if_neg hu
    refine ⟨fun x => if x = n - (j + 1) then y_pq l P x else P x, fun x => if x = n - (j + 1) then A (y_tab m (l x) (y_kk l P V x)).toNat else V x, fun v h1 h2 => ?_⟩
    have t := tr.1 v h2
    have hq := y_pk_ext (l := l) (P := P) (V := V) (P' := fun x => if x = n - (j + 1) then y_pq l P x else P x) (V' := fun x => if x = n - (j + 1) then A (y_tab m (l x) (y_kk l P V x)).toNat else V x) (v := v) (fun c => ⟨hP _ (by omega), hV _ (by omega)⟩) (fun c => by
      have c := y_mp_c tr h (v := v) (by omega) h2 (by omega)
      have d := c.2.2.2 (by omega)
      exact ⟨hP _ (by omega), hV _ (by omega)⟩)
    rw [hq.1, hq.2]
    by_cases c : v = n - (j + 1)
    · exact ⟨if_pos c, if_pos c⟩
    · rw [hP v c, hV v c]
      exact h v (by omega) h2
theorem y_ms_ex {A : Nat → Int} {m : Int} {l : Nat → Int} {n : Nat} (tr : y_tr l n) : ∃ P V, y_ms A m l n P V := by
  obtain ⟨P, V, h⟩ := y_mp_ex (A := A) (m := m) tr n (Nat.le_refl n)
  rw [Nat.sub_self] at h
  exact ⟨P, V, h⟩
/-- the row of values that an automaton has, in range -/
theorem y_kk_b {l P V : Nat → Int} {v : Nat} (h1 : 0 ≤ l v) (h2 : l v ≤ 4) (h3 : 2 ≤ l v → 0 ≤ V (v + 1) ∧ V (v + 1) ≤ 1) (h4 : 3 ≤ l v → 0 ≤ V (P (v + 1)).toNat ∧ V (P (v + 1)).toNat ≤ 1) : 0 ≤ y_kk l P V v ∧ y_kk l P V v < y_pw (y_ch (l v)) := by
  have ex := y_chx (l v)
  have ep := y_pwx (y_ch (l v))
  unfold y_kk
  by_cases c1 : l v < 2
  · rw [if_pos c1]; omega
  by_cases c2 : l v = 2
  · rw [if_neg c1, if_pos c2]
    have := h3 (by omega)
    omega
  · rw [if_neg c1, if_neg c2]
    have := h3 (by omega)
    have := h4 (by omega)
    omega
theorem y_ms_V {A : Nat → Int} {m : Int} {l : Nat → Int} {n : Nat} {P V : Nat → Int} (hP : y_PI A) (m1 : 0 ≤ m) (m2 : m ≤ 1) (tr : y_tr l n) (h : y_ms A m l n P V) : ∀ (N v : Nat), n - v = N → v < n → (0 ≤ V v ∧ V v ≤ 1) ∧ (0 ≤ y_kk l P V v ∧ y_kk l P V v < y_pw (y_ch (l v))) := by
  intro N
  induction N using Nat.strongRecOn with
  | ind N ih =>
    intro v hN hv
    have t := tr.1 v hv
    have kb := y_kk_b (P := P) (V := V) t.1 t.2.1 (fun h2 => (ih _ (by have := y_mp_c tr h (v := v) (by omega) hv h2; omega) (v + 1) rfl (y_mp_c tr h (v := v) (by omega) hv h2).1).1) (fun h3 => by
      have c := y_mp_c tr h (v := v) (by omega) hv (by omega)
      have d := c.2.2.2 h3
      exact (ih _ (by omega) (P (v + 1)).toNat rfl (by omega)).1)
    refine ⟨?_, kb⟩
    rw [(h v (by omega) hv).2]
    have tb := y_tab_b m1 m2 t.1 t.2.1 kb.1 kb.2
    exact hP.2.2.1 _ (by omega) (by omega)
theorem kx_73_92_4_b5 {E : q_E} {σ : x_S} {Q : Option q_V → x_S → Prop} {a2 : Int} (m1 : 0 ≤ a2) (m2 : a2 ≤ 1) (C0 : y_CI σ) {A : Nat → Int} (hP : y_PI A) (hA : y_AG (y_cv σ 4) A) {n : Nat} (hn : σ 92 3 = n) (n40 : n ≤ 40) {P V : Nat → Int} (tr : y_tr (σ 93) n) (ms : y_ms A a2 (σ 93) n P V) (k : ∀ τ, y_CI τ → (∀ c m, c ≠ 94 → c ≠ 95 → τ c m = σ c m) → (∀ v : Nat, v < n → τ 94 v = P v - v ∧ τ 95 v = V v) → Q none τ) : ∀ (N : Nat) (w : Int) (τ : x_S), (w + 1).toNat = N → -1 ≤ w → w < n → y_CI τ → (∀ c m, c ≠ 94 → c ≠ 95 → τ c m = σ c m) → (∀ v : Nat, w < v → v < n → τ 94 v = P v - v ∧ τ 95 v = V v) → x_G E m_73 Q (t_73 5) [(0, x_R 92), (1, x_R 4), (2, x_I a2), (3, x_I w)] [] τ := by
  intro N
  induction N using Nat.strongRecOn with
  | ind N ih =>
    intro w τ hN i1 i2 C fr hv
    have n3 : τ 92 3 = n := (fr _ _ (by decide) (by decide)).trans hn
    have lt : 0 ≤ w → 0 ≤ σ 93 w.toNat ∧ σ 93 w.toNat ≤ 4 := fun h => ⟨(tr.1 w.toNat (by omega)).1, (tr.1 w.toNat (by omega)).2.1⟩
    have k1 : 0 ≤ w ∧ 2 ≤ σ 93 w.toNat → _ := fun h => y_mp_c tr ms (v := w.toNat) (by omega) (by omega) h.2
    refine x_blk (b := 5) (a_73 E) rfl ?_
    unfold b_73_5
    refine x_iload rfl ?_
    refine x_if_lt (by omega) (by omega) (fun z1 => ?_) (fun z1 => ?_)
    · skip
      refine x_blk (b := 1) (a_73 E) rfl ?_
      unfold b_73_1
      refine x_vret ?_
      exact k τ C fr (fun v h => hv v (by omega) h)
    · skip
      refine x_push 1 rfl ?_
      refine x_istore ?_
      refine x_push 0 rfl ?_
      refine x_istore ?_
      refine x_X_lo (lo' := [(0, x_R 92), (1, x_R 4), (2, x_I _), (3, x_I _), (4, x_I _), (5, x_I _)]) ⟨rfl, rfl, rfl, rfl, rfl, rfl, trivial⟩ ?_
      refine x_push 0 rfl ?_
      refine x_istore ?_
      refine x_fall ?_
      refine x_blk (b := 4) (a_73 E) rfl ?_
      unfold b_73_4
      refine x_iload rfl ?_
      refine x_aload rfl ?_
      refine x_getR (r := 92) rfl (by decide) (by decide) rfl ?_
      refine x_iload rfl ?_
      refine x_ialdX y_a93 C (by omega) (by omega) (fun v2 v2x v2a v2b => ?_)
      have f2 : v2 = σ 93 w.toNat := by rw [v2x]; exact fr _ _ (by decide) (by decide)
      refine x_cS (fun _ => rfl) (Nat.le_of_ble_eq_true rfl) ?_
      refine ke_7 (by omega) (by omega) (fun v3 v3a v3b v3c => ?_)
      refine x_icmp_ge (by omega) (by omega) (by omega) (by omega) (fun z4 => ?_) (fun z4 => ?_)
      · skip
        refine x_iload rfl ?_
        refine x_iload rfl ?_
        refine x_iadd ?_
        refine x_istore ?_
        refine x_X_lo (lo' := [(0, x_R 92), (1, x_R 4), (2, x_I _), (3, x_I _), (4, x_I _), (5, x_I _), (6, x_I _), (7, x_I _)]) ⟨rfl, rfl, rfl, rfl, rfl, rfl, rfl, rfl, trivial⟩ ?_
        refine x_iload rfl ?_
        refine x_aload rfl ?_
        refine x_getIG y_f92_3 C ?_
        intro g5a g5b
        refine x_cS (fun _ => rfl) (Nat.le_of_ble_eq_true rfl) ?_
        have c1 := k1 (by omega)
        refine sf_2 (by omega) (by omega) (by omega) (by omega) C (fun y6 => ?_) (fun y6 => absurd (by omega) y6)
        refine x_if_eq (by omega) (by omega) (fun z => absurd z (by omega)) (fun z7 => ?_)
        refine x_push 2 rfl ?_
        refine x_iload rfl ?_
        refine x_imul ?_
        refine x_aload rfl ?_
        refine x_getR (r := 92) rfl (by decide) (by decide) rfl ?_
        refine x_iload rfl ?_
        refine x_ialdX y_a95 C (by omega) (by omega) (fun v8 v8x v8a v8b => ?_)
        rw [show (w + 1).toNat = w.toNat + 1 by omega, (hv (w.toNat + 1) (by omega) (by omega)).2] at v8x
        refine x_iadd ?_
        refine x_istore ?_
        refine x_iload rfl ?_
        refine x_aload rfl ?_
        refine x_getR (r := 92) rfl (by decide) (by decide) rfl ?_
        refine x_iload rfl ?_
        refine x_ialdX y_a94 C (by omega) (by omega) (fun v9 v9x v9a v9b => ?_)
        rw [show (w + 1).toNat = w.toNat + 1 by omega, (hv (w.toNat + 1) (by omega) (by omega)).1] at v9x
        refine x_iadd ?_
        refine x_istore ?_
        refine x_X_lo (lo' := [(0, x_R 92), (1, x_R 4), (2, x_I _), (3, x_I _), (4, x_I _), (5, x_I _), (6, x_I _), (7, x_I _)]) ⟨rfl, rfl, rfl, rfl, rfl, rfl, rfl, rfl, trivial⟩ ?_
        refine x_fall ?_
        refine x_blk (b := 3) (a_73 E) rfl ?_
        unfold b_73_3
        refine x_iinc 1 rfl rfl ?_
        refine x_goto ?_
        refine x_blk (b := 4) (a_73 E) rfl ?_
        unfold b_73_4
        refine x_iload rfl ?_
        refine x_aload rfl ?_
        refine x_getR (r := 92) rfl (by decide) (by decide) rfl ?_
        refine x_iload rfl ?_
        refine x_ialdX y_a93 C (by omega) (by omega) (fun v10 v10x v10a v10b => ?_)
        have f10 : v10 = σ 93 w.toNat := by rw [v10x]; exact fr _ _ (by decide) (by decide)
        refine x_cS (fun _ => rfl) (Nat.le_of_ble_eq_true rfl) ?_
        refine ke_7 (by omega) (by omega) (fun v11 v11a v11b v11c => ?_)
        refine x_icmp_ge (by omega) (by omega) (by omega) (by omega) (fun z12 => ?_) (fun z12 => ?_)
        · skip
          refine x_iload rfl ?_
          refine x_iload rfl ?_
          refine x_iadd ?_
          refine x_istore ?_
          refine x_X_lo (lo' := [(0, x_R 92), (1, x_R 4), (2, x_I _), (3, x_I _), (4, x_I _), (5, x_I _), (6, x_I _), (7, x_I _)]) ⟨rfl, rfl, rfl, rfl, rfl, rfl, rfl, rfl, trivial⟩ ?_
          refine x_iload rfl ?_
          refine x_aload rfl ?_
          refine x_getIG y_f92_3 C ?_
          intro g13a g13b
          refine x_cS (fun _ => rfl) (Nat.le_of_ble_eq_true rfl) ?_
          have c2 := c1.2.2.2 (by omega)
          refine sf_2 (by omega) (by omega) (by omega) (by omega) C (fun y14 => ?_) (fun y14 => absurd (by omega) y14)
          refine x_if_eq (by omega) (by omega) (fun z => absurd z (by omega)) (fun z15 => ?_)
          refine x_push 2 rfl ?_
          refine x_iload rfl ?_
          refine x_imul ?_
          refine x_aload rfl ?_
          refine x_getR (r := 92) rfl (by decide) (by decide) rfl ?_
          refine x_iload rfl ?_
          refine x_ialdX y_a95 C (by omega) (by omega) (fun v16 v16x v16a v16b => ?_)
          rw [show (w + (1 + v9)).toNat = (P (w.toNat + 1)).toNat by omega, (hv (P (w.toNat + 1)).toNat (by omega) (by omega)).2] at v16x
          refine x_iadd ?_
          refine x_istore ?_
          refine x_iload rfl ?_
          refine x_aload rfl ?_
          refine x_getR (r := 92) rfl (by decide) (by decide) rfl ?_
          refine x_iload rfl ?_
          refine x_ialdX y_a94 C (by omega) (by omega) (fun v17 v17x v17a v17b => ?_)
          rw [show (w + (1 + v9)).toNat = (P (w.toNat + 1)).toNat by omega, (hv (P (w.toNat + 1)).toNat (by omega) (by omega)).1] at v17x
          refine x_iadd ?_
          refine x_istore ?_
          refine x_X_lo (lo' := [(0, x_R 92), (1, x_R 4), (2, x_I _), (3, x_I _), (4, x_I _), (5, x_I _), (6, x_I _), (7, x_I _)]) ⟨rfl, rfl, rfl, rfl, rfl, rfl, rfl, rfl, trivial⟩ ?_
          refine x_fall ?_
          refine x_blk (b := 3) (a_73 E) rfl ?_
          unfold b_73_3
          refine x_iinc 1 rfl rfl ?_
          refine x_goto ?_
          refine x_blk (b := 4) (a_73 E) rfl ?_
          unfold b_73_4
          refine x_iload rfl ?_
          refine x_aload rfl ?_
          refine x_getR (r := 92) rfl (by decide) (by decide) rfl ?_
          refine x_iload rfl ?_
          refine x_ialdX y_a93 C (by omega) (by omega) (fun v18 v18x v18a v18b => ?_)
          have f18 : v18 = σ 93 w.toNat := by rw [v18x]; exact fr _ _ (by decide) (by decide)
          refine x_cS (fun _ => rfl) (Nat.le_of_ble_eq_true rfl) ?_
          refine ke_7 (by omega) (by omega) (fun v19 v19a v19b v19c => ?_)
          refine x_icmp_ge (by omega) (by omega) (by omega) (by omega) (fun z => absurd z (by omega)) (fun z20 => ?_)
          refine x_blk (b := 2) (a_73 E) rfl ?_
          unfold b_73_2
          refine x_aload rfl ?_
          refine x_getR (r := 92) rfl (by decide) (by decide) rfl ?_
          refine x_iload rfl ?_
          refine x_iload rfl ?_
          refine x_astG y_a94 C (by decide) (y_fr_rf (lo := 0) (hi := 138)) (by omega) (by omega) (by omega) (by omega) (fun S21 e21 C21 F21 => ?_)
          refine x_aload rfl ?_
          refine x_getR (r := 92) rfl (by decide) (by decide) rfl ?_
          refine x_iload rfl ?_
          refine x_aload rfl ?_
          refine x_iload rfl ?_
          refine x_aload rfl ?_
          refine x_getR (r := 92) rfl (by decide) (by decide) rfl ?_
          refine x_iload rfl ?_
          refine x_ialdX y_a93 C21 (by omega) (by omega) (fun v22 v22x v22a v22b => ?_)
          have f22 : v22 = σ 93 w.toNat := by rw [v22x]; exact (x_up_nr e21 (by decide)).trans (fr _ _ (by decide) (by decide))
          refine x_iload rfl ?_
          refine x_cV (fun _ => rfl) rfl (by decide) (Nat.le_of_ble_eq_true rfl) ?_
          refine kx_30_4 (by omega) (by omega) (by omega) (by omega) (by omega) (by omega) C21 (fun v23 v23a v23b v23c => ?_)
          refine x_astG y_a95 C21 (by decide) F21 (by omega) (by omega) (by omega) (by omega) (fun S24 e24 C24 F24 => ?_)
          refine x_iinc (-1) rfl rfl ?_
          refine x_X_lo (lo' := [(0, x_R 92), (1, x_R 4), (2, x_I _), (3, x_I _), (4, x_I _), (5, x_I _), (6, x_I _), (7, x_I _)]) ⟨rfl, rfl, rfl, rfl, rfl, rfl, rfl, rfl, trivial⟩ ?_
          refine x_goto ?_
          refine x_G_lo (lo' := [(0, x_R 92), (1, x_R 4), (2, x_I _), (3, x_I _)]) ⟨rfl, rfl, rfl, rfl, trivial⟩ ?_
          have pe := (ms w.toNat (by omega) (by omega))
          have kb := y_ms_V hP m1 m2 tr ms _ w.toNat rfl (by omega)
          refine ih _ (by omega) (w + -1) S24 rfl (by omega) (by omega) C24 (fun c m h1 h2 => ?_) (fun v hv1 hv2 => ?_)
          · rw [x_up_nr e24 h2, x_up_nr e21 h1]; exact fr c m h1 h2
          · by_cases cv : v = w.toNat
            · subst cv
              rw [x_up_nr e24 (by decide), x_up_at e21, x_up_at e24]
              have pq := pe.1
              unfold y_pq at pq
              have kq : y_kk (σ 93) P V w.toNat = (2 * (2 * 0 + v8) + v16) := by unfold y_kk; rw [if_neg (by omega), if_neg (by omega)]; try omega
              rw [if_neg (by omega), if_neg (by omega)] at pq
              have vq := pe.2
              rw [kq] at vq kb
              refine ⟨by omega, ?_⟩
              rw [vq]
              have xe := y_PG_e hA (m := a2) (f := σ 93 w.toNat) (e := (2 * (2 * 0 + v8) + v16)) m1 m2 (by omega) (by omega) (by omega) (by omega)
              rw [← xe]
              have ee : S21 8 ((a2 * 5 + v22) * 4 + (2 * (2 * 0 + v8) + v16)).toNat = σ (4 + 4) ((a2 * 5 + σ 93 w.toNat) * 4 + (2 * (2 * 0 + v8) + v16)).toNat := by rw [f22]; exact (x_up_nr e21 (by decide)).trans (fr _ _ (by decide) (by decide))
              omega
            · rw [x_up_nr e24 (by decide), x_up_ne e21 (fun z => cv z.2), x_up_ne e24 (fun z => cv z.2), x_up_nr e21 (by decide)]
              exact hv v (by omega) hv2
        · skip
          refine x_blk (b := 2) (a_73 E) rfl ?_
          unfold b_73_2
          refine x_aload rfl ?_
          refine x_getR (r := 92) rfl (by decide) (by decide) rfl ?_
          refine x_iload rfl ?_
          refine x_iload rfl ?_
          refine x_astG y_a94 C (by decide) (y_fr_rf (lo := 0) (hi := 138)) (by omega) (by omega) (by omega) (by omega) (fun S25 e25 C25 F25 => ?_)
          refine x_aload rfl ?_
          refine x_getR (r := 92) rfl (by decide) (by decide) rfl ?_
          refine x_iload rfl ?_
          refine x_aload rfl ?_
          refine x_iload rfl ?_
          refine x_aload rfl ?_
          refine x_getR (r := 92) rfl (by decide) (by decide) rfl ?_
          refine x_iload rfl ?_
          refine x_ialdX y_a93 C25 (by omega) (by omega) (fun v26 v26x v26a v26b => ?_)
          have f26 : v26 = σ 93 w.toNat := by rw [v26x]; exact (x_up_nr e25 (by decide)).trans (fr _ _ (by decide) (by decide))
          refine x_iload rfl ?_
          refine x_cV (fun _ => rfl) rfl (by decide) (Nat.le_of_ble_eq_true rfl) ?_
          refine kx_30_4 (by omega) (by omega) (by omega) (by omega) (by omega) (by omega) C25 (fun v27 v27a v27b v27c => ?_)
          refine x_astG y_a95 C25 (by decide) F25 (by omega) (by omega) (by omega) (by omega) (fun S28 e28 C28 F28 => ?_)
          refine x_iinc (-1) rfl rfl ?_
          refine x_X_lo (lo' := [(0, x_R 92), (1, x_R 4), (2, x_I _), (3, x_I _), (4, x_I _), (5, x_I _), (6, x_I _), (7, x_I _)]) ⟨rfl, rfl, rfl, rfl, rfl, rfl, rfl, rfl, trivial⟩ ?_
          refine x_goto ?_
          refine x_G_lo (lo' := [(0, x_R 92), (1, x_R 4), (2, x_I _), (3, x_I _)]) ⟨rfl, rfl, rfl, rfl, trivial⟩ ?_
          have pe := (ms w.toNat (by omega) (by omega))
          have kb := y_ms_V hP m1 m2 tr ms _ w.toNat rfl (by omega)
          refine ih _ (by omega) (w + -1) S28 rfl (by omega) (by omega) C28 (fun c m h1 h2 => ?_) (fun v hv1 hv2 => ?_)
          · rw [x_up_nr e28 h2, x_up_nr e25 h1]; exact fr c m h1 h2
          · by_cases cv : v = w.toNat
            · subst cv
              rw [x_up_nr e28 (by decide), x_up_at e25, x_up_at e28]
              have pq := pe.1
              unfold y_pq at pq
              have kq : y_kk (σ 93) P V w.toNat = (2 * 0 + v8) := by unfold y_kk; rw [if_neg (by omega), if_pos (by omega)]; try omega
              rw [if_neg (by omega), if_pos (by omega)] at pq
              have vq := pe.2
              rw [kq] at vq kb
              refine ⟨by omega, ?_⟩
              rw [vq]
              have xe := y_PG_e hA (m := a2) (f := σ 93 w.toNat) (e := (2 * 0 + v8)) m1 m2 (by omega) (by omega) (by omega) (by omega)
              rw [← xe]
              have ee : S25 8 ((a2 * 5 + v26) * 4 + (2 * 0 + v8)).toNat = σ (4 + 4) ((a2 * 5 + σ 93 w.toNat) * 4 + (2 * 0 + v8)).toNat := by rw [f26]; exact (x_up_nr e25 (by decide)).trans (fr _ _ (by decide) (by decide))
              omega
            · rw [x_up_nr e28 (by decide), x_up_ne e25 (fun z => cv z.2), x_up_ne e28 (fun z => cv z.2), x_up_nr e25 (by decide)]
              exact hv v (by omega) hv2
      · skip
        refine x_blk (b := 2) (a_73 E) rfl ?_
        unfold b_73_2
        refine x_aload rfl ?_
        refine x_getR (r := 92) rfl (by decide) (by decide) rfl ?_
        refine x_iload rfl ?_
        refine x_iload rfl ?_
        refine x_astG y_a94 C (by decide) (y_fr_rf (lo := 0) (hi := 138)) (by omega) (by omega) (by omega) (by omega) (fun S29 e29 C29 F29 => ?_)
        refine x_aload rfl ?_
        refine x_getR (r := 92) rfl (by decide) (by decide) rfl ?_
        refine x_iload rfl ?_
        refine x_aload rfl ?_
        refine x_iload rfl ?_
        refine x_aload rfl ?_
        refine x_getR (r := 92) rfl (by decide) (by decide) rfl ?_
        refine x_iload rfl ?_
        refine x_ialdX y_a93 C29 (by omega) (by omega) (fun v30 v30x v30a v30b => ?_)
        have f30 : v30 = σ 93 w.toNat := by rw [v30x]; exact (x_up_nr e29 (by decide)).trans (fr _ _ (by decide) (by decide))
        refine x_iload rfl ?_
        refine x_cV (fun _ => rfl) rfl (by decide) (Nat.le_of_ble_eq_true rfl) ?_
        refine kx_30_4 (by omega) (by omega) (by omega) (by omega) (by omega) (by omega) C29 (fun v31 v31a v31b v31c => ?_)
        refine x_astG y_a95 C29 (by decide) F29 (by omega) (by omega) (by omega) (by omega) (fun S32 e32 C32 F32 => ?_)
        refine x_iinc (-1) rfl rfl ?_
        refine x_X_lo (lo' := [(0, x_R 92), (1, x_R 4), (2, x_I _), (3, x_I _), (4, x_I _), (5, x_I _), (6, x_I _)]) ⟨rfl, rfl, rfl, rfl, rfl, rfl, rfl, trivial⟩ ?_
        refine x_goto ?_
        refine x_G_lo (lo' := [(0, x_R 92), (1, x_R 4), (2, x_I _), (3, x_I _)]) ⟨rfl, rfl, rfl, rfl, trivial⟩ ?_
        have pe := (ms w.toNat (by omega) (by omega))
        have kb := y_ms_V hP m1 m2 tr ms _ w.toNat rfl (by omega)
        refine ih _ (by omega) (w + -1) S32 rfl (by omega) (by omega) C32 (fun c m h1 h2 => ?_) (fun v hv1 hv2 => ?_)
        · rw [x_up_nr e32 h2, x_up_nr e29 h1]; exact fr c m h1 h2
        · by_cases cv : v = w.toNat
          · subst cv
            rw [x_up_nr e32 (by decide), x_up_at e29, x_up_at e32]
            have pq := pe.1
            unfold y_pq at pq
            have kq : y_kk (σ 93) P V w.toNat = 0 := by unfold y_kk; rw [if_pos (by omega)]; try omega
            rw [if_pos (by omega)] at pq
            have vq := pe.2
            rw [kq] at vq kb
            refine ⟨by omega, ?_⟩
            rw [vq]
            have xe := y_PG_e hA (m := a2) (f := σ 93 w.toNat) (e := 0) m1 m2 (by omega) (by omega) (by omega) (by omega)
            rw [← xe]
            have ee : S29 8 ((a2 * 5 + v30) * 4 + 0).toNat = σ (4 + 4) ((a2 * 5 + σ 93 w.toNat) * 4 + 0).toNat := by rw [f30]; exact (x_up_nr e29 (by decide)).trans (fr _ _ (by decide) (by decide))
            omega
          · rw [x_up_nr e32 (by decide), x_up_ne e29 (fun z => cv z.2), x_up_ne e32 (fun z => cv z.2), x_up_nr e29 (by decide)]
            exact hv v (by omega) hv2
theorem kx_73_92_4 {E : q_E} {σ : x_S} {Q : Option q_V → x_S → Prop} {a2 : Int} (m1 : 0 ≤ a2) (m2 : a2 ≤ 1) (C0 : y_CI σ) {A : Nat → Int} (hP : y_PI A) (hA : y_AG (y_cv σ 4) A) {n : Nat} (hn : σ 92 3 = n) (n40 : n ≤ 40) {P V : Nat → Int} (tr : y_tr (σ 93) n) (ms : y_ms A a2 (σ 93) n P V) (k : ∀ τ, y_CI τ → (∀ c m, c ≠ 94 → c ≠ 95 → τ c m = σ c m) → (∀ v : Nat, v < n → τ 94 v = P v - v ∧ τ 95 v = V v) → Q none τ) : x_P E 73 [x_R 92, x_R 4, x_I a2] σ Q := by
  refine x_Mt e_73 (h_73 E) (Nat.le_of_ble_eq_true rfl) t_73 rfl ?_
  refine x_blk (b := 0) (a_73 E) rfl ?_
  unfold b_73_0
  refine x_aload rfl ?_
  refine x_getIG y_f92_3 C0 ?_
  intro g1a g1b
  refine x_push 1 rfl ?_
  refine x_isub ?_
  refine x_istore ?_
  refine x_fall ?_
  refine x_G_lo (lo' := [(0, x_R 92), (1, x_R 4), (2, x_I _), (3, x_I _)]) ⟨rfl, rfl, rfl, rfl, trivial⟩ ?_
  exact kx_73_92_4_b5 m1 m2 C0 hP hA hn n40 tr ms k _ (σ 92 3 - 1) σ rfl (by omega) (by omega) C0 (fun _ _ _ _ => rfl) (fun v h1 h2 => absurd h2 (by omega))
theorem kx_73_96_4_b5 {E : q_E} {σ : x_S} {Q : Option q_V → x_S → Prop} {a2 : Int} (m1 : 0 ≤ a2) (m2 : a2 ≤ 1) (C0 : y_CI σ) {A : Nat → Int} (hP : y_PI A) (hA : y_AG (y_cv σ 4) A) {n : Nat} (hn : σ 96 3 = n) (n40 : n ≤ 40) {P V : Nat → Int} (tr : y_tr (σ 97) n) (ms : y_ms A a2 (σ 97) n P V) (k : ∀ τ, y_CI τ → (∀ c m, c ≠ 98 → c ≠ 99 → τ c m = σ c m) → (∀ v : Nat, v < n → τ 98 v = P v - v ∧ τ 99 v = V v) → Q none τ) : ∀ (N : Nat) (w : Int) (τ : x_S), (w + 1).toNat = N → -1 ≤ w → w < n → y_CI τ → (∀ c m, c ≠ 98 → c ≠ 99 → τ c m = σ c m) → (∀ v : Nat, w < v → v < n → τ 98 v = P v - v ∧ τ 99 v = V v) → x_G E m_73 Q (t_73 5) [(0, x_R 96), (1, x_R 4), (2, x_I a2), (3, x_I w)] [] τ := by
  intro N
  induction N using Nat.strongRecOn with
  | ind N ih =>
    intro w τ hN i1 i2 C fr hv
    have n3 : τ 96 3 = n := (fr _ _ (by decide) (by decide)).trans hn
    have lt : 0 ≤ w → 0 ≤ σ 97 w.toNat ∧ σ 97 w.toNat ≤ 4 := fun h => ⟨(tr.1 w.toNat (by omega)).1, (tr.1 w.toNat (by omega)).2.1⟩
    have k1 : 0 ≤ w ∧ 2 ≤ σ 97 w.toNat → _ := fun h => y_mp_c tr ms (v := w.toNat) (by omega) (by omega) h.2
    refine x_blk (b := 5) (a_73 E) rfl ?_
    unfold b_73_5
    refine x_iload rfl ?_
    refine x_if_lt (by omega) (by omega) (fun z1 => ?_) (fun z1 => ?_)
    · skip
      refine x_blk (b := 1) (a_73 E) rfl ?_
      unfold b_73_1
      refine x_vret ?_
      exact k τ C fr (fun v h => hv v (by omega) h)
    · skip
      refine x_push 1 rfl ?_
      refine x_istore ?_
      refine x_push 0 rfl ?_
      refine x_istore ?_
      refine x_X_lo (lo' := [(0, x_R 96), (1, x_R 4), (2, x_I _), (3, x_I _), (4, x_I _), (5, x_I _)]) ⟨rfl, rfl, rfl, rfl, rfl, rfl, trivial⟩ ?_
      refine x_push 0 rfl ?_
      refine x_istore ?_
      refine x_fall ?_
      refine x_blk (b := 4) (a_73 E) rfl ?_
      unfold b_73_4
      refine x_iload rfl ?_
      refine x_aload rfl ?_
      refine x_getR (r := 96) rfl (by decide) (by decide) rfl ?_
      refine x_iload rfl ?_
      refine x_ialdX y_a97 C (by omega) (by omega) (fun v2 v2x v2a v2b => ?_)
      have f2 : v2 = σ 97 w.toNat := by rw [v2x]; exact fr _ _ (by decide) (by decide)
      refine x_cS (fun _ => rfl) (Nat.le_of_ble_eq_true rfl) ?_
      refine ke_7 (by omega) (by omega) (fun v3 v3a v3b v3c => ?_)
      refine x_icmp_ge (by omega) (by omega) (by omega) (by omega) (fun z4 => ?_) (fun z4 => ?_)
      · skip
        refine x_iload rfl ?_
        refine x_iload rfl ?_
        refine x_iadd ?_
        refine x_istore ?_
        refine x_X_lo (lo' := [(0, x_R 96), (1, x_R 4), (2, x_I _), (3, x_I _), (4, x_I _), (5, x_I _), (6, x_I _), (7, x_I _)]) ⟨rfl, rfl, rfl, rfl, rfl, rfl, rfl, rfl, trivial⟩ ?_
        refine x_iload rfl ?_
        refine x_aload rfl ?_
        refine x_getIG y_f96_3 C ?_
        intro g5a g5b
        refine x_cS (fun _ => rfl) (Nat.le_of_ble_eq_true rfl) ?_
        have c1 := k1 (by omega)
        refine sf_2 (by omega) (by omega) (by omega) (by omega) C (fun y6 => ?_) (fun y6 => absurd (by omega) y6)
        refine x_if_eq (by omega) (by omega) (fun z => absurd z (by omega)) (fun z7 => ?_)
        refine x_push 2 rfl ?_
        refine x_iload rfl ?_
        refine x_imul ?_
        refine x_aload rfl ?_
        refine x_getR (r := 96) rfl (by decide) (by decide) rfl ?_
        refine x_iload rfl ?_
        refine x_ialdX y_a99 C (by omega) (by omega) (fun v8 v8x v8a v8b => ?_)
        rw [show (w + 1).toNat = w.toNat + 1 by omega, (hv (w.toNat + 1) (by omega) (by omega)).2] at v8x
        refine x_iadd ?_
        refine x_istore ?_
        refine x_iload rfl ?_
        refine x_aload rfl ?_
        refine x_getR (r := 96) rfl (by decide) (by decide) rfl ?_
        refine x_iload rfl ?_
        refine x_ialdX y_a98 C (by omega) (by omega) (fun v9 v9x v9a v9b => ?_)
        rw [show (w + 1).toNat = w.toNat + 1 by omega, (hv (w.toNat + 1) (by omega) (by omega)).1] at v9x
        refine x_iadd ?_
        refine x_istore ?_
        refine x_X_lo (lo' := [(0, x_R 96), (1, x_R 4), (2, x_I _), (3, x_I _), (4, x_I _), (5, x_I _), (6, x_I _), (7, x_I _)]) ⟨rfl, rfl, rfl, rfl, rfl, rfl, rfl, rfl, trivial⟩ ?_
        refine x_fall ?_
        refine x_blk (b := 3) (a_73 E) rfl ?_
        unfold b_73_3
        refine x_iinc 1 rfl rfl ?_
        refine x_goto ?_
        refine x_blk (b := 4) (a_73 E) rfl ?_
        unfold b_73_4
        refine x_iload rfl ?_
        refine x_aload rfl ?_
        refine x_getR (r := 96) rfl (by decide) (by decide) rfl ?_
        refine x_iload rfl ?_
        refine x_ialdX y_a97 C (by omega) (by omega) (fun v10 v10x v10a v10b => ?_)
        have f10 : v10 = σ 97 w.toNat := by rw [v10x]; exact fr _ _ (by decide) (by decide)
        refine x_cS (fun _ => rfl) (Nat.le_of_ble_eq_true rfl) ?_
        refine ke_7 (by omega) (by omega) (fun v11 v11a v11b v11c => ?_)
        refine x_icmp_ge (by omega) (by omega) (by omega) (by omega) (fun z12 => ?_) (fun z12 => ?_)
        · skip
          refine x_iload rfl ?_
          refine x_iload rfl ?_
          refine x_iadd ?_
          refine x_istore ?_
          refine x_X_lo (lo' := [(0, x_R 96), (1, x_R 4), (2, x_I _), (3, x_I _), (4, x_I _), (5, x_I _), (6, x_I _), (7, x_I _)]) ⟨rfl, rfl, rfl, rfl, rfl, rfl, rfl, rfl, trivial⟩ ?_
          refine x_iload rfl ?_
          refine x_aload rfl ?_
          refine x_getIG y_f96_3 C ?_
          intro g13a g13b
          refine x_cS (fun _ => rfl) (Nat.le_of_ble_eq_true rfl) ?_
          have c2 := c1.2.2.2 (by omega)
          refine sf_2 (by omega) (by omega) (by omega) (by omega) C (fun y14 => ?_) (fun y14 => absurd (by omega) y14)
          refine x_if_eq (by omega) (by omega) (fun z => absurd z (by omega)) (fun z15 => ?_)
          refine x_push 2 rfl ?_
          refine x_iload rfl ?_
          refine x_imul ?_
          refine x_aload rfl ?_
          refine x_getR (r := 96) rfl (by decide) (by decide) rfl ?_
          refine x_iload rfl ?_
          refine x_ialdX y_a99 C (by omega) (by omega) (fun v16 v16x v16a v16b => ?_)
          rw [show (w + (1 + v9)).toNat = (P (w.toNat + 1)).toNat by omega, (hv (P (w.toNat + 1)).toNat (by omega) (by omega)).2] at v16x
          refine x_iadd ?_
          refine x_istore ?_
          refine x_iload rfl ?_
          refine x_aload rfl ?_
          refine x_getR (r := 96) rfl (by decide) (by decide) rfl ?_
          refine x_iload rfl ?_
          refine x_ialdX y_a98 C (by omega) (by omega) (fun v17 v17x v17a v17b => ?_)
          rw [show (w + (1 + v9)).toNat = (P (w.toNat + 1)).toNat by omega, (hv (P (w.toNat + 1)).toNat (by omega) (by omega)).1] at v17x
          refine x_iadd ?_
          refine x_istore ?_
          refine x_X_lo (lo' := [(0, x_R 96), (1, x_R 4), (2, x_I _), (3, x_I _), (4, x_I _), (5, x_I _), (6, x_I _), (7, x_I _)]) ⟨rfl, rfl, rfl, rfl, rfl, rfl, rfl, rfl, trivial⟩ ?_
          refine x_fall ?_
          refine x_blk (b := 3) (a_73 E) rfl ?_
          unfold b_73_3
          refine x_iinc 1 rfl rfl ?_
          refine x_goto ?_
          refine x_blk (b := 4) (a_73 E) rfl ?_
          unfold b_73_4
          refine x_iload rfl ?_
          refine x_aload rfl ?_
          refine x_getR (r := 96) rfl (by decide) (by decide) rfl ?_
          refine x_iload rfl ?_
          refine x_ialdX y_a97 C (by omega) (by omega) (fun v18 v18x v18a v18b => ?_)
          have f18 : v18 = σ 97 w.toNat := by rw [v18x]; exact fr _ _ (by decide) (by decide)
          refine x_cS (fun _ => rfl) (Nat.le_of_ble_eq_true rfl) ?_
          refine ke_7 (by omega) (by omega) (fun v19 v19a v19b v19c => ?_)
          refine x_icmp_ge (by omega) (by omega) (by omega) (by omega) (fun z => absurd z (by omega)) (fun z20 => ?_)
          refine x_blk (b := 2) (a_73 E) rfl ?_
          unfold b_73_2
          refine x_aload rfl ?_
          refine x_getR (r := 96) rfl (by decide) (by decide) rfl ?_
          refine x_iload rfl ?_
          refine x_iload rfl ?_
          refine x_astG y_a98 C (by decide) (y_fr_rf (lo := 0) (hi := 138)) (by omega) (by omega) (by omega) (by omega) (fun S21 e21 C21 F21 => ?_)
          refine x_aload rfl ?_
          refine x_getR (r := 96) rfl (by decide) (by decide) rfl ?_
          refine x_iload rfl ?_
          refine x_aload rfl ?_
          refine x_iload rfl ?_
          refine x_aload rfl ?_
          refine x_getR (r := 96) rfl (by decide) (by decide) rfl ?_
          refine x_iload rfl ?_
          refine x_ialdX y_a97 C21 (by omega) (by omega) (fun v22 v22x v22a v22b => ?_)
          have f22 : v22 = σ 97 w.toNat := by rw [v22x]; exact (x_up_nr e21 (by decide)).trans (fr _ _ (by decide) (by decide))
          refine x_iload rfl ?_
          refine x_cV (fun _ => rfl) rfl (by decide) (Nat.le_of_ble_eq_true rfl) ?_
          refine kx_30_4 (by omega) (by omega) (by omega) (by omega) (by omega) (by omega) C21 (fun v23 v23a v23b v23c => ?_)
          refine x_astG y_a99 C21 (by decide) F21 (by omega) (by omega) (by omega) (by omega) (fun S24 e24 C24 F24 => ?_)
          refine x_iinc (-1) rfl rfl ?_
          refine x_X_lo (lo' := [(0, x_R 96), (1, x_R 4), (2, x_I _), (3, x_I _), (4, x_I _), (5, x_I _), (6, x_I _), (7, x_I _)]) ⟨rfl, rfl, rfl, rfl, rfl, rfl, rfl, rfl, trivial⟩ ?_
          refine x_goto ?_
          refine x_G_lo (lo' := [(0, x_R 96), (1, x_R 4), (2, x_I _), (3, x_I _)]) ⟨rfl, rfl, rfl, rfl, trivial⟩ ?_
          have pe := (ms w.toNat (by omega) (by omega))
          have kb := y_ms_V hP m1 m2 tr ms _ w.toNat rfl (by omega)
          refine ih _ (by omega) (w + -1) S24 rfl (by omega) (by omega) C24 (fun c m h1 h2 => ?_) (fun v hv1 hv2 => ?_)
          · rw [x_up_nr e24 h2, x_up_nr e21 h1]; exact fr c m h1 h2
          · by_cases cv : v = w.toNat
            · subst cv
              rw [x_up_nr e24 (by decide), x_up_at e21, x_up_at e24]
              have pq := pe.1
              unfold y_pq at pq
              have kq : y_kk (σ 97) P V w.toNat = (2 * (2 * 0 + v8) + v16) := by unfold y_kk; rw [if_neg (by omega), if_neg (by omega)]; try omega
              rw [if_neg (by omega), if_neg (by omega)] at pq
              have vq := pe.2
              rw [kq] at vq kb
              refine ⟨by omega, ?_⟩
              rw [vq]
              have xe := y_PG_e hA (m := a2) (f := σ 97 w.toNat) (e := (2 * (2 * 0 + v8) + v16)) m1 m2 (by omega) (by omega) (by omega) (by omega)
              rw [← xe]
              have ee : S21 8 ((a2 * 5 + v22) * 4 + (2 * (2 * 0 + v8) + v16)).toNat = σ (4 + 4) ((a2 * 5 + σ 97 w.toNat) * 4 + (2 * (2 * 0 + v8) + v16)).toNat := by rw [f22]; exact (x_up_nr e21 (by decide)).trans (fr _ _ (by decide) (by decide))
              omega
            · rw [x_up_nr e24 (by decide), x_up_ne e21 (fun z => cv z.2), x_up_ne e24 (fun z => cv z.2), x_up_nr e21 (by decide)]
              exact hv v (by omega) hv2
        · skip
          refine x_blk (b := 2) (a_73 E) rfl ?_
          unfold b_73_2
          refine x_aload rfl ?_
          refine x_getR (r := 96) rfl (by decide) (by decide) rfl ?_
          refine x_iload rfl ?_
          refine x_iload rfl ?_
          refine x_astG y_a98 C (by decide) (y_fr_rf (lo := 0) (hi := 138)) (by omega) (by omega) (by omega) (by omega) (fun S25 e25 C25 F25 => ?_)
          refine x_aload rfl ?_
          refine x_getR (r := 96) rfl (by decide) (by decide) rfl ?_
          refine x_iload rfl ?_
          refine x_aload rfl ?_
          refine x_iload rfl ?_
          refine x_aload rfl ?_
          refine x_getR (r := 96) rfl (by decide) (by decide) rfl ?_
          refine x_iload rfl ?_
          refine x_ialdX y_a97 C25 (by omega) (by omega) (fun v26 v26x v26a v26b => ?_)
          have f26 : v26 = σ 97 w.toNat := by rw [v26x]; exact (x_up_nr e25 (by decide)).trans (fr _ _ (by decide) (by decide))
          refine x_iload rfl ?_
          refine x_cV (fun _ => rfl) rfl (by decide) (Nat.le_of_ble_eq_true rfl) ?_
          refine kx_30_4 (by omega) (by omega) (by omega) (by omega) (by omega) (by omega) C25 (fun v27 v27a v27b v27c => ?_)
          refine x_astG y_a99 C25 (by decide) F25 (by omega) (by omega) (by omega) (by omega) (fun S28 e28 C28 F28 => ?_)
          refine x_iinc (-1) rfl rfl ?_
          refine x_X_lo (lo' := [(0, x_R 96), (1, x_R 4), (2, x_I _), (3, x_I _), (4, x_I _), (5, x_I _), (6, x_I _), (7, x_I _)]) ⟨rfl, rfl, rfl, rfl, rfl, rfl, rfl, rfl, trivial⟩ ?_
          refine x_goto ?_
          refine x_G_lo (lo' := [(0, x_R 96), (1, x_R 4), (2, x_I _), (3, x_I _)]) ⟨rfl, rfl, rfl, rfl, trivial⟩ ?_
          have pe := (ms w.toNat (by omega) (by omega))
          have kb := y_ms_V hP m1 m2 tr ms _ w.toNat rfl (by omega)
          refine ih _ (by omega) (w + -1) S28 rfl (by omega) (by omega) C28 (fun c m h1 h2 => ?_) (fun v hv1 hv2 => ?_)
          · rw [x_up_nr e28 h2, x_up_nr e25 h1]; exact fr c m h1 h2
          · by_cases cv : v = w.toNat
            · subst cv
              rw [x_up_nr e28 (by decide), x_up_at e25, x_up_at e28]
              have pq := pe.1
              unfold y_pq at pq
              have kq : y_kk (σ 97) P V w.toNat = (2 * 0 + v8) := by unfold y_kk; rw [if_neg (by omega), if_pos (by omega)]; try omega
              rw [if_neg (by omega), if_pos (by omega)] at pq
              have vq := pe.2
              rw [kq] at vq kb
              refine ⟨by omega, ?_⟩
              rw [vq]
              have xe := y_PG_e hA (m := a2) (f := σ 97 w.toNat) (e := (2 * 0 + v8)) m1 m2 (by omega) (by omega) (by omega) (by omega)
              rw [← xe]
              have ee : S25 8 ((a2 * 5 + v26) * 4 + (2 * 0 + v8)).toNat = σ (4 + 4) ((a2 * 5 + σ 97 w.toNat) * 4 + (2 * 0 + v8)).toNat := by rw [f26]; exact (x_up_nr e25 (by decide)).trans (fr _ _ (by decide) (by decide))
              omega
            · rw [x_up_nr e28 (by decide), x_up_ne e25 (fun z => cv z.2), x_up_ne e28 (fun z => cv z.2), x_up_nr e25 (by decide)]
              exact hv v (by omega) hv2
      · skip
        refine x_blk (b := 2) (a_73 E) rfl ?_
        unfold b_73_2
        refine x_aload rfl ?_
        refine x_getR (r := 96) rfl (by decide) (by decide) rfl ?_
        refine x_iload rfl ?_
        refine x_iload rfl ?_
        refine x_astG y_a98 C (by decide) (y_fr_rf (lo := 0) (hi := 138)) (by omega) (by omega) (by omega) (by omega) (fun S29 e29 C29 F29 => ?_)
        refine x_aload rfl ?_
        refine x_getR (r := 96) rfl (by decide) (by decide) rfl ?_
        refine x_iload rfl ?_
        refine x_aload rfl ?_
        refine x_iload rfl ?_
        refine x_aload rfl ?_
        refine x_getR (r := 96) rfl (by decide) (by decide) rfl ?_
        refine x_iload rfl ?_
        refine x_ialdX y_a97 C29 (by omega) (by omega) (fun v30 v30x v30a v30b => ?_)
        have f30 : v30 = σ 97 w.toNat := by rw [v30x]; exact (x_up_nr e29 (by decide)).trans (fr _ _ (by decide) (by decide))
        refine x_iload rfl ?_
        refine x_cV (fun _ => rfl) rfl (by decide) (Nat.le_of_ble_eq_true rfl) ?_
        refine kx_30_4 (by omega) (by omega) (by omega) (by omega) (by omega) (by omega) C29 (fun v31 v31a v31b v31c => ?_)
        refine x_astG y_a99 C29 (by decide) F29 (by omega) (by omega) (by omega) (by omega) (fun S32 e32 C32 F32 => ?_)
        refine x_iinc (-1) rfl rfl ?_
        refine x_X_lo (lo' := [(0, x_R 96), (1, x_R 4), (2, x_I _), (3, x_I _), (4, x_I _), (5, x_I _), (6, x_I _)]) ⟨rfl, rfl, rfl, rfl, rfl, rfl, rfl, trivial⟩ ?_
        refine x_goto ?_
        refine x_G_lo (lo' := [(0, x_R 96), (1, x_R 4), (2, x_I _), (3, x_I _)]) ⟨rfl, rfl, rfl, rfl, trivial⟩ ?_
        have pe := (ms w.toNat (by omega) (by omega))
        have kb := y_ms_V hP m1 m2 tr ms _ w.toNat rfl (by omega)
        refine ih _ (by omega) (w + -1) S32 rfl (by omega) (by omega) C32 (fun c m h1 h2 => ?_) (fun v hv1 hv2 => ?_)
        · rw [x_up_nr e32 h2, x_up_nr e29 h1]; exact fr c m h1 h2
        · by_cases cv : v = w.toNat
          · subst cv
            rw [x_up_nr e32 (by decide), x_up_at e29, x_up_at e32]
            have pq := pe.1
            unfold y_pq at pq
            have kq : y_kk (σ 97) P V w.toNat = 0 := by unfold y_kk; rw [if_pos (by omega)]; try omega
            rw [if_pos (by omega)] at pq
            have vq := pe.2
            rw [kq] at vq kb
            refine ⟨by omega, ?_⟩
            rw [vq]
            have xe := y_PG_e hA (m := a2) (f := σ 97 w.toNat) (e := 0) m1 m2 (by omega) (by omega) (by omega) (by omega)
            rw [← xe]
            have ee : S29 8 ((a2 * 5 + v30) * 4 + 0).toNat = σ (4 + 4) ((a2 * 5 + σ 97 w.toNat) * 4 + 0).toNat := by rw [f30]; exact (x_up_nr e29 (by decide)).trans (fr _ _ (by decide) (by decide))
            omega
          · rw [x_up_nr e32 (by decide), x_up_ne e29 (fun z => cv z.2), x_up_ne e32 (fun z => cv z.2), x_up_nr e29 (by decide)]
            exact hv v (by omega) hv2
theorem kx_73_96_4 {E : q_E} {σ : x_S} {Q : Option q_V → x_S → Prop} {a2 : Int} (m1 : 0 ≤ a2) (m2 : a2 ≤ 1) (C0 : y_CI σ) {A : Nat → Int} (hP : y_PI A) (hA : y_AG (y_cv σ 4) A) {n : Nat} (hn : σ 96 3 = n) (n40 : n ≤ 40) {P V : Nat → Int} (tr : y_tr (σ 97) n) (ms : y_ms A a2 (σ 97) n P V) (k : ∀ τ, y_CI τ → (∀ c m, c ≠ 98 → c ≠ 99 → τ c m = σ c m) → (∀ v : Nat, v < n → τ 98 v = P v - v ∧ τ 99 v = V v) → Q none τ) : x_P E 73 [x_R 96, x_R 4, x_I a2] σ Q := by
  refine x_Mt e_73 (h_73 E) (Nat.le_of_ble_eq_true rfl) t_73 rfl ?_
  refine x_blk (b := 0) (a_73 E) rfl ?_
  unfold b_73_0
  refine x_aload rfl ?_
  refine x_getIG y_f96_3 C0 ?_
  intro g1a g1b
  refine x_push 1 rfl ?_
  refine x_isub ?_
  refine x_istore ?_
  refine x_fall ?_
  refine x_G_lo (lo' := [(0, x_R 96), (1, x_R 4), (2, x_I _), (3, x_I _)]) ⟨rfl, rfl, rfl, rfl, trivial⟩ ?_
  exact kx_73_96_4_b5 m1 m2 C0 hP hA hn n40 tr ms k _ (σ 96 3 - 1) σ rfl (by omega) (by omega) C0 (fun _ _ _ _ => rfl) (fun v h1 h2 => absurd h2 (by omega))
