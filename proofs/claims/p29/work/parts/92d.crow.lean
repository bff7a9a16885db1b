/-- a piece that can't be read, or that leaves no room: no row -/
theorem y_rw_F {g : Int → Int} {f : Int} {n : Nat} {d k room : Int} (hd : 0 < d) (hr : room = (n : Int) + 1 - d) (h : ¬ ∃ p k1, y_pc1 g f k = some (p, k1) ∧ (p ≤ 9 → y_ch p ≤ room)) : y_rw g f (n + 1) d k = none := by
  cases hp : y_pc1 g f k with
  | none => exact y_rw_x hd hp
  | some q =>
    obtain ⟨p, k1⟩ := q
    rw [y_rw_s hd hp]
    cases hr2 : y_rw g f n (d + y_c9 p - 1) k1 with
    | none => rfl
    | some q =>
      obtain ⟨l, e⟩ := q
      have hl := y_rw_len hr2
      refine absurd ⟨p, k1, hp, fun h9 => ?_⟩ h
      have : y_c9 p = y_ch p := if_neg (by omega)
      omega
/-- only a row, and the class's place in its text, have changed -/
def y_sr (r : Nat) (σ τ : x_S) : Prop := ∀ q k, q ≠ r → (q = 1 → k ≠ 3 ∧ k ≠ 4) → τ q k = σ q k
theorem y_sr_rf {r : Nat} {σ : x_S} : y_sr r σ σ := fun _ _ _ _ => rfl
theorem y_sr_tr {r : Nat} {a b c : x_S} (h1 : y_sr r a b) (h2 : y_sr r b c) : y_sr r a c := fun q k x y => (h2 q k x y).trans (h1 q k x y)
theorem y_sr_sc {r : Nat} {σ τ : x_S} (h : y_sc σ τ) : y_sr r σ τ := fun q k _ y => h q k y
theorem y_sr_up {r m : Nat} {σ τ : x_S} {v : Int} (e : τ = x_up σ r m v) : y_sr r σ τ := fun q k x _ => x_up_nr e x
theorem y_sr_x {r : Nat} {σ τ : x_S} (hr : r ≠ 1 ∧ r ≠ 2) (h : y_sr r σ τ) : y_cx τ = y_cx σ := by
  funext k
  unfold y_cx
  rw [h 1 2 (fun z => hr.1 z.symm) (by decide), h 2 _ (fun z => hr.2 z.symm) (fun z => absurd z (by decide))]
def y_lnk (x : Option (List Int × Int)) (p : List Int) : Option (List Int × Int) := match x with
  | none => none
  | some (l, e) => some (p ++ l, e)
theorem y_lnk_s {g : Int → Int} {f : Int} {n : Nat} {d k p k1 : Int} {l : List Int} (hd : 0 < d) (hp : y_pc1 g f k = some (p, k1)) : y_lnk (y_rw g f (n + 1) d k) l = y_lnk (y_rw g f n (d + y_c9 p - 1) k1) (l ++ [p]) := by
  rw [y_rw_s hd hp]
  cases y_rw g f n (d + y_c9 p - 1) k1 with
  | none => rfl
  | some q =>
    obtain ⟨m, e⟩ := q
    show some (l ++ (p :: m), e) = some (l ++ [p] ++ m, e)
    rw [List.append_assoc]
    rfl
theorem y_gl {l : List Int} {x : Int} : (l ++ [x]).getD l.length 0 = x := by
  rw [List.getD_eq_getElem?_getD, List.getElem?_append_right (Nat.le_refl _), Nat.sub_self]
  rfl
theorem y_gl2 {l m : List Int} {i : Nat} (h : i < l.length) : (l ++ m).getD i 0 = l.getD i 0 := by
  rw [List.getD_eq_getElem?_getD, List.getElem?_append_left h, ← List.getD_eq_getElem?_getD]
theorem ke_16_1_3_b2 {E : q_E} {σ : x_S} {Q : Option q_V → x_S → Prop} {a2 a3 a4 : Int} (a2l : 0 ≤ a2) (a3l : 1 ≤ a3) (a3h : a3 ≤ 11) (a23 : a2 + a3 ≤ 12) (a4l : -1 ≤ a4) (a4h : a4 ≤ 4) (C0 : y_CI σ) (kS : ∀ l e, (if σ 1 4 = 0 then y_rw (y_cx σ) a4 a3.toNat 1 (σ 1 3) else none) = some (l, e) → ∀ τ, y_CI τ → y_sr 3 σ τ → τ 1 3 = e → τ 1 4 = 0 → (∀ i, i < l.length → τ 3 (a2.toNat + i) = l.getD i 0) → (∀ m, m < a2.toNat → τ 3 m = σ 3 m) → Q (some (x_I l.length)) τ) (kF : (if σ 1 4 = 0 then y_rw (y_cx σ) a4 a3.toNat 1 (σ 1 3) else none) = none → ∀ τ v, y_CI τ → y_sr 3 σ τ → τ 1 4 = 1 → (∀ m, m < a2.toNat → τ 3 m = σ 3 m) → 0 ≤ v → v ≤ 11 → Q (some (x_I v)) τ) : ∀ (N : Nat) (p d : Int) (pre : List Int) (τ : x_S), (a3 - p).toNat = N → (pre.length : Int) = p → 0 ≤ p → p ≤ a3 → 0 ≤ d → d ≤ 13 → y_sr 3 σ τ → ((τ 1 4 = 1 ∧ (if σ 1 4 = 0 then y_rw (y_cx σ) a4 a3.toNat 1 (σ 1 3) else none) = none) ∨ (τ 1 4 = 0 ∧ d ≤ a3 - p ∧ (if σ 1 4 = 0 then y_rw (y_cx σ) a4 a3.toNat 1 (σ 1 3) else none) = y_lnk (y_rw (y_cx σ) a4 (a3 - p).toNat d (τ 1 3)) pre)) → (∀ i, i < pre.length → τ 3 (a2.toNat + i) = pre.getD i 0) → (∀ m, m < a2.toNat → τ 3 m = σ 3 m) → y_CI τ → y_fr σ τ → x_G E m_16 Q (t_16 2) [(0, x_R 1), (1, x_R 3), (2, x_I a2), (3, x_I a3), (4, x_I a4), (5, x_I p), (6, x_I d)] [] τ := by
  have c4 : 0 ≤ σ 1 4 ∧ σ 1 4 ≤ 1 := C0 1 4 (by decide) (by decide) (by decide)
  intro N
  induction N using Nat.strongRecOn with
  | ind N ih =>
    intro p d pre τ hN hpl p1 p2 d1 d2 hsr hD hv hw0 C F
    have t4 : 0 ≤ τ 1 4 ∧ τ 1 4 ≤ 1 := C 1 4 (by decide) (by decide) (by decide)
    refine x_blk (b := 2) (a_16 E) rfl ?_
    unfold b_16_2
    refine x_iload rfl ?_
    refine x_if_le (by omega) (by omega) (fun z1 => ?_) (fun z1 => ?_)
    · skip
      refine x_blk (b := 1) (a_16 E) rfl ?_
      unfold b_16_1
      refine x_iload rfl ?_
      refine x_iret ?_
      rcases hD with hD | hD
      · exact kF hD.2 τ _ C hsr hD.1 hw0 (by omega) (by omega)
      · have hd0 : d ≤ 0 := by omega
        have hR : (if σ 1 4 = 0 then y_rw (y_cx σ) a4 a3.toNat 1 (σ 1 3) else none) = some (pre, τ 1 3) := by
          rw [hD.2.2, y_rw_0 hd0]
          show some (pre ++ [], τ 1 3) = _
          rw [List.append_nil]
        refine x_fin (b := pre.length) (by omega) ?_
        exact kS pre _ hR τ C hsr rfl hD.1 hv hw0
    · skip
      refine x_iload rfl ?_
      refine x_iload rfl ?_
      refine x_icmp_ge (by omega) (by omega) (by omega) (by omega) (fun z2 => ?_) (fun z2 => ?_)
      · skip
        refine x_iload rfl ?_
        refine x_iload rfl ?_
        refine x_iadd ?_
        refine x_aload rfl ?_
        refine x_lenG (n := 12) (L := 12) rfl (by decide) rfl (by decide) rfl ?_
        refine x_icmp_ge (by omega) (by omega) (by omega) (by omega) (fun z3 => ?_) (fun z3 => ?_)
        · skip
          refine x_aload rfl ?_
          refine x_getIG y_f1_4 C ?_
          intro g4a g4b
          refine x_if_ne (by omega) (by omega) (fun z5 => ?_) (fun z5 => ?_)
          · skip
            refine x_aload rfl ?_
            refine x_iload rfl ?_
            refine x_iload rfl ?_
            refine x_iload rfl ?_
            refine x_isub ?_
            refine x_iload rfl ?_
            refine x_isub ?_
            refine x_cV (fun _ => rfl) rfl (by decide) (Nat.le_of_ble_eq_true rfl) ?_
            refine ke_13_1 (by omega) (by omega) (by omega) (by omega) C (fun b6 k6 h6 c6 r6 S6 C6 f6 p6 q6 => ?_) (fun n6 S6 b6 C6 f6 p6 q6 va6 vb6 => ?_)
            · skip
              have bb6 := (y_pc1_ok c6).1
              have F6 := y_fr_tr F (y_sc_fr f6)
              refine x_istore ?_
              refine x_aload rfl ?_
              refine x_iload rfl ?_
              refine x_iload rfl ?_
              refine x_iadd ?_
              refine x_iload rfl ?_
              refine x_astG y_a3 C6 (by decide) F6 (by omega) (by omega) (by omega) (by omega) (fun S7 e7 C7 F7 => ?_)
              refine x_iload rfl ?_
              refine x_iload rfl ?_
              refine x_cS (fun _ => rfl) (Nat.le_of_ble_eq_true rfl) ?_
              refine ke_7 (by omega) (by omega) (fun v8 v8a v8b v8c => ?_)
              refine x_push 1 rfl ?_
              refine x_isub ?_
              refine x_iadd ?_
              refine x_istore ?_
              refine x_X_lo (lo' := [(0, x_R 1), (1, x_R 3), (2, x_I _), (3, x_I _), (4, x_I _), (5, x_I _), (6, x_I _), (7, x_I _)]) ⟨rfl, rfl, rfl, rfl, rfl, rfl, rfl, rfl, trivial⟩ ?_
              refine x_iinc 1 rfl rfl ?_
              refine x_goto ?_
              refine x_G_lo (lo' := [(0, x_R 1), (1, x_R 3), (2, x_I _), (3, x_I _), (4, x_I _), (5, x_I _), (6, x_I _)]) ⟨rfl, rfl, rfl, rfl, rfl, rfl, rfl, trivial⟩ ?_
              have hcc : y_c9 b6 = v8 := by
                have h1 := y_c9v b6
                have h2 := y_chx b6
                omega
              have hx := y_sr_x (r := 3) (by decide) hsr
              refine ih _ (by omega) _ _ (pre ++ [b6]) S7 rfl (by rw [List.length_append]; simp; omega) (by omega) (by omega) (by omega) (by omega) (y_sr_tr (y_sr_tr hsr (y_sr_sc f6)) (y_sr_up e7)) ?_ (fun i hi => ?_) (fun m hm => ?_) C7 F7
              · have q4 : S7 1 4 = 0 := (x_up_nr e7 (by decide)).trans q6
                have q3 : S7 1 3 = k6 := (x_up_nr e7 (by decide)).trans p6
                refine Or.inr ⟨q4, ?_, ?_⟩
                · have h9 := y_c9v b6
                  have h8 := y_chx b6
                  omega
                · rcases hD with hD | hD
                  · omega
                  · rw [hD.2.2, q3]
                    rw [hx] at c6
                    obtain ⟨w, hw⟩ : ∃ w : Nat, (a3 - p).toNat = w + 1 := ⟨(a3 - p).toNat - 1, by omega⟩
                    rw [hw, show (a3 - (p + 1)).toNat = w by omega, y_lnk_s (by omega) c6, hcc]
                    congr 2
                    omega
              · rw [List.length_append] at hi
                by_cases ci : i = pre.length
                · subst ci
                  rw [y_gl, show a2.toNat + pre.length = (a2 + p).toNat by omega, x_up_at e7]
                · have hi2 : i < pre.length := by simp at hi; omega
                  rw [y_gl2 hi2, x_up_ne e7 (fun z => by omega), f6 3 _ (fun z => absurd z (by decide))]
                  exact hv i hi2
              · rw [x_up_ne e7 (fun z => by omega), f6 3 _ (fun z => absurd z (by decide))]
                exact hw0 m hm
            · skip
              have F6 := y_fr_tr F (y_sc_fr f6)
              refine x_istore ?_
              refine x_aload rfl ?_
              refine x_iload rfl ?_
              refine x_iload rfl ?_
              refine x_iadd ?_
              refine x_iload rfl ?_
              refine x_astG y_a3 C6 (by decide) F6 (by omega) (by omega) (by omega) (by omega) (fun S9 e9 C9 F9 => ?_)
              refine x_iload rfl ?_
              refine x_iload rfl ?_
              refine x_cS (fun _ => rfl) (Nat.le_of_ble_eq_true rfl) ?_
              refine ke_7 (by omega) (by omega) (fun v10 v10a v10b v10c => ?_)
              refine x_push 1 rfl ?_
              refine x_isub ?_
              refine x_iadd ?_
              refine x_istore ?_
              refine x_X_lo (lo' := [(0, x_R 1), (1, x_R 3), (2, x_I _), (3, x_I _), (4, x_I _), (5, x_I _), (6, x_I _), (7, x_I _)]) ⟨rfl, rfl, rfl, rfl, rfl, rfl, rfl, rfl, trivial⟩ ?_
              refine x_iinc 1 rfl rfl ?_
              refine x_goto ?_
              refine x_G_lo (lo' := [(0, x_R 1), (1, x_R 3), (2, x_I _), (3, x_I _), (4, x_I _), (5, x_I _), (6, x_I _)]) ⟨rfl, rfl, rfl, rfl, rfl, rfl, rfl, trivial⟩ ?_
              have hx := y_sr_x (r := 3) (by decide) hsr
              refine ih _ (by omega) _ _ (pre ++ [b6]) S9 rfl (by rw [List.length_append]; simp; omega) (by omega) (by omega) (by omega) (by omega) (y_sr_tr (y_sr_tr hsr (y_sr_sc f6)) (y_sr_up e9)) ?_ (fun i hi => ?_) (fun m hm => ?_) C9 F9
              · have q4 : S9 1 4 = 1 := (x_up_nr e9 (by decide)).trans q6
                refine Or.inl ⟨q4, ?_⟩
                rcases hD with hD | hD
                · exact hD.2
                · rw [hx] at n6
                  obtain ⟨w, hw⟩ : ∃ w : Nat, (a3 - p).toNat = w + 1 := ⟨(a3 - p).toNat - 1, by omega⟩
                  rw [hD.2.2, hw, y_rw_F (room := a3 - p - d) (by omega) (by omega) (fun h => n6 ⟨hD.1, h⟩)]
                  rfl
              · rw [List.length_append] at hi
                by_cases ci : i = pre.length
                · subst ci
                  rw [y_gl, show a2.toNat + pre.length = (a2 + p).toNat by omega, x_up_at e9]
                · have hi2 : i < pre.length := by simp at hi; omega
                  rw [y_gl2 hi2, x_up_ne e9 (fun z => by omega), f6 3 _ (fun z => absurd z (by decide))]
                  exact hv i hi2
              · rw [x_up_ne e9 (fun z => by omega), f6 3 _ (fun z => absurd z (by decide))]
                exact hw0 m hm
          · skip
            refine x_blk (b := 1) (a_16 E) rfl ?_
            unfold b_16_1
            refine x_iload rfl ?_
            refine x_iret ?_
            rcases hD with hD | hD
            · exact kF hD.2 τ _ C hsr hD.1 hw0 (by omega) (by omega)
            · have hd0 : d ≤ 0 := by omega
              have hR : (if σ 1 4 = 0 then y_rw (y_cx σ) a4 a3.toNat 1 (σ 1 3) else none) = some (pre, τ 1 3) := by
                rw [hD.2.2, y_rw_0 hd0]
                show some (pre ++ [], τ 1 3) = _
                rw [List.append_nil]
              refine x_fin (b := pre.length) (by omega) ?_
              exact kS pre _ hR τ C hsr rfl hD.1 hv hw0
        · skip
          refine x_blk (b := 1) (a_16 E) rfl ?_
          unfold b_16_1
          refine x_iload rfl ?_
          refine x_iret ?_
          rcases hD with hD | hD
          · exact kF hD.2 τ _ C hsr hD.1 hw0 (by omega) (by omega)
          · have hd0 : d ≤ 0 := by omega
            have hR : (if σ 1 4 = 0 then y_rw (y_cx σ) a4 a3.toNat 1 (σ 1 3) else none) = some (pre, τ 1 3) := by
              rw [hD.2.2, y_rw_0 hd0]
              show some (pre ++ [], τ 1 3) = _
              rw [List.append_nil]
            refine x_fin (b := pre.length) (by omega) ?_
            exact kS pre _ hR τ C hsr rfl hD.1 hv hw0
      · skip
        refine x_blk (b := 1) (a_16 E) rfl ?_
        unfold b_16_1
        refine x_iload rfl ?_
        refine x_iret ?_
        rcases hD with hD | hD
        · exact kF hD.2 τ _ C hsr hD.1 hw0 (by omega) (by omega)
        · have hd0 : d ≤ 0 := by omega
          have hR : (if σ 1 4 = 0 then y_rw (y_cx σ) a4 a3.toNat 1 (σ 1 3) else none) = some (pre, τ 1 3) := by
            rw [hD.2.2, y_rw_0 hd0]
            show some (pre ++ [], τ 1 3) = _
            rw [List.append_nil]
          refine x_fin (b := pre.length) (by omega) ?_
          exact kS pre _ hR τ C hsr rfl hD.1 hv hw0
theorem ke_16_1_3 {E : q_E} {σ : x_S} {Q : Option q_V → x_S → Prop} {a2 a3 a4 : Int} (a2l : 0 ≤ a2) (a3l : 1 ≤ a3) (a3h : a3 ≤ 11) (a23 : a2 + a3 ≤ 12) (a4l : -1 ≤ a4) (a4h : a4 ≤ 4) (C0 : y_CI σ) (kS : ∀ l e, (if σ 1 4 = 0 then y_rw (y_cx σ) a4 a3.toNat 1 (σ 1 3) else none) = some (l, e) → ∀ τ, y_CI τ → y_sr 3 σ τ → τ 1 3 = e → τ 1 4 = 0 → (∀ i, i < l.length → τ 3 (a2.toNat + i) = l.getD i 0) → (∀ m, m < a2.toNat → τ 3 m = σ 3 m) → Q (some (x_I l.length)) τ) (kF : (if σ 1 4 = 0 then y_rw (y_cx σ) a4 a3.toNat 1 (σ 1 3) else none) = none → ∀ τ v, y_CI τ → y_sr 3 σ τ → τ 1 4 = 1 → (∀ m, m < a2.toNat → τ 3 m = σ 3 m) → 0 ≤ v → v ≤ 11 → Q (some (x_I v)) τ) : x_P E 16 [x_R 1, x_R 3, x_I a2, x_I a3, x_I a4] σ Q := by
  have c4 : 0 ≤ σ 1 4 ∧ σ 1 4 ≤ 1 := C0 1 4 (by decide) (by decide) (by decide)
  refine x_Mt e_16 (h_16 E) (Nat.le_of_ble_eq_true rfl) t_16 rfl ?_
  refine x_blk (b := 0) (a_16 E) rfl ?_
  unfold b_16_0
  refine x_push 0 rfl ?_
  refine x_istore ?_
  refine x_push 1 rfl ?_
  refine x_istore ?_
  refine x_X_lo (lo' := [(0, x_R 1), (1, x_R 3), (2, x_I _), (3, x_I _), (4, x_I _), (5, x_I _), (6, x_I _)]) ⟨rfl, rfl, rfl, rfl, rfl, rfl, rfl, trivial⟩ ?_
  refine x_fall ?_
  refine x_G_lo (lo' := [(0, x_R 1), (1, x_R 3), (2, x_I _), (3, x_I _), (4, x_I _), (5, x_I _), (6, x_I _)]) ⟨rfl, rfl, rfl, rfl, rfl, rfl, rfl, trivial⟩ ?_
  refine ke_16_1_3_b2 a2l a3l a3h a23 a4l a4h C0 kS kF _ _ _ [] σ rfl rfl (by omega) (by omega) (by omega) (by omega) y_sr_rf ?_ (fun i hi => absurd hi (by simp)) (fun m hm => rfl) C0 y_fr_rf
  by_cases c : σ 1 4 = 0
  · refine Or.inr ⟨c, by omega, ?_⟩
    rw [if_pos c, show (a3 - 0).toNat = a3.toNat by omega]
    cases y_rw (y_cx σ) a4 a3.toNat 1 (σ 1 3) with
    | none => rfl
    | some q => rfl
  · exact Or.inl ⟨by omega, if_neg c⟩
theorem ke_16_1_137_b2 {E : q_E} {σ : x_S} {Q : Option q_V → x_S → Prop} {a2 a3 a4 : Int} (a2l : 0 ≤ a2) (a3l : 1 ≤ a3) (a3h : a3 ≤ 11) (a23 : a2 + a3 ≤ 12) (a4l : -1 ≤ a4) (a4h : a4 ≤ 4) (C0 : y_CI σ) (kS : ∀ l e, (if σ 1 4 = 0 then y_rw (y_cx σ) a4 a3.toNat 1 (σ 1 3) else none) = some (l, e) → ∀ τ, y_CI τ → y_sr 137 σ τ → τ 1 3 = e → τ 1 4 = 0 → (∀ i, i < l.length → τ 137 (a2.toNat + i) = l.getD i 0) → (∀ m, m < a2.toNat → τ 137 m = σ 137 m) → Q (some (x_I l.length)) τ) (kF : (if σ 1 4 = 0 then y_rw (y_cx σ) a4 a3.toNat 1 (σ 1 3) else none) = none → ∀ τ v, y_CI τ → y_sr 137 σ τ → τ 1 4 = 1 → (∀ m, m < a2.toNat → τ 137 m = σ 137 m) → 0 ≤ v → v ≤ 11 → Q (some (x_I v)) τ) : ∀ (N : Nat) (p d : Int) (pre : List Int) (τ : x_S), (a3 - p).toNat = N → (pre.length : Int) = p → 0 ≤ p → p ≤ a3 → 0 ≤ d → d ≤ 13 → y_sr 137 σ τ → ((τ 1 4 = 1 ∧ (if σ 1 4 = 0 then y_rw (y_cx σ) a4 a3.toNat 1 (σ 1 3) else none) = none) ∨ (τ 1 4 = 0 ∧ d ≤ a3 - p ∧ (if σ 1 4 = 0 then y_rw (y_cx σ) a4 a3.toNat 1 (σ 1 3) else none) = y_lnk (y_rw (y_cx σ) a4 (a3 - p).toNat d (τ 1 3)) pre)) → (∀ i, i < pre.length → τ 137 (a2.toNat + i) = pre.getD i 0) → (∀ m, m < a2.toNat → τ 137 m = σ 137 m) → y_CI τ → y_fr σ τ → x_G E m_16 Q (t_16 2) [(0, x_R 1), (1, x_R 137), (2, x_I a2), (3, x_I a3), (4, x_I a4), (5, x_I p), (6, x_I d)] [] τ := by
  have c4 : 0 ≤ σ 1 4 ∧ σ 1 4 ≤ 1 := C0 1 4 (by decide) (by decide) (by decide)
  intro N
  induction N using Nat.strongRecOn with
  | ind N ih =>
    intro p d pre τ hN hpl p1 p2 d1 d2 hsr hD hv hw0 C F
    have t4 : 0 ≤ τ 1 4 ∧ τ 1 4 ≤ 1 := C 1 4 (by decide) (by decide) (by decide)
    refine x_blk (b := 2) (a_16 E) rfl ?_
    unfold b_16_2
    refine x_iload rfl ?_
    refine x_if_le (by omega) (by omega) (fun z1 => ?_) (fun z1 => ?_)
    · skip
      refine x_blk (b := 1) (a_16 E) rfl ?_
      unfold b_16_1
      refine x_iload rfl ?_
      refine x_iret ?_
      rcases hD with hD | hD
      · exact kF hD.2 τ _ C hsr hD.1 hw0 (by omega) (by omega)
      · have hd0 : d ≤ 0 := by omega
        have hR : (if σ 1 4 = 0 then y_rw (y_cx σ) a4 a3.toNat 1 (σ 1 3) else none) = some (pre, τ 1 3) := by
          rw [hD.2.2, y_rw_0 hd0]
          show some (pre ++ [], τ 1 3) = _
          rw [List.append_nil]
        refine x_fin (b := pre.length) (by omega) ?_
        exact kS pre _ hR τ C hsr rfl hD.1 hv hw0
    · skip
      refine x_iload rfl ?_
      refine x_iload rfl ?_
      refine x_icmp_ge (by omega) (by omega) (by omega) (by omega) (fun z2 => ?_) (fun z2 => ?_)
      · skip
        refine x_iload rfl ?_
        refine x_iload rfl ?_
        refine x_iadd ?_
        refine x_aload rfl ?_
        refine x_lenG (n := 12) (L := 12) rfl (by decide) rfl (by decide) rfl ?_
        refine x_icmp_ge (by omega) (by omega) (by omega) (by omega) (fun z3 => ?_) (fun z3 => ?_)
        · skip
          refine x_aload rfl ?_
          refine x_getIG y_f1_4 C ?_
          intro g4a g4b
          refine x_if_ne (by omega) (by omega) (fun z5 => ?_) (fun z5 => ?_)
          · skip
            refine x_aload rfl ?_
            refine x_iload rfl ?_
            refine x_iload rfl ?_
            refine x_iload rfl ?_
            refine x_isub ?_
            refine x_iload rfl ?_
            refine x_isub ?_
            refine x_cV (fun _ => rfl) rfl (by decide) (Nat.le_of_ble_eq_true rfl) ?_
            refine ke_13_1 (by omega) (by omega) (by omega) (by omega) C (fun b6 k6 h6 c6 r6 S6 C6 f6 p6 q6 => ?_) (fun n6 S6 b6 C6 f6 p6 q6 va6 vb6 => ?_)
            · skip
              have bb6 := (y_pc1_ok c6).1
              have F6 := y_fr_tr F (y_sc_fr f6)
              refine x_istore ?_
              refine x_aload rfl ?_
              refine x_iload rfl ?_
              refine x_iload rfl ?_
              refine x_iadd ?_
              refine x_iload rfl ?_
              refine x_astG y_a137 C6 (by decide) F6 (by omega) (by omega) (by omega) (by omega) (fun S7 e7 C7 F7 => ?_)
              refine x_iload rfl ?_
              refine x_iload rfl ?_
              refine x_cS (fun _ => rfl) (Nat.le_of_ble_eq_true rfl) ?_
              refine ke_7 (by omega) (by omega) (fun v8 v8a v8b v8c => ?_)
              refine x_push 1 rfl ?_
              refine x_isub ?_
              refine x_iadd ?_
              refine x_istore ?_
              refine x_X_lo (lo' := [(0, x_R 1), (1, x_R 137), (2, x_I _), (3, x_I _), (4, x_I _), (5, x_I _), (6, x_I _), (7, x_I _)]) ⟨rfl, rfl, rfl, rfl, rfl, rfl, rfl, rfl, trivial⟩ ?_
              refine x_iinc 1 rfl rfl ?_
              refine x_goto ?_
              refine x_G_lo (lo' := [(0, x_R 1), (1, x_R 137), (2, x_I _), (3, x_I _), (4, x_I _), (5, x_I _), (6, x_I _)]) ⟨rfl, rfl, rfl, rfl, rfl, rfl, rfl, trivial⟩ ?_
              have hcc : y_c9 b6 = v8 := by
                have h1 := y_c9v b6
                have h2 := y_chx b6
                omega
              have hx := y_sr_x (r := 137) (by decide) hsr
              refine ih _ (by omega) _ _ (pre ++ [b6]) S7 rfl (by rw [List.length_append]; simp; omega) (by omega) (by omega) (by omega) (by omega) (y_sr_tr (y_sr_tr hsr (y_sr_sc f6)) (y_sr_up e7)) ?_ (fun i hi => ?_) (fun m hm => ?_) C7 F7
              · have q4 : S7 1 4 = 0 := (x_up_nr e7 (by decide)).trans q6
                have q3 : S7 1 3 = k6 := (x_up_nr e7 (by decide)).trans p6
                refine Or.inr ⟨q4, ?_, ?_⟩
                · have h9 := y_c9v b6
                  have h8 := y_chx b6
                  omega
                · rcases hD with hD | hD
                  · omega
                  · rw [hD.2.2, q3]
                    rw [hx] at c6
                    obtain ⟨w, hw⟩ : ∃ w : Nat, (a3 - p).toNat = w + 1 := ⟨(a3 - p).toNat - 1, by omega⟩
                    rw [hw, show (a3 - (p + 1)).toNat = w by omega, y_lnk_s (by omega) c6, hcc]
                    congr 2
                    omega
              · rw [List.length_append] at hi
                by_cases ci : i = pre.length
                · subst ci
                  rw [y_gl, show a2.toNat + pre.length = (a2 + p).toNat by omega, x_up_at e7]
                · have hi2 : i < pre.length := by simp at hi; omega
                  rw [y_gl2 hi2, x_up_ne e7 (fun z => by omega), f6 137 _ (fun z => absurd z (by decide))]
                  exact hv i hi2
              · rw [x_up_ne e7 (fun z => by omega), f6 137 _ (fun z => absurd z (by decide))]
                exact hw0 m hm
            · skip
              have F6 := y_fr_tr F (y_sc_fr f6)
              refine x_istore ?_
              refine x_aload rfl ?_
              refine x_iload rfl ?_
              refine x_iload rfl ?_
              refine x_iadd ?_
              refine x_iload rfl ?_
              refine x_astG y_a137 C6 (by decide) F6 (by omega) (by omega) (by omega) (by omega) (fun S9 e9 C9 F9 => ?_)
              refine x_iload rfl ?_
              refine x_iload rfl ?_
              refine x_cS (fun _ => rfl) (Nat.le_of_ble_eq_true rfl) ?_
              refine ke_7 (by omega) (by omega) (fun v10 v10a v10b v10c => ?_)
              refine x_push 1 rfl ?_
              refine x_isub ?_
              refine x_iadd ?_
              refine x_istore ?_
              refine x_X_lo (lo' := [(0, x_R 1), (1, x_R 137), (2, x_I _), (3, x_I _), (4, x_I _), (5, x_I _), (6, x_I _), (7, x_I _)]) ⟨rfl, rfl, rfl, rfl, rfl, rfl, rfl, rfl, trivial⟩ ?_
              refine x_iinc 1 rfl rfl ?_
              refine x_goto ?_
              refine x_G_lo (lo' := [(0, x_R 1), (1, x_R 137), (2, x_I _), (3, x_I _), (4, x_I _), (5, x_I _), (6, x_I _)]) ⟨rfl, rfl, rfl, rfl, rfl, rfl, rfl, trivial⟩ ?_
              have hx := y_sr_x (r := 137) (by decide) hsr
              refine ih _ (by omega) _ _ (pre ++ [b6]) S9 rfl (by rw [List.length_append]; simp; omega) (by omega) (by omega) (by omega) (by omega) (y_sr_tr (y_sr_tr hsr (y_sr_sc f6)) (y_sr_up e9)) ?_ (fun i hi => ?_) (fun m hm => ?_) C9 F9
              · have q4 : S9 1 4 = 1 := (x_up_nr e9 (by decide)).trans q6
                refine Or.inl ⟨q4, ?_⟩
                rcases hD with hD | hD
                · exact hD.2
                · rw [hx] at n6
                  obtain ⟨w, hw⟩ : ∃ w : Nat, (a3 - p).toNat = w + 1 := ⟨(a3 - p).toNat - 1, by omega⟩
                  rw [hD.2.2, hw, y_rw_F (room := a3 - p - d) (by omega) (by omega) (fun h => n6 ⟨hD.1, h⟩)]
                  rfl
              · rw [List.length_append] at hi
                by_cases ci : i = pre.length
                · subst ci
                  rw [y_gl, show a2.toNat + pre.length = (a2 + p).toNat by omega, x_up_at e9]
                · have hi2 : i < pre.length := by simp at hi; omega
                  rw [y_gl2 hi2, x_up_ne e9 (fun z => by omega), f6 137 _ (fun z => absurd z (by decide))]
                  exact hv i hi2
              · rw [x_up_ne e9 (fun z => by omega), f6 137 _ (fun z => absurd z (by decide))]
                exact hw0 m hm
          · skip
            refine x_blk (b := 1) (a_16 E) rfl ?_
            unfold b_16_1
            refine x_iload rfl ?_
            refine x_iret ?_
            rcases hD with hD | hD
            · exact kF hD.2 τ _ C hsr hD.1 hw0 (by omega) (by omega)
            · have hd0 : d ≤ 0 := by omega
              have hR : (if σ 1 4 = 0 then y_rw (y_cx σ) a4 a3.toNat 1 (σ 1 3) else none) = some (pre, τ 1 3) := by
                rw [hD.2.2, y_rw_0 hd0]
                show some (pre ++ [], τ 1 3) = _
                rw [List.append_nil]
              refine x_fin (b := pre.length) (by omega) ?_
              exact kS pre _ hR τ C hsr rfl hD.1 hv hw0
        · skip
          refine x_blk (b := 1) (a_16 E) rfl ?_
          unfold b_16_1
          refine x_iload rfl ?_
          refine x_iret ?_
          rcases hD with hD | hD
          · exact kF hD.2 τ _ C hsr hD.1 hw0 (by omega) (by omega)
          · have hd0 : d ≤ 0 := by omega
            have hR : (if σ 1 4 = 0 then y_rw (y_cx σ) a4 a3.toNat 1 (σ 1 3) else none) = some (pre, τ 1 3) := by
              rw [hD.2.2, y_rw_0 hd0]
              show some (pre ++ [], τ 1 3) = _
              rw [List.append_nil]
            refine x_fin (b := pre.length) (by omega) ?_
            exact kS pre _ hR τ C hsr rfl hD.1 hv hw0
      · skip
        refine x_blk (b := 1) (a_16 E) rfl ?_
        unfold b_16_1
        refine x_iload rfl ?_
        refine x_iret ?_
        rcases hD with hD | hD
        · exact kF hD.2 τ _ C hsr hD.1 hw0 (by omega) (by omega)
        · have hd0 : d ≤ 0 := by omega
          have hR : (if σ 1 4 = 0 then y_rw (y_cx σ) a4 a3.toNat 1 (σ 1 3) else none) = some (pre, τ 1 3) := by
            rw [hD.2.2, y_rw_0 hd0]
            show some (pre ++ [], τ 1 3) = _
            rw [List.append_nil]
          refine x_fin (b := pre.length) (by omega) ?_
          exact kS pre _ hR τ C hsr rfl hD.1 hv hw0
theorem ke_16_1_137 {E : q_E} {σ : x_S} {Q : Option q_V → x_S → Prop} {a2 a3 a4 : Int} (a2l : 0 ≤ a2) (a3l : 1 ≤ a3) (a3h : a3 ≤ 11) (a23 : a2 + a3 ≤ 12) (a4l : -1 ≤ a4) (a4h : a4 ≤ 4) (C0 : y_CI σ) (kS : ∀ l e, (if σ 1 4 = 0 then y_rw (y_cx σ) a4 a3.toNat 1 (σ 1 3) else none) = some (l, e) → ∀ τ, y_CI τ → y_sr 137 σ τ → τ 1 3 = e → τ 1 4 = 0 → (∀ i, i < l.length → τ 137 (a2.toNat + i) = l.getD i 0) → (∀ m, m < a2.toNat → τ 137 m = σ 137 m) → Q (some (x_I l.length)) τ) (kF : (if σ 1 4 = 0 then y_rw (y_cx σ) a4 a3.toNat 1 (σ 1 3) else none) = none → ∀ τ v, y_CI τ → y_sr 137 σ τ → τ 1 4 = 1 → (∀ m, m < a2.toNat → τ 137 m = σ 137 m) → 0 ≤ v → v ≤ 11 → Q (some (x_I v)) τ) : x_P E 16 [x_R 1, x_R 137, x_I a2, x_I a3, x_I a4] σ Q := by
  have c4 : 0 ≤ σ 1 4 ∧ σ 1 4 ≤ 1 := C0 1 4 (by decide) (by decide) (by decide)
  refine x_Mt e_16 (h_16 E) (Nat.le_of_ble_eq_true rfl) t_16 rfl ?_
  refine x_blk (b := 0) (a_16 E) rfl ?_
  unfold b_16_0
  refine x_push 0 rfl ?_
  refine x_istore ?_
  refine x_push 1 rfl ?_
  refine x_istore ?_
  refine x_X_lo (lo' := [(0, x_R 1), (1, x_R 137), (2, x_I _), (3, x_I _), (4, x_I _), (5, x_I _), (6, x_I _)]) ⟨rfl, rfl, rfl, rfl, rfl, rfl, rfl, trivial⟩ ?_
  refine x_fall ?_
  refine x_G_lo (lo' := [(0, x_R 1), (1, x_R 137), (2, x_I _), (3, x_I _), (4, x_I _), (5, x_I _), (6, x_I _)]) ⟨rfl, rfl, rfl, rfl, rfl, rfl, rfl, trivial⟩ ?_
  refine ke_16_1_137_b2 a2l a3l a3h a23 a4l a4h C0 kS kF _ _ _ [] σ rfl rfl (by omega) (by omega) (by omega) (by omega) y_sr_rf ?_ (fun i hi => absurd hi (by simp)) (fun m hm => rfl) C0 y_fr_rf
  by_cases c : σ 1 4 = 0
  · refine Or.inr ⟨c, by omega, ?_⟩
    rw [if_pos c, show (a3 - 0).toNat = a3.toNat by omega]
    cases y_rw (y_cx σ) a4 a3.toNat 1 (σ 1 3) with
    | none => rfl
    | some q => rfl
  · exact Or.inl ⟨by omega, if_neg c⟩
