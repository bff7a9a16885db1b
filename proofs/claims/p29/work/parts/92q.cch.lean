/-! which rule a pass takes -/
abbrev y_mt (A : Nat → Int) (p q f l : Int) (r : Nat) : Prop := A (63 + 12 * r) = p ∧ A (64 + 12 * r) = q ∧ A (65 + 12 * r) = f ∧ (A (66 + 12 * r) = 2 ∨ A (66 + 12 * r) = l)
/-- of the first so many rules: the first or the last that fits, by the pass's kind; -4: none -/
def y_sel (A : Nat → Int) (p q f l : Int) : Nat → Int
  | 0 => -4
  | r + 1 => if y_mt A p q f l r ∧ (y_sel A p q f l r < 0 ∨ A p.toNat % 2 = 1) then (r : Int) else y_sel A p q f l r
theorem y_sel_s (A : Nat → Int) (p q f l : Int) (r : Nat) : y_sel A p q f l (r + 1) = if y_mt A p q f l r ∧ (y_sel A p q f l r < 0 ∨ A p.toNat % 2 = 1) then (r : Int) else y_sel A p q f l r := rfl
theorem y_mt_e {A B : Nat → Int} {p q f l : Int} {r : Nat} (h : ∀ c, c < 4 → B (63 + 12 * r + c) = A (63 + 12 * r + c)) : y_mt B p q f l r ↔ y_mt A p q f l r := by
  have h0 := h 0 (by decide)
  have h1 := h 1 (by decide)
  have h2 := h 2 (by decide)
  have h3 := h 3 (by decide)
  rw [show 63 + 12 * r + 0 = 63 + 12 * r by omega] at h0
  rw [show 63 + 12 * r + 1 = 64 + 12 * r by omega] at h1
  rw [show 63 + 12 * r + 2 = 65 + 12 * r by omega] at h2
  rw [show 63 + 12 * r + 3 = 66 + 12 * r by omega] at h3
  unfold y_mt
  rw [h0, h1, h2, h3]
theorem y_sel_e {A B : Nat → Int} {p q f l : Int} (hk : B p.toNat = A p.toNat) : ∀ {n : Nat}, (∀ r, r < n → ∀ c, c < 4 → B (63 + 12 * r + c) = A (63 + 12 * r + c)) → y_sel B p q f l n = y_sel A p q f l n
  | 0, _ => rfl
  | n + 1, h => by
    have ih := y_sel_e (q := q) (f := f) (l := l) hk (n := n) (fun r hr => h r (by omega))
    rw [y_sel_s, y_sel_s, ih, hk]
    have hm := y_mt_e (p := p) (q := q) (f := f) (l := l) (h n (by omega))
    by_cases c : y_mt A p q f l n ∧ (y_sel A p q f l n < 0 ∨ A p.toNat % 2 = 1)
    · rw [if_pos c, if_pos ⟨hm.mpr c.1, c.2⟩]
    · rw [if_neg c, if_neg (fun z => c ⟨hm.mp z.1, z.2⟩)]
/-- what a program of the class has chosen is what is taken -/
def y_CH (σ : x_S) (p : Nat) (A : Nat → Int) : Prop := ∀ P Q F L : Nat, P < 2 → Q < 3 → F < 5 → L < 3 → σ (p + 6) (((P * 3 + Q) * 5 + F) * 3 + L) = y_sel A P Q F L (A 62).toNat
def y_PG (σ : x_S) (p : Nat) (A : Nat → Int) : Prop := y_AG (y_cv σ p) A ∧ y_CH σ p A
/-- one program of the class is another one, copied -/
def y_CP (σ : x_S) (q : Nat) (τ : x_S) (p : Nat) : Prop := (∀ m, m < 255 → y_cv τ p m = y_cv σ q m) ∧ ∀ k, k < 90 → τ (p + 6) k = σ (q + 6) k
theorem y_AG_c {f g A : Nat → Int} (hP : y_PI A) (h : y_AG f A) (e : ∀ m, m < 255 → g m = f m) : y_AG g A := by
  obtain ⟨a, b, c, d⟩ := h
  refine ⟨fun m hm => ?_, fun t v ht hv => ?_, fun m m1 m2 => ?_, fun r c' hr hc => ?_⟩
  · rw [e m (by omega)]; exact a m hm
  · have sz := y_PI_sz hP ht
    rw [e _ (by omega)]; exact b t v ht hv
  · rw [e m (by omega)]; exact c m m1 m2
  · have h62 := hP.2.2.2.1
    have h4 := y_PI_pc hP hr
    rw [e _ (by omega)]; exact d r c' hr hc
theorem y_PG_cp {σ τ : x_S} {p q : Nat} {A : Nat → Int} (hP : y_PI A) (h : y_PG σ q A) (e : y_CP σ q τ p) : y_PG τ p A := by
  refine ⟨y_AG_c hP h.1 e.1, fun P Q F L h1 h2 h3 h4 => ?_⟩
  rw [e.2 _ (by omega)]
  exact h.2 P Q F L h1 h2 h3 h4
theorem y_CP_fr {σ τ : x_S} {p : Nat} (f : ∀ c k, p ≤ c → c ≤ p + 6 → τ c k = σ c k) : y_CP σ p τ p := ⟨fun _ _ => y_cv_x (fun _ => f _ _ (by omega) (by omega)) (fun _ _ => f _ _ (by omega) (by omega)) (fun _ _ => f _ _ (by omega) (by omega)) (fun _ _ => f _ _ (by omega) (by omega)) (fun _ => f _ _ (by omega) (by omega)) (fun _ => f _ _ (by omega) (by omega)), fun _ _ => f _ _ (by omega) (by omega)⟩
theorem y_CP_tr {ρ σ τ : x_S} {p q r : Nat} (h1 : y_CP ρ r σ q) (h2 : y_CP σ q τ p) : y_CP ρ r τ p := ⟨fun m hm => (h2.1 m hm).trans (h1.1 m hm), fun k hk => (h2.2 k hk).trans (h1.2 k hk)⟩
theorem y_PG_fr {σ τ : x_S} {p : Nat} {A : Nat → Int} (hP : y_PI A) (f : ∀ c k, p ≤ c → c ≤ p + 6 → τ c k = σ c k) (h : y_PG σ p A) : y_PG τ p A := y_PG_cp hP h (y_CP_fr f)
/-- rows that are the same where it counts -/
theorem y_PG_ex {σ : x_S} {p : Nat} {A B : Nat → Int} (hP : y_PI A) (e : ∀ m, m < 255 → B m = A m) (h : y_PG σ p A) : y_PG σ p B := by
  have h62 := hP.2.2.2.1
  have e62 := e 62 (by decide)
  obtain ⟨⟨a, b, c, d⟩, g⟩ := h
  refine ⟨⟨fun m hm => ?_, fun t v ht hv => ?_, fun m m1 m2 => ?_, fun r c' hr hc => ?_⟩, fun P Q F L h1 h2 h3 h4 => ?_⟩
  · rw [e m (by omega)]; exact a m hm
  · have sz := y_PI_sz hP ht
    rw [e _ (by omega)] at hv
    rw [e _ (by omega)]; exact b t v ht hv
  · rw [e m (by omega)]; exact c m m1 m2
  · rw [e62] at hr
    have h4 := y_PI_pc hP hr
    rw [e _ (by omega)] at hc
    rw [e _ (by omega)]; exact d r c' hr hc
  · rw [g P Q F L h1 h2 h3 h4, e62]
    refine (y_sel_e (e _ (by omega)) (fun r hr c hc => e _ (by omega))).symm
/-- the words of a rule -/
theorem y_PG_w {σ : x_S} {p : Nat} {A : Nat → Int} (h : y_AG (y_cv σ p) A) {r c : Nat} (hr : (r : Int) < A 62) (hc : (c : Int) < 5 + A (67 + 12 * r)) : σ (p + 5) (12 * r + c) = A (63 + 12 * r + c) := by
  have h1 := h.2.2.2 r c hr hc
  rw [Nat.add_assoc, y_cvr] at h1
  rw [h1, Nat.add_assoc]
theorem y_PG_n {σ : x_S} {p : Nat} {A : Nat → Int} (h : y_AG (y_cv σ p) A) : σ p 6 = A 62 := by
  have h1 := h.2.2.1 62 (by decide) (by decide)
  rw [y_cvn] at h1
  exact h1
theorem y_PG_k {σ : x_S} {p : Nat} {A : Nat → Int} (h : y_AG (y_cv σ p) A) {k : Nat} (hk : k < 2) : σ (p + 3) k = A k := by
  have h1 := h.1 k (by omega)
  rw [y_cvk hk] at h1
  exact h1
theorem y_PG_s {σ : x_S} {p : Nat} {A : Nat → Int} (h : y_AG (y_cv σ p) A) {t : Nat} (ht : t < 3) : σ (p + 2) t = A (2 + t) := by
  have h1 := h.1 (2 + t) (by omega)
  rw [y_cvs ht] at h1
  exact h1
theorem y_PG_l {σ : x_S} {p : Nat} {A : Nat → Int} (hP : y_PI A) (h : y_AG (y_cv σ p) A) {t v : Nat} (ht : t < 3) (hv : (v : Int) < A (2 + t)) : σ (p + 1) (11 * t + v) = A (5 + 11 * t + v) := by
  have sz := y_PI_sz hP ht
  have h1 := h.2.1 t v ht hv
  rw [Nat.add_assoc, y_cvl (by omega)] at h1
  rw [h1, Nat.add_assoc]
theorem y_PG_e {σ : x_S} {p : Nat} {A : Nat → Int} (h : y_AG (y_cv σ p) A) {m f e : Int} (m1 : 0 ≤ m) (m2 : m ≤ 1) (f1 : 0 ≤ f) (f2 : f ≤ 4) (e1 : 0 ≤ e) (e2 : e < y_pw (y_ch f)) : σ (p + 4) ((m * 5 + f) * 4 + e).toNat = A (y_tab m f e).toNat := by
  have tb := y_tab_b m1 m2 f1 f2 e1 e2
  have h1 := h.2.2.1 (y_tab m f e).toNat (by omega) (by omega)
  have e0 : (y_tab m f e).toNat = 38 + ((y_tab m f 0).toNat - 38 + e.toNat) := by
    have := y_tab_n m1 m2 f1 f2
    have e9 : y_tab m f e = y_tab m f 0 + e := by unfold y_tab; omega
    omega
  have hp := y_pw_b (y_ch f)
  have tn := y_tab_n m1 m2 f1 f2
  rw [← h1, e0, y_cve (by omega), y_ce_t m1 m2 f1 f2 (by omega)]
  congr 1
  omega
theorem kx_12_4 {E : q_E} {σ : x_S} {Q : Option q_V → x_S → Prop} {a1 a2 : Int} (a1l : 0 ≤ a1) (a1h : a1 ≤ 15) (a2l : 0 ≤ a2) (a2h : a2 ≤ 2) (C0 : y_CI σ) (w0 : σ 9 (a1 * 12 + 0).toNat ≤ 1) (w1 : σ 9 (a1 * 12 + 1).toNat ≤ 2) (w2 : σ 9 (a1 * 12 + 2).toNat ≤ 4) (k : ∀ τ, y_CI τ → (∀ q m, q ≠ 10 → τ q m = σ q m) → (∀ m, τ 10 m = if m = (((σ 9 (a1 * 12 + 0).toNat * 3 + σ 9 (a1 * 12 + 1).toNat) * 5 + σ 9 (a1 * 12 + 2).toNat) * 3 + a2).toNat ∧ (σ 10 (((σ 9 (a1 * 12 + 0).toNat * 3 + σ 9 (a1 * 12 + 1).toNat) * 5 + σ 9 (a1 * 12 + 2).toNat) * 3 + a2).toNat < 0 ∨ σ 7 (σ 9 (a1 * 12 + 0).toNat).toNat % 2 = 1) then a1 else σ 10 m) → Q none τ) : x_P E 12 [x_R 4, x_I a1, x_I a2] σ Q := by
  refine x_Mt e_12 (h_12 E) (Nat.le_of_ble_eq_true rfl) t_12 rfl ?_
  refine x_blk (b := 0) (a_12 E) rfl ?_
  unfold b_12_0
  refine x_aload rfl ?_
  refine x_iload rfl ?_
  refine x_push 0 rfl ?_
  refine x_cV (fun _ => rfl) rfl (by decide) (Nat.le_of_ble_eq_true rfl) ?_
  refine kx_6_4 (by omega) (by omega) (by omega) (by omega) C0 (fun v1 v1a v1b v1c => ?_)
  refine x_istore ?_
  refine x_iload rfl ?_
  refine x_aload rfl ?_
  refine x_iload rfl ?_
  refine x_push 1 rfl ?_
  refine x_cV (fun _ => rfl) rfl (by decide) (Nat.le_of_ble_eq_true rfl) ?_
  refine kx_6_4 (by omega) (by omega) (by omega) (by omega) C0 (fun v2 v2a v2b v2c => ?_)
  refine x_aload rfl ?_
  refine x_iload rfl ?_
  refine x_push 2 rfl ?_
  refine x_cV (fun _ => rfl) rfl (by decide) (Nat.le_of_ble_eq_true rfl) ?_
  refine kx_6_4 (by omega) (by omega) (by omega) (by omega) C0 (fun v3 v3a v3b v3c => ?_)
  refine x_iload rfl ?_
  refine x_cS (fun _ => rfl) (Nat.le_of_ble_eq_true rfl) ?_
  refine sf_10 (by omega) (by omega) (by omega) (by omega) (by omega) (by omega) (by omega) (by omega) C0 (fun v4 v4a v4b v4c => ?_)
  refine x_istore ?_
  refine x_X_lo (lo' := [(0, x_R 4), (1, x_I _), (2, x_I _), (3, x_I _), (4, x_I _)]) ⟨rfl, rfl, rfl, rfl, rfl, trivial⟩ ?_
  refine x_aload rfl ?_
  refine x_iload rfl ?_
  refine x_cV (fun _ => rfl) rfl (by decide) (Nat.le_of_ble_eq_true rfl) ?_
  refine kx_11_4 (by omega) (by omega) C0 (fun v5 v5a v5b v5c => ?_)
  refine x_push 1 rfl ?_
  refine x_iand1 (by omega) (by omega) ?_
  refine x_if_eq (by omega) (by omega) (fun z6 => ?_) (fun z6 => ?_)
  · skip
    refine x_blk (b := 1) (a_12 E) rfl ?_
    unfold b_12_1
    refine x_push 0 rfl ?_
    refine x_fall ?_
    refine x_blk (b := 2) (a_12 E) rfl ?_
    unfold b_12_2
    refine x_istore ?_
    refine x_iload rfl ?_
    refine x_aload rfl ?_
    refine x_getR (r := 4) rfl (by decide) (by decide) rfl ?_
    refine x_lenG (n := 90) (L := 90) rfl (by decide) rfl (by decide) rfl ?_
    refine x_cS (fun _ => rfl) (Nat.le_of_ble_eq_true rfl) ?_
    refine sf_2 (by omega) (by omega) (by omega) (by omega) C0 (fun y7 => ?_) (fun y7 => absurd (by omega) y7)
    refine x_if_eq (by omega) (by omega) (fun z => absurd z (by omega)) (fun z8 => ?_)
    refine x_aload rfl ?_
    refine x_getR (r := 4) rfl (by decide) (by decide) rfl ?_
    refine x_iload rfl ?_
    refine x_ialdX y_a10 C0 (by omega) (by omega) (fun v9 v9x v9a v9b => ?_)
    refine x_if_lt (by omega) (by omega) (fun z10 => ?_) (fun z10 => ?_)
    · skip
      refine x_blk (b := 4) (a_12 E) rfl ?_
      unfold b_12_4
      refine x_aload rfl ?_
      refine x_getR (r := 4) rfl (by decide) (by decide) rfl ?_
      refine x_iload rfl ?_
      refine x_iload rfl ?_
      refine x_astG y_a10 C0 (by decide) (y_fr_rf (lo := 0) (hi := 138)) (by omega) (by omega) (by omega) (by omega) (fun S11 e11 C11 F11 => ?_)
      refine x_fall ?_
      refine x_blk (b := 3) (a_12 E) rfl ?_
      unfold b_12_3
      refine x_vret ?_
      have ei : (((σ 9 (a1 * 12 + 0).toNat * 3 + σ 9 (a1 * 12 + 1).toNat) * 5 + σ 9 (a1 * 12 + 2).toNat) * 3 + a2).toNat = v4.toNat := by congr 1; omega
      have ek : (σ 9 (a1 * 12 + 0).toNat).toNat = v1.toNat := by congr 1; omega
      refine k _ C11 (fun q m hq => x_up_nr e11 hq) (fun m => ?_)
      rw [ei, ek]
      by_cases c : m = v4.toNat
      · rw [if_pos ⟨c, by omega⟩, c]
        exact x_up_at e11
      · rw [if_neg (fun z => c z.1)]
        exact x_up_ne e11 (fun z => c z.2)
    · skip
      refine x_iload rfl ?_
      refine x_if_eq (by omega) (by omega) (fun z12 => ?_) (fun z => absurd (by omega) z)
      refine x_blk (b := 3) (a_12 E) rfl ?_
      unfold b_12_3
      refine x_vret ?_
      have ei : (((σ 9 (a1 * 12 + 0).toNat * 3 + σ 9 (a1 * 12 + 1).toNat) * 5 + σ 9 (a1 * 12 + 2).toNat) * 3 + a2).toNat = v4.toNat := by congr 1; omega
      have ek : (σ 9 (a1 * 12 + 0).toNat).toNat = v1.toNat := by congr 1; omega
      refine k _ C0 (fun _ _ _ => rfl) (fun m => ?_)
      rw [ei, ek, if_neg]
      rintro ⟨z1, z2⟩
      omega
  · skip
    refine x_push 1 rfl ?_
    refine x_goto ?_
    refine x_blk (b := 2) (a_12 E) rfl ?_
    unfold b_12_2
    refine x_istore ?_
    refine x_iload rfl ?_
    refine x_aload rfl ?_
    refine x_getR (r := 4) rfl (by decide) (by decide) rfl ?_
    refine x_lenG (n := 90) (L := 90) rfl (by decide) rfl (by decide) rfl ?_
    refine x_cS (fun _ => rfl) (Nat.le_of_ble_eq_true rfl) ?_
    refine sf_2 (by omega) (by omega) (by omega) (by omega) C0 (fun y13 => ?_) (fun y13 => absurd (by omega) y13)
    refine x_if_eq (by omega) (by omega) (fun z => absurd z (by omega)) (fun z14 => ?_)
    refine x_aload rfl ?_
    refine x_getR (r := 4) rfl (by decide) (by decide) rfl ?_
    refine x_iload rfl ?_
    refine x_ialdX y_a10 C0 (by omega) (by omega) (fun v15 v15x v15a v15b => ?_)
    refine x_if_lt (by omega) (by omega) (fun z16 => ?_) (fun z16 => ?_)
    · skip
      refine x_blk (b := 4) (a_12 E) rfl ?_
      unfold b_12_4
      refine x_aload rfl ?_
      refine x_getR (r := 4) rfl (by decide) (by decide) rfl ?_
      refine x_iload rfl ?_
      refine x_iload rfl ?_
      refine x_astG y_a10 C0 (by decide) (y_fr_rf (lo := 0) (hi := 138)) (by omega) (by omega) (by omega) (by omega) (fun S17 e17 C17 F17 => ?_)
      refine x_fall ?_
      refine x_blk (b := 3) (a_12 E) rfl ?_
      unfold b_12_3
      refine x_vret ?_
      have ei : (((σ 9 (a1 * 12 + 0).toNat * 3 + σ 9 (a1 * 12 + 1).toNat) * 5 + σ 9 (a1 * 12 + 2).toNat) * 3 + a2).toNat = v4.toNat := by congr 1; omega
      have ek : (σ 9 (a1 * 12 + 0).toNat).toNat = v1.toNat := by congr 1; omega
      refine k _ C17 (fun q m hq => x_up_nr e17 hq) (fun m => ?_)
      rw [ei, ek]
      by_cases c : m = v4.toNat
      · rw [if_pos ⟨c, by omega⟩, c]
        exact x_up_at e17
      · rw [if_neg (fun z => c z.1)]
        exact x_up_ne e17 (fun z => c z.2)
    · skip
      refine x_iload rfl ?_
      refine x_if_eq (by omega) (by omega) (fun z => absurd z (by omega)) (fun z18 => ?_)
      refine x_fall ?_
      refine x_blk (b := 4) (a_12 E) rfl ?_
      unfold b_12_4
      refine x_aload rfl ?_
      refine x_getR (r := 4) rfl (by decide) (by decide) rfl ?_
      refine x_iload rfl ?_
      refine x_iload rfl ?_
      refine x_astG y_a10 C0 (by decide) (y_fr_rf (lo := 0) (hi := 138)) (by omega) (by omega) (by omega) (by omega) (fun S19 e19 C19 F19 => ?_)
      refine x_fall ?_
      refine x_blk (b := 3) (a_12 E) rfl ?_
      unfold b_12_3
      refine x_vret ?_
      have ei : (((σ 9 (a1 * 12 + 0).toNat * 3 + σ 9 (a1 * 12 + 1).toNat) * 5 + σ 9 (a1 * 12 + 2).toNat) * 3 + a2).toNat = v4.toNat := by congr 1; omega
      have ek : (σ 9 (a1 * 12 + 0).toNat).toNat = v1.toNat := by congr 1; omega
      refine k _ C19 (fun q m hq => x_up_nr e19 hq) (fun m => ?_)
      rw [ei, ek]
      by_cases c : m = v4.toNat
      · rw [if_pos ⟨c, by omega⟩, c]
        exact x_up_at e19
      · rw [if_neg (fun z => c z.1)]
        exact x_up_ne e19 (fun z => c z.2)
theorem kx_12_11 {E : q_E} {σ : x_S} {Q : Option q_V → x_S → Prop} {a1 a2 : Int} (a1l : 0 ≤ a1) (a1h : a1 ≤ 15) (a2l : 0 ≤ a2) (a2h : a2 ≤ 2) (C0 : y_CI σ) (w0 : σ 16 (a1 * 12 + 0).toNat ≤ 1) (w1 : σ 16 (a1 * 12 + 1).toNat ≤ 2) (w2 : σ 16 (a1 * 12 + 2).toNat ≤ 4) (k : ∀ τ, y_CI τ → (∀ q m, q ≠ 17 → τ q m = σ q m) → (∀ m, τ 17 m = if m = (((σ 16 (a1 * 12 + 0).toNat * 3 + σ 16 (a1 * 12 + 1).toNat) * 5 + σ 16 (a1 * 12 + 2).toNat) * 3 + a2).toNat ∧ (σ 17 (((σ 16 (a1 * 12 + 0).toNat * 3 + σ 16 (a1 * 12 + 1).toNat) * 5 + σ 16 (a1 * 12 + 2).toNat) * 3 + a2).toNat < 0 ∨ σ 14 (σ 16 (a1 * 12 + 0).toNat).toNat % 2 = 1) then a1 else σ 17 m) → Q none τ) : x_P E 12 [x_R 11, x_I a1, x_I a2] σ Q := by
  refine x_Mt e_12 (h_12 E) (Nat.le_of_ble_eq_true rfl) t_12 rfl ?_
  refine x_blk (b := 0) (a_12 E) rfl ?_
  unfold b_12_0
  refine x_aload rfl ?_
  refine x_iload rfl ?_
  refine x_push 0 rfl ?_
  refine x_cV (fun _ => rfl) rfl (by decide) (Nat.le_of_ble_eq_true rfl) ?_
  refine kx_6_11 (by omega) (by omega) (by omega) (by omega) C0 (fun v1 v1a v1b v1c => ?_)
  refine x_istore ?_
  refine x_iload rfl ?_
  refine x_aload rfl ?_
  refine x_iload rfl ?_
  refine x_push 1 rfl ?_
  refine x_cV (fun _ => rfl) rfl (by decide) (Nat.le_of_ble_eq_true rfl) ?_
  refine kx_6_11 (by omega) (by omega) (by omega) (by omega) C0 (fun v2 v2a v2b v2c => ?_)
  refine x_aload rfl ?_
  refine x_iload rfl ?_
  refine x_push 2 rfl ?_
  refine x_cV (fun _ => rfl) rfl (by decide) (Nat.le_of_ble_eq_true rfl) ?_
  refine kx_6_11 (by omega) (by omega) (by omega) (by omega) C0 (fun v3 v3a v3b v3c => ?_)
  refine x_iload rfl ?_
  refine x_cS (fun _ => rfl) (Nat.le_of_ble_eq_true rfl) ?_
  refine sf_10 (by omega) (by omega) (by omega) (by omega) (by omega) (by omega) (by omega) (by omega) C0 (fun v4 v4a v4b v4c => ?_)
  refine x_istore ?_
  refine x_X_lo (lo' := [(0, x_R 11), (1, x_I _), (2, x_I _), (3, x_I _), (4, x_I _)]) ⟨rfl, rfl, rfl, rfl, rfl, trivial⟩ ?_
  refine x_aload rfl ?_
  refine x_iload rfl ?_
  refine x_cV (fun _ => rfl) rfl (by decide) (Nat.le_of_ble_eq_true rfl) ?_
  refine kx_11_11 (by omega) (by omega) C0 (fun v5 v5a v5b v5c => ?_)
  refine x_push 1 rfl ?_
  refine x_iand1 (by omega) (by omega) ?_
  refine x_if_eq (by omega) (by omega) (fun z6 => ?_) (fun z6 => ?_)
  · skip
    refine x_blk (b := 1) (a_12 E) rfl ?_
    unfold b_12_1
    refine x_push 0 rfl ?_
    refine x_fall ?_
    refine x_blk (b := 2) (a_12 E) rfl ?_
    unfold b_12_2
    refine x_istore ?_
    refine x_iload rfl ?_
    refine x_aload rfl ?_
    refine x_getR (r := 11) rfl (by decide) (by decide) rfl ?_
    refine x_lenG (n := 90) (L := 90) rfl (by decide) rfl (by decide) rfl ?_
    refine x_cS (fun _ => rfl) (Nat.le_of_ble_eq_true rfl) ?_
    refine sf_2 (by omega) (by omega) (by omega) (by omega) C0 (fun y7 => ?_) (fun y7 => absurd (by omega) y7)
    refine x_if_eq (by omega) (by omega) (fun z => absurd z (by omega)) (fun z8 => ?_)
    refine x_aload rfl ?_
    refine x_getR (r := 11) rfl (by decide) (by decide) rfl ?_
    refine x_iload rfl ?_
    refine x_ialdX y_a17 C0 (by omega) (by omega) (fun v9 v9x v9a v9b => ?_)
    refine x_if_lt (by omega) (by omega) (fun z10 => ?_) (fun z10 => ?_)
    · skip
      refine x_blk (b := 4) (a_12 E) rfl ?_
      unfold b_12_4
      refine x_aload rfl ?_
      refine x_getR (r := 11) rfl (by decide) (by decide) rfl ?_
      refine x_iload rfl ?_
      refine x_iload rfl ?_
      refine x_astG y_a17 C0 (by decide) (y_fr_rf (lo := 0) (hi := 138)) (by omega) (by omega) (by omega) (by omega) (fun S11 e11 C11 F11 => ?_)
      refine x_fall ?_
      refine x_blk (b := 3) (a_12 E) rfl ?_
      unfold b_12_3
      refine x_vret ?_
      have ei : (((σ 16 (a1 * 12 + 0).toNat * 3 + σ 16 (a1 * 12 + 1).toNat) * 5 + σ 16 (a1 * 12 + 2).toNat) * 3 + a2).toNat = v4.toNat := by congr 1; omega
      have ek : (σ 16 (a1 * 12 + 0).toNat).toNat = v1.toNat := by congr 1; omega
      refine k _ C11 (fun q m hq => x_up_nr e11 hq) (fun m => ?_)
      rw [ei, ek]
      by_cases c : m = v4.toNat
      · rw [if_pos ⟨c, by omega⟩, c]
        exact x_up_at e11
      · rw [if_neg (fun z => c z.1)]
        exact x_up_ne e11 (fun z => c z.2)
    · skip
      refine x_iload rfl ?_
      refine x_if_eq (by omega) (by omega) (fun z12 => ?_) (fun z => absurd (by omega) z)
      refine x_blk (b := 3) (a_12 E) rfl ?_
      unfold b_12_3
      refine x_vret ?_
      have ei : (((σ 16 (a1 * 12 + 0).toNat * 3 + σ 16 (a1 * 12 + 1).toNat) * 5 + σ 16 (a1 * 12 + 2).toNat) * 3 + a2).toNat = v4.toNat := by congr 1; omega
      have ek : (σ 16 (a1 * 12 + 0).toNat).toNat = v1.toNat := by congr 1; omega
      refine k _ C0 (fun _ _ _ => rfl) (fun m => ?_)
      rw [ei, ek, if_neg]
      rintro ⟨z1, z2⟩
      omega
  · skip
    refine x_push 1 rfl ?_
    refine x_goto ?_
    refine x_blk (b := 2) (a_12 E) rfl ?_
    unfold b_12_2
    refine x_istore ?_
    refine x_iload rfl ?_
    refine x_aload rfl ?_
    refine x_getR (r := 11) rfl (by decide) (by decide) rfl ?_
    refine x_lenG (n := 90) (L := 90) rfl (by decide) rfl (by decide) rfl ?_
    refine x_cS (fun _ => rfl) (Nat.le_of_ble_eq_true rfl) ?_
    refine sf_2 (by omega) (by omega) (by omega) (by omega) C0 (fun y13 => ?_) (fun y13 => absurd (by omega) y13)
    refine x_if_eq (by omega) (by omega) (fun z => absurd z (by omega)) (fun z14 => ?_)
    refine x_aload rfl ?_
    refine x_getR (r := 11) rfl (by decide) (by decide) rfl ?_
    refine x_iload rfl ?_
    refine x_ialdX y_a17 C0 (by omega) (by omega) (fun v15 v15x v15a v15b => ?_)
    refine x_if_lt (by omega) (by omega) (fun z16 => ?_) (fun z16 => ?_)
    · skip
      refine x_blk (b := 4) (a_12 E) rfl ?_
      unfold b_12_4
      refine x_aload rfl ?_
      refine x_getR (r := 11) rfl (by decide) (by decide) rfl ?_
      refine x_iload rfl ?_
      refine x_iload rfl ?_
      refine x_astG y_a17 C0 (by decide) (y_fr_rf (lo := 0) (hi := 138)) (by omega) (by omega) (by omega) (by omega) (fun S17 e17 C17 F17 => ?_)
      refine x_fall ?_
      refine x_blk (b := 3) (a_12 E) rfl ?_
      unfold b_12_3
      refine x_vret ?_
      have ei : (((σ 16 (a1 * 12 + 0).toNat * 3 + σ 16 (a1 * 12 + 1).toNat) * 5 + σ 16 (a1 * 12 + 2).toNat) * 3 + a2).toNat = v4.toNat := by congr 1; omega
      have ek : (σ 16 (a1 * 12 + 0).toNat).toNat = v1.toNat := by congr 1; omega
      refine k _ C17 (fun q m hq => x_up_nr e17 hq) (fun m => ?_)
      rw [ei, ek]
      by_cases c : m = v4.toNat
      · rw [if_pos ⟨c, by omega⟩, c]
        exact x_up_at e17
      · rw [if_neg (fun z => c z.1)]
        exact x_up_ne e17 (fun z => c z.2)
    · skip
      refine x_iload rfl ?_
      refine x_if_eq (by omega) (by omega) (fun z => absurd z (by omega)) (fun z18 => ?_)
      refine x_fall ?_
      refine x_blk (b := 4) (a_12 E) rfl ?_
      unfold b_12_4
      refine x_aload rfl ?_
      refine x_getR (r := 11) rfl (by decide) (by decide) rfl ?_
      refine x_iload rfl ?_
      refine x_iload rfl ?_
      refine x_astG y_a17 C0 (by decide) (y_fr_rf (lo := 0) (hi := 138)) (by omega) (by omega) (by omega) (by omega) (fun S19 e19 C19 F19 => ?_)
      refine x_fall ?_
      refine x_blk (b := 3) (a_12 E) rfl ?_
      unfold b_12_3
      refine x_vret ?_
      have ei : (((σ 16 (a1 * 12 + 0).toNat * 3 + σ 16 (a1 * 12 + 1).toNat) * 5 + σ 16 (a1 * 12 + 2).toNat) * 3 + a2).toNat = v4.toNat := by congr 1; omega
      have ek : (σ 16 (a1 * 12 + 0).toNat).toNat = v1.toNat := by congr 1; omega
      refine k _ C19 (fun q m hq => x_up_nr e19 hq) (fun m => ?_)
      rw [ei, ek]
      by_cases c : m = v4.toNat
      · rw [if_pos ⟨c, by omega⟩, c]
        exact x_up_at e19
      · rw [if_neg (fun z => c z.1)]
        exact x_up_ne e19 (fun z => c z.2)
/-- a rule offered, by one look -/
theorem y_ofr {A τ S : Nat → Int} {R l : Nat} (hl : l < 3) (b0 : 0 ≤ A (63 + 12 * R) ∧ A (63 + 12 * R) ≤ 1) (b1 : 0 ≤ A (64 + 12 * R) ∧ A (64 + 12 * R) ≤ 2) (b2 : 0 ≤ A (65 + 12 * R) ∧ A (65 + 12 * R) ≤ 4) (h : ∀ P Q F L : Nat, P < 2 → Q < 3 → F < 5 → L < 3 → τ (((P * 3 + Q) * 5 + F) * 3 + L) = if L < l then y_sel A P Q F L (R + 1) else y_sel A P Q F L R) (hS : ∀ m, S m = if (A (66 + 12 * R) = 2 ∨ A (66 + 12 * R) = l) ∧ m = (((A (63 + 12 * R) * 3 + A (64 + 12 * R)) * 5 + A (65 + 12 * R)) * 3 + l).toNat ∧ (τ (((A (63 + 12 * R) * 3 + A (64 + 12 * R)) * 5 + A (65 + 12 * R)) * 3 + l).toNat < 0 ∨ A (A (63 + 12 * R)).toNat % 2 = 1) then (R : Int) else τ m) : ∀ P Q F L : Nat, P < 2 → Q < 3 → F < 5 → L < 3 → S (((P * 3 + Q) * 5 + F) * 3 + L) = if L < l + 1 then y_sel A P Q F L (R + 1) else y_sel A P Q F L R := by
  intro P Q F L h1 h2 h3 h4
  have h9 := h P Q F L h1 h2 h3 h4
  rw [hS]
  by_cases c : L = l
  · subst c
    rw [if_neg (by omega)] at h9
    rw [if_pos (show L < L + 1 by omega), y_sel_s]
    by_cases m : A (63 + 12 * R) = P ∧ A (64 + 12 * R) = Q ∧ A (65 + 12 * R) = F
    · obtain ⟨m1, m2, m3⟩ := m
      have ei : (((A (63 + 12 * R) * 3 + A (64 + 12 * R)) * 5 + A (65 + 12 * R)) * 3 + L).toNat = ((P * 3 + Q) * 5 + F) * 3 + L := by rw [m1, m2, m3]; omega
      have kd : A (A (63 + 12 * R)).toNat = A (P : Int).toNat := by rw [m1]
      rw [ei, h9]
      by_cases s : A (66 + 12 * R) = 2 ∨ A (66 + 12 * R) = L
      · by_cases d : y_sel A P Q F L R < 0 ∨ A (P : Int).toNat % 2 = 1
        · rw [if_pos ⟨s, rfl, by rw [kd]; exact d⟩, if_pos ⟨⟨m1, m2, m3, s⟩, d⟩]
        · rw [if_neg (fun z => d (by have h8 := z.2.2; rw [kd] at h8; exact h8)), if_neg (fun z => d z.2)]
      · rw [if_neg (fun z => s z.1), if_neg (fun z => s z.1.2.2.2)]
    · rw [if_neg (fun z => m (by have := z.2.1; omega)), if_neg (fun z => m ⟨z.1.1, z.1.2.1, z.1.2.2.1⟩)]
      exact h9
  · rw [if_neg (fun z => c (by have := z.2.1; omega)), h9]
    by_cases d : L < l
    · rw [if_pos d, if_pos (by omega)]
    · rw [if_neg d, if_neg (by omega)]
theorem kx_48_4_b5 {E : q_E} {σ : x_S} {Q : Option q_V → x_S → Prop} (C0 : y_CI σ) {A : Nat → Int} (hP : y_PI A) (hA : y_AG (y_cv σ 4) A) (k : ∀ τ, y_CI τ → (∀ q m, q ≠ 10 → τ q m = σ q m) → y_CH τ 4 A → Q none τ) {r : Int} (r1 : 0 ≤ r) (r2 : r < A 62) {s : Int} (hs : s = A (66 + 12 * r.toNat)) (ho : ∀ τ, y_CI τ → (∀ q m, q ≠ 10 → τ q m = σ q m) → (∀ P Q F L : Nat, P < 2 → Q < 3 → F < 5 → L < 3 → τ 10 (((P * 3 + Q) * 5 + F) * 3 + L) = y_sel A P Q F L (r + 1).toNat) → x_G E m_48 Q (t_48 6) [(0, x_R 4), (1, x_I (r + 1))] [] τ) : ∀ (N : Nat) (l : Int) (τ : x_S), (3 - l).toNat = N → 0 ≤ l → l ≤ 3 → y_CI τ → (∀ q m, q ≠ 10 → τ q m = σ q m) → (∀ P Q F L : Nat, P < 2 → Q < 3 → F < 5 → L < 3 → τ 10 (((P * 3 + Q) * 5 + F) * 3 + L) = if (L : Int) < l then y_sel A P Q F L (r + 1).toNat else y_sel A P Q F L r.toNat) → x_G E m_48 Q (t_48 5) [(0, x_R 4), (1, x_I r), (2, x_I s), (3, x_I l)] [] τ := by
  have h62 := hP.2.2.2.1
  intro N
  induction N using Nat.strongRecOn with
  | ind N ih =>
    intro l τ hN l1 l2 C fr hv
    have hq := hP.2.2.2.2 r.toNat (by omega)
    have b0 : 0 ≤ A (63 + 12 * r.toNat) ∧ A (63 + 12 * r.toNat) ≤ 1 := hq.1
    have b1 : 0 ≤ A (64 + 12 * r.toNat) ∧ A (64 + 12 * r.toNat) ≤ 2 := by rw [show 64 + 12 * r.toNat = 63 + 12 * r.toNat + 1 by omega]; exact hq.2.1
    have b2 : 0 ≤ A (65 + 12 * r.toNat) ∧ A (65 + 12 * r.toNat) ≤ 4 := by rw [show 65 + 12 * r.toNat = 63 + 12 * r.toNat + 2 by omega]; exact hq.2.2.1
    have b3 : 0 ≤ A (66 + 12 * r.toNat) ∧ A (66 + 12 * r.toNat) ≤ 2 := by rw [show 66 + 12 * r.toNat = 63 + 12 * r.toNat + 3 by omega]; exact hq.2.2.2.1
    have w0 : τ 9 (r * 12 + 0).toNat = A (63 + 12 * r.toNat) := (fun (_ : r < A 62) => by
      have e := y_PG_w hA (r := r.toNat) (c := 0) (by omega) (by have := y_PI_pc hP (r := r.toNat) (by omega); omega)
      rw [show (r * 12 + 0).toNat = 12 * r.toNat + 0 by omega, fr _ _ (by decide)]
      exact e.trans (congrArg A (by omega))) r2
    have w1 : τ 9 (r * 12 + 1).toNat = A (64 + 12 * r.toNat) := (fun (_ : r < A 62) => by
      have e := y_PG_w hA (r := r.toNat) (c := 1) (by omega) (by have := y_PI_pc hP (r := r.toNat) (by omega); omega)
      rw [show (r * 12 + 1).toNat = 12 * r.toNat + 1 by omega, fr _ _ (by decide)]
      exact e.trans (congrArg A (by omega))) r2
    have w2 : τ 9 (r * 12 + 2).toNat = A (65 + 12 * r.toNat) := (fun (_ : r < A 62) => by
      have e := y_PG_w hA (r := r.toNat) (c := 2) (by omega) (by have := y_PI_pc hP (r := r.toNat) (by omega); omega)
      rw [show (r * 12 + 2).toNat = 12 * r.toNat + 2 by omega, fr _ _ (by decide)]
      exact e.trans (congrArg A (by omega))) r2
    have k0 : τ 7 (A (63 + 12 * r.toNat)).toNat = A (A (63 + 12 * r.toNat)).toNat := (fr _ _ (by decide)).trans (y_PG_k hA (by omega))
    refine x_blk (b := 5) (a_48 E) rfl ?_
    unfold b_48_5
    refine x_iload rfl ?_
    refine x_push 3 rfl ?_
    refine x_icmp_ge (by omega) (by omega) (by omega) (by omega) (fun z1 => ?_) (fun z1 => ?_)
    · skip
      refine x_iload rfl ?_
      refine x_push 2 rfl ?_
      refine x_icmp_eq (by omega) (by omega) (by omega) (by omega) (fun z2 => ?_) (fun z2 => ?_)
      · skip
        refine x_blk (b := 3) (a_48 E) rfl ?_
        unfold b_48_3
        refine x_aload rfl ?_
        refine x_iload rfl ?_
        refine x_iload rfl ?_
        refine x_cV (fun _ => rfl) rfl (by decide) (Nat.le_of_ble_eq_true rfl) ?_
        refine kx_12_4 (by omega) (by omega) (by omega) (by omega) C (by rw [w0]; omega) (by rw [w1]; omega) (by rw [w2]; omega) (fun S3 C3 f3 w3 => ?_)
        refine x_fall ?_
        refine x_blk (b := 4) (a_48 E) rfl ?_
        unfold b_48_4
        refine x_iinc 1 rfl rfl ?_
        refine x_goto ?_
        refine x_G_lo (lo' := [(0, x_R 4), (1, x_I _), (2, x_I _), (3, x_I _)]) ⟨rfl, rfl, rfl, rfl, trivial⟩ ?_
        have g1 : ∀ P Q F L : Nat, P < 2 → Q < 3 → F < 5 → L < 3 → τ 10 (((P * 3 + Q) * 5 + F) * 3 + L) = if L < l.toNat then y_sel A P Q F L (r.toNat + 1) else y_sel A P Q F L r.toNat := by
          intro P Q F L h1 h2 h3 h4
          have e8 := hv P Q F L h1 h2 h3 h4
          rw [show (r + 1).toNat = r.toNat + 1 by omega] at e8
          by_cases c : (L : Int) < l
          · rw [if_pos c] at e8; rw [if_pos (by omega)]; exact e8
          · rw [if_neg c] at e8; rw [if_neg (by omega)]; exact e8
        have g2 : ∀ m, S3 10 m = if (A (66 + 12 * r.toNat) = 2 ∨ A (66 + 12 * r.toNat) = (l.toNat : Int)) ∧ m = (((A (63 + 12 * r.toNat) * 3 + A (64 + 12 * r.toNat)) * 5 + A (65 + 12 * r.toNat)) * 3 + (l.toNat : Int)).toNat ∧ (τ 10 (((A (63 + 12 * r.toNat) * 3 + A (64 + 12 * r.toNat)) * 5 + A (65 + 12 * r.toNat)) * 3 + (l.toNat : Int)).toNat < 0 ∨ A (A (63 + 12 * r.toNat)).toNat % 2 = 1) then (r.toNat : Int) else τ 10 m := by
          intro m
          rw [w3 m, w0, w1, w2, show (l.toNat : Int) = l by omega, show (r.toNat : Int) = r by omega, k0]
          by_cases c : m = (((A (63 + 12 * r.toNat) * 3 + A (64 + 12 * r.toNat)) * 5 + A (65 + 12 * r.toNat)) * 3 + l).toNat ∧ (τ 10 (((A (63 + 12 * r.toNat) * 3 + A (64 + 12 * r.toNat)) * 5 + A (65 + 12 * r.toNat)) * 3 + l).toNat < 0 ∨ A (A (63 + 12 * r.toNat)).toNat % 2 = 1)
          · rw [if_pos c, if_pos ⟨by omega, c⟩]
          · rw [if_neg c, if_neg (fun z => c z.2)]
        refine ih _ (by omega) (l + 1) S3 rfl (by omega) (by omega) C3 (fun q m hq => (f3 q m hq).trans (fr q m hq)) ?_
        intro P Q F L h1 h2 h3 h4
        have e8 := y_ofr (by omega) b0 b1 b2 g1 g2 P Q F L h1 h2 h3 h4
        rw [show (r + 1).toNat = r.toNat + 1 by omega]
        by_cases c : (L : Int) < l + 1
        · rw [if_pos c]; rw [if_pos (by omega)] at e8; exact e8
        · rw [if_neg c]; rw [if_neg (by omega)] at e8; exact e8
      · skip
        refine x_iload rfl ?_
        refine x_iload rfl ?_
        refine x_icmp_ne (by omega) (by omega) (by omega) (by omega) (fun z4 => ?_) (fun z4 => ?_)
        · skip
          refine x_fall ?_
          refine x_blk (b := 3) (a_48 E) rfl ?_
          unfold b_48_3
          refine x_aload rfl ?_
          refine x_iload rfl ?_
          refine x_iload rfl ?_
          refine x_cV (fun _ => rfl) rfl (by decide) (Nat.le_of_ble_eq_true rfl) ?_
          refine kx_12_4 (by omega) (by omega) (by omega) (by omega) C (by rw [w0]; omega) (by rw [w1]; omega) (by rw [w2]; omega) (fun S5 C5 f5 w5 => ?_)
          refine x_fall ?_
          refine x_blk (b := 4) (a_48 E) rfl ?_
          unfold b_48_4
          refine x_iinc 1 rfl rfl ?_
          refine x_goto ?_
          refine x_G_lo (lo' := [(0, x_R 4), (1, x_I _), (2, x_I _), (3, x_I _)]) ⟨rfl, rfl, rfl, rfl, trivial⟩ ?_
          have g1 : ∀ P Q F L : Nat, P < 2 → Q < 3 → F < 5 → L < 3 → τ 10 (((P * 3 + Q) * 5 + F) * 3 + L) = if L < l.toNat then y_sel A P Q F L (r.toNat + 1) else y_sel A P Q F L r.toNat := by
            intro P Q F L h1 h2 h3 h4
            have e8 := hv P Q F L h1 h2 h3 h4
            rw [show (r + 1).toNat = r.toNat + 1 by omega] at e8
            by_cases c : (L : Int) < l
            · rw [if_pos c] at e8; rw [if_pos (by omega)]; exact e8
            · rw [if_neg c] at e8; rw [if_neg (by omega)]; exact e8
          have g2 : ∀ m, S5 10 m = if (A (66 + 12 * r.toNat) = 2 ∨ A (66 + 12 * r.toNat) = (l.toNat : Int)) ∧ m = (((A (63 + 12 * r.toNat) * 3 + A (64 + 12 * r.toNat)) * 5 + A (65 + 12 * r.toNat)) * 3 + (l.toNat : Int)).toNat ∧ (τ 10 (((A (63 + 12 * r.toNat) * 3 + A (64 + 12 * r.toNat)) * 5 + A (65 + 12 * r.toNat)) * 3 + (l.toNat : Int)).toNat < 0 ∨ A (A (63 + 12 * r.toNat)).toNat % 2 = 1) then (r.toNat : Int) else τ 10 m := by
            intro m
            rw [w5 m, w0, w1, w2, show (l.toNat : Int) = l by omega, show (r.toNat : Int) = r by omega, k0]
            by_cases c : m = (((A (63 + 12 * r.toNat) * 3 + A (64 + 12 * r.toNat)) * 5 + A (65 + 12 * r.toNat)) * 3 + l).toNat ∧ (τ 10 (((A (63 + 12 * r.toNat) * 3 + A (64 + 12 * r.toNat)) * 5 + A (65 + 12 * r.toNat)) * 3 + l).toNat < 0 ∨ A (A (63 + 12 * r.toNat)).toNat % 2 = 1)
            · rw [if_pos c, if_pos ⟨by omega, c⟩]
            · rw [if_neg c, if_neg (fun z => c z.2)]
          refine ih _ (by omega) (l + 1) S5 rfl (by omega) (by omega) C5 (fun q m hq => (f5 q m hq).trans (fr q m hq)) ?_
          intro P Q F L h1 h2 h3 h4
          have e8 := y_ofr (by omega) b0 b1 b2 g1 g2 P Q F L h1 h2 h3 h4
          rw [show (r + 1).toNat = r.toNat + 1 by omega]
          by_cases c : (L : Int) < l + 1
          · rw [if_pos c]; rw [if_pos (by omega)] at e8; exact e8
          · rw [if_neg c]; rw [if_neg (by omega)] at e8; exact e8
        · skip
          refine x_blk (b := 4) (a_48 E) rfl ?_
          unfold b_48_4
          refine x_iinc 1 rfl rfl ?_
          refine x_goto ?_
          refine x_G_lo (lo' := [(0, x_R 4), (1, x_I _), (2, x_I _), (3, x_I _)]) ⟨rfl, rfl, rfl, rfl, trivial⟩ ?_
          have g1 : ∀ P Q F L : Nat, P < 2 → Q < 3 → F < 5 → L < 3 → τ 10 (((P * 3 + Q) * 5 + F) * 3 + L) = if L < l.toNat then y_sel A P Q F L (r.toNat + 1) else y_sel A P Q F L r.toNat := by
            intro P Q F L h1 h2 h3 h4
            have e8 := hv P Q F L h1 h2 h3 h4
            rw [show (r + 1).toNat = r.toNat + 1 by omega] at e8
            by_cases c : (L : Int) < l
            · rw [if_pos c] at e8; rw [if_pos (by omega)]; exact e8
            · rw [if_neg c] at e8; rw [if_neg (by omega)]; exact e8
          have g2 : ∀ m, τ 10 m = if (A (66 + 12 * r.toNat) = 2 ∨ A (66 + 12 * r.toNat) = (l.toNat : Int)) ∧ m = (((A (63 + 12 * r.toNat) * 3 + A (64 + 12 * r.toNat)) * 5 + A (65 + 12 * r.toNat)) * 3 + (l.toNat : Int)).toNat ∧ (τ 10 (((A (63 + 12 * r.toNat) * 3 + A (64 + 12 * r.toNat)) * 5 + A (65 + 12 * r.toNat)) * 3 + (l.toNat : Int)).toNat < 0 ∨ A (A (63 + 12 * r.toNat)).toNat % 2 = 1) then (r.toNat : Int) else τ 10 m := by
            intro m
            rw [if_neg]
            rintro ⟨z, _⟩
            omega
          refine ih _ (by omega) (l + 1) τ rfl (by omega) (by omega) C fr ?_
          intro P Q F L h1 h2 h3 h4
          have e8 := y_ofr (by omega) b0 b1 b2 g1 g2 P Q F L h1 h2 h3 h4
          rw [show (r + 1).toNat = r.toNat + 1 by omega]
          by_cases c : (L : Int) < l + 1
          · rw [if_pos c]; rw [if_pos (by omega)] at e8; exact e8
          · rw [if_neg c]; rw [if_neg (by omega)] at e8; exact e8
    · skip
      refine x_blk (b := 2) (a_48 E) rfl ?_
      unfold b_48_2
      refine x_iinc 1 rfl rfl ?_
      refine x_goto ?_
      refine x_G_lo (lo' := [(0, x_R 4), (1, x_I _)]) ⟨rfl, rfl, trivial⟩ ?_
      exact ho _ C fr (fun P Q F L h1 h2 h3 h4 => by
        have e8 := hv P Q F L h1 h2 h3 h4
        rw [if_pos (by omega)] at e8
        exact e8)
theorem kx_48_4_b6 {E : q_E} {σ : x_S} {Q : Option q_V → x_S → Prop} (C0 : y_CI σ) {A : Nat → Int} (hP : y_PI A) (hA : y_AG (y_cv σ 4) A) (k : ∀ τ, y_CI τ → (∀ q m, q ≠ 10 → τ q m = σ q m) → y_CH τ 4 A → Q none τ) : ∀ (N : Nat) (r : Int) (τ : x_S), (16 - r).toNat = N → 0 ≤ r → r ≤ A 62 → y_CI τ → (∀ q m, q ≠ 10 → τ q m = σ q m) → (∀ P Q F L : Nat, P < 2 → Q < 3 → F < 5 → L < 3 → τ 10 (((P * 3 + Q) * 5 + F) * 3 + L) = y_sel A P Q F L r.toNat) → x_G E m_48 Q (t_48 6) [(0, x_R 4), (1, x_I r)] [] τ := by
  have h62 := hP.2.2.2.1
  intro N
  induction N using Nat.strongRecOn with
  | ind N ih =>
    intro r τ hN i1 i2 C fr hv
    have n6 : τ 4 6 = A 62 := (fr _ _ (by decide)).trans (y_PG_n hA)
    have w3 : r < A 62 → τ 9 (r * 12 + 3).toNat = A (66 + 12 * r.toNat) := fun h => by
      have e := y_PG_w hA (r := r.toNat) (c := 3) (by omega) (by have := y_PI_pc hP (r := r.toNat) (by omega); omega)
      rw [show (r * 12 + 3).toNat = 12 * r.toNat + 3 by omega, fr _ _ (by decide)]
      exact e.trans (congrArg A (by omega))
    refine x_blk (b := 6) (a_48 E) rfl ?_
    unfold b_48_6
    refine x_iload rfl ?_
    refine x_aload rfl ?_
    refine x_getIG y_f4_6 C ?_
    intro g1a g1b
    refine x_icmp_ge (by omega) (by omega) (by omega) (by omega) (fun z2 => ?_) (fun z2 => ?_)
    · skip
      refine x_aload rfl ?_
      refine x_iload rfl ?_
      refine x_push 3 rfl ?_
      refine x_cV (fun _ => rfl) rfl (by decide) (Nat.le_of_ble_eq_true rfl) ?_
      refine kx_6_4 (by omega) (by omega) (by omega) (by omega) C (fun v3 v3a v3b v3c => ?_)
      refine x_istore ?_
      refine x_push 0 rfl ?_
      refine x_istore ?_
      refine x_X_lo (lo' := [(0, x_R 4), (1, x_I _), (2, x_I _), (3, x_I _)]) ⟨rfl, rfl, rfl, rfl, trivial⟩ ?_
      refine x_fall ?_
      refine x_G_lo (lo' := [(0, x_R 4), (1, x_I _), (2, x_I _), (3, x_I _)]) ⟨rfl, rfl, rfl, rfl, trivial⟩ ?_
      refine kx_48_4_b5 C0 hP hA k (r := r) i1 (by omega) (s := _) ?_ (fun τ' c f g => ih _ (by omega) (r + 1) τ' rfl (by omega) (by omega) c f g) _ 0 τ rfl (by omega) (by omega) C fr (fun P Q F L h1 h2 h3 h4 => ?_)
      · rw [← w3 (by omega)]; omega
      · rw [if_neg (by omega)]; exact hv P Q F L h1 h2 h3 h4
    · skip
      refine x_blk (b := 1) (a_48 E) rfl ?_
      unfold b_48_1
      refine x_vret ?_
      refine k τ C fr (fun P Q F L h1 h2 h3 h4 => ?_)
      have e8 := hv P Q F L h1 h2 h3 h4
      rw [show r.toNat = (A 62).toNat by omega] at e8
      exact e8
theorem kx_48_4 {E : q_E} {σ : x_S} {Q : Option q_V → x_S → Prop} (C0 : y_CI σ) {A : Nat → Int} (hP : y_PI A) (hA : y_AG (y_cv σ 4) A) (k : ∀ τ, y_CI τ → (∀ q m, q ≠ 10 → τ q m = σ q m) → y_CH τ 4 A → Q none τ) : x_P E 48 [x_R 4] σ Q := by
  have h62 := hP.2.2.2.1
  refine x_Mt e_48 (h_48 E) (Nat.le_of_ble_eq_true rfl) t_48 rfl ?_
  refine x_blk (b := 0) (a_48 E) rfl ?_
  unfold b_48_0
  refine x_aload rfl ?_
  refine x_getR (r := 4) rfl (by decide) (by decide) rfl ?_
  refine x_push (-4) rfl ?_
  refine x_cS (fun _ => rfl) (Nat.le_of_ble_eq_true rfl) ?_
  refine ke_27 y_a10 (by decide) (by decide) C0 (fun S1 C1 f1 w1 => ?_)
  refine x_push 0 rfl ?_
  refine x_istore ?_
  refine x_fall ?_
  refine x_G_lo (lo' := [(0, x_R 4), (1, x_I _)]) ⟨rfl, rfl, trivial⟩ ?_
  refine kx_48_4_b6 C0 hP hA k _ 0 S1 rfl (by omega) (by omega) C1 f1 (fun P Q F L h1 h2 h3 h4 => ?_)
  rw [w1 _ (by omega)]
  rfl
theorem kx_48_11_b5 {E : q_E} {σ : x_S} {Q : Option q_V → x_S → Prop} (C0 : y_CI σ) {A : Nat → Int} (hP : y_PI A) (hA : y_AG (y_cv σ 11) A) (k : ∀ τ, y_CI τ → (∀ q m, q ≠ 17 → τ q m = σ q m) → y_CH τ 11 A → Q none τ) {r : Int} (r1 : 0 ≤ r) (r2 : r < A 62) {s : Int} (hs : s = A (66 + 12 * r.toNat)) (ho : ∀ τ, y_CI τ → (∀ q m, q ≠ 17 → τ q m = σ q m) → (∀ P Q F L : Nat, P < 2 → Q < 3 → F < 5 → L < 3 → τ 17 (((P * 3 + Q) * 5 + F) * 3 + L) = y_sel A P Q F L (r + 1).toNat) → x_G E m_48 Q (t_48 6) [(0, x_R 11), (1, x_I (r + 1))] [] τ) : ∀ (N : Nat) (l : Int) (τ : x_S), (3 - l).toNat = N → 0 ≤ l → l ≤ 3 → y_CI τ → (∀ q m, q ≠ 17 → τ q m = σ q m) → (∀ P Q F L : Nat, P < 2 → Q < 3 → F < 5 → L < 3 → τ 17 (((P * 3 + Q) * 5 + F) * 3 + L) = if (L : Int) < l then y_sel A P Q F L (r + 1).toNat else y_sel A P Q F L r.toNat) → x_G E m_48 Q (t_48 5) [(0, x_R 11), (1, x_I r), (2, x_I s), (3, x_I l)] [] τ := by
  have h62 := hP.2.2.2.1
  intro N
  induction N using Nat.strongRecOn with
  | ind N ih =>
    intro l τ hN l1 l2 C fr hv
    have hq := hP.2.2.2.2 r.toNat (by omega)
    have b0 : 0 ≤ A (63 + 12 * r.toNat) ∧ A (63 + 12 * r.toNat) ≤ 1 := hq.1
    have b1 : 0 ≤ A (64 + 12 * r.toNat) ∧ A (64 + 12 * r.toNat) ≤ 2 := by rw [show 64 + 12 * r.toNat = 63 + 12 * r.toNat + 1 by omega]; exact hq.2.1
    have b2 : 0 ≤ A (65 + 12 * r.toNat) ∧ A (65 + 12 * r.toNat) ≤ 4 := by rw [show 65 + 12 * r.toNat = 63 + 12 * r.toNat + 2 by omega]; exact hq.2.2.1
    have b3 : 0 ≤ A (66 + 12 * r.toNat) ∧ A (66 + 12 * r.toNat) ≤ 2 := by rw [show 66 + 12 * r.toNat = 63 + 12 * r.toNat + 3 by omega]; exact hq.2.2.2.1
    have w0 : τ 16 (r * 12 + 0).toNat = A (63 + 12 * r.toNat) := (fun (_ : r < A 62) => by
      have e := y_PG_w hA (r := r.toNat) (c := 0) (by omega) (by have := y_PI_pc hP (r := r.toNat) (by omega); omega)
      rw [show (r * 12 + 0).toNat = 12 * r.toNat + 0 by omega, fr _ _ (by decide)]
      exact e.trans (congrArg A (by omega))) r2
    have w1 : τ 16 (r * 12 + 1).toNat = A (64 + 12 * r.toNat) := (fun (_ : r < A 62) => by
      have e := y_PG_w hA (r := r.toNat) (c := 1) (by omega) (by have := y_PI_pc hP (r := r.toNat) (by omega); omega)
      rw [show (r * 12 + 1).toNat = 12 * r.toNat + 1 by omega, fr _ _ (by decide)]
      exact e.trans (congrArg A (by omega))) r2
    have w2 : τ 16 (r * 12 + 2).toNat = A (65 + 12 * r.toNat) := (fun (_ : r < A 62) => by
      have e := y_PG_w hA (r := r.toNat) (c := 2) (by omega) (by have := y_PI_pc hP (r := r.toNat) (by omega); omega)
      rw [show (r * 12 + 2).toNat = 12 * r.toNat + 2 by omega, fr _ _ (by decide)]
      exact e.trans (congrArg A (by omega))) r2
    have k0 : τ 14 (A (63 + 12 * r.toNat)).toNat = A (A (63 + 12 * r.toNat)).toNat := (fr _ _ (by decide)).trans (y_PG_k hA (by omega))
    refine x_blk (b := 5) (a_48 E) rfl ?_
    unfold b_48_5
    refine x_iload rfl ?_
    refine x_push 3 rfl ?_
    refine x_icmp_ge (by omega) (by omega) (by omega) (by omega) (fun z1 => ?_) (fun z1 => ?_)
    · skip
      refine x_iload rfl ?_
      refine x_push 2 rfl ?_
      refine x_icmp_eq (by omega) (by omega) (by omega) (by omega) (fun z2 => ?_) (fun z2 => ?_)
      · skip
        refine x_blk (b := 3) (a_48 E) rfl ?_
        unfold b_48_3
        refine x_aload rfl ?_
        refine x_iload rfl ?_
        refine x_iload rfl ?_
        refine x_cV (fun _ => rfl) rfl (by decide) (Nat.le_of_ble_eq_true rfl) ?_
        refine kx_12_11 (by omega) (by omega) (by omega) (by omega) C (by rw [w0]; omega) (by rw [w1]; omega) (by rw [w2]; omega) (fun S3 C3 f3 w3 => ?_)
        refine x_fall ?_
        refine x_blk (b := 4) (a_48 E) rfl ?_
        unfold b_48_4
        refine x_iinc 1 rfl rfl ?_
        refine x_goto ?_
        refine x_G_lo (lo' := [(0, x_R 11), (1, x_I _), (2, x_I _), (3, x_I _)]) ⟨rfl, rfl, rfl, rfl, trivial⟩ ?_
        have g1 : ∀ P Q F L : Nat, P < 2 → Q < 3 → F < 5 → L < 3 → τ 17 (((P * 3 + Q) * 5 + F) * 3 + L) = if L < l.toNat then y_sel A P Q F L (r.toNat + 1) else y_sel A P Q F L r.toNat := by
          intro P Q F L h1 h2 h3 h4
          have e8 := hv P Q F L h1 h2 h3 h4
          rw [show (r + 1).toNat = r.toNat + 1 by omega] at e8
          by_cases c : (L : Int) < l
          · rw [if_pos c] at e8; rw [if_pos (by omega)]; exact e8
          · rw [if_neg c] at e8; rw [if_neg (by omega)]; exact e8
        have g2 : ∀ m, S3 17 m = if (A (66 + 12 * r.toNat) = 2 ∨ A (66 + 12 * r.toNat) = (l.toNat : Int)) ∧ m = (((A (63 + 12 * r.toNat) * 3 + A (64 + 12 * r.toNat)) * 5 + A (65 + 12 * r.toNat)) * 3 + (l.toNat : Int)).toNat ∧ (τ 17 (((A (63 + 12 * r.toNat) * 3 + A (64 + 12 * r.toNat)) * 5 + A (65 + 12 * r.toNat)) * 3 + (l.toNat : Int)).toNat < 0 ∨ A (A (63 + 12 * r.toNat)).toNat % 2 = 1) then (r.toNat : Int) else τ 17 m := by
          intro m
          rw [w3 m, w0, w1, w2, show (l.toNat : Int) = l by omega, show (r.toNat : Int) = r by omega, k0]
          by_cases c : m = (((A (63 + 12 * r.toNat) * 3 + A (64 + 12 * r.toNat)) * 5 + A (65 + 12 * r.toNat)) * 3 + l).toNat ∧ (τ 17 (((A (63 + 12 * r.toNat) * 3 + A (64 + 12 * r.toNat)) * 5 + A (65 + 12 * r.toNat)) * 3 + l).toNat < 0 ∨ A (A (63 + 12 * r.toNat)).toNat % 2 = 1)
          · rw [if_pos c, if_pos ⟨by omega, c⟩]
          · rw [if_neg c, if_neg (fun z => c z.2)]
        refine ih _ (by omega) (l + 1) S3 rfl (by omega) (by omega) C3 (fun q m hq => (f3 q m hq).trans (fr q m hq)) ?_
        intro P Q F L h1 h2 h3 h4
        have e8 := y_ofr (by omega) b0 b1 b2 g1 g2 P Q F L h1 h2 h3 h4
        rw [show (r + 1).toNat = r.toNat + 1 by omega]
        by_cases c : (L : Int) < l + 1
        · rw [if_pos c]; rw [if_pos (by omega)] at e8; exact e8
        · rw [if_neg c]; rw [if_neg (by omega)] at e8; exact e8
      · skip
        refine x_iload rfl ?_
        refine x_iload rfl ?_
        refine x_icmp_ne (by omega) (by omega) (by omega) (by omega) (fun z4 => ?_) (fun z4 => ?_)
        · skip
          refine x_fall ?_
          refine x_blk (b := 3) (a_48 E) rfl ?_
          unfold b_48_3
          refine x_aload rfl ?_
          refine x_iload rfl ?_
          refine x_iload rfl ?_
          refine x_cV (fun _ => rfl) rfl (by decide) (Nat.le_of_ble_eq_true rfl) ?_
          refine kx_12_11 (by omega) (by omega) (by omega) (by omega) C (by rw [w0]; omega) (by rw [w1]; omega) (by rw [w2]; omega) (fun S5 C5 f5 w5 => ?_)
          refine x_fall ?_
          refine x_blk (b := 4) (a_48 E) rfl ?_
          unfold b_48_4
          refine x_iinc 1 rfl rfl ?_
          refine x_goto ?_
          refine x_G_lo (lo' := [(0, x_R 11), (1, x_I _), (2, x_I _), (3, x_I _)]) ⟨rfl, rfl, rfl, rfl, trivial⟩ ?_
          have g1 : ∀ P Q F L : Nat, P < 2 → Q < 3 → F < 5 → L < 3 → τ 17 (((P * 3 + Q) * 5 + F) * 3 + L) = if L < l.toNat then y_sel A P Q F L (r.toNat + 1) else y_sel A P Q F L r.toNat := by
            intro P Q F L h1 h2 h3 h4
            have e8 := hv P Q F L h1 h2 h3 h4
            rw [show (r + 1).toNat = r.toNat + 1 by omega] at e8
            by_cases c : (L : Int) < l
            · rw [if_pos c] at e8; rw [if_pos (by omega)]; exact e8
            · rw [if_neg c] at e8; rw [if_neg (by omega)]; exact e8
          have g2 : ∀ m, S5 17 m = if (A (66 + 12 * r.toNat) = 2 ∨ A (66 + 12 * r.toNat) = (l.toNat : Int)) ∧ m = (((A (63 + 12 * r.toNat) * 3 + A (64 + 12 * r.toNat)) * 5 + A (65 + 12 * r.toNat)) * 3 + (l.toNat : Int)).toNat ∧ (τ 17 (((A (63 + 12 * r.toNat) * 3 + A (64 + 12 * r.toNat)) * 5 + A (65 + 12 * r.toNat)) * 3 + (l.toNat : Int)).toNat < 0 ∨ A (A (63 + 12 * r.toNat)).toNat % 2 = 1) then (r.toNat : Int) else τ 17 m := by
            intro m
            rw [w5 m, w0, w1, w2, show (l.toNat : Int) = l by omega, show (r.toNat : Int) = r by omega, k0]
            by_cases c : m = (((A (63 + 12 * r.toNat) * 3 + A (64 + 12 * r.toNat)) * 5 + A (65 + 12 * r.toNat)) * 3 + l).toNat ∧ (τ 17 (((A (63 + 12 * r.toNat) * 3 + A (64 + 12 * r.toNat)) * 5 + A (65 + 12 * r.toNat)) * 3 + l).toNat < 0 ∨ A (A (63 + 12 * r.toNat)).toNat % 2 = 1)
            · rw [if_pos c, if_pos ⟨by omega, c⟩]
            · rw [if_neg c, if_neg (fun z => c z.2)]
          refine ih _ (by omega) (l + 1) S5 rfl (by omega) (by omega) C5 (fun q m hq => (f5 q m hq).trans (fr q m hq)) ?_
          intro P Q F L h1 h2 h3 h4
          have e8 := y_ofr (by omega) b0 b1 b2 g1 g2 P Q F L h1 h2 h3 h4
          rw [show (r + 1).toNat = r.toNat + 1 by omega]
          by_cases c : (L : Int) < l + 1
          · rw [if_pos c]; rw [if_pos (by omega)] at e8; exact e8
          · rw [if_neg c]; rw [if_neg (by omega)] at e8; exact e8
        · skip
          refine x_blk (b := 4) (a_48 E) rfl ?_
          unfold b_48_4
          refine x_iinc 1 rfl rfl ?_
          refine x_goto ?_
          refine x_G_lo (lo' := [(0, x_R 11), (1, x_I _), (2, x_I _), (3, x_I _)]) ⟨rfl, rfl, rfl, rfl, trivial⟩ ?_
          have g1 : ∀ P Q F L : Nat, P < 2 → Q < 3 → F < 5 → L < 3 → τ 17 (((P * 3 + Q) * 5 + F) * 3 + L) = if L < l.toNat then y_sel A P Q F L (r.toNat + 1) else y_sel A P Q F L r.toNat := by
            intro P Q F L h1 h2 h3 h4
            have e8 := hv P Q F L h1 h2 h3 h4
            rw [show (r + 1).toNat = r.toNat + 1 by omega] at e8
            by_cases c : (L : Int) < l
            · rw [if_pos c] at e8; rw [if_pos (by omega)]; exact e8
            · rw [if_neg c] at e8; rw [if_neg (by omega)]; exact e8
          have g2 : ∀ m, τ 17 m = if (A (66 + 12 * r.toNat) = 2 ∨ A (66 + 12 * r.toNat) = (l.toNat : Int)) ∧ m = (((A (63 + 12 * r.toNat) * 3 + A (64 + 12 * r.toNat)) * 5 + A (65 + 12 * r.toNat)) * 3 + (l.toNat : Int)).toNat ∧ (τ 17 (((A (63 + 12 * r.toNat) * 3 + A (64 + 12 * r.toNat)) * 5 + A (65 + 12 * r.toNat)) * 3 + (l.toNat : Int)).toNat < 0 ∨ A (A (63 + 12 * r.toNat)).toNat % 2 = 1) then (r.toNat : Int) else τ 17 m := by
            intro m
            rw [if_neg]
            rintro ⟨z, _⟩
            omega
          refine ih _ (by omega) (l + 1) τ rfl (by omega) (by omega) C fr ?_
          intro P Q F L h1 h2 h3 h4
          have e8 := y_ofr (by omega) b0 b1 b2 g1 g2 P Q F L h1 h2 h3 h4
          rw [show (r + 1).toNat = r.toNat + 1 by omega]
          by_cases c : (L : Int) < l + 1
          · rw [if_pos c]; rw [if_pos (by omega)] at e8; exact e8
          · rw [if_neg c]; rw [if_neg (by omega)] at e8; exact e8
    · skip
      refine x_blk (b := 2) (a_48 E) rfl ?_
      unfold b_48_2
      refine x_iinc 1 rfl rfl ?_
      refine x_goto ?_
      refine x_G_lo (lo' := [(0, x_R 11), (1, x_I _)]) ⟨rfl, rfl, trivial⟩ ?_
      exact ho _ C fr (fun P Q F L h1 h2 h3 h4 => by
        have e8 := hv P Q F L h1 h2 h3 h4
        rw [if_pos (by omega)] at e8
        exact e8)
theorem kx_48_11_b6 {E : q_E} {σ : x_S} {Q : Option q_V → x_S → Prop} (C0 : y_CI σ) {A : Nat → Int} (hP : y_PI A) (hA : y_AG (y_cv σ 11) A) (k : ∀ τ, y_CI τ → (∀ q m, q ≠ 17 → τ q m = σ q m) → y_CH τ 11 A → Q none τ) : ∀ (N : Nat) (r : Int) (τ : x_S), (16 - r).toNat = N → 0 ≤ r → r ≤ A 62 → y_CI τ → (∀ q m, q ≠ 17 → τ q m = σ q m) → (∀ P Q F L : Nat, P < 2 → Q < 3 → F < 5 → L < 3 → τ 17 (((P * 3 + Q) * 5 + F) * 3 + L) = y_sel A P Q F L r.toNat) → x_G E m_48 Q (t_48 6) [(0, x_R 11), (1, x_I r)] [] τ := by
  have h62 := hP.2.2.2.1
  intro N
  induction N using Nat.strongRecOn with
  | ind N ih =>
    intro r τ hN i1 i2 C fr hv
    have n6 : τ 11 6 = A 62 := (fr _ _ (by decide)).trans (y_PG_n hA)
    have w3 : r < A 62 → τ 16 (r * 12 + 3).toNat = A (66 + 12 * r.toNat) := fun h => by
      have e := y_PG_w hA (r := r.toNat) (c := 3) (by omega) (by have := y_PI_pc hP (r := r.toNat) (by omega); omega)
      rw [show (r * 12 + 3).toNat = 12 * r.toNat + 3 by omega, fr _ _ (by decide)]
      exact e.trans (congrArg A (by omega))
    refine x_blk (b := 6) (a_48 E) rfl ?_
    unfold b_48_6
    refine x_iload rfl ?_
    refine x_aload rfl ?_
    refine x_getIG y_f11_6 C ?_
    intro g1a g1b
    refine x_icmp_ge (by omega) (by omega) (by omega) (by omega) (fun z2 => ?_) (fun z2 => ?_)
    · skip
      refine x_aload rfl ?_
      refine x_iload rfl ?_
      refine x_push 3 rfl ?_
      refine x_cV (fun _ => rfl) rfl (by decide) (Nat.le_of_ble_eq_true rfl) ?_
      refine kx_6_11 (by omega) (by omega) (by omega) (by omega) C (fun v3 v3a v3b v3c => ?_)
      refine x_istore ?_
      refine x_push 0 rfl ?_
      refine x_istore ?_
      refine x_X_lo (lo' := [(0, x_R 11), (1, x_I _), (2, x_I _), (3, x_I _)]) ⟨rfl, rfl, rfl, rfl, trivial⟩ ?_
      refine x_fall ?_
      refine x_G_lo (lo' := [(0, x_R 11), (1, x_I _), (2, x_I _), (3, x_I _)]) ⟨rfl, rfl, rfl, rfl, trivial⟩ ?_
      refine kx_48_11_b5 C0 hP hA k (r := r) i1 (by omega) (s := _) ?_ (fun τ' c f g => ih _ (by omega) (r + 1) τ' rfl (by omega) (by omega) c f g) _ 0 τ rfl (by omega) (by omega) C fr (fun P Q F L h1 h2 h3 h4 => ?_)
      · rw [← w3 (by omega)]; omega
      · rw [if_neg (by omega)]; exact hv P Q F L h1 h2 h3 h4
    · skip
      refine x_blk (b := 1) (a_48 E) rfl ?_
      unfold b_48_1
      refine x_vret ?_
      refine k τ C fr (fun P Q F L h1 h2 h3 h4 => ?_)
      have e8 := hv P Q F L h1 h2 h3 h4
      rw [show r.toNat = (A 62).toNat by omega] at e8
      exact e8
theorem kx_48_11 {E : q_E} {σ : x_S} {Q : Option q_V → x_S → Prop} (C0 : y_CI σ) {A : Nat → Int} (hP : y_PI A) (hA : y_AG (y_cv σ 11) A) (k : ∀ τ, y_CI τ → (∀ q m, q ≠ 17 → τ q m = σ q m) → y_CH τ 11 A → Q none τ) : x_P E 48 [x_R 11] σ Q := by
  have h62 := hP.2.2.2.1
  refine x_Mt e_48 (h_48 E) (Nat.le_of_ble_eq_true rfl) t_48 rfl ?_
  refine x_blk (b := 0) (a_48 E) rfl ?_
  unfold b_48_0
  refine x_aload rfl ?_
  refine x_getR (r := 11) rfl (by decide) (by decide) rfl ?_
  refine x_push (-4) rfl ?_
  refine x_cS (fun _ => rfl) (Nat.le_of_ble_eq_true rfl) ?_
  refine ke_27 y_a17 (by decide) (by decide) C0 (fun S1 C1 f1 w1 => ?_)
  refine x_push 0 rfl ?_
  refine x_istore ?_
  refine x_fall ?_
  refine x_G_lo (lo' := [(0, x_R 11), (1, x_I _)]) ⟨rfl, rfl, trivial⟩ ?_
  refine kx_48_11_b6 C0 hP hA k _ 0 S1 rfl (by omega) (by omega) C1 f1 (fun P Q F L h1 h2 h3 h4 => ?_)
  rw [w1 _ (by omega)]
  rfl
