/-! programs as rows, what of a row counts, the text as a run of items -/
def y_ce (n : Nat) : Nat := 20 * (n / 12) + (if n % 12 < 2 then 4 * (n % 12) else if n % 12 < 4 then 6 + n % 12 else 8 + n % 12)
/-- a program of the class, as the reference would have it in a row -/
def y_cv (σ : x_S) (p m : Nat) : Int := if m < 2 then σ (p + 3) m else if m < 5 then σ (p + 2) (m - 2) else if m < 38 then σ (p + 1) (m - 5) else if m < 62 then σ (p + 4) (y_ce (m - 38)) else if m = 62 then σ p 6 else σ (p + 5) (m - 63)
theorem y_cv_x {σ τ : x_S} {p q m : Nat} (h1 : m < 2 → τ (p + 3) m = σ (q + 3) m) (h2 : 2 ≤ m → m < 5 → τ (p + 2) (m - 2) = σ (q + 2) (m - 2)) (h3 : 5 ≤ m → m < 38 → τ (p + 1) (m - 5) = σ (q + 1) (m - 5)) (h4 : 38 ≤ m → m < 62 → τ (p + 4) (y_ce (m - 38)) = σ (q + 4) (y_ce (m - 38))) (h5 : m = 62 → τ p 6 = σ q 6) (h6 : 63 ≤ m → τ (p + 5) (m - 63) = σ (q + 5) (m - 63)) : y_cv τ p m = y_cv σ q m := by
  unfold y_cv
  by_cases c1 : m < 2
  · rw [if_pos c1, if_pos c1]; exact h1 c1
  rw [if_neg c1, if_neg c1]
  by_cases c2 : m < 5
  · rw [if_pos c2, if_pos c2]; exact h2 (by omega) c2
  rw [if_neg c2, if_neg c2]
  by_cases c3 : m < 38
  · rw [if_pos c3, if_pos c3]; exact h3 (by omega) c3
  rw [if_neg c3, if_neg c3]
  by_cases c4 : m < 62
  · rw [if_pos c4, if_pos c4]; exact h4 (by omega) c4
  rw [if_neg c4, if_neg c4]
  by_cases c5 : m = 62
  · rw [if_pos c5, if_pos c5]; exact h5 c5
  rw [if_neg c5, if_neg c5]; exact h6 (by omega)
theorem y_cvk {σ : x_S} {p m : Nat} (h : m < 2) : y_cv σ p m = σ (p + 3) m := if_pos h
theorem y_cvs {σ : x_S} {p t : Nat} (h : t < 3) : y_cv σ p (2 + t) = σ (p + 2) t := by
  unfold y_cv
  rw [if_neg (by omega), if_pos (by omega), show 2 + t - 2 = t by omega]
theorem y_cvl {σ : x_S} {p k : Nat} (h : k < 33) : y_cv σ p (5 + k) = σ (p + 1) k := by
  unfold y_cv
  rw [if_neg (by omega), if_neg (by omega), if_pos (by omega), show 5 + k - 5 = k by omega]
theorem y_cve {σ : x_S} {p k : Nat} (h : k < 24) : y_cv σ p (38 + k) = σ (p + 4) (y_ce k) := by
  unfold y_cv
  rw [if_neg (by omega), if_neg (by omega), if_neg (by omega), if_pos (by omega), show 38 + k - 38 = k by omega]
theorem y_cvn {σ : x_S} {p : Nat} : y_cv σ p 62 = σ p 6 := by
  unfold y_cv
  rw [if_neg (by omega), if_neg (by omega), if_neg (by omega), if_neg (by omega), if_pos rfl]
theorem y_cvr {σ : x_S} {p k : Nat} : y_cv σ p (63 + k) = σ (p + 5) k := by
  unfold y_cv
  rw [if_neg (by omega), if_neg (by omega), if_neg (by omega), if_neg (by omega), if_neg (by omega), show 63 + k - 63 = k by omega]
/-- one row has what counts of another -/
def y_AG (f A : Nat → Int) : Prop := (∀ m, m < 5 → f m = A m) ∧ (∀ t v : Nat, t < 3 → (v : Int) < A (2 + t) → f (5 + 11 * t + v) = A (5 + 11 * t + v)) ∧ (∀ m, 38 ≤ m → m < 63 → f m = A m) ∧ (∀ r c : Nat, (r : Int) < A 62 → (c : Int) < 5 + A (67 + 12 * r) → f (63 + 12 * r + c) = A (63 + 12 * r + c))
theorem y_PI_sz {A : Nat → Int} (hP : y_PI A) {t : Nat} (h : t < 3) : 1 ≤ A (2 + t) ∧ A (2 + t) ≤ 11 := (hP.2.1 t h).1
theorem y_PI_pc {A : Nat → Int} (hP : y_PI A) {r : Nat} (h : (r : Int) < A 62) : 1 ≤ A (67 + 12 * r) ∧ A (67 + 12 * r) ≤ 7 := by
  have h1 := (hP.2.2.2.2 r (by omega)).2.2.2.2.1
  rw [show 67 + 12 * r = 63 + 12 * r + 4 by omega]
  exact h1
theorem y_AG_rf {A : Nat → Int} : y_AG A A := ⟨fun _ _ => rfl, fun _ _ _ _ => rfl, fun _ _ _ => rfl, fun _ _ _ _ => rfl⟩
theorem y_AG_4 {f A : Nat → Int} (hP : y_PI A) (h : y_AG f A) {r : Nat} (hr : (r : Int) < A 62) : f (67 + 12 * r) = A (67 + 12 * r) := by
  have h1 := y_PI_pc hP hr
  have h2 := h.2.2.2 r 4 hr (by omega)
  rw [show 67 + 12 * r = 63 + 12 * r + 4 by omega]
  exact h2
theorem y_AG_tr {f g A : Nat → Int} (hP : y_PI A) (h1 : y_AG f A) (h2 : y_AG g A) : y_AG f g := by
  refine ⟨fun m hm => (h1.1 m hm).trans (h2.1 m hm).symm, fun t v ht hv => ?_, fun m m1 m2 => (h1.2.2.1 m m1 m2).trans (h2.2.2.1 m m1 m2).symm, fun r c hr hc => ?_⟩
  · rw [h2.1 _ (by omega)] at hv
    exact (h1.2.1 t v ht hv).trans (h2.2.1 t v ht hv).symm
  · rw [h2.2.2.1 62 (by omega) (by omega)] at hr
    rw [y_AG_4 hP h2 hr] at hc
    exact (h1.2.2.2 r c hr hc).trans (h2.2.2.2 r c hr hc).symm
theorem y_AG_ex {f f' A : Nat → Int} (h : y_AG f A) (e : ∀ m, f' m = f m) : y_AG f' A := by
  have : f' = f := funext e
  rw [this]; exact h
theorem y_PI_AG {f A : Nat → Int} (hP : y_PI A) (h : y_AG f A) : y_PI f := by
  obtain ⟨p1, p2, p3, p4⟩ := id hP
  obtain ⟨a, b, c, d⟩ := id h
  refine ⟨y_PK_ext (a 0 (by omega)).symm (a 1 (by omega)).symm p1, fun t ht => ?_, y_PE_ext (fun k h1 h2 => (c k h1 (by omega)).symm) p3, ?_⟩
  · have q := p2 t ht
    unfold y_PT at q ⊢
    rw [a (2 + t) (by omega)]
    refine ⟨q.1, y_tr_ext (fun i hi => (b t i ht (by omega)).symm) q.2⟩
  · unfold y_PR at p4 ⊢
    rw [c 62 (by omega) (by omega)]
    refine ⟨p4.1, fun r hr => y_rl_ext (fun i hi => ?_) (p4.2 r hr)⟩
    have hr2 : (r : Int) < A 62 := by omega
    have h4 := y_PI_pc hP hr2
    have hi : i < 5 + (A (63 + 12 * r + 4)).toNat := hi
    rw [show 63 + 12 * r + 4 = 67 + 12 * r by omega] at hi
    exact (d r i hr2 (by omega)).symm
/-- a tree, a kind, a table's row, a rule put into a row -/
def y_wT (A : Nat → Int) (t : Nat) (l : List Int) : Nat → Int := fun m => if m = 2 + t then (l.length : Int) else if 5 + 11 * t ≤ m ∧ m < 5 + 11 * t + l.length then l.getD (m - (5 + 11 * t)) 0 else A m
def y_wK (A : Nat → Int) (p : Nat) (v : Int) : Nat → Int := fun m => if m = p then v else A m
def y_wM (A : Nat → Int) (b n : Nat) (w : Nat → Int) : Nat → Int := fun m => if b ≤ m ∧ m < b + n then w (m - b) else A m
def y_wR (A : Nat → Int) (w : Nat → Int) : Nat → Int := fun m => if m = 62 then A 62 + 1 else if 63 + 12 * (A 62).toNat ≤ m ∧ m < 75 + 12 * (A 62).toNat then w (m - (63 + 12 * (A 62).toNat)) else A m
theorem y_wT_o {A : Nat → Int} {t m : Nat} {l : List Int} (h1 : m ≠ 2 + t) (h2 : ¬ (5 + 11 * t ≤ m ∧ m < 5 + 11 * t + l.length)) : y_wT A t l m = A m := by
  unfold y_wT; rw [if_neg h1, if_neg h2]
theorem y_wT_s {A : Nat → Int} {t : Nat} {l : List Int} : y_wT A t l (2 + t) = l.length := if_pos rfl
theorem y_wT_i {A : Nat → Int} {t i : Nat} {l : List Int} (ht : t < 3) (hi : i < l.length) : y_wT A t l (5 + 11 * t + i) = l.getD i 0 := by
  unfold y_wT
  rw [if_neg (by omega), if_pos ⟨by omega, by omega⟩, show 5 + 11 * t + i - (5 + 11 * t) = i by omega]
theorem y_AG_T {f f' A : Nat → Int} {t : Nat} {l : List Int} (hP : y_PI A) (h : y_AG f A) (ht : t < 3) (hl : l.length ≤ 11) (h0 : ∀ m, m < 255 → m ≠ 2 + t → ¬ (5 + 11 * t ≤ m ∧ m < 16 + 11 * t) → f' m = f m) (h1 : f' (2 + t) = l.length) (h2 : ∀ i, i < l.length → f' (5 + 11 * t + i) = l.getD i 0) : y_AG f' (y_wT A t l) := by
  have w62 : y_wT A t l 62 = A 62 := y_wT_o (by omega) (by omega)
  obtain ⟨a, b, c, d⟩ := h
  refine ⟨fun m hm => ?_, fun t' v ht' hv => ?_, fun m m1 m2 => ?_, fun r c' hr hc => ?_⟩
  · by_cases e : m = 2 + t
    · rw [e, h1, y_wT_s]
    · rw [h0 m (by omega) e (by omega), y_wT_o e (by omega), a m hm]
  · by_cases e : t' = t
    · subst e
      rw [y_wT_s] at hv
      rw [h2 v (by omega), y_wT_i ht (by omega)]
    · rw [y_wT_o (by omega) (by omega)] at hv
      have sz := y_PI_sz hP ht'
      rw [h0 _ (by omega) (by omega) (by omega), y_wT_o (by omega) (by omega), b t' v ht' hv]
  · rw [h0 m (by omega) (by omega) (by omega), y_wT_o (by omega) (by omega), c m m1 m2]
  · rw [w62] at hr
    have h62 := hP.2.2.2.1
    rw [y_wT_o (by omega) (by omega)] at hc
    have h4 := y_PI_pc hP hr
    rw [h0 _ (by omega) (by omega) (by omega), y_wT_o (by omega) (by omega), d r c' hr hc]
theorem y_PI_T {A : Nat → Int} {t : Nat} {l : List Int} {g : Int → Int} {k e : Int} (hP : y_PI A) (ht : t < 3) (h : y_rw g (-1) 11 1 k = some (l, e)) : y_PI (y_wT A t l) ∧ 1 ≤ l.length ∧ l.length ≤ 11 := by
  have hl := y_rw_len h
  have hr := y_rw_tr (by omega) h
  refine ⟨y_PX_in (T := t) (y_PX_ext ht (fun m _ h1 h2 => (y_wT_o h2 (by omega)).symm) (y_PX_of hP)) ?_, by omega, by omega⟩
  unfold y_PT
  rw [y_wT_s]
  refine ⟨by omega, ?_⟩
  refine y_tr_ext (p := fun i => l.getD i 0) (fun i hi => (y_wT_i ht (by omega)).symm) ⟨fun i hi => ?_, ?_⟩
  · have q := hr.1 i (by omega)
    have q1 := q.1
    unfold y_pc at q1
    have q2 := q.2
    show 0 ≤ l.getD i 0 ∧ l.getD i 0 ≤ 4 ∧ 1 ≤ y_op (fun i => l.getD i 0) i
    refine ⟨by omega, by omega, by omega⟩
  · have q2 := hr.2
    rw [show ((l.length : Int)).toNat = l.length by omega]
    omega
theorem y_AG_K {f f' A : Nat → Int} {p : Nat} {v : Int} (hP : y_PI A) (h : y_AG f A) (hp : p < 2) (h0 : ∀ m, m < 255 → m ≠ p → f' m = f m) (h1 : f' p = v) : y_AG f' (y_wK A p v) := by
  have o : ∀ m, m ≠ p → y_wK A p v m = A m := fun m hm => if_neg hm
  obtain ⟨a, b, c, d⟩ := h
  refine ⟨fun m hm => ?_, fun t' v ht' hv => ?_, fun m m1 m2 => ?_, fun r c' hr hc => ?_⟩
  · by_cases e : m = p
    · rw [e, h1]; exact (if_pos rfl).symm
    · rw [h0 m (by omega) e, o m e, a m hm]
  · rw [o _ (by omega)] at hv
    have sz := y_PI_sz hP ht'
    rw [h0 _ (by omega) (by omega), o _ (by omega), b t' v ht' hv]
  · rw [h0 m (by omega) (by omega), o m (by omega), c m m1 m2]
  · rw [o _ (by omega)] at hr hc
    have h62 := hP.2.2.2.1
    have h4 := y_PI_pc hP hr
    rw [h0 _ (by omega) (by omega), o _ (by omega), d r c' hr hc]
theorem y_PI_K {A : Nat → Int} {p : Nat} {v : Int} (hP : y_PI A) (hp : p < 2) (h1 : 0 ≤ v) (h2 : v ≤ 3) : y_PI (y_wK A p v) := by
  have o : ∀ m, m ≠ p → y_wK A p v m = A m := fun m hm => if_neg hm
  have s : y_wK A p v p = v := if_pos rfl
  refine y_PI_k (fun k _ hk => (o k (by omega)).symm) ?_ hP
  have hk := hP.1
  unfold y_PK at hk ⊢
  have c : p = 0 ∨ p = 1 := by omega
  rcases c with c | c
  · subst c
    rw [s, o 1 (by omega)]; omega
  · subst c
    rw [s, o 0 (by omega)]; omega
theorem y_AG_M {f f' A w : Nat → Int} {b n : Nat} (hP : y_PI A) (h : y_AG f A) (hb : 38 ≤ b) (hn : b + n ≤ 62) (h0 : ∀ m, m < 255 → ¬ (b ≤ m ∧ m < b + n) → f' m = f m) (h1 : ∀ j, j < n → f' (b + j) = w j) : y_AG f' (y_wM A b n w) := by
  have o : ∀ m, ¬ (b ≤ m ∧ m < b + n) → y_wM A b n w m = A m := fun m hm => if_neg hm
  obtain ⟨a, b', c, d⟩ := h
  refine ⟨fun m hm => ?_, fun t' v ht' hv => ?_, fun m m1 m2 => ?_, fun r c' hr hc => ?_⟩
  · rw [h0 m (by omega) (by omega), o m (by omega), a m hm]
  · rw [o _ (by omega)] at hv
    have sz := y_PI_sz hP ht'
    rw [h0 _ (by omega) (by omega), o _ (by omega), b' t' v ht' hv]
  · by_cases e : b ≤ m ∧ m < b + n
    · have q := h1 (m - b) (by omega)
      rw [show b + (m - b) = m by omega] at q
      rw [q]
      exact (if_pos e).symm
    · rw [h0 m (by omega) e, o m e, c m m1 m2]
  · rw [o _ (by omega)] at hr hc
    have h62 := hP.2.2.2.1
    have h4 := y_PI_pc hP hr
    rw [h0 _ (by omega) (by omega), o _ (by omega), d r c' hr hc]
theorem y_PI_M {A w : Nat → Int} {b n : Nat} (hP : y_PI A) (hb : 38 ≤ b) (hn : b + n ≤ 62) (hw : ∀ j, j < n → 0 ≤ w j ∧ w j ≤ 1) : y_PI (y_wM A b n w) := by
  have o : ∀ m, ¬ (b ≤ m ∧ m < b + n) → y_wM A b n w m = A m := fun m hm => if_neg hm
  refine y_PI_e (fun k _ hk => (o k (by omega)).symm) (fun k h1 h2 => ?_) hP
  by_cases e : b ≤ k ∧ k < b + n
  · have q : y_wM A b n w k = w (k - b) := if_pos e
    rw [q]; exact hw _ (by omega)
  · rw [o k e]; exact hP.2.2.1 k h1 h2
theorem y_wR_o {A w : Nat → Int} {m : Nat} (h1 : m ≠ 62) (h2 : ¬ (63 + 12 * (A 62).toNat ≤ m ∧ m < 75 + 12 * (A 62).toNat)) : y_wR A w m = A m := by
  unfold y_wR; rw [if_neg h1, if_neg h2]
theorem y_wR_n {A w : Nat → Int} : y_wR A w 62 = A 62 + 1 := if_pos rfl
theorem y_wR_i {A w : Nat → Int} {c : Nat} (h : c < 12) : y_wR A w (63 + 12 * (A 62).toNat + c) = w c := by
  unfold y_wR
  rw [if_neg (by omega), if_pos ⟨by omega, by omega⟩, show 63 + 12 * (A 62).toNat + c - (63 + 12 * (A 62).toNat) = c by omega]
theorem y_AG_R {f f' A w : Nat → Int} (hP : y_PI A) (h : y_AG f A) (h16 : A 62 < 16) (hw : 1 ≤ w 4 ∧ w 4 ≤ 7) (h0 : ∀ m, m < 255 → m ≠ 62 → ¬ (63 + 12 * (A 62).toNat ≤ m ∧ m < 75 + 12 * (A 62).toNat) → f' m = f m) (h1 : f' 62 = f 62 + 1) (h2 : ∀ c : Nat, (c : Int) < 5 + w 4 → f' (63 + 12 * (A 62).toNat + c) = w c) : y_AG f' (y_wR A w) := by
  have h62 := hP.2.2.2.1
  obtain ⟨a, b, c, d⟩ := h
  refine ⟨fun m hm => ?_, fun t' v ht' hv => ?_, fun m m1 m2 => ?_, fun r c' hr hc => ?_⟩
  · rw [h0 m (by omega) (by omega) (by omega), y_wR_o (by omega) (by omega), a m hm]
  · rw [y_wR_o (by omega) (by omega)] at hv
    have sz := y_PI_sz hP ht'
    rw [h0 _ (by omega) (by omega) (by omega), y_wR_o (by omega) (by omega), b t' v ht' hv]
  · by_cases e : m = 62
    · rw [e, h1, y_wR_n, c 62 (by omega) (by omega)]
    · rw [h0 m (by omega) e (by omega), y_wR_o e (by omega), c m m1 m2]
  · rw [y_wR_n] at hr
    by_cases e : r = (A 62).toNat
    · subst e
      rw [show 67 + 12 * (A 62).toNat = 63 + 12 * (A 62).toNat + 4 by omega, y_wR_i (by omega)] at hc
      rw [h2 c' hc, y_wR_i (by omega)]
    · have hr2 : (r : Int) < A 62 := by omega
      have h4 := y_PI_pc hP hr2
      rw [y_wR_o (by omega) (by omega)] at hc
      rw [h0 _ (by omega) (by omega) (by omega), y_wR_o (by omega) (by omega), d r c' hr2 hc]
theorem y_PI_R {A w : Nat → Int} (hP : y_PI A) (h16 : A 62 < 16) (hw : y_rl w) : y_PI (y_wR A w) := by
  have h62 := hP.2.2.2.1
  refine y_PI_r (fun k hk => (y_wR_o (by omega) (by omega)).symm) ⟨?_, fun r hr => ?_⟩ hP
  · rw [y_wR_n]; omega
  · rw [y_wR_n] at hr
    have hw4 := hw.2.2.2.2.1
    by_cases e : r = (A 62).toNat
    · subst e
      exact y_rl_ext (fun i hi => (y_wR_i (by omega)).symm) hw
    · have hr2 : (r : Int) < A 62 := by omega
      have h4 := y_PI_pc hP hr2
      refine y_rl_ext (fun i hi => ?_) (hP.2.2.2.2 r (by omega))
      have hi : i < 5 + (A (63 + 12 * r + 4)).toNat := hi
      rw [show 63 + 12 * r + 4 = 67 + 12 * r by omega] at hi
      exact (y_wR_o (by omega) (by omega)).symm
/-- a rule's words, as told at a place -/
def y_rr (g : Int → Int) (s : Int) (l : List Int) (c : Nat) : Int := if c = 0 then g s - 48 else if c = 1 then g (s + 1) - 48 else if c = 2 then g (s + 2) - 97 else if c = 3 then y_lk (g (s + 3)) else if c = 4 then (l.length : Int) else l.getD (c - 5) 0
theorem y_rr_p {g : Int → Int} {s : Int} {l : List Int} {i : Nat} : y_rr g s l (5 + i) = l.getD i 0 := by
  unfold y_rr
  rw [if_neg (by omega), if_neg (by omega), if_neg (by omega), if_neg (by omega), if_neg (by omega), show 5 + i - 5 = i by omega]
theorem y_iR_i {g : Int → Int} {s e : Int} {l : List Int} (h : y_iR g s = some (l, e)) : (48 ≤ g s ∧ g s ≤ 49 ∧ 48 ≤ g (s + 1) ∧ g (s + 1) ≤ 50 ∧ 97 ≤ g (s + 2) ∧ g (s + 2) ≤ 101 ∧ (g (s + 3) = 42 ∨ (48 ≤ g (s + 3) ∧ g (s + 3) ≤ 49)) ∧ g (s + 4) = 61) ∧ y_rw g (g (s + 2) - 97) 7 1 (s + 5) = some (l, e) := by
  unfold y_iR at h
  split at h
  · rename_i c; exact ⟨c, h⟩
  · cases h
theorem y_rl_rr {g : Int → Int} {s e : Int} {l : List Int} (h : y_iR g s = some (l, e)) : y_rl (y_rr g s l) ∧ 1 ≤ l.length ∧ l.length ≤ 7 := by
  obtain ⟨c, h⟩ := y_iR_i h
  have hl := y_rw_len h
  have hr := y_rw_tr (by omega) h
  have e0 : y_rr g s l 0 = g s - 48 := rfl
  have e1 : y_rr g s l 1 = g (s + 1) - 48 := rfl
  have e2 : y_rr g s l 2 = g (s + 2) - 97 := rfl
  have e3 : y_rr g s l 3 = y_lk (g (s + 3)) := rfl
  have e4 : y_rr g s l 4 = l.length := rfl
  have lk : 0 ≤ y_lk (g (s + 3)) ∧ y_lk (g (s + 3)) ≤ 2 := by
    unfold y_lk
    split <;> omega
  have eo : ∀ n, y_op (fun i => y_rr g s l (5 + i)) n = y_op (fun i => l.getD i 0) n := fun n => y_op_ext (fun i _ => y_rr_p)
  refine ⟨⟨by rw [e0]; omega, by rw [e1]; omega, by rw [e2]; omega, by rw [e3]; omega, by rw [e4]; omega, fun k hk => ?_, ?_⟩, by omega, by omega⟩
  · rw [e4] at hk
    have q := hr.1 k (by omega)
    rw [eo, e2, y_rr_p]
    refine ⟨q.1, ?_⟩
    have q2 := q.2
    omega
  · have q2 := hr.2
    rw [eo, e4, show ((l.length : Int)).toNat = l.length by omega]
    omega
/-- an item at a place: the row then, and its end -/
def y_it (g : Int → Int) (A : Nat → Int) (s : Int) : Option ((Nat → Int) × Int) :=
  if g s = 116 then (match y_iT g (s + 1) with | none => none | some (l, e) => some (y_wT A (g (s + 1) - 48).toNat l, e))
  else if g s = 112 then (if y_iK g (s + 1) = true then some (y_wK A (g (s + 1) - 48).toNat (g (s + 2) - 48), s + 3) else none)
  else if g s = 109 then (if y_iM g (s + 1) = true then some (y_wM A (y_tab (g (s + 1) - 48) (g (s + 2) - 97) 0).toNat (y_pw (y_ch (g (s + 2) - 97))).toNat (fun j => g (s + 4 + j) - 48), s + 4 + y_pw (y_ch (g (s + 2) - 97))) else none)
  else if g s = 114 then (if A 62 = 16 then none else match y_iR g (s + 1) with | none => none | some (l, e) => some (y_wR A (y_rr g (s + 1) l), e))
  else none
/-- items one behind the other: the first that is none (-4: there is no such), the row -/
def y_run (g : Int → Int) (n : Int) : Nat → (Nat → Int) → Int → Int × (Nat → Int)
  | 0, A, _ => (-4, A)
  | N + 1, A, s => if s < n then (match y_it g A s with | none => (s, A) | some (A', e) => if g e = 59 then y_run g n N A' (e + 1) else (s, A)) else (-4, A)
def y_A0 (m : Nat) : Int := if 2 ≤ m ∧ m < 5 then 1 else 0
def y_rs (g : Int → Int) (n : Int) : Int × (Nat → Int) := y_run g n 200 y_A0 0
theorem y_run_e {g : Int → Int} {n s : Int} {N : Nat} {A : Nat → Int} (h : ¬ s < n) : y_run g n N A s = (-4, A) := by
  cases N with
  | zero => rfl
  | succ N => unfold y_run; rw [if_neg h]
theorem y_run_f {g : Int → Int} {n s : Int} {N : Nat} {A : Nat → Int} (h : s < n) (h1 : y_it g A s = none) : y_run g n (N + 1) A s = (s, A) := by
  unfold y_run; rw [if_pos h, h1]
theorem y_run_g {g : Int → Int} {n s e : Int} {N : Nat} {A A' : Nat → Int} (h : s < n) (h1 : y_it g A s = some (A', e)) (h2 : ¬ g e = 59) : y_run g n (N + 1) A s = (s, A) := by
  rw [y_run, if_pos h, h1]
  exact if_neg h2
theorem y_run_s {g : Int → Int} {n s e : Int} {N : Nat} {A A' : Nat → Int} (h : s < n) (h1 : y_it g A s = some (A', e)) (h2 : g e = 59) : y_run g n (N + 1) A s = y_run g n N A' (e + 1) := by
  rw [y_run, if_pos h, h1]
  exact if_pos h2
theorem y_A0_P : y_PI y_A0 := y_PI_0 (fun m _ => rfl)
theorem y_pwx (c : Int) : (c = 0 ∧ y_pw c = 1) ∨ (c = 1 ∧ y_pw c = 2) ∨ (c ≠ 0 ∧ c ≠ 1 ∧ y_pw c = 4) := by
  unfold y_pw
  (repeat' split) <;> omega
theorem y_iM_i {g : Int → Int} {s : Int} : y_iM g s = true ↔ ((48 ≤ g s ∧ g s ≤ 49 ∧ 97 ≤ g (s + 1) ∧ g (s + 1) ≤ 101 ∧ g (s + 2) = 61) ∧ ∀ j : Nat, (j : Int) < y_pw (y_ch (g (s + 1) - 97)) → 48 ≤ g (s + 3 + j) ∧ g (s + 3 + j) ≤ 49) := by
  have hp := y_pw_b (y_ch (g (s + 1) - 97))
  unfold y_iM
  rw [Bool.and_eq_true, decide_eq_true_iff, List.all_eq_true]
  constructor
  · intro h
    refine ⟨h.1, fun j hj => ?_⟩
    have := h.2 j (List.mem_range.mpr (by omega))
    exact of_decide_eq_true this
  · intro h
    refine ⟨h.1, fun j hj => ?_⟩
    have hj := List.mem_range.mp hj
    exact decide_eq_true (h.2 j (by omega))
theorem y_tab_n {m f : Int} (m1 : 0 ≤ m) (m2 : m ≤ 1) (f1 : 0 ≤ f) (f2 : f ≤ 4) : 38 ≤ (y_tab m f 0).toNat ∧ (y_tab m f 0).toNat + (y_pw (y_ch f)).toNat ≤ 62 := by
  have c : f = 0 ∨ f = 1 ∨ f = 2 ∨ f = 3 ∨ f = 4 := by omega
  unfold y_tab
  rcases c with rfl | rfl | rfl | rfl | rfl
  all_goals (simp [y_pw, y_ch]; omega)
/-- an item leaves a program that stands -/
theorem y_it_P {g : Int → Int} {A A' : Nat → Int} {s e : Int} (hP : y_PI A) (h : y_it g A s = some (A', e)) : y_PI A' := by
  unfold y_it at h
  split at h
  · cases hT : y_iT g (s + 1) with
    | none => rw [hT] at h; cases h
    | some q =>
      obtain ⟨l, e1⟩ := q
      rw [hT] at h
      have h := Option.some.inj h
      have h1 : y_wT A (g (s + 1) - 48).toNat l = A' := congrArg Prod.fst h
      unfold y_iT at hT
      split at hT
      · rw [← h1]; exact (y_PI_T hP (by omega) hT).1
      · cases hT
  · split at h
    · split at h
      · rename_i hK
        unfold y_iK at hK
        have hK := of_decide_eq_true hK
        rw [show s + 1 + 1 = s + 2 by omega] at hK
        have h := Option.some.inj h
        have h1 : y_wK A (g (s + 1) - 48).toNat (g (s + 2) - 48) = A' := congrArg Prod.fst h
        rw [← h1]; exact y_PI_K hP (by omega) (by omega) (by omega)
      · cases h
    · split at h
      · split at h
        · rename_i hM
          have hM := y_iM_i.mp hM
          rw [show s + 1 + 1 = s + 2 by omega] at hM
          have h := Option.some.inj h
          have h1 : y_wM A (y_tab (g (s + 1) - 48) (g (s + 2) - 97) 0).toNat (y_pw (y_ch (g (s + 2) - 97))).toNat (fun j => g (s + 4 + j) - 48) = A' := congrArg Prod.fst h
          rw [← h1]
          have ht := y_tab_n (m := g (s + 1) - 48) (f := g (s + 2) - 97) (by omega) (by omega) (by omega) (by omega)
          refine y_PI_M hP ht.1 ht.2 (fun j hj => ?_)
          have q := hM.2 j (by omega)
          rw [show s + 1 + 3 + (j : Int) = s + 4 + j by omega] at q
          omega
        · cases h
      · split at h
        · split at h
          · cases h
          · rename_i h16
            cases hR : y_iR g (s + 1) with
            | none => rw [hR] at h; cases h
            | some q =>
              obtain ⟨l, e1⟩ := q
              rw [hR] at h
              have h := Option.some.inj h
              have h1 : y_wR A (y_rr g (s + 1) l) = A' := congrArg Prod.fst h
              have h62 := hP.2.2.2.1
              rw [← h1]; exact y_PI_R hP (by omega) (y_rl_rr hR).1
        · cases h
