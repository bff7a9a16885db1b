/-! rows changed: a rule out, moved, put in; a word changed -/
def y_cut (A : Nat → Int) (r : Nat) : Nat → Int := fun m => if m = 62 then A 62 - 1 else if 63 + 12 * r ≤ m ∧ (m : Int) < 51 + 12 * A 62 then A (m + 12) else A m
def y_up1 (A : Nat → Int) (t : Nat) : Nat → Int := fun m => if m = 62 then A 62 + 1 else if 75 + 12 * t ≤ m ∧ (m : Int) < 75 + 12 * A 62 then A (m - 12) else A m
def y_pt (A : Nat → Int) (t : Nat) (w : Nat → Int) : Nat → Int := fun m => if 63 + 12 * t ≤ m ∧ m < 75 + 12 * t then w (m - (63 + 12 * t)) else A m
def y_shf (A : Nat → Int) (r t : Nat) : Nat → Int := y_pt (y_up1 (y_cut A r) t) t (fun c => A (63 + 12 * r + c))
def y_ent (A : Nat → Int) (r : Nat) (w : Nat → Int) : Nat → Int := fun m => if m = 62 then (if (r : Int) = A 62 then A 62 + 1 else A 62) else if 63 + 12 * r ≤ m ∧ m < 75 + 12 * r then w (m - (63 + 12 * r)) else A m
theorem y_PI_ct {A : Nat → Int} {r : Nat} (hP : y_PI A) (hr : (r : Int) < A 62) : y_PI (y_cut A r) := y_PI_cut hP hr (if_pos rfl) (fun m hm => if_neg hm)
theorem y_cut_n {A : Nat → Int} {r : Nat} : y_cut A r 62 = A 62 - 1 := if_pos rfl
theorem y_PI_sh {A : Nat → Int} {r t : Nat} (hP : y_PI A) (hr : (r : Int) < A 62) (ht : (t : Int) < A 62) : y_PI (y_shf A r t) := by
  have h62 := hP.2.2.2.1
  have n := y_cut_n (A := A) (r := r)
  refine y_PI_ins (ρ := y_cut A r) (τ := y_up1 (y_cut A r) t) (q := fun c => A (63 + 12 * r + c)) (y_PI_ct hP hr) (by omega) (by omega) (if_pos rfl) (fun m hm => if_neg hm) (hP.2.2.2.2 r (by omega)) (fun m hm => if_neg hm) (fun m hm => ?_)
  unfold y_shf y_pt
  rw [if_pos ⟨by omega, by omega⟩]
  show A (63 + 12 * r + (63 + 12 * t + m - (63 + 12 * t))) = A (63 + 12 * r + m)
  congr 1
  omega
theorem y_ent_n {A w : Nat → Int} {r : Nat} : y_ent A r w 62 = if (r : Int) = A 62 then A 62 + 1 else A 62 := if_pos rfl
theorem y_ent_o {A w : Nat → Int} {r m : Nat} (h1 : m ≠ 62) (h2 : ¬ (63 + 12 * r ≤ m ∧ m < 75 + 12 * r)) : y_ent A r w m = A m := by
  unfold y_ent; rw [if_neg h1, if_neg h2]
theorem y_ent_i {A w : Nat → Int} {r c : Nat} (h : c < 12) : y_ent A r w (63 + 12 * r + c) = w c := by
  unfold y_ent
  rw [if_neg (by omega), if_pos ⟨by omega, by omega⟩]
  congr 1
  omega
theorem y_PI_en {A w : Nat → Int} {r : Nat} (hP : y_PI A) (hr : (r : Int) ≤ A 62) (h15 : r ≤ 15) (hw : y_rl w) : y_PI (y_ent A r w) := by
  have h62 := hP.2.2.2.1
  have n := y_ent_n (A := A) (w := w) (r := r)
  have n2 : y_ent A r w 62 = A 62 ∨ (y_ent A r w 62 = A 62 + 1 ∧ (r : Int) = A 62) := by
    rw [n]
    split
    · right; exact ⟨rfl, by assumption⟩
    · left; rfl
  have n3 : (r : Int) < y_ent A r w 62 := by
    rw [n]
    split <;> omega
  exact y_PI_put hP n3 n2 (by omega) hw rfl (fun m h1 h2 => y_ent_o h1 h2) (fun m hm => y_ent_i hm)
theorem y_PI_lf {A : Nat → Int} {t v : Nat} {f : Int} (hP : y_PI A) (ht : t < 3) (hv : (v : Int) < A (2 + t)) (f1 : 0 ≤ f) (f2 : f ≤ 4) (hc : y_ch (A (5 + 11 * t + v)) = y_ch f) : y_PI (y_wK A (5 + 11 * t + v) f) := y_PI_leaf hP ht hv f1 f2 hc (if_pos rfl) (fun k hk => if_neg hk)
theorem y_PI_fl {A : Nat → Int} {k : Nat} {v : Int} (hP : y_PI A) (k1 : 38 ≤ k) (k2 : k < 62) (v1 : 0 ≤ v) (v2 : v ≤ 1) : y_PI (y_wK A k v) := by
  refine y_PI_e (fun m _ hm => ((if_neg (by omega) : y_wK A k v m = A m)).symm) (fun m h1 h2 => ?_) hP
  by_cases e : m = k
  · rw [show y_wK A k v m = v from if_pos e]; exact ⟨v1, v2⟩
  · rw [show y_wK A k v m = A m from if_neg e]; exact hP.2.2.1 m h1 h2
/-- rules that came from rules, or that are told -/
theorem y_AG_ru {f g A B : Nat → Int} (hP : y_PI A) (h : y_AG f A) (hB : ∀ m, m < 62 → B m = A m) (hg : ∀ m, m < 62 → g m = f m) (h62 : g 62 = B 62) (hr : ∀ R : Nat, (R : Int) < B 62 → (∃ S : Nat, (S : Int) < A 62 ∧ (∀ c, c < 12 → B (63 + 12 * R + c) = A (63 + 12 * S + c)) ∧ (∀ c, c < 12 → g (63 + 12 * R + c) = f (63 + 12 * S + c))) ∨ (∀ c : Nat, (c : Int) < 5 + B (67 + 12 * R) → g (63 + 12 * R + c) = B (63 + 12 * R + c))) : y_AG g B := by
  obtain ⟨a, b, c, d⟩ := h
  refine ⟨fun m hm => ?_, fun t v ht hv => ?_, fun m m1 m2 => ?_, fun R k hR hk => ?_⟩
  · rw [hg m (by omega), hB m (by omega)]; exact a m hm
  · rw [hB _ (by omega)] at hv
    have sz := y_PI_sz hP ht
    rw [hg _ (by omega), hB _ (by omega)]; exact b t v ht hv
  · by_cases e : m = 62
    · rw [e]; exact h62
    · rw [hg m (by omega), hB m (by omega)]; exact c m m1 m2
  · rcases hr R hR with ⟨S, s1, s2, s3⟩ | s
    · have h4 := y_PI_pc hP s1
      have e4 := s2 4 (by decide)
      rw [show 63 + 12 * R + 4 = 67 + 12 * R by omega, show 63 + 12 * S + 4 = 67 + 12 * S by omega] at e4
      rw [e4] at hk
      rw [s2 k (by omega), s3 k (by omega)]
      exact d S k s1 hk
    · exact s k hk
theorem y_cv_62 {σ τ : x_S} {p m : Nat} (f : ∀ c k, p < c → c ≤ p + 4 → τ c k = σ c k) (hm : m < 62) : y_cv τ p m = y_cv σ p m := y_cv_x (fun _ => f _ _ (by omega) (by omega)) (fun _ _ => f _ _ (by omega) (by omega)) (fun _ _ => f _ _ (by omega) (by omega)) (fun _ _ => f _ _ (by omega) (by omega)) (fun h => absurd h (by omega)) (fun h => absurd h (by omega))
theorem y_cv_r {σ : x_S} {p R c : Nat} : y_cv σ p (63 + 12 * R + c) = σ (p + 5) (12 * R + c) := by rw [Nat.add_assoc, y_cvr]
theorem y_AGcut {σ τ : x_S} {A : Nat → Int} {r : Nat} (hP : y_PI A) (hA : y_AG (y_cv σ 4) A) (hr : (r : Int) < A 62) (f : ∀ c k, 4 < c → c ≤ 8 → τ c k = σ c k) (h6 : τ 4 6 = σ 4 6 - 1) (h9 : ∀ m : Nat, τ 9 m = if 12 * r ≤ m ∧ (m : Int) < 12 * (σ 4 6 - 1) then σ 9 (m + 12) else σ 9 m) : y_AG (y_cv τ 4) (y_cut A r) := by
  have n := y_PG_n hA
  refine y_AG_ru hP hA (fun m hm => ?_) (fun m hm => y_cv_62 f hm) ?_ (fun R hR => Or.inl ?_)
  · unfold y_cut; rw [if_neg (by omega), if_neg (by omega)]
  · rw [y_cvn, h6, n, y_cut_n]
  · rw [y_cut_n] at hR
    by_cases c : R < r
    · refine ⟨R, by omega, fun k hk => ?_, fun k hk => ?_⟩
      · unfold y_cut; rw [if_neg (by omega), if_neg (by omega)]
      · rw [y_cv_r, y_cv_r, show 4 + 5 = 9 from rfl, h9, if_neg (by omega)]
    · refine ⟨R + 1, by omega, fun k hk => ?_, fun k hk => ?_⟩
      · unfold y_cut; rw [if_neg (by omega), if_pos (by omega)]
        congr 1
        omega
      · rw [y_cv_r, y_cv_r, show 4 + 5 = 9 from rfl, h9, if_pos (by omega)]
        congr 1
        omega
/-- where a rule came from, one having been moved -/
def y_src (r t R : Nat) : Nat := if R = t then r else if r ≤ R ∧ R < t then R + 1 else if t < R ∧ R ≤ r then R - 1 else R
theorem y_src_b {r t R n : Nat} (hr : r < n) (ht : t < n) (hR : R < n) : y_src r t R < n := by
  unfold y_src
  (repeat' split) <;> omega
theorem y_shf_w {A : Nat → Int} {r t R c : Nat} (hr : (r : Int) < A 62) (ht : (t : Int) < A 62) (hR : (R : Int) < A 62) (hc : c < 12) : y_shf A r t (63 + 12 * R + c) = A (63 + 12 * y_src r t R + c) := by
  have n := y_cut_n (A := A) (r := r)
  unfold y_shf y_pt y_src
  by_cases c1 : R = t
  · rw [if_pos ⟨by omega, by omega⟩, if_pos c1]
    show A (63 + 12 * r + (63 + 12 * R + c - (63 + 12 * t))) = _
    congr 1
    omega
  rw [if_neg (by omega), if_neg c1]
  unfold y_up1
  rw [if_neg (by omega), n]
  by_cases c2 : t < R
  · rw [if_pos (by omega), if_neg (by omega)]
    unfold y_cut
    rw [if_neg (by omega)]
    by_cases c3 : R ≤ r
    · rw [if_neg (by omega), if_pos (by omega)]
      congr 1
      omega
    · rw [if_pos (by omega), if_neg (by omega)]
      congr 1
      omega
  · rw [if_neg (by omega)]
    unfold y_cut
    rw [if_neg (by omega)]
    by_cases c3 : r ≤ R
    · rw [if_pos (by omega), if_pos (by omega)]
      congr 1
      omega
    · rw [if_neg (by omega), if_neg (by omega), if_neg (by omega)]
theorem y_shf_o {A : Nat → Int} {r t m : Nat} (hm : m < 62) : y_shf A r t m = A m := by
  unfold y_shf y_pt y_up1 y_cut
  rw [if_neg (by omega), if_neg (by omega), if_neg (by omega), if_neg (by omega), if_neg (by omega)]
theorem y_shf_n {A : Nat → Int} {r t : Nat} : y_shf A r t 62 = A 62 := by
  unfold y_shf y_pt y_up1
  rw [if_neg (by omega), if_pos rfl, y_cut_n]
  omega
theorem y_AGshf {σ τ : x_S} {A : Nat → Int} {r t : Nat} (hP : y_PI A) (hA : y_AG (y_cv σ 4) A) (hr : (r : Int) < A 62) (ht : (t : Int) < A 62) (f : ∀ c k, 4 ≤ c → c ≤ 8 → τ c k = σ c k) (h9 : ∀ R c : Nat, (R : Int) < A 62 → c < 12 → τ 9 (12 * R + c) = σ 9 (12 * y_src r t R + c)) : y_AG (y_cv τ 4) (y_shf A r t) := by
  have n := y_PG_n hA
  have h62 := hP.2.2.2.1
  refine y_AG_ru hP hA (fun m hm => y_shf_o hm) (fun m hm => y_cv_62 (fun c k h1 h2 => f c k (by omega) h2) hm) ?_ (fun R hR => Or.inl ?_)
  · rw [y_cvn, f 4 6 (by omega) (by omega), n, y_shf_n]
  · rw [y_shf_n] at hR
    refine ⟨y_src r t R, ?_, fun c hc => y_shf_w hr ht hR hc, fun c hc => ?_⟩
    · have := y_src_b (r := r) (t := t) (R := R) (n := (A 62).toNat) (by omega) (by omega) (by omega)
      omega
    · rw [y_cv_r, y_cv_r]; exact h9 R c hR hc
theorem y_AGent {σ τ : x_S} {A w : Nat → Int} {r : Nat} (hP : y_PI A) (hA : y_AG (y_cv σ 4) A) (hr : (r : Int) ≤ A 62) (hw : 1 ≤ w 4 ∧ w 4 ≤ 7) (f : ∀ c k, 4 < c → c ≤ 8 → τ c k = σ c k) (h6 : τ 4 6 = if (r : Int) = σ 4 6 then σ 4 6 + 1 else σ 4 6) (h9 : ∀ m, ¬ (12 * r ≤ m ∧ m < 12 * r + 12) → τ 9 m = σ 9 m) (h9w : ∀ c : Nat, (c : Int) < 5 + w 4 → τ 9 (12 * r + c) = w c) : y_AG (y_cv τ 4) (y_ent A r w) := by
  have n := y_PG_n hA
  refine y_AG_ru hP hA (fun m hm => y_ent_o (by omega) (by omega)) (fun m hm => y_cv_62 f hm) ?_ (fun R hR => ?_)
  · rw [y_cvn, h6, n, y_ent_n]
  · by_cases c : R = r
    · subst c
      refine Or.inr (fun k hk => ?_)
      rw [show 67 + 12 * R = 63 + 12 * R + 4 by omega, y_ent_i (by omega)] at hk
      rw [y_cv_r, y_ent_i (by omega)]
      exact h9w k hk
    · have hR2 : (R : Int) < A 62 := by
        rw [y_ent_n] at hR
        split at hR <;> omega
      refine Or.inl ⟨R, hR2, fun k hk => y_ent_o (by omega) (by omega), fun k hk => ?_⟩
      rw [y_cv_r, y_cv_r]
      exact h9 _ (by omega)
theorem y_AG_ex2 {f A B : Nat → Int} (h : y_AG f A) (e : ∀ m, A m = B m) : y_AG f B := by
  have : A = B := funext e
  rw [← this]; exact h
theorem y_wK_e {A : Nat → Int} {k : Nat} {v : Int} : y_wK A k v k = v := if_pos rfl
theorem y_wK_o {A : Nat → Int} {k m : Nat} {v : Int} (h : m ≠ k) : y_wK A k v m = A m := if_neg h
theorem y_AGlef {σ τ : x_S} {A : Nat → Int} {t v : Nat} {f : Int} (hP : y_PI A) (hA : y_AG (y_cv σ 4) A) (ht : t < 3) (hv : (v : Int) < A (2 + t)) (fr : ∀ c k, 4 ≤ c → c ≤ 9 → ¬ (c = 5 ∧ k = 11 * t + v) → τ c k = σ c k) (w : τ 5 (11 * t + v) = f) : y_AG (y_cv τ 4) (y_wK A (5 + 11 * t + v) f) := by
  have sz := y_PI_sz hP ht
  obtain ⟨a, b, c, d⟩ := hA
  have o : ∀ m, m ≠ 5 + 11 * t + v → y_cv τ 4 m = y_cv σ 4 m := fun m hm => y_cv_x (fun _ => fr _ _ (by omega) (by omega) (by omega)) (fun _ _ => fr _ _ (by omega) (by omega) (by omega)) (fun _ _ => fr _ _ (by omega) (by omega) (by omega)) (fun _ _ => fr _ _ (by omega) (by omega) (by omega)) (fun _ => fr _ _ (by omega) (by omega) (by omega)) (fun _ => fr _ _ (by omega) (by omega) (by omega))
  refine ⟨fun m hm => ?_, fun t' v' ht' hv' => ?_, fun m m1 m2 => ?_, fun r c' hr hc => ?_⟩
  · rw [o m (by omega), y_wK_o (by omega)]; exact a m hm
  · rw [y_wK_o (by omega)] at hv'
    by_cases e : 5 + 11 * t' + v' = 5 + 11 * t + v
    · rw [e, y_wK_e, Nat.add_assoc, y_cvl (by omega)]; exact w
    · rw [o _ e, y_wK_o e]; exact b t' v' ht' hv'
  · rw [o m (by omega), y_wK_o (by omega)]; exact c m m1 m2
  · rw [y_wK_o (by omega)] at hr hc
    rw [o _ (by omega), y_wK_o (by omega)]; exact d r c' hr hc
theorem y_AGflp {σ τ : x_S} {A : Nat → Int} {m f e v : Int} (hP : y_PI A) (hA : y_AG (y_cv σ 4) A) (m1 : 0 ≤ m) (m2 : m ≤ 1) (f1 : 0 ≤ f) (f2 : f ≤ 4) (e1 : 0 ≤ e) (e2 : e < y_pw (y_ch f)) (fr : ∀ c k, 4 ≤ c → c ≤ 9 → ¬ (c = 8 ∧ k = ((m * 5 + f) * 4 + e).toNat) → τ c k = σ c k) (w : τ 8 ((m * 5 + f) * 4 + e).toNat = v) : y_AG (y_cv τ 4) (y_wK A (y_tab m f e).toNat v) := by
  have tn := y_tab_n m1 m2 f1 f2
  have hp := y_pw_b (y_ch f)
  have e9 : y_tab m f e = y_tab m f 0 + e := by unfold y_tab; omega
  have hb : ((m * 5 + f) * 4 + e).toNat = ((m * 5 + f) * 4).toNat + e.toNat := by omega
  rw [hb] at w fr
  have key := y_cM (τ := τ) (w := fun j => y_wK A (y_tab m f e).toNat v ((y_tab m f 0).toNat + j)) hP hA m1 m2 f1 f2 (fun q x h1 h2 h3 => fr q x h1 (by omega) (by omega)) (fun j hj => ?_) (fun x hx => fr 8 x (by omega) (by omega) (by omega))
  · refine y_AG_ex2 key (fun x => ?_)
    unfold y_wM
    by_cases c : (y_tab m f 0).toNat ≤ x ∧ x < (y_tab m f 0).toNat + (y_pw (y_ch f)).toNat
    · rw [if_pos c]
      show y_wK A (y_tab m f e).toNat v ((y_tab m f 0).toNat + (x - (y_tab m f 0).toNat)) = y_wK A (y_tab m f e).toNat v x
      rw [show (y_tab m f 0).toNat + (x - (y_tab m f 0).toNat) = x by omega]
    · rw [if_neg c, y_wK_o (by omega)]
  · by_cases c : j = e.toNat
    · rw [c]
      show τ 8 _ = _
      rw [w]
      exact (if_pos (by omega)).symm
    · show τ 8 _ = y_wK A (y_tab m f e).toNat v ((y_tab m f 0).toNat + j)
      rw [fr 8 _ (by omega) (by omega) (by omega), y_wK_o (by omega)]
      have q := y_PG_e hA (e := j) m1 m2 f1 f2 (by omega) hj
      rw [show ((m * 5 + f) * 4 + (j : Int)).toNat = ((m * 5 + f) * 4).toNat + j by omega] at q
      refine q.trans ?_
      congr 1
      have e8 : y_tab m f j = y_tab m f 0 + j := by unfold y_tab; omega
      omega
/-- another row that has what counts -/
theorem y_PG_ag {σ : x_S} {p : Nat} {A B : Nat → Int} (hP : y_PI A) (e : y_AG B A) (h : y_PG σ p A) : y_PG σ p B := by
  have h62 := hP.2.2.2.1
  have e62 := e.2.2.1 62 (by decide) (by decide)
  refine ⟨y_AG_tr hP h.1 e, fun P Q F L h1 h2 h3 h4 => ?_⟩
  rw [h.2 P Q F L h1 h2 h3 h4, e62]
  refine (y_sel_e (e.1 _ (by omega)) (fun r hr c hc => e.2.2.2 r c (by omega) (by have := y_PI_pc hP (r := r) (by omega); omega))).symm
/-- what is taken hangs on rules and kinds alone -/
theorem y_CH_ex {σ : x_S} {p : Nat} {A B : Nat → Int} (hk : ∀ m, m < 2 → B m = A m) (hr : ∀ m, 62 ≤ m → B m = A m) (h : y_CH σ p A) : y_CH σ p B := by
  intro P Q F L h1 h2 h3 h4
  rw [h P Q F L h1 h2 h3 h4, hr 62 (by omega)]
  exact (y_sel_e (hk _ (by omega)) (fun r _ c _ => hr _ (by omega))).symm
theorem y_CH_fr {σ τ : x_S} {p : Nat} {A : Nat → Int} (f : ∀ k, τ (p + 6) k = σ (p + 6) k) (h : y_CH σ p A) : y_CH τ p A := fun P Q F L h1 h2 h3 h4 => (f _).trans (h P Q F L h1 h2 h3 h4)
/-! the shelves -/
def y_SF (σ : x_S) (n : Nat) (B : Nat → Nat → Int) : Prop := σ 18 2 = n ∧ ∀ i, i < n → y_PG σ (20 + 7 * (((σ 18 1).toNat + i) % 8)) (B i)
def y_KF (σ : x_S) (n : Nat) (B : Nat → Nat → Int) : Prop := σ 76 1 = 0 ∧ σ 76 2 = n ∧ ∀ i, i < n → y_PG σ (78 + 7 * i) (B i)
def y_pn (n : Nat) : Nat := if n < 8 then n + 1 else 8
def y_psh (n : Nat) (B : Nat → Nat → Int) (A : Nat → Int) : Nat → Nat → Int := fun i => if n < 8 then (if i = n then A else B i) else (if i = 7 then A else B (i + 1))
theorem y_SF_fr {σ τ : x_S} {n : Nat} {B : Nat → Nat → Int} (hB : ∀ i, i < n → y_PI (B i)) (f : ∀ c k, 18 ≤ c → c < 76 → τ c k = σ c k) (h : y_SF σ n B) : y_SF τ n B := by
  refine ⟨by rw [f 18 2 (by decide) (by decide)]; exact h.1, fun i hi => ?_⟩
  rw [f 18 1 (by decide) (by decide)]
  exact y_PG_fr (hB i hi) (fun c k h1 h2 => f c k (by omega) (by omega)) (h.2 i hi)
theorem y_KF_fr {σ τ : x_S} {n : Nat} {B : Nat → Nat → Int} (hn : n ≤ 2) (hB : ∀ i, i < n → y_PI (B i)) (f : ∀ c k, 76 ≤ c → c < 92 → τ c k = σ c k) (h : y_KF σ n B) : y_KF τ n B := by
  refine ⟨by rw [f 76 1 (by decide) (by decide)]; exact h.1, by rw [f 76 2 (by decide) (by decide)]; exact h.2.1, fun i hi => ?_⟩
  exact y_PG_fr (hB i hi) (fun c k h1 h2 => f c k (by omega) (by omega)) (h.2.2 i hi)
theorem y_psh_P {n : Nat} {B : Nat → Nat → Int} {A : Nat → Int} (hn : n ≤ 8) (hA : y_PI A) (hB : ∀ i, i < n → y_PI (B i)) : ∀ i, i < y_pn n → y_PI (y_psh n B A i) := by
  intro i hi
  unfold y_pn at hi
  unfold y_psh
  by_cases c : n < 8
  · rw [if_pos c] at hi ⊢
    by_cases e : i = n
    · rw [if_pos e]; exact hA
    · rw [if_neg e]; exact hB i (by omega)
  · rw [if_neg c] at hi ⊢
    by_cases e : i = 7
    · rw [if_pos e]; exact hA
    · rw [if_neg e]; exact hB (i + 1) (by omega)
theorem y_SF_put {σ τ : x_S} {n : Nat} {B : Nat → Nat → Int} {A : Nat → Int} {a : Nat} (C0 : y_CI σ) (hA : y_PI A) (h4 : y_PG σ 4 A) (hn : n ≤ 8) (hB : ∀ i, i < n → y_PI (B i)) (hS : y_SF σ n B) (ha : a < 8) (hp : (a : Int) = σ 18 1 + σ 18 2 ∨ (a : Int) = σ 18 1 + σ 18 2 - 8) (f : ∀ c m, (c < 18 ∨ (20 ≤ c ∧ ¬ (20 + 7 * a ≤ c ∧ c ≤ 26 + 7 * a))) → τ c m = σ c m) (w : y_CP σ 4 τ (20 + 7 * a)) (hh : (σ 18 2 < 8 ∧ τ 18 2 = σ 18 2 + 1 ∧ τ 18 1 = σ 18 1) ∨ (σ 18 2 = 8 ∧ τ 18 2 = σ 18 2 ∧ (τ 18 1 = σ 18 1 + 1 ∨ τ 18 1 = σ 18 1 + 1 - 8))) (C1 : y_CI τ) : y_SF τ (y_pn n) (y_psh n B A) := by
  obtain ⟨s1, s2⟩ := hS
  have c1 : 0 ≤ σ 18 1 ∧ σ 18 1 ≤ 7 := C0 18 1 (by decide) (by decide) (by decide)
  have d1 : 0 ≤ τ 18 1 ∧ τ 18 1 ≤ 7 := C1 18 1 (by decide) (by decide) (by decide)
  have key : ∀ b : Nat, b < 8 → b ≠ a → ∀ A', y_PI A' → y_PG σ (20 + 7 * b) A' → y_PG τ (20 + 7 * b) A' := fun b hb hne A' hP' h => y_PG_fr hP' (fun c k h1 h2 => f c k (by omega)) h
  unfold y_pn y_psh
  by_cases c : n < 8
  · rw [if_pos c]
    refine ⟨by omega, fun i hi => ?_⟩
    dsimp only
    rw [if_pos c]
    by_cases e : i = n
    · rw [if_pos e]
      rw [show ((τ 18 1).toNat + i) % 8 = a by omega]
      exact y_PG_cp hA h4 w
    · rw [if_neg e, show (τ 18 1).toNat = (σ 18 1).toNat by omega]
      exact key _ (by omega) (by omega) _ (hB i (by omega)) (s2 i (by omega))
  · rw [if_neg c]
    refine ⟨by omega, fun i hi => ?_⟩
    dsimp only
    rw [if_neg c]
    by_cases e : i = 7
    · rw [if_pos e]
      rw [show ((τ 18 1).toNat + i) % 8 = a by omega]
      exact y_PG_cp hA h4 w
    · rw [if_neg e]
      have q := key (((σ 18 1).toNat + (i + 1)) % 8) (by omega) (by omega) _ (hB (i + 1) (by omega)) (s2 (i + 1) (by omega))
      rw [show ((τ 18 1).toNat + i) % 8 = ((σ 18 1).toNat + (i + 1)) % 8 by omega]
      exact q
theorem y_SF_take {σ τ : x_S} {n : Nat} {B : Nat → Nat → Int} {a : Nat} (C0 : y_CI σ) (hn : n + 1 ≤ 8) (hB : ∀ i, i < n + 1 → y_PI (B i)) (hS : y_SF σ (n + 1) B) (ha : a < 8) (hp : (a : Int) = σ 18 1 + σ 18 2 - 1 ∨ (a : Int) = σ 18 1 + σ 18 2 - 1 - 8) (f : ∀ c m, ¬ (4 ≤ c ∧ c ≤ 10) → ¬ (c = 18 ∧ m = 2) → τ c m = σ c m) (w : y_CP σ (20 + 7 * a) τ 4) (h2 : τ 18 2 = σ 18 2 - 1) : y_PG τ 4 (B n) ∧ y_SF τ n B := by
  obtain ⟨s1, s2⟩ := hS
  have c1 : 0 ≤ σ 18 1 ∧ σ 18 1 ≤ 7 := C0 18 1 (by decide) (by decide) (by decide)
  have e1 := f 18 1 (by decide) (by decide)
  refine ⟨?_, by omega, fun i hi => ?_⟩
  · have q := s2 n (by omega)
    rw [show ((σ 18 1).toNat + n) % 8 = a by omega] at q
    exact y_PG_cp (hB n (by omega)) q w
  · rw [e1]
    exact y_PG_fr (hB i (by omega)) (fun c k h1 h2 => f c k (by omega) (by omega)) (s2 i (by omega))
theorem y_KF_put {σ τ : x_S} {n : Nat} {B : Nat → Nat → Int} {A : Nat → Int} {a : Nat} (hA : y_PI A) (h4 : y_PG σ 4 A) (hn : n < 2) (hB : ∀ i, i < n → y_PI (B i)) (hS : y_KF σ n B) (ha : a < 2) (hp : (a : Int) = σ 76 1 + σ 76 2 ∨ (a : Int) = σ 76 1 + σ 76 2 - 2) (f : ∀ c m, (c < 76 ∨ (78 ≤ c ∧ ¬ (78 + 7 * a ≤ c ∧ c ≤ 84 + 7 * a))) → τ c m = σ c m) (w : y_CP σ 4 τ (78 + 7 * a)) (hh : (σ 76 2 < 2 ∧ τ 76 2 = σ 76 2 + 1 ∧ τ 76 1 = σ 76 1) ∨ (σ 76 2 = 2 ∧ τ 76 2 = σ 76 2 ∧ (τ 76 1 = σ 76 1 + 1 ∨ τ 76 1 = σ 76 1 + 1 - 2))) : y_KF τ (n + 1) (fun i => if i = n then A else B i) := by
  obtain ⟨s0, s1, s2⟩ := hS
  refine ⟨by omega, by omega, fun i hi => ?_⟩
  show y_PG τ (78 + 7 * i) (if i = n then A else B i)
  by_cases e : i = n
  · rw [if_pos e, show i = a by omega]
    exact y_PG_cp hA h4 w
  · rw [if_neg e]
    exact y_PG_fr (hB i (by omega)) (fun c k h1 h2 => f c k (by omega)) (s2 i (by omega))
theorem y_KF_take {σ τ : x_S} {n : Nat} {B : Nat → Nat → Int} {a : Nat} (hn : n + 1 ≤ 2) (hB : ∀ i, i < n + 1 → y_PI (B i)) (hS : y_KF σ (n + 1) B) (ha : a < 2) (hp : (a : Int) = σ 76 1 + σ 76 2 - 1 ∨ (a : Int) = σ 76 1 + σ 76 2 - 1 - 2) (f : ∀ c m, ¬ (4 ≤ c ∧ c ≤ 10) → ¬ (c = 76 ∧ m = 2) → τ c m = σ c m) (w : y_CP σ (78 + 7 * a) τ 4) (h2 : τ 76 2 = σ 76 2 - 1) : y_PG τ 4 (B n) ∧ y_KF τ n B := by
  obtain ⟨s0, s1, s2⟩ := hS
  refine ⟨?_, by rw [f 76 1 (by decide) (by decide)]; exact s0, by omega, fun i hi => ?_⟩
  · have q := s2 n (by omega)
    rw [show n = a by omega] at q ⊢
    exact y_PG_cp (hB a (by omega)) q w
  · exact y_PG_fr (hB i (by omega)) (fun c k h1 h2 => f c k (by omega) (by omega)) (s2 i (by omega))
