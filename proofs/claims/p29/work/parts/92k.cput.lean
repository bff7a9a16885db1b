/-! what is put into a program of the class, as a row -/
theorem y_tab_v {m f : Int} (m1 : 0 ≤ m) (m2 : m ≤ 1) (f1 : 0 ≤ f) (f2 : f ≤ 4) : (m = 0 ∧ f = 0 ∧ (y_tab m f 0).toNat = 38 ∧ (y_pw (y_ch f)).toNat = 1 ∧ y_pw (y_ch f) = 1 ∧ ((m * 5 + f) * 4).toNat = 0) ∨ (m = 0 ∧ f = 1 ∧ (y_tab m f 0).toNat = 39 ∧ (y_pw (y_ch f)).toNat = 1 ∧ y_pw (y_ch f) = 1 ∧ ((m * 5 + f) * 4).toNat = 4) ∨ (m = 0 ∧ f = 2 ∧ (y_tab m f 0).toNat = 40 ∧ (y_pw (y_ch f)).toNat = 2 ∧ y_pw (y_ch f) = 2 ∧ ((m * 5 + f) * 4).toNat = 8) ∨ (m = 0 ∧ f = 3 ∧ (y_tab m f 0).toNat = 42 ∧ (y_pw (y_ch f)).toNat = 4 ∧ y_pw (y_ch f) = 4 ∧ ((m * 5 + f) * 4).toNat = 12) ∨ (m = 0 ∧ f = 4 ∧ (y_tab m f 0).toNat = 46 ∧ (y_pw (y_ch f)).toNat = 4 ∧ y_pw (y_ch f) = 4 ∧ ((m * 5 + f) * 4).toNat = 16) ∨ (m = 1 ∧ f = 0 ∧ (y_tab m f 0).toNat = 50 ∧ (y_pw (y_ch f)).toNat = 1 ∧ y_pw (y_ch f) = 1 ∧ ((m * 5 + f) * 4).toNat = 20) ∨ (m = 1 ∧ f = 1 ∧ (y_tab m f 0).toNat = 51 ∧ (y_pw (y_ch f)).toNat = 1 ∧ y_pw (y_ch f) = 1 ∧ ((m * 5 + f) * 4).toNat = 24) ∨ (m = 1 ∧ f = 2 ∧ (y_tab m f 0).toNat = 52 ∧ (y_pw (y_ch f)).toNat = 2 ∧ y_pw (y_ch f) = 2 ∧ ((m * 5 + f) * 4).toNat = 28) ∨ (m = 1 ∧ f = 3 ∧ (y_tab m f 0).toNat = 54 ∧ (y_pw (y_ch f)).toNat = 4 ∧ y_pw (y_ch f) = 4 ∧ ((m * 5 + f) * 4).toNat = 32) ∨ (m = 1 ∧ f = 4 ∧ (y_tab m f 0).toNat = 58 ∧ (y_pw (y_ch f)).toNat = 4 ∧ y_pw (y_ch f) = 4 ∧ ((m * 5 + f) * 4).toNat = 36) := by
  have c : (m = 0 ∨ m = 1) ∧ (f = 0 ∨ f = 1 ∨ f = 2 ∨ f = 3 ∨ f = 4) := by omega
  obtain ⟨c1, c2⟩ := c
  rcases c1 with rfl | rfl
  · rcases c2 with rfl | rfl | rfl | rfl | rfl <;> decide
  · rcases c2 with rfl | rfl | rfl | rfl | rfl <;> decide
theorem y_ce_t {m f : Int} {j : Nat} (m1 : 0 ≤ m) (m2 : m ≤ 1) (f1 : 0 ≤ f) (f2 : f ≤ 4) (hj : j < (y_pw (y_ch f)).toNat) : y_ce ((y_tab m f 0).toNat - 38 + j) = ((m * 5 + f) * 4).toNat + j := by
  rcases y_tab_v m1 m2 f1 f2 with h | h | h | h | h | h | h | h | h | h
  all_goals
    obtain ⟨_, _, e1, e2, _, e3⟩ := h
    rw [e2] at hj
    rw [e1, e3]
    unfold y_ce
    (repeat' split) <;> omega
theorem y_ce_o {m f : Int} {x : Nat} (m1 : 0 ≤ m) (m2 : m ≤ 1) (f1 : 0 ≤ f) (f2 : f ≤ 4) (hx : x < 24) (h0 : ¬ ((y_tab m f 0).toNat ≤ 38 + x ∧ 38 + x < (y_tab m f 0).toNat + (y_pw (y_ch f)).toNat)) : ¬ (((m * 5 + f) * 4).toNat ≤ y_ce x ∧ y_ce x < ((m * 5 + f) * 4).toNat + (y_pw (y_ch f)).toNat) := by
  rcases y_tab_v m1 m2 f1 f2 with h | h | h | h | h | h | h | h | h | h
  all_goals
    obtain ⟨_, _, e1, e2, _, e3⟩ := h
    rw [e1, e2] at h0
    rw [e2, e3]
    unfold y_ce
    (repeat' split) <;> omega
section
variable {σ τ : x_S} {A : Nat → Int} {p : Nat}
theorem y_cT {t : Nat} {l : List Int} (hP : y_PI A) (hA : y_AG (y_cv σ p) A) (ht : t < 3) (hl : l.length ≤ 11) (fr : ∀ q m, p ≤ q → q < p + 6 → q ≠ p + 1 → q ≠ p + 2 → τ q m = σ q m) (wl : ∀ i, i < l.length → τ (p + 1) (11 * t + i) = l.getD i 0) (wo : ∀ m, ¬ (11 * t ≤ m ∧ m < 11 * t + l.length) → τ (p + 1) m = σ (p + 1) m) (ws : ∀ m, τ (p + 2) m = if m = t then (l.length : Int) else σ (p + 2) m) : y_AG (y_cv τ p) (y_wT A t l) := by
  refine y_AG_T hP hA ht hl (fun m hm h1 h2 => ?_) ?_ (fun i hi => ?_)
  · refine y_cv_x (fun _ => fr _ m (by omega) (by omega) (by omega) (by omega)) (fun a b => ?_) (fun a b => wo _ (by omega)) (fun a b => fr _ _ (by omega) (by omega) (by omega) (by omega)) (fun a => fr _ _ (by omega) (by omega) (by omega) (by omega)) (fun a => fr _ _ (by omega) (by omega) (by omega) (by omega))
    rw [ws, if_neg (by omega)]
  · rw [y_cvs ht, ws, if_pos rfl]
  · rw [Nat.add_assoc, y_cvl (by omega)]; exact wl i hi
theorem y_cK {k : Nat} {v : Int} (hP : y_PI A) (hA : y_AG (y_cv σ p) A) (hk : k < 2) (fr : ∀ q m, p ≤ q → q < p + 6 → ¬ (q = p + 3 ∧ m = k) → τ q m = σ q m) (w : τ (p + 3) k = v) : y_AG (y_cv τ p) (y_wK A k v) := by
  refine y_AG_K hP hA hk (fun m hm h1 => ?_) ?_
  · exact y_cv_x (fun _ => fr _ m (by omega) (by omega) (by omega)) (fun a b => fr _ _ (by omega) (by omega) (by omega)) (fun a b => fr _ _ (by omega) (by omega) (by omega)) (fun a b => fr _ _ (by omega) (by omega) (by omega)) (fun a => fr _ _ (by omega) (by omega) (by omega)) (fun a => fr _ _ (by omega) (by omega) (by omega))
  · rw [y_cvk hk]; exact w
theorem y_cM {m f : Int} {w : Nat → Int} (hP : y_PI A) (hA : y_AG (y_cv σ p) A) (m1 : 0 ≤ m) (m2 : m ≤ 1) (f1 : 0 ≤ f) (f2 : f ≤ 4) (fr : ∀ q x, p ≤ q → q < p + 6 → q ≠ p + 4 → τ q x = σ q x) (hw : ∀ j : Nat, (j : Int) < y_pw (y_ch f) → τ (p + 4) (((m * 5 + f) * 4).toNat + j) = w j) (ho : ∀ x, ¬ (((m * 5 + f) * 4).toNat ≤ x ∧ x < ((m * 5 + f) * 4).toNat + (y_pw (y_ch f)).toNat) → τ (p + 4) x = σ (p + 4) x) : y_AG (y_cv τ p) (y_wM A (y_tab m f 0).toNat (y_pw (y_ch f)).toNat w) := by
  have ht := y_tab_n m1 m2 f1 f2
  have hp := y_pw_b (y_ch f)
  refine y_AG_M hP hA ht.1 ht.2 (fun x hx h1 => ?_) (fun j hj => ?_)
  · refine y_cv_x (fun _ => fr _ _ (by omega) (by omega) (by omega)) (fun a b => fr _ _ (by omega) (by omega) (by omega)) (fun a b => fr _ _ (by omega) (by omega) (by omega)) (fun a b => ho _ (y_ce_o m1 m2 f1 f2 (by omega) ?_)) (fun a => fr _ _ (by omega) (by omega) (by omega)) (fun a => fr _ _ (by omega) (by omega) (by omega))
    rw [show 38 + (x - 38) = x by omega]; exact h1
  · rw [show (y_tab m f 0).toNat + j = 38 + ((y_tab m f 0).toNat - 38 + j) by omega, y_cve (by omega), y_ce_t m1 m2 f1 f2 hj]
    exact hw j (by omega)
theorem y_cR {w : Nat → Int} (hP : y_PI A) (hA : y_AG (y_cv σ p) A) (h16 : A 62 < 16) (hw : 1 ≤ w 4 ∧ w 4 ≤ 7) (fr : ∀ q m, p ≤ q → q < p + 6 → ¬ (q = p + 5 ∧ 12 * (A 62).toNat ≤ m ∧ m < 12 * (A 62).toNat + 12) → ¬ (q = p ∧ m = 6) → τ q m = σ q m) (hc : ∀ c : Nat, (c : Int) < 5 + w 4 → τ (p + 5) (12 * (A 62).toNat + c) = w c) (hn : τ p 6 = σ p 6 + 1) : y_AG (y_cv τ p) (y_wR A w) := by
  refine y_AG_R hP hA h16 hw (fun m hm h1 h2 => ?_) ?_ (fun c h1 => ?_)
  · exact y_cv_x (fun _ => fr _ _ (by omega) (by omega) (by omega) (by omega)) (fun a b => fr _ _ (by omega) (by omega) (by omega) (by omega)) (fun a b => fr _ _ (by omega) (by omega) (by omega) (by omega)) (fun a b => fr _ _ (by omega) (by omega) (by omega) (by omega)) (fun a => absurd a h1) (fun a => fr _ _ (by omega) (by omega) (by omega) (by omega))
  · rw [y_cvn, y_cvn]; exact hn
  · rw [Nat.add_assoc, y_cvr]; exact hc c h1
theorem y_c0 (h1 : ∀ m, m < 33 → τ (p + 1) m = 0) (h2 : ∀ m, m < 3 → τ (p + 2) m = 1) (h3 : ∀ m, m < 2 → τ (p + 3) m = 0) (h4 : ∀ m, m < 40 → τ (p + 4) m = 0) (h5 : τ p 6 = 0) : y_AG (y_cv τ p) y_A0 := by
  have a62 : y_A0 62 = 0 := rfl
  refine ⟨fun m hm => ?_, fun t v ht hv => ?_, fun m m1 m2 => ?_, fun r c hr _ => ?_⟩
  · unfold y_A0
    by_cases c : m < 2
    · rw [y_cvk c, h3 m c, if_neg (by omega)]
    · rw [show m = 2 + (m - 2) by omega, y_cvs (by omega), h2 _ (by omega), if_pos (by omega)]
  · unfold y_A0 at hv ⊢
    rw [if_pos (by omega)] at hv
    rw [Nat.add_assoc, y_cvl (by omega), h1 _ (by omega), if_neg (by omega)]
  · by_cases c : m = 62
    · rw [c, y_cvn, h5]; exact a62.symm
    · unfold y_A0
      rw [show m = 38 + (m - 38) by omega, y_cve (by omega), if_neg (by omega)]
      refine h4 _ ?_
      unfold y_ce
      (repeat' split) <;> omega
  · rw [a62] at hr; omega
end
theorem y_iT_i {g : Int → Int} {s e : Int} {l : List Int} (h : y_iT g s = some (l, e)) : (48 ≤ g s ∧ g s ≤ 50 ∧ g (s + 1) = 61) ∧ y_rw g (-1) 11 1 (s + 2) = some (l, e) := by
  unfold y_iT at h
  split at h
  · rename_i c; exact ⟨c, h⟩
  · cases h
theorem y_iK_i {g : Int → Int} {s : Int} : y_iK g s = true ↔ (48 ≤ g s ∧ g s ≤ 49 ∧ 48 ≤ g (s + 1) ∧ g (s + 1) ≤ 51) := by
  unfold y_iK
  rw [decide_eq_true_iff]
theorem y_it_t {g : Int → Int} {A : Nat → Int} {s : Int} (h : g s = 116) : y_it g A s = match y_iT g (s + 1) with | none => none | some (l, e) => some (y_wT A (g (s + 1) - 48).toNat l, e) := by
  unfold y_it; rw [if_pos h]; rfl
theorem y_it_p {g : Int → Int} {A : Nat → Int} {s : Int} (h : g s = 112) : y_it g A s = if y_iK g (s + 1) = true then some (y_wK A (g (s + 1) - 48).toNat (g (s + 2) - 48), s + 3) else none := by
  unfold y_it; rw [if_neg (by omega), if_pos h]
theorem y_it_m {g : Int → Int} {A : Nat → Int} {s : Int} (h : g s = 109) : y_it g A s = if y_iM g (s + 1) = true then some (y_wM A (y_tab (g (s + 1) - 48) (g (s + 2) - 97) 0).toNat (y_pw (y_ch (g (s + 2) - 97))).toNat (fun j => g (s + 4 + j) - 48), s + 4 + y_pw (y_ch (g (s + 2) - 97))) else none := by
  unfold y_it; rw [if_neg (by omega), if_neg (by omega), if_pos h]
theorem y_it_r {g : Int → Int} {A : Nat → Int} {s : Int} (h : g s = 114) : y_it g A s = if A 62 = 16 then none else match y_iR g (s + 1) with | none => none | some (l, e) => some (y_wR A (y_rr g (s + 1) l), e) := by
  unfold y_it; rw [if_neg (by omega), if_neg (by omega), if_neg (by omega), if_pos h]; rfl
theorem y_it_n {g : Int → Int} {A : Nat → Int} {s : Int} (h : g s ≠ 116 ∧ g s ≠ 112 ∧ g s ≠ 109 ∧ g s ≠ 114) : y_it g A s = none := by
  unfold y_it; rw [if_neg h.1, if_neg h.2.1, if_neg h.2.2.1, if_neg h.2.2.2]
/-- an item's end lies behind its beginning, within the text -/
theorem y_it_gt {g : Int → Int} {A A' : Nat → Int} {s e n' : Int} (hg : ∀ k, 1 ≤ g k → k < n') (h : y_it g A s = some (A', e)) : s < e ∧ e ≤ n' := by
  by_cases c1 : g s = 116
  · rw [y_it_t c1] at h
    cases hT : y_iT g (s + 1) with
    | none => rw [hT] at h; cases h
    | some q =>
      obtain ⟨l, e1⟩ := q
      rw [hT] at h
      have h2 : e1 = e := congrArg Prod.snd (Option.some.inj h)
      have hb := y_iT_i hT
      have q1 := hg (s + 1 + 1) (by omega)
      have q2 := y_rw_end hg (by omega) hb.2
      omega
  by_cases c2 : g s = 112
  · rw [y_it_p c2] at h
    split at h
    · rename_i hK
      have hK := y_iK_i.mp hK
      have h2 : s + 3 = e := congrArg Prod.snd (Option.some.inj h)
      have q1 := hg (s + 1 + 1) (by omega)
      omega
    · cases h
  by_cases c3 : g s = 109
  · rw [y_it_m c3] at h
    split at h
    · rename_i hM
      have hM := y_iM_i.mp hM
      have h2 : s + 4 + y_pw (y_ch (g (s + 2) - 97)) = e := congrArg Prod.snd (Option.some.inj h)
      have hp := y_pw_b (y_ch (g (s + 2) - 97))
      rw [show s + 1 + 1 = s + 2 by omega] at hM
      have q := hM.2 (y_pw (y_ch (g (s + 2) - 97)) - 1).toNat (by omega)
      have q1 := hg _ (show 1 ≤ g (s + 1 + 3 + ((y_pw (y_ch (g (s + 2) - 97)) - 1).toNat : Int)) by omega)
      omega
    · cases h
  by_cases c4 : g s = 114
  · rw [y_it_r c4] at h
    split at h
    · cases h
    · cases hR : y_iR g (s + 1) with
      | none => rw [hR] at h; cases h
      | some q =>
        obtain ⟨l, e1⟩ := q
        rw [hR] at h
        have h2 : e1 = e := congrArg Prod.snd (Option.some.inj h)
        have hb := y_iR_i hR
        have q1 := hg (s + 1 + 4) (by omega)
        have q2 := y_rw_end hg (by omega) hb.2
        omega
  · rw [y_it_n ⟨c1, c2, c3, c4⟩] at h; cases h
