/-! all trees: the class and the reference -/
theorem cn_sol_x {pf : Int → Nat → Nat → Nat} {S S' : Nat → Prop} {s : Nat → Int} {L : Nat → List Int} (h : cn_sol pf S s L) (e : ∀ k, k < 54 → (S k ↔ S' k)) : cn_sol pf S' s L := by
  refine ⟨fun k hk c => h.1 k hk ((e k hk).2 c), fun k hk c h40 => ?_, fun f l r t z => h.2.2 f l r (cn_tri_m (fun k hk c => (e k hk).2 c) t) z⟩
  obtain ⟨f, l, r, t, q⟩ := h.2.1 k hk ((e k hk).2 c) h40
  exact ⟨f, l, r, cn_tri_m (fun k hk c => (e k hk).1 c) t, q⟩
section
variable {A : Nat → Int} {p : Int} {hd lf rt sz od : Nat → Int} {mt : Int} {cm sz' : Nat → Int} {L : Nat → List Int} {nn : Int}
theorem cn_eqS (R : cn_R (cn_pf A p) hd lf rt sz od mt) (fc : cn_FC A p cm nn) {k : Nat} (hk : k < 54) : 0 < sz k ↔ cm k = 1 := cn_cl_u R.2.2.1 R.2.2.2.1 fc.2.2.1 fc.2.2.2 hk
theorem cn_eqC (R : cn_R (cn_pf A p) hd lf rt sz od mt) (fc : cn_FC A p cm nn) : mt = nn := by
  rw [R.2.2.2.2.2.2, fc.1]
  refine y_sum_ext (fun k hk => ?_)
  have e := cn_eqS R fc hk
  by_cases c : 0 < sz k
  · rw [if_pos c]; exact (e.1 c).symm
  · rw [if_neg c]
    have b := fc.2.1 k hk
    have n : cm k ≠ 1 := fun z => c (e.2 z)
    omega
theorem cn_eqZ (R : cn_R (cn_pf A p) hd lf rt sz od mt) (RF : cn_RF A p cm sz' L nn) {k : Nat} (hk : k < 54) : (cm k = 1 ∧ 1 ≤ sz k ∧ sz k ≤ 41 ∧ sz k = sz' k ∧ (sz k ≤ 40 → cn_LL hd lf rt (k : Int) = L k)) ∨ (cm k ≠ 1 ∧ sz k = 0 ∧ sz' k = 41) := by
  have e := cn_eqS R RF.1 hk
  have z41 := R.1 k hk
  by_cases c : cm k = 1
  · have hS := e.2 c
    have so := cn_sol_x RF.2.2.1 (S' := fun k => 0 < sz k) (fun k hk => (cn_eqS R RF.1 hk).symm)
    have s1 := RF.2.2.1.1 k hk c
    refine Or.inl ⟨c, by omega, by omega, ?_⟩
    by_cases d : sz k ≤ 40
    · have u := cn_sol_u R.2.2.2.2.1 so (sz k).toNat k hk hS (Or.inl (by omega)) (by omega)
      exact ⟨u.1, fun _ => u.2⟩
    · by_cases d' : sz' k ≤ 40
      · have u := cn_sol_u R.2.2.2.2.1 so (sz' k).toNat k hk hS (Or.inr (by omega)) (by omega)
        have := u.1
        omega
      · have b := RF.2.2.2.1 k hk
        exact ⟨by omega, fun z => absurd z d⟩
  · have n : ¬ 0 < sz k := fun z => c (e.1 z)
    exact Or.inr ⟨c, by omega, RF.2.1 k hk c⟩
theorem cn_fwN (R : cn_R (cn_pf A p) hd lf rt sz od mt) (RF : cn_RF A p cm sz' L nn) {q ty a b : Int} (no : ∀ j : Nat, (j : Int) < mt → cn_ti (od j) q ≠ ty) (rb : cn_rb cm sz' L q ty b 54) : cn_fw sz' a b = if a = 0 then 0 else -4 := by
  have hb : b < 0 := by
    rcases rb with rb | ⟨b0, b1, bc, bt, _⟩
    · omega
    · obtain ⟨i, hi, ei⟩ := R.2.2.2.2.2.1.2.1 b.toNat (by omega) ((cn_eqS R RF.1 (by omega)).2 bc)
      exact absurd (by rw [ei, show ((b.toNat : Nat) : Int) = b by omega]; exact bt) (no i hi)
  unfold cn_fw
  rw [if_pos hb, if_pos hb]
theorem cn_fwS (R : cn_R (cn_pf A p) hd lf rt sz od mt) (RF : cn_RF A p cm sz' L nn) {q ty a b : Int} {i : Nat} (hi : (i : Int) < mt) (ti : cn_ti (od i) q = ty) (fi : ∀ j : Nat, (j : Int) < i → cn_ti (od j) q ≠ ty) (rb : cn_rb cm sz' L q ty b 54) : cn_fw sz' a b = if a = 0 then sz (od i).toNat else if sz (od i).toNat ≤ 40 then od i else -4 := by
  have ord := R.2.2.2.2.2.1
  have ou := ord.1 i hi
  obtain ⟨u, hu⟩ : ∃ u, u = od i := ⟨_, rfl⟩
  rw [← hu] at ou ti ⊢
  have eu : ((u.toNat : Nat) : Int) = u := by omega
  have cu := (cn_eqS R RF.1 (k := u.toNat) (by omega)).1 ou.2.2
  have zu := cn_eqZ R RF (k := u.toNat) (by omega)
  have zu := zu.resolve_right (fun z => z.1 cu)
  rcases rb with ⟨b1, b2⟩ | ⟨b0, b1, bc, bt, bm⟩
  · exact absurd (by rw [eu]; exact ti) (b2 u.toNat (by omega) (by omega) cu)
  · obtain ⟨j, hj, ej⟩ := ord.2.1 b.toNat (by omega) ((cn_eqS R RF.1 (by omega)).2 bc)
    have jb : od j = b := by omega
    have m := bm u.toNat (by omega) (by omega) cu (by rw [eu]; exact ti)
    have zb := cn_eqZ R RF (k := b.toNat) (by omega)
    have zb := zb.resolve_right (fun z => z.1 bc)
    have eb : ((b.toNat : Nat) : Int) = b := by omega
    rw [eb] at zb
    rw [eu] at zu
    have go : sz' b.toNat = sz u.toNat → (sz u.toNat ≤ 40 → u = b) → cn_fw sz' a b = if a = 0 then sz u.toNat else if sz u.toNat ≤ 40 then u else -4 := fun e1 e2 => by
      unfold cn_fw
      by_cases c : a = 0
      · rw [if_pos c, if_pos c, if_neg (by omega)]; exact e1
      · rw [if_neg c, if_neg c, if_neg (by omega)]
        by_cases d : sz u.toNat ≤ 40
        · rw [if_neg (by omega), if_pos d]; exact (e2 d).symm
        · rw [if_pos (by omega), if_neg d]
    by_cases e : u = b
    · exact go (by rw [← zb.2.2.2.1, e]) (fun _ => e)
    · have ij : i < j := by
        by_cases c : j < i
        · exact absurd (by rw [jb]; exact bt) (fi j (by omega))
        · by_cases d : i = j
          · rw [d] at hu
            exact absurd (hu.trans jb) e
          · omega
      have o := (ord.2.2 i j ij hj).2
      rw [jb, ← hu] at o
      have s1 := cn_le_z m
      have s2 := cn_le_z o
      have ez : sz' b.toNat = sz u.toNat := by omega
      refine go ez (fun h40 => ?_)
      have q1 : cn_lq (L b.toNat) (L u.toNat) := by
        rcases m with m | ⟨_, m | m⟩
        · omega
        · omega
        · exact m
      have q2 : cn_lq (cn_LL hd lf rt u) (cn_LL hd lf rt b) := by
        rcases o with o | ⟨_, o | o⟩
        · omega
        · omega
        · exact o
      rw [zu.2.2.2.2 h40, zb.2.2.2.2 (by omega)] at q2
      have el := cn_lq_an q1 q2
      rw [← zu.2.2.2.2 h40, ← zb.2.2.2.2 (by omega)] at el
      exact (cn_pre R.2.1 40 u b [] [] (by omega) ou.1 ou.2.1 ou.2.2 h40 b0 (by omega) ((cn_eqS R RF.1 (by omega)).2 bc) (by omega) (by rw [List.append_nil, List.append_nil]; exact el.symm)).1
end
/-- what the class holds for worked out: what it hangs on -/
theorem cn_R_pf {pf pf' : Int → Nat → Nat → Nat} {hd lf rt sz od : Nat → Int} {mt : Int} (e : ∀ f l r, 0 ≤ f → f ≤ 4 → pf' f l r = pf f l r) (h : cn_R pf hd lf rt sz od mt) : cn_R pf' hd lf rt sz od mt := by
  have clx : ∀ X : Nat → Prop, cn_cl pf' X ↔ cn_cl pf X := fun X => ⟨fun c f l r t => by rw [← e f l r t.1.1 t.1.2]; exact c f l r t, fun c f l r t => by rw [e f l r t.1.1 t.1.2]; exact c f l r t⟩
  obtain ⟨a, b, c, d, ⟨s1, s2, s3⟩, g⟩ := h
  refine ⟨a, fun k hk hs => ?_, (clx _).2 c, fun X hX => d X ((clx X).1 hX), ⟨s1, fun k hk hs h40 => ?_, fun f l r t h => ?_⟩, g⟩
  · have q := b k hk hs
    exact ⟨q.1, q.2.1, by rw [e _ _ _ q.1.1.1 q.1.1.2]; exact q.2.2.1, q.2.2.2⟩
  · obtain ⟨f, l, r, t, q1, q2⟩ := s2 k hk hs h40
    exact ⟨f, l, r, t, by rw [e _ _ _ t.1.1 t.1.2]; exact q1, q2⟩
  · rw [e _ _ _ t.1.1 t.1.2]
    exact s3 f l r t h
theorem cn_CR_f {σ τ : x_S} (f : ∀ c m, 111 ≤ c → c < 137 → τ c m = σ c m) (a : ∀ m, (m < 2 ∨ 38 ≤ m) → τ 140 m = σ 140 m) (h : cn_CR σ (σ 140)) : cn_CR τ (τ 140) := by
  have one : ∀ (c : Nat) (p : Int), (c = 111 ∨ c = 124) → 0 ≤ p → p ≤ 1 → cn_RC σ c (σ 140) p → cn_RC τ c (τ 140) p := fun c p hc p0 p1 h => by
    have q := cn_RC_fr h (τ := τ) (fun q m z => f q m (by omega) (by omega))
    exact cn_R_pf (fun f l r f0 f1 => cn_pf_x p0 p1 f0 f1 a) q
  exact ⟨fun z => one 111 0 (Or.inl rfl) (by decide) (by decide) (h.1 (by rw [← f 111 14 (by decide) (by decide)]; exact z)), fun z => one 124 1 (Or.inr rfl) (by decide) (by decide) (h.2 (by rw [← f 124 14 (by decide) (by decide)]; exact z))⟩
theorem cn_CR_0 {τ τ' : x_S} {A : Nat → Int} (so : ∀ r k, r < 138 → τ' r k = τ r k) (zz : τ 111 14 = 0 ∧ τ 124 14 = 0) : cn_CR τ' A := ⟨fun z => absurd z (by rw [so 111 14 (by decide), zz.1]; decide), fun z => absurd z (by rw [so 124 14 (by decide), zz.2]; decide)⟩
theorem cn_CR_r {σ τ : x_S} (g : y_rf σ τ) (h : cn_CR σ (σ 140)) : cn_CR τ (τ 140) := cn_CR_f (fun c m h1 h2 => g c m (by omega) (fun z => absurd z (by omega))) (fun m _ => g 140 m (by decide) (fun z => absurd z (by decide))) h
