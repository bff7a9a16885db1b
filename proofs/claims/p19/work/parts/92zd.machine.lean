/-! a walk, as a machine: how many rules are under way, their places, which, how far; how many letters are made, which; how often it came where -/
abbrev w_C : Type := Nat × (Nat → Int) × (Nat → Int) × (Nat → Int) × Nat × (Nat → Int) × (Nat → Int)
def w_come (A : Nat → Int) (p : Int) (lt sg nd : Int → Int) (q x : Int) : w_C → Int × w_C
  | (d, a, r, i, o, u, v) => if x < 0 then (x, (d, a, r, i, o, u, v)) else if y_sel A p q (lt x) (sg x) (A 62).toNat < 0 then (-10 - nd x, (d, a, r, i, o, u, y_wK v (nd x).toNat (v (nd x).toNat + 1))) else (0, (d + 1, y_wK a d x, y_wK r d (y_sel A p q (lt x) (sg x) (A 62).toNat), y_wK i d 0, o, u, y_wK v (nd x).toNat (v (nd x).toNat + 1)))
/-- which child a call means -/
def w_ch (A : Nat → Int) (p f z : Int) : Int := if 2 ≤ A p.toNat ∧ 2 < f then 1 - (z - 10) % 2 else (z - 10) % 2
def w_step (A : Nat → Int) (p : Int) (lt sg nd : Int → Int) (bl : Int → Int → Int) : w_C → Int × w_C
  | (d, a, r, i, o, u, v) => if ¬ i (d - 1) < A (67 + 12 * (r (d - 1)).toNat) then (0, (d - 1, a, r, i, o, u, v)) else if 9 < A (68 + 12 * (r (d - 1)).toNat + (i (d - 1)).toNat) then w_come A p lt sg nd ((A (68 + 12 * (r (d - 1)).toNat + (i (d - 1)).toNat) - 10) / 2) (bl (a (d - 1)) (w_ch A p (lt (a (d - 1))) (A (68 + 12 * (r (d - 1)).toNat + (i (d - 1)).toNat)))) (d, a, r, y_wK i (d - 1) (i (d - 1) + 1), o, u, v) else if o < 40 then (0, (d, a, r, y_wK i (d - 1) (i (d - 1) + 1), o + 1, y_wK u o (A (68 + 12 * (r (d - 1)).toNat + (i (d - 1)).toNat)), v)) else (-3, (d, a, r, y_wK i (d - 1) (i (d - 1) + 1), o, u, v))
def w_run (A : Nat → Int) (p : Int) (lt sg nd : Int → Int) (bl : Int → Int → Int) : Nat → Int × w_C → Int × w_C
  | 0, x => x
  | n + 1, x => if x.1 = 0 ∧ 0 < x.2.1 then w_run A p lt sg nd bl n (w_step A p lt sg nd bl x.2) else x
def w_0 : w_C := (0, fun _ => 0, fun _ => 0, fun _ => 0, 0, fun _ => 0, fun _ => 0)
/-- how many steps are left, at most -/
def w_phi : w_C → Int
  | (d, _, _, i, o, _, _) => (40 - (o : Int)) * 162 + (if i (d - 1) = 0 then 80 - (d : Int) else (d : Int) + 81)
/-- what a walk goes over: places, how deep they lie, what is below them -/
def w_G (lt nd rk : Int → Int) (bl : Int → Int → Int) (D : Int → Prop) : Prop := (∀ x, D x → (0 ≤ x ∧ x ≤ 2147483647) ∧ (0 ≤ nd x ∧ nd x < 40) ∧ (0 ≤ lt x ∧ lt x ≤ 4) ∧ 0 ≤ rk x ∧ rk x ≤ 78) ∧ ∀ x c, D x → ((c = 0 ∧ 2 ≤ lt x) ∨ (c = 1 ∧ 3 ≤ lt x)) → (-60 ≤ bl x c ∧ bl x c ≤ -10) ∨ (D (bl x c) ∧ rk x < rk (bl x c))
def w_I (A : Nat → Int) (lt rk : Int → Int) (D : Int → Prop) : w_C → Prop
  | (d, a, r, i, o, u, v) => (∀ j, j < d → D (a j) ∧ (0 ≤ r j ∧ r j < A 62 ∧ A (65 + 12 * (r j).toNat) = lt (a j)) ∧ (0 ≤ i j ∧ i j ≤ A (67 + 12 * (r j).toNat)) ∧ (j : Int) ≤ rk (a j) ∧ (j + 1 < d → 1 ≤ i j)) ∧ o ≤ 40 ∧ (∀ j, 0 ≤ v j ∧ v j + w_phi (d, a, r, i, o, u, v) ≤ 6700) ∧ ∀ j, j < o → 0 ≤ u j ∧ u j ≤ 4
section
variable {A : Nat → Int} {p : Int} {lt sg nd rk : Int → Int} {bl : Int → Int → Int} {D : Int → Prop}
theorem w_come_q {q x : Int} {d o : Nat} {a r i u v : Nat → Int} : w_come A p lt sg nd q x (d, a, r, i, o, u, v) = if x < 0 then (x, (d, a, r, i, o, u, v)) else if y_sel A p q (lt x) (sg x) (A 62).toNat < 0 then (-10 - nd x, (d, a, r, i, o, u, y_wK v (nd x).toNat (v (nd x).toNat + 1))) else (0, (d + 1, y_wK a d x, y_wK r d (y_sel A p q (lt x) (sg x) (A 62).toNat), y_wK i d 0, o, u, y_wK v (nd x).toNat (v (nd x).toNat + 1))) := rfl
theorem w_step_q {t o : Nat} {a r i u v : Nat → Int} : w_step A p lt sg nd bl (t + 1, a, r, i, o, u, v) = if ¬ i t < A (67 + 12 * (r t).toNat) then (0, (t, a, r, i, o, u, v)) else if 9 < A (68 + 12 * (r t).toNat + (i t).toNat) then w_come A p lt sg nd ((A (68 + 12 * (r t).toNat + (i t).toNat) - 10) / 2) (bl (a t) (w_ch A p (lt (a t)) (A (68 + 12 * (r t).toNat + (i t).toNat)))) (t + 1, a, r, y_wK i t (i t + 1), o, u, v) else if o < 40 then (0, (t + 1, a, r, y_wK i t (i t + 1), o + 1, y_wK u o (A (68 + 12 * (r t).toNat + (i t).toNat)), v)) else (-3, (t + 1, a, r, y_wK i t (i t + 1), o, u, v)) := rfl
theorem w_run_t {x : Int × w_C} (h : ¬ (x.1 = 0 ∧ 0 < x.2.1)) : ∀ n, w_run A p lt sg nd bl n x = x
  | 0 => rfl
  | n + 1 => by
    show (if x.1 = 0 ∧ 0 < x.2.1 then w_run A p lt sg nd bl n (w_step A p lt sg nd bl x.2) else x) = x
    rw [if_neg h]
theorem w_run_s {x : Int × w_C} {n : Nat} (h : x.1 = 0 ∧ 0 < x.2.1) : w_run A p lt sg nd bl (n + 1) x = w_run A p lt sg nd bl n (w_step A p lt sg nd bl x.2) := by
  show (if x.1 = 0 ∧ 0 < x.2.1 then w_run A p lt sg nd bl n (w_step A p lt sg nd bl x.2) else x) = _
  rw [if_pos h]
/-- a call is for a child that there is -/
theorem w_ch_ok {f z : Int} (hz : (0 ≤ z ∧ z ≤ 4) ∨ (10 ≤ z ∧ z ≤ 15 ∧ 2 ≤ f ∧ (z % 2 = 1 → 3 ≤ f))) (h9 : 9 < z) : (w_ch A p f z = 0 ∧ 2 ≤ f) ∨ (w_ch A p f z = 1 ∧ 3 ≤ f) := by
  unfold w_ch
  by_cases c : 2 ≤ A p.toNat ∧ 2 < f
  · rw [if_pos c]; omega
  · rw [if_neg c]; omega
theorem w_pc {r i : Int} (hP : y_PI A) (h1 : 0 ≤ r) (h2 : r < A 62) (h3 : 0 ≤ i) (h4 : i < A (67 + 12 * r.toNat)) : (0 ≤ A (68 + 12 * r.toNat + i.toNat) ∧ A (68 + 12 * r.toNat + i.toNat) ≤ 4) ∨ (10 ≤ A (68 + 12 * r.toNat + i.toNat) ∧ A (68 + 12 * r.toNat + i.toNat) ≤ 15 ∧ 2 ≤ A (65 + 12 * r.toNat) ∧ (A (68 + 12 * r.toNat + i.toNat) % 2 = 1 → 3 ≤ A (65 + 12 * r.toNat))) := by
  have h62 := hP.2.2.2.1
  have h := (hP.2.2.2.2 r.toNat (by omega)).2.2.2.2.2.1 i.toNat (by rw [show 67 + 12 * r.toNat = 63 + 12 * r.toNat + 4 by omega] at h4; show i.toNat < (A (63 + 12 * r.toNat + 4)).toNat; omega)
  have h1 : y_pc (A (63 + 12 * r.toNat + 2)) (A (63 + 12 * r.toNat + (5 + i.toNat))) := h.1
  rw [show 68 + 12 * r.toNat + i.toNat = 63 + 12 * r.toNat + (5 + i.toNat) by omega, show 65 + 12 * r.toNat = 63 + 12 * r.toNat + 2 by omega]
  exact h1
theorem w_sel {q f l : Int} (h : ¬ y_sel A p q f l (A 62).toNat < 0) : 0 ≤ y_sel A p q f l (A 62).toNat ∧ y_sel A p q f l (A 62).toNat < A 62 ∧ A (65 + 12 * (y_sel A p q f l (A 62).toNat).toNat) = f := by
  rcases y_sel_b (A := A) (p := p) (q := q) (f := f) (l := l) (n := (A 62).toNat) with c | c
  · omega
  · exact ⟨c.1, by omega, c.2.2.2.2.1⟩
/-- coming to a place from the one on top -/
theorem w_come_I {q x : Int} {d o : Nat} {a r i u v : Nat → Int} (hP : y_PI A) (G : w_G lt nd rk bl D) (hx : (-60 ≤ x ∧ x ≤ -10) ∨ (D x ∧ (d : Int) ≤ rk x)) (ho : o ≤ 40) (hu : ∀ j, j < o → 0 ≤ u j ∧ u j ≤ 4) (hI : ∀ j, j < d → D (a j) ∧ (0 ≤ r j ∧ r j < A 62 ∧ A (65 + 12 * (r j).toNat) = lt (a j)) ∧ (0 ≤ i j ∧ i j ≤ A (67 + 12 * (r j).toNat)) ∧ (j : Int) ≤ rk (a j) ∧ 1 ≤ i j) (hv : ∀ j, 0 ≤ v j ∧ v j + 1 + ((40 - o) * 162 + (80 - ((d : Int) + 1))) ≤ 6700) : ((w_come A p lt sg nd q x (d, a, r, i, o, u, v)).1 = 0 ∧ (w_come A p lt sg nd q x (d, a, r, i, o, u, v)).2.1 = d + 1 ∧ w_I A lt rk D (w_come A p lt sg nd q x (d, a, r, i, o, u, v)).2 ∧ w_phi (w_come A p lt sg nd q x (d, a, r, i, o, u, v)).2 = (40 - o) * 162 + (80 - ((d : Int) + 1))) ∨ (-60 ≤ (w_come A p lt sg nd q x (d, a, r, i, o, u, v)).1 ∧ (w_come A p lt sg nd q x (d, a, r, i, o, u, v)).1 ≤ -10) := by
  rw [w_come_q]
  by_cases c1 : x < 0
  · rw [if_pos c1]
    right
    rcases hx with h | h
    · exact h
    · have := (G.1 x h.1).1; omega
  rw [if_neg c1]
  have hD : D x ∧ (d : Int) ≤ rk x := by
    rcases hx with h | h
    · omega
    · exact h
  have g := G.1 x hD.1
  by_cases c2 : y_sel A p q (lt x) (sg x) (A 62).toNat < 0
  · rw [if_pos c2]
    right
    show -60 ≤ -10 - nd x ∧ -10 - nd x ≤ -10
    omega
  rw [if_neg c2]
  left
  have s := w_sel c2
  have ph : w_phi (d + 1, y_wK a d x, y_wK r d (y_sel A p q (lt x) (sg x) (A 62).toNat), y_wK i d 0, o, u, y_wK v (nd x).toNat (v (nd x).toNat + 1)) = (40 - o) * 162 + (80 - ((d : Int) + 1)) := by
    show (40 - (o : Int)) * 162 + (if y_wK i d 0 (d + 1 - 1) = 0 then 80 - ((d + 1 : Nat) : Int) else ((d + 1 : Nat) : Int) + 81) = _
    rw [show d + 1 - 1 = d by omega, if_pos y_wK_e]
    omega
  refine ⟨rfl, rfl, ⟨fun j hj => ?_, ho, fun j => ?_, hu⟩, ph⟩
  · by_cases e : j = d
    · rw [e, y_wK_e, y_wK_e, y_wK_e]
      have p7 := y_PI_pc hP (r := (y_sel A p q (lt x) (sg x) (A 62).toNat).toNat) (by omega)
      exact ⟨hD.1, s, ⟨by omega, by omega⟩, hD.2, fun z => absurd z (by omega)⟩
    · rw [y_wK_o e, y_wK_o e, y_wK_o e]
      have q := hI j (by omega)
      exact ⟨q.1, q.2.1, q.2.2.1, q.2.2.2.1, fun _ => q.2.2.2.2⟩
  · rw [ph]
    by_cases e : j = (nd x).toNat
    · rw [e, y_wK_e]
      have := hv (nd x).toNat
      omega
    · rw [y_wK_o e]
      have := hv j
      omega
/-- a step leaves all well, and there are fewer to come -/
theorem w_step_I {c : w_C} (hP : y_PI A) (G : w_G lt nd rk bl D) (I : w_I A lt rk D c) (d0 : 0 < c.1) : ((w_step A p lt sg nd bl c).1 = 0 ∧ (0 < (w_step A p lt sg nd bl c).2.1 → w_I A lt rk D (w_step A p lt sg nd bl c).2 ∧ w_phi (w_step A p lt sg nd bl c).2 < w_phi c)) ∨ (-60 ≤ (w_step A p lt sg nd bl c).1 ∧ (w_step A p lt sg nd bl c).1 ≤ -10) ∨ (w_step A p lt sg nd bl c).1 = -3 := by
  obtain ⟨d, a, r, i, o, u, v⟩ := c
  have d0 : 0 < d := d0
  obtain ⟨t, ht⟩ : ∃ t, d = t + 1 := ⟨d - 1, by omega⟩
  subst ht
  obtain ⟨I1, I2, I3, I4⟩ := I
  have It := I1 t (by omega)
  have p7 := y_PI_pc hP (r := (r t).toNat) (by omega)
  have gt := G.1 (a t) It.1
  have ph0 : w_phi (t + 1, a, r, i, o, u, v) = (40 - (o : Int)) * 162 + (if i t = 0 then 80 - ((t + 1 : Nat) : Int) else ((t + 1 : Nat) : Int) + 81) := rfl
  rw [w_step_q]
  by_cases c1 : ¬ i t < A (67 + 12 * (r t).toNat)
  · rw [if_pos c1]
    left
    refine ⟨rfl, fun h => ?_⟩
    have h : 0 < t := h
    have Is := I1 (t - 1) (by omega)
    have i1 := Is.2.2.2.2 (by omega)
    have ph : w_phi (t, a, r, i, o, u, v) = (40 - (o : Int)) * 162 + ((t : Int) + 81) := by
      show (40 - (o : Int)) * 162 + (if i (t - 1) = 0 then 80 - (t : Int) else (t : Int) + 81) = _
      rw [if_neg (by omega)]
    have ph2 : w_phi (t, a, r, i, o, u, v) < w_phi (t + 1, a, r, i, o, u, v) := by
      rw [ph, ph0, if_neg (by omega)]
      omega
    refine ⟨⟨fun j hj => ?_, I2, fun j => ?_, I4⟩, ph2⟩
    · have q := I1 j (by omega)
      exact ⟨q.1, q.2.1, q.2.2.1, q.2.2.2.1, fun z => q.2.2.2.2 (by omega)⟩
    · have := I3 j
      omega
  rw [if_neg c1]
  have c1 : i t < A (67 + 12 * (r t).toNat) := by omega
  have pc := w_pc hP It.2.1.1 It.2.1.2.1 It.2.2.1.1 c1
  have J1 : ∀ j, j < t + 1 → D (a j) ∧ (0 ≤ r j ∧ r j < A 62 ∧ A (65 + 12 * (r j).toNat) = lt (a j)) ∧ (0 ≤ y_wK i t (i t + 1) j ∧ y_wK i t (i t + 1) j ≤ A (67 + 12 * (r j).toNat)) ∧ (j : Int) ≤ rk (a j) ∧ 1 ≤ y_wK i t (i t + 1) j := fun j hj => by
    have q := I1 j hj
    by_cases e : j = t
    · rw [e, y_wK_e]
      exact ⟨It.1, It.2.1, ⟨by omega, by omega⟩, It.2.2.2.1, by omega⟩
    · rw [y_wK_o e]
      exact ⟨q.1, q.2.1, q.2.2.1, q.2.2.2.1, q.2.2.2.2 (by omega)⟩
  by_cases c2 : 9 < A (68 + 12 * (r t).toNat + (i t).toNat)
  · rw [if_pos c2]
    have ch := w_ch_ok (A := A) (p := p) pc c2
    rw [It.2.1.2.2] at ch
    have bb := G.2 (a t) _ It.1 ch
    have hv : ∀ j, 0 ≤ v j ∧ v j + 1 + ((40 - (o : Int)) * 162 + (80 - (((t + 1 : Nat) : Int) + 1))) ≤ 6700 := fun j => by
      have q := I3 j
      rw [ph0] at q
      split at q <;> omega
    have key := w_come_I (p := p) (sg := sg) (q := (A (68 + 12 * (r t).toNat + (i t).toNat) - 10) / 2) (x := bl (a t) (w_ch A p (lt (a t)) (A (68 + 12 * (r t).toNat + (i t).toNat)))) (d := t + 1) (o := o) (a := a) (r := r) (i := y_wK i t (i t + 1)) (u := u) (v := v) hP G (by
      rcases bb with h | h
      · exact Or.inl h
      · exact Or.inr ⟨h.1, by omega⟩) I2 I4 J1 hv
    rcases key with k | k
    · left
      refine ⟨k.1, fun _ => ⟨k.2.2.1, ?_⟩⟩
      rw [k.2.2.2, ph0]
      split <;> omega
    · right; left; exact k
  · rw [if_neg c2]
    by_cases c3 : o < 40
    · rw [if_pos c3]
      left
      refine ⟨rfl, fun _ => ?_⟩
      have ph : w_phi (t + 1, a, r, y_wK i t (i t + 1), o + 1, y_wK u o (A (68 + 12 * (r t).toNat + (i t).toNat)), v) = (40 - ((o : Int) + 1)) * 162 + (((t + 1 : Nat) : Int) + 81) := by
        show (40 - ((o + 1 : Nat) : Int)) * 162 + (if y_wK i t (i t + 1) (t + 1 - 1) = 0 then 80 - ((t + 1 : Nat) : Int) else ((t + 1 : Nat) : Int) + 81) = _
        rw [show t + 1 - 1 = t by omega, y_wK_e, if_neg (by omega)]
        omega
      have ph2 : (40 - ((o : Int) + 1)) * 162 + (((t + 1 : Nat) : Int) + 81) < w_phi (t + 1, a, r, i, o, u, v) := by
        rw [ph0]
        split <;> omega
      refine ⟨⟨fun j hj => ?_, by omega, fun j => ?_, fun j hj => ?_⟩, by rw [ph]; exact ph2⟩
      · have q := J1 j hj
        exact ⟨q.1, q.2.1, q.2.2.1, q.2.2.2.1, fun _ => q.2.2.2.2⟩
      · rw [ph]
        have := I3 j
        omega
      · by_cases e : j = o
        · rw [e, y_wK_e]; omega
        · rw [y_wK_o e]; exact I4 j (by omega)
    · rw [if_neg c3]
      right; right; rfl
theorem w_come0 {q x : Int} (hP : y_PI A) (G : w_G lt nd rk bl D) (hx : (-60 ≤ x ∧ x ≤ -10) ∨ (D x ∧ 0 ≤ rk x)) : ((w_come A p lt sg nd q x w_0).1 = 0 ∧ 0 < (w_come A p lt sg nd q x w_0).2.1 ∧ w_I A lt rk D (w_come A p lt sg nd q x w_0).2 ∧ w_phi (w_come A p lt sg nd q x w_0).2 ≤ 6559) ∨ (-60 ≤ (w_come A p lt sg nd q x w_0).1 ∧ (w_come A p lt sg nd q x w_0).1 ≤ -10) := by
  have h := w_come_I (p := p) (sg := sg) (q := q) (x := x) (d := 0) (o := 0) (a := fun _ => 0) (r := fun _ => 0) (i := fun _ => 0) (u := fun _ => 0) (v := fun _ => 0) hP G hx (by omega) (fun j hj => absurd hj (by omega)) (fun j hj => absurd hj (by omega)) (fun j => ⟨by omega, by omega⟩)
  rcases h with h | h
  · left
    refine ⟨h.1, ?_, h.2.2.1, ?_⟩
    · have e : (w_come A p lt sg nd q x w_0).2.1 = 0 + 1 := h.2.1
      omega
    · have e : w_phi (w_come A p lt sg nd q x w_0).2 = (40 - ((0 : Nat) : Int)) * 162 + (80 - (((0 : Nat) : Int) + 1)) := h.2.2.2
      omega
  · right; exact h
/-- a walk comes to its end -/
theorem w_run_end (hP : y_PI A) (G : w_G lt nd rk bl D) : ∀ (n : Nat) (x : Int × w_C), (x.1 = 0 → 0 < x.2.1 → w_I A lt rk D x.2 ∧ w_phi x.2 ≤ n) → ¬ ((w_run A p lt sg nd bl n x).1 = 0 ∧ 0 < (w_run A p lt sg nd bl n x).2.1)
  | 0, x, h => by
    intro z
    have q := h z.1 z.2
    obtain ⟨s, d, a, r, i, o, u, v⟩ := x
    have d0 : 0 < d := z.2
    have I := q.1
    have I1 := I.1 (d - 1) (by omega)
    have g := G.1 _ I1.1
    have I2 := I.2.1
    have q2 : (40 - (o : Int)) * 162 + (if i (d - 1) = 0 then 80 - (d : Int) else (d : Int) + 81) ≤ 0 := q.2
    split at q2 <;> omega
  | n + 1, x, h => by
    by_cases c : x.1 = 0 ∧ 0 < x.2.1
    · rw [w_run_s c]
      have q := h c.1 c.2
      refine w_run_end hP G n _ (fun z1 z2 => ?_)
      rcases w_step_I (p := p) (sg := sg) hP G q.1 c.2 with k | k | k
      · have k2 := k.2 z2
        exact ⟨k2.1, by omega⟩
      · omega
      · omega
    · rw [w_run_t c]
      exact c
end
