/-! how a walk ends: in range; what it made is a tree -/
section
variable {A : Nat → Int} {p : Int} {lt sg nd rk : Int → Int} {bl : Int → Int → Int} {D : Int → Prop}
theorem w_run_b (hP : y_PI A) (G : w_G lt nd rk bl D) : ∀ (n : Nat) (x : Int × w_C), (x.1 = 0 → 0 < x.2.1 → w_I A lt rk D x.2) → (x.1 = 0 ∨ x.1 = -3 ∨ (-60 ≤ x.1 ∧ x.1 ≤ -10)) → ((w_run A p lt sg nd bl n x).1 = 0 ∨ (w_run A p lt sg nd bl n x).1 = -3 ∨ (-60 ≤ (w_run A p lt sg nd bl n x).1 ∧ (w_run A p lt sg nd bl n x).1 ≤ -10))
  | 0, x, _, h => h
  | n + 1, x, hI, h => by
    by_cases c : x.1 = 0 ∧ 0 < x.2.1
    · rw [w_run_s c]
      have s := w_step_I (p := p) (sg := sg) hP G (hI c.1 c.2) c.2
      refine w_run_b hP G n _ (fun z1 z2 => ?_) ?_
      · rcases s with k | k | k
        · exact (k.2 z2).1
        · omega
        · omega
      · rcases s with k | k | k
        · exact Or.inl k.1
        · exact Or.inr (Or.inr k)
        · exact Or.inr (Or.inl k)
    · rw [w_run_t c]
      exact h
end
/-- a walk over a standing tree -/
abbrev w_RS (A : Nat → Int) (p q : Int) (l P V : Nat → Int) : Int × w_C := w_run A p (w_lt l) (w_lt V) w_nd (w_bl P) 100000 (w_come A p (w_lt l) (w_lt V) w_nd q 0 w_0)
theorem w_RS_b {A : Nat → Int} {p q : Int} {l P V : Nat → Int} {n : Nat} (hP : y_PI A) (n40 : n ≤ 40) (n0 : 1 ≤ n) (tr : y_tr l n) (ms : y_ms A 0 l n P V) : (w_RS A p q l P V).1 = 0 ∨ (w_RS A p q l P V).1 = -3 ∨ (-60 ≤ (w_RS A p q l P V).1 ∧ (w_RS A p q l P V).1 ≤ -10) := by
  have G := w_GS (A := A) n40 tr ms
  have c0 := w_come0 (p := p) (sg := w_lt V) (q := q) (x := 0) hP G (Or.inr ⟨⟨by omega, by omega⟩, by show (0 : Int) ≤ 0; omega⟩)
  refine w_run_b hP G _ _ (fun z1 z2 => ?_) ?_
  · rcases c0 with h | h
    · exact h.2.2.1
    · omega
  · rcases c0 with h | h
    · exact Or.inl h.1
    · exact Or.inr (Or.inr h)
/-- how it came out; what is answered -/
def w_uc (R : Int × w_C) : Int := if R.1 < 0 then R.1 else (R.2.2.2.2.2.1 : Int)
def w_an (R : Int × w_C) (i : Int) : Int := if R.1 < 0 then R.1 else if i < 0 then (R.2.2.2.2.2.1 : Int) else if i < R.2.2.2.2.2.1 then R.2.2.2.2.2.2.1 i.toNat else -4
theorem w_an_c {R : Int × w_C} {i v1 v2 : Int} (hi : -1 ≤ i) (ob : R.2.2.2.2.2.1 ≤ 40) (h1 : v1 = w_uc R) (h2 : ((v1 < 0 ∨ i = -1) ∧ v2 = v1) ∨ (¬ (v1 < 0 ∨ i = -1) ∧ (0 ≤ i ∧ i < R.2.2.2.2.2.1 ∧ i < 40) ∧ v2 = R.2.2.2.2.2.2.1 i.toNat) ∨ (¬ (v1 < 0 ∨ i = -1) ∧ ¬ (0 ≤ i ∧ i < R.2.2.2.2.2.1 ∧ i < 40) ∧ v2 = -4)) : v2 = w_an R i := by
  unfold w_uc at h1
  unfold w_an
  by_cases c : R.1 < 0
  · rw [if_pos c] at h1 ⊢
    omega
  rw [if_neg c] at h1 ⊢
  by_cases d : i < 0
  · rw [if_pos d]; omega
  rw [if_neg d]
  by_cases e : i < R.2.2.2.2.2.1
  · rw [if_pos e]; omega
  · rw [if_neg e]; omega
theorem w_an_r {R : Int × w_C} {τ : x_S} {i h v : Int} (hi : -1 ≤ i) (E : y_RE τ h R) (k : (h = 1 ∧ v = -10 - τ 138 21) ∨ (h = 2 ∧ v = -3) ∨ (¬ h = 1 ∧ ¬ h = 2 ∧ i < 0 ∧ v = τ 138 18) ∨ (¬ h = 1 ∧ ¬ h = 2 ∧ 0 ≤ i ∧ i < τ 138 18 ∧ v = τ 151 i.toNat) ∨ (¬ h = 1 ∧ ¬ h = 2 ∧ τ 138 18 ≤ i ∧ v = -4)) : v = w_an R i := by
  obtain ⟨s, d, a, r, j, o, u, w⟩ := R
  obtain ⟨E1, E2, E3, E4, E5⟩ := E
  show v = if s < 0 then s else if i < 0 then (o : Int) else if i < o then u i.toNat else -4
  by_cases c : s < 0
  · rw [if_pos c]; omega
  rw [if_neg c]
  by_cases d : i < 0
  · rw [if_pos d]; omega
  rw [if_neg d]
  by_cases e : i < o
  · rw [if_pos e]
    have e4 := E4 i.toNat (by omega)
    omega
  · rw [if_neg e]; omega
theorem y_WR_o {τ : x_S} : ∀ {c : w_C}, y_WR τ c → τ 105 5 = c.2.2.2.2.1
  | (_, _, _, _, _, _, _), h => h.2.1
theorem y_WR_u {τ : x_S} : ∀ {c : w_C}, y_WR τ c → ∀ j, j < c.2.2.2.2.1 → τ 106 j = c.2.2.2.2.2.1 j
  | (_, _, _, _, _, _, _), h => h.2.2.2.1
/-- the machine as a pile -/
def w_sg (A l : Nat → Int) (n : Nat) : x_S := fun r m => if r = 140 then A m else if r = 145 then l m else (n : Int)
def w_ec : w_C → x_S
  | (_, a, r, i, _, u, _) => fun q m => if q = 148 then r m else if q = 149 then i m else if q = 150 then a m else u m
theorem w_sg0 {A l : Nat → Int} {n : Nat} : w_sg A l n 140 = A := funext fun _ => if_pos rfl
theorem w_sg5 {A l : Nat → Int} {n : Nat} : w_sg A l n 145 = l := funext fun _ => (if_neg (by decide)).trans (if_pos rfl)
theorem w_sg1 {A l : Nat → Int} {n : Nat} : w_sg A l n 138 10 = n := (if_neg (by decide)).trans (if_neg (by decide))
section
variable {d o : Nat} {a r i u v : Nat → Int}
theorem w_ec8 (m : Nat) : w_ec (d, a, r, i, o, u, v) 148 m = r m := rfl
theorem w_ec9 (m : Nat) : w_ec (d, a, r, i, o, u, v) 149 m = i m := rfl
theorem w_ec0 (m : Nat) : w_ec (d, a, r, i, o, u, v) 150 m = a m := rfl
theorem w_ec1 (m : Nat) : w_ec (d, a, r, i, o, u, v) 151 m = u m := rfl
end
def w_TI (A l : Nat → Int) (n : Nat) : w_C → Prop
  | (d, a, r, i, o, u, v) => y_GI (w_sg A l n) (w_ec (d, a, r, i, o, u, v)) d o
theorem w_TI_0 {A l : Nat → Int} {n : Nat} {c : w_C} (T : w_TI A l n c) (h : ¬ 0 < c.1) : y_tr c.2.2.2.2.2.1 c.2.2.2.2.1 ∧ c.2.2.2.2.1 ≤ 40 := by
  obtain ⟨d, a, r, i, o, u, v⟩ := c
  have d0 : d = 0 := by have h : ¬ 0 < d := h; omega
  subst d0
  obtain ⟨_, T2, T3, T4⟩ := T
  have e : w_ec (0, a, r, i, o, u, v) 151 = u := funext fun m => w_ec1 m
  rw [e] at T3 T4
  exact ⟨⟨T3, T4⟩, T2⟩
theorem w_step_T {A : Nat → Int} {p : Int} {l P V : Nat → Int} {n : Nat} (hP : y_PI A) (n40 : n ≤ 40) (tr : y_tr l n) (ms : y_ms A 0 l n P V) {c : w_C} (I : w_I A (w_lt l) w_nd (w_D n) c) (d0 : 0 < c.1) (T : w_TI A l n c) (hz : (w_step A p (w_lt l) (w_lt V) w_nd (w_bl P) c).1 = 0) : w_TI A l n (w_step A p (w_lt l) (w_lt V) w_nd (w_bl P) c).2 := by
  obtain ⟨d, a, r, i, o, u, v⟩ := c
  have d0 : 0 < d := d0
  obtain ⟨t, ht⟩ : ∃ t, d = t + 1 := ⟨d - 1, by omega⟩
  subst ht
  obtain ⟨I1, I2, I3, I4⟩ := I
  have It := I1 t (by omega)
  have dt : 0 ≤ a t ∧ a t < n := It.1
  have lr : A (65 + 12 * (r t).toNat) = l (a t).toNat := It.2.1.2.2
  have T : y_GI (w_sg A l n) (w_ec (t + 1, a, r, i, o, u, v)) (t + 1) o := T
  have hP' : y_PI (w_sg A l n 140) := by rw [w_sg0]; exact hP
  have e4 : A (63 + 12 * (r t).toNat + 4) = A (67 + 12 * (r t).toNat) := congrArg A (by omega)
  have e5 : A (63 + 12 * (r t).toNat + (5 + (i t).toNat)) = A (68 + 12 * (r t).toNat + (i t).toNat) := congrArg A (by omega)
  have ib := It.2.2.1
  by_cases c1 : ¬ i t < A (67 + 12 * (r t).toNat)
  · rw [w_step_pop c1]
    exact (y_GI_pop (τ' := w_ec (t, a, r, i, o, u, v)) hP' T (by rw [w_ec8, w_ec9, w_sg0, e4]; omega) (fun q m h => rfl)).1
  have c1 : i t < A (67 + 12 * (r t).toNat) := by omega
  have pc := w_pc hP It.2.1.1 It.2.1.2.1 It.2.2.1.1 c1
  by_cases c2 : 9 < A (68 + 12 * (r t).toNat + (i t).toNat)
  · have ch := w_ch_ok (A := A) (p := p) pc c2
    rw [lr] at ch
    rw [w_step_call c1 c2] at hz ⊢
    have xb := w_blS tr ms dt ch
    have xg : a t < w_bl P (a t) (w_ch A p (l (a t).toNat) (A (68 + 12 * (r t).toNat + (i t).toNat))) := by
      rcases (w_GS (A := A) n40 tr ms).2 (a t) _ It.1 ch with h | h
      · omega
      · exact h.2
    generalize hx : w_bl P (a t) (w_ch A p (w_lt l (a t)) (A (68 + 12 * (r t).toNat + (i t).toNat))) = x at hz ⊢
    have hx : w_bl P (a t) (w_ch A p (l (a t).toNat) (A (68 + 12 * (r t).toNat + (i t).toNat))) = x := hx
    rw [hx] at xb xg
    by_cases s : y_sel A p ((A (68 + 12 * (r t).toNat + (i t).toNat) - 10) / 2) (w_lt l x) (w_lt V x) (A 62).toNat < 0
    · rw [w_come_n xb.1 s] at hz
      have hz : -10 - x = 0 := hz
      omega
    · have ws := w_sel s
      rw [w_come_y xb.1 (by omega)]
      generalize hq : y_sel A p ((A (68 + 12 * (r t).toNat + (i t).toNat) - 10) / 2) (w_lt l x) (w_lt V x) (A 62).toNat = q at ws ⊢
      refine (y_GI_call (t := t) (O := o) (τ' := w_ec (t + 2, y_wK a (t + 1) x, y_wK r (t + 1) q, y_wK (y_wK i t (i t + 1)) (t + 1) 0, o, u, y_wK v (w_nd x).toNat (v (w_nd x).toNat + 1))) hP' T (by rw [w_sg1]; omega) ?_ ?_ (fun m hm => ⟨?_, ?_⟩) ?_ (fun m h1 h2 => ?_) ?_ ?_ ?_ ?_ (fun m => ?_)).1
      · rw [w_ec8, w_ec9, w_sg0, e4]; exact c1
      · rw [w_ec8, w_ec9, w_sg0, e5]; omega
      · rw [w_ec8, w_ec8, y_wK_o hm]
      · rw [w_ec0, w_ec0, y_wK_o hm]
      · rw [w_ec9, w_ec9, y_wK_o (by omega), y_wK_e]
      · rw [w_ec9, w_ec9, y_wK_o h2, y_wK_o h1]
      · rw [w_ec8, w_sg0, y_wK_e]; exact ⟨ws.1, ws.2.1⟩
      · rw [w_ec9, y_wK_e]
      · rw [w_ec0, w_ec0, w_sg1, y_wK_e]; exact ⟨xg, xb.2⟩
      · rw [w_ec8, w_ec0, w_sg0, w_sg5, y_wK_e, y_wK_e, show 63 + 12 * q.toNat + 2 = 65 + 12 * q.toNat by omega]; exact ws.2.2
      · rw [w_ec1, w_ec1]
  · by_cases c3 : o < 40
    · rw [w_step_out c1 c2 c3]
      refine (y_GI_out (t := t) (O := o) (x := A (68 + 12 * (r t).toNat + (i t).toNat)) (τ' := w_ec (t + 1, a, r, y_wK i t (i t + 1), o + 1, y_wK u o (A (68 + 12 * (r t).toNat + (i t).toNat)), v)) hP' T c3 ?_ ?_ (by omega) (by omega) (fun m => ⟨?_, ?_⟩) ?_ (fun m hm => ?_) ?_ (fun m hm => ?_)).1
      · rw [w_ec8, w_ec9, w_sg0, e4]; exact c1
      · rw [w_ec8, w_ec9, w_sg0, e5]
      · rw [w_ec8, w_ec8]
      · rw [w_ec0, w_ec0]
      · rw [w_ec9, w_ec9, y_wK_e]
      · rw [w_ec9, w_ec9, y_wK_o hm]
      · rw [w_ec1, y_wK_e]
      · rw [w_ec1, w_ec1, y_wK_o hm]
    · rw [w_step_long c1 c2 c3] at hz
      exact absurd hz (by show ¬ ((-3 : Int) = 0); decide)
theorem w_run_T {A : Nat → Int} {p : Int} {l P V : Nat → Int} {n : Nat} (hP : y_PI A) (n40 : n ≤ 40) (tr : y_tr l n) (ms : y_ms A 0 l n P V) : ∀ (N : Nat) (x : Int × w_C), (x.1 = 0 → 0 < x.2.1 → w_I A (w_lt l) w_nd (w_D n) x.2 ∧ w_phi x.2 ≤ N) → (x.1 = 0 → w_TI A l n x.2) → (w_run A p (w_lt l) (w_lt V) w_nd (w_bl P) N x).1 = 0 → y_tr (w_run A p (w_lt l) (w_lt V) w_nd (w_bl P) N x).2.2.2.2.2.2.1 (w_run A p (w_lt l) (w_lt V) w_nd (w_bl P) N x).2.2.2.2.2.1 ∧ (w_run A p (w_lt l) (w_lt V) w_nd (w_bl P) N x).2.2.2.2.2.1 ≤ 40
  | 0, x, h, hT => fun hz => by
    have e := w_run_end (p := p) (sg := w_lt V) hP (w_GS (A := A) n40 tr ms) 0 x h
    have e2 : ¬ (x.1 = 0 ∧ 0 < x.2.1) := e
    have hz : x.1 = 0 := hz
    exact w_TI_0 (hT hz) (fun z => e2 ⟨hz, z⟩)
  | N + 1, x, h, hT => by
    by_cases c : x.1 = 0 ∧ 0 < x.2.1
    · rw [w_run_s c]
      have q := h c.1 c.2
      refine w_run_T hP n40 tr ms N _ (fun z1 z2 => ?_) (fun z => w_step_T hP n40 tr ms q.1 c.2 (hT c.1) z)
      rcases w_step_I (p := p) (sg := w_lt V) hP (w_GS (A := A) n40 tr ms) q.1 c.2 with k | k | k
      · have k2 := k.2 z2
        exact ⟨k2.1, by omega⟩
      · omega
      · omega
    · rw [w_run_t c]
      intro hz
      exact w_TI_0 (hT hz) (fun z => c ⟨hz, z⟩)
/-- what a walk over a tree has made, once it is through, is a tree -/
theorem w_RS_t {A : Nat → Int} {p q : Int} {l P V : Nat → Int} {n : Nat} (hP : y_PI A) (n40 : n ≤ 40) (n0 : 1 ≤ n) (tr : y_tr l n) (ms : y_ms A 0 l n P V) (h : (w_RS A p q l P V).1 = 0) : y_tr (w_RS A p q l P V).2.2.2.2.2.2.1 (w_RS A p q l P V).2.2.2.2.2.1 ∧ (w_RS A p q l P V).2.2.2.2.2.1 ≤ 40 ∧ 1 ≤ (w_RS A p q l P V).2.2.2.2.2.1 := by
  have G := w_GS (A := A) n40 tr ms
  have c0 := w_come0 (p := p) (sg := w_lt V) (q := q) (x := 0) hP G (Or.inr ⟨⟨by omega, by omega⟩, by show (0 : Int) ≤ 0; omega⟩)
  have key : y_tr (w_RS A p q l P V).2.2.2.2.2.2.1 (w_RS A p q l P V).2.2.2.2.2.1 ∧ (w_RS A p q l P V).2.2.2.2.2.1 ≤ 40 := by
    refine w_run_T hP n40 tr ms _ _ (fun z1 z2 => ?_) (fun z => ?_) h
    · rcases c0 with k | k
      · exact ⟨k.2.2.1, Int.le_trans k.2.2.2 (by omega)⟩
      · omega
    · by_cases s : y_sel A p q (l (0 : Int).toNat) (V (0 : Int).toNat) (A 62).toNat < 0
      · have e : w_come A p (w_lt l) (w_lt V) w_nd q 0 w_0 = (-10 - 0, (0, fun _ => 0, fun _ => 0, fun _ => 0, 0, fun _ => 0, y_wK (fun _ => 0) (0 : Int).toNat (0 + 1))) := w_come_n (by omega) s
        rw [e] at z
        exact absurd z (by show ¬ ((-10 - 0 : Int) = 0); decide)
      · have ws := w_sel s
        have e : w_come A p (w_lt l) (w_lt V) w_nd q 0 w_0 = (0, (1, y_wK (fun _ => 0) 0 0, y_wK (fun _ => 0) 0 (y_sel A p q (l (0 : Int).toNat) (V (0 : Int).toNat) (A 62).toNat), y_wK (fun _ => 0) 0 0, 0, fun _ => 0, y_wK (fun _ => 0) (0 : Int).toNat (0 + 1))) := w_come_y (by omega) (by show 0 ≤ y_sel A p q (l (0 : Int).toNat) (V (0 : Int).toNat) (A 62).toNat; omega)
        rw [e]
        generalize y_sel A p q (l (0 : Int).toNat) (V (0 : Int).toNat) (A 62).toNat = r at ws
        have p7 := y_PI_pc hP (r := r.toNat) (by omega)
        refine ⟨fun i hi => ?_, by omega, fun m hm => absurd hm (by omega), ?_⟩
        · have hi0 : i = 0 := by omega
          subst hi0
          unfold y_en
          rw [w_ec8, w_ec9, w_ec0, w_sg0, w_sg1, w_sg5, y_wK_e, y_wK_e, show 63 + 12 * r.toNat + 4 = 67 + 12 * r.toNat by omega, show 63 + 12 * r.toNat + 2 = 65 + 12 * r.toNat by omega]
          exact ⟨⟨by omega, by omega⟩, ⟨by omega, by omega⟩, ⟨by omega, by omega⟩, ws.2.2⟩
        · show (1 : Int) = 0 + y_op _ (w_ec _ 149 0).toNat
          rw [w_ec9, y_wK_e]
          rfl
  refine ⟨key.1, key.2, ?_⟩
  have k2 := key.1.2
  generalize (w_RS A p q l P V).2.2.2.2.2.1 = o at k2 ⊢
  by_cases c : o = 0
  · subst c
    exact absurd k2 (by show ¬ ((1 : Int) = 0); decide)
  · omega
