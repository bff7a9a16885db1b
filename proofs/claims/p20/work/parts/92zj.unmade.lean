/-! the tree between, as far as it is made: places in rules of pass 0 -/
/-- behind a part of a rule -/
def u_bh (W : Nat → Int) : Nat → Int → Nat → Nat
  | 0, _, k => k
  | f + 1, d, k => if 0 < d then u_bh W f (d + y_c9 (W k) - 1) (k + 1) else k
theorem u_bh_s {W : Nat → Int} {f k : Nat} {d : Int} (h : 0 < d) : u_bh W (f + 1) d k = u_bh W f (d + y_c9 (W k) - 1) (k + 1) := if_pos h
theorem u_bh_t {W : Nat → Int} {d : Int} (h : ¬ 0 < d) : ∀ {f k : Nat}, u_bh W f d k = k
  | 0, _ => rfl
  | _ + 1, _ => if_neg h
def u_W (A : Nat → Int) (r : Nat) : Nat → Int := fun k => A (68 + 12 * r + k)
def u_B (A : Nat → Int) (r i : Nat) : Nat := u_bh (u_W A r) (7 - i) 1 i
theorem u_bh_ok {W : Nat → Int} {n : Nat} (hn : n ≤ 7) (h0 : y_op W n = 0) : ∀ (f : Nat) (d : Int) (k : Nat) (c : Int), k + f = 7 → k ≤ n → d = y_op W k - c → 0 ≤ c → 0 ≤ d → k ≤ u_bh W f d k ∧ u_bh W f d k ≤ n ∧ y_op W (u_bh W f d k) = c
  | 0, d, k, c, h1, h2, h3, h4, h5 => by
    have e : k = n := by omega
    show k ≤ k ∧ k ≤ n ∧ y_op W k = c
    rw [e] at h3 ⊢
    omega
  | f + 1, d, k, c, h1, h2, h3, h4, h5 => by
    by_cases hd : 0 < d
    · rw [u_bh_s hd]
      have hk : k < n := by
        by_cases e : k = n
        · rw [e] at h3; omega
        · omega
      have s := y_op_s W k
      have b := y_c9_b (W k)
      have ih := u_bh_ok hn h0 f (d + y_c9 (W k) - 1) (k + 1) c (by omega) (by omega) (by omega) h4 (by omega)
      omega
    · rw [u_bh_t hd]
      omega
/-- the pieces of a rule -/
theorem u_rw {A : Nat → Int} {r : Nat} (hP : y_PI A) (hr : (r : Int) < A 62) : (1 ≤ A (67 + 12 * r) ∧ A (67 + 12 * r) ≤ 7) ∧ (∀ k : Nat, (k : Int) < A (67 + 12 * r) → 1 ≤ y_op (u_W A r) k) ∧ y_op (u_W A r) (A (67 + 12 * r)).toNat = 0 := by
  have h62 := hP.2.2.2.1
  have h := hP.2.2.2.2 r (by omega)
  have e4 : A (63 + 12 * r + 4) = A (67 + 12 * r) := congrArg A (by omega)
  have eW : (fun i => A (63 + 12 * r + (5 + i))) = u_W A r := funext fun i => congrArg A (by omega)
  obtain ⟨_, _, _, _, h5, h6, h7⟩ := h
  have h5 : 1 ≤ A (63 + 12 * r + 4) ∧ A (63 + 12 * r + 4) ≤ 7 := h5
  have h7 : y_op (fun i => A (63 + 12 * r + (5 + i))) (A (63 + 12 * r + 4)).toNat = 0 := h7
  have h6 : ∀ k, k < (A (63 + 12 * r + 4)).toNat → 1 ≤ y_op (fun i => A (63 + 12 * r + (5 + i))) k := fun k hk => (h6 k hk).2
  rw [e4] at h5 h6 h7
  rw [eW] at h6 h7
  exact ⟨h5, fun k hk => h6 k (by omega), h7⟩
theorem u_B_ok {A : Nat → Int} {r i : Nat} (hP : y_PI A) (hr : (r : Int) < A 62) (hi : (i : Int) < A (67 + 12 * r)) : i < u_B A r i ∧ (u_B A r i : Int) ≤ A (67 + 12 * r) ∧ y_op (u_W A r) (u_B A r i) = y_op (u_W A r) i - 1 := by
  obtain ⟨b, p, z⟩ := u_rw hP hr
  have p1 := p i hi
  have s := y_op_s (u_W A r) i
  have c := y_c9_b (u_W A r i)
  obtain ⟨f, hf⟩ : ∃ f, 7 - i = f + 1 := ⟨6 - i, by omega⟩
  have k := u_bh_ok (W := u_W A r) (n := (A (67 + 12 * r)).toNat) (by omega) z f (1 + y_c9 (u_W A r i) - 1) (i + 1) (y_op (u_W A r) i - 1) (by omega) (by omega) (by omega) (by omega) (by omega)
  unfold u_B
  rw [hf, u_bh_s (by omega)]
  omega
def u_pl (v r i : Int) : Int := (v * 16 + r) * 7 + i
def u_nd (x : Int) : Int := x / 112
def u_rl (x : Int) : Int := x / 7 % 16
def u_pi (x : Int) : Int := x % 7
theorem u_pl_e {v r i : Int} (r1 : 0 ≤ r) (r2 : r < 16) (i1 : 0 ≤ i) (i2 : i < 7) : u_nd (u_pl v r i) = v ∧ u_rl (u_pl v r i) = r ∧ u_pi (u_pl v r i) = i := by
  unfold u_nd u_rl u_pi u_pl
  omega
theorem u_pl_x (x : Int) : u_pl (u_nd x) (u_rl x) (u_pi x) = x ∧ (0 ≤ u_rl x ∧ u_rl x < 16) ∧ (0 ≤ u_pi x ∧ u_pi x < 7) ∧ (0 ≤ x → 0 ≤ u_nd x) ∧ (0 ≤ u_nd x → 0 ≤ x) ∧ x < 112 * u_nd x + 112 := by
  unfold u_nd u_rl u_pi u_pl
  omega
abbrev u_lt (A : Nat → Int) : Int → Int := fun x => A (68 + 12 * (u_rl x).toNat + (u_pi x).toNat)
abbrev u_sg : Int → Int := fun _ => 2
def u_rk (x : Int) : Int := 7 * u_nd x + u_pi x
/-- a node is taken up in a state: the place where there is a letter; below 0: stuck -/
def u_mk (A l P V : Nat → Int) : Nat → Int → Int → Int
  | 0, _, v => -10 - v
  | k + 1, q, v => if y_sel A 0 q (l v.toNat) (V v.toNat) (A 62).toNat < 0 then -10 - v else if 9 < A (68 + 12 * (y_sel A 0 q (l v.toNat) (V v.toNat) (A 62).toNat).toNat) then u_mk A l P V k ((A (68 + 12 * (y_sel A 0 q (l v.toNat) (V v.toNat) (A 62).toNat).toNat) - 10) / 2) (w_bl P v (w_ch A 0 (l v.toNat) (A (68 + 12 * (y_sel A 0 q (l v.toNat) (V v.toNat) (A 62).toNat).toNat)))) else u_pl v (y_sel A 0 q (l v.toNat) (V v.toNat) (A 62).toNat) 0
theorem u_mk_q (A l P V : Nat → Int) (k : Nat) (q v : Int) : u_mk A l P V (k + 1) q v = if y_sel A 0 q (l v.toNat) (V v.toNat) (A 62).toNat < 0 then -10 - v else if 9 < A (68 + 12 * (y_sel A 0 q (l v.toNat) (V v.toNat) (A 62).toNat).toNat) then u_mk A l P V k ((A (68 + 12 * (y_sel A 0 q (l v.toNat) (V v.toNat) (A 62).toNat).toNat) - 10) / 2) (w_bl P v (w_ch A 0 (l v.toNat) (A (68 + 12 * (y_sel A 0 q (l v.toNat) (V v.toNat) (A 62).toNat).toNat)))) else u_pl v (y_sel A 0 q (l v.toNat) (V v.toNat) (A 62).toNat) 0 := rfl
/-- a piece of a rule at a node -/
def u_at (A l P V : Nat → Int) (v r i : Int) : Int := if 9 < A (68 + 12 * r.toNat + i.toNat) then u_mk A l P V 11 ((A (68 + 12 * r.toNat + i.toNat) - 10) / 2) (w_bl P v (w_ch A 0 (l v.toNat) (A (68 + 12 * r.toNat + i.toNat)))) else u_pl v r i
def u_bl (A l P V : Nat → Int) : Int → Int → Int := fun x c => u_at A l P V (u_nd x) (u_rl x) (if c = 0 then u_pi x + 1 else (u_B A (u_rl x).toNat (u_pi x + 1).toNat : Int))
def u_D (A l : Nat → Int) (n : Nat) : Int → Prop := fun x => 0 ≤ x ∧ u_nd x < n ∧ u_rl x < A 62 ∧ A (65 + 12 * (u_rl x).toNat) = l (u_nd x).toNat ∧ u_pi x < A (67 + 12 * (u_rl x).toNat) ∧ u_lt A x ≤ 4
section
variable {A l P V : Nat → Int} {n : Nat}
theorem u_mk_ok (hP : y_PI A) (tr : y_tr l n) (ms : y_ms A 0 l n P V) (n11 : n ≤ 11) : ∀ (k : Nat) (q v : Int), 0 ≤ v → v < n → (n : Int) - v ≤ k → (-60 ≤ u_mk A l P V k q v ∧ u_mk A l P V k q v ≤ -10) ∨ (u_D A l n (u_mk A l P V k q v) ∧ 7 * v ≤ u_rk (u_mk A l P V k q v))
  | 0, q, v, h1, h2, h3 => by omega
  | k + 1, q, v, h1, h2, h3 => by
    rw [u_mk_q]
    by_cases c : y_sel A 0 q (l v.toNat) (V v.toNat) (A 62).toNat < 0
    · rw [if_pos c]; left; omega
    rw [if_neg c]
    have ws := w_sel c
    generalize y_sel A 0 q (l v.toNat) (V v.toNat) (A 62).toNat = s at ws ⊢
    have h62 := hP.2.2.2.1
    have p7 := y_PI_pc hP (r := s.toNat) (by omega)
    have pc := w_pc hP (r := s) (i := 0) (by omega) (by omega) (by omega) (by omega)
    rw [show 68 + 12 * s.toNat + (0 : Int).toNat = 68 + 12 * s.toNat by omega, ws.2.2] at pc
    by_cases c2 : 9 < A (68 + 12 * s.toNat)
    · rw [if_pos c2]
      have ch := w_ch_ok (A := A) (p := 0) pc c2
      have xb := w_blS tr ms ⟨h1, h2⟩ ch
      have xg : v < w_bl P v (w_ch A 0 (l v.toNat) (A (68 + 12 * s.toNat))) := by
        rcases (w_GS (A := A) (by omega) tr ms).2 v _ ⟨h1, h2⟩ ch with h | h
        · omega
        · exact h.2
      generalize w_bl P v (w_ch A 0 (l v.toNat) (A (68 + 12 * s.toNat))) = y at xb xg ⊢
      rcases u_mk_ok hP tr ms n11 k ((A (68 + 12 * s.toNat) - 10) / 2) y xb.1 xb.2 (by omega) with h | h
      · left; exact h
      · right; exact ⟨h.1, by omega⟩
    · rw [if_neg c2]
      right
      obtain ⟨e1, e2, e3⟩ := u_pl_e (v := v) (r := s) (i := 0) (by omega) (by omega) (by omega) (by omega)
      have x0 := (u_pl_x (u_pl v s 0)).2.2.2.2.1 (by omega)
      refine ⟨⟨x0, by omega, by omega, ?_, ?_, ?_⟩, ?_⟩
      · rw [e1, e2]; exact ws.2.2
      · rw [e2, e3]; omega
      · show A (68 + 12 * (u_rl (u_pl v s 0)).toNat + (u_pi (u_pl v s 0)).toNat) ≤ 4
        rw [e2, e3, show 68 + 12 * s.toNat + (0 : Int).toNat = 68 + 12 * s.toNat by omega]
        omega
      · unfold u_rk
        rw [e1, e3]
        omega
theorem u_at_ok (hP : y_PI A) (tr : y_tr l n) (ms : y_ms A 0 l n P V) (n11 : n ≤ 11) {v r i : Int} (v1 : 0 ≤ v) (v2 : v < n) (r1 : 0 ≤ r) (r2 : r < A 62) (hl : A (65 + 12 * r.toNat) = l v.toNat) (i1 : 0 ≤ i) (i2 : i < A (67 + 12 * r.toNat)) : (-60 ≤ u_at A l P V v r i ∧ u_at A l P V v r i ≤ -10) ∨ (u_D A l n (u_at A l P V v r i) ∧ 7 * v + i ≤ u_rk (u_at A l P V v r i)) := by
  have h62 := hP.2.2.2.1
  have p7 := y_PI_pc hP (r := r.toNat) (by omega)
  have pc := w_pc hP r1 r2 i1 i2
  rw [hl] at pc
  unfold u_at
  by_cases c2 : 9 < A (68 + 12 * r.toNat + i.toNat)
  · rw [if_pos c2]
    have ch := w_ch_ok (A := A) (p := 0) pc c2
    have xb := w_blS tr ms ⟨v1, v2⟩ ch
    have xg : v < w_bl P v (w_ch A 0 (l v.toNat) (A (68 + 12 * r.toNat + i.toNat))) := by
      rcases (w_GS (A := A) (by omega) tr ms).2 v _ ⟨v1, v2⟩ ch with h | h
      · omega
      · exact h.2
    generalize w_bl P v (w_ch A 0 (l v.toNat) (A (68 + 12 * r.toNat + i.toNat))) = y at xb xg ⊢
    rcases u_mk_ok hP tr ms n11 11 ((A (68 + 12 * r.toNat + i.toNat) - 10) / 2) y xb.1 xb.2 (by omega) with h | h
    · left; exact h
    · right; exact ⟨h.1, by omega⟩
  · rw [if_neg c2]
    right
    obtain ⟨e1, e2, e3⟩ := u_pl_e (v := v) (r := r) (i := i) (by omega) (by omega) (by omega) (by omega)
    have x0 := (u_pl_x (u_pl v r i)).2.2.2.2.1 (by omega)
    refine ⟨⟨x0, by omega, by omega, ?_, ?_, ?_⟩, ?_⟩
    · rw [e1, e2]; exact hl
    · rw [e2, e3]; exact i2
    · show A (68 + 12 * (u_rl (u_pl v r i)).toNat + (u_pi (u_pl v r i)).toNat) ≤ 4
      rw [e2, e3]
      omega
    · unfold u_rk
      rw [e1, e3]
      omega
/-- as far as it goes, it does not hang on how far it may -/
theorem u_mk_f (hP : y_PI A) (tr : y_tr l n) (ms : y_ms A 0 l n P V) (n11 : n ≤ 11) : ∀ (k k' : Nat) (q v : Int), 0 ≤ v → v < n → (n : Int) - v ≤ k → (n : Int) - v ≤ k' → u_mk A l P V k q v = u_mk A l P V k' q v
  | 0, _, q, v, h1, h2, h3, h4 => by omega
  | _ + 1, 0, q, v, h1, h2, h3, h4 => by omega
  | k + 1, k' + 1, q, v, h1, h2, h3, h4 => by
    rw [u_mk_q, u_mk_q]
    by_cases c : y_sel A 0 q (l v.toNat) (V v.toNat) (A 62).toNat < 0
    · rw [if_pos c, if_pos c]
    rw [if_neg c, if_neg c]
    have ws := w_sel c
    generalize y_sel A 0 q (l v.toNat) (V v.toNat) (A 62).toNat = s at ws ⊢
    have h62 := hP.2.2.2.1
    have p7 := y_PI_pc hP (r := s.toNat) (by omega)
    have pc := w_pc hP (r := s) (i := 0) (by omega) (by omega) (by omega) (by omega)
    rw [show 68 + 12 * s.toNat + (0 : Int).toNat = 68 + 12 * s.toNat by omega, ws.2.2] at pc
    by_cases c2 : 9 < A (68 + 12 * s.toNat)
    · rw [if_pos c2, if_pos c2]
      have ch := w_ch_ok (A := A) (p := 0) pc c2
      have xb := w_blS tr ms ⟨h1, h2⟩ ch
      have xg : v < w_bl P v (w_ch A 0 (l v.toNat) (A (68 + 12 * s.toNat))) := by
        rcases (w_GS (A := A) (by omega) tr ms).2 v _ ⟨h1, h2⟩ ch with h | h
        · omega
        · exact h.2
      exact u_mk_f hP tr ms n11 k k' _ _ xb.1 xb.2 (by omega) (by omega)
    · rw [if_neg c2, if_neg c2]
/-- a child of a letter of a rule: where it begins -/
theorem u_ch_ok (hP : y_PI A) {r i c : Int} (r1 : 0 ≤ r) (r2 : r < A 62) (i1 : 0 ≤ i) (i2 : i < A (67 + 12 * r.toNat)) (h4 : A (68 + 12 * r.toNat + i.toNat) ≤ 4) (hc : (c = 0 ∧ 2 ≤ A (68 + 12 * r.toNat + i.toNat)) ∨ (c = 1 ∧ 3 ≤ A (68 + 12 * r.toNat + i.toNat))) : i < (if c = 0 then i + 1 else (u_B A r.toNat (i + 1).toNat : Int)) ∧ (if c = 0 then i + 1 else (u_B A r.toNat (i + 1).toNat : Int)) < A (67 + 12 * r.toNat) ∧ i + 1 < A (67 + 12 * r.toNat) := by
  have h62 := hP.2.2.2.1
  obtain ⟨b, p, z⟩ := u_rw hP (r := r.toNat) (by omega)
  have s := y_op_s (u_W A r.toNat) i.toNat
  have p1 := p i.toNat (by omega)
  have ex := y_chx (A (68 + 12 * r.toNat + i.toNat))
  have e9 : y_c9 (u_W A r.toNat i.toNat) = y_ch (A (68 + 12 * r.toNat + i.toNat)) := by
    unfold y_c9
    rw [if_neg (by show ¬ 9 < A (68 + 12 * r.toNat + i.toNat); omega)]
    rfl
  have n1 : i.toNat + 1 ≠ (A (67 + 12 * r.toNat)).toNat := fun h => by rw [h, z] at s; omega
  have i3 : i + 1 < A (67 + 12 * r.toNat) := by omega
  by_cases c0 : c = 0
  · rw [if_pos c0]; omega
  · rw [if_neg c0]
    have k := u_B_ok hP (r := r.toNat) (i := (i + 1).toNat) (by omega) (by omega)
    rw [show (i + 1).toNat = i.toNat + 1 by omega] at k ⊢
    have n2 : u_B A r.toNat (i.toNat + 1) ≠ (A (67 + 12 * r.toNat)).toNat := fun h => by
      have k3 := k.2.2
      rw [h, z] at k3
      omega
    omega
theorem w_GU (hP : y_PI A) (tr : y_tr l n) (ms : y_ms A 0 l n P V) (n11 : n ≤ 11) : w_G (u_lt A) u_nd u_rk (u_bl A l P V) (u_D A l n) := by
  have h62 := hP.2.2.2.1
  refine ⟨fun x h => ?_, fun x c h hc => ?_⟩
  · obtain ⟨x0, x1, x2, x3, x4, x5⟩ := h
    have e := u_pl_x x
    have pc := w_pc hP e.2.1.1 x2 e.2.2.1.1 x4
    have x5 : A (68 + 12 * (u_rl x).toNat + (u_pi x).toNat) ≤ 4 := x5
    show (0 ≤ x ∧ x ≤ 2147483647) ∧ (0 ≤ u_nd x ∧ u_nd x < 40) ∧ (0 ≤ A (68 + 12 * (u_rl x).toNat + (u_pi x).toNat) ∧ A (68 + 12 * (u_rl x).toNat + (u_pi x).toNat) ≤ 4) ∧ 0 ≤ u_rk x ∧ u_rk x ≤ 78
    unfold u_rk
    omega
  · obtain ⟨x0, x1, x2, x3, x4, x5⟩ := h
    have e := u_pl_x x
    have k := u_ch_ok hP e.2.1.1 x2 e.2.2.1.1 x4 x5 hc
    have a := u_at_ok hP tr ms n11 (v := u_nd x) (r := u_rl x) (i := if c = 0 then u_pi x + 1 else (u_B A (u_rl x).toNat (u_pi x + 1).toNat : Int)) (by omega) x1 e.2.1.1 x2 x3 (by omega) k.2.1
    show (-60 ≤ u_at A l P V (u_nd x) (u_rl x) _ ∧ u_at A l P V (u_nd x) (u_rl x) _ ≤ -10) ∨ (u_D A l n (u_at A l P V (u_nd x) (u_rl x) _) ∧ u_rk x < u_rk (u_at A l P V (u_nd x) (u_rl x) _))
    rcases a with a | a
    · left; exact a
    · right
      refine ⟨a.1, ?_⟩
      have a2 := a.2
      have d : u_rk x = 7 * u_nd x + u_pi x := rfl
      omega
end
/-- a walk over what is made as far as need be -/
abbrev w_RU (A l P V : Nat → Int) : Int × w_C := w_run A 1 (u_lt A) u_sg u_nd (u_bl A l P V) 100000 (w_come A 1 (u_lt A) u_sg u_nd 0 (u_mk A l P V 11 0 0) w_0)
