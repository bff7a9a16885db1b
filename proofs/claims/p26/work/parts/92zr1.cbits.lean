/-! the class's census: types of rules, profiles -/
theorem cn_tix (k q : Int) : (q = 0 ∧ cn_ti k q = k / 2 % 3) ∨ (q = 1 ∧ cn_ti k q = k / 6 % 3) ∨ (q ≠ 0 ∧ q ≠ 1 ∧ cn_ti k q = k / 18 % 3) := by
  unfold cn_ti
  by_cases c : q = 0
  · rw [if_pos c]; exact Or.inl ⟨c, rfl⟩
  · rw [if_neg c]
    by_cases d : q = 1
    · rw [if_pos d]; exact Or.inr (Or.inl ⟨d, rfl⟩)
    · rw [if_neg d]; exact Or.inr (Or.inr ⟨c, d, rfl⟩)
theorem cn_byx (s : Nat → Int) (n x : Int) : (y_ch x = 0 ∧ cn_by s n x = 0) ∨ (y_ch x = 1 ∧ cn_by s n x = s (n - 1).toNat) ∨ (y_ch x = 2 ∧ cn_by s n x = 2 * s (n - 1).toNat + s (n - 2).toNat) := by
  unfold cn_by
  have := y_ch_b x
  by_cases c : y_ch x = 0
  · rw [if_pos c]; exact Or.inl ⟨c, rfl⟩
  · rw [if_neg c]
    by_cases d : y_ch x = 1
    · rw [if_pos d]; exact Or.inr (Or.inl ⟨d, rfl⟩)
    · rw [if_neg d]; exact Or.inr (Or.inr ⟨by omega, rfl⟩)
theorem cn_by_x {s s' : Nat → Int} {n x : Int} (h : ∀ m : Nat, (m : Int) < n → s m = s' m) (hn : y_ch x ≤ n) : cn_by s n x = cn_by s' n x := by
  have := y_ch_b x
  unfold cn_by
  by_cases c : y_ch x = 0
  · rw [if_pos c, if_pos c]
  · rw [if_neg c, if_neg c, h (n - 1).toNat (by omega)]
    by_cases d : y_ch x = 1
    · rw [if_pos d, if_pos d]
    · rw [if_neg d, if_neg d, h (n - 2).toNat (by omega)]
theorem cn_b_mod {a i : Nat} (h : i < 64) : cn_b (a % 18446744073709551616) i = cn_b a i := by
  rw [cn_b_t, cn_b_t a, show (18446744073709551616 : Nat) = 2 ^ 64 from rfl, Nat.testBit_mod_two_pow, decide_eq_true h, Bool.true_and]
/-- which answer a call asks for -/
def cn_an (A : Nat → Int) (p : Int) (r : Nat) (x : Int) : Int := 3 * w_ch A p (A (65 + 12 * r)) x + (x - 10) / 2
/-- what is worked out of a rule, down to a piece -/
def cn_cb (A : Nat → Int) (p : Int) (r : Nat) (i0 : Int) (cd : Int) : Prop := ∀ k, k < 6 → (cn_b cd.toNat k = 1 ↔ ∃ j : Nat, i0 < j ∧ j < (A (67 + 12 * r)).toNat ∧ 9 < A (68 + 12 * r + j) ∧ cn_an A p r (A (68 + 12 * r + j)) = k)
def cn_sb (A : Nat → Int) (p : Int) (r : Nat) (i0 : Int) (n : Int) (s : Nat → Int) : Prop := ∀ b, b < 64 → ∀ m : Nat, (m : Int) < n → cn_b (s m).toNat b = cn_st (cn_W A r) (fun x => cn_b b (cn_an A p r x).toNat) (cn_tb A) (A (67 + 12 * r)).toNat ((A (67 + 12 * r)).toNat - (i0 + 1).toNat) m
/-- a rule is worked out -/
def cn_ct (A : Nat → Int) (p : Int) (r : Nat) (cd ty : Int) : Prop := 0 ≤ cd ∧ cd < 64 ∧ cn_cb A p r (-1) cd ∧ ∀ b, b < 64 → cn_b ty.toNat b = cn_st (cn_W A r) (fun x => cn_b b (cn_an A p r x).toNat) (cn_tb A) (A (67 + 12 * r)).toNat (A (67 + 12 * r)).toNat 0
theorem cn_cb_0 {A : Nat → Int} {p : Int} {r : Nat} {i0 : Int} (h : ((A (67 + 12 * r)).toNat : Int) ≤ i0 + 1) : cn_cb A p r i0 0 := by
  intro k _
  constructor
  · intro q
    rw [show (0 : Int).toNat = 0 from rfl, cn_b_0] at q
    exact absurd q (by decide)
  · intro ⟨j, h1, h2, _⟩
    exact absurd h1 (by omega)
theorem cn_cb_l {A : Nat → Int} {p : Int} {r : Nat} {i0 cd : Int} (h : cn_cb A p r i0 cd) (i1 : 0 ≤ i0) (hx : ¬ 9 < A (68 + 12 * r + i0.toNat)) : cn_cb A p r (i0 + -1) cd := by
  intro k hk
  refine (h k hk).trans ⟨?_, ?_⟩
  · intro ⟨j, a, b, c, d⟩
    exact ⟨j, by omega, b, c, d⟩
  · intro ⟨j, a, b, c, d⟩
    by_cases e : (j : Int) = i0
    · rw [← e, show ((j : Int)).toNat = j by omega] at hx
      exact absurd c hx
    · exact ⟨j, by omega, b, c, d⟩
theorem cn_cb_c {A : Nat → Int} {p : Int} {r : Nat} {i0 cd a : Int} (h : cn_cb A p r i0 cd) (c0 : 0 ≤ cd) (c1 : cd < 64) (i1 : 0 ≤ i0) (i2 : i0.toNat < (A (67 + 12 * r)).toNat) (hx : 9 < A (68 + 12 * r + i0.toNat)) (ha : a = cn_an A p r (A (68 + 12 * r + i0.toNat))) (a0 : 0 ≤ a) (a1 : a < 6) {v : Int} (hv : v = ((cd.toNat ||| 2 ^ a.toNat : Nat) : Int)) : cn_cb A p r (i0 + -1) v ∧ 0 ≤ v ∧ v < 64 := by
  have o := cn_or64 cd.toNat (by omega) a.toNat (by omega)
  have e : v.toNat = cd.toNat ||| 2 ^ a.toNat := by omega
  refine ⟨?_, by omega, by omega⟩
  intro k hk
  rw [e, o.2 k hk]
  by_cases c : k = a.toNat
  · rw [if_pos c]
    constructor
    · intro _
      exact ⟨i0.toNat, by omega, i2, hx, by omega⟩
    · intro _
      rfl
  · rw [if_neg c]
    refine (h k hk).trans ⟨?_, ?_⟩
    · intro ⟨j, a, b, c, d⟩
      exact ⟨j, by omega, b, c, d⟩
    · intro ⟨j, q1, q2, q3, q4⟩
      by_cases e : (j : Int) = i0
      · have ej : j = i0.toNat := by omega
        rw [ej, ← ha] at q4
        exact absurd q4 (by omega)
      · exact ⟨j, by omega, q2, q3, q4⟩
theorem cn_op_s {A : Nat → Int} {r : Nat} {i : Int} (i1 : 0 ≤ i) : y_op (cn_W A r) (i + 1).toNat = y_op (cn_W A r) i.toNat + y_c9 (A (68 + 12 * r + i.toNat)) - 1 := by
  rw [show (i + 1).toNat = i.toNat + 1 by omega]
  rfl
theorem cn_sb_c {A : Nat → Int} {p : Int} {r : Nat} {i0 n a : Int} {s s' : Nat → Int} (h : cn_sb A p r i0 n s) (i1 : 0 ≤ i0) (i2 : i0.toNat < (A (67 + 12 * r)).toNat) (hn : n = y_op (cn_W A r) (i0 + 1).toNat) (n0 : 0 ≤ n) (hx : 9 < A (68 + 12 * r + i0.toNat)) (ha : a = cn_an A p r (A (68 + 12 * r + i0.toNat))) (a0 : 0 ≤ a) (a1 : a < 6) (e1 : s' n.toNat = ((q_whe a.toNat % 18446744073709551616 : Nat) : Int)) (e2 : ∀ m, m ≠ n.toNat → s' m = s m) : cn_sb A p r (i0 + -1) (n + 1) s' := by
  intro b hb m hm
  rw [show (A (67 + 12 * r)).toNat - (i0 + -1 + 1).toNat = ((A (67 + 12 * r)).toNat - (i0 + 1).toNat) + 1 by omega, cn_st_s, show (A (67 + 12 * r)).toNat - 1 - ((A (67 + 12 * r)).toNat - (i0 + 1).toNat) = i0.toNat by omega, cn_p1_c (show 9 < cn_W A r i0.toNat from hx), show i0.toNat + 1 = (i0 + 1).toNat by omega, ← hn]
  by_cases c : m = n.toNat
  · rw [c, y_wK_e, e1, show (((q_whe a.toNat % 18446744073709551616 : Nat) : Int)).toNat = q_whe a.toNat % 18446744073709551616 by omega, cn_b_mod hb, cn_b_whe _ (by omega) b hb]
    show cn_b b a.toNat = cn_b b (cn_an A p r (A (68 + 12 * r + i0.toNat))).toNat
    rw [ha]
  · rw [y_wK_o c, e2 m c]
    exact h b hb m (by omega)
theorem cn_sb_l {A : Nat → Int} {p : Int} {r : Nat} {i0 n x : Int} {s s' : Nat → Int} {t : Nat} (h : cn_sb A p r i0 n s) (i1 : 0 ≤ i0) (i2 : i0.toNat < (A (67 + 12 * r)).toNat) (hn : n = y_op (cn_W A r) (i0 + 1).toNat) (hx : x = A (68 + 12 * r + i0.toNat)) (h9 : ¬ 9 < x) (hc : y_ch x ≤ n) (ht : ∀ b, b < 64 → cn_b t b = cn_tb A x (cn_by (fun m => cn_b (s m).toNat b) n x)) (e1 : s' (n - y_ch x).toNat = ((t % 18446744073709551616 : Nat) : Int)) (e2 : ∀ m, m ≠ (n - y_ch x).toNat → s' m = s m) : cn_sb A p r (i0 + -1) (n - y_ch x + 1) s' := by
  have cb := y_ch_b x
  intro b hb m hm
  have hx2 : ¬ 9 < cn_W A r i0.toNat := by show ¬ 9 < A (68 + 12 * r + i0.toNat); rw [← hx]; exact h9
  rw [show (A (67 + 12 * r)).toNat - (i0 + -1 + 1).toNat = ((A (67 + 12 * r)).toNat - (i0 + 1).toNat) + 1 by omega, cn_st_s, show (A (67 + 12 * r)).toNat - 1 - ((A (67 + 12 * r)).toNat - (i0 + 1).toNat) = i0.toNat by omega, cn_p1_l hx2, show i0.toNat + 1 = (i0 + 1).toNat by omega, ← hn, show cn_W A r i0.toNat = x from hx.symm]
  by_cases c : m = (n - y_ch x).toNat
  · rw [c, y_wK_e, e1, show (((t % 18446744073709551616 : Nat) : Int)).toNat = t % 18446744073709551616 by omega, cn_b_mod hb, ht b hb]
    exact congrArg _ (cn_by_x (fun m hm => h b hb m hm) hc)
  · rw [y_wK_o c, e2 m c]
    exact h b hb m (by omega)
/-- an answer: which child, which state -/
theorem cn_anx {A : Nat → Int} {p : Int} {r : Nat} {x : Int} (h1 : 10 ≤ x) (h2 : x ≤ 15) : (w_ch A p (A (65 + 12 * r)) x = 0 ∨ w_ch A p (A (65 + 12 * r)) x = 1) ∧ 0 ≤ cn_an A p r x ∧ cn_an A p r x < 6 := by
  have w : w_ch A p (A (65 + 12 * r)) x = 0 ∨ w_ch A p (A (65 + 12 * r)) x = 1 := by
    unfold w_ch
    split <;> omega
  refine ⟨w, ?_⟩
  unfold cn_an
  omega
/-- what is known of the children: by bits -/
def cn_bs (m v X Y : Int) : Prop := 0 ≤ m ∧ m < 64 ∧ ∀ q, q < 3 → cn_b m.toNat q = cn_is (cn_ti X q) v ∧ cn_b m.toNat (3 + q) = cn_is (cn_ti Y q) v
theorem cn_bs_a {A : Nat → Int} {p : Int} {r : Nat} {m v X Y x : Int} (h : cn_bs m v X Y) (h1 : 10 ≤ x) (h2 : x ≤ 15) : cn_b m.toNat (cn_an A p r x).toNat = cn_is (cn_tc A p r X Y x) v := by
  have a := cn_anx (A := A) (p := p) (r := r) h1 h2
  unfold cn_tc
  have e : cn_an A p r x = 3 * w_ch A p (A (65 + 12 * r)) x + (x - 10) / 2 := rfl
  have q := h.2.2 ((x - 10) / 2).toNat (by omega)
  rw [show ((((x - 10) / 2).toNat : Nat) : Int) = (x - 10) / 2 by omega] at q
  rcases a.1 with w | w
  · rw [if_neg (by omega), show (cn_an A p r x).toNat = ((x - 10) / 2).toNat by omega]; exact q.1
  · rw [if_pos w, show (cn_an A p r x).toNat = 3 + ((x - 10) / 2).toNat by omega]; exact q.2
/-- a rule by what was worked out of it -/
theorem cn_rule {A : Nat → Int} {p : Int} {r : Nat} {cd ty on la X Y : Int} (hP : y_PI A) (hr : (r : Int) < A 62) (ct : cn_ct A p r cd ty) (ho : cn_bs on 1 X Y) (hl : cn_bs la 2 X Y) : (((cd.toNat &&& la.toNat : Nat) : Int) ≠ 0 → cn_tr A p r X Y = 2) ∧ (((cd.toNat &&& la.toNat : Nat) : Int) = 0 → cn_tr A p r X Y = cn_b ty.toNat on.toNat) := by
  obtain ⟨c0, c1, cb, st⟩ := ct
  have rl := hP.2.2.2.2 r (by omega)
  have z7 := rl.2.2.2.2.1
  have pc : ∀ i : Nat, i < (A (67 + 12 * r)).toNat → 9 < A (68 + 12 * r + i) → 10 ≤ A (68 + 12 * r + i) ∧ A (68 + 12 * r + i) ≤ 15 := fun i hi h9 => by
    have e4 : A (63 + 12 * r + 4) = A (67 + 12 * r) := congrArg A (by omega)
    have q := (rl.2.2.2.2.2.1 i (by show i < (A (63 + 12 * r + 4)).toNat; rw [e4]; exact hi)).1
    have e5 : A (63 + 12 * r + (5 + i)) = A (68 + 12 * r + i) := congrArg A (by omega)
    have q : y_pc (A (63 + 12 * r + 2)) (A (63 + 12 * r + (5 + i))) := q
    rw [e5] at q
    rcases q with q | q
    · omega
    · exact ⟨q.1, q.2.1⟩
  have a0 := cn_and0 cd.toNat (by omega) la.toNat (by have := hl.1; have := hl.2.1; omega)
  constructor
  · intro h
    refine cn_tr_s ?_
    by_cases s : cn_stk A p r X Y 0
    · exact s
    · exfalso
      apply h
      have zz : ∀ k, k < 6 → ¬ (cn_b cd.toNat k = 1 ∧ cn_b la.toNat k = 1) := fun k hk ⟨q1, q2⟩ => by
        obtain ⟨j, j1, j2, j3, j4⟩ := (cb k hk).1 q1
        have b := pc j j2 j3
        have w := cn_bs_a (A := A) (p := p) (r := r) hl b.1 b.2
        rw [j4, show ((k : Int)).toNat = k by omega, q2] at w
        have ix := cn_isx (cn_tc A p r X Y (A (68 + 12 * r + j))) 2
        exact s ⟨j, by omega, j2, j3, by omega⟩
      rw [a0.2 zz]; rfl
  · intro h
    have h := a0.1 (by omega)
    have nst : ¬ cn_stk A p r X Y 0 := fun ⟨j, j1, j2, j3, j4⟩ => by
      have b := pc j j2 j3
      have an := cn_anx (A := A) (p := p) (r := r) b.1 b.2
      have w := cn_bs_a (A := A) (p := p) (r := r) hl b.1 b.2
      have ix := cn_isx (cn_tc A p r X Y (A (68 + 12 * r + j))) 2
      exact h (cn_an A p r (A (68 + 12 * r + j))).toNat (by omega) ⟨(cb _ (by omega)).2 ⟨j, by omega, j2, j3, by omega⟩, by omega⟩
    rw [cn_tr_n nst, st on.toNat (by have := ho.1; have := ho.2.1; omega)]
    refine congrFun (cn_st_x (W := cn_W A r) (W' := cn_W A r) (fun _ _ => rfl) (fun i hi h9 => ?_) (fun _ _ => rfl) _ (Nat.le_refl _)) 0
    have b := pc i hi h9
    exact (cn_bs_a (A := A) (p := p) (r := r) ho b.1 b.2).symm
theorem cn_bs_2 {v X Y a b : Int} (ha : a = cn_on v X) (hb : b = cn_on v Y) : cn_bs (((a.toNat ||| (8 * b).toNat : Nat) : Int)) v X Y := by
  have x := cn_on_b v X
  have y := cn_on_b v Y
  have o := cn_or8 a.toNat (by omega) b.toNat (by omega)
  rw [show (8 * b).toNat = 8 * b.toNat by omega, o.1]
  refine ⟨by omega, by omega, fun q hq => ?_⟩
  rw [show (((a.toNat + 8 * b.toNat : Nat) : Int)).toNat = a.toNat + 8 * b.toNat by omega, (o.2 q hq).1, (o.2 q hq).2, ha, hb, cn_on_q v X hq, cn_on_q v Y hq]
  exact ⟨rfl, rfl⟩
theorem cn_on_0 (v : Int) (h : v ≠ 0) : cn_on v 0 = 0 := by
  have a := cn_isx (cn_ti 0 0) v
  have b := cn_isx (cn_ti 0 1) v
  have c := cn_isx (cn_ti 0 2) v
  have a1 : cn_ti 0 0 = 0 := rfl
  have b1 : cn_ti 0 1 = 0 := rfl
  have c1 : cn_ti 0 2 = 0 := rfl
  unfold cn_on
  omega
theorem cn_bs_1 {v X a : Int} (hv : v ≠ 0) (ha : a = cn_on v X) : cn_bs a v X 0 := by
  have h := cn_bs_2 (Y := 0) (b := 0) ha (cn_on_0 v hv).symm
  have x := cn_on_b v X
  rw [show (8 * (0 : Int)).toNat = 0 from rfl, Nat.or_zero, show ((a.toNat : Nat) : Int) = a by omega] at h
  exact h
theorem cn_bs_0 {v : Int} (hv : v ≠ 0) : cn_bs 0 v 0 0 := cn_bs_1 hv (cn_on_0 v hv).symm
theorem cn_cv {σ τ : x_S} (h : ∀ q m, 4 ≤ q → q ≤ 9 → τ q m = σ q m) : y_cv τ 4 = y_cv σ 4 := by
  funext m
  unfold y_cv
  rw [h (4 + 3) _ (by decide) (by decide), h (4 + 2) _ (by decide) (by decide), h (4 + 1) _ (by decide) (by decide), h (4 + 4) _ (by decide) (by decide), h 4 _ (by decide) (by decide), h (4 + 5) _ (by decide) (by decide)]
theorem cn_rl {A : Nat → Int} {r : Nat} (hP : y_PI A) (hr : (r : Int) < A 62) : (1 ≤ A (67 + 12 * r) ∧ A (67 + 12 * r) ≤ 7) ∧ (0 ≤ A (65 + 12 * r) ∧ A (65 + 12 * r) ≤ 4) ∧ (∀ i : Nat, (i : Int) < A (67 + 12 * r) → y_pc (A (65 + 12 * r)) (A (68 + 12 * r + i)) ∧ 1 ≤ y_op (cn_W A r) i) ∧ y_op (cn_W A r) (A (67 + 12 * r)).toNat = 0 := by
  have rl := hP.2.2.2.2 r (by omega)
  obtain ⟨a, b, c, d, e, f, g⟩ := rl
  have e4 : A (63 + 12 * r + 4) = A (67 + 12 * r) := congrArg A (by omega)
  have e2 : A (63 + 12 * r + 2) = A (65 + 12 * r) := congrArg A (by omega)
  have ew : (fun i => A (63 + 12 * r + (5 + i))) = cn_W A r := funext fun i => congrArg A (by omega)
  have e : 1 ≤ A (63 + 12 * r + 4) ∧ A (63 + 12 * r + 4) ≤ 7 := e
  have c : 0 ≤ A (63 + 12 * r + 2) ∧ A (63 + 12 * r + 2) ≤ 4 := c
  have f : ∀ k, k < (A (63 + 12 * r + 4)).toNat → y_pc (A (63 + 12 * r + 2)) (A (63 + 12 * r + (5 + k))) ∧ 1 ≤ y_op (fun i => A (63 + 12 * r + (5 + i))) k := f
  have g : y_op (fun i => A (63 + 12 * r + (5 + i))) (A (63 + 12 * r + 4)).toNat = 0 := g
  rw [e4] at e f g
  rw [e2] at c f
  rw [ew] at f g
  refine ⟨e, c, fun i hi => ?_, g⟩
  have q := f i (by omega)
  rw [show A (63 + 12 * r + (5 + i)) = A (68 + 12 * r + i) from congrArg A (by omega)] at q
  exact q
theorem cn_wch {A : Nat → Int} {p f x v : Int} (f4 : f ≤ 4) (h : ((2 ≤ A p.toNat ∧ 2 < f ∧ f ≤ 4) ∧ v = 1 - (x - 10) % 2) ∨ (¬ (2 ≤ A p.toNat ∧ 2 < f ∧ f ≤ 4) ∧ v = (x - 10) % 2)) : v = w_ch A p f x := by
  unfold w_ch
  by_cases c : 2 ≤ A p.toNat ∧ 2 < f
  · rw [if_pos c]
    rcases h with h | h
    · exact h.2
    · exact absurd ⟨c.1, c.2, f4⟩ h.1
  · rw [if_neg c]
    rcases h with h | h
    · exact absurd ⟨h.1.1, h.1.2.1⟩ c
    · exact h.2
/-- what is worked out ahead of all trees -/
def cn_WO (σ : x_S) (c : Nat) (A : Nat → Int) (p : Int) : Prop := (∀ f lk q : Int, 0 ≤ f → f ≤ 4 → 0 ≤ lk → lk ≤ 1 → 0 ≤ q → q ≤ 2 → σ (c + 9) ((f * 2 + lk) * 3 + q).toNat = y_sel A p q f lk (A 62).toNat) ∧ (∀ r : Nat, (r : Int) < A 62 → A (63 + 12 * r) = p → cn_ct A p r (σ (c + 10) r) (σ (c + 11) r))
/-- what is noted of a settled profile -/
def cn_ON (σ : x_S) (c : Nat) (x : Int) : Prop := x < 0 ∨ (σ (c + 7) x.toNat = cn_on 1 x ∧ σ (c + 8) x.toNat = cn_on 2 x)
theorem cn_okx {S : Nat → Prop} {f x y : Int} (t : cn_ok S f x y) : (y_ch f = 0 ∧ x = -4 ∧ y = -4) ∨ (y_ch f = 1 ∧ 0 ≤ x ∧ x < 54 ∧ y = -4) ∨ (y_ch f = 2 ∧ 0 ≤ x ∧ x < 54 ∧ 0 ≤ y ∧ y < 54) := by
  obtain ⟨a, b, c, d, e⟩ := t
  have ch := y_ch_b f
  have h : y_ch f = 0 ∨ y_ch f = 1 ∨ y_ch f = 2 := by omega
  rcases h with h | h | h
  · exact Or.inl ⟨h, c (by omega), e (by omega)⟩
  · have q := b (by omega)
    exact Or.inr (Or.inl ⟨h, q.1, q.2.1, e (by omega)⟩)
  · have q := b (by omega)
    have q2 := d (by omega)
    exact Or.inr (Or.inr ⟨h, q.1, q.2.1, q2.1, q2.2.1⟩)
theorem cn_tq_n {A : Nat → Int} {p q f lk X Y v : Int} (h : v = y_sel A p q f lk (A 62).toNat) (h0 : v < 0) : cn_tq A p q f lk X Y = 2 := by
  unfold cn_tq
  rw [← h, if_pos h0]
theorem cn_tq_r {A : Nat → Int} {p q f lk X Y v : Int} (h : v = y_sel A p q f lk (A 62).toNat) (h0 : 0 ≤ v) : cn_tq A p q f lk X Y = cn_tr A p v.toNat X Y := by
  unfold cn_tq
  rw [← h, if_neg (by omega)]
theorem cn_sel {A : Nat → Int} {p q f lk v : Int} (h : v = y_sel A p q f lk (A 62).toNat) (h0 : 0 ≤ v) (h62 : 0 ≤ A 62) : v < A 62 ∧ A (63 + 12 * v.toNat) = p := by
  have b := y_sel_b (A := A) (p := p) (q := q) (f := f) (l := lk) (n := (A 62).toNat)
  rw [← h] at b
  rcases b with b | ⟨b1, b2, b3⟩
  · omega
  · exact ⟨by omega, b3.1⟩
theorem kx_61 {E : q_E} {σ : x_S} {Q : Option q_V → x_S → Prop} {a0 a1 : Int} (a0l : 0 ≤ a0) (a0h : a0 ≤ 53) (q1 : 0 ≤ a1) (q2 : a1 ≤ 2) (C0 : y_CI σ) (k : ∀ v, 0 ≤ v → v ≤ 2 → v = cn_ti a0 a1 → Q (some (x_I v)) σ) : x_P E 61 [x_I a0, x_I a1] σ Q := by
  refine x_Mt e_61 (h_61 E) (Nat.le_of_ble_eq_true rfl) t_61 rfl ?_
  refine x_blk (b := 0) (a_61 E) rfl ?_
  unfold b_61_0
  refine x_iload rfl ?_
  refine x_if_ne (by omega) (by omega) (fun z1 => ?_) (fun z1 => ?_)
  · skip
    refine x_iload rfl ?_
    refine x_push 2 rfl ?_
    refine x_idiv (by omega) (by omega) (by omega) (by omega) ?_
    refine x_push 3 rfl ?_
    refine x_irem (by omega) (by omega) (by omega) (by omega) ?_
    refine x_iret ?_
    have tx := cn_tix a0 a1
    exact k _ (by omega) (by omega) (by omega)
  · skip
    refine x_blk (b := 1) (a_61 E) rfl ?_
    unfold b_61_1
    refine x_iload rfl ?_
    refine x_push 1 rfl ?_
    refine x_icmp_ne (by omega) (by omega) (by omega) (by omega) (fun z2 => ?_) (fun z2 => ?_)
    · skip
      refine x_iload rfl ?_
      refine x_push 6 rfl ?_
      refine x_idiv (by omega) (by omega) (by omega) (by omega) ?_
      refine x_push 3 rfl ?_
      refine x_irem (by omega) (by omega) (by omega) (by omega) ?_
      refine x_goto ?_
      refine x_blk (b := 3) (a_61 E) rfl ?_
      unfold b_61_3
      refine x_iret ?_
      have tx := cn_tix a0 a1
      exact k _ (by omega) (by omega) (by omega)
    · skip
      refine x_blk (b := 2) (a_61 E) rfl ?_
      unfold b_61_2
      refine x_iload rfl ?_
      refine x_push 18 rfl ?_
      refine x_idiv (by omega) (by omega) (by omega) (by omega) ?_
      refine x_fall ?_
      refine x_blk (b := 3) (a_61 E) rfl ?_
      unfold b_61_3
      refine x_iret ?_
      have tx := cn_tix a0 a1
      exact k _ (by omega) (by omega) (by omega)
theorem kx_41_111 {E : q_E} {σ : x_S} {Q : Option q_V → x_S → Prop} {a1 : Int} (a1l : -2147483648 ≤ a1) (a1h : a1 ≤ 2147483647) (C0 : y_CI σ) (k : ∀ v, 0 ≤ v → v ≤ 41 → (((0 ≤ a1 ∧ a1 < 54) ∧ v = σ 115 a1.toNat) ∨ (¬ (0 ≤ a1 ∧ a1 < 54) ∧ v = 0)) → Q (some (x_I v)) σ) : x_P E 41 [x_R 111, x_I a1] σ Q := by
  refine x_Mt e_41 (h_41 E) (Nat.le_of_ble_eq_true rfl) t_41 rfl ?_
  refine x_blk (b := 0) (a_41 E) rfl ?_
  unfold b_41_0
  refine x_iload rfl ?_
  refine x_push 54 rfl ?_
  refine x_cS (fun _ => rfl) (Nat.le_of_ble_eq_true rfl) ?_
  refine sf_2 (by omega) (by omega) (by omega) (by omega) C0 (fun y1 => ?_) (fun y1 => ?_)
  · skip
    refine x_if_eq (by omega) (by omega) (fun z => absurd z (by omega)) (fun z2 => ?_)
    refine x_aload rfl ?_
    refine x_getR (r := 111) rfl (by decide) (by decide) rfl ?_
    refine x_iload rfl ?_
    refine x_ialdX y_a115 C0 (by omega) (by omega) (fun v3 v3x v3a v3b => ?_)
    refine x_goto ?_
    refine x_blk (b := 2) (a_41 E) rfl ?_
    unfold b_41_2
    refine x_iret ?_
    exact k _ (by omega) (by omega) (by omega)
  · skip
    refine x_if_eq (by omega) (by omega) (fun z4 => ?_) (fun z => absurd (by omega) z)
    refine x_blk (b := 1) (a_41 E) rfl ?_
    unfold b_41_1
    refine x_push 0 rfl ?_
    refine x_fall ?_
    refine x_blk (b := 2) (a_41 E) rfl ?_
    unfold b_41_2
    refine x_iret ?_
    exact k _ (by omega) (by omega) (by omega)
theorem kx_41_124 {E : q_E} {σ : x_S} {Q : Option q_V → x_S → Prop} {a1 : Int} (a1l : -2147483648 ≤ a1) (a1h : a1 ≤ 2147483647) (C0 : y_CI σ) (k : ∀ v, 0 ≤ v → v ≤ 41 → (((0 ≤ a1 ∧ a1 < 54) ∧ v = σ 128 a1.toNat) ∨ (¬ (0 ≤ a1 ∧ a1 < 54) ∧ v = 0)) → Q (some (x_I v)) σ) : x_P E 41 [x_R 124, x_I a1] σ Q := by
  refine x_Mt e_41 (h_41 E) (Nat.le_of_ble_eq_true rfl) t_41 rfl ?_
  refine x_blk (b := 0) (a_41 E) rfl ?_
  unfold b_41_0
  refine x_iload rfl ?_
  refine x_push 54 rfl ?_
  refine x_cS (fun _ => rfl) (Nat.le_of_ble_eq_true rfl) ?_
  refine sf_2 (by omega) (by omega) (by omega) (by omega) C0 (fun y1 => ?_) (fun y1 => ?_)
  · skip
    refine x_if_eq (by omega) (by omega) (fun z => absurd z (by omega)) (fun z2 => ?_)
    refine x_aload rfl ?_
    refine x_getR (r := 124) rfl (by decide) (by decide) rfl ?_
    refine x_iload rfl ?_
    refine x_ialdX y_a128 C0 (by omega) (by omega) (fun v3 v3x v3a v3b => ?_)
    refine x_goto ?_
    refine x_blk (b := 2) (a_41 E) rfl ?_
    unfold b_41_2
    refine x_iret ?_
    exact k _ (by omega) (by omega) (by omega)
  · skip
    refine x_if_eq (by omega) (by omega) (fun z4 => ?_) (fun z => absurd (by omega) z)
    refine x_blk (b := 1) (a_41 E) rfl ?_
    unfold b_41_1
    refine x_push 0 rfl ?_
    refine x_fall ?_
    refine x_blk (b := 2) (a_41 E) rfl ?_
    unfold b_41_2
    refine x_iret ?_
    exact k _ (by omega) (by omega) (by omega)
theorem kx_68 {E : q_E} {σ : x_S} {Q : Option q_V → x_S → Prop} {a0 : Int} (a0l : 10 ≤ a0) (a0h : a0 ≤ 15) (C0 : y_CI σ) (k : ∀ v, 0 ≤ v → v ≤ 2 → v = (a0 - 10) / 2 → Q (some (x_I v)) σ) : x_P E 68 [x_I a0] σ Q := by
  refine x_Mt e_68 (h_68 E) (Nat.le_of_ble_eq_true rfl) t_68 rfl ?_
  refine x_blk (b := 0) (a_68 E) rfl ?_
  unfold b_68_0
  refine x_iload rfl ?_
  refine x_push 10 rfl ?_
  refine x_isub ?_
  refine x_push 2 rfl ?_
  refine x_idiv (by omega) (by omega) (by omega) (by omega) ?_
  refine x_iret ?_
  exact k _ (by omega) (by omega) (by omega)
