/-! the least first: what stays true while trees are offered and settled; pure -/
def cn_le (s : Int) (a : List Int) (t : Int) (b : List Int) : Prop := s < t ∨ (s = t ∧ (41 ≤ s ∨ cn_lq a b))
theorem cn_le_rf (s : Int) (a : List Int) : cn_le s a s a := Or.inr ⟨rfl, Or.inr (cn_lq_rf a)⟩
theorem cn_le_z {s t : Int} {a b : List Int} (h : cn_le s a t b) : s ≤ t := by
  rcases h with h | h
  · omega
  · omega
theorem cn_le_tr {s t u : Int} {a b c : List Int} (h : cn_le s a t b) (g : cn_le t b u c) : cn_le s a u c := by
  have z1 := cn_le_z h
  have z2 := cn_le_z g
  by_cases q : s < u
  · exact Or.inl q
  · refine Or.inr ⟨by omega, ?_⟩
    rcases h with h | ⟨h1, h2⟩
    · exact absurd h (by omega)
    · rcases g with g | ⟨g1, g2⟩
      · exact absurd g (by omega)
      · rcases h2 with h2 | h2
        · exact Or.inl h2
        · rcases g2 with g2 | g2
          · exact Or.inl (by omega)
          · exact Or.inr (cn_lq_tr h2 g2)
theorem cn_le_no {s t : Int} {a b : List Int} (hl : s = t → s ≤ 40 → a.length = b.length) (h : ¬ cn_le s a t b) : cn_le t b s a := by
  by_cases c : t < s
  · exact Or.inl c
  · by_cases d : s < t
    · exact absurd (Or.inl d) h
    · have e : s = t := by omega
      by_cases f : 41 ≤ s
      · exact Or.inr ⟨e.symm, Or.inl (by omega)⟩
      · refine Or.inr ⟨e.symm, Or.inr (cn_lq_no (hl e (by omega)) (fun z => h (Or.inr ⟨e, Or.inr z⟩)))⟩
/-- smaller than all that is made of more than so many nodes -/
theorem cn_le_B {s B x : Int} {a b : List Int} (h : s ≤ B) (hB : B < x) (h41 : s ≤ 41) : cn_le s a (cn_m x) b := by
  have m := cn_mx x
  by_cases c : s < cn_m x
  · exact Or.inl c
  · exact Or.inr ⟨by omega, Or.inl (by omega)⟩
def cn_E (hd lf rt : Nat → Int) (f x y : Int) : List Int := f :: (cn_LL hd lf rt x ++ cn_LL hd lf rt y)
section
variable {pf : Int → Nat → Nat → Nat} {S : Nat → Prop} {hd lf rt sz : Nat → Int}
theorem cn_ok_w {f x y : Int} (t : cn_ok S f x y) : cn_E hd lf rt f x y = cn_w f (cn_LL hd lf rt (x.toNat : Nat)) (cn_LL hd lf rt (y.toNat : Nat)) := by
  obtain ⟨a, b, c, d, e⟩ := t
  unfold cn_E
  rcases cn_wx f (cn_LL hd lf rt (x.toNat : Nat)) (cn_LL hd lf rt (y.toNat : Nat)) with w | w | w
  · rw [w.2, cn_LL_n (x := x) (by have := c (by omega); omega), cn_LL_n (x := y) (by have := e (by omega); omega)]; rfl
  · have q := b (by omega)
    rw [w.2, cn_LL_n (x := y) (by have := e (by omega); omega), List.append_nil, show ((x.toNat : Nat) : Int) = x by omega]
  · have q := b (by omega)
    have q2 := d (by omega)
    rw [w.2, show ((x.toNat : Nat) : Int) = x by omega, show ((y.toNat : Nat) : Int) = y by omega]
theorem cn_len (T : cn_TS pf S hd lf rt sz) {f x y : Int} (o : cn_ok S f x y) (h : cn_m (1 + cn_s sz x + cn_s sz y) ≤ 40) : (cn_E hd lf rt f x y).length = (cn_m (1 + cn_s sz x + cn_s sz y)).toNat := by
  have kd := cn_kid T o (n := 40) h (by omega)
  have m := cn_mx (1 + cn_s sz x + cn_s sz y)
  have nn : ∀ y, cn_vd S sz 39 y → 0 ≤ cn_s sz y := fun y w => by
    rcases w with w | ⟨w1, w2, w3, w4⟩
    · rw [cn_s_n (by omega)]; omega
    · rw [cn_s_p w1 w2]; have := (T y.toNat (by omega) w3).2.2.2; omega
  have n1 := nn _ kd.1
  have n2 := nn _ kd.2
  unfold cn_E
  rw [List.length_cons, List.length_append, cn_LL_l T 39 x (by omega) kd.1, cn_LL_l T 39 y (by omega) kd.2]
  omega
end
/-- what stays true -/
def cn_I (pf : Int → Nat → Nat → Nat) (hd lf rt sz st : Nat → Int) (O : Int → Nat → Nat → Prop) : Prop :=
  (∀ k, k < 54 → (sz k = 0 ∧ st k ≠ 1) ∨ (cn_en pf (fun k => st k = 1) hd lf rt sz k ∧ sz k ≤ 41)) ∧
  (∀ X : Nat → Prop, cn_cl pf X → ∀ k, k < 54 → 0 < sz k → X k) ∧
  (∀ f l r, O f l r → cn_tri (fun k => st k = 1) f l r ∧ pf f l r < 54 ∧ 0 < sz (pf f l r) ∧ cn_le (sz (pf f l r)) (cn_E hd lf rt (hd (pf f l r)) (lf (pf f l r)) (rt (pf f l r))) (cn_m (cn_z f (sz l) (sz r))) (cn_w f (cn_LL hd lf rt (l : Int)) (cn_LL hd lf rt (r : Int)))) ∧
  (∀ k j, k < 54 → j < 54 → st k = 1 → st j ≠ 1 → 0 < sz j → cn_le (sz k) (cn_E hd lf rt (hd k) (lf k) (rt k)) (sz j) (cn_E hd lf rt (hd j) (lf j) (rt j)))
section
variable {pf : Int → Nat → Nat → Nat} {hd lf rt sz st : Nat → Int} {O : Int → Nat → Nat → Prop}
theorem cn_I_T (h : cn_I pf hd lf rt sz st O) : cn_TS pf (fun k => st k = 1) hd lf rt sz := fun k hk hs => by
  rcases h.1 k hk with q | q
  · exact absurd hs q.2
  · exact q.1
theorem cn_I_n (h : cn_I pf hd lf rt sz st O) {k : Nat} (hk : k < 54) (hz : 0 < sz k) : cn_en pf (fun k => st k = 1) hd lf rt sz k ∧ sz k ≤ 41 := by
  rcases h.1 k hk with q | q
  · exact absurd hz (by omega)
  · exact q
theorem cn_I_0 (h : ∀ k, k < 54 → sz k = 0 ∧ st k ≠ 1) : cn_I pf hd lf rt sz st (fun _ _ _ => False) :=
  ⟨fun k hk => Or.inl (h k hk), fun X hX k hk hz => absurd hz (by have := (h k hk).1; omega), fun f l r z => z.elim, fun k j hk hj h1 _ _ => absurd h1 (h k hk).2⟩
def cn_O1 (O : Int → Nat → Nat → Prop) (f x y : Int) : Int → Nat → Nat → Prop := fun f' l r => O f' l r ∨ (f' = f ∧ l = x.toNat ∧ r = y.toNat)
/-- offered, and not taken -/
theorem cn_I_old (h : cn_I pf hd lf rt sz st O) {f x y B : Int} (o : cn_ok (fun k => st k = 1) f x y) (hk : pf f x.toNat y.toNat < 54) (hB : ∀ j, j < 54 → st j = 1 → sz j ≤ B) (hx : B < 1 + cn_s sz x + cn_s sz y) (c : st (pf f x.toNat y.toNat) = 1 ∨ (0 < sz (pf f x.toNat y.toNat) ∧ cn_le (sz (pf f x.toNat y.toNat)) (cn_E hd lf rt (hd (pf f x.toNat y.toNat)) (lf (pf f x.toNat y.toNat)) (rt (pf f x.toNat y.toNat))) (cn_m (1 + cn_s sz x + cn_s sz y)) (cn_E hd lf rt f x y))) : cn_I pf hd lf rt sz st (cn_O1 O f x y) := by
  refine ⟨h.1, h.2.1, fun f' l r z => ?_, h.2.2.2⟩
  rcases z with z | ⟨z1, z2, z3⟩
  · exact h.2.2.1 f' l r z
  · subst z1; subst z2; subst z3
    rw [← cn_ok_z o, ← cn_ok_w o]
    refine ⟨cn_ok_t o, hk, ?_⟩
    rcases c with c | c
    · have q := h.1 _ hk
      rcases q with q | q
      · exact absurd c q.2
      · exact ⟨q.1.2.2.2, cn_le_B (hB _ hk c) hx q.2⟩
    · exact c
theorem cn_s_k {sz : Nat → Int} {k : Nat} {v x : Int} (h : x < 0 ∨ x.toNat ≠ k) : cn_s (y_wK sz k v) x = cn_s sz x := by
  by_cases c : 0 ≤ x ∧ x < 54
  · rw [cn_s_p c.1 c.2, cn_s_p c.1 c.2, y_wK_o (by omega)]
  · unfold cn_s
    rw [if_neg c, if_neg c]
/-- offered, and taken -/
theorem cn_I_new (h : cn_I pf hd lf rt sz st O) {f x y B : Int} {k : Nat} (o : cn_ok (fun k => st k = 1) f x y) (ek : pf f x.toNat y.toNat = k) (hk : k < 54) (hs : st k ≠ 1) (hB : ∀ j, j < 54 → st j = 1 → sz j ≤ B) (b0 : 0 ≤ B) (hx : B < 1 + cn_s sz x + cn_s sz y) (c : sz k = 0 ∨ ¬ cn_le (sz k) (cn_E hd lf rt (hd k) (lf k) (rt k)) (cn_m (1 + cn_s sz x + cn_s sz y)) (cn_E hd lf rt f x y)) : cn_I pf (y_wK hd k f) (y_wK lf k x) (y_wK rt k y) (y_wK sz k (cn_m (1 + cn_s sz x + cn_s sz y))) st (cn_O1 O f x y) := by
  have T := cn_I_T h
  obtain ⟨h1, h2, h3, h4⟩ := id h
  have ne : ∀ j, st j = 1 → j ≠ k := fun j hj e => hs (by rw [← e]; exact hj)
  have LX : ∀ z : Int, (z < 0 ∨ (0 ≤ z ∧ z < 54 ∧ st z.toNat = 1)) → cn_LL (y_wK hd k f) (y_wK lf k x) (y_wK rt k y) z = cn_LL hd lf rt z := fun z hz => cn_L_x T (fun j hj hS => ⟨y_wK_o (ne j hS), y_wK_o (ne j hS), y_wK_o (ne j hS)⟩) 40 z hz
  have pv : ∀ {g a b : Int}, cn_ok (fun k => st k = 1) g a b → (a < 0 ∨ (0 ≤ a ∧ a < 54 ∧ st a.toNat = 1)) ∧ (b < 0 ∨ (0 ≤ b ∧ b < 54 ∧ st b.toNat = 1)) := fun {g a b} q => by
    constructor
    · by_cases c : 1 ≤ y_ch g
      · exact Or.inr (q.2.1 c)
      · have := q.2.2.1 (by omega); exact Or.inl (by omega)
    · by_cases c : 2 ≤ y_ch g
      · exact Or.inr (q.2.2.2.1 c)
      · have := q.2.2.2.2 (by omega); exact Or.inl (by omega)
  have SX : ∀ z : Int, (z < 0 ∨ (0 ≤ z ∧ z < 54 ∧ st z.toNat = 1)) → cn_s (y_wK sz k (cn_m (1 + cn_s sz x + cn_s sz y))) z = cn_s sz z := fun z hz => cn_s_k (by
    rcases hz with q | q
    · exact Or.inl q
    · exact Or.inr (ne _ q.2.2))
  have EX : ∀ {g a b : Int}, cn_ok (fun k => st k = 1) g a b → cn_E (y_wK hd k f) (y_wK lf k x) (y_wK rt k y) g a b = cn_E hd lf rt g a b := fun {g a b} q => by
    unfold cn_E
    rw [LX a (pv q).1, LX b (pv q).2]
  have sx := pv o
  have nz : cn_m (1 + cn_s sz x + cn_s sz y) ≥ 1 := by
    have m := cn_mx (1 + cn_s sz x + cn_s sz y)
    omega
  have kX : ∀ j, j ≠ k → y_wK hd k f j = hd j ∧ y_wK lf k x j = lf j ∧ y_wK rt k y j = rt j := fun j hj => ⟨y_wK_o hj, y_wK_o hj, y_wK_o hj⟩
  refine ⟨fun j hj => ?_, fun X hX j hj hz => ?_, fun f' l r z => ?_, fun i j hi hj hsi hsj hz => ?_⟩
  · by_cases e : j = k
    · subst e
      refine Or.inr ⟨⟨?_, ?_, ?_, ?_⟩, ?_⟩
      · rw [y_wK_e, y_wK_e, y_wK_e]; exact o
      · rw [y_wK_e, y_wK_e, y_wK_e, SX x sx.1, SX y sx.2]
      · rw [y_wK_e, y_wK_e, y_wK_e]; exact ek
      · rw [y_wK_e]; exact nz
      · rw [y_wK_e]
        have m := cn_mx (1 + cn_s sz x + cn_s sz y)
        omega
    · rcases h1 j hj with q | ⟨⟨q1, q2, q3, q4⟩, q5⟩
      · exact Or.inl ⟨by rw [y_wK_o e]; exact q.1, q.2⟩
      · refine Or.inr ⟨⟨?_, ?_, ?_, ?_⟩, ?_⟩
        · rw [y_wK_o e, y_wK_o e, y_wK_o e]; exact q1
        · rw [y_wK_o e, y_wK_o e, y_wK_o e, SX _ (pv q1).1, SX _ (pv q1).2]; exact q2
        · rw [y_wK_o e, y_wK_o e, y_wK_o e]; exact q3
        · rw [y_wK_o e]; exact q4
        · rw [y_wK_o e]; exact q5
  · by_cases e : j = k
    · rw [e, ← ek]
      have sX : ∀ i, i < 54 → st i = 1 → X i := fun i hi hS => h2 X hX i hi (T i hi hS).2.2.2
      exact hX _ _ _ (cn_tri_m (fun i hi hS => sX i hi hS) (cn_ok_t o))
    · rw [y_wK_o e] at hz
      exact h2 X hX j hj hz
  · have zw : ∀ {f' : Int} {l r : Nat}, cn_tri (fun k => st k = 1) f' l r → cn_z f' (y_wK sz k (cn_m (1 + cn_s sz x + cn_s sz y)) l) (y_wK sz k (cn_m (1 + cn_s sz x + cn_s sz y)) r) = cn_z f' (sz l) (sz r) ∧ cn_w f' (cn_LL (y_wK hd k f) (y_wK lf k x) (y_wK rt k y) (l : Int)) (cn_LL (y_wK hd k f) (y_wK lf k x) (y_wK rt k y) (r : Int)) = cn_w f' (cn_LL hd lf rt (l : Int)) (cn_LL hd lf rt (r : Int)) := fun {f' l r} t => by
      refine cn_zw (s := y_wK sz k (cn_m (1 + cn_s sz x + cn_s sz y))) (s' := sz) (L := fun i : Nat => cn_LL (y_wK hd k f) (y_wK lf k x) (y_wK rt k y) (i : Int)) (L' := fun i : Nat => cn_LL hd lf rt (i : Int)) t (fun c => ?_) (fun c => ?_)
      · have q := t.2.1 c
        exact ⟨y_wK_o (ne l q.2), LX l (Or.inr ⟨by omega, by omega, by rw [show ((l : Int)).toNat = l by omega]; exact q.2⟩)⟩
      · have q := t.2.2.2.1 c
        exact ⟨y_wK_o (ne r q.2), LX r (Or.inr ⟨by omega, by omega, by rw [show ((r : Int)).toNat = r by omega]; exact q.2⟩)⟩
    rcases z with z | ⟨z1, z2, z3⟩
    · obtain ⟨t, pl, p, q⟩ := h3 f' l r z
      have w := zw t
      rw [w.1, w.2]
      refine ⟨t, pl, ?_⟩
      by_cases e : pf f' l r = k
      · rw [e] at p q ⊢
        rw [y_wK_e, y_wK_e, y_wK_e, y_wK_e, EX o]
        refine ⟨by omega, ?_⟩
        have c := c.resolve_left (by omega)
        refine cn_le_tr (cn_le_no (fun e1 e2 => ?_) c) q
        have n := cn_I_n h hk p
        rw [n.1.2.1] at e1 e2
        rw [cn_len T n.1.1 e2, cn_len T o (by omega), e1]
      · rw [y_wK_o e, y_wK_o e, y_wK_o e, y_wK_o e, EX (cn_I_n h pl p).1.1]
        exact ⟨p, q⟩
    · subst z1; subst z2; subst z3
      have w := zw (cn_ok_t o)
      rw [w.1, w.2, ek, y_wK_e, y_wK_e, y_wK_e, y_wK_e, EX o, cn_ok_z o, ← cn_ok_w o]
      exact ⟨cn_ok_t o, hk, by rw [← cn_ok_z o]; omega, cn_le_rf _ _⟩
  · have ei := ne i hsi
    have oi := (T i hi hsi).1
    rw [y_wK_o ei, y_wK_o ei, y_wK_o ei, y_wK_o ei, EX oi]
    by_cases e : j = k
    · rw [e, y_wK_e, y_wK_e, y_wK_e, y_wK_e, EX o]
      have := (cn_I_n h hi (T i hi hsi).2.2.2).2
      exact cn_le_B (hB i hi hsi) hx this
    · rw [y_wK_o e] at hz
      rw [y_wK_o e, y_wK_o e, y_wK_o e, y_wK_o e, EX (cn_I_n h hj hz).1.1]
      exact h4 i j hi hj hsi hsj hz
/-- the nearest settled -/
theorem cn_I_set (h : cn_I pf hd lf rt sz st O) {u : Nat} (hu : u < 54) (hs : st u ≠ 1) (hz : 0 < sz u) (hm : ∀ j, j < 54 → st j ≠ 1 → 0 < sz j → cn_le (sz u) (cn_E hd lf rt (hd u) (lf u) (rt u)) (sz j) (cn_E hd lf rt (hd j) (lf j) (rt j))) : cn_I pf hd lf rt sz (y_wK st u 1) O := by
  obtain ⟨h1, h2, h3, h4⟩ := id h
  have mo : ∀ k, k < 54 → st k = 1 → y_wK st u 1 k = 1 := fun k _ hk => by
    by_cases e : k = u
    · rw [e, y_wK_e]
    · rw [y_wK_o e]; exact hk
  refine ⟨fun k hk => ?_, h2, fun f l r z => ?_, fun k j hk hj hsk hsj hzj => ?_⟩
  · rcases h1 k hk with q | ⟨q1, q2⟩
    · refine Or.inl ⟨q.1, ?_⟩
      have e : k ≠ u := fun e => by rw [e] at q; omega
      rw [y_wK_o e]; exact q.2
    · exact Or.inr ⟨⟨cn_ok_m mo q1.1, q1.2⟩, q2⟩
  · obtain ⟨t, q⟩ := h3 f l r z
    exact ⟨cn_tri_m mo t, q⟩
  · have ej : j ≠ u := fun e => hsj (by rw [e, y_wK_e])
    rw [y_wK_o ej] at hsj
    by_cases e : k = u
    · rw [e]; exact hm j hj hsj hzj
    · rw [y_wK_o e] at hsk
      exact h4 k j hk hj hsk hsj hzj
/-- the order of the settled -/
def cn_OD (hd lf rt sz st od : Nat → Int) (n : Nat) : Prop := (∀ i, i < n → 0 ≤ od i ∧ od i < 54 ∧ st (od i).toNat = 1) ∧ (∀ k, k < 54 → st k = 1 → ∃ i, i < n ∧ od i = k) ∧ (∀ i j, i < j → j < n → od i ≠ od j ∧ cn_le (sz (od i).toNat) (cn_E hd lf rt (hd (od i).toNat) (lf (od i).toNat) (rt (od i).toNat)) (sz (od j).toNat) (cn_E hd lf rt (hd (od j).toNat) (lf (od j).toNat) (rt (od j).toNat))) ∧ (∀ k, k < 54 → 0 ≤ st k ∧ st k ≤ 1) ∧ (n : Int) = y_sum st 54
theorem cn_OD_set (h : cn_I pf hd lf rt sz st O) {od : Nat → Int} {n : Nat} (d : cn_OD hd lf rt sz st od n) {u : Nat} (hu : u < 54) (hs : st u ≠ 1) (hz : 0 < sz u) : cn_OD hd lf rt sz (y_wK st u 1) (y_wK od n u) (n + 1) := by
  obtain ⟨d1, d2, d3, d4, d5⟩ := d
  have ou : ∀ i, i < n → y_wK od n u i = od i := fun i hi => y_wK_o (by omega)
  have on : y_wK od n (u : Int) n = u := y_wK_e
  refine ⟨fun i hi => ?_, fun k hk hk1 => ?_, fun i j hij hj => ?_, fun k hk => ?_, ?_⟩
  · by_cases e : i = n
    · rw [e, on, show ((u : Int)).toNat = u by omega, y_wK_e]
      exact ⟨by omega, by omega, rfl⟩
    · rw [ou i (by omega)]
      have q := d1 i (by omega)
      have e2 : (od i).toNat ≠ u := fun e2 => hs (by rw [← e2]; exact q.2.2)
      rw [y_wK_o e2]
      exact q
  · by_cases e : k = u
    · exact ⟨n, by omega, by rw [on, e]⟩
    · rw [y_wK_o e] at hk1
      obtain ⟨i, hi, q⟩ := d2 k hk hk1
      exact ⟨i, by omega, by rw [ou i hi]; exact q⟩
  · have qi := d1 i (by omega)
    rw [ou i (by omega)]
    by_cases e : j = n
    · rw [e, on, show ((u : Int)).toNat = u by omega]
      have e2 : (od i).toNat ≠ u := fun e2 => hs (by rw [← e2]; exact qi.2.2)
      exact ⟨by omega, h.2.2.2 _ u (by omega) hu qi.2.2 hs hz⟩
    · rw [ou j (by omega)]
      exact d3 i j hij (by omega)
  · by_cases e : k = u
    · rw [e, y_wK_e]; omega
    · rw [y_wK_o e]; exact d4 k hk
  · have q := y_sum_up (f := st) (g := y_wK st u 1) (p := u) (fun i hi => y_wK_o hi) (n := 54) hu
    rw [y_wK_e] at q
    have := d4 u hu
    omega
theorem cn_OD_B (h : cn_I pf hd lf rt sz st O) {u : Nat} (hu : u < 54) (hs : st u ≠ 1) (hz : 0 < sz u) : ∀ j, j < 54 → y_wK st u 1 j = 1 → sz j ≤ sz u := fun j hj hsj => by
  by_cases e : j = u
  · rw [e]; exact Int.le_refl _
  · rw [y_wK_o e] at hsj
    exact cn_le_z (h.2.2.2 j u hj hu hsj hs hz)
/-- the order hangs on the settled alone -/
theorem cn_OD_new (h : cn_I pf hd lf rt sz st O) {od : Nat → Int} {n : Nat} (d : cn_OD hd lf rt sz st od n) {k : Nat} {f x y v : Int} (hs : st k ≠ 1) : cn_OD (y_wK hd k f) (y_wK lf k x) (y_wK rt k y) (y_wK sz k v) st od n := by
  have T := cn_I_T h
  obtain ⟨d1, d2, d3, d4, d5⟩ := d
  have ne : ∀ j, st j = 1 → j ≠ k := fun j hj e => hs (by rw [← e]; exact hj)
  have LX : ∀ z : Int, (z < 0 ∨ (0 ≤ z ∧ z < 54 ∧ st z.toNat = 1)) → cn_LL (y_wK hd k f) (y_wK lf k x) (y_wK rt k y) z = cn_LL hd lf rt z := fun z hz => cn_L_x T (fun j hj hS => ⟨y_wK_o (ne j hS), y_wK_o (ne j hS), y_wK_o (ne j hS)⟩) 40 z hz
  have pv : ∀ {g a b : Int}, cn_ok (fun k => st k = 1) g a b → (a < 0 ∨ (0 ≤ a ∧ a < 54 ∧ st a.toNat = 1)) ∧ (b < 0 ∨ (0 ≤ b ∧ b < 54 ∧ st b.toNat = 1)) := fun {g a b} q => by
    constructor
    · by_cases c : 1 ≤ y_ch g
      · exact Or.inr (q.2.1 c)
      · have := q.2.2.1 (by omega); exact Or.inl (by omega)
    · by_cases c : 2 ≤ y_ch g
      · exact Or.inr (q.2.2.2.1 c)
      · have := q.2.2.2.2 (by omega); exact Or.inl (by omega)
  refine ⟨d1, d2, fun i j hij hj => ?_, d4, d5⟩
  have qi := d1 i (by omega)
  have qj := d1 j (by omega)
  have oi := (T _ (by omega) qi.2.2).1
  have oj := (T _ (by omega) qj.2.2).1
  have q := d3 i j hij hj
  unfold cn_E at q ⊢
  rw [y_wK_o (ne _ qi.2.2), y_wK_o (ne _ qi.2.2), y_wK_o (ne _ qi.2.2), y_wK_o (ne _ qi.2.2), y_wK_o (ne _ qj.2.2), y_wK_o (ne _ qj.2.2), y_wK_o (ne _ qj.2.2), y_wK_o (ne _ qj.2.2), LX _ (pv oi).1, LX _ (pv oi).2, LX _ (pv oj).1, LX _ (pv oj).2]
  exact q
/-- the census is right -/
def cn_R (pf : Int → Nat → Nat → Nat) (hd lf rt sz od : Nat → Int) (mt : Int) : Prop :=
  (∀ k, k < 54 → 0 ≤ sz k ∧ sz k ≤ 41) ∧ cn_TS pf (fun k => 0 < sz k) hd lf rt sz ∧ cn_cl pf (fun k => 0 < sz k) ∧ cn_mi pf (fun k => 0 < sz k) ∧ cn_sol pf (fun k => 0 < sz k) sz (fun k => cn_LL hd lf rt (k : Int)) ∧
  ((∀ i : Nat, (i : Int) < mt → 0 ≤ od i ∧ od i < 54 ∧ 0 < sz (od i).toNat) ∧ (∀ k, k < 54 → 0 < sz k → ∃ i : Nat, (i : Int) < mt ∧ od i = k) ∧ (∀ i j : Nat, i < j → (j : Int) < mt → od i ≠ od j ∧ cn_le (sz (od i).toNat) (cn_LL hd lf rt (od i)) (sz (od j).toNat) (cn_LL hd lf rt (od j)))) ∧
  mt = y_sum (fun k => if 0 < sz k then 1 else 0) 54
theorem cn_I_R (h : cn_I pf hd lf rt sz st O) {od : Nat → Int} {n : Nat} (d : cn_OD hd lf rt sz st od n) (hO : ∀ f l r, cn_tri (fun k => st k = 1) f l r → O f l r) (hall : ∀ k, k < 54 → 0 < sz k → st k = 1) : cn_R pf hd lf rt sz od n := by
  have T := cn_I_T h
  obtain ⟨h1, h2, h3, h4⟩ := id h
  obtain ⟨d1, d2, d3, d4, d5⟩ := d
  have iff1 : ∀ k, k < 54 → st k = 1 → 0 < sz k := fun k hk hs => (T k hk hs).2.2.2
  have T2 : cn_TS pf (fun k => 0 < sz k) hd lf rt sz := fun k hk hz => by
    have t := T k hk (hall k hk hz)
    exact ⟨cn_ok_m iff1 t.1, t.2⟩
  have eE : ∀ x : Int, 0 ≤ x → x < 54 → 0 < sz x.toNat → sz x.toNat ≤ 40 → cn_E hd lf rt (hd x.toNat) (lf x.toNat) (rt x.toNat) = cn_LL hd lf rt x := fun x x0 x1 hz h40 => (cn_LL_e T2 x0 x1 hz h40).symm
  have z41 : ∀ k, k < 54 → 0 ≤ sz k ∧ sz k ≤ 41 := fun k hk => by
    rcases h1 k hk with q | q
    · omega
    · have := q.1.2.2.2; omega
  have tm : ∀ {f : Int} {l r : Nat}, cn_tri (fun k => 0 < sz k) f l r → cn_tri (fun k => st k = 1) f l r := fun {f l r} t => cn_tri_m (fun k hk hz => hall k hk hz) t
  refine ⟨z41, T2, fun f l r t => (h3 f l r (hO f l r (tm t))).2.2.1, fun X hX k hk hz => h2 X hX k hk hz, ⟨fun k hk hz => hz, fun k hk hz h40 => ?_, fun f l r t h40 => ?_⟩, ⟨fun i hi => ?_, fun k hk hz => ?_, fun i j hij hj => ?_⟩, ?_⟩
  · have t := T2 k hk hz
    refine ⟨hd k, (lf k).toNat, (rt k).toNat, cn_ok_t t.1, t.2.2.1, ?_, ?_⟩
    · have e := t.2.1
      have m := cn_mx (1 + cn_s sz (lf k) + cn_s sz (rt k))
      rw [← cn_ok_z t.1]
      omega
    · rw [← cn_ok_w t.1]
      have q := eE (k : Int) (by omega) (by omega) (by rw [show ((k : Int)).toNat = k by omega]; exact hz) (by rw [show ((k : Int)).toNat = k by omega]; exact h40)
      rw [show ((k : Int)).toNat = k by omega] at q
      exact q.symm
  · obtain ⟨_, pl, p, q⟩ := h3 f l r (hO f l r (tm t))
    have m := cn_mx (cn_z f (sz l) (sz r))
    have z := cn_le_z q
    refine ⟨by omega, fun e => ?_⟩
    rcases q with q | ⟨q1, q2⟩
    · exact absurd q (by omega)
    · have e2 := eE ((pf f l r : Nat) : Int) (by omega) (by omega) (by rw [show (((pf f l r : Nat) : Int)).toNat = pf f l r by omega]; exact p) (by rw [show (((pf f l r : Nat) : Int)).toNat = pf f l r by omega]; omega)
      rw [show (((pf f l r : Nat) : Int)).toNat = pf f l r by omega] at e2
      rw [e2] at q2
      exact q2.resolve_left (by omega)
  · have q := d1 i (by omega)
    exact ⟨q.1, q.2.1, iff1 _ (by omega) q.2.2⟩
  · obtain ⟨i, hi, q⟩ := d2 k hk (hall k hk hz)
    exact ⟨i, by omega, q⟩
  · have qi := d1 i (by omega)
    have qj := d1 j (by omega)
    have q := d3 i j hij (by omega)
    refine ⟨q.1, ?_⟩
    rcases q.2 with w | ⟨w1, w2⟩
    · exact Or.inl w
    · refine Or.inr ⟨w1, ?_⟩
      by_cases c : 41 ≤ sz (od i).toNat
      · exact Or.inl c
      · have w2 := w2.resolve_left c
        rw [eE _ qi.1 qi.2.1 (iff1 _ (by omega) qi.2.2) (by omega), eE _ qj.1 qj.2.1 (iff1 _ (by omega) qj.2.2) (by omega)] at w2
        exact Or.inr w2
  · rw [d5]
    refine y_sum_ext (fun k hk => ?_)
    by_cases c : 0 < sz k
    · rw [if_pos c]; exact hall k hk c
    · rw [if_neg c]
      have := d4 k hk
      have : st k ≠ 1 := fun e => c (iff1 k hk e)
      omega
end
