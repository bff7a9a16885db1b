/-! the class's census: worked out, asked -/
theorem cn_chs {σ : x_S} {A : Nat → Int} {p q f l : Int} (h : y_CH σ 4 A) (p1 : 0 ≤ p) (p2 : p ≤ 1) (q1 : 0 ≤ q) (q2 : q ≤ 2) (f1 : 0 ≤ f) (f2 : f ≤ 4) (l1 : 0 ≤ l) (l2 : l ≤ 2) : σ 10 (((p * 3 + q) * 5 + f) * 3 + l).toNat = y_sel A p q f l (A 62).toNat := by
  have e := h p.toNat q.toNat f.toNat l.toNat (by omega) (by omega) (by omega) (by omega)
  rw [show ((p.toNat : Nat) : Int) = p by omega, show ((q.toNat : Nat) : Int) = q by omega, show ((f.toNat : Nat) : Int) = f by omega, show ((l.toNat : Nat) : Int) = l by omega] at e
  rw [← e]
  show σ 10 _ = σ 10 _
  congr 1
  omega
theorem y_sum_0 {f : Nat → Int} : ∀ {n : Nat}, (∀ i, i < n → f i = 0) → y_sum f n = 0
  | 0, _ => rfl
  | n + 1, h => by rw [y_sum_s, y_sum_0 (fun i hi => h i (by omega)), h n (by omega)]; rfl
theorem y_sum_1 {f : Nat → Int} : ∀ {n : Nat}, (∀ i, i < n → f i ≤ 1) → y_sum f n = n → ∀ i, i < n → f i = 1
  | 0, _, _, i, hi => absurd hi (by omega)
  | n + 1, h, e, i, hi => by
    have b := y_sum_le (f := f) (c := 1) (n := n) (fun i hi => h i (by omega))
    have hn := h n (by omega)
    rw [y_sum_s] at e
    by_cases c : i = n
    · rw [c]; omega
    · exact y_sum_1 (n := n) (fun i hi => h i (by omega)) (by omega) i (by omega)
theorem cn_ST_0 {σ : x_S} {c : Nat} {A : Nat → Int} {p : Int} (z : ∀ m, m < 54 → σ (c + 4) m = 0) (s : ∀ m, m < 54 → σ (c + 6) m = 0) (w : cn_WO σ c A p) : cn_ST σ c A p (fun _ _ _ => False) 0 0 := by
  refine ⟨cn_I_0 (fun k hk => ⟨z k hk, by rw [s k hk]; decide⟩), ⟨fun i hi => absurd hi (by omega), fun k hk h => absurd h (by rw [s k hk]; decide), fun i j _ hj => absurd hj (by omega), fun k hk => by rw [s k hk]; decide, by rw [y_sum_0 s]; rfl⟩, w, fun k hk h => absurd h (by rw [s k hk]; decide), by decide, fun j hj h => absurd h (by rw [s j hj]; decide)⟩
theorem cn_WO_mk {σ : x_S} {c : Nat} {A : Nat → Int} {p : Int} (h9 : ∀ m : Nat, (m : Int) < 30 → σ (c + 9) m = y_sel A p ((m : Int) % 3) ((m : Int) / 3 / 2) ((m : Int) / 3 % 2) (A 62).toNat) (hr : ∀ r : Nat, (r : Int) < A 62 → A (63 + 12 * r) = p → cn_ct A p r (σ (c + 10) r) (σ (c + 11) r)) : cn_WO σ c A p := by
  refine ⟨fun f lk q f1 f2 l1 l2 q1 q2 => ?_, hr⟩
  have e := h9 ((f * 2 + lk) * 3 + q).toNat (by omega)
  have em : ((((f * 2 + lk) * 3 + q).toNat : Nat) : Int) = (f * 2 + lk) * 3 + q := by omega
  rw [em, show ((f * 2 + lk) * 3 + q) % 3 = q by omega, show ((f * 2 + lk) * 3 + q) / 3 / 2 = f by omega, show ((f * 2 + lk) * 3 + q) / 3 % 2 = lk by omega] at e
  exact e
/-- what is offered, so far -/
def cn_OI (st od : Nat → Int) (u k : Int) : Int → Nat → Nat → Prop := fun f l r => cn_tri (fun k => st k = 1) f l r ∨ (f = 2 ∧ l = u.toNat ∧ r = 0) ∨ ∃ j : Nat, (j : Int) < k ∧ (f = 3 ∨ f = 4) ∧ ((l = u.toNat ∧ r = (od j).toNat) ∨ (l = (od j).toNat ∧ r = u.toNat))
theorem cn_OI_s {st od : Nat → Int} {u k : Int} {f : Int} {l r : Nat} (k0 : 0 ≤ k) (h : cn_OI st od u (k + 1) f l r) : cn_OI st od u k f l r ∨ ((f = 3 ∨ f = 4) ∧ ((l = u.toNat ∧ r = (od k.toNat).toNat) ∨ (l = (od k.toNat).toNat ∧ r = u.toNat))) := by
  rcases h with h | h | ⟨j, h1, h2⟩
  · exact Or.inl (Or.inl h)
  · exact Or.inl (Or.inr (Or.inl h))
  · by_cases c : (j : Int) = k
    · have e : k.toNat = j := by omega
      rw [e]
      exact Or.inr h2
    · exact Or.inl (Or.inr (Or.inr ⟨j, by omega, h2⟩))
theorem cn_OI_4 {O : Int → Nat → Nat → Prop} {st od : Nat → Int} {u k x : Int} (hO : ∀ f l r, cn_OI st od u k f l r → O f l r) (k0 : 0 ≤ k) (hx : x = od k.toNat) : ∀ f l r, cn_OI st od u (k + 1) f l r → cn_O1 (cn_O1 (cn_O1 (cn_O1 O 3 u x) 4 u x) 3 x u) 4 x u f l r := fun f l r h => by
  subst hx
  rcases cn_OI_s k0 h with q | ⟨q, w⟩
  · exact Or.inl (Or.inl (Or.inl (Or.inl (hO f l r q))))
  · rcases w with w | w
    · rcases q with q | q
      · exact Or.inl (Or.inl (Or.inl (Or.inr ⟨q, w⟩)))
      · exact Or.inl (Or.inl (Or.inr ⟨q, w⟩))
    · rcases q with q | q
      · exact Or.inl (Or.inr ⟨q, w⟩)
      · exact Or.inr ⟨q, w⟩
theorem cn_OI_2 {O : Int → Nat → Nat → Prop} {st od : Nat → Int} {u k x : Int} (hO : ∀ f l r, cn_OI st od u k f l r → O f l r) (k0 : 0 ≤ k) (hx : x = od k.toNat) (hu : x = u) : ∀ f l r, cn_OI st od u (k + 1) f l r → cn_O1 (cn_O1 O 3 u x) 4 u x f l r := fun f l r h => by
  rcases cn_OI_s k0 h with q | ⟨q, w⟩
  · exact Or.inl (Or.inl (hO f l r q))
  · have w : l = u.toNat ∧ r = x.toNat := by
      rw [← hx] at w
      rcases w with w | w
      · exact w
      · exact ⟨by rw [← hu]; exact w.1, by rw [hu]; exact w.2⟩
    rcases q with q | q
    · exact Or.inl (Or.inr ⟨q, w⟩)
    · exact Or.inr ⟨q, w⟩
theorem cn_OI_0 {st od : Nat → Int} {u : Int} : ∀ f l r, cn_OI st od u 0 f l r → cn_O1 (fun f l r => cn_tri (fun k => st k = 1) f l r) 2 u (-4) f l r := fun f l r h => by
  rcases h with h | h | ⟨j, h1, _⟩
  · exact Or.inl h
  · exact Or.inr h
  · exact absurd h1 (by omega)
theorem cn_OI_all {st od : Nat → Int} {u : Int} {n : Nat} (u0 : 0 ≤ u) (ho : ∀ k, k < 54 → y_wK st u.toNat 1 k = 1 → ∃ i, i < n ∧ od i = k) : ∀ f l r, cn_tri (fun k => y_wK st u.toNat 1 k = 1) f l r → cn_OI st od u n f l r := fun f l r t => by
  obtain ⟨a, b, c, d, e⟩ := t
  have ch := y_chx f
  have old : ∀ m, m ≠ u.toNat → y_wK st u.toNat 1 m = 1 → st m = 1 := fun m hm h => by rw [y_wK_o hm] at h; exact h
  by_cases c0 : y_ch f = 0
  · exact Or.inl ⟨a, fun z => absurd z (by omega), c, fun z => absurd z (by omega), e⟩
  · have bl := b (by omega)
    by_cases c1 : y_ch f = 1
    · have r0 := e (by omega)
      by_cases q : l = u.toNat
      · exact Or.inr (Or.inl ⟨by omega, q, r0⟩)
      · exact Or.inl ⟨a, fun z => ⟨bl.1, old l q bl.2⟩, c, fun z => absurd z (by omega), e⟩
    · have br := d (by omega)
      have f34 : f = 3 ∨ f = 4 := by omega
      by_cases q : l = u.toNat
      · obtain ⟨i, hi, ei⟩ := ho r br.1 br.2
        exact Or.inr (Or.inr ⟨i, by omega, f34, Or.inl ⟨q, by omega⟩⟩)
      · by_cases w : r = u.toNat
        · obtain ⟨i, hi, ei⟩ := ho l bl.1 bl.2
          exact Or.inr (Or.inr ⟨i, by omega, f34, Or.inr ⟨by omega, w⟩⟩)
        · exact Or.inl ⟨a, fun z => ⟨bl.1, old l q bl.2⟩, c, fun z => ⟨br.1, old r w br.2⟩, e⟩
theorem cn_of0 {S : Nat → Prop} {sz : Nat → Int} {f : Int} (h : f = 0 ∨ f = 1) : cn_ok S f (-4) (-4) ∧ 0 < 1 + cn_s sz (-4) + cn_s sz (-4) := by
  have ch := y_chx f
  refine ⟨⟨by omega, fun z => absurd z (by omega), fun _ => rfl, fun z => absurd z (by omega), fun _ => rfl⟩, ?_⟩
  rw [cn_s_n (by omega)]
  omega
theorem cn_of1 {S : Nat → Prop} {sz : Nat → Int} {u B : Int} (u0 : 0 ≤ u) (u1 : u < 54) (hS : S u.toNat) (hB : sz u.toNat = B) : cn_ok S 2 u (-4) ∧ B < 1 + cn_s sz u + cn_s sz (-4) := by
  have ch := y_chx 2
  refine ⟨⟨by omega, fun _ => ⟨u0, u1, hS⟩, fun z => absurd z (by omega), fun z => absurd z (by omega), fun _ => rfl⟩, ?_⟩
  rw [cn_s_n (x := -4) (by omega), cn_s_p u0 u1]
  omega
theorem cn_of2 {S : Nat → Prop} {sz : Nat → Int} {u x f B : Int} (hf : f = 3 ∨ f = 4) (u0 : 0 ≤ u) (u1 : u < 54) (hS : S u.toNat) (x0 : 0 ≤ x) (x1 : x < 54) (hx : S x.toNat) (zx : 0 ≤ sz x.toNat) (hB : sz u.toNat = B) : (cn_ok S f u x ∧ B < 1 + cn_s sz u + cn_s sz x) ∧ cn_ok S f x u ∧ B < 1 + cn_s sz x + cn_s sz u := by
  have ch := y_chx f
  rw [cn_s_p u0 u1, cn_s_p x0 x1]
  exact ⟨⟨⟨by omega, fun _ => ⟨u0, u1, hS⟩, fun z => absurd z (by omega), fun _ => ⟨x0, x1, hx⟩, fun z => absurd z (by omega)⟩, by omega⟩, ⟨by omega, fun _ => ⟨x0, x1, hx⟩, fun z => absurd z (by omega), fun _ => ⟨u0, u1, hS⟩, fun z => absurd z (by omega)⟩, by omega⟩
theorem cn_ST_od {σ : x_S} {c : Nat} {A : Nat → Int} {p : Int} {O : Int → Nat → Nat → Prop} {n : Nat} {B : Int} (h : cn_ST σ c A p O n B) {i : Nat} (hi : i < n) : 0 ≤ σ (c + 5) i ∧ σ (c + 5) i < 54 ∧ σ (c + 6) (σ (c + 5) i).toNat = 1 ∧ 0 ≤ σ (c + 4) (σ (c + 5) i).toNat := by
  have q := h.2.1.1 i hi
  have t := (cn_I_T h.1 (σ (c + 5) i).toNat (by omega) q.2.2).2.2.2
  exact ⟨q.1, q.2.1, q.2.2, by omega⟩
/-- a letter of a tree, by pointers -/
theorem cn_at_S {pf : Int → Nat → Nat → Nat} {S : Nat → Prop} {hd lf rt sz : Nat → Int} (T : cn_TS pf S hd lf rt sz) {t h n : Int} (t0 : 0 ≤ t) (t1 : t < 54) (tS : S t.toNat) (hn : sz t.toNat ≤ n) (n40 : n ≤ 40) (h1 : 1 ≤ h) (h2 : h < sz t.toNat) : (h - 1 < cn_s sz (lf t.toNat) → (0 ≤ lf t.toNat ∧ lf t.toNat < 54 ∧ S (lf t.toNat).toNat ∧ sz (lf t.toNat).toNat ≤ n - 1) ∧ h - 1 < sz (lf t.toNat).toNat ∧ cn_at (cn_LL hd lf rt t) h.toNat = cn_at (cn_LL hd lf rt (lf t.toNat)) (h - 1).toNat) ∧ (¬ h - 1 < cn_s sz (lf t.toNat) → (0 ≤ rt t.toNat ∧ rt t.toNat < 54 ∧ S (rt t.toNat).toNat ∧ sz (rt t.toNat).toNat ≤ n - 1) ∧ h - 1 - cn_s sz (lf t.toNat) < sz (rt t.toNat).toNat ∧ cn_at (cn_LL hd lf rt t) h.toNat = cn_at (cn_LL hd lf rt (rt t.toNat)) (h - 1 - cn_s sz (lf t.toNat)).toNat) := by
  have en := T t.toNat (by omega) tS
  have kd := cn_kid T en.1 (n := n) (by rw [← en.2.1]; exact hn) n40
  have z := en.2.1
  have mx := cn_mx (1 + cn_s sz (lf t.toNat) + cn_s sz (rt t.toNat))
  have nn : ∀ y, cn_vd S sz (n - 1) y → 0 ≤ cn_s sz y ∧ (0 < cn_s sz y → (0 ≤ y ∧ y < 54 ∧ S y.toNat ∧ sz y.toNat ≤ n - 1) ∧ cn_s sz y = sz y.toNat) := fun y w => by
    rcases w with w | ⟨w1, w2, w3, w4⟩
    · rw [cn_s_n (by omega)]; exact ⟨by omega, fun z => absurd z (by omega)⟩
    · rw [cn_s_p w1 w2]
      have := (T y.toNat (by omega) w3).2.2.2
      exact ⟨by omega, fun _ => ⟨⟨w1, w2, w3, w4⟩, rfl⟩⟩
  have nl := nn _ kd.1
  have nr := nn _ kd.2
  have len := cn_LL_l T 40 (lf t.toNat) (by omega) (cn_vd_m (by omega) kd.1)
  have eh : h.toNat = (h - 1).toNat + 1 := by omega
  rw [cn_LL_e T t0 t1 tS (by omega), eh, cn_at_s]
  constructor
  · intro c
    have v := nl.2 (by omega)
    exact ⟨v.1, by omega, cn_at_l (by omega)⟩
  · intro c
    have v := nr.2 (by omega)
    refine ⟨v.1, by omega, ?_⟩
    rw [show (h - 1).toNat = (cn_LL hd lf rt (lf t.toNat)).length + (h - 1 - cn_s sz (lf t.toNat)).toNat by omega]
    exact cn_at_r
/-- what the class has worked out is right -/
def cn_RC (σ : x_S) (c : Nat) (A : Nat → Int) (p : Int) : Prop := cn_R (cn_pf A p) (σ (c + 1)) (σ (c + 2)) (σ (c + 3)) (σ (c + 4)) (σ (c + 5)) (σ c 13)
theorem cn_RC_fr {σ τ : x_S} {c : Nat} {A : Nat → Int} {p : Int} (h : cn_RC σ c A p) (f : ∀ q m, (c ≤ q ∧ q ≤ c + 5 ∧ (q = c → m = 13)) → τ q m = σ q m) : cn_RC τ c A p := by
  have e : ∀ q, c + 1 ≤ q → q ≤ c + 5 → τ q = σ q := fun q h1 h2 => funext fun m => f q m ⟨by omega, h2, fun z => absurd z (by omega)⟩
  unfold cn_RC at h ⊢
  rw [e (c + 1) (by omega) (by omega), e (c + 2) (by omega) (by omega), e (c + 3) (by omega) (by omega), e (c + 4) (by omega) (by omega), e (c + 5) (by omega) (by omega), f c 13 ⟨by omega, by omega, fun _ => rfl⟩]
  exact h
/-- what the class holds for worked out is right -/
def cn_CR (σ : x_S) (A : Nat → Int) : Prop := (σ 111 14 = 1 → cn_RC σ 111 A 0) ∧ (σ 124 14 = 1 → cn_RC σ 124 A 1)
theorem kx_110_111_4_b7 {E : q_E} {σ : x_S} {Q : Option q_V → x_S → Prop} (C0 : y_CI σ) {A : Nat → Int} (hP : y_PI A) (h4 : y_PG σ 4 A) (k : ∀ τ, y_CI τ → (∀ q m, (q < 111 ∨ 123 < q ∨ (q = 111 ∧ m ≠ 13)) → τ q m = σ q m) → τ 111 13 = 0 → cn_ST τ 111 A 0 (fun _ _ _ => False) 0 0 → Q none τ) : ∀ (N : Nat) (i : Int) (τ : x_S), (30 - i).toNat = N → 0 ≤ i → i ≤ 30 → y_CI τ → (∀ q m, (q < 111 ∨ 123 < q ∨ (q = 111 ∧ m ≠ 13)) → τ q m = σ q m) → τ 111 13 = 0 → (∀ m : Nat, (m : Int) < 54 → τ 115 m = 0) → (∀ m : Nat, (m : Int) < 54 → τ 117 m = 0) → (∀ r : Nat, (r : Int) < A 62 → A (63 + 12 * r) = 0 → cn_ct A 0 r (τ 121 r) (τ 122 r)) → (∀ m : Nat, (m : Int) < i → τ 120 m = y_sel A 0 ((m : Int) % 3) ((m : Int) / 3 / 2) ((m : Int) / 3 % 2) (A 62).toNat) → x_G E m_110 Q (t_110 7) [(0, x_R 111), (1, x_R 4), (2, x_I i)] [] τ := by
  intro N
  induction N using Nat.strongRecOn with
  | ind N ih =>
    intro i τ hN i1 i2 C fr m0 rz4 rz6 rr h9
    refine x_blk (b := 7) (a_110 E) rfl ?_
    unfold b_110_7
    refine x_iload rfl ?_
    refine x_aload rfl ?_
    refine x_getR (r := 111) rfl (by decide) (by decide) rfl ?_
    refine x_lenG (n := 30) (L := 30) rfl (by decide) rfl (by decide) rfl ?_
    refine x_icmp_ge (by omega) (by omega) (by omega) (by omega) (fun z1 => ?_) (fun z1 => ?_)
    · skip
      refine x_aload rfl ?_
      refine x_getR (r := 111) rfl (by decide) (by decide) rfl ?_
      refine x_iload rfl ?_
      refine x_aload rfl ?_
      refine x_aload rfl ?_
      refine x_getIG y_f111_0 C ?_
      intro g2a g2b
      refine x_iload rfl ?_
      refine x_push 3 rfl ?_
      refine x_irem (by omega) (by omega) (by omega) (by omega) ?_
      refine x_iload rfl ?_
      refine x_push 3 rfl ?_
      refine x_idiv (by omega) (by omega) (by omega) (by omega) ?_
      refine x_push 2 rfl ?_
      refine x_idiv (by omega) (by omega) (by omega) (by omega) ?_
      refine x_iload rfl ?_
      refine x_push 3 rfl ?_
      refine x_idiv (by omega) (by omega) (by omega) (by omega) ?_
      refine x_push 2 rfl ?_
      refine x_irem (by omega) (by omega) (by omega) (by omega) ?_
      refine x_cV (fun _ => rfl) rfl (by decide) (Nat.le_of_ble_eq_true rfl) ?_
      have p0 : τ 111 0 = 0 := by omega
      have ch : τ 10 (((0 * 3 + i % 3) * 5 + i / 3 / 2) * 3 + i / 3 % 2).toNat = y_sel A 0 (i % 3) (i / 3 / 2) (i / 3 % 2) (A 62).toNat := (fr 10 _ (by omega)).trans (cn_chs h4.2 (by omega) (by omega) (by omega) (by omega) (by omega) (by omega) (by omega) (by omega))
      refine kx_46_4 (by omega) (by omega) (by omega) (by omega) (by omega) (by omega) (by omega) (by omega) C (fun v3 v3a v3b v3c => ?_)
      rw [p0] at v3c
      have tv : v3 = y_sel A 0 (i % 3) (i / 3 / 2) (i / 3 % 2) (A 62).toNat := by omega
      refine x_astG y_a120 C (by decide) (y_fr_rf (lo := 0) (hi := 138)) (by omega) (by omega) (by omega) (by omega) (fun S4 e4 C4 F4 => ?_)
      refine x_iinc 1 rfl rfl ?_
      refine x_goto ?_
      refine x_G_lo (lo' := [(0, x_R 111), (1, x_R 4), (2, x_I _)]) ⟨rfl, rfl, rfl, trivial⟩ ?_
      refine ih _ (by omega) _ _ rfl (by omega) (by omega) C4 (fun q m h => (x_up_nr e4 (by omega)).trans (fr q m h)) ((x_up_nr e4 (by decide)).trans m0) (fun m hm => (x_up_nr e4 (by decide)).trans (rz4 m hm)) (fun m hm => (x_up_nr e4 (by decide)).trans (rz6 m hm)) (fun r h1 h2 => by rw [x_up_nr e4 (by decide), x_up_nr e4 (by decide)]; exact rr r h1 h2) (fun m hm => ?_)
      by_cases e : (m : Int) = i
      · rw [show m = i.toNat by omega, x_up_at e4, show ((i.toNat : Nat) : Int) = i by omega]; exact tv
      · rw [x_up_ne e4 (fun z => e (by omega))]; exact h9 m (by omega)
    · skip
      refine x_blk (b := 6) (a_110 E) rfl ?_
      unfold b_110_6
      refine x_vret ?_
      exact k _ C fr m0 (cn_ST_0 (fun m hm => rz4 m (by omega)) (fun m hm => rz6 m (by omega)) (cn_WO_mk (fun m hm => h9 m (by omega)) rr))
theorem kx_110_111_4_b5 {E : q_E} {σ : x_S} {Q : Option q_V → x_S → Prop} (C0 : y_CI σ) {A : Nat → Int} (hP : y_PI A) (h4 : y_PG σ 4 A) (k : ∀ τ, y_CI τ → (∀ q m, (q < 111 ∨ 123 < q ∨ (q = 111 ∧ m ≠ 13)) → τ q m = σ q m) → τ 111 13 = 0 → cn_ST τ 111 A 0 (fun _ _ _ => False) 0 0 → Q none τ) : ∀ (N : Nat) (i : Int) (τ : x_S), (16 - i).toNat = N → 0 ≤ i → i ≤ 16 → y_CI τ → (∀ q m, (q < 111 ∨ 123 < q ∨ (q = 111 ∧ m ≠ 13)) → τ q m = σ q m) → τ 111 13 = 0 → (∀ m : Nat, (m : Int) < 54 → τ 115 m = 0) → (∀ m : Nat, (m : Int) < 54 → τ 117 m = 0) → (∀ r : Nat, (r : Int) < i → (r : Int) < A 62 → A (63 + 12 * r) = 0 → cn_ct A 0 r (τ 121 r) (τ 122 r)) → x_G E m_110 Q (t_110 5) [(0, x_R 111), (1, x_R 4), (2, x_I i)] [] τ := by
  intro N
  induction N using Nat.strongRecOn with
  | ind N ih =>
    intro i τ hN i1 i2 C fr m0 rz4 rz6 rr
    refine x_blk (b := 5) (a_110 E) rfl ?_
    unfold b_110_5
    refine x_iload rfl ?_
    refine x_push 16 rfl ?_
    refine x_icmp_ge (by omega) (by omega) (by omega) (by omega) (fun z1 => ?_) (fun z1 => ?_)
    · skip
      refine x_aload rfl ?_
      refine x_iload rfl ?_
      refine x_cV (fun _ => rfl) rfl (by decide) (Nat.le_of_ble_eq_true rfl) ?_
      have n6 : τ 4 6 = A 62 := (fr 4 6 (by omega)).trans (y_PG_n h4.1)
      refine kx_60_4 (by omega) (by omega) C (fun y2 => ?_) (fun y2 => ?_)
      · skip
        refine x_if_eq (by omega) (by omega) (fun z => absurd z (by omega)) (fun z3 => ?_)
        refine x_aload rfl ?_
        refine x_iload rfl ?_
        refine x_push 0 rfl ?_
        refine x_cV (fun _ => rfl) rfl (by decide) (Nat.le_of_ble_eq_true rfl) ?_
        have rl := cn_rl (r := i.toNat) hP (by omega)
        have t9 : τ 9 (i * 12 + 0).toNat = σ 9 (i * 12 + 0).toNat := fr 9 _ (by omega)
        refine kx_6_4 (by omega) (by omega) (by omega) (by omega) C (fun v4 v4a v4b v4c => ?_)
        have px : v4 = A (63 + 12 * i.toNat) := by
          have q := y_PG_w h4.1 (r := i.toNat) (c := 0) (by omega) (by omega)
          rw [show 63 + 12 * i.toNat + 0 = 63 + 12 * i.toNat by omega] at q
          rw [← q]
          show _ = σ 9 _
          rw [show 12 * i.toNat + 0 = (i * 12 + 0).toNat by omega]
          omega
        refine x_aload rfl ?_
        refine x_getIG y_f111_0 C ?_
        intro g5a g5b
        refine x_icmp_ne (by omega) (by omega) (by omega) (by omega) (fun z6 => ?_) (fun z6 => ?_)
        · skip
          refine x_aload rfl ?_
          refine x_aload rfl ?_
          refine x_iload rfl ?_
          refine x_cV (fun _ => rfl) rfl (by decide) (Nat.le_of_ble_eq_true rfl) ?_
          have hA2 : y_AG (y_cv τ 4) A := by rw [cn_cv (fun q m _ _ => fr q m (by omega))]; exact h4.1
          refine kx_65_111_4 (by omega) C hP hA2 (by omega) (fun S7 C7 f7 w7 ct7 => ?_)
          refine x_fall ?_
          refine x_blk (b := 4) (a_110 E) rfl ?_
          unfold b_110_4
          refine x_iinc 1 rfl rfl ?_
          refine x_goto ?_
          refine x_G_lo (lo' := [(0, x_R 111), (1, x_R 4), (2, x_I _)]) ⟨rfl, rfl, rfl, trivial⟩ ?_
          refine ih _ (by omega) _ _ rfl (by omega) (by omega) C7 (fun q m h => (f7 q m (by omega) (by omega) (by omega)).trans (fr q m h)) ((f7 _ _ (by decide) (by decide) (by decide)).trans m0) (fun m hm => (f7 _ _ (by decide) (by decide) (by decide)).trans (rz4 m hm)) (fun m hm => (f7 _ _ (by decide) (by decide) (by decide)).trans (rz6 m hm)) (fun r h1 h2 h3 => ?_)
          by_cases e : (r : Int) = i
          · rw [show r = i.toNat by omega]; exact ct7
          · rw [(w7 r (by omega)).1, (w7 r (by omega)).2]; exact rr r (by omega) h2 h3
        · skip
          refine x_blk (b := 4) (a_110 E) rfl ?_
          unfold b_110_4
          refine x_iinc 1 rfl rfl ?_
          refine x_goto ?_
          refine x_G_lo (lo' := [(0, x_R 111), (1, x_R 4), (2, x_I _)]) ⟨rfl, rfl, rfl, trivial⟩ ?_
          refine ih _ (by omega) _ _ rfl (by omega) (by omega) C fr m0 rz4 rz6 (fun r h1 h2 h3 => ?_)
          by_cases e : (r : Int) = i
          · have e3 : i.toNat = r := by omega
            rw [e3] at px
            exact absurd h3 (by omega)
          · exact rr r (by omega) h2 h3
      · skip
        refine x_if_eq (by omega) (by omega) (fun z8 => ?_) (fun z => absurd (by omega) z)
        refine x_blk (b := 4) (a_110 E) rfl ?_
        unfold b_110_4
        refine x_iinc 1 rfl rfl ?_
        refine x_goto ?_
        refine x_G_lo (lo' := [(0, x_R 111), (1, x_R 4), (2, x_I _)]) ⟨rfl, rfl, rfl, trivial⟩ ?_
        refine ih _ (by omega) _ _ rfl (by omega) (by omega) C fr m0 rz4 rz6 (fun r h1 h2 h3 => rr r (by omega) h2 h3)
    · skip
      refine x_blk (b := 3) (a_110 E) rfl ?_
      unfold b_110_3
      refine x_push 0 rfl ?_
      refine x_istore ?_
      refine x_fall ?_
      refine x_G_lo (lo' := [(0, x_R 111), (1, x_R 4), (2, x_I _)]) ⟨rfl, rfl, rfl, trivial⟩ ?_
      have r16 := hP.2.2.2.1
      exact kx_110_111_4_b7 C0 hP h4 k _ 0 _ rfl (by omega) (by omega) C fr m0 rz4 rz6 (fun r h1 h2 => rr r (by omega) h1 h2) (fun m hm => absurd hm (by omega))
theorem kx_110_111_4_b2 {E : q_E} {σ : x_S} {Q : Option q_V → x_S → Prop} (C0 : y_CI σ) {A : Nat → Int} (hP : y_PI A) (h4 : y_PG σ 4 A) (k : ∀ τ, y_CI τ → (∀ q m, (q < 111 ∨ 123 < q ∨ (q = 111 ∧ m ≠ 13)) → τ q m = σ q m) → τ 111 13 = 0 → cn_ST τ 111 A 0 (fun _ _ _ => False) 0 0 → Q none τ) : ∀ (N : Nat) (i : Int) (τ : x_S), (54 - i).toNat = N → 0 ≤ i → i ≤ 54 → y_CI τ → (∀ q m, (q < 111 ∨ 123 < q ∨ (q = 111 ∧ m ≠ 13)) → τ q m = σ q m) → τ 111 13 = 0 → (∀ m : Nat, (m : Int) < 54 → τ 115 m = 0) → (∀ m : Nat, (m : Int) < i → τ 117 m = 0) → x_G E m_110 Q (t_110 2) [(0, x_R 111), (1, x_R 4), (2, x_I i)] [] τ := by
  intro N
  induction N using Nat.strongRecOn with
  | ind N ih =>
    intro i τ hN i1 i2 C fr m0 rz4 rz6
    refine x_blk (b := 2) (a_110 E) rfl ?_
    unfold b_110_2
    refine x_iload rfl ?_
    refine x_push 54 rfl ?_
    refine x_icmp_ge (by omega) (by omega) (by omega) (by omega) (fun z1 => ?_) (fun z1 => ?_)
    · skip
      refine x_aload rfl ?_
      refine x_getR (r := 111) rfl (by decide) (by decide) rfl ?_
      refine x_iload rfl ?_
      refine x_push 0 rfl ?_
      refine x_astZG y_a117 C (by decide) (y_fr_rf (lo := 0) (hi := 138)) (by omega) (by omega) (by omega) (by omega) (fun S2 e2 C2 F2 => ?_)
      refine x_iinc 1 rfl rfl ?_
      refine x_goto ?_
      refine x_G_lo (lo' := [(0, x_R 111), (1, x_R 4), (2, x_I _)]) ⟨rfl, rfl, rfl, trivial⟩ ?_
      refine ih _ (by omega) _ _ rfl (by omega) (by omega) C2 (fun q m h => (x_up_nr e2 (by omega)).trans (fr q m h)) ((x_up_nr e2 (by decide)).trans m0) (fun m hm => (x_up_nr e2 (by decide)).trans (rz4 m hm)) (fun m hm => ?_)
      by_cases e : (m : Int) = i
      · rw [show m = i.toNat by omega]; exact x_up_at e2
      · rw [x_up_ne e2 (fun z => e (by omega))]; exact rz6 m (by omega)
    · skip
      refine x_blk (b := 1) (a_110 E) rfl ?_
      unfold b_110_1
      refine x_push 0 rfl ?_
      refine x_istore ?_
      refine x_fall ?_
      refine x_G_lo (lo' := [(0, x_R 111), (1, x_R 4), (2, x_I _)]) ⟨rfl, rfl, rfl, trivial⟩ ?_
      exact kx_110_111_4_b5 C0 hP h4 k _ 0 _ rfl (by omega) (by omega) C fr m0 rz4 (fun m hm => rz6 m (by omega)) (fun r hr => absurd hr (by omega))
theorem kx_110_111_4 {E : q_E} {σ : x_S} {Q : Option q_V → x_S → Prop} (C0 : y_CI σ) {A : Nat → Int} (hP : y_PI A) (h4 : y_PG σ 4 A) (k : ∀ τ, y_CI τ → (∀ q m, (q < 111 ∨ 123 < q ∨ (q = 111 ∧ m ≠ 13)) → τ q m = σ q m) → τ 111 13 = 0 → cn_ST τ 111 A 0 (fun _ _ _ => False) 0 0 → Q none τ) : x_P E 110 [x_R 111, x_R 4] σ Q := by
  refine x_Mt e_110 (h_110 E) (Nat.le_of_ble_eq_true rfl) t_110 rfl ?_
  refine x_blk (b := 0) (a_110 E) rfl ?_
  unfold b_110_0
  refine x_aload rfl ?_
  refine x_push 0 rfl ?_
  refine x_putIG y_f111_13 ⟨by decide, rfl⟩ (by decide) C0 (by decide) (y_fr_rf (lo := 0) (hi := 138)) (by omega) (by omega) (fun S1 e1 C1 F1 => ?_)
  refine x_aload rfl ?_
  refine x_getR (r := 111) rfl (by decide) (by decide) rfl ?_
  refine x_push 0 rfl ?_
  refine x_cS (fun _ => rfl) (Nat.le_of_ble_eq_true rfl) ?_
  refine ke_27 y_a115 (by decide) (by decide) C1 (fun S2 C2 f2 w2 => ?_)
  refine x_push 0 rfl ?_
  refine x_istore ?_
  refine x_fall ?_
  refine x_G_lo (lo' := [(0, x_R 111), (1, x_R 4), (2, x_I _)]) ⟨rfl, rfl, rfl, trivial⟩ ?_
  refine kx_110_111_4_b2 C0 hP h4 k _ 0 _ rfl (by omega) (by omega) C2 (fun q m h => (f2 q m (by omega)).trans (x_up_ne e1 (fun z => by omega))) ((f2 111 13 (by decide)).trans (x_up_at e1)) (fun m hm => w2 m (by omega)) (fun m hm => absurd hm (by omega))
theorem kx_110_124_4_b7 {E : q_E} {σ : x_S} {Q : Option q_V → x_S → Prop} (C0 : y_CI σ) {A : Nat → Int} (hP : y_PI A) (h4 : y_PG σ 4 A) (k : ∀ τ, y_CI τ → (∀ q m, (q < 124 ∨ 136 < q ∨ (q = 124 ∧ m ≠ 13)) → τ q m = σ q m) → τ 124 13 = 0 → cn_ST τ 124 A 1 (fun _ _ _ => False) 0 0 → Q none τ) : ∀ (N : Nat) (i : Int) (τ : x_S), (30 - i).toNat = N → 0 ≤ i → i ≤ 30 → y_CI τ → (∀ q m, (q < 124 ∨ 136 < q ∨ (q = 124 ∧ m ≠ 13)) → τ q m = σ q m) → τ 124 13 = 0 → (∀ m : Nat, (m : Int) < 54 → τ 128 m = 0) → (∀ m : Nat, (m : Int) < 54 → τ 130 m = 0) → (∀ r : Nat, (r : Int) < A 62 → A (63 + 12 * r) = 1 → cn_ct A 1 r (τ 134 r) (τ 135 r)) → (∀ m : Nat, (m : Int) < i → τ 133 m = y_sel A 1 ((m : Int) % 3) ((m : Int) / 3 / 2) ((m : Int) / 3 % 2) (A 62).toNat) → x_G E m_110 Q (t_110 7) [(0, x_R 124), (1, x_R 4), (2, x_I i)] [] τ := by
  intro N
  induction N using Nat.strongRecOn with
  | ind N ih =>
    intro i τ hN i1 i2 C fr m0 rz4 rz6 rr h9
    refine x_blk (b := 7) (a_110 E) rfl ?_
    unfold b_110_7
    refine x_iload rfl ?_
    refine x_aload rfl ?_
    refine x_getR (r := 124) rfl (by decide) (by decide) rfl ?_
    refine x_lenG (n := 30) (L := 30) rfl (by decide) rfl (by decide) rfl ?_
    refine x_icmp_ge (by omega) (by omega) (by omega) (by omega) (fun z1 => ?_) (fun z1 => ?_)
    · skip
      refine x_aload rfl ?_
      refine x_getR (r := 124) rfl (by decide) (by decide) rfl ?_
      refine x_iload rfl ?_
      refine x_aload rfl ?_
      refine x_aload rfl ?_
      refine x_getIG y_f124_0 C ?_
      intro g2a g2b
      refine x_iload rfl ?_
      refine x_push 3 rfl ?_
      refine x_irem (by omega) (by omega) (by omega) (by omega) ?_
      refine x_iload rfl ?_
      refine x_push 3 rfl ?_
      refine x_idiv (by omega) (by omega) (by omega) (by omega) ?_
      refine x_push 2 rfl ?_
      refine x_idiv (by omega) (by omega) (by omega) (by omega) ?_
      refine x_iload rfl ?_
      refine x_push 3 rfl ?_
      refine x_idiv (by omega) (by omega) (by omega) (by omega) ?_
      refine x_push 2 rfl ?_
      refine x_irem (by omega) (by omega) (by omega) (by omega) ?_
      refine x_cV (fun _ => rfl) rfl (by decide) (Nat.le_of_ble_eq_true rfl) ?_
      have p0 : τ 124 0 = 1 := by omega
      have ch : τ 10 (((1 * 3 + i % 3) * 5 + i / 3 / 2) * 3 + i / 3 % 2).toNat = y_sel A 1 (i % 3) (i / 3 / 2) (i / 3 % 2) (A 62).toNat := (fr 10 _ (by omega)).trans (cn_chs h4.2 (by omega) (by omega) (by omega) (by omega) (by omega) (by omega) (by omega) (by omega))
      refine kx_46_4 (by omega) (by omega) (by omega) (by omega) (by omega) (by omega) (by omega) (by omega) C (fun v3 v3a v3b v3c => ?_)
      rw [p0] at v3c
      have tv : v3 = y_sel A 1 (i % 3) (i / 3 / 2) (i / 3 % 2) (A 62).toNat := by omega
      refine x_astG y_a133 C (by decide) (y_fr_rf (lo := 0) (hi := 138)) (by omega) (by omega) (by omega) (by omega) (fun S4 e4 C4 F4 => ?_)
      refine x_iinc 1 rfl rfl ?_
      refine x_goto ?_
      refine x_G_lo (lo' := [(0, x_R 124), (1, x_R 4), (2, x_I _)]) ⟨rfl, rfl, rfl, trivial⟩ ?_
      refine ih _ (by omega) _ _ rfl (by omega) (by omega) C4 (fun q m h => (x_up_nr e4 (by omega)).trans (fr q m h)) ((x_up_nr e4 (by decide)).trans m0) (fun m hm => (x_up_nr e4 (by decide)).trans (rz4 m hm)) (fun m hm => (x_up_nr e4 (by decide)).trans (rz6 m hm)) (fun r h1 h2 => by rw [x_up_nr e4 (by decide), x_up_nr e4 (by decide)]; exact rr r h1 h2) (fun m hm => ?_)
      by_cases e : (m : Int) = i
      · rw [show m = i.toNat by omega, x_up_at e4, show ((i.toNat : Nat) : Int) = i by omega]; exact tv
      · rw [x_up_ne e4 (fun z => e (by omega))]; exact h9 m (by omega)
    · skip
      refine x_blk (b := 6) (a_110 E) rfl ?_
      unfold b_110_6
      refine x_vret ?_
      exact k _ C fr m0 (cn_ST_0 (fun m hm => rz4 m (by omega)) (fun m hm => rz6 m (by omega)) (cn_WO_mk (fun m hm => h9 m (by omega)) rr))
theorem kx_110_124_4_b5 {E : q_E} {σ : x_S} {Q : Option q_V → x_S → Prop} (C0 : y_CI σ) {A : Nat → Int} (hP : y_PI A) (h4 : y_PG σ 4 A) (k : ∀ τ, y_CI τ → (∀ q m, (q < 124 ∨ 136 < q ∨ (q = 124 ∧ m ≠ 13)) → τ q m = σ q m) → τ 124 13 = 0 → cn_ST τ 124 A 1 (fun _ _ _ => False) 0 0 → Q none τ) : ∀ (N : Nat) (i : Int) (τ : x_S), (16 - i).toNat = N → 0 ≤ i → i ≤ 16 → y_CI τ → (∀ q m, (q < 124 ∨ 136 < q ∨ (q = 124 ∧ m ≠ 13)) → τ q m = σ q m) → τ 124 13 = 0 → (∀ m : Nat, (m : Int) < 54 → τ 128 m = 0) → (∀ m : Nat, (m : Int) < 54 → τ 130 m = 0) → (∀ r : Nat, (r : Int) < i → (r : Int) < A 62 → A (63 + 12 * r) = 1 → cn_ct A 1 r (τ 134 r) (τ 135 r)) → x_G E m_110 Q (t_110 5) [(0, x_R 124), (1, x_R 4), (2, x_I i)] [] τ := by
  intro N
  induction N using Nat.strongRecOn with
  | ind N ih =>
    intro i τ hN i1 i2 C fr m0 rz4 rz6 rr
    refine x_blk (b := 5) (a_110 E) rfl ?_
    unfold b_110_5
    refine x_iload rfl ?_
    refine x_push 16 rfl ?_
    refine x_icmp_ge (by omega) (by omega) (by omega) (by omega) (fun z1 => ?_) (fun z1 => ?_)
    · skip
      refine x_aload rfl ?_
      refine x_iload rfl ?_
      refine x_cV (fun _ => rfl) rfl (by decide) (Nat.le_of_ble_eq_true rfl) ?_
      have n6 : τ 4 6 = A 62 := (fr 4 6 (by omega)).trans (y_PG_n h4.1)
      refine kx_60_4 (by omega) (by omega) C (fun y2 => ?_) (fun y2 => ?_)
      · skip
        refine x_if_eq (by omega) (by omega) (fun z => absurd z (by omega)) (fun z3 => ?_)
        refine x_aload rfl ?_
        refine x_iload rfl ?_
        refine x_push 0 rfl ?_
        refine x_cV (fun _ => rfl) rfl (by decide) (Nat.le_of_ble_eq_true rfl) ?_
        have rl := cn_rl (r := i.toNat) hP (by omega)
        have t9 : τ 9 (i * 12 + 0).toNat = σ 9 (i * 12 + 0).toNat := fr 9 _ (by omega)
        refine kx_6_4 (by omega) (by omega) (by omega) (by omega) C (fun v4 v4a v4b v4c => ?_)
        have px : v4 = A (63 + 12 * i.toNat) := by
          have q := y_PG_w h4.1 (r := i.toNat) (c := 0) (by omega) (by omega)
          rw [show 63 + 12 * i.toNat + 0 = 63 + 12 * i.toNat by omega] at q
          rw [← q]
          show _ = σ 9 _
          rw [show 12 * i.toNat + 0 = (i * 12 + 0).toNat by omega]
          omega
        refine x_aload rfl ?_
        refine x_getIG y_f124_0 C ?_
        intro g5a g5b
        refine x_icmp_ne (by omega) (by omega) (by omega) (by omega) (fun z6 => ?_) (fun z6 => ?_)
        · skip
          refine x_aload rfl ?_
          refine x_aload rfl ?_
          refine x_iload rfl ?_
          refine x_cV (fun _ => rfl) rfl (by decide) (Nat.le_of_ble_eq_true rfl) ?_
          have hA2 : y_AG (y_cv τ 4) A := by rw [cn_cv (fun q m _ _ => fr q m (by omega))]; exact h4.1
          refine kx_65_124_4 (by omega) C hP hA2 (by omega) (fun S7 C7 f7 w7 ct7 => ?_)
          refine x_fall ?_
          refine x_blk (b := 4) (a_110 E) rfl ?_
          unfold b_110_4
          refine x_iinc 1 rfl rfl ?_
          refine x_goto ?_
          refine x_G_lo (lo' := [(0, x_R 124), (1, x_R 4), (2, x_I _)]) ⟨rfl, rfl, rfl, trivial⟩ ?_
          refine ih _ (by omega) _ _ rfl (by omega) (by omega) C7 (fun q m h => (f7 q m (by omega) (by omega) (by omega)).trans (fr q m h)) ((f7 _ _ (by decide) (by decide) (by decide)).trans m0) (fun m hm => (f7 _ _ (by decide) (by decide) (by decide)).trans (rz4 m hm)) (fun m hm => (f7 _ _ (by decide) (by decide) (by decide)).trans (rz6 m hm)) (fun r h1 h2 h3 => ?_)
          by_cases e : (r : Int) = i
          · rw [show r = i.toNat by omega]; exact ct7
          · rw [(w7 r (by omega)).1, (w7 r (by omega)).2]; exact rr r (by omega) h2 h3
        · skip
          refine x_blk (b := 4) (a_110 E) rfl ?_
          unfold b_110_4
          refine x_iinc 1 rfl rfl ?_
          refine x_goto ?_
          refine x_G_lo (lo' := [(0, x_R 124), (1, x_R 4), (2, x_I _)]) ⟨rfl, rfl, rfl, trivial⟩ ?_
          refine ih _ (by omega) _ _ rfl (by omega) (by omega) C fr m0 rz4 rz6 (fun r h1 h2 h3 => ?_)
          by_cases e : (r : Int) = i
          · have e3 : i.toNat = r := by omega
            rw [e3] at px
            exact absurd h3 (by omega)
          · exact rr r (by omega) h2 h3
      · skip
        refine x_if_eq (by omega) (by omega) (fun z8 => ?_) (fun z => absurd (by omega) z)
        refine x_blk (b := 4) (a_110 E) rfl ?_
        unfold b_110_4
        refine x_iinc 1 rfl rfl ?_
        refine x_goto ?_
        refine x_G_lo (lo' := [(0, x_R 124), (1, x_R 4), (2, x_I _)]) ⟨rfl, rfl, rfl, trivial⟩ ?_
        refine ih _ (by omega) _ _ rfl (by omega) (by omega) C fr m0 rz4 rz6 (fun r h1 h2 h3 => rr r (by omega) h2 h3)
    · skip
      refine x_blk (b := 3) (a_110 E) rfl ?_
      unfold b_110_3
      refine x_push 0 rfl ?_
      refine x_istore ?_
      refine x_fall ?_
      refine x_G_lo (lo' := [(0, x_R 124), (1, x_R 4), (2, x_I _)]) ⟨rfl, rfl, rfl, trivial⟩ ?_
      have r16 := hP.2.2.2.1
      exact kx_110_124_4_b7 C0 hP h4 k _ 0 _ rfl (by omega) (by omega) C fr m0 rz4 rz6 (fun r h1 h2 => rr r (by omega) h1 h2) (fun m hm => absurd hm (by omega))
theorem kx_110_124_4_b2 {E : q_E} {σ : x_S} {Q : Option q_V → x_S → Prop} (C0 : y_CI σ) {A : Nat → Int} (hP : y_PI A) (h4 : y_PG σ 4 A) (k : ∀ τ, y_CI τ → (∀ q m, (q < 124 ∨ 136 < q ∨ (q = 124 ∧ m ≠ 13)) → τ q m = σ q m) → τ 124 13 = 0 → cn_ST τ 124 A 1 (fun _ _ _ => False) 0 0 → Q none τ) : ∀ (N : Nat) (i : Int) (τ : x_S), (54 - i).toNat = N → 0 ≤ i → i ≤ 54 → y_CI τ → (∀ q m, (q < 124 ∨ 136 < q ∨ (q = 124 ∧ m ≠ 13)) → τ q m = σ q m) → τ 124 13 = 0 → (∀ m : Nat, (m : Int) < 54 → τ 128 m = 0) → (∀ m : Nat, (m : Int) < i → τ 130 m = 0) → x_G E m_110 Q (t_110 2) [(0, x_R 124), (1, x_R 4), (2, x_I i)] [] τ := by
  intro N
  induction N using Nat.strongRecOn with
  | ind N ih =>
    intro i τ hN i1 i2 C fr m0 rz4 rz6
    refine x_blk (b := 2) (a_110 E) rfl ?_
    unfold b_110_2
    refine x_iload rfl ?_
    refine x_push 54 rfl ?_
    refine x_icmp_ge (by omega) (by omega) (by omega) (by omega) (fun z1 => ?_) (fun z1 => ?_)
    · skip
      refine x_aload rfl ?_
      refine x_getR (r := 124) rfl (by decide) (by decide) rfl ?_
      refine x_iload rfl ?_
      refine x_push 0 rfl ?_
      refine x_astZG y_a130 C (by decide) (y_fr_rf (lo := 0) (hi := 138)) (by omega) (by omega) (by omega) (by omega) (fun S2 e2 C2 F2 => ?_)
      refine x_iinc 1 rfl rfl ?_
      refine x_goto ?_
      refine x_G_lo (lo' := [(0, x_R 124), (1, x_R 4), (2, x_I _)]) ⟨rfl, rfl, rfl, trivial⟩ ?_
      refine ih _ (by omega) _ _ rfl (by omega) (by omega) C2 (fun q m h => (x_up_nr e2 (by omega)).trans (fr q m h)) ((x_up_nr e2 (by decide)).trans m0) (fun m hm => (x_up_nr e2 (by decide)).trans (rz4 m hm)) (fun m hm => ?_)
      by_cases e : (m : Int) = i
      · rw [show m = i.toNat by omega]; exact x_up_at e2
      · rw [x_up_ne e2 (fun z => e (by omega))]; exact rz6 m (by omega)
    · skip
      refine x_blk (b := 1) (a_110 E) rfl ?_
      unfold b_110_1
      refine x_push 0 rfl ?_
      refine x_istore ?_
      refine x_fall ?_
      refine x_G_lo (lo' := [(0, x_R 124), (1, x_R 4), (2, x_I _)]) ⟨rfl, rfl, rfl, trivial⟩ ?_
      exact kx_110_124_4_b5 C0 hP h4 k _ 0 _ rfl (by omega) (by omega) C fr m0 rz4 (fun m hm => rz6 m (by omega)) (fun r hr => absurd hr (by omega))
theorem kx_110_124_4 {E : q_E} {σ : x_S} {Q : Option q_V → x_S → Prop} (C0 : y_CI σ) {A : Nat → Int} (hP : y_PI A) (h4 : y_PG σ 4 A) (k : ∀ τ, y_CI τ → (∀ q m, (q < 124 ∨ 136 < q ∨ (q = 124 ∧ m ≠ 13)) → τ q m = σ q m) → τ 124 13 = 0 → cn_ST τ 124 A 1 (fun _ _ _ => False) 0 0 → Q none τ) : x_P E 110 [x_R 124, x_R 4] σ Q := by
  refine x_Mt e_110 (h_110 E) (Nat.le_of_ble_eq_true rfl) t_110 rfl ?_
  refine x_blk (b := 0) (a_110 E) rfl ?_
  unfold b_110_0
  refine x_aload rfl ?_
  refine x_push 0 rfl ?_
  refine x_putIG y_f124_13 ⟨by decide, rfl⟩ (by decide) C0 (by decide) (y_fr_rf (lo := 0) (hi := 138)) (by omega) (by omega) (fun S1 e1 C1 F1 => ?_)
  refine x_aload rfl ?_
  refine x_getR (r := 124) rfl (by decide) (by decide) rfl ?_
  refine x_push 0 rfl ?_
  refine x_cS (fun _ => rfl) (Nat.le_of_ble_eq_true rfl) ?_
  refine ke_27 y_a128 (by decide) (by decide) C1 (fun S2 C2 f2 w2 => ?_)
  refine x_push 0 rfl ?_
  refine x_istore ?_
  refine x_fall ?_
  refine x_G_lo (lo' := [(0, x_R 124), (1, x_R 4), (2, x_I _)]) ⟨rfl, rfl, rfl, trivial⟩ ?_
  refine kx_110_124_4_b2 C0 hP h4 k _ 0 _ rfl (by omega) (by omega) C2 (fun q m h => (f2 q m (by omega)).trans (x_up_ne e1 (fun z => by omega))) ((f2 124 13 (by decide)).trans (x_up_at e1)) (fun m hm => w2 m (by omega)) (fun m hm => absurd hm (by omega))
theorem kx_109_111_4_b6 {E : q_E} {σ : x_S} {Q : Option q_V → x_S → Prop} (C0 : y_CI σ) {A : Nat → Int} (hP : y_PI A) (h4 : y_PG σ 4 A) (cr : σ 111 14 = 1 → cn_RC σ 111 A 0) (k : ∀ τ, y_CI τ → (∀ q m, (q < 111 ∨ 123 < q) → τ q m = σ q m) → τ 111 14 = 1 → cn_RC τ 111 A 0 → Q none τ) {n u B : Int} {st od : Nat → Int} (n0 : 0 ≤ n) (n1 : n ≤ 53) (u0 : 0 ≤ u) (u1 : u ≤ 53) (hun : od n.toNat = u) (ho : ∀ τ' : x_S, y_CI τ' → (∀ q m, (q < 111 ∨ 123 < q) → τ' q m = σ q m) → (∃ B, cn_ST τ' 111 A 0 (fun f l r => cn_tri (fun k => τ' 117 k = 1) f l r) (n + 1).toNat B) → τ' 111 13 = n + 1 → x_G E m_109 Q (t_109 7) [(0, x_R 111), (1, x_R 4), (2, x_I (n + 1))] [] τ') : ∀ (N : Nat) (kq : Int) (τ : x_S), (n + 1 - kq).toNat = N → 0 ≤ kq → kq ≤ n + 1 → y_CI τ → (∀ q m, (q < 111 ∨ 123 < q) → τ q m = σ q m) → τ 111 13 = n + 1 → τ 116 = od → τ 117 = y_wK st u.toNat 1 → τ 115 u.toNat = B → cn_ST τ 111 A 0 (cn_OI st od u kq) (n.toNat + 1) B → x_G E m_109 Q (t_109 6) [(0, x_R 111), (1, x_R 4), (2, x_I n), (3, x_I u), (4, x_I kq)] [] τ := by
  intro N
  induction N using Nat.strongRecOn with
  | ind N ih =>
    intro kq τ hN k0 k1 C fr m13 o5 o6 zu hst
    have Su : τ 117 u.toNat = 1 := by rw [o6]; exact y_wK_e
    have hA : y_AG (y_cv τ 4) A := by rw [cn_cv (fun q m _ _ => fr q m (by omega))]; exact h4.1
    refine x_blk (b := 6) (a_109 E) rfl ?_
    unfold b_109_6
    refine x_iload rfl ?_
    refine x_iload rfl ?_
    refine x_icmp_gt (by omega) (by omega) (by omega) (by omega) (fun z1 => ?_) (fun z1 => ?_)
    · skip
      have odk := cn_ST_od hst (i := kq.toNat) (by omega)
      rw [show τ (111 + 5) = od from o5] at odk
      refine x_aload rfl ?_
      refine x_aload rfl ?_
      refine x_push 3 rfl ?_
      refine x_iload rfl ?_
      refine x_aload rfl ?_
      refine x_getR (r := 111) rfl (by decide) (by decide) rfl ?_
      refine x_iload rfl ?_
      refine x_ialdX y_a116 C (by omega) (by omega) (fun v2 v2x v2a v2b => ?_)
      have xe2 : v2 = od kq.toNat := v2x.trans (congrFun (o5) _)
      subst xe2
      refine x_cV (fun _ => rfl) rfl (by decide) (Nat.le_of_ble_eq_true rfl) ?_
      have of3 := cn_of2 (S := fun k => τ 117 k = 1) (sz := τ 115) (u := u) (x := (od kq.toNat)) (f := 3) (by omega) (by omega) (by omega) (Su) (by omega) (by omega) (odk.2.2.1) (odk.2.2.2) (zu)
      refine kx_39_111_4 C hP hA hst of3.1.1 of3.1.2 (fun S3 C3 f3 g3 st3 => ?_)
      have hA3 : y_AG (y_cv S3 4) A := by rw [cn_cv (fun q m _ _ => f3 q m (by omega))]; exact hA
      have r6_3 : S3 117 = τ 117 := funext fun m => f3 _ m (by omega)
      have r5_3 : S3 116 = τ 116 := funext fun m => f3 _ m (by omega)
      have Su3 : S3 117 u.toNat = 1 := by rw [r6_3]; exact Su
      have Sx3 : S3 117 (od kq.toNat).toNat = 1 := by rw [r6_3]; exact odk.2.2.1
      have zu3 : S3 115 u.toNat = B := (g3 _ (Su)).trans (zu)
      have zx3 : 0 ≤ S3 115 (od kq.toNat).toNat := by rw [g3 _ (odk.2.2.1)]; exact odk.2.2.2
      refine x_aload rfl ?_
      refine x_aload rfl ?_
      refine x_push 4 rfl ?_
      refine x_iload rfl ?_
      refine x_aload rfl ?_
      refine x_getR (r := 111) rfl (by decide) (by decide) rfl ?_
      refine x_iload rfl ?_
      refine x_ialdX y_a116 C3 (by omega) (by omega) (fun v4 v4x v4a v4b => ?_)
      have xe4 : v4 = od kq.toNat := v4x.trans (congrFun (r5_3.trans (o5)) _)
      subst xe4
      refine x_cV (fun _ => rfl) rfl (by decide) (Nat.le_of_ble_eq_true rfl) ?_
      have of5 := cn_of2 (S := fun k => S3 117 k = 1) (sz := S3 115) (u := u) (x := (od kq.toNat)) (f := 4) (by omega) (by omega) (by omega) (Su3) (by omega) (by omega) (Sx3) (zx3) (zu3)
      refine kx_39_111_4 C3 hP hA3 st3 of5.1.1 of5.1.2 (fun S5 C5 f5 g5 st5 => ?_)
      have hA5 : y_AG (y_cv S5 4) A := by rw [cn_cv (fun q m _ _ => f5 q m (by omega))]; exact hA3
      have r6_5 : S5 117 = S3 117 := funext fun m => f5 _ m (by omega)
      have r5_5 : S5 116 = S3 116 := funext fun m => f5 _ m (by omega)
      have Su5 : S5 117 u.toNat = 1 := by rw [r6_5]; exact Su3
      have Sx5 : S5 117 (od kq.toNat).toNat = 1 := by rw [r6_5]; exact Sx3
      have zu5 : S5 115 u.toNat = B := (g5 _ (Su3)).trans (zu3)
      have zx5 : 0 ≤ S5 115 (od kq.toNat).toNat := by rw [g5 _ (Sx3)]; exact zx3
      refine x_iload rfl ?_
      refine x_iload rfl ?_
      refine x_icmp_ge (by omega) (by omega) (by omega) (by omega) (fun z6 => ?_) (fun z6 => ?_)
      · skip
        refine x_aload rfl ?_
        refine x_aload rfl ?_
        refine x_push 3 rfl ?_
        refine x_aload rfl ?_
        refine x_getR (r := 111) rfl (by decide) (by decide) rfl ?_
        refine x_iload rfl ?_
        refine x_ialdX y_a116 C5 (by omega) (by omega) (fun v7 v7x v7a v7b => ?_)
        have xe7 : v7 = od kq.toNat := v7x.trans (congrFun (r5_5.trans (r5_3.trans (o5))) _)
        subst xe7
        refine x_iload rfl ?_
        refine x_cV (fun _ => rfl) rfl (by decide) (Nat.le_of_ble_eq_true rfl) ?_
        have of8 := cn_of2 (S := fun k => S5 117 k = 1) (sz := S5 115) (u := u) (x := (od kq.toNat)) (f := 3) (by omega) (by omega) (by omega) (Su5) (by omega) (by omega) (Sx5) (zx5) (zu5)
        refine kx_39_111_4 C5 hP hA5 st5 of8.2.1 of8.2.2 (fun S8 C8 f8 g8 st8 => ?_)
        have hA8 : y_AG (y_cv S8 4) A := by rw [cn_cv (fun q m _ _ => f8 q m (by omega))]; exact hA5
        have r6_8 : S8 117 = S5 117 := funext fun m => f8 _ m (by omega)
        have r5_8 : S8 116 = S5 116 := funext fun m => f8 _ m (by omega)
        have Su8 : S8 117 u.toNat = 1 := by rw [r6_8]; exact Su5
        have Sx8 : S8 117 (od kq.toNat).toNat = 1 := by rw [r6_8]; exact Sx5
        have zu8 : S8 115 u.toNat = B := (g8 _ (Su5)).trans (zu5)
        have zx8 : 0 ≤ S8 115 (od kq.toNat).toNat := by rw [g8 _ (Sx5)]; exact zx5
        refine x_aload rfl ?_
        refine x_aload rfl ?_
        refine x_push 4 rfl ?_
        refine x_aload rfl ?_
        refine x_getR (r := 111) rfl (by decide) (by decide) rfl ?_
        refine x_iload rfl ?_
        refine x_ialdX y_a116 C8 (by omega) (by omega) (fun v9 v9x v9a v9b => ?_)
        have xe9 : v9 = od kq.toNat := v9x.trans (congrFun (r5_8.trans (r5_5.trans (r5_3.trans (o5)))) _)
        subst xe9
        refine x_iload rfl ?_
        refine x_cV (fun _ => rfl) rfl (by decide) (Nat.le_of_ble_eq_true rfl) ?_
        have of10 := cn_of2 (S := fun k => S8 117 k = 1) (sz := S8 115) (u := u) (x := (od kq.toNat)) (f := 4) (by omega) (by omega) (by omega) (Su8) (by omega) (by omega) (Sx8) (zx8) (zu8)
        refine kx_39_111_4 C8 hP hA8 st8 of10.2.1 of10.2.2 (fun S10 C10 f10 g10 st10 => ?_)
        have hA10 : y_AG (y_cv S10 4) A := by rw [cn_cv (fun q m _ _ => f10 q m (by omega))]; exact hA8
        have r6_10 : S10 117 = S8 117 := funext fun m => f10 _ m (by omega)
        have r5_10 : S10 116 = S8 116 := funext fun m => f10 _ m (by omega)
        have Su10 : S10 117 u.toNat = 1 := by rw [r6_10]; exact Su8
        have Sx10 : S10 117 (od kq.toNat).toNat = 1 := by rw [r6_10]; exact Sx8
        have zu10 : S10 115 u.toNat = B := (g10 _ (Su8)).trans (zu8)
        have zx10 : 0 ≤ S10 115 (od kq.toNat).toNat := by rw [g10 _ (Sx8)]; exact zx8
        refine x_fall ?_
        refine x_blk (b := 5) (a_109 E) rfl ?_
        unfold b_109_5
        refine x_iinc 1 rfl rfl ?_
        refine x_goto ?_
        refine x_G_lo (lo' := [(0, x_R 111), (1, x_R 4), (2, x_I _), (3, x_I _), (4, x_I _)]) ⟨rfl, rfl, rfl, rfl, rfl, trivial⟩ ?_
        exact ih _ (by omega) _ _ rfl (by omega) (by omega) C10 (fun q m h => (f10 _ _ (by omega)).trans ((f8 _ _ (by omega)).trans ((f5 _ _ (by omega)).trans ((f3 _ _ (by omega)).trans (fr q m h))))) ((f10 _ _ (by omega)).trans ((f8 _ _ (by omega)).trans ((f5 _ _ (by omega)).trans ((f3 _ _ (by omega)).trans (m13))))) (r5_10.trans (r5_8.trans (r5_5.trans (r5_3.trans (o5))))) (r6_10.trans (r6_8.trans (r6_5.trans (r6_3.trans (o6))))) zu10 (cn_ST_mono st10 (cn_OI_4 (fun f l r z => z) (by omega) rfl))
      · skip
        refine x_blk (b := 5) (a_109 E) rfl ?_
        unfold b_109_5
        refine x_iinc 1 rfl rfl ?_
        refine x_goto ?_
        refine x_G_lo (lo' := [(0, x_R 111), (1, x_R 4), (2, x_I _), (3, x_I _), (4, x_I _)]) ⟨rfl, rfl, rfl, rfl, rfl, trivial⟩ ?_
        exact ih _ (by omega) _ _ rfl (by omega) (by omega) C5 (fun q m h => (f5 _ _ (by omega)).trans ((f3 _ _ (by omega)).trans (fr q m h))) ((f5 _ _ (by omega)).trans ((f3 _ _ (by omega)).trans (m13))) (r5_5.trans (r5_3.trans (o5))) (r6_5.trans (r6_3.trans (o6))) zu5 (cn_ST_mono st5 (cn_OI_2 (fun f l r z => z) (by omega) rfl (by rw [show kq = n by omega]; exact hun)))
    · skip
      refine x_blk (b := 4) (a_109 E) rfl ?_
      unfold b_109_4
      refine x_iinc 1 rfl rfl ?_
      refine x_goto ?_
      refine x_G_lo (lo' := [(0, x_R 111), (1, x_R 4), (2, x_I _)]) ⟨rfl, rfl, rfl, trivial⟩ ?_
      have en : kq = n + 1 := by omega
      subst en
      refine ho _ C fr ⟨B, cn_ST_mono (by rw [show (n + 1).toNat = n.toNat + 1 by omega]; exact hst) (fun f l r t => ?_)⟩ m13
      have e := cn_OI_all (st := st) (od := od) (u := u) (n := n.toNat + 1) (by omega) (fun k hk h => by rw [← o5]; rw [← o6] at h; exact hst.2.1.2.1 k hk h) f l r (by rw [← o6]; exact t)
      rw [show ((n.toNat + 1 : Nat) : Int) = n + 1 by omega] at e
      exact e
theorem kx_109_111_4_b7 {E : q_E} {σ : x_S} {Q : Option q_V → x_S → Prop} (C0 : y_CI σ) {A : Nat → Int} (hP : y_PI A) (h4 : y_PG σ 4 A) (cr : σ 111 14 = 1 → cn_RC σ 111 A 0) (k : ∀ τ, y_CI τ → (∀ q m, (q < 111 ∨ 123 < q) → τ q m = σ q m) → τ 111 14 = 1 → cn_RC τ 111 A 0 → Q none τ) : ∀ (N : Nat) (n : Int) (τ : x_S), (54 - n).toNat = N → 0 ≤ n → n ≤ 54 → y_CI τ → (∀ q m, (q < 111 ∨ 123 < q) → τ q m = σ q m) → (∃ B, cn_ST τ 111 A 0 (fun f l r => cn_tri (fun k => τ 117 k = 1) f l r) n.toNat B) → τ 111 13 = n → x_G E m_109 Q (t_109 7) [(0, x_R 111), (1, x_R 4), (2, x_I n)] [] τ := by
  intro N
  induction N using Nat.strongRecOn with
  | ind N ih =>
    intro n τ hN n0 n1 C fr hst m13
    obtain ⟨B, hst⟩ := hst
    refine x_blk (b := 7) (a_109 E) rfl ?_
    unfold b_109_7
    refine x_iload rfl ?_
    refine x_push 54 rfl ?_
    refine x_icmp_ge (by omega) (by omega) (by omega) (by omega) (fun z1 => ?_) (fun z1 => ?_)
    · skip
      refine x_aload rfl ?_
      refine x_cV (fun _ => rfl) rfl (by decide) (Nat.le_of_ble_eq_true rfl) ?_
      refine kx_70_111 C hst.1 (fun hall => ?_) (fun v2 v2a v2b vs vz vm => ?_)
      · skip
        refine x_istore ?_
        refine x_iload rfl ?_
        refine x_push 54 rfl ?_
        refine x_cS (fun _ => rfl) (Nat.le_of_ble_eq_true rfl) ?_
        refine sf_2 (by omega) (by omega) (by omega) (by omega) C (fun y3 => absurd y3 (by omega)) (fun y3 => ?_)
        refine x_if_ne (by omega) (by omega) (fun z4 => ?_) (fun z => absurd (by omega) z)
        refine x_goto ?_
        refine x_blk (b := 2) (a_109 E) rfl ?_
        unfold b_109_2
        refine x_aload rfl ?_
        refine x_push 1 rfl ?_
        refine x_putZG y_f111_14 rfl (by decide) C (by decide) (y_fr_rf (lo := 0) (hi := 138)) (by omega) (fun S5 e5 C5 F5 => ?_)
        refine x_vret ?_
        refine k _ C5 (fun q m h => (x_up_nr e5 (by omega)).trans (fr q m h)) (x_up_at e5) ?_
        have R := cn_I_R hst.1 hst.2.1 (fun f l r z => z) hall
        unfold cn_RC
        rw [x_up_rw e5 (q := 111 + 1) (by decide), x_up_rw e5 (q := 111 + 2) (by decide), x_up_rw e5 (q := 111 + 3) (by decide), x_up_rw e5 (q := 111 + 4) (by decide), x_up_rw e5 (q := 111 + 5) (by decide), x_up_ne e5 (r' := 111) (k' := 13) (by decide), m13, show n = ((n.toNat : Nat) : Int) by omega]
        exact R
      · skip
        refine x_istore ?_
        refine x_iload rfl ?_
        refine x_push 54 rfl ?_
        refine x_cS (fun _ => rfl) (Nat.le_of_ble_eq_true rfl) ?_
        refine sf_2 (by omega) (by omega) (by omega) (by omega) C (fun y6 => ?_) (fun y6 => absurd (by omega) y6)
        refine x_if_ne (by omega) (by omega) (fun z => absurd z (by omega)) (fun z7 => ?_)
        refine x_blk (b := 3) (a_109 E) rfl ?_
        unfold b_109_3
        refine x_aload rfl ?_
        refine x_iload rfl ?_
        refine x_iload rfl ?_
        refine x_cV (fun _ => rfl) rfl (by decide) (Nat.le_of_ble_eq_true rfl) ?_
        refine kx_79_111 (by omega) (by omega) (by omega) (by omega) C (fun S8 C8 f8 h5 h6 h13 hne hon => ?_)
        have ex : ((v2.toNat : Nat) : Int) = v2 := by omega
        have st8 := cn_ST_set hst (u := v2.toNat) (τ := S8) (by omega) vs vz vm (by rw [ex]; exact h5) h6 hne (by rw [ex]; exact hon) (fun q h => funext fun m => f8 q m (by omega))
        have zu : S8 115 v2.toNat = τ 115 v2.toNat := f8 _ _ (by omega)
        have su : S8 117 v2.toNat = 1 := by rw [h6]; exact y_wK_e
        have hA8 : y_AG (y_cv S8 4) A := by rw [cn_cv (fun q m _ _ => (f8 q m (by omega)).trans (fr q m (by omega)))]; exact h4.1
        have of1 := cn_of1 (S := fun k => S8 117 k = 1) (sz := S8 115) (u := v2) (by omega) (by omega) su zu
        refine x_aload rfl ?_
        refine x_aload rfl ?_
        refine x_push 2 rfl ?_
        refine x_iload rfl ?_
        refine x_push (-4) rfl ?_
        refine x_cV (fun _ => rfl) rfl (by decide) (Nat.le_of_ble_eq_true rfl) ?_
        refine kx_39_111_4 C8 hP hA8 st8 of1.1 of1.2 (fun S9 C9 f9 g9 st9 => ?_)
        have hA9 : y_AG (y_cv S9 4) A := by rw [cn_cv (fun q m _ _ => f9 q m (by omega))]; exact hA8
        refine x_push 0 rfl ?_
        refine x_istore ?_
        refine x_X_lo (lo' := [(0, x_R 111), (1, x_R 4), (2, x_I _), (3, x_I _), (4, x_I _)]) ⟨rfl, rfl, rfl, rfl, rfl, trivial⟩ ?_
        refine x_fall ?_
        refine x_G_lo (lo' := [(0, x_R 111), (1, x_R 4), (2, x_I _), (3, x_I _), (4, x_I _)]) ⟨rfl, rfl, rfl, rfl, rfl, trivial⟩ ?_
        have o6 : S9 117 = y_wK (τ 117) v2.toNat 1 := (funext fun m => f9 _ m (by omega)).trans h6
        refine kx_109_111_4_b6 C0 hP h4 cr k (n := n) (u := v2) (B := τ 115 v2.toNat) (st := τ 117) (od := S9 116) (by omega) (by omega) (by omega) (by omega) ?_ (fun τ' C' fr' hs' m' => ih _ (by omega) _ _ rfl (by omega) (by omega) C' fr' hs' m') _ 0 _ rfl (by omega) (by omega) C9 (fun q m h => (f9 q m (by omega)).trans ((f8 q m (by omega)).trans (fr q m h))) ((f9 _ _ (by omega)).trans h13) rfl o6 ((g9 _ su).trans zu) (cn_ST_mono st9 cn_OI_0)
        rw [show S9 116 = S8 116 from funext fun m => f9 _ m (by omega), h5]
        exact y_wK_e
    · skip
      refine x_blk (b := 2) (a_109 E) rfl ?_
      unfold b_109_2
      refine x_aload rfl ?_
      refine x_push 1 rfl ?_
      refine x_putZG y_f111_14 rfl (by decide) C (by decide) (y_fr_rf (lo := 0) (hi := 138)) (by omega) (fun S10 e10 C10 F10 => ?_)
      refine x_vret ?_
      have hall : ∀ k : Nat, k < 54 → 0 < τ 115 k → τ 117 k = 1 := fun k hk _ => y_sum_1 (f := τ 117) (n := 54) (fun i hi => (hst.2.1.2.2.2.1 i hi).2) (by have q : (n.toNat : Int) = y_sum (τ 117) 54 := hst.2.1.2.2.2.2; omega) k hk
      refine k _ C10 (fun q m h => (x_up_nr e10 (by omega)).trans (fr q m h)) (x_up_at e10) ?_
      have R := cn_I_R hst.1 hst.2.1 (fun f l r z => z) hall
      unfold cn_RC
      rw [x_up_rw e10 (q := 111 + 1) (by decide), x_up_rw e10 (q := 111 + 2) (by decide), x_up_rw e10 (q := 111 + 3) (by decide), x_up_rw e10 (q := 111 + 4) (by decide), x_up_rw e10 (q := 111 + 5) (by decide), x_up_ne e10 (r' := 111) (k' := 13) (by decide), m13, show n = ((n.toNat : Nat) : Int) by omega]
      exact R
theorem kx_109_111_4 {E : q_E} {σ : x_S} {Q : Option q_V → x_S → Prop} (C0 : y_CI σ) {A : Nat → Int} (hP : y_PI A) (h4 : y_PG σ 4 A) (cr : σ 111 14 = 1 → cn_RC σ 111 A 0) (k : ∀ τ, y_CI τ → (∀ q m, (q < 111 ∨ 123 < q) → τ q m = σ q m) → τ 111 14 = 1 → cn_RC τ 111 A 0 → Q none τ) : x_P E 109 [x_R 111, x_R 4] σ Q := by
  refine x_Mt e_109 (h_109 E) (Nat.le_of_ble_eq_true rfl) t_109 rfl ?_
  refine x_blk (b := 0) (a_109 E) rfl ?_
  unfold b_109_0
  refine x_aload rfl ?_
  refine x_getIG y_f111_14 C0 ?_
  intro g1a g1b
  refine x_if_eq (by omega) (by omega) (fun z2 => ?_) (fun z2 => ?_)
  · skip
    refine x_blk (b := 1) (a_109 E) rfl ?_
    unfold b_109_1
    refine x_aload rfl ?_
    refine x_aload rfl ?_
    refine x_cV (fun _ => rfl) rfl (by decide) (Nat.le_of_ble_eq_true rfl) ?_
    refine kx_110_111_4 C0 hP h4 (fun S3 C3 f3 m3 st3 => ?_)
    have hA3 : y_AG (y_cv S3 4) A := by rw [cn_cv (fun q m _ _ => f3 q m (by omega))]; exact h4.1
    refine x_aload rfl ?_
    refine x_aload rfl ?_
    refine x_push 0 rfl ?_
    refine x_push (-4) rfl ?_
    refine x_push (-4) rfl ?_
    refine x_cV (fun _ => rfl) rfl (by decide) (Nat.le_of_ble_eq_true rfl) ?_
    have of := cn_of0 (S := fun k => S3 117 k = 1) (sz := S3 115) (f := 0) (by omega)
    refine kx_39_111_4 C3 hP hA3 st3 of.1 of.2 (fun S4 C4 f4 g4 st4 => ?_)
    have hA4 : y_AG (y_cv S4 4) A := by rw [cn_cv (fun q m _ _ => f4 q m (by omega))]; exact hA3
    refine x_aload rfl ?_
    refine x_aload rfl ?_
    refine x_push 1 rfl ?_
    refine x_push (-4) rfl ?_
    refine x_push (-4) rfl ?_
    refine x_cV (fun _ => rfl) rfl (by decide) (Nat.le_of_ble_eq_true rfl) ?_
    have of := cn_of0 (S := fun k => S4 117 k = 1) (sz := S4 115) (f := 1) (by omega)
    refine kx_39_111_4 C4 hP hA4 st4 of.1 of.2 (fun S5 C5 f5 g5 st5 => ?_)
    have hA5 : y_AG (y_cv S5 4) A := by rw [cn_cv (fun q m _ _ => f5 q m (by omega))]; exact hA4
    refine x_push 0 rfl ?_
    refine x_istore ?_
    refine x_fall ?_
    refine x_G_lo (lo' := [(0, x_R 111), (1, x_R 4), (2, x_I _)]) ⟨rfl, rfl, rfl, trivial⟩ ?_
    refine kx_109_111_4_b7 C0 hP h4 cr k _ 0 _ rfl (by omega) (by omega) C5 (fun q m h => (f5 q m (by omega)).trans ((f4 q m (by omega)).trans (f3 q m (by omega)))) ⟨0, cn_ST_mono st5 (fun f l r t => ?_)⟩ ((f5 _ _ (by omega)).trans ((f4 _ _ (by omega)).trans m3))
    have s0 : ∀ k : Nat, k < 54 → ¬ S5 117 k = 1 := fun k hk h => by
      obtain ⟨i, hi, _⟩ := st5.2.1.2.1 k hk h
      exact absurd hi (by omega)
    obtain ⟨t1, t2, t3, t4, t5⟩ := t
    have ch := y_chx f
    have c0 : y_ch f < 1 := by
      by_cases z : 1 ≤ y_ch f
      · exact absurd (t2 z).2 (s0 l (t2 z).1)
      · omega
    have l0 := t3 c0
    have r0 := t5 (by omega)
    have f01 : f = 0 ∨ f = 1 := by omega
    rcases f01 with e | e
    · exact Or.inl (Or.inr ⟨e, l0, r0⟩)
    · exact Or.inr ⟨e, l0, r0⟩
  · skip
    refine x_vret ?_
    exact k _ C0 (fun _ _ _ => rfl) (by omega) (cr (by omega))
theorem kx_109_124_4_b6 {E : q_E} {σ : x_S} {Q : Option q_V → x_S → Prop} (C0 : y_CI σ) {A : Nat → Int} (hP : y_PI A) (h4 : y_PG σ 4 A) (cr : σ 124 14 = 1 → cn_RC σ 124 A 1) (k : ∀ τ, y_CI τ → (∀ q m, (q < 124 ∨ 136 < q) → τ q m = σ q m) → τ 124 14 = 1 → cn_RC τ 124 A 1 → Q none τ) {n u B : Int} {st od : Nat → Int} (n0 : 0 ≤ n) (n1 : n ≤ 53) (u0 : 0 ≤ u) (u1 : u ≤ 53) (hun : od n.toNat = u) (ho : ∀ τ' : x_S, y_CI τ' → (∀ q m, (q < 124 ∨ 136 < q) → τ' q m = σ q m) → (∃ B, cn_ST τ' 124 A 1 (fun f l r => cn_tri (fun k => τ' 130 k = 1) f l r) (n + 1).toNat B) → τ' 124 13 = n + 1 → x_G E m_109 Q (t_109 7) [(0, x_R 124), (1, x_R 4), (2, x_I (n + 1))] [] τ') : ∀ (N : Nat) (kq : Int) (τ : x_S), (n + 1 - kq).toNat = N → 0 ≤ kq → kq ≤ n + 1 → y_CI τ → (∀ q m, (q < 124 ∨ 136 < q) → τ q m = σ q m) → τ 124 13 = n + 1 → τ 129 = od → τ 130 = y_wK st u.toNat 1 → τ 128 u.toNat = B → cn_ST τ 124 A 1 (cn_OI st od u kq) (n.toNat + 1) B → x_G E m_109 Q (t_109 6) [(0, x_R 124), (1, x_R 4), (2, x_I n), (3, x_I u), (4, x_I kq)] [] τ := by
  intro N
  induction N using Nat.strongRecOn with
  | ind N ih =>
    intro kq τ hN k0 k1 C fr m13 o5 o6 zu hst
    have Su : τ 130 u.toNat = 1 := by rw [o6]; exact y_wK_e
    have hA : y_AG (y_cv τ 4) A := by rw [cn_cv (fun q m _ _ => fr q m (by omega))]; exact h4.1
    refine x_blk (b := 6) (a_109 E) rfl ?_
    unfold b_109_6
    refine x_iload rfl ?_
    refine x_iload rfl ?_
    refine x_icmp_gt (by omega) (by omega) (by omega) (by omega) (fun z1 => ?_) (fun z1 => ?_)
    · skip
      have odk := cn_ST_od hst (i := kq.toNat) (by omega)
      rw [show τ (124 + 5) = od from o5] at odk
      refine x_aload rfl ?_
      refine x_aload rfl ?_
      refine x_push 3 rfl ?_
      refine x_iload rfl ?_
      refine x_aload rfl ?_
      refine x_getR (r := 124) rfl (by decide) (by decide) rfl ?_
      refine x_iload rfl ?_
      refine x_ialdX y_a129 C (by omega) (by omega) (fun v2 v2x v2a v2b => ?_)
      have xe2 : v2 = od kq.toNat := v2x.trans (congrFun (o5) _)
      subst xe2
      refine x_cV (fun _ => rfl) rfl (by decide) (Nat.le_of_ble_eq_true rfl) ?_
      have of3 := cn_of2 (S := fun k => τ 130 k = 1) (sz := τ 128) (u := u) (x := (od kq.toNat)) (f := 3) (by omega) (by omega) (by omega) (Su) (by omega) (by omega) (odk.2.2.1) (odk.2.2.2) (zu)
      refine kx_39_124_4 C hP hA hst of3.1.1 of3.1.2 (fun S3 C3 f3 g3 st3 => ?_)
      have hA3 : y_AG (y_cv S3 4) A := by rw [cn_cv (fun q m _ _ => f3 q m (by omega))]; exact hA
      have r6_3 : S3 130 = τ 130 := funext fun m => f3 _ m (by omega)
      have r5_3 : S3 129 = τ 129 := funext fun m => f3 _ m (by omega)
      have Su3 : S3 130 u.toNat = 1 := by rw [r6_3]; exact Su
      have Sx3 : S3 130 (od kq.toNat).toNat = 1 := by rw [r6_3]; exact odk.2.2.1
      have zu3 : S3 128 u.toNat = B := (g3 _ (Su)).trans (zu)
      have zx3 : 0 ≤ S3 128 (od kq.toNat).toNat := by rw [g3 _ (odk.2.2.1)]; exact odk.2.2.2
      refine x_aload rfl ?_
      refine x_aload rfl ?_
      refine x_push 4 rfl ?_
      refine x_iload rfl ?_
      refine x_aload rfl ?_
      refine x_getR (r := 124) rfl (by decide) (by decide) rfl ?_
      refine x_iload rfl ?_
      refine x_ialdX y_a129 C3 (by omega) (by omega) (fun v4 v4x v4a v4b => ?_)
      have xe4 : v4 = od kq.toNat := v4x.trans (congrFun (r5_3.trans (o5)) _)
      subst xe4
      refine x_cV (fun _ => rfl) rfl (by decide) (Nat.le_of_ble_eq_true rfl) ?_
      have of5 := cn_of2 (S := fun k => S3 130 k = 1) (sz := S3 128) (u := u) (x := (od kq.toNat)) (f := 4) (by omega) (by omega) (by omega) (Su3) (by omega) (by omega) (Sx3) (zx3) (zu3)
      refine kx_39_124_4 C3 hP hA3 st3 of5.1.1 of5.1.2 (fun S5 C5 f5 g5 st5 => ?_)
      have hA5 : y_AG (y_cv S5 4) A := by rw [cn_cv (fun q m _ _ => f5 q m (by omega))]; exact hA3
      have r6_5 : S5 130 = S3 130 := funext fun m => f5 _ m (by omega)
      have r5_5 : S5 129 = S3 129 := funext fun m => f5 _ m (by omega)
      have Su5 : S5 130 u.toNat = 1 := by rw [r6_5]; exact Su3
      have Sx5 : S5 130 (od kq.toNat).toNat = 1 := by rw [r6_5]; exact Sx3
      have zu5 : S5 128 u.toNat = B := (g5 _ (Su3)).trans (zu3)
      have zx5 : 0 ≤ S5 128 (od kq.toNat).toNat := by rw [g5 _ (Sx3)]; exact zx3
      refine x_iload rfl ?_
      refine x_iload rfl ?_
      refine x_icmp_ge (by omega) (by omega) (by omega) (by omega) (fun z6 => ?_) (fun z6 => ?_)
      · skip
        refine x_aload rfl ?_
        refine x_aload rfl ?_
        refine x_push 3 rfl ?_
        refine x_aload rfl ?_
        refine x_getR (r := 124) rfl (by decide) (by decide) rfl ?_
        refine x_iload rfl ?_
        refine x_ialdX y_a129 C5 (by omega) (by omega) (fun v7 v7x v7a v7b => ?_)
        have xe7 : v7 = od kq.toNat := v7x.trans (congrFun (r5_5.trans (r5_3.trans (o5))) _)
        subst xe7
        refine x_iload rfl ?_
        refine x_cV (fun _ => rfl) rfl (by decide) (Nat.le_of_ble_eq_true rfl) ?_
        have of8 := cn_of2 (S := fun k => S5 130 k = 1) (sz := S5 128) (u := u) (x := (od kq.toNat)) (f := 3) (by omega) (by omega) (by omega) (Su5) (by omega) (by omega) (Sx5) (zx5) (zu5)
        refine kx_39_124_4 C5 hP hA5 st5 of8.2.1 of8.2.2 (fun S8 C8 f8 g8 st8 => ?_)
        have hA8 : y_AG (y_cv S8 4) A := by rw [cn_cv (fun q m _ _ => f8 q m (by omega))]; exact hA5
        have r6_8 : S8 130 = S5 130 := funext fun m => f8 _ m (by omega)
        have r5_8 : S8 129 = S5 129 := funext fun m => f8 _ m (by omega)
        have Su8 : S8 130 u.toNat = 1 := by rw [r6_8]; exact Su5
        have Sx8 : S8 130 (od kq.toNat).toNat = 1 := by rw [r6_8]; exact Sx5
        have zu8 : S8 128 u.toNat = B := (g8 _ (Su5)).trans (zu5)
        have zx8 : 0 ≤ S8 128 (od kq.toNat).toNat := by rw [g8 _ (Sx5)]; exact zx5
        refine x_aload rfl ?_
        refine x_aload rfl ?_
        refine x_push 4 rfl ?_
        refine x_aload rfl ?_
        refine x_getR (r := 124) rfl (by decide) (by decide) rfl ?_
        refine x_iload rfl ?_
        refine x_ialdX y_a129 C8 (by omega) (by omega) (fun v9 v9x v9a v9b => ?_)
        have xe9 : v9 = od kq.toNat := v9x.trans (congrFun (r5_8.trans (r5_5.trans (r5_3.trans (o5)))) _)
        subst xe9
        refine x_iload rfl ?_
        refine x_cV (fun _ => rfl) rfl (by decide) (Nat.le_of_ble_eq_true rfl) ?_
        have of10 := cn_of2 (S := fun k => S8 130 k = 1) (sz := S8 128) (u := u) (x := (od kq.toNat)) (f := 4) (by omega) (by omega) (by omega) (Su8) (by omega) (by omega) (Sx8) (zx8) (zu8)
        refine kx_39_124_4 C8 hP hA8 st8 of10.2.1 of10.2.2 (fun S10 C10 f10 g10 st10 => ?_)
        have hA10 : y_AG (y_cv S10 4) A := by rw [cn_cv (fun q m _ _ => f10 q m (by omega))]; exact hA8
        have r6_10 : S10 130 = S8 130 := funext fun m => f10 _ m (by omega)
        have r5_10 : S10 129 = S8 129 := funext fun m => f10 _ m (by omega)
        have Su10 : S10 130 u.toNat = 1 := by rw [r6_10]; exact Su8
        have Sx10 : S10 130 (od kq.toNat).toNat = 1 := by rw [r6_10]; exact Sx8
        have zu10 : S10 128 u.toNat = B := (g10 _ (Su8)).trans (zu8)
        have zx10 : 0 ≤ S10 128 (od kq.toNat).toNat := by rw [g10 _ (Sx8)]; exact zx8
        refine x_fall ?_
        refine x_blk (b := 5) (a_109 E) rfl ?_
        unfold b_109_5
        refine x_iinc 1 rfl rfl ?_
        refine x_goto ?_
        refine x_G_lo (lo' := [(0, x_R 124), (1, x_R 4), (2, x_I _), (3, x_I _), (4, x_I _)]) ⟨rfl, rfl, rfl, rfl, rfl, trivial⟩ ?_
        exact ih _ (by omega) _ _ rfl (by omega) (by omega) C10 (fun q m h => (f10 _ _ (by omega)).trans ((f8 _ _ (by omega)).trans ((f5 _ _ (by omega)).trans ((f3 _ _ (by omega)).trans (fr q m h))))) ((f10 _ _ (by omega)).trans ((f8 _ _ (by omega)).trans ((f5 _ _ (by omega)).trans ((f3 _ _ (by omega)).trans (m13))))) (r5_10.trans (r5_8.trans (r5_5.trans (r5_3.trans (o5))))) (r6_10.trans (r6_8.trans (r6_5.trans (r6_3.trans (o6))))) zu10 (cn_ST_mono st10 (cn_OI_4 (fun f l r z => z) (by omega) rfl))
      · skip
        refine x_blk (b := 5) (a_109 E) rfl ?_
        unfold b_109_5
        refine x_iinc 1 rfl rfl ?_
        refine x_goto ?_
        refine x_G_lo (lo' := [(0, x_R 124), (1, x_R 4), (2, x_I _), (3, x_I _), (4, x_I _)]) ⟨rfl, rfl, rfl, rfl, rfl, trivial⟩ ?_
        exact ih _ (by omega) _ _ rfl (by omega) (by omega) C5 (fun q m h => (f5 _ _ (by omega)).trans ((f3 _ _ (by omega)).trans (fr q m h))) ((f5 _ _ (by omega)).trans ((f3 _ _ (by omega)).trans (m13))) (r5_5.trans (r5_3.trans (o5))) (r6_5.trans (r6_3.trans (o6))) zu5 (cn_ST_mono st5 (cn_OI_2 (fun f l r z => z) (by omega) rfl (by rw [show kq = n by omega]; exact hun)))
    · skip
      refine x_blk (b := 4) (a_109 E) rfl ?_
      unfold b_109_4
      refine x_iinc 1 rfl rfl ?_
      refine x_goto ?_
      refine x_G_lo (lo' := [(0, x_R 124), (1, x_R 4), (2, x_I _)]) ⟨rfl, rfl, rfl, trivial⟩ ?_
      have en : kq = n + 1 := by omega
      subst en
      refine ho _ C fr ⟨B, cn_ST_mono (by rw [show (n + 1).toNat = n.toNat + 1 by omega]; exact hst) (fun f l r t => ?_)⟩ m13
      have e := cn_OI_all (st := st) (od := od) (u := u) (n := n.toNat + 1) (by omega) (fun k hk h => by rw [← o5]; rw [← o6] at h; exact hst.2.1.2.1 k hk h) f l r (by rw [← o6]; exact t)
      rw [show ((n.toNat + 1 : Nat) : Int) = n + 1 by omega] at e
      exact e
theorem kx_109_124_4_b7 {E : q_E} {σ : x_S} {Q : Option q_V → x_S → Prop} (C0 : y_CI σ) {A : Nat → Int} (hP : y_PI A) (h4 : y_PG σ 4 A) (cr : σ 124 14 = 1 → cn_RC σ 124 A 1) (k : ∀ τ, y_CI τ → (∀ q m, (q < 124 ∨ 136 < q) → τ q m = σ q m) → τ 124 14 = 1 → cn_RC τ 124 A 1 → Q none τ) : ∀ (N : Nat) (n : Int) (τ : x_S), (54 - n).toNat = N → 0 ≤ n → n ≤ 54 → y_CI τ → (∀ q m, (q < 124 ∨ 136 < q) → τ q m = σ q m) → (∃ B, cn_ST τ 124 A 1 (fun f l r => cn_tri (fun k => τ 130 k = 1) f l r) n.toNat B) → τ 124 13 = n → x_G E m_109 Q (t_109 7) [(0, x_R 124), (1, x_R 4), (2, x_I n)] [] τ := by
  intro N
  induction N using Nat.strongRecOn with
  | ind N ih =>
    intro n τ hN n0 n1 C fr hst m13
    obtain ⟨B, hst⟩ := hst
    refine x_blk (b := 7) (a_109 E) rfl ?_
    unfold b_109_7
    refine x_iload rfl ?_
    refine x_push 54 rfl ?_
    refine x_icmp_ge (by omega) (by omega) (by omega) (by omega) (fun z1 => ?_) (fun z1 => ?_)
    · skip
      refine x_aload rfl ?_
      refine x_cV (fun _ => rfl) rfl (by decide) (Nat.le_of_ble_eq_true rfl) ?_
      refine kx_70_124 C hst.1 (fun hall => ?_) (fun v2 v2a v2b vs vz vm => ?_)
      · skip
        refine x_istore ?_
        refine x_iload rfl ?_
        refine x_push 54 rfl ?_
        refine x_cS (fun _ => rfl) (Nat.le_of_ble_eq_true rfl) ?_
        refine sf_2 (by omega) (by omega) (by omega) (by omega) C (fun y3 => absurd y3 (by omega)) (fun y3 => ?_)
        refine x_if_ne (by omega) (by omega) (fun z4 => ?_) (fun z => absurd (by omega) z)
        refine x_goto ?_
        refine x_blk (b := 2) (a_109 E) rfl ?_
        unfold b_109_2
        refine x_aload rfl ?_
        refine x_push 1 rfl ?_
        refine x_putZG y_f124_14 rfl (by decide) C (by decide) (y_fr_rf (lo := 0) (hi := 138)) (by omega) (fun S5 e5 C5 F5 => ?_)
        refine x_vret ?_
        refine k _ C5 (fun q m h => (x_up_nr e5 (by omega)).trans (fr q m h)) (x_up_at e5) ?_
        have R := cn_I_R hst.1 hst.2.1 (fun f l r z => z) hall
        unfold cn_RC
        rw [x_up_rw e5 (q := 124 + 1) (by decide), x_up_rw e5 (q := 124 + 2) (by decide), x_up_rw e5 (q := 124 + 3) (by decide), x_up_rw e5 (q := 124 + 4) (by decide), x_up_rw e5 (q := 124 + 5) (by decide), x_up_ne e5 (r' := 124) (k' := 13) (by decide), m13, show n = ((n.toNat : Nat) : Int) by omega]
        exact R
      · skip
        refine x_istore ?_
        refine x_iload rfl ?_
        refine x_push 54 rfl ?_
        refine x_cS (fun _ => rfl) (Nat.le_of_ble_eq_true rfl) ?_
        refine sf_2 (by omega) (by omega) (by omega) (by omega) C (fun y6 => ?_) (fun y6 => absurd (by omega) y6)
        refine x_if_ne (by omega) (by omega) (fun z => absurd z (by omega)) (fun z7 => ?_)
        refine x_blk (b := 3) (a_109 E) rfl ?_
        unfold b_109_3
        refine x_aload rfl ?_
        refine x_iload rfl ?_
        refine x_iload rfl ?_
        refine x_cV (fun _ => rfl) rfl (by decide) (Nat.le_of_ble_eq_true rfl) ?_
        refine kx_79_124 (by omega) (by omega) (by omega) (by omega) C (fun S8 C8 f8 h5 h6 h13 hne hon => ?_)
        have ex : ((v2.toNat : Nat) : Int) = v2 := by omega
        have st8 := cn_ST_set hst (u := v2.toNat) (τ := S8) (by omega) vs vz vm (by rw [ex]; exact h5) h6 hne (by rw [ex]; exact hon) (fun q h => funext fun m => f8 q m (by omega))
        have zu : S8 128 v2.toNat = τ 128 v2.toNat := f8 _ _ (by omega)
        have su : S8 130 v2.toNat = 1 := by rw [h6]; exact y_wK_e
        have hA8 : y_AG (y_cv S8 4) A := by rw [cn_cv (fun q m _ _ => (f8 q m (by omega)).trans (fr q m (by omega)))]; exact h4.1
        have of1 := cn_of1 (S := fun k => S8 130 k = 1) (sz := S8 128) (u := v2) (by omega) (by omega) su zu
        refine x_aload rfl ?_
        refine x_aload rfl ?_
        refine x_push 2 rfl ?_
        refine x_iload rfl ?_
        refine x_push (-4) rfl ?_
        refine x_cV (fun _ => rfl) rfl (by decide) (Nat.le_of_ble_eq_true rfl) ?_
        refine kx_39_124_4 C8 hP hA8 st8 of1.1 of1.2 (fun S9 C9 f9 g9 st9 => ?_)
        have hA9 : y_AG (y_cv S9 4) A := by rw [cn_cv (fun q m _ _ => f9 q m (by omega))]; exact hA8
        refine x_push 0 rfl ?_
        refine x_istore ?_
        refine x_X_lo (lo' := [(0, x_R 124), (1, x_R 4), (2, x_I _), (3, x_I _), (4, x_I _)]) ⟨rfl, rfl, rfl, rfl, rfl, trivial⟩ ?_
        refine x_fall ?_
        refine x_G_lo (lo' := [(0, x_R 124), (1, x_R 4), (2, x_I _), (3, x_I _), (4, x_I _)]) ⟨rfl, rfl, rfl, rfl, rfl, trivial⟩ ?_
        have o6 : S9 130 = y_wK (τ 130) v2.toNat 1 := (funext fun m => f9 _ m (by omega)).trans h6
        refine kx_109_124_4_b6 C0 hP h4 cr k (n := n) (u := v2) (B := τ 128 v2.toNat) (st := τ 130) (od := S9 129) (by omega) (by omega) (by omega) (by omega) ?_ (fun τ' C' fr' hs' m' => ih _ (by omega) _ _ rfl (by omega) (by omega) C' fr' hs' m') _ 0 _ rfl (by omega) (by omega) C9 (fun q m h => (f9 q m (by omega)).trans ((f8 q m (by omega)).trans (fr q m h))) ((f9 _ _ (by omega)).trans h13) rfl o6 ((g9 _ su).trans zu) (cn_ST_mono st9 cn_OI_0)
        rw [show S9 129 = S8 129 from funext fun m => f9 _ m (by omega), h5]
        exact y_wK_e
    · skip
      refine x_blk (b := 2) (a_109 E) rfl ?_
      unfold b_109_2
      refine x_aload rfl ?_
      refine x_push 1 rfl ?_
      refine x_putZG y_f124_14 rfl (by decide) C (by decide) (y_fr_rf (lo := 0) (hi := 138)) (by omega) (fun S10 e10 C10 F10 => ?_)
      refine x_vret ?_
      have hall : ∀ k : Nat, k < 54 → 0 < τ 128 k → τ 130 k = 1 := fun k hk _ => y_sum_1 (f := τ 130) (n := 54) (fun i hi => (hst.2.1.2.2.2.1 i hi).2) (by have q : (n.toNat : Int) = y_sum (τ 130) 54 := hst.2.1.2.2.2.2; omega) k hk
      refine k _ C10 (fun q m h => (x_up_nr e10 (by omega)).trans (fr q m h)) (x_up_at e10) ?_
      have R := cn_I_R hst.1 hst.2.1 (fun f l r z => z) hall
      unfold cn_RC
      rw [x_up_rw e10 (q := 124 + 1) (by decide), x_up_rw e10 (q := 124 + 2) (by decide), x_up_rw e10 (q := 124 + 3) (by decide), x_up_rw e10 (q := 124 + 4) (by decide), x_up_rw e10 (q := 124 + 5) (by decide), x_up_ne e10 (r' := 124) (k' := 13) (by decide), m13, show n = ((n.toNat : Nat) : Int) by omega]
      exact R
theorem kx_109_124_4 {E : q_E} {σ : x_S} {Q : Option q_V → x_S → Prop} (C0 : y_CI σ) {A : Nat → Int} (hP : y_PI A) (h4 : y_PG σ 4 A) (cr : σ 124 14 = 1 → cn_RC σ 124 A 1) (k : ∀ τ, y_CI τ → (∀ q m, (q < 124 ∨ 136 < q) → τ q m = σ q m) → τ 124 14 = 1 → cn_RC τ 124 A 1 → Q none τ) : x_P E 109 [x_R 124, x_R 4] σ Q := by
  refine x_Mt e_109 (h_109 E) (Nat.le_of_ble_eq_true rfl) t_109 rfl ?_
  refine x_blk (b := 0) (a_109 E) rfl ?_
  unfold b_109_0
  refine x_aload rfl ?_
  refine x_getIG y_f124_14 C0 ?_
  intro g1a g1b
  refine x_if_eq (by omega) (by omega) (fun z2 => ?_) (fun z2 => ?_)
  · skip
    refine x_blk (b := 1) (a_109 E) rfl ?_
    unfold b_109_1
    refine x_aload rfl ?_
    refine x_aload rfl ?_
    refine x_cV (fun _ => rfl) rfl (by decide) (Nat.le_of_ble_eq_true rfl) ?_
    refine kx_110_124_4 C0 hP h4 (fun S3 C3 f3 m3 st3 => ?_)
    have hA3 : y_AG (y_cv S3 4) A := by rw [cn_cv (fun q m _ _ => f3 q m (by omega))]; exact h4.1
    refine x_aload rfl ?_
    refine x_aload rfl ?_
    refine x_push 0 rfl ?_
    refine x_push (-4) rfl ?_
    refine x_push (-4) rfl ?_
    refine x_cV (fun _ => rfl) rfl (by decide) (Nat.le_of_ble_eq_true rfl) ?_
    have of := cn_of0 (S := fun k => S3 130 k = 1) (sz := S3 128) (f := 0) (by omega)
    refine kx_39_124_4 C3 hP hA3 st3 of.1 of.2 (fun S4 C4 f4 g4 st4 => ?_)
    have hA4 : y_AG (y_cv S4 4) A := by rw [cn_cv (fun q m _ _ => f4 q m (by omega))]; exact hA3
    refine x_aload rfl ?_
    refine x_aload rfl ?_
    refine x_push 1 rfl ?_
    refine x_push (-4) rfl ?_
    refine x_push (-4) rfl ?_
    refine x_cV (fun _ => rfl) rfl (by decide) (Nat.le_of_ble_eq_true rfl) ?_
    have of := cn_of0 (S := fun k => S4 130 k = 1) (sz := S4 128) (f := 1) (by omega)
    refine kx_39_124_4 C4 hP hA4 st4 of.1 of.2 (fun S5 C5 f5 g5 st5 => ?_)
    have hA5 : y_AG (y_cv S5 4) A := by rw [cn_cv (fun q m _ _ => f5 q m (by omega))]; exact hA4
    refine x_push 0 rfl ?_
    refine x_istore ?_
    refine x_fall ?_
    refine x_G_lo (lo' := [(0, x_R 124), (1, x_R 4), (2, x_I _)]) ⟨rfl, rfl, rfl, trivial⟩ ?_
    refine kx_109_124_4_b7 C0 hP h4 cr k _ 0 _ rfl (by omega) (by omega) C5 (fun q m h => (f5 q m (by omega)).trans ((f4 q m (by omega)).trans (f3 q m (by omega)))) ⟨0, cn_ST_mono st5 (fun f l r t => ?_)⟩ ((f5 _ _ (by omega)).trans ((f4 _ _ (by omega)).trans m3))
    have s0 : ∀ k : Nat, k < 54 → ¬ S5 130 k = 1 := fun k hk h => by
      obtain ⟨i, hi, _⟩ := st5.2.1.2.1 k hk h
      exact absurd hi (by omega)
    obtain ⟨t1, t2, t3, t4, t5⟩ := t
    have ch := y_chx f
    have c0 : y_ch f < 1 := by
      by_cases z : 1 ≤ y_ch f
      · exact absurd (t2 z).2 (s0 l (t2 z).1)
      · omega
    have l0 := t3 c0
    have r0 := t5 (by omega)
    have f01 : f = 0 ∨ f = 1 := by omega
    rcases f01 with e | e
    · exact Or.inl (Or.inr ⟨e, l0, r0⟩)
    · exact Or.inr ⟨e, l0, r0⟩
  · skip
    refine x_vret ?_
    exact k _ C0 (fun _ _ _ => rfl) (by omega) (cr (by omega))
theorem kx_161_111_b4 {E : q_E} {σ : x_S} {Q : Option q_V → x_S → Prop} {a1 a2 : Int} (r1 : 0 ≤ a1) (r2 : a1 ≤ 53) (C0 : y_CI σ) {pf : Int → Nat → Nat → Nat} {S : Nat → Prop} (T : cn_TS pf S (σ 112) (σ 113) (σ 114) (σ 115)) (hS : S a1.toNat) (z40 : σ 115 a1.toNat ≤ 40) (i0 : 0 ≤ a2) (i1 : a2 < σ 115 a1.toNat) (k : ∀ v, v = cn_at (cn_LL (σ 112) (σ 113) (σ 114) a1) a2.toNat → Q (some (x_I v)) σ) : ∀ (N : Nat) (t h d : Int), (40 - d).toNat = N → 0 ≤ d → d ≤ 40 → 0 ≤ t → t ≤ 53 → S t.toNat → σ 115 t.toNat ≤ 40 - d → 0 ≤ h → h < σ 115 t.toNat → cn_at (cn_LL (σ 112) (σ 113) (σ 114) t) h.toNat = cn_at (cn_LL (σ 112) (σ 113) (σ 114) a1) a2.toNat → x_G E m_161 Q (t_161 4) [(0, x_R 111), (3, x_I t), (4, x_I h), (5, x_I d)] [] σ := by
  intro N
  induction N using Nat.strongRecOn with
  | ind N ih =>
    intro t h d hN d0 d1 t0 t1 tS tz h0 hh hat
    have ts := (T t.toNat (by omega) tS).2.2.2
    refine x_blk (b := 4) (a_161 E) rfl ?_
    unfold b_161_4
    refine x_iload rfl ?_
    refine x_push 40 rfl ?_
    refine x_icmp_ge (by omega) (by omega) (by omega) (by omega) (fun z1 => ?_) (fun z1 => ?_)
    · skip
      refine x_iload rfl ?_
      refine x_if_le (by omega) (by omega) (fun z2 => ?_) (fun z2 => ?_)
      · skip
        refine x_blk (b := 1) (a_161 E) rfl ?_
        unfold b_161_1
        refine x_iload rfl ?_
        refine x_push 54 rfl ?_
        refine x_cS (fun _ => rfl) (Nat.le_of_ble_eq_true rfl) ?_
        refine sf_2 (by omega) (by omega) (by omega) (by omega) C0 (fun y3 => ?_) (fun y3 => absurd (by omega) y3)
        refine x_if_eq (by omega) (by omega) (fun z => absurd z (by omega)) (fun z4 => ?_)
        refine x_aload rfl ?_
        refine x_getR (r := 111) rfl (by decide) (by decide) rfl ?_
        refine x_iload rfl ?_
        refine x_ialdX y_a112 C0 (by omega) (by omega) (fun v5 v5x v5a v5b => ?_)
        refine x_goto ?_
        refine x_blk (b := 6) (a_161 E) rfl ?_
        unfold b_161_6
        refine x_iret ?_
        refine k _ ?_
        rw [← hat, show h = 0 by omega, cn_LL_e T (by omega) (by omega) tS (by omega)]
        exact v5x
      · skip
        refine x_iload rfl ?_
        refine x_push 54 rfl ?_
        refine x_cS (fun _ => rfl) (Nat.le_of_ble_eq_true rfl) ?_
        refine sf_2 (by omega) (by omega) (by omega) (by omega) C0 (fun y6 => ?_) (fun y6 => absurd (by omega) y6)
        refine x_if_eq (by omega) (by omega) (fun z => absurd z (by omega)) (fun z7 => ?_)
        refine x_iinc (-1) rfl rfl ?_
        refine x_aload rfl ?_
        refine x_aload rfl ?_
        refine x_getR (r := 111) rfl (by decide) (by decide) rfl ?_
        refine x_iload rfl ?_
        refine x_ialdX y_a113 C0 (by omega) (by omega) (fun v8 v8x v8a v8b => ?_)
        have ok8 := cn_okx (T t.toNat (by omega) tS).1
        refine x_cV (fun _ => rfl) rfl (by decide) (Nat.le_of_ble_eq_true rfl) ?_
        refine kx_41_111 (by omega) (by omega) C0 (fun v9 v9a v9b v9c => ?_)
        have sz9 : v9 = cn_s (σ 115) v8 := by
          unfold cn_s
          rcases v9c with ⟨q1, q2⟩ | ⟨q1, q2⟩
          · rw [if_pos q1]; exact q2
          · rw [if_neg q1]; exact q2
        rw [v8x] at sz9
        have sp := cn_at_S T (n := 40 - d) (by omega) (by omega) tS (by omega) (by omega) (by omega) hh
        refine x_istore ?_
        refine x_X_lo (lo' := [(0, x_R 111), (3, x_I _), (4, x_I _), (5, x_I _), (6, x_I _)]) ⟨rfl, rfl, rfl, rfl, rfl, trivial⟩ ?_
        refine x_iload rfl ?_
        refine x_iload rfl ?_
        refine x_icmp_ge (by omega) (by omega) (by omega) (by omega) (fun z10 => ?_) (fun z10 => ?_)
        · skip
          refine x_aload rfl ?_
          refine x_getR (r := 111) rfl (by decide) (by decide) rfl ?_
          refine x_iload rfl ?_
          refine x_ialdX y_a113 C0 (by omega) (by omega) (fun v11 v11x v11a v11b => ?_)
          have ok11 := cn_okx (T t.toNat (by omega) tS).1
          refine x_istore ?_
          refine x_goto ?_
          refine x_blk (b := 3) (a_161 E) rfl ?_
          unfold b_161_3
          refine x_iinc 1 rfl rfl ?_
          refine x_X_lo (lo' := [(0, x_R 111), (3, x_I _), (4, x_I _), (5, x_I _), (6, x_I _)]) ⟨rfl, rfl, rfl, rfl, rfl, trivial⟩ ?_
          refine x_goto ?_
          refine x_G_lo (lo' := [(0, x_R 111), (3, x_I _), (4, x_I _), (5, x_I _)]) ⟨rfl, rfl, rfl, rfl, trivial⟩ ?_
          have w := sp.1 (by omega)
          refine ih _ (by omega) _ _ _ rfl (by omega) (by omega) (by omega) (by omega) (by rw [v11x]; exact w.1.2.2.1) (by rw [v11x]; omega) (by omega) (by rw [v11x]; omega) ?_
          rw [v11x]
          refine Eq.trans ?_ hat
          rw [w.2.2]
          congr 1 <;> omega
        · skip
          refine x_blk (b := 2) (a_161 E) rfl ?_
          unfold b_161_2
          refine x_iload rfl ?_
          refine x_iload rfl ?_
          refine x_isub ?_
          refine x_istore ?_
          refine x_aload rfl ?_
          refine x_getR (r := 111) rfl (by decide) (by decide) rfl ?_
          refine x_iload rfl ?_
          refine x_ialdX y_a114 C0 (by omega) (by omega) (fun v12 v12x v12a v12b => ?_)
          have ok12 := cn_okx (T t.toNat (by omega) tS).1
          refine x_istore ?_
          refine x_X_lo (lo' := [(0, x_R 111), (3, x_I _), (4, x_I _), (5, x_I _), (6, x_I _)]) ⟨rfl, rfl, rfl, rfl, rfl, trivial⟩ ?_
          refine x_fall ?_
          refine x_blk (b := 3) (a_161 E) rfl ?_
          unfold b_161_3
          refine x_iinc 1 rfl rfl ?_
          refine x_goto ?_
          refine x_G_lo (lo' := [(0, x_R 111), (3, x_I _), (4, x_I _), (5, x_I _)]) ⟨rfl, rfl, rfl, rfl, trivial⟩ ?_
          have w := sp.2 (by omega)
          refine ih _ (by omega) _ _ _ rfl (by omega) (by omega) (by omega) (by omega) (by rw [v12x]; exact w.1.2.2.1) (by rw [v12x]; omega) (by omega) (by rw [v12x]; omega) ?_
          rw [v12x]
          refine Eq.trans ?_ hat
          rw [w.2.2]
          congr 1 <;> omega
    · skip
      refine x_blk (b := 1) (a_161 E) rfl ?_
      unfold b_161_1
      refine x_iload rfl ?_
      refine x_push 54 rfl ?_
      refine x_cS (fun _ => rfl) (Nat.le_of_ble_eq_true rfl) ?_
      refine sf_2 (by omega) (by omega) (by omega) (by omega) C0 (fun y13 => ?_) (fun y13 => absurd (by omega) y13)
      refine x_if_eq (by omega) (by omega) (fun z => absurd z (by omega)) (fun z14 => ?_)
      refine x_aload rfl ?_
      refine x_getR (r := 111) rfl (by decide) (by decide) rfl ?_
      refine x_iload rfl ?_
      refine x_ialdX y_a112 C0 (by omega) (by omega) (fun v15 v15x v15a v15b => ?_)
      refine x_goto ?_
      refine x_blk (b := 6) (a_161 E) rfl ?_
      unfold b_161_6
      refine x_iret ?_
      refine k _ ?_
      rw [← hat, show h = 0 by omega, cn_LL_e T (by omega) (by omega) tS (by omega)]
      exact v15x
theorem kx_161_111 {E : q_E} {σ : x_S} {Q : Option q_V → x_S → Prop} {a1 a2 : Int} (r1 : 0 ≤ a1) (r2 : a1 ≤ 53) (C0 : y_CI σ) {pf : Int → Nat → Nat → Nat} {S : Nat → Prop} (T : cn_TS pf S (σ 112) (σ 113) (σ 114) (σ 115)) (hS : S a1.toNat) (z40 : σ 115 a1.toNat ≤ 40) (i0 : 0 ≤ a2) (i1 : a2 < σ 115 a1.toNat) (k : ∀ v, v = cn_at (cn_LL (σ 112) (σ 113) (σ 114) a1) a2.toNat → Q (some (x_I v)) σ) : x_P E 161 [x_R 111, x_I a1, x_I a2] σ Q := by
  refine x_Mt e_161 (h_161 E) (Nat.le_of_ble_eq_true rfl) t_161 rfl ?_
  refine x_blk (b := 0) (a_161 E) rfl ?_
  unfold b_161_0
  refine x_iload rfl ?_
  refine x_istore ?_
  refine x_iload rfl ?_
  refine x_istore ?_
  refine x_X_lo (lo' := [(0, x_R 111), (1, x_I _), (2, x_I _), (3, x_I _), (4, x_I _)]) ⟨rfl, rfl, rfl, rfl, rfl, trivial⟩ ?_
  refine x_push 0 rfl ?_
  refine x_istore ?_
  refine x_fall ?_
  refine x_G_lo (lo' := [(0, x_R 111), (3, x_I _), (4, x_I _), (5, x_I _)]) ⟨rfl, rfl, rfl, rfl, trivial⟩ ?_
  exact kx_161_111_b4 r1 r2 C0 T hS z40 i0 i1 k _ _ _ 0 rfl (by omega) (by omega) r1 r2 hS (by omega) i0 i1 rfl
theorem kx_161_124_b4 {E : q_E} {σ : x_S} {Q : Option q_V → x_S → Prop} {a1 a2 : Int} (r1 : 0 ≤ a1) (r2 : a1 ≤ 53) (C0 : y_CI σ) {pf : Int → Nat → Nat → Nat} {S : Nat → Prop} (T : cn_TS pf S (σ 125) (σ 126) (σ 127) (σ 128)) (hS : S a1.toNat) (z40 : σ 128 a1.toNat ≤ 40) (i0 : 0 ≤ a2) (i1 : a2 < σ 128 a1.toNat) (k : ∀ v, v = cn_at (cn_LL (σ 125) (σ 126) (σ 127) a1) a2.toNat → Q (some (x_I v)) σ) : ∀ (N : Nat) (t h d : Int), (40 - d).toNat = N → 0 ≤ d → d ≤ 40 → 0 ≤ t → t ≤ 53 → S t.toNat → σ 128 t.toNat ≤ 40 - d → 0 ≤ h → h < σ 128 t.toNat → cn_at (cn_LL (σ 125) (σ 126) (σ 127) t) h.toNat = cn_at (cn_LL (σ 125) (σ 126) (σ 127) a1) a2.toNat → x_G E m_161 Q (t_161 4) [(0, x_R 124), (3, x_I t), (4, x_I h), (5, x_I d)] [] σ := by
  intro N
  induction N using Nat.strongRecOn with
  | ind N ih =>
    intro t h d hN d0 d1 t0 t1 tS tz h0 hh hat
    have ts := (T t.toNat (by omega) tS).2.2.2
    refine x_blk (b := 4) (a_161 E) rfl ?_
    unfold b_161_4
    refine x_iload rfl ?_
    refine x_push 40 rfl ?_
    refine x_icmp_ge (by omega) (by omega) (by omega) (by omega) (fun z1 => ?_) (fun z1 => ?_)
    · skip
      refine x_iload rfl ?_
      refine x_if_le (by omega) (by omega) (fun z2 => ?_) (fun z2 => ?_)
      · skip
        refine x_blk (b := 1) (a_161 E) rfl ?_
        unfold b_161_1
        refine x_iload rfl ?_
        refine x_push 54 rfl ?_
        refine x_cS (fun _ => rfl) (Nat.le_of_ble_eq_true rfl) ?_
        refine sf_2 (by omega) (by omega) (by omega) (by omega) C0 (fun y3 => ?_) (fun y3 => absurd (by omega) y3)
        refine x_if_eq (by omega) (by omega) (fun z => absurd z (by omega)) (fun z4 => ?_)
        refine x_aload rfl ?_
        refine x_getR (r := 124) rfl (by decide) (by decide) rfl ?_
        refine x_iload rfl ?_
        refine x_ialdX y_a125 C0 (by omega) (by omega) (fun v5 v5x v5a v5b => ?_)
        refine x_goto ?_
        refine x_blk (b := 6) (a_161 E) rfl ?_
        unfold b_161_6
        refine x_iret ?_
        refine k _ ?_
        rw [← hat, show h = 0 by omega, cn_LL_e T (by omega) (by omega) tS (by omega)]
        exact v5x
      · skip
        refine x_iload rfl ?_
        refine x_push 54 rfl ?_
        refine x_cS (fun _ => rfl) (Nat.le_of_ble_eq_true rfl) ?_
        refine sf_2 (by omega) (by omega) (by omega) (by omega) C0 (fun y6 => ?_) (fun y6 => absurd (by omega) y6)
        refine x_if_eq (by omega) (by omega) (fun z => absurd z (by omega)) (fun z7 => ?_)
        refine x_iinc (-1) rfl rfl ?_
        refine x_aload rfl ?_
        refine x_aload rfl ?_
        refine x_getR (r := 124) rfl (by decide) (by decide) rfl ?_
        refine x_iload rfl ?_
        refine x_ialdX y_a126 C0 (by omega) (by omega) (fun v8 v8x v8a v8b => ?_)
        have ok8 := cn_okx (T t.toNat (by omega) tS).1
        refine x_cV (fun _ => rfl) rfl (by decide) (Nat.le_of_ble_eq_true rfl) ?_
        refine kx_41_124 (by omega) (by omega) C0 (fun v9 v9a v9b v9c => ?_)
        have sz9 : v9 = cn_s (σ 128) v8 := by
          unfold cn_s
          rcases v9c with ⟨q1, q2⟩ | ⟨q1, q2⟩
          · rw [if_pos q1]; exact q2
          · rw [if_neg q1]; exact q2
        rw [v8x] at sz9
        have sp := cn_at_S T (n := 40 - d) (by omega) (by omega) tS (by omega) (by omega) (by omega) hh
        refine x_istore ?_
        refine x_X_lo (lo' := [(0, x_R 124), (3, x_I _), (4, x_I _), (5, x_I _), (6, x_I _)]) ⟨rfl, rfl, rfl, rfl, rfl, trivial⟩ ?_
        refine x_iload rfl ?_
        refine x_iload rfl ?_
        refine x_icmp_ge (by omega) (by omega) (by omega) (by omega) (fun z10 => ?_) (fun z10 => ?_)
        · skip
          refine x_aload rfl ?_
          refine x_getR (r := 124) rfl (by decide) (by decide) rfl ?_
          refine x_iload rfl ?_
          refine x_ialdX y_a126 C0 (by omega) (by omega) (fun v11 v11x v11a v11b => ?_)
          have ok11 := cn_okx (T t.toNat (by omega) tS).1
          refine x_istore ?_
          refine x_goto ?_
          refine x_blk (b := 3) (a_161 E) rfl ?_
          unfold b_161_3
          refine x_iinc 1 rfl rfl ?_
          refine x_X_lo (lo' := [(0, x_R 124), (3, x_I _), (4, x_I _), (5, x_I _), (6, x_I _)]) ⟨rfl, rfl, rfl, rfl, rfl, trivial⟩ ?_
          refine x_goto ?_
          refine x_G_lo (lo' := [(0, x_R 124), (3, x_I _), (4, x_I _), (5, x_I _)]) ⟨rfl, rfl, rfl, rfl, trivial⟩ ?_
          have w := sp.1 (by omega)
          refine ih _ (by omega) _ _ _ rfl (by omega) (by omega) (by omega) (by omega) (by rw [v11x]; exact w.1.2.2.1) (by rw [v11x]; omega) (by omega) (by rw [v11x]; omega) ?_
          rw [v11x]
          refine Eq.trans ?_ hat
          rw [w.2.2]
          congr 1 <;> omega
        · skip
          refine x_blk (b := 2) (a_161 E) rfl ?_
          unfold b_161_2
          refine x_iload rfl ?_
          refine x_iload rfl ?_
          refine x_isub ?_
          refine x_istore ?_
          refine x_aload rfl ?_
          refine x_getR (r := 124) rfl (by decide) (by decide) rfl ?_
          refine x_iload rfl ?_
          refine x_ialdX y_a127 C0 (by omega) (by omega) (fun v12 v12x v12a v12b => ?_)
          have ok12 := cn_okx (T t.toNat (by omega) tS).1
          refine x_istore ?_
          refine x_X_lo (lo' := [(0, x_R 124), (3, x_I _), (4, x_I _), (5, x_I _), (6, x_I _)]) ⟨rfl, rfl, rfl, rfl, rfl, trivial⟩ ?_
          refine x_fall ?_
          refine x_blk (b := 3) (a_161 E) rfl ?_
          unfold b_161_3
          refine x_iinc 1 rfl rfl ?_
          refine x_goto ?_
          refine x_G_lo (lo' := [(0, x_R 124), (3, x_I _), (4, x_I _), (5, x_I _)]) ⟨rfl, rfl, rfl, rfl, trivial⟩ ?_
          have w := sp.2 (by omega)
          refine ih _ (by omega) _ _ _ rfl (by omega) (by omega) (by omega) (by omega) (by rw [v12x]; exact w.1.2.2.1) (by rw [v12x]; omega) (by omega) (by rw [v12x]; omega) ?_
          rw [v12x]
          refine Eq.trans ?_ hat
          rw [w.2.2]
          congr 1 <;> omega
    · skip
      refine x_blk (b := 1) (a_161 E) rfl ?_
      unfold b_161_1
      refine x_iload rfl ?_
      refine x_push 54 rfl ?_
      refine x_cS (fun _ => rfl) (Nat.le_of_ble_eq_true rfl) ?_
      refine sf_2 (by omega) (by omega) (by omega) (by omega) C0 (fun y13 => ?_) (fun y13 => absurd (by omega) y13)
      refine x_if_eq (by omega) (by omega) (fun z => absurd z (by omega)) (fun z14 => ?_)
      refine x_aload rfl ?_
      refine x_getR (r := 124) rfl (by decide) (by decide) rfl ?_
      refine x_iload rfl ?_
      refine x_ialdX y_a125 C0 (by omega) (by omega) (fun v15 v15x v15a v15b => ?_)
      refine x_goto ?_
      refine x_blk (b := 6) (a_161 E) rfl ?_
      unfold b_161_6
      refine x_iret ?_
      refine k _ ?_
      rw [← hat, show h = 0 by omega, cn_LL_e T (by omega) (by omega) tS (by omega)]
      exact v15x
theorem kx_161_124 {E : q_E} {σ : x_S} {Q : Option q_V → x_S → Prop} {a1 a2 : Int} (r1 : 0 ≤ a1) (r2 : a1 ≤ 53) (C0 : y_CI σ) {pf : Int → Nat → Nat → Nat} {S : Nat → Prop} (T : cn_TS pf S (σ 125) (σ 126) (σ 127) (σ 128)) (hS : S a1.toNat) (z40 : σ 128 a1.toNat ≤ 40) (i0 : 0 ≤ a2) (i1 : a2 < σ 128 a1.toNat) (k : ∀ v, v = cn_at (cn_LL (σ 125) (σ 126) (σ 127) a1) a2.toNat → Q (some (x_I v)) σ) : x_P E 161 [x_R 124, x_I a1, x_I a2] σ Q := by
  refine x_Mt e_161 (h_161 E) (Nat.le_of_ble_eq_true rfl) t_161 rfl ?_
  refine x_blk (b := 0) (a_161 E) rfl ?_
  unfold b_161_0
  refine x_iload rfl ?_
  refine x_istore ?_
  refine x_iload rfl ?_
  refine x_istore ?_
  refine x_X_lo (lo' := [(0, x_R 124), (1, x_I _), (2, x_I _), (3, x_I _), (4, x_I _)]) ⟨rfl, rfl, rfl, rfl, rfl, trivial⟩ ?_
  refine x_push 0 rfl ?_
  refine x_istore ?_
  refine x_fall ?_
  refine x_G_lo (lo' := [(0, x_R 124), (3, x_I _), (4, x_I _), (5, x_I _)]) ⟨rfl, rfl, rfl, rfl, trivial⟩ ?_
  exact kx_161_124_b4 r1 r2 C0 T hS z40 i0 i1 k _ _ _ 0 rfl (by omega) (by omega) r1 r2 hS (by omega) i0 i1 rfl
theorem kx_164_111_b3 {E : q_E} {σ : x_S} {Q : Option q_V → x_S → Prop} {a1 a2 : Int} (q1 : 0 ≤ a1) (q2 : a1 ≤ 2) (w1 : 0 ≤ a2) (w2 : a2 ≤ 2) (C0 : y_CI σ) (kN : (∀ j : Nat, (j : Int) < σ 111 13 → cn_ti (σ 116 j) a1 ≠ a2) → Q (some (x_I (-4))) σ) (kS : ∀ i : Nat, (i : Int) < σ 111 13 → i < 54 → cn_ti (σ 116 i) a1 = a2 → (∀ j : Nat, (j : Int) < i → cn_ti (σ 116 j) a1 ≠ a2) → Q (some (x_I (σ 116 i))) σ) : ∀ (N : Nat) (n : Int), (54 - n).toNat = N → 0 ≤ n → n ≤ 54 → (∀ j : Nat, (j : Int) < n → cn_ti (σ 116 j) a1 ≠ a2) → x_G E m_164 Q (t_164 3) [(0, x_R 111), (1, x_I a1), (2, x_I a2), (3, x_I n)] [] σ := by
  intro N
  induction N using Nat.strongRecOn with
  | ind N ih =>
    intro n hN n0 n1 ne
    have c13 : 0 ≤ σ 111 13 ∧ σ 111 13 ≤ 54 := C0 111 13 (by decide) (by decide) (by decide)
    refine x_blk (b := 3) (a_164 E) rfl ?_
    unfold b_164_3
    refine x_iload rfl ?_
    refine x_aload rfl ?_
    refine x_getIG y_f111_13 C0 ?_
    intro g1a g1b
    refine x_icmp_ge (by omega) (by omega) (by omega) (by omega) (fun z2 => ?_) (fun z2 => ?_)
    · skip
      refine x_iload rfl ?_
      refine x_push 54 rfl ?_
      refine x_icmp_ge (by omega) (by omega) (by omega) (by omega) (fun z3 => ?_) (fun z => absurd (by omega) z)
      refine x_aload rfl ?_
      refine x_getR (r := 111) rfl (by decide) (by decide) rfl ?_
      refine x_iload rfl ?_
      refine x_ialdX y_a116 C0 (by omega) (by omega) (fun v4 v4x v4a v4b => ?_)
      refine x_iload rfl ?_
      refine x_cS (fun _ => rfl) (Nat.le_of_ble_eq_true rfl) ?_
      refine kx_61 (by omega) (by omega) (by omega) (by omega) C0 (fun v5 v5a v5b v5c => ?_)
      rw [v4x] at v5c
      refine x_iload rfl ?_
      refine x_icmp_ne (by omega) (by omega) (by omega) (by omega) (fun z6 => ?_) (fun z6 => ?_)
      · skip
        refine x_aload rfl ?_
        refine x_getR (r := 111) rfl (by decide) (by decide) rfl ?_
        refine x_iload rfl ?_
        refine x_ialdX y_a116 C0 (by omega) (by omega) (fun v7 v7x v7a v7b => ?_)
        refine x_iret ?_
        rw [v7x]
        exact kS n.toNat (by omega) (by omega) (by omega) (fun j hj => ne j (by omega))
      · skip
        refine x_blk (b := 2) (a_164 E) rfl ?_
        unfold b_164_2
        refine x_iinc 1 rfl rfl ?_
        refine x_goto ?_
        refine x_G_lo (lo' := [(0, x_R 111), (1, x_I _), (2, x_I _), (3, x_I _)]) ⟨rfl, rfl, rfl, rfl, trivial⟩ ?_
        refine ih _ (by omega) _ rfl (by omega) (by omega) (fun j hj => ?_)
        by_cases e : (j : Int) = n
        · rw [show j = n.toNat by omega, ← v5c]; exact fun z => by omega
        · exact ne j (by omega)
    · skip
      refine x_blk (b := 1) (a_164 E) rfl ?_
      unfold b_164_1
      refine x_push (-4) rfl ?_
      refine x_iret ?_
      exact kN (fun j hj => ne j (by omega))
theorem kx_164_111 {E : q_E} {σ : x_S} {Q : Option q_V → x_S → Prop} {a1 a2 : Int} (q1 : 0 ≤ a1) (q2 : a1 ≤ 2) (w1 : 0 ≤ a2) (w2 : a2 ≤ 2) (C0 : y_CI σ) (kN : (∀ j : Nat, (j : Int) < σ 111 13 → cn_ti (σ 116 j) a1 ≠ a2) → Q (some (x_I (-4))) σ) (kS : ∀ i : Nat, (i : Int) < σ 111 13 → i < 54 → cn_ti (σ 116 i) a1 = a2 → (∀ j : Nat, (j : Int) < i → cn_ti (σ 116 j) a1 ≠ a2) → Q (some (x_I (σ 116 i))) σ) : x_P E 164 [x_R 111, x_I a1, x_I a2] σ Q := by
  refine x_Mt e_164 (h_164 E) (Nat.le_of_ble_eq_true rfl) t_164 rfl ?_
  refine x_blk (b := 0) (a_164 E) rfl ?_
  unfold b_164_0
  refine x_push 0 rfl ?_
  refine x_istore ?_
  refine x_fall ?_
  refine x_G_lo (lo' := [(0, x_R 111), (1, x_I _), (2, x_I _), (3, x_I _)]) ⟨rfl, rfl, rfl, rfl, trivial⟩ ?_
  exact kx_164_111_b3 q1 q2 w1 w2 C0 kN kS _ 0 rfl (by omega) (by omega) (fun j hj => absurd hj (by omega))
theorem kx_164_124_b3 {E : q_E} {σ : x_S} {Q : Option q_V → x_S → Prop} {a1 a2 : Int} (q1 : 0 ≤ a1) (q2 : a1 ≤ 2) (w1 : 0 ≤ a2) (w2 : a2 ≤ 2) (C0 : y_CI σ) (kN : (∀ j : Nat, (j : Int) < σ 124 13 → cn_ti (σ 129 j) a1 ≠ a2) → Q (some (x_I (-4))) σ) (kS : ∀ i : Nat, (i : Int) < σ 124 13 → i < 54 → cn_ti (σ 129 i) a1 = a2 → (∀ j : Nat, (j : Int) < i → cn_ti (σ 129 j) a1 ≠ a2) → Q (some (x_I (σ 129 i))) σ) : ∀ (N : Nat) (n : Int), (54 - n).toNat = N → 0 ≤ n → n ≤ 54 → (∀ j : Nat, (j : Int) < n → cn_ti (σ 129 j) a1 ≠ a2) → x_G E m_164 Q (t_164 3) [(0, x_R 124), (1, x_I a1), (2, x_I a2), (3, x_I n)] [] σ := by
  intro N
  induction N using Nat.strongRecOn with
  | ind N ih =>
    intro n hN n0 n1 ne
    have c13 : 0 ≤ σ 124 13 ∧ σ 124 13 ≤ 54 := C0 124 13 (by decide) (by decide) (by decide)
    refine x_blk (b := 3) (a_164 E) rfl ?_
    unfold b_164_3
    refine x_iload rfl ?_
    refine x_aload rfl ?_
    refine x_getIG y_f124_13 C0 ?_
    intro g1a g1b
    refine x_icmp_ge (by omega) (by omega) (by omega) (by omega) (fun z2 => ?_) (fun z2 => ?_)
    · skip
      refine x_iload rfl ?_
      refine x_push 54 rfl ?_
      refine x_icmp_ge (by omega) (by omega) (by omega) (by omega) (fun z3 => ?_) (fun z => absurd (by omega) z)
      refine x_aload rfl ?_
      refine x_getR (r := 124) rfl (by decide) (by decide) rfl ?_
      refine x_iload rfl ?_
      refine x_ialdX y_a129 C0 (by omega) (by omega) (fun v4 v4x v4a v4b => ?_)
      refine x_iload rfl ?_
      refine x_cS (fun _ => rfl) (Nat.le_of_ble_eq_true rfl) ?_
      refine kx_61 (by omega) (by omega) (by omega) (by omega) C0 (fun v5 v5a v5b v5c => ?_)
      rw [v4x] at v5c
      refine x_iload rfl ?_
      refine x_icmp_ne (by omega) (by omega) (by omega) (by omega) (fun z6 => ?_) (fun z6 => ?_)
      · skip
        refine x_aload rfl ?_
        refine x_getR (r := 124) rfl (by decide) (by decide) rfl ?_
        refine x_iload rfl ?_
        refine x_ialdX y_a129 C0 (by omega) (by omega) (fun v7 v7x v7a v7b => ?_)
        refine x_iret ?_
        rw [v7x]
        exact kS n.toNat (by omega) (by omega) (by omega) (fun j hj => ne j (by omega))
      · skip
        refine x_blk (b := 2) (a_164 E) rfl ?_
        unfold b_164_2
        refine x_iinc 1 rfl rfl ?_
        refine x_goto ?_
        refine x_G_lo (lo' := [(0, x_R 124), (1, x_I _), (2, x_I _), (3, x_I _)]) ⟨rfl, rfl, rfl, rfl, trivial⟩ ?_
        refine ih _ (by omega) _ rfl (by omega) (by omega) (fun j hj => ?_)
        by_cases e : (j : Int) = n
        · rw [show j = n.toNat by omega, ← v5c]; exact fun z => by omega
        · exact ne j (by omega)
    · skip
      refine x_blk (b := 1) (a_164 E) rfl ?_
      unfold b_164_1
      refine x_push (-4) rfl ?_
      refine x_iret ?_
      exact kN (fun j hj => ne j (by omega))
theorem kx_164_124 {E : q_E} {σ : x_S} {Q : Option q_V → x_S → Prop} {a1 a2 : Int} (q1 : 0 ≤ a1) (q2 : a1 ≤ 2) (w1 : 0 ≤ a2) (w2 : a2 ≤ 2) (C0 : y_CI σ) (kN : (∀ j : Nat, (j : Int) < σ 124 13 → cn_ti (σ 129 j) a1 ≠ a2) → Q (some (x_I (-4))) σ) (kS : ∀ i : Nat, (i : Int) < σ 124 13 → i < 54 → cn_ti (σ 129 i) a1 = a2 → (∀ j : Nat, (j : Int) < i → cn_ti (σ 129 j) a1 ≠ a2) → Q (some (x_I (σ 129 i))) σ) : x_P E 164 [x_R 124, x_I a1, x_I a2] σ Q := by
  refine x_Mt e_164 (h_164 E) (Nat.le_of_ble_eq_true rfl) t_164 rfl ?_
  refine x_blk (b := 0) (a_164 E) rfl ?_
  unfold b_164_0
  refine x_push 0 rfl ?_
  refine x_istore ?_
  refine x_fall ?_
  refine x_G_lo (lo' := [(0, x_R 124), (1, x_I _), (2, x_I _), (3, x_I _)]) ⟨rfl, rfl, rfl, rfl, trivial⟩ ?_
  exact kx_164_124_b3 q1 q2 w1 w2 C0 kN kS _ 0 rfl (by omega) (by omega) (fun j hj => absurd hj (by omega))
theorem kx_159_0 {E : q_E} {σ : x_S} {Q : Option q_V → x_S → Prop} {a1 : Int} (a1l : -2147483648 ≤ a1) (a1h : a1 ≤ 2147483647) (C0 : y_CI σ) {A : Nat → Int} (hP : y_PI A) (h4 : y_PG σ 4 A) (hc : cn_CR σ A) (kB : ¬ (0 ≤ a1 ∧ a1 ≤ 1) → Q (some (x_I (-1))) σ) (k : (0 ≤ a1 ∧ a1 ≤ 1) → ∀ τ, y_CI τ → (∀ q m, (q < 111 ∨ 136 < q) → τ q m = σ q m) → cn_CR τ A → ∀ hd lf rt sz od : Nat → Int, ∀ mt : Int, cn_R (cn_pf A a1) hd lf rt sz od mt → Q (some (x_I mt)) τ) : x_P E 159 [x_R 0, x_I a1] σ Q := by
  refine x_Mt e_159 (h_159 E) (Nat.le_of_ble_eq_true rfl) t_159 rfl ?_
  refine x_blk (b := 0) (a_159 E) rfl ?_
  unfold b_159_0
  refine x_iload rfl ?_
  refine x_push 2 rfl ?_
  refine x_cS (fun _ => rfl) (Nat.le_of_ble_eq_true rfl) ?_
  refine sf_2 (by omega) (by omega) (by omega) (by omega) C0 (fun y1 => ?_) (fun y1 => ?_)
  · skip
    refine x_if_ne (by omega) (by omega) (fun z => absurd z (by omega)) (fun z2 => ?_)
    refine x_blk (b := 1) (a_159 E) rfl ?_
    unfold b_159_1
    refine x_aload rfl ?_
    refine x_iload rfl ?_
    refine x_cV (fun _ => rfl) rfl (by decide) (Nat.le_of_ble_eq_true rfl) ?_
    refine sf_108_0 (by omega) (by omega) C0 (fun y3 => ?_) (fun y3 => ?_)
    · skip
      refine x_astore ?_
      refine x_aload rfl ?_
      refine x_aload rfl ?_
      refine x_getR (r := 0) rfl (by decide) (by decide) rfl ?_
      refine x_cV (fun _ => rfl) rfl (by decide) (Nat.le_of_ble_eq_true rfl) ?_
      refine kx_109_111_4 C0 hP h4 hc.1 (fun S4 C4 f4 m4 R4 => ?_)
      have hc4 : cn_CR S4 A := ⟨fun _ => R4, fun z => cn_RC_fr (hc.2 (by rw [← f4 124 14 (by decide)]; exact z)) (fun q m h => f4 q m (by omega))⟩
      have ep : a1 = 0 := by omega
      refine x_aload rfl ?_
      refine x_getIG y_f111_13 C4 ?_
      intro g5a g5b
      refine x_iret ?_
      exact k (by omega) S4 C4 (fun q m h => f4 q m (by omega)) hc4 (S4 112) (S4 113) (S4 114) (S4 115) (S4 116) (S4 111 13) (by rw [ep]; exact R4)
    · skip
      refine x_astore ?_
      refine x_aload rfl ?_
      refine x_aload rfl ?_
      refine x_getR (r := 0) rfl (by decide) (by decide) rfl ?_
      refine x_cV (fun _ => rfl) rfl (by decide) (Nat.le_of_ble_eq_true rfl) ?_
      refine kx_109_124_4 C0 hP h4 hc.2 (fun S6 C6 f6 m6 R6 => ?_)
      have hc6 : cn_CR S6 A := ⟨fun z => cn_RC_fr (hc.1 (by rw [← f6 111 14 (by decide)]; exact z)) (fun q m h => f6 q m (by omega)), fun _ => R6⟩
      have ep : a1 = 1 := by omega
      refine x_aload rfl ?_
      refine x_getIG y_f124_13 C6 ?_
      intro g7a g7b
      refine x_iret ?_
      exact k (by omega) S6 C6 (fun q m h => f6 q m (by omega)) hc6 (S6 125) (S6 126) (S6 127) (S6 128) (S6 129) (S6 124 13) (by rw [ep]; exact R6)
  · skip
    refine x_if_ne (by omega) (by omega) (fun z8 => ?_) (fun z => absurd (by omega) z)
    refine x_push (-1) rfl ?_
    refine x_iret ?_
    exact kB (by omega)
theorem kx_160_0 {E : q_E} {σ : x_S} {Q : Option q_V → x_S → Prop} {a1 a2 a3 : Int} (a1l : -2147483648 ≤ a1) (a1h : a1 ≤ 2147483647) (a2l : -2147483648 ≤ a2) (a2h : a2 ≤ 2147483647) (a3l : -2147483648 ≤ a3) (a3h : a3 ≤ 2147483647) (C0 : y_CI σ) {A : Nat → Int} (hP : y_PI A) (h4 : y_PG σ 4 A) (hc : cn_CR σ A) (kB : ¬ ((0 ≤ a1 ∧ a1 ≤ 1) ∧ (0 ≤ a2 ∧ a2 ≤ 53) ∧ -1 ≤ a3) → Q (some (x_I (-1))) σ) (k : ((0 ≤ a1 ∧ a1 ≤ 1) ∧ (0 ≤ a2 ∧ a2 ≤ 53) ∧ -1 ≤ a3) → ∀ τ, y_CI τ → (∀ q m, (q < 111 ∨ 136 < q) → τ q m = σ q m) → cn_CR τ A → ∀ hd lf rt sz od : Nat → Int, ∀ mt : Int, cn_R (cn_pf A a1) hd lf rt sz od mt → (((sz a2.toNat = 0 ∨ 40 < sz a2.toNat ∨ sz a2.toNat ≤ a3) → Q (some (x_I (-4))) τ) ∧ (0 < sz a2.toNat → sz a2.toNat ≤ 40 → a3 = -1 → Q (some (x_I (sz a2.toNat))) τ) ∧ (sz a2.toNat ≤ 40 → 0 ≤ a3 → a3 < sz a2.toNat → Q (some (x_I (cn_at (cn_LL hd lf rt a2) a3.toNat))) τ))) : x_P E 160 [x_R 0, x_I a1, x_I a2, x_I a3] σ Q := by
  refine x_Mt e_160 (h_160 E) (Nat.le_of_ble_eq_true rfl) t_160 rfl ?_
  refine x_blk (b := 0) (a_160 E) rfl ?_
  unfold b_160_0
  refine x_iload rfl ?_
  refine x_push 2 rfl ?_
  refine x_cS (fun _ => rfl) (Nat.le_of_ble_eq_true rfl) ?_
  refine sf_2 (by omega) (by omega) (by omega) (by omega) C0 (fun y1 => ?_) (fun y1 => ?_)
  · skip
    refine x_if_eq (by omega) (by omega) (fun z => absurd z (by omega)) (fun z2 => ?_)
    refine x_iload rfl ?_
    refine x_push 54 rfl ?_
    refine x_cS (fun _ => rfl) (Nat.le_of_ble_eq_true rfl) ?_
    refine sf_2 (by omega) (by omega) (by omega) (by omega) C0 (fun y3 => ?_) (fun y3 => ?_)
    · skip
      refine x_if_eq (by omega) (by omega) (fun z => absurd z (by omega)) (fun z4 => ?_)
      refine x_iload rfl ?_
      refine x_push (-1) rfl ?_
      refine x_icmp_ge (by omega) (by omega) (by omega) (by omega) (fun z5 => ?_) (fun z5 => ?_)
      · skip
        refine x_fall ?_
        refine x_blk (b := 1) (a_160 E) rfl ?_
        unfold b_160_1
        refine x_push (-1) rfl ?_
        refine x_iret ?_
        exact kB (by omega)
      · skip
        refine x_blk (b := 2) (a_160 E) rfl ?_
        unfold b_160_2
        refine x_aload rfl ?_
        refine x_iload rfl ?_
        refine x_cV (fun _ => rfl) rfl (by decide) (Nat.le_of_ble_eq_true rfl) ?_
        refine sf_108_0 (by omega) (by omega) C0 (fun y6 => ?_) (fun y6 => ?_)
        · skip
          refine x_astore ?_
          refine x_aload rfl ?_
          refine x_aload rfl ?_
          refine x_getR (r := 0) rfl (by decide) (by decide) rfl ?_
          refine x_cV (fun _ => rfl) rfl (by decide) (Nat.le_of_ble_eq_true rfl) ?_
          refine kx_109_111_4 C0 hP h4 hc.1 (fun S7 C7 f7 m7 R7 => ?_)
          have hc7 : cn_CR S7 A := ⟨fun _ => R7, fun z => cn_RC_fr (hc.2 (by rw [← f7 124 14 (by decide)]; exact z)) (fun q m h => f7 q m (by omega))⟩
          have ep : a1 = 0 := by omega
          refine x_aload rfl ?_
          refine x_iload rfl ?_
          refine x_cV (fun _ => rfl) rfl (by decide) (Nat.le_of_ble_eq_true rfl) ?_
          refine kx_41_111 (by omega) (by omega) C7 (fun v8 v8a v8b v8c => ?_)
          have sz8 : v8 = cn_s (S7 115) a2 := by
            unfold cn_s
            rcases v8c with ⟨q1, q2⟩ | ⟨q1, q2⟩
            · rw [if_pos q1]; exact q2
            · rw [if_neg q1]; exact q2
          refine x_istore ?_
          refine x_X_lo (lo' := [(0, x_R 0), (1, x_I _), (2, x_I _), (3, x_I _), (4, x_R 111), (5, x_I _)]) ⟨rfl, rfl, rfl, rfl, rfl, rfl, trivial⟩ ?_
          refine x_iload rfl ?_
          refine x_if_eq (by omega) (by omega) (fun z9 => ?_) (fun z9 => ?_)
          · skip
            refine x_blk (b := 3) (a_160 E) rfl ?_
            unfold b_160_3
            refine x_push (-4) rfl ?_
            refine x_iret ?_
            have zz := sz8
            rw [cn_s_p (by omega) (by omega)] at zz
            exact (k (by omega) S7 C7 (fun q m h => f7 q m (by omega)) hc7 (S7 112) (S7 113) (S7 114) (S7 115) (S7 116) (S7 111 13) (by rw [ep]; exact R7)).1 (by omega)
          · skip
            refine x_iload rfl ?_
            refine x_push 40 rfl ?_
            refine x_icmp_gt (by omega) (by omega) (by omega) (by omega) (fun z10 => ?_) (fun z10 => ?_)
            · skip
              refine x_iload rfl ?_
              refine x_iload rfl ?_
              refine x_icmp_lt (by omega) (by omega) (by omega) (by omega) (fun z11 => ?_) (fun z11 => ?_)
              · skip
                refine x_blk (b := 4) (a_160 E) rfl ?_
                unfold b_160_4
                refine x_iload rfl ?_
                refine x_push (-1) rfl ?_
                refine x_icmp_ne (by omega) (by omega) (by omega) (by omega) (fun z12 => ?_) (fun z12 => ?_)
                · skip
                  refine x_iload rfl ?_
                  refine x_goto ?_
                  refine x_blk (b := 6) (a_160 E) rfl ?_
                  unfold b_160_6
                  refine x_iret ?_
                  have zz := sz8
                  rw [cn_s_p (by omega) (by omega)] at zz
                  rw [zz]
                  exact (k (by omega) S7 C7 (fun q m h => f7 q m (by omega)) hc7 (S7 112) (S7 113) (S7 114) (S7 115) (S7 116) (S7 111 13) (by rw [ep]; exact R7)).2.1 (by omega) (by omega) (by omega)
                · skip
                  refine x_blk (b := 5) (a_160 E) rfl ?_
                  unfold b_160_5
                  refine x_aload rfl ?_
                  refine x_iload rfl ?_
                  refine x_iload rfl ?_
                  refine x_cV (fun _ => rfl) rfl (by decide) (Nat.le_of_ble_eq_true rfl) ?_
                  have s2 := sz8
                  rw [cn_s_p (by omega) (by omega)] at s2
                  refine kx_161_111 (by omega) (by omega) C7 R7.2.1 (show 0 < S7 115 a2.toNat by omega) (by omega) (by omega) (by omega) (fun v13 v13x => ?_)
                  refine x_fall ?_
                  refine x_blk (b := 6) (a_160 E) rfl ?_
                  unfold b_160_6
                  refine x_iret ?_
                  rw [v13x]
                  have zz := sz8
                  rw [cn_s_p (by omega) (by omega)] at zz
                  exact (k (by omega) S7 C7 (fun q m h => f7 q m (by omega)) hc7 (S7 112) (S7 113) (S7 114) (S7 115) (S7 116) (S7 111 13) (by rw [ep]; exact R7)).2.2 (by omega) (by omega) (by omega)
              · skip
                refine x_fall ?_
                refine x_blk (b := 3) (a_160 E) rfl ?_
                unfold b_160_3
                refine x_push (-4) rfl ?_
                refine x_iret ?_
                have zz := sz8
                rw [cn_s_p (by omega) (by omega)] at zz
                exact (k (by omega) S7 C7 (fun q m h => f7 q m (by omega)) hc7 (S7 112) (S7 113) (S7 114) (S7 115) (S7 116) (S7 111 13) (by rw [ep]; exact R7)).1 (by omega)
            · skip
              refine x_blk (b := 3) (a_160 E) rfl ?_
              unfold b_160_3
              refine x_push (-4) rfl ?_
              refine x_iret ?_
              have zz := sz8
              rw [cn_s_p (by omega) (by omega)] at zz
              exact (k (by omega) S7 C7 (fun q m h => f7 q m (by omega)) hc7 (S7 112) (S7 113) (S7 114) (S7 115) (S7 116) (S7 111 13) (by rw [ep]; exact R7)).1 (by omega)
        · skip
          refine x_astore ?_
          refine x_aload rfl ?_
          refine x_aload rfl ?_
          refine x_getR (r := 0) rfl (by decide) (by decide) rfl ?_
          refine x_cV (fun _ => rfl) rfl (by decide) (Nat.le_of_ble_eq_true rfl) ?_
          refine kx_109_124_4 C0 hP h4 hc.2 (fun S14 C14 f14 m14 R14 => ?_)
          have hc14 : cn_CR S14 A := ⟨fun z => cn_RC_fr (hc.1 (by rw [← f14 111 14 (by decide)]; exact z)) (fun q m h => f14 q m (by omega)), fun _ => R14⟩
          have ep : a1 = 1 := by omega
          refine x_aload rfl ?_
          refine x_iload rfl ?_
          refine x_cV (fun _ => rfl) rfl (by decide) (Nat.le_of_ble_eq_true rfl) ?_
          refine kx_41_124 (by omega) (by omega) C14 (fun v15 v15a v15b v15c => ?_)
          have sz15 : v15 = cn_s (S14 128) a2 := by
            unfold cn_s
            rcases v15c with ⟨q1, q2⟩ | ⟨q1, q2⟩
            · rw [if_pos q1]; exact q2
            · rw [if_neg q1]; exact q2
          refine x_istore ?_
          refine x_X_lo (lo' := [(0, x_R 0), (1, x_I _), (2, x_I _), (3, x_I _), (4, x_R 124), (5, x_I _)]) ⟨rfl, rfl, rfl, rfl, rfl, rfl, trivial⟩ ?_
          refine x_iload rfl ?_
          refine x_if_eq (by omega) (by omega) (fun z16 => ?_) (fun z16 => ?_)
          · skip
            refine x_blk (b := 3) (a_160 E) rfl ?_
            unfold b_160_3
            refine x_push (-4) rfl ?_
            refine x_iret ?_
            have zz := sz15
            rw [cn_s_p (by omega) (by omega)] at zz
            exact (k (by omega) S14 C14 (fun q m h => f14 q m (by omega)) hc14 (S14 125) (S14 126) (S14 127) (S14 128) (S14 129) (S14 124 13) (by rw [ep]; exact R14)).1 (by omega)
          · skip
            refine x_iload rfl ?_
            refine x_push 40 rfl ?_
            refine x_icmp_gt (by omega) (by omega) (by omega) (by omega) (fun z17 => ?_) (fun z17 => ?_)
            · skip
              refine x_iload rfl ?_
              refine x_iload rfl ?_
              refine x_icmp_lt (by omega) (by omega) (by omega) (by omega) (fun z18 => ?_) (fun z18 => ?_)
              · skip
                refine x_blk (b := 4) (a_160 E) rfl ?_
                unfold b_160_4
                refine x_iload rfl ?_
                refine x_push (-1) rfl ?_
                refine x_icmp_ne (by omega) (by omega) (by omega) (by omega) (fun z19 => ?_) (fun z19 => ?_)
                · skip
                  refine x_iload rfl ?_
                  refine x_goto ?_
                  refine x_blk (b := 6) (a_160 E) rfl ?_
                  unfold b_160_6
                  refine x_iret ?_
                  have zz := sz15
                  rw [cn_s_p (by omega) (by omega)] at zz
                  rw [zz]
                  exact (k (by omega) S14 C14 (fun q m h => f14 q m (by omega)) hc14 (S14 125) (S14 126) (S14 127) (S14 128) (S14 129) (S14 124 13) (by rw [ep]; exact R14)).2.1 (by omega) (by omega) (by omega)
                · skip
                  refine x_blk (b := 5) (a_160 E) rfl ?_
                  unfold b_160_5
                  refine x_aload rfl ?_
                  refine x_iload rfl ?_
                  refine x_iload rfl ?_
                  refine x_cV (fun _ => rfl) rfl (by decide) (Nat.le_of_ble_eq_true rfl) ?_
                  have s2 := sz15
                  rw [cn_s_p (by omega) (by omega)] at s2
                  refine kx_161_124 (by omega) (by omega) C14 R14.2.1 (show 0 < S14 128 a2.toNat by omega) (by omega) (by omega) (by omega) (fun v20 v20x => ?_)
                  refine x_fall ?_
                  refine x_blk (b := 6) (a_160 E) rfl ?_
                  unfold b_160_6
                  refine x_iret ?_
                  rw [v20x]
                  have zz := sz15
                  rw [cn_s_p (by omega) (by omega)] at zz
                  exact (k (by omega) S14 C14 (fun q m h => f14 q m (by omega)) hc14 (S14 125) (S14 126) (S14 127) (S14 128) (S14 129) (S14 124 13) (by rw [ep]; exact R14)).2.2 (by omega) (by omega) (by omega)
              · skip
                refine x_fall ?_
                refine x_blk (b := 3) (a_160 E) rfl ?_
                unfold b_160_3
                refine x_push (-4) rfl ?_
                refine x_iret ?_
                have zz := sz15
                rw [cn_s_p (by omega) (by omega)] at zz
                exact (k (by omega) S14 C14 (fun q m h => f14 q m (by omega)) hc14 (S14 125) (S14 126) (S14 127) (S14 128) (S14 129) (S14 124 13) (by rw [ep]; exact R14)).1 (by omega)
            · skip
              refine x_blk (b := 3) (a_160 E) rfl ?_
              unfold b_160_3
              refine x_push (-4) rfl ?_
              refine x_iret ?_
              have zz := sz15
              rw [cn_s_p (by omega) (by omega)] at zz
              exact (k (by omega) S14 C14 (fun q m h => f14 q m (by omega)) hc14 (S14 125) (S14 126) (S14 127) (S14 128) (S14 129) (S14 124 13) (by rw [ep]; exact R14)).1 (by omega)
    · skip
      refine x_if_eq (by omega) (by omega) (fun z21 => ?_) (fun z => absurd (by omega) z)
      refine x_blk (b := 1) (a_160 E) rfl ?_
      unfold b_160_1
      refine x_push (-1) rfl ?_
      refine x_iret ?_
      exact kB (by omega)
  · skip
    refine x_if_eq (by omega) (by omega) (fun z22 => ?_) (fun z => absurd (by omega) z)
    refine x_blk (b := 1) (a_160 E) rfl ?_
    unfold b_160_1
    refine x_push (-1) rfl ?_
    refine x_iret ?_
    exact kB (by omega)
theorem kx_163_0 {E : q_E} {σ : x_S} {Q : Option q_V → x_S → Prop} {a1 a2 a3 : Int} (a1l : -2147483648 ≤ a1) (a1h : a1 ≤ 2147483647) (a2l : -2147483648 ≤ a2) (a2h : a2 ≤ 2147483647) (a3l : -2147483648 ≤ a3) (a3h : a3 ≤ 2147483647) {a4 : Int} (w1 : 0 ≤ a4) (w2 : a4 ≤ 2) (C0 : y_CI σ) {A : Nat → Int} (hP : y_PI A) (h4 : y_PG σ 4 A) (hc : cn_CR σ A) (kB : ¬ ((0 ≤ a1 ∧ a1 ≤ 1) ∧ (0 ≤ a2 ∧ a2 ≤ 2) ∧ (0 ≤ a3 ∧ a3 ≤ 1)) → Q (some (x_I (-1))) σ) (k : ((0 ≤ a1 ∧ a1 ≤ 1) ∧ (0 ≤ a2 ∧ a2 ≤ 2) ∧ (0 ≤ a3 ∧ a3 ≤ 1)) → ∀ τ, y_CI τ → (∀ q m, (q < 111 ∨ 136 < q) → τ q m = σ q m) → cn_CR τ A → ∀ hd lf rt sz od : Nat → Int, ∀ mt : Int, cn_R (cn_pf A a1) hd lf rt sz od mt → (((∀ j : Nat, (j : Int) < mt → cn_ti (od j) a2 ≠ a4) → Q (some (x_I (if a3 = 0 then 0 else -4))) τ) ∧ (∀ i : Nat, (i : Int) < mt → cn_ti (od i) a2 = a4 → (∀ j : Nat, (j : Int) < i → cn_ti (od j) a2 ≠ a4) → Q (some (x_I (if a3 = 0 then sz (od i).toNat else if sz (od i).toNat ≤ 40 then od i else -4))) τ))) : x_P E 163 [x_R 0, x_I a1, x_I a2, x_I a3, x_I a4] σ Q := by
  refine x_Mt e_163 (h_163 E) (Nat.le_of_ble_eq_true rfl) t_163 rfl ?_
  refine x_blk (b := 0) (a_163 E) rfl ?_
  unfold b_163_0
  refine x_iload rfl ?_
  refine x_push 2 rfl ?_
  refine x_cS (fun _ => rfl) (Nat.le_of_ble_eq_true rfl) ?_
  refine sf_2 (by omega) (by omega) (by omega) (by omega) C0 (fun y1 => ?_) (fun y1 => ?_)
  · skip
    refine x_if_eq (by omega) (by omega) (fun z => absurd z (by omega)) (fun z2 => ?_)
    refine x_iload rfl ?_
    refine x_push 3 rfl ?_
    refine x_cS (fun _ => rfl) (Nat.le_of_ble_eq_true rfl) ?_
    refine sf_2 (by omega) (by omega) (by omega) (by omega) C0 (fun y3 => ?_) (fun y3 => ?_)
    · skip
      refine x_if_eq (by omega) (by omega) (fun z => absurd z (by omega)) (fun z4 => ?_)
      refine x_iload rfl ?_
      refine x_push 2 rfl ?_
      refine x_cS (fun _ => rfl) (Nat.le_of_ble_eq_true rfl) ?_
      refine sf_2 (by omega) (by omega) (by omega) (by omega) C0 (fun y5 => ?_) (fun y5 => ?_)
      · skip
        refine x_if_ne (by omega) (by omega) (fun z => absurd z (by omega)) (fun z6 => ?_)
        refine x_blk (b := 2) (a_163 E) rfl ?_
        unfold b_163_2
        refine x_aload rfl ?_
        refine x_iload rfl ?_
        refine x_cV (fun _ => rfl) rfl (by decide) (Nat.le_of_ble_eq_true rfl) ?_
        refine sf_108_0 (by omega) (by omega) C0 (fun y7 => ?_) (fun y7 => ?_)
        · skip
          refine x_astore ?_
          refine x_aload rfl ?_
          refine x_aload rfl ?_
          refine x_getR (r := 0) rfl (by decide) (by decide) rfl ?_
          refine x_cV (fun _ => rfl) rfl (by decide) (Nat.le_of_ble_eq_true rfl) ?_
          refine kx_109_111_4 C0 hP h4 hc.1 (fun S8 C8 f8 m8 R8 => ?_)
          have hc8 : cn_CR S8 A := ⟨fun _ => R8, fun z => cn_RC_fr (hc.2 (by rw [← f8 124 14 (by decide)]; exact z)) (fun q m h => f8 q m (by omega))⟩
          have ep : a1 = 0 := by omega
          refine x_aload rfl ?_
          refine x_iload rfl ?_
          refine x_iload rfl ?_
          refine x_cV (fun _ => rfl) rfl (by decide) (Nat.le_of_ble_eq_true rfl) ?_
          refine kx_164_111 (by omega) (by omega) (by omega) (by omega) C8 (fun nn => ?_) (fun i hi i54 ti fi => ?_)
          · skip
            refine x_istore ?_
            refine x_X_lo (lo' := [(0, x_R 0), (1, x_I _), (2, x_I _), (3, x_I _), (4, x_I _), (5, x_R 111), (6, x_I _)]) ⟨rfl, rfl, rfl, rfl, rfl, rfl, rfl, trivial⟩ ?_
            refine x_aload rfl ?_
            refine x_iload rfl ?_
            refine x_cV (fun _ => rfl) rfl (by decide) (Nat.le_of_ble_eq_true rfl) ?_
            refine kx_41_111 (by omega) (by omega) C8 (fun v10 v10a v10b v10c => ?_)
            have sz10 : v10 = cn_s (S8 115) (-4) := by
              unfold cn_s
              rcases v10c with ⟨q1, q2⟩ | ⟨q1, q2⟩
              · rw [if_pos q1]; exact q2
              · rw [if_neg q1]; exact q2
            refine x_istore ?_
            refine x_iload rfl ?_
            refine x_if_ne (by omega) (by omega) (fun z11 => ?_) (fun z11 => ?_)
            · skip
              refine x_iload rfl ?_
              refine x_iret ?_
              have zz := sz10
              rw [cn_s_n (by omega)] at zz
              have kk := (k (by omega) S8 C8 (fun q m h => f8 q m (by omega)) hc8 (S8 112) (S8 113) (S8 114) (S8 115) (S8 116) (S8 111 13) (by rw [ep]; exact R8)).1 nn
              rw [if_pos (by omega)] at kk
              rw [zz]
              exact kk
            · skip
              refine x_blk (b := 3) (a_163 E) rfl ?_
              unfold b_163_3
              refine x_iload rfl ?_
              refine x_if_eq (by omega) (by omega) (fun z12 => ?_) (fun z12 => ?_)
              · skip
                refine x_blk (b := 4) (a_163 E) rfl ?_
                unfold b_163_4
                refine x_push (-4) rfl ?_
                refine x_goto ?_
                refine x_blk (b := 6) (a_163 E) rfl ?_
                unfold b_163_6
                refine x_iret ?_
                have zz := sz10
                rw [cn_s_n (by omega)] at zz
                have kk := (k (by omega) S8 C8 (fun q m h => f8 q m (by omega)) hc8 (S8 112) (S8 113) (S8 114) (S8 115) (S8 116) (S8 111 13) (by rw [ep]; exact R8)).1 nn
                rw [if_neg (by omega)] at kk
                exact kk
              · skip
                refine x_iload rfl ?_
                refine x_push 40 rfl ?_
                refine x_icmp_le (by omega) (by omega) (by omega) (by omega) (fun z13 => ?_) (fun z13 => ?_)
                · skip
                  refine x_blk (b := 5) (a_163 E) rfl ?_
                  unfold b_163_5
                  refine x_iload rfl ?_
                  refine x_fall ?_
                  refine x_blk (b := 6) (a_163 E) rfl ?_
                  unfold b_163_6
                  refine x_iret ?_
                  have zz := sz10
                  rw [cn_s_n (by omega)] at zz
                  have kk := (k (by omega) S8 C8 (fun q m h => f8 q m (by omega)) hc8 (S8 112) (S8 113) (S8 114) (S8 115) (S8 116) (S8 111 13) (by rw [ep]; exact R8)).1 nn
                  rw [if_neg (by omega)] at kk
                  exact kk
                · skip
                  refine x_fall ?_
                  refine x_blk (b := 4) (a_163 E) rfl ?_
                  unfold b_163_4
                  refine x_push (-4) rfl ?_
                  refine x_goto ?_
                  refine x_blk (b := 6) (a_163 E) rfl ?_
                  unfold b_163_6
                  refine x_iret ?_
                  have zz := sz10
                  rw [cn_s_n (by omega)] at zz
                  have kk := (k (by omega) S8 C8 (fun q m h => f8 q m (by omega)) hc8 (S8 112) (S8 113) (S8 114) (S8 115) (S8 116) (S8 111 13) (by rw [ep]; exact R8)).1 nn
                  rw [if_neg (by omega)] at kk
                  exact kk
          · have od9 : 0 ≤ S8 116 i ∧ S8 116 i < 54 ∧ 0 < S8 115 (S8 116 i).toNat := R8.2.2.2.2.2.1.1 i hi
            obtain ⟨v9, v9x⟩ : ∃ v, v = S8 116 i := ⟨_, rfl⟩
            rw [← v9x] at od9 ti ⊢
            refine x_istore ?_
            refine x_X_lo (lo' := [(0, x_R 0), (1, x_I _), (2, x_I _), (3, x_I _), (4, x_I _), (5, x_R 111), (6, x_I _)]) ⟨rfl, rfl, rfl, rfl, rfl, rfl, rfl, trivial⟩ ?_
            refine x_aload rfl ?_
            refine x_iload rfl ?_
            refine x_cV (fun _ => rfl) rfl (by decide) (Nat.le_of_ble_eq_true rfl) ?_
            refine kx_41_111 (by omega) (by omega) C8 (fun v14 v14a v14b v14c => ?_)
            have sz14 : v14 = cn_s (S8 115) v9 := by
              unfold cn_s
              rcases v14c with ⟨q1, q2⟩ | ⟨q1, q2⟩
              · rw [if_pos q1]; exact q2
              · rw [if_neg q1]; exact q2
            refine x_istore ?_
            refine x_iload rfl ?_
            refine x_if_ne (by omega) (by omega) (fun z15 => ?_) (fun z15 => ?_)
            · skip
              refine x_iload rfl ?_
              refine x_iret ?_
              have zz := sz14
              rw [cn_s_p (by omega) (by omega)] at zz
              have kk := (k (by omega) S8 C8 (fun q m h => f8 q m (by omega)) hc8 (S8 112) (S8 113) (S8 114) (S8 115) (S8 116) (S8 111 13) (by rw [ep]; exact R8)).2 i hi (by rw [← v9x]; exact ti) fi
              rw [← v9x] at kk
              rw [if_pos (by omega)] at kk
              rw [zz]
              exact kk
            · skip
              refine x_blk (b := 3) (a_163 E) rfl ?_
              unfold b_163_3
              refine x_iload rfl ?_
              refine x_if_eq (by omega) (by omega) (fun z16 => ?_) (fun z16 => ?_)
              · skip
                refine x_blk (b := 4) (a_163 E) rfl ?_
                unfold b_163_4
                refine x_push (-4) rfl ?_
                refine x_goto ?_
                refine x_blk (b := 6) (a_163 E) rfl ?_
                unfold b_163_6
                refine x_iret ?_
                have zz := sz14
                rw [cn_s_p (by omega) (by omega)] at zz
                have kk := (k (by omega) S8 C8 (fun q m h => f8 q m (by omega)) hc8 (S8 112) (S8 113) (S8 114) (S8 115) (S8 116) (S8 111 13) (by rw [ep]; exact R8)).2 i hi (by rw [← v9x]; exact ti) fi
                rw [← v9x] at kk
                rw [if_neg (by omega)] at kk
                rw [if_neg (by omega)] at kk
                exact kk
              · skip
                refine x_iload rfl ?_
                refine x_push 40 rfl ?_
                refine x_icmp_le (by omega) (by omega) (by omega) (by omega) (fun z17 => ?_) (fun z17 => ?_)
                · skip
                  refine x_blk (b := 5) (a_163 E) rfl ?_
                  unfold b_163_5
                  refine x_iload rfl ?_
                  refine x_fall ?_
                  refine x_blk (b := 6) (a_163 E) rfl ?_
                  unfold b_163_6
                  refine x_iret ?_
                  have zz := sz14
                  rw [cn_s_p (by omega) (by omega)] at zz
                  have kk := (k (by omega) S8 C8 (fun q m h => f8 q m (by omega)) hc8 (S8 112) (S8 113) (S8 114) (S8 115) (S8 116) (S8 111 13) (by rw [ep]; exact R8)).2 i hi (by rw [← v9x]; exact ti) fi
                  rw [← v9x] at kk
                  rw [if_neg (by omega)] at kk
                  rw [if_pos (by omega)] at kk
                  exact kk
                · skip
                  refine x_fall ?_
                  refine x_blk (b := 4) (a_163 E) rfl ?_
                  unfold b_163_4
                  refine x_push (-4) rfl ?_
                  refine x_goto ?_
                  refine x_blk (b := 6) (a_163 E) rfl ?_
                  unfold b_163_6
                  refine x_iret ?_
                  have zz := sz14
                  rw [cn_s_p (by omega) (by omega)] at zz
                  have kk := (k (by omega) S8 C8 (fun q m h => f8 q m (by omega)) hc8 (S8 112) (S8 113) (S8 114) (S8 115) (S8 116) (S8 111 13) (by rw [ep]; exact R8)).2 i hi (by rw [← v9x]; exact ti) fi
                  rw [← v9x] at kk
                  rw [if_neg (by omega)] at kk
                  rw [if_neg (by omega)] at kk
                  exact kk
        · skip
          refine x_astore ?_
          refine x_aload rfl ?_
          refine x_aload rfl ?_
          refine x_getR (r := 0) rfl (by decide) (by decide) rfl ?_
          refine x_cV (fun _ => rfl) rfl (by decide) (Nat.le_of_ble_eq_true rfl) ?_
          refine kx_109_124_4 C0 hP h4 hc.2 (fun S18 C18 f18 m18 R18 => ?_)
          have hc18 : cn_CR S18 A := ⟨fun z => cn_RC_fr (hc.1 (by rw [← f18 111 14 (by decide)]; exact z)) (fun q m h => f18 q m (by omega)), fun _ => R18⟩
          have ep : a1 = 1 := by omega
          refine x_aload rfl ?_
          refine x_iload rfl ?_
          refine x_iload rfl ?_
          refine x_cV (fun _ => rfl) rfl (by decide) (Nat.le_of_ble_eq_true rfl) ?_
          refine kx_164_124 (by omega) (by omega) (by omega) (by omega) C18 (fun nn => ?_) (fun i hi i54 ti fi => ?_)
          · skip
            refine x_istore ?_
            refine x_X_lo (lo' := [(0, x_R 0), (1, x_I _), (2, x_I _), (3, x_I _), (4, x_I _), (5, x_R 124), (6, x_I _)]) ⟨rfl, rfl, rfl, rfl, rfl, rfl, rfl, trivial⟩ ?_
            refine x_aload rfl ?_
            refine x_iload rfl ?_
            refine x_cV (fun _ => rfl) rfl (by decide) (Nat.le_of_ble_eq_true rfl) ?_
            refine kx_41_124 (by omega) (by omega) C18 (fun v20 v20a v20b v20c => ?_)
            have sz20 : v20 = cn_s (S18 128) (-4) := by
              unfold cn_s
              rcases v20c with ⟨q1, q2⟩ | ⟨q1, q2⟩
              · rw [if_pos q1]; exact q2
              · rw [if_neg q1]; exact q2
            refine x_istore ?_
            refine x_iload rfl ?_
            refine x_if_ne (by omega) (by omega) (fun z21 => ?_) (fun z21 => ?_)
            · skip
              refine x_iload rfl ?_
              refine x_iret ?_
              have zz := sz20
              rw [cn_s_n (by omega)] at zz
              have kk := (k (by omega) S18 C18 (fun q m h => f18 q m (by omega)) hc18 (S18 125) (S18 126) (S18 127) (S18 128) (S18 129) (S18 124 13) (by rw [ep]; exact R18)).1 nn
              rw [if_pos (by omega)] at kk
              rw [zz]
              exact kk
            · skip
              refine x_blk (b := 3) (a_163 E) rfl ?_
              unfold b_163_3
              refine x_iload rfl ?_
              refine x_if_eq (by omega) (by omega) (fun z22 => ?_) (fun z22 => ?_)
              · skip
                refine x_blk (b := 4) (a_163 E) rfl ?_
                unfold b_163_4
                refine x_push (-4) rfl ?_
                refine x_goto ?_
                refine x_blk (b := 6) (a_163 E) rfl ?_
                unfold b_163_6
                refine x_iret ?_
                have zz := sz20
                rw [cn_s_n (by omega)] at zz
                have kk := (k (by omega) S18 C18 (fun q m h => f18 q m (by omega)) hc18 (S18 125) (S18 126) (S18 127) (S18 128) (S18 129) (S18 124 13) (by rw [ep]; exact R18)).1 nn
                rw [if_neg (by omega)] at kk
                exact kk
              · skip
                refine x_iload rfl ?_
                refine x_push 40 rfl ?_
                refine x_icmp_le (by omega) (by omega) (by omega) (by omega) (fun z23 => ?_) (fun z23 => ?_)
                · skip
                  refine x_blk (b := 5) (a_163 E) rfl ?_
                  unfold b_163_5
                  refine x_iload rfl ?_
                  refine x_fall ?_
                  refine x_blk (b := 6) (a_163 E) rfl ?_
                  unfold b_163_6
                  refine x_iret ?_
                  have zz := sz20
                  rw [cn_s_n (by omega)] at zz
                  have kk := (k (by omega) S18 C18 (fun q m h => f18 q m (by omega)) hc18 (S18 125) (S18 126) (S18 127) (S18 128) (S18 129) (S18 124 13) (by rw [ep]; exact R18)).1 nn
                  rw [if_neg (by omega)] at kk
                  exact kk
                · skip
                  refine x_fall ?_
                  refine x_blk (b := 4) (a_163 E) rfl ?_
                  unfold b_163_4
                  refine x_push (-4) rfl ?_
                  refine x_goto ?_
                  refine x_blk (b := 6) (a_163 E) rfl ?_
                  unfold b_163_6
                  refine x_iret ?_
                  have zz := sz20
                  rw [cn_s_n (by omega)] at zz
                  have kk := (k (by omega) S18 C18 (fun q m h => f18 q m (by omega)) hc18 (S18 125) (S18 126) (S18 127) (S18 128) (S18 129) (S18 124 13) (by rw [ep]; exact R18)).1 nn
                  rw [if_neg (by omega)] at kk
                  exact kk
          · have od19 : 0 ≤ S18 129 i ∧ S18 129 i < 54 ∧ 0 < S18 128 (S18 129 i).toNat := R18.2.2.2.2.2.1.1 i hi
            obtain ⟨v19, v19x⟩ : ∃ v, v = S18 129 i := ⟨_, rfl⟩
            rw [← v19x] at od19 ti ⊢
            refine x_istore ?_
            refine x_X_lo (lo' := [(0, x_R 0), (1, x_I _), (2, x_I _), (3, x_I _), (4, x_I _), (5, x_R 124), (6, x_I _)]) ⟨rfl, rfl, rfl, rfl, rfl, rfl, rfl, trivial⟩ ?_
            refine x_aload rfl ?_
            refine x_iload rfl ?_
            refine x_cV (fun _ => rfl) rfl (by decide) (Nat.le_of_ble_eq_true rfl) ?_
            refine kx_41_124 (by omega) (by omega) C18 (fun v24 v24a v24b v24c => ?_)
            have sz24 : v24 = cn_s (S18 128) v19 := by
              unfold cn_s
              rcases v24c with ⟨q1, q2⟩ | ⟨q1, q2⟩
              · rw [if_pos q1]; exact q2
              · rw [if_neg q1]; exact q2
            refine x_istore ?_
            refine x_iload rfl ?_
            refine x_if_ne (by omega) (by omega) (fun z25 => ?_) (fun z25 => ?_)
            · skip
              refine x_iload rfl ?_
              refine x_iret ?_
              have zz := sz24
              rw [cn_s_p (by omega) (by omega)] at zz
              have kk := (k (by omega) S18 C18 (fun q m h => f18 q m (by omega)) hc18 (S18 125) (S18 126) (S18 127) (S18 128) (S18 129) (S18 124 13) (by rw [ep]; exact R18)).2 i hi (by rw [← v19x]; exact ti) fi
              rw [← v19x] at kk
              rw [if_pos (by omega)] at kk
              rw [zz]
              exact kk
            · skip
              refine x_blk (b := 3) (a_163 E) rfl ?_
              unfold b_163_3
              refine x_iload rfl ?_
              refine x_if_eq (by omega) (by omega) (fun z26 => ?_) (fun z26 => ?_)
              · skip
                refine x_blk (b := 4) (a_163 E) rfl ?_
                unfold b_163_4
                refine x_push (-4) rfl ?_
                refine x_goto ?_
                refine x_blk (b := 6) (a_163 E) rfl ?_
                unfold b_163_6
                refine x_iret ?_
                have zz := sz24
                rw [cn_s_p (by omega) (by omega)] at zz
                have kk := (k (by omega) S18 C18 (fun q m h => f18 q m (by omega)) hc18 (S18 125) (S18 126) (S18 127) (S18 128) (S18 129) (S18 124 13) (by rw [ep]; exact R18)).2 i hi (by rw [← v19x]; exact ti) fi
                rw [← v19x] at kk
                rw [if_neg (by omega)] at kk
                rw [if_neg (by omega)] at kk
                exact kk
              · skip
                refine x_iload rfl ?_
                refine x_push 40 rfl ?_
                refine x_icmp_le (by omega) (by omega) (by omega) (by omega) (fun z27 => ?_) (fun z27 => ?_)
                · skip
                  refine x_blk (b := 5) (a_163 E) rfl ?_
                  unfold b_163_5
                  refine x_iload rfl ?_
                  refine x_fall ?_
                  refine x_blk (b := 6) (a_163 E) rfl ?_
                  unfold b_163_6
                  refine x_iret ?_
                  have zz := sz24
                  rw [cn_s_p (by omega) (by omega)] at zz
                  have kk := (k (by omega) S18 C18 (fun q m h => f18 q m (by omega)) hc18 (S18 125) (S18 126) (S18 127) (S18 128) (S18 129) (S18 124 13) (by rw [ep]; exact R18)).2 i hi (by rw [← v19x]; exact ti) fi
                  rw [← v19x] at kk
                  rw [if_neg (by omega)] at kk
                  rw [if_pos (by omega)] at kk
                  exact kk
                · skip
                  refine x_fall ?_
                  refine x_blk (b := 4) (a_163 E) rfl ?_
                  unfold b_163_4
                  refine x_push (-4) rfl ?_
                  refine x_goto ?_
                  refine x_blk (b := 6) (a_163 E) rfl ?_
                  unfold b_163_6
                  refine x_iret ?_
                  have zz := sz24
                  rw [cn_s_p (by omega) (by omega)] at zz
                  have kk := (k (by omega) S18 C18 (fun q m h => f18 q m (by omega)) hc18 (S18 125) (S18 126) (S18 127) (S18 128) (S18 129) (S18 124 13) (by rw [ep]; exact R18)).2 i hi (by rw [← v19x]; exact ti) fi
                  rw [← v19x] at kk
                  rw [if_neg (by omega)] at kk
                  rw [if_neg (by omega)] at kk
                  exact kk
      · skip
        refine x_if_ne (by omega) (by omega) (fun z28 => ?_) (fun z => absurd (by omega) z)
        refine x_fall ?_
        refine x_blk (b := 1) (a_163 E) rfl ?_
        unfold b_163_1
        refine x_push (-1) rfl ?_
        refine x_iret ?_
        exact kB (by omega)
    · skip
      refine x_if_eq (by omega) (by omega) (fun z29 => ?_) (fun z => absurd (by omega) z)
      refine x_blk (b := 1) (a_163 E) rfl ?_
      unfold b_163_1
      refine x_push (-1) rfl ?_
      refine x_iret ?_
      exact kB (by omega)
  · skip
    refine x_if_eq (by omega) (by omega) (fun z30 => ?_) (fun z => absurd (by omega) z)
    refine x_blk (b := 1) (a_163 E) rfl ?_
    unfold b_163_1
    refine x_push (-1) rfl ?_
    refine x_iret ?_
    exact kB (by omega)
theorem kx_162_0 {E : q_E} {σ : x_S} {Q : Option q_V → x_S → Prop} {a1 a2 a3 : Int} (a1l : -2147483648 ≤ a1) (a1h : a1 ≤ 2147483647) (a2l : -2147483648 ≤ a2) (a2h : a2 ≤ 2147483647) (a3l : -2147483648 ≤ a3) (a3h : a3 ≤ 2147483647) (C0 : y_CI σ) {A : Nat → Int} (hP : y_PI A) (h4 : y_PG σ 4 A) (hc : cn_CR σ A) (kB : ¬ ((0 ≤ a1 ∧ a1 ≤ 1) ∧ (0 ≤ a2 ∧ a2 ≤ 2) ∧ (0 ≤ a3 ∧ a3 ≤ 1)) → Q (some (x_I (-1))) σ) (k : ((0 ≤ a1 ∧ a1 ≤ 1) ∧ (0 ≤ a2 ∧ a2 ≤ 2) ∧ (0 ≤ a3 ∧ a3 ≤ 1)) → ∀ τ, y_CI τ → (∀ q m, (q < 111 ∨ 136 < q) → τ q m = σ q m) → cn_CR τ A → ∀ hd lf rt sz od : Nat → Int, ∀ mt : Int, cn_R (cn_pf A a1) hd lf rt sz od mt → (((∀ j : Nat, (j : Int) < mt → cn_ti (od j) a2 ≠ 2) → Q (some (x_I (if a3 = 0 then 0 else -4))) τ) ∧ (∀ i : Nat, (i : Int) < mt → cn_ti (od i) a2 = 2 → (∀ j : Nat, (j : Int) < i → cn_ti (od j) a2 ≠ 2) → Q (some (x_I (if a3 = 0 then sz (od i).toNat else if sz (od i).toNat ≤ 40 then od i else -4))) τ))) : x_P E 162 [x_R 0, x_I a1, x_I a2, x_I a3] σ Q := by
  refine x_Mt e_162 (h_162 E) (Nat.le_of_ble_eq_true rfl) t_162 rfl ?_
  refine x_blk (b := 0) (a_162 E) rfl ?_
  unfold b_162_0
  refine x_aload rfl ?_
  refine x_iload rfl ?_
  refine x_iload rfl ?_
  refine x_iload rfl ?_
  refine x_push 2 rfl ?_
  refine x_cV (fun _ => rfl) rfl (by decide) (Nat.le_of_ble_eq_true rfl) ?_
  refine kx_163_0 a1l a1h a2l a2h a3l a3h (by omega) (by omega) C0 hP h4 hc (fun z => ?_) (fun z τ C1 f1 hc1 hd lf rt sz od mt R => ⟨fun nn => ?_, fun i hi ti fi => ?_⟩)
  · refine x_iret ?_
    exact kB z
  · refine x_iret ?_
    exact (k z τ C1 f1 hc1 hd lf rt sz od mt R).1 nn
  · refine x_iret ?_
    exact (k z τ C1 f1 hc1 hd lf rt sz od mt R).2 i hi ti fi
theorem kx_165_0 {E : q_E} {σ : x_S} {Q : Option q_V → x_S → Prop} {a1 a2 a3 : Int} (a1l : -2147483648 ≤ a1) (a1h : a1 ≤ 2147483647) (a2l : -2147483648 ≤ a2) (a2h : a2 ≤ 2147483647) (a3l : -2147483648 ≤ a3) (a3h : a3 ≤ 2147483647) (C0 : y_CI σ) {A : Nat → Int} (hP : y_PI A) (h4 : y_PG σ 4 A) (hc : cn_CR σ A) (kB : ¬ ((0 ≤ a1 ∧ a1 ≤ 1) ∧ (0 ≤ a2 ∧ a2 ≤ 2) ∧ (0 ≤ a3 ∧ a3 ≤ 1)) → Q (some (x_I (-1))) σ) (k : ((0 ≤ a1 ∧ a1 ≤ 1) ∧ (0 ≤ a2 ∧ a2 ≤ 2) ∧ (0 ≤ a3 ∧ a3 ≤ 1)) → ∀ τ, y_CI τ → (∀ q m, (q < 111 ∨ 136 < q) → τ q m = σ q m) → cn_CR τ A → ∀ hd lf rt sz od : Nat → Int, ∀ mt : Int, cn_R (cn_pf A a1) hd lf rt sz od mt → (((∀ j : Nat, (j : Int) < mt → cn_ti (od j) a2 ≠ 0) → Q (some (x_I (if a3 = 0 then 0 else -4))) τ) ∧ (∀ i : Nat, (i : Int) < mt → cn_ti (od i) a2 = 0 → (∀ j : Nat, (j : Int) < i → cn_ti (od j) a2 ≠ 0) → Q (some (x_I (if a3 = 0 then sz (od i).toNat else if sz (od i).toNat ≤ 40 then od i else -4))) τ))) : x_P E 165 [x_R 0, x_I a1, x_I a2, x_I a3] σ Q := by
  refine x_Mt e_165 (h_165 E) (Nat.le_of_ble_eq_true rfl) t_165 rfl ?_
  refine x_blk (b := 0) (a_165 E) rfl ?_
  unfold b_165_0
  refine x_aload rfl ?_
  refine x_iload rfl ?_
  refine x_iload rfl ?_
  refine x_iload rfl ?_
  refine x_push 0 rfl ?_
  refine x_cV (fun _ => rfl) rfl (by decide) (Nat.le_of_ble_eq_true rfl) ?_
  refine kx_163_0 a1l a1h a2l a2h a3l a3h (by omega) (by omega) C0 hP h4 hc (fun z => ?_) (fun z τ C1 f1 hc1 hd lf rt sz od mt R => ⟨fun nn => ?_, fun i hi ti fi => ?_⟩)
  · refine x_iret ?_
    exact kB z
  · refine x_iret ?_
    exact (k z τ C1 f1 hc1 hd lf rt sz od mt R).1 nn
  · refine x_iret ?_
    exact (k z τ C1 f1 hc1 hd lf rt sz od mt R).2 i hi ti fi
