/-! bits; the type of what a rule makes; profiles; pure -/
def cn_b (n i : Nat) : Int := ((n / 2 ^ i % 2 : Nat) : Int)
theorem cn_b_b (n i : Nat) : cn_b n i = 0 ∨ cn_b n i = 1 := by
  unfold cn_b
  have h : n / 2 ^ i % 2 < 2 := Nat.mod_lt _ (by decide)
  generalize n / 2 ^ i % 2 = m at h ⊢
  omega
theorem cn_b_t (n i : Nat) : cn_b n i = if n.testBit i = true then 1 else 0 := by
  unfold cn_b
  rw [Nat.testBit_eq_decide_div_mod_eq]
  have h : n / 2 ^ i % 2 < 2 := Nat.mod_lt _ (by decide)
  generalize n / 2 ^ i % 2 = m at h ⊢
  by_cases c : m = 1
  · rw [c]; rfl
  · have e : m = 0 := by omega
    rw [e]; rfl
theorem cn_b_and (a b i : Nat) : (cn_b (f_land a b) i = 1 ∧ cn_b a i = 1 ∧ cn_b b i = 1) ∨ (cn_b (f_land a b) i = 0 ∧ (cn_b a i = 0 ∨ cn_b b i = 0)) := by
  unfold f_land
  rw [cn_b_t (a &&& b), cn_b_t a, cn_b_t b, Nat.testBit_and]
  cases a.testBit i <;> cases b.testBit i <;> simp
theorem cn_b_or (a b i : Nat) : (cn_b (f_lor a b) i = 0 ∧ cn_b a i = 0 ∧ cn_b b i = 0) ∨ (cn_b (f_lor a b) i = 1 ∧ (cn_b a i = 1 ∨ cn_b b i = 1)) := by
  unfold f_lor
  rw [cn_b_t (a ||| b), cn_b_t a, cn_b_t b, Nat.testBit_or]
  cases a.testBit i <;> cases b.testBit i <;> simp
theorem cn_ones {i : Nat} (h : i < 64) : (18446744073709551615 : Nat).testBit i = true := by
  have q := Nat.testBit_two_pow_sub_one 64 i
  rw [show (2 ^ 64 - 1 : Nat) = 18446744073709551615 from rfl] at q
  rw [q]
  exact decide_eq_true h
theorem cn_b_1 {i : Nat} (h : i < 64) : cn_b 18446744073709551615 i = 1 := by rw [cn_b_t, cn_ones h]; rfl
theorem cn_b_0 (i : Nat) : cn_b 0 i = 0 := by unfold cn_b; rw [Nat.zero_div]; rfl
theorem cn_b_not {a i : Nat} (h : i < 64) : cn_b (f_lxor a 18446744073709551615) i = 1 - cn_b a i := by
  unfold f_lxor
  rw [cn_b_t (a ^^^ 18446744073709551615), cn_b_t a, Nat.testBit_xor, cn_ones h]
  cases a.testBit i <;> simp
theorem cn_b_whe : ∀ k, k < 6 → ∀ i, i < 64 → cn_b (q_whe k) i = cn_b i k := by decide +kernel
theorem cn_and0 : ∀ a, a < 64 → ∀ b, b < 64 → (a &&& b = 0 ↔ ∀ k, k < 6 → ¬ (cn_b a k = 1 ∧ cn_b b k = 1)) := by decide +kernel
theorem cn_or64 : ∀ a, a < 64 → ∀ j, j < 6 → (a ||| 2 ^ j) < 64 ∧ ∀ k, k < 6 → cn_b (a ||| 2 ^ j) k = if k = j then 1 else cn_b a k := by decide +kernel
theorem cn_or8 : ∀ a, a < 8 → ∀ b, b < 8 → (a ||| 8 * b) = a + 8 * b ∧ ∀ q, q < 3 → cn_b (a + 8 * b) q = cn_b a q ∧ cn_b (a + 8 * b) (3 + q) = cn_b b q := by decide +kernel
/-- the type in a profile, by a state -/
def cn_ti (k q : Int) : Int := if q = 0 then k / 2 % 3 else if q = 1 then k / 6 % 3 else k / 18 % 3
def cn_is (t v : Int) : Int := if t = v then 1 else 0
theorem cn_isx (t v : Int) : (t = v ∧ cn_is t v = 1) ∨ (t ≠ v ∧ cn_is t v = 0) := by
  unfold cn_is
  by_cases c : t = v
  · rw [if_pos c]; exact Or.inl ⟨c, rfl⟩
  · rw [if_neg c]; exact Or.inr ⟨c, rfl⟩
/-- which states have a type, as bits -/
def cn_on (v k : Int) : Int := cn_is (cn_ti k 0) v + 2 * cn_is (cn_ti k 1) v + 4 * cn_is (cn_ti k 2) v
theorem cn_on_b (v k : Int) : 0 ≤ cn_on v k ∧ cn_on v k < 8 := by
  unfold cn_on
  have a := cn_isx (cn_ti k 0) v
  have b := cn_isx (cn_ti k 1) v
  have c := cn_isx (cn_ti k 2) v
  omega
theorem cn_on_3 : ∀ a, a < 2 → ∀ b, b < 2 → ∀ c, c < 2 → cn_b (a + 2 * b + 4 * c) 0 = a ∧ cn_b (a + 2 * b + 4 * c) 1 = b ∧ cn_b (a + 2 * b + 4 * c) 2 = c := by decide +kernel
theorem cn_on_q (v k : Int) {q : Nat} (hq : q < 3) : cn_b (cn_on v k).toNat q = cn_is (cn_ti k q) v := by
  have a := cn_isx (cn_ti k 0) v
  have b := cn_isx (cn_ti k 1) v
  have c := cn_isx (cn_ti k 2) v
  have t := cn_on_3 (cn_is (cn_ti k 0) v).toNat (by omega) (cn_is (cn_ti k 1) v).toNat (by omega) (cn_is (cn_ti k 2) v).toNat (by omega)
  have e : (cn_on v k).toNat = (cn_is (cn_ti k 0) v).toNat + 2 * (cn_is (cn_ti k 1) v).toNat + 4 * (cn_is (cn_ti k 2) v).toNat := by unfold cn_on; omega
  rw [e]
  match q, hq with
  | 0, _ => rw [t.1]; show _ = cn_is (cn_ti k 0) v; omega
  | 1, _ => rw [t.2.1]; show _ = cn_is (cn_ti k 1) v; omega
  | 2, _ => rw [t.2.2]; show _ = cn_is (cn_ti k 2) v; omega
  | (n + 3), h => exact absurd h (by omega)
/-! what a rule makes, from its last piece on: a pile of types -/
def cn_by (s : Nat → Int) (n x : Int) : Int := if y_ch x = 0 then 0 else if y_ch x = 1 then s (n - 1).toNat else 2 * s (n - 1).toNat + s (n - 2).toNat
def cn_p1 (W : Nat → Int) (v : Int → Int) (tb : Int → Int → Int) (i : Nat) (s : Nat → Int) : Nat → Int := if 9 < W i then y_wK s (y_op W (i + 1)).toNat (v (W i)) else y_wK s (y_op W (i + 1) - y_ch (W i)).toNat (tb (W i) (cn_by s (y_op W (i + 1)) (W i)))
def cn_st (W : Nat → Int) (v : Int → Int) (tb : Int → Int → Int) (z : Nat) : Nat → Nat → Int
  | 0 => fun _ => 0
  | j + 1 => cn_p1 W v tb (z - 1 - j) (cn_st W v tb z j)
theorem cn_st_s (W : Nat → Int) (v : Int → Int) (tb : Int → Int → Int) (z j : Nat) : cn_st W v tb z (j + 1) = cn_p1 W v tb (z - 1 - j) (cn_st W v tb z j) := rfl
theorem cn_p1_c {W : Nat → Int} {v : Int → Int} {tb : Int → Int → Int} {i : Nat} {s : Nat → Int} (h : 9 < W i) : cn_p1 W v tb i s = y_wK s (y_op W (i + 1)).toNat (v (W i)) := if_pos h
theorem cn_p1_l {W : Nat → Int} {v : Int → Int} {tb : Int → Int → Int} {i : Nat} {s : Nat → Int} (h : ¬ 9 < W i) : cn_p1 W v tb i s = y_wK s (y_op W (i + 1) - y_ch (W i)).toNat (tb (W i) (cn_by s (y_op W (i + 1)) (W i))) := if_neg h
theorem cn_st_b {W : Nat → Int} {v : Int → Int} {tb : Int → Int → Int} {z : Nat} (hv : ∀ x, 0 ≤ v x ∧ v x ≤ 1) (ht : ∀ x k, 0 ≤ tb x k ∧ tb x k ≤ 1) : ∀ j m, 0 ≤ cn_st W v tb z j m ∧ cn_st W v tb z j m ≤ 1
  | 0, m => by show (0 : Int) ≤ 0 ∧ (0 : Int) ≤ 1; omega
  | j + 1, m => by
    have ih := cn_st_b (W := W) (z := z) hv ht j
    rw [cn_st_s]
    unfold cn_p1
    by_cases c : 9 < W (z - 1 - j)
    · rw [if_pos c]
      unfold y_wK
      by_cases e : m = (y_op W (z - 1 - j + 1)).toNat
      · rw [if_pos e]; exact hv _
      · rw [if_neg e]; exact ih m
    · rw [if_neg c]
      unfold y_wK
      by_cases e : m = (y_op W (z - 1 - j + 1) - y_ch (W (z - 1 - j))).toNat
      · rw [if_pos e]; exact ht _ _
      · rw [if_neg e]; exact ih m
theorem cn_st_x {W W' : Nat → Int} {v v' : Int → Int} {tb tb' : Int → Int → Int} {z : Nat} (hW : ∀ i, i < z → W i = W' i) (hv : ∀ i, i < z → 9 < W i → v (W i) = v' (W i)) (ht : ∀ x k, tb x k = tb' x k) : ∀ j, j ≤ z → cn_st W v tb z j = cn_st W' v' tb' z j
  | 0, _ => rfl
  | j + 1, h => by
    have ih := cn_st_x hW hv ht j (by omega)
    have e : tb = tb' := funext fun x => funext fun k => ht x k
    have hi := hW (z - 1 - j) (by omega)
    have ho : y_op W (z - 1 - j + 1) = y_op W' (z - 1 - j + 1) := y_op_ext (fun i hi => hW i (by omega))
    rw [cn_st_s, cn_st_s, ih]
    unfold cn_p1
    rw [← hi, ← ho, e]
    by_cases c : 9 < W (z - 1 - j)
    · rw [if_pos c, if_pos c, hv _ (by omega) c]
    · rw [if_neg c, if_neg c]
/-- what TYPE has for a letter -/
def cn_tb (A : Nat → Int) (x k : Int) : Int := if 0 ≤ x ∧ x ≤ 4 ∧ 0 ≤ k ∧ k < y_pw (y_ch x) then A (y_tab 1 x k).toNat else 0
theorem cn_tb_e {A : Nat → Int} {x k : Int} (h1 : 0 ≤ x) (h2 : x ≤ 4) (h3 : 0 ≤ k) (h4 : k < y_pw (y_ch x)) : cn_tb A x k = A (y_tab 1 x k).toNat := if_pos ⟨h1, h2, h3, h4⟩
theorem cn_tb_b {A : Nat → Int} (hP : y_PI A) (x k : Int) : 0 ≤ cn_tb A x k ∧ cn_tb A x k ≤ 1 := by
  unfold cn_tb
  by_cases c : 0 ≤ x ∧ x ≤ 4 ∧ 0 ≤ k ∧ k < y_pw (y_ch x)
  · rw [if_pos c]
    have b := y_tab_b (m := 1) (f := x) (e := k) (by omega) (by omega) c.1 c.2.1 c.2.2.1 c.2.2.2
    exact hP.2.2.1 _ (by omega) (by omega)
  · rw [if_neg c]; omega
/-- which profile a call of a rule asks, its type there -/
def cn_tc (A : Nat → Int) (p : Int) (r : Nat) (one two : Int) (x : Int) : Int := cn_ti (if w_ch A p (A (65 + 12 * r)) x = 1 then two else one) ((x - 10) / 2)
def cn_vc (A : Nat → Int) (p : Int) (r : Nat) (one two : Int) (x : Int) : Int := cn_is (cn_tc A p r one two x) 1
def cn_stk (A : Nat → Int) (p : Int) (r : Nat) (one two : Int) (i0 : Nat) : Prop := ∃ i, i0 ≤ i ∧ i < (A (67 + 12 * r)).toNat ∧ 9 < A (68 + 12 * r + i) ∧ cn_tc A p r one two (A (68 + 12 * r + i)) = 2
abbrev cn_W (A : Nat → Int) (r : Nat) : Nat → Int := fun i => A (68 + 12 * r + i)
noncomputable def cn_tr (A : Nat → Int) (p : Int) (r : Nat) (one two : Int) : Int := @ite Int (cn_stk A p r one two 0) (Classical.propDecidable _) 2 (cn_st (cn_W A r) (cn_vc A p r one two) (cn_tb A) (A (67 + 12 * r)).toNat (A (67 + 12 * r)).toNat 0)
theorem cn_tr_s {A : Nat → Int} {p : Int} {r : Nat} {one two : Int} (h : cn_stk A p r one two 0) : cn_tr A p r one two = 2 := by
  unfold cn_tr
  exact if_pos h
theorem cn_tr_n {A : Nat → Int} {p : Int} {r : Nat} {one two : Int} (h : ¬ cn_stk A p r one two 0) : cn_tr A p r one two = cn_st (cn_W A r) (cn_vc A p r one two) (cn_tb A) (A (67 + 12 * r)).toNat (A (67 + 12 * r)).toNat 0 := by
  unfold cn_tr
  exact if_neg h
theorem cn_vc_b {A : Nat → Int} {p : Int} {r : Nat} {one two : Int} (x : Int) : 0 ≤ cn_vc A p r one two x ∧ cn_vc A p r one two x ≤ 1 := by
  have := cn_isx (cn_tc A p r one two x) 1
  unfold cn_vc
  omega
theorem cn_tr_b {A : Nat → Int} {p : Int} {r : Nat} {one two : Int} (hP : y_PI A) : 0 ≤ cn_tr A p r one two ∧ cn_tr A p r one two ≤ 2 := by
  by_cases c : cn_stk A p r one two 0
  · rw [cn_tr_s c]; omega
  · rw [cn_tr_n c]
    have := cn_st_b (W := cn_W A r) (v := cn_vc A p r one two) (tb := cn_tb A) (z := (A (67 + 12 * r)).toNat) cn_vc_b (cn_tb_b hP) (A (67 + 12 * r)).toNat 0
    omega
noncomputable def cn_tq (A : Nat → Int) (p q f lk one two : Int) : Int := if y_sel A p q f lk (A 62).toNat < 0 then 2 else cn_tr A p (y_sel A p q f lk (A 62).toNat).toNat one two
theorem cn_tq_b {A : Nat → Int} {p q f lk one two : Int} (hP : y_PI A) : 0 ≤ cn_tq A p q f lk one two ∧ cn_tq A p q f lk one two ≤ 2 := by
  unfold cn_tq
  by_cases c : y_sel A p q f lk (A 62).toNat < 0
  · rw [if_pos c]; omega
  · rw [if_neg c]; exact cn_tr_b hP
def cn_kk (f one two : Int) : Int := if y_ch f = 0 then 0 else if y_ch f = 1 then one % 2 else 2 * (one % 2) + two % 2
theorem cn_kkx (f one two : Int) : (y_ch f = 0 ∧ cn_kk f one two = 0) ∨ (y_ch f = 1 ∧ cn_kk f one two = one % 2) ∨ (y_ch f = 2 ∧ cn_kk f one two = 2 * (one % 2) + two % 2) := by
  unfold cn_kk
  have := y_ch_b f
  (repeat' split) <;> omega
theorem cn_kk_b (f one two : Int) : 0 ≤ cn_kk f one two ∧ cn_kk f one two < y_pw (y_ch f) := by
  have a := cn_kkx f one two
  have b := y_pwx (y_ch f)
  omega
def cn_lk (A : Nat → Int) (f one two : Int) : Int := A (y_tab 0 f (cn_kk f one two)).toNat
theorem cn_lk_b {A : Nat → Int} {f one two : Int} (hP : y_PI A) (f1 : 0 ≤ f) (f2 : f ≤ 4) : 0 ≤ cn_lk A f one two ∧ cn_lk A f one two ≤ 1 := by
  have k := cn_kk_b f one two
  have b := y_tab_b (m := 0) (f := f) (by omega) (by omega) f1 f2 k.1 k.2
  exact hP.2.2.1 _ (by omega) (by omega)
noncomputable def cn_pI (A : Nat → Int) (p f one two : Int) : Int := cn_lk A f one two + 2 * cn_tq A p 0 f (cn_lk A f one two) one two + 6 * cn_tq A p 1 f (cn_lk A f one two) one two + 18 * cn_tq A p 2 f (cn_lk A f one two) one two
theorem cn_pI_b {A : Nat → Int} {p f one two : Int} (hP : y_PI A) (f1 : 0 ≤ f) (f2 : f ≤ 4) : 0 ≤ cn_pI A p f one two ∧ cn_pI A p f one two ≤ 53 := by
  have a := cn_lk_b (one := one) (two := two) hP f1 f2
  have b := cn_tq_b (p := p) (q := 0) (f := f) (lk := cn_lk A f one two) (one := one) (two := two) hP
  have c := cn_tq_b (p := p) (q := 1) (f := f) (lk := cn_lk A f one two) (one := one) (two := two) hP
  have d := cn_tq_b (p := p) (q := 2) (f := f) (lk := cn_lk A f one two) (one := one) (two := two) hP
  unfold cn_pI
  omega
noncomputable def cn_pf (A : Nat → Int) (p : Int) : Int → Nat → Nat → Nat := fun f l r => (cn_pI A p f l r).toNat
theorem cn_pf_b {A : Nat → Int} {p f : Int} {l r : Nat} (hP : y_PI A) (f1 : 0 ≤ f) (f2 : f ≤ 4) : cn_pf A p f l r < 54 := by
  have := cn_pI_b (p := p) (one := l) (two := r) hP f1 f2
  unfold cn_pf
  omega
/-- profiles hang on tables, kinds and rules alone -/
theorem cn_pI_x {A B : Nat → Int} {p f one two : Int} (p1 : 0 ≤ p) (p2 : p ≤ 1) (f1 : 0 ≤ f) (f2 : f ≤ 4) (h : ∀ m, (m < 2 ∨ 38 ≤ m) → B m = A m) : cn_pI B p f one two = cn_pI A p f one two := by
  have k := cn_kk_b f one two
  have b := y_tab_b (m := 0) (f := f) (by omega) (by omega) f1 f2 k.1 k.2
  have e1 : cn_lk B f one two = cn_lk A f one two := h _ (by omega)
  have ht : ∀ x k, cn_tb B x k = cn_tb A x k := fun x k => by
    unfold cn_tb
    by_cases c : 0 ≤ x ∧ x ≤ 4 ∧ 0 ≤ k ∧ k < y_pw (y_ch x)
    · rw [if_pos c, if_pos c]
      have b := y_tab_b (m := 1) (f := x) (e := k) (by omega) (by omega) c.1 c.2.1 c.2.2.1 c.2.2.2
      exact h _ (by omega)
    · rw [if_neg c, if_neg c]
  have e2 : ∀ (r : Nat) (x : Int), cn_tc B p r one two x = cn_tc A p r one two x := fun r x => by
    unfold cn_tc w_ch
    rw [h (65 + 12 * r) (by omega), h p.toNat (by omega)]
  have e3 : ∀ r : Nat, cn_tr B p r one two = cn_tr A p r one two := fun r => by
    have z : B (67 + 12 * r) = A (67 + 12 * r) := h _ (by omega)
    have w : ∀ i : Nat, B (68 + 12 * r + i) = A (68 + 12 * r + i) := fun i => h _ (by omega)
    have sk : cn_stk B p r one two 0 ↔ cn_stk A p r one two 0 := by
      unfold cn_stk
      rw [z]
      constructor
      · intro ⟨i, h0, h1, h2, h3⟩
        rw [w i] at h2 h3
        exact ⟨i, h0, h1, h2, by rw [← e2]; exact h3⟩
      · intro ⟨i, h0, h1, h2, h3⟩
        exact ⟨i, h0, h1, by rw [w i]; exact h2, by rw [w i, e2]; exact h3⟩
    by_cases c : cn_stk A p r one two 0
    · rw [cn_tr_s c, cn_tr_s (sk.2 c)]
    · rw [cn_tr_n c, cn_tr_n (fun q => c (sk.1 q)), z]
      exact congrFun (cn_st_x (W := cn_W B r) (W' := cn_W A r) (fun i _ => w i) (fun i _ _ => by unfold cn_vc; rw [e2]) ht _ (Nat.le_refl _)) 0
  have e4 : ∀ q lk, cn_tq B p q f lk one two = cn_tq A p q f lk one two := fun q lk => by
    have s : y_sel B p q f lk (B 62).toNat = y_sel A p q f lk (A 62).toNat := by
      rw [h 62 (by omega)]
      exact y_sel_e (h _ (by omega)) (fun r _ c _ => h _ (by omega))
    unfold cn_tq
    rw [s, e3]
  unfold cn_pI
  rw [e1, e4, e4, e4]
theorem cn_pf_x {A B : Nat → Int} {p f : Int} {l r : Nat} (p1 : 0 ≤ p) (p2 : p ≤ 1) (f1 : 0 ≤ f) (f2 : f ≤ 4) (h : ∀ m, (m < 2 ∨ 38 ≤ m) → B m = A m) : cn_pf B p f l r = cn_pf A p f l r := by
  unfold cn_pf
  rw [cn_pI_x p1 p2 f1 f2 h]
/-! longs, exact -/
section
variable {E : q_E} {M : q_M} {Q : Option q_V → x_S → Prop} {tg : Nat → Nat} {cs : List q_Op} {lo : q_Lo} {st : List q_V} {σ : x_S}
theorem x_lbinX {f : Nat → Nat → Nat} {a b : Nat} (k : x_X E M Q tg cs lo (x_N (f a b) :: st) σ) : x_X E M Q tg (o_lbin f :: cs) lo (x_N b :: x_N a :: st) σ := by
  intro B lo2 h hB hlo hs hg
  rw [x_run_c]
  unfold o_lbin
  rw [n_pop, n_isL, n_pop, n_isL, e_frc_eq]
  exact k B lo2 h hB hlo hs hg
/-- one bit of a long -/
theorem x_lushrX {a : Nat} {b : Int} (h1 : 0 ≤ b) (h2 : b ≤ 63) (k : x_X E M Q tg cs lo (x_N ((a % 18446744073709551616) / 2 ^ b.toNat) :: st) σ) : x_X E M Q tg (o_lushr :: cs) lo (x_I b :: x_N a :: st) σ := by
  have hb := x_c_nat h1 (by omega)
  have hb2 : x_c b = b.toNat := by omega
  intro B lo2 h hB hlo hs hg
  rw [x_run_c]
  unfold o_lushr
  rw [n_pi, n_pop, n_isL, f_ble (show Nat.succ (x_c b) ≤ 64 by omega), cond_true, e_frc_eq, hb2]
  exact k B lo2 h hB hlo hs hg
theorem x_l2iX {a : Nat} (ha : a < 4294967296) (k : x_X E M Q tg cs lo (x_I (a : Int) :: st) σ) : x_X E M Q tg (o_l2i :: cs) lo (x_N a :: st) σ := by
  intro B lo2 h hB hlo hs hg
  rw [x_run_c]
  unfold o_l2i
  rw [n_pop, n_isL, e_frc_eq]
  have k2 := k B lo2 h hB hlo hs hg
  have e : x_I (a : Int) = (Sum.inl (a % 4294967296) : q_V) := by
    show (Sum.inl (x_c (a : Int)) : q_V) = _
    rw [x_c_in ha, Nat.mod_eq_of_lt ha]
  rw [e] at k2
  exact k2
theorem x_laldX {r n : Nat} {i : Int} (hr : x_tag r = 1) (hl : x_len r = n) (hb : n ≤ 2147483647) (hi : 0 ≤ i) (hn : i < n) (kk : ∀ m : Nat, (m : Int) = σ r i.toNat → x_X E M Q tg cs lo (x_N m :: st) σ) : x_X E M Q tg (o_lald :: cs) lo (x_I i :: x_R r :: st) σ := by
  intro B lo2 h hB hlo hs hg
  subst hl
  obtain ⟨c1, c2⟩ := x_cell hs hr (by omega)
  have hci := x_c_nat hi (by omega)
  have hin : x_c i = i.toNat := by omega
  rw [x_run_c]
  unfold o_lald
  rw [n_pi, n_pop, n_ra, f_cel c1, Nat.beq_refl, f_ble (show Nat.succ (x_c i) ≤ x_len r by omega), f_ble (show Nat.succ (x_c i) ≤ 2147483648 by omega), Bool.and_true, Bool.and_true, cond_true, e_frc_eq]
  refine kk _ ?_ B lo2 h hB hlo hs hg
  rw [← hg, hin]
  unfold x_g x_de
  rw [if_pos hr]
theorem x_lwheX {i : Int} (hi : 0 ≤ i) (hn : i < 6) (kk : x_X E M Q tg cs lo (x_N (q_whe i.toNat) :: st) σ) : x_X E M Q tg (o_lald :: cs) lo (x_I i :: x_Z 2 :: st) σ := by
  intro B lo2 h hB hlo hs hg
  have hci := x_c_nat hi (by omega)
  have hin : x_c i = i.toNat := by omega
  rw [x_run_c]
  unfold o_lald
  rw [n_pi, n_pop, n_raZ, f_ble (show Nat.succ (x_c i) ≤ 6 by omega), e_frc_eq, hin]
  exact kk B lo2 h hB hlo hs hg
theorem x_lastX {r n a : Nat} {i : Int} (hr : x_tag r = 1) (hl : x_len r = n) (hb : n ≤ 2147483647) (hf : ∀ z, x_rf r z = 0) (C : y_CI σ) (hi : 0 ≤ i) (hn : i < n) (kk : ∀ τ, τ = x_up σ r i.toNat ((a % 18446744073709551616 : Nat) : Int) → y_CI τ → x_X E M Q tg cs lo st τ) : x_X E M Q tg (o_last :: cs) lo (x_N a :: x_I i :: x_R r :: st) σ := by
  intro B lo2 h hB hlo hs hg
  subst hl
  obtain ⟨c1, c2⟩ := x_cell hs hr (by omega)
  have hci := x_c_nat hi (by omega)
  have hin : x_c i = i.toNat := by omega
  rw [x_run_c]
  unfold o_last
  rw [n_pop, n_isL, n_pi, n_pop, n_isR, f_cel c1, Nat.beq_refl, f_ble (show Nat.succ (x_c i) ≤ x_len r by omega), f_ble (show Nat.succ (x_c i) ≤ 2147483648 by omega), Bool.and_true, Bool.and_true, cond_true, f_put c1, hin]
  obtain ⟨w1, w2⟩ := x_put (k := i.toNat) (a := a % 18446744073709551616) hs hr (by omega) (by omega) (hf _) (Nat.mod_lt _ (by decide))
  have hd : x_de r (a % 18446744073709551616) = ((a % 18446744073709551616 : Nat) : Int) := by
    unfold x_de
    rw [if_pos hr]
  refine kk _ (by rw [← hd]) (y_CI_upL C rfl hr) B lo2 _ hB hlo w1 (by rw [w2, hg, hd])
theorem x_iandX {a b : Int} (a1 : 0 ≤ a) (a2 : a ≤ 2147483647) (b1 : 0 ≤ b) (b2 : b ≤ 2147483647) (k : ∀ v : Int, v = ((a.toNat &&& b.toNat : Nat) : Int) → 0 ≤ v → v ≤ a → x_X E M Q tg cs lo (x_I v :: st) σ) : x_X E M Q tg (o_bin f_iand :: cs) lo (x_I b :: x_I a :: st) σ := by
  have ha := x_c_nat a1 (by omega)
  have hb := x_c_nat b1 (by omega)
  have ea : x_c a = a.toNat := by omega
  have eb : x_c b = b.toNat := by omega
  have hle : a.toNat &&& b.toNat ≤ a.toNat := Nat.and_le_left
  refine x_bin ((a.toNat &&& b.toNat : Nat) : Int) ?_ (k _ rfl (by omega) (by omega))
  rw [x_c_in (by omega), ea, eb]
  rfl
theorem x_iorX {a b : Int} (a1 : 0 ≤ a) (a2 : a < 64) (b1 : 0 ≤ b) (b2 : b < 64) (k : ∀ v : Int, v = ((a.toNat ||| b.toNat : Nat) : Int) → 0 ≤ v → v < 64 → x_X E M Q tg cs lo (x_I v :: st) σ) : x_X E M Q tg (o_bin f_ior :: cs) lo (x_I b :: x_I a :: st) σ := by
  have ha := x_c_nat a1 (by omega)
  have hb := x_c_nat b1 (by omega)
  have ea : x_c a = a.toNat := by omega
  have eb : x_c b = b.toNat := by omega
  have hle : a.toNat ||| b.toNat < 2 ^ 6 := Nat.or_lt_two_pow (by omega) (by omega)
  refine x_bin ((a.toNat ||| b.toNat : Nat) : Int) ?_ (k _ rfl (by omega) (by omega))
  rw [x_c_in (by omega), ea, eb]
  rfl
/-- one moved up by at most five -/
theorem x_shl5 {c : Int} (h1 : 0 ≤ c) (h2 : c ≤ 5) (k : ∀ v : Int, v = ((2 ^ c.toNat : Nat) : Int) → 1 ≤ v → v ≤ 32 → x_X E M Q tg cs lo (x_I v :: st) σ) : x_X E M Q tg (o_binc g_ishl f_ishl :: cs) lo (x_I c :: x_I 1 :: st) σ := by
  have h : c = 0 ∨ c = 1 ∨ c = 2 ∨ c = 3 ∨ c = 4 ∨ c = 5 := by omega
  rcases h with rfl | rfl | rfl | rfl | rfl | rfl
  · exact x_binc 1 rfl rfl (k _ rfl (by decide) (by decide))
  · exact x_binc 2 rfl rfl (k _ rfl (by decide) (by decide))
  · exact x_binc 4 rfl rfl (k _ rfl (by decide) (by decide))
  · exact x_binc 8 rfl rfl (k _ rfl (by decide) (by decide))
  · exact x_binc 16 rfl rfl (k _ rfl (by decide) (by decide))
  · exact x_binc 32 rfl rfl (k _ rfl (by decide) (by decide))
/-- a number below four moved down by none or one -/
theorem x_shrX {a b : Int} (a1 : 0 ≤ a) (a2 : a ≤ 3) (b1 : 0 ≤ b) (b2 : b ≤ 1) (k : ∀ v : Int, ((b = 0 ∧ v = a) ∨ (b = 1 ∧ v = a / 2)) → 0 ≤ v → v ≤ 3 → x_X E M Q tg cs lo (x_I v :: st) σ) : x_X E M Q tg (o_binc g_ishr f_ishr :: cs) lo (x_I b :: x_I a :: st) σ := by
  have hb : b = 0 ∨ b = 1 := by omega
  have ha : a = 0 ∨ a = 1 ∨ a = 2 ∨ a = 3 := by omega
  rcases hb with rfl | rfl
  · rcases ha with rfl | rfl | rfl | rfl
    · exact x_binc 0 rfl rfl (k _ (by omega) (by omega) (by omega))
    · exact x_binc 1 rfl rfl (k _ (by omega) (by omega) (by omega))
    · exact x_binc 2 rfl rfl (k _ (by omega) (by omega) (by omega))
    · exact x_binc 3 rfl rfl (k _ (by omega) (by omega) (by omega))
  · rcases ha with rfl | rfl | rfl | rfl
    · exact x_binc 0 rfl rfl (k _ (by omega) (by omega) (by omega))
    · exact x_binc 0 rfl rfl (k _ (by omega) (by omega) (by omega))
    · exact x_binc 1 rfl rfl (k _ (by omega) (by omega) (by omega))
    · exact x_binc 1 rfl rfl (k _ (by omega) (by omega) (by omega))
end
