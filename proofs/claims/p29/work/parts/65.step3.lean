/-! more steps: any ints, longs, rows of references, and the class's ranges -/
abbrev x_N (n : Nat) : q_V := .inr (.inr (.inl n))
theorem f_ls2 {lo : q_Lo} {i : Nat} {x : q_V} {k : q_Lo → Bool} : e_ls2 lo i x k = k (q_ls2 lo i x) := by
  have key : ∀ (lo : q_Lo) (k : q_Lo → Bool), List.rec (motive := fun _ => (q_Lo → Bool) → Bool) (fun k => k []) (fun p _ ih k => cond (or (Nat.beq p.1 i) (or (Nat.beq p.1 (i + 1)) (and (Nat.beq (Nat.succ p.1) i) (Nat.beq (q_cat p.2) 2)))) (ih k) (ih (fun t => k (p :: t)))) lo k = k (lo.filter (fun q => !(q.1 == i) && (!(q.1 == i + 1) && !(q.1 + 1 == i && q_cat q.2 == 2)))) := by
    intro lo
    induction lo with
    | nil => intro k; rfl
    | cons p lo ih =>
      intro k
      rw [List.filter_cons]
      have e1 : (p.1 == i) = Nat.beq p.1 i := q_beq _ _
      have e4 : (p.1 == i + 1) = Nat.beq p.1 (i + 1) := q_beq _ _
      have e2 : (p.1 + 1 == i) = Nat.beq (Nat.succ p.1) i := q_beq _ _
      have e3 : (q_cat p.2 == 2) = Nat.beq (q_cat p.2) 2 := q_beq _ _
      rw [e1, e2, e3, e4]
      dsimp only
      cases b1 : Nat.beq p.1 i with
      | true => exact ih _
      | false =>
        cases b4 : Nat.beq p.1 (i + 1) with
        | true => exact ih _
        | false =>
          cases b2 : (Nat.beq (Nat.succ p.1) i && Nat.beq (q_cat p.2) 2) with
          | true => exact ih _
          | false => exact ih (fun t => k (p :: t))
  exact key lo (fun t => k ((i, x) :: t))
def x_st2 (lo : q_Lo) (i : Nat) (v : q_V) : q_Lo := (i, v) :: lo.filter (fun q => !(Nat.beq q.1 i) && (!(Nat.beq q.1 (i + 1)) && !(lo.any (fun p => Nat.beq p.1 q.1 && Nat.beq (p.1 + 1) i && Nat.beq (q_cat p.2) 2))))
theorem x_st2_le {lo lo2 : q_Lo} {i : Nat} {v : q_V} (h : x_le lo lo2) : x_le (x_st2 lo i v) (q_ls2 lo2 i v) := by
  intro m w hm
  unfold x_st2 at hm
  unfold q_ls2
  unfold q_lg at hm ⊢
  by_cases c : i = m
  · rw [if_pos c] at hm ⊢
    exact hm
  · rw [if_neg c] at hm ⊢
    have hmem := x_lg_mem hm
    have hf := (List.mem_filter.mp hmem).2
    rw [Bool.and_eq_true, Bool.and_eq_true] at hf
    have hf1 := hf.2.1
    have hf2 := hf.2.2
    rw [Bool.not_eq_true'] at hf2 hf1
    have hany : ∀ p ∈ lo, ¬ (p.1 = m ∧ m + 1 = i ∧ q_cat p.2 = 2) := by
      intro p hp z
      have := List.any_eq_false.mp hf2 p hp
      apply this
      rw [Bool.and_eq_true, Bool.and_eq_true]
      refine ⟨⟨?_, ?_⟩, ?_⟩
      · rw [z.1]; exact Nat.beq_refl m
      · rw [z.1, z.2.1]; exact Nat.beq_refl i
      · rw [z.2.2]; rfl
    have hlo : q_lg lo m = some w := by
      rw [← hm]
      refine (x_lg_f (v := w) ?_).symm
      intro p hp hpm
      rw [Bool.and_eq_true, Bool.and_eq_true, Bool.not_eq_true', Bool.not_eq_true', Bool.not_eq_true']
      refine ⟨?_, ?_, ?_⟩
      · cases hb : Nat.beq p.1 i with
        | false => rfl
        | true => exact absurd ((Nat.eq_of_beq_eq_true hb).symm.trans hpm) c
      · rw [hpm]; exact hf1
      · rw [hpm]; exact hf2
    have h2 := h m w hlo
    refine x_lg_k h2 ?_
    rw [Bool.and_eq_true, Bool.and_eq_true, Bool.not_eq_true', Bool.not_eq_true', Bool.not_eq_true']
    refine ⟨?_, ?_, ?_⟩
    · exact beq_eq_false_iff_ne.mpr (fun z => c z.symm)
    · refine beq_eq_false_iff_ne.mpr (fun z => ?_)
      have z : m = i + 1 := z
      have hf1 : Nat.beq m (i + 1) = false := hf1
      rw [z, Nat.beq_refl] at hf1
      cases hf1
    · rw [Bool.and_eq_false_iff]
      by_cases c2 : m + 1 = i
      · right
        apply beq_eq_false_iff_ne.mpr
        intro z
        exact hany (m, w) (x_lg_mem hlo) ⟨rfl, c2, z⟩
      · left
        exact beq_eq_false_iff_ne.mpr c2
theorem x_inl {n : Nat} (h : n < 4294967296) : ∃ y : Int, -2147483648 ≤ y ∧ y ≤ 2147483647 ∧ x_c y = n := ⟨x_s n, x_s_lo n, x_s_hi n, by rw [x_cs, Nat.mod_eq_of_lt h]⟩
section
variable {E : q_E} {M : q_M} {Q : Option q_V → x_S → Prop} {tg : Nat → Nat} {cs : List q_Op} {lo : q_Lo} {st : List q_V} {σ : x_S}
/-- any int -/
theorem x_wrp {a : Int} (k : ∀ y, -2147483648 ≤ y → y ≤ 2147483647 → x_X E M Q tg cs lo (x_I y :: st) σ) : x_X E M Q tg cs lo (x_I a :: st) σ := by
  obtain ⟨y, h1, h2, h3, h4⟩ := x_wrap a
  exact x_eq h3 (k y h1 h2)
theorem x_any {n : Nat} (h : n < 4294967296) (k : ∀ y, -2147483648 ≤ y → y ≤ 2147483647 → x_X E M Q tg cs lo (x_I y :: st) σ) : x_X E M Q tg cs lo (.inl n :: st) σ := by
  obtain ⟨y, h1, h2, h3⟩ := x_inl h
  rw [← h3]
  exact k y h1 h2
theorem x_bin0 {f : Nat → Nat → Nat} {a b : Int} (k : x_X E M Q tg cs lo (.inl (f (x_c a) (x_c b)) :: st) σ) : x_X E M Q tg (o_bin f :: cs) lo (x_I b :: x_I a :: st) σ := by
  intro B lo2 h hB hlo hs hg
  rw [x_run_c]
  unfold o_bin
  rw [n_pi, n_pi, e_frc_eq]
  exact k B lo2 h hB hlo hs hg
theorem x_binc0 {g : Nat → Nat → Bool} {f : Nat → Nat → Nat} {a b : Int} (hg : g (x_c a) (x_c b) = true) (k : x_X E M Q tg cs lo (.inl (f (x_c a) (x_c b)) :: st) σ) : x_X E M Q tg (o_binc g f :: cs) lo (x_I b :: x_I a :: st) σ := by
  intro B lo2 h hB hlo hs hgg
  rw [x_run_c]
  unfold o_binc
  rw [n_pi, n_pi, hg, cond_true, e_frc_eq]
  exact k B lo2 h hB hlo hs hgg
theorem x_c_in {n : Nat} (h : n < 4294967296) : x_c (n : Int) = n := by unfold x_c; omega
/-- and with a mask that is not below 0 -/
theorem x_iandM {a b : Int} (h1 : 0 ≤ b) (h2 : b ≤ 2147483647) (k : ∀ y, 0 ≤ y → y ≤ b → x_X E M Q tg cs lo (x_I y :: st) σ) : x_X E M Q tg (o_bin f_iand :: cs) lo (x_I b :: x_I a :: st) σ := by
  have hb := x_c_nat h1 (by omega)
  have hle : f_iand (x_c a) (x_c b) ≤ x_c b := Nat.and_le_right
  refine x_bin ((f_iand (x_c a) (x_c b) : Nat) : Int) (x_c_in (by omega)).symm (k _ (by omega) (by omega))
theorem x_iorF {a b : Int} (k : ∀ y, -2147483648 ≤ y → y ≤ 2147483647 → x_X E M Q tg cs lo (x_I y :: st) σ) : x_X E M Q tg (o_bin f_ior :: cs) lo (x_I b :: x_I a :: st) σ :=
  x_bin0 (x_any (Nat.or_lt_two_pow (n := 32) (x_c_lt a) (x_c_lt b)) k)
/-- or of numbers of so many bits -/
theorem x_iorM (n : Nat) {a b p : Int} (hp : ((2 ^ n : Nat) : Int) = p) (hn : p ≤ 2147483647) (a1 : 0 ≤ a) (a2 : a < p) (b1 : 0 ≤ b) (b2 : b < p) (k : ∀ y, 0 ≤ y → y < p → x_X E M Q tg cs lo (x_I y :: st) σ) : x_X E M Q tg (o_bin f_ior :: cs) lo (x_I b :: x_I a :: st) σ := by
  have ha := x_c_nat a1 (by omega)
  have hb := x_c_nat b1 (by omega)
  have hle : f_ior (x_c a) (x_c b) < 2 ^ n := Nat.or_lt_two_pow (by omega) (by omega)
  refine x_bin ((f_ior (x_c a) (x_c b) : Nat) : Int) (x_c_in (by omega)).symm (k _ (by omega) (by omega))
theorem x_shlF {a b : Int} (h1 : 0 ≤ b) (h2 : b ≤ 31) (k : ∀ y, -2147483648 ≤ y → y ≤ 2147483647 → x_X E M Q tg cs lo (x_I y :: st) σ) : x_X E M Q tg (o_binc g_ishl f_ishl :: cs) lo (x_I b :: x_I a :: st) σ := by
  have hb := x_c_nat h1 (by omega)
  refine x_binc0 ?_ (x_any (Nat.mod_lt _ (by decide)) k)
  unfold g_ishl
  exact f_ble (by omega)
theorem x_shl3 {a : Int} (h1 : 0 ≤ a) (h2 : a ≤ 1000) (k : x_X E M Q tg cs lo (x_I (8 * a) :: st) σ) : x_X E M Q tg (o_binc g_ishl f_ishl :: cs) lo (x_I 3 :: x_I a :: st) σ := by
  have ha := x_c_nat h1 (by omega)
  have h8 := x_c_nat (x := 8 * a) (by omega) (by omega)
  refine x_binc (8 * a) rfl ?_ k
  show (x_c a * 2 ^ x_c 3) % 4294967296 = _
  rw [show x_c 3 = 3 from rfl]
  omega
theorem x_shrF {a b : Int} (a1 : 0 ≤ a) (a2 : a ≤ 2147483647) (h1 : 0 ≤ b) (h2 : b ≤ 31) (k : ∀ y, 0 ≤ y → y ≤ a → x_X E M Q tg cs lo (x_I y :: st) σ) : x_X E M Q tg (o_binc g_ishr f_ishr :: cs) lo (x_I b :: x_I a :: st) σ := by
  have ha := x_c_nat a1 (by omega)
  have hb := x_c_nat h1 (by omega)
  have hle : f_ishr (x_c a) (x_c b) ≤ x_c a := Nat.div_le_self _ _
  refine x_binc ((f_ishr (x_c a) (x_c b) : Nat) : Int) ?_ (x_c_in (by omega)).symm (k _ (by omega) (by omega))
  unfold g_ishr
  rw [f_ble (by omega), f_ble (by omega)]
  rfl
theorem x_min {lR : Nat} {a b : Int} (a1 : -2147483648 ≤ a) (a2 : a ≤ 2147483647) (b1 : -2147483648 ≤ b) (b2 : b ≤ 2147483647) (hw : q_wd st + 13 ≤ lR) (k : ∀ y, y ≤ a → y ≤ b → (y = a ∨ y = b) → x_X E M Q tg cs lo (x_I y :: st) σ) : x_X E M Q tg (o_mm q_fmin lR 0 0 :: cs) lo (x_I b :: x_I a :: st) σ := by
  have ha := x_bi a1 a2
  have hb := x_bi b1 b2
  intro B lo2 h hB hlo hs hg
  rw [x_run_c]
  unfold o_mm
  rw [n_pi, n_pi, f_ble hw, f_ble (Nat.le_refl 0), Bool.and_true, Bool.and_true, cond_true, e_frc_eq, q_fmin_eq]
  by_cases c : q_bi (x_c b) < q_bi (x_c a)
  · rw [if_pos c]
    exact k b (by omega) (by omega) (Or.inr rfl) B lo2 h hB hlo hs hg
  · rw [if_neg c]
    exact k a (by omega) (by omega) (Or.inl rfl) B lo2 h hB hlo hs hg
theorem x_max {lR : Nat} {a b : Int} (a1 : -2147483648 ≤ a) (a2 : a ≤ 2147483647) (b1 : -2147483648 ≤ b) (b2 : b ≤ 2147483647) (hw : q_wd st + 13 ≤ lR) (k : ∀ y, a ≤ y → b ≤ y → (y = a ∨ y = b) → x_X E M Q tg cs lo (x_I y :: st) σ) : x_X E M Q tg (o_mm q_fmax lR 0 0 :: cs) lo (x_I b :: x_I a :: st) σ := by
  have ha := x_bi a1 a2
  have hb := x_bi b1 b2
  intro B lo2 h hB hlo hs hg
  rw [x_run_c]
  unfold o_mm
  rw [n_pi, n_pi, f_ble hw, f_ble (Nat.le_refl 0), Bool.and_true, Bool.and_true, cond_true, e_frc_eq, q_fmax_eq]
  by_cases c : q_bi (x_c a) < q_bi (x_c b)
  · rw [if_pos c]
    exact k b (by omega) (by omega) (Or.inr rfl) B lo2 h hB hlo hs hg
  · rw [if_neg c]
    exact k a (by omega) (by omega) (Or.inl rfl) B lo2 h hB hlo hs hg
theorem x_abs {lR : Nat} {a : Int} (a1 : -2147483647 ≤ a) (a2 : a ≤ 2147483647) (hw : q_wd st + 13 ≤ lR) (k : ∀ y, 0 ≤ y → (y = a ∨ y = -a) → x_X E M Q tg cs lo (x_I y :: st) σ) : x_X E M Q tg (o_abs lR 0 0 :: cs) lo (x_I a :: st) σ := by
  have ha := x_bi (x := a) (by omega) a2
  intro B lo2 h hB hlo hs hg
  rw [x_run_c]
  unfold o_abs
  rw [n_pi, f_ble hw, f_ble (Nat.le_refl 0), Bool.and_true, Bool.and_true, cond_true, e_frc_eq]
  by_cases c : 0 ≤ a
  · rw [f_ble (by omega), cond_true]
    exact k a c (Or.inl rfl) B lo2 h hB hlo hs hg
  · rw [f_nble (by omega), cond_false]
    have e : (4294967296 - x_c a % 4294967296) % 4294967296 = x_c (-a) := by unfold x_c; omega
    rw [e]
    exact k (-a) (by omega) (Or.inr rfl) B lo2 h hB hlo hs hg
theorem x_i2c {a : Int} (h1 : 0 ≤ a) (h2 : a ≤ 65535) (k : x_X E M Q tg cs lo (x_I a :: st) σ) : x_X E M Q tg (o_i2c :: cs) lo (x_I a :: st) σ := by
  have ha := x_c_nat h1 (by omega)
  intro B lo2 h hB hlo hs hg
  rw [x_run_c]
  unfold o_i2c
  rw [n_pi, e_frc_eq, Nat.mod_eq_of_lt (by omega)]
  exact k B lo2 h hB hlo hs hg
theorem x_astC {r n m : Nat} {i v : Int} (hr : x_tag r = 2) (hl : x_len r = n) (hb : n ≤ 2147483648) (hf : ∀ z, x_rf r z = 0) (hm : i.toNat = m) (hi : 0 ≤ i) (hn : i < n) (hv1 : 0 ≤ v) (hv2 : v ≤ 65535) (kk : ∀ τ, τ = x_up σ r m v → x_X E M Q tg cs lo st τ) : x_X E M Q tg (o_ast 2 65536 :: cs) lo (x_I v :: x_I i :: x_R r :: st) σ := by
  have hc := x_c_nat hv1 (by omega)
  exact x_astw hr (Or.inr (Or.inl rfl)) hl hb hf hm hi hn (by omega) (show x_c v < 65536 by omega) (by omega) (by omega) kk
/-! longs -/
theorem x_lloadN {i n : Nat} (hl : q_lg lo i = some (x_N n)) (k : x_X E M Q tg cs lo (x_N n :: st) σ) : x_X E M Q tg (o_lload i :: cs) lo st σ := x_lload hl k
theorem x_lstore {i n : Nat} (k : x_X E M Q tg cs (x_st2 lo i (x_N n)) st σ) : x_X E M Q tg (o_lstore i :: cs) lo (x_N n :: st) σ := by
  intro B lo2 h hB hlo hs hg
  rw [x_run_c]
  unfold o_lstore
  rw [n_pop, n_isL, f_ls2]
  exact k B _ h hB (x_st2_le hlo) hs hg
theorem x_lbin {f : Nat → Nat → Nat} {a b : Nat} (k : ∀ n, x_X E M Q tg cs lo (x_N n :: st) σ) : x_X E M Q tg (o_lbin f :: cs) lo (x_N b :: x_N a :: st) σ := by
  intro B lo2 h hB hlo hs hg
  rw [x_run_c]
  unfold o_lbin
  rw [n_pop, n_isL, n_pop, n_isL, e_frc_eq]
  exact k _ B lo2 h hB hlo hs hg
theorem x_lushr {a : Nat} {b : Int} (h1 : 0 ≤ b) (h2 : b ≤ 63) (k : ∀ n, x_X E M Q tg cs lo (x_N n :: st) σ) : x_X E M Q tg (o_lushr :: cs) lo (x_I b :: x_N a :: st) σ := by
  have hb := x_c_nat h1 (by omega)
  intro B lo2 h hB hlo hs hg
  rw [x_run_c]
  unfold o_lushr
  rw [n_pi, n_pop, n_isL, f_ble (show Nat.succ (x_c b) ≤ 64 by omega), cond_true, e_frc_eq]
  exact k _ B lo2 h hB hlo hs hg
theorem x_l2i {a : Nat} (k : ∀ y, -2147483648 ≤ y → y ≤ 2147483647 → x_X E M Q tg cs lo (x_I y :: st) σ) : x_X E M Q tg (o_l2i :: cs) lo (x_N a :: st) σ := by
  intro B lo2 h hB hlo hs hg
  rw [x_run_c]
  unfold o_l2i
  rw [n_pop, n_isL, e_frc_eq]
  exact x_any (Nat.mod_lt a (by decide)) k B lo2 h hB hlo hs hg
theorem x_lret {n : Nat} (k : Q (some (x_N n)) σ) : x_X E M Q tg (o_lret 0 0 :: cs) lo [x_N n] σ := by
  intro B lo2 h hB hlo hs hg
  rw [x_run_c]
  unfold o_lret
  rw [n_pop, n_nil, f_ble (Nat.le_refl 0), n_isL]
  exact x_dd_in ⟨hs, by rw [hg]; exact k⟩
theorem x_lald {r n : Nat} {i : Int} (hr : x_tag r = 1) (hl : x_len r = n) (hb : n ≤ 2147483647) (hi : 0 ≤ i) (hn : i < n) (kk : ∀ m, x_X E M Q tg cs lo (x_N m :: st) σ) : x_X E M Q tg (o_lald :: cs) lo (x_I i :: x_R r :: st) σ := by
  intro B lo2 h hB hlo hs hg
  subst hl
  obtain ⟨c1, c2⟩ := x_cell hs hr (by omega)
  have hci := x_c_nat hi (by omega)
  rw [x_run_c]
  unfold o_lald
  rw [n_pi, n_pop, n_ra, f_cel c1, Nat.beq_refl, f_ble (show Nat.succ (x_c i) ≤ x_len r by omega), f_ble (show Nat.succ (x_c i) ≤ 2147483648 by omega), Bool.and_true, Bool.and_true, cond_true, e_frc_eq]
  exact kk _ B lo2 h hB hlo hs hg
theorem x_lwhe {i : Int} (hi : 0 ≤ i) (hn : i < 6) (kk : ∀ m, x_X E M Q tg cs lo (x_N m :: st) σ) : x_X E M Q tg (o_lald :: cs) lo (x_I i :: x_Z 2 :: st) σ := by
  intro B lo2 h hB hlo hs hg
  have hci := x_c_nat hi (by omega)
  rw [x_run_c]
  unfold o_lald
  rw [n_pi, n_pop, n_raZ, f_ble (show Nat.succ (x_c i) ≤ 6 by omega), e_frc_eq]
  exact kk _ B lo2 h hB hlo hs hg
theorem x_lenZ (kk : x_X E M Q tg cs lo (x_I 6 :: st) σ) : x_X E M Q tg (o_len0 :: cs) lo (x_Z 2 :: st) σ := fun B lo2 h hB hlo hs hg => kk B lo2 h hB hlo hs hg
theorem x_last {r n a : Nat} {i : Int} (hr : x_tag r = 1) (hl : x_len r = n) (hb : n ≤ 2147483647) (hf : ∀ z, x_rf r z = 0) (hi : 0 ≤ i) (hn : i < n) (kk : ∀ τ v, τ = x_up σ r i.toNat v → x_X E M Q tg cs lo st τ) : x_X E M Q tg (o_last :: cs) lo (x_N a :: x_I i :: x_R r :: st) σ := by
  intro B lo2 h hB hlo hs hg
  subst hl
  obtain ⟨c1, c2⟩ := x_cell hs hr (by omega)
  have hci := x_c_nat hi (by omega)
  have hin : x_c i = i.toNat := by omega
  rw [x_run_c]
  unfold o_last
  rw [n_pop, n_isL, n_pi, n_pop, n_isR, f_cel c1, Nat.beq_refl, f_ble (show Nat.succ (x_c i) ≤ x_len r by omega), f_ble (show Nat.succ (x_c i) ≤ 2147483648 by omega), Bool.and_true, Bool.and_true, cond_true, f_put c1, hin]
  obtain ⟨w1, w2⟩ := x_put (k := i.toNat) (a := a % 18446744073709551616) hs hr (by omega) (by omega) (hf _) (Nat.mod_lt _ (by decide))
  exact kk _ _ rfl B lo2 _ hB hlo w1 (by rw [w2, hg])
theorem x_aald {r n q : Nat} {i : Int} (hr : x_tag r = 4) (hl : x_len r = n) (hb : n ≤ 2147483647) (hi : 0 ≤ i) (hn : i < n) (hq : x_rf r i.toNat = q + 1) (kk : x_X E M Q tg cs lo (x_R q :: st) σ) : x_X E M Q tg (o_aald :: cs) lo (x_I i :: x_R r :: st) σ := by
  intro B lo2 h hB hlo hs hg
  subst hl
  obtain ⟨c1, c2⟩ := x_cell hs hr (by omega)
  have hci := x_c_nat hi (by omega)
  have hin : x_c i = i.toNat := by omega
  have hv := (c2 i.toNat (by omega)).2 (by omega)
  rw [x_run_c]
  unfold o_aald
  rw [n_pi, n_pop, n_isR, f_cel c1, Nat.beq_refl, f_ble (show Nat.succ (x_c i) ≤ x_len r by omega), f_ble (show Nat.succ (x_c i) ≤ 2147483648 by omega), Bool.and_true, Bool.and_true, cond_true, hin, hv, hq]
  exact kk B lo2 h hB hlo hs hg
end
