/-! general states: ints are whole numbers, a state says what each word of each cell holds -/
def x_c (x : Int) : Nat := (x % 4294967296).toNat
def x_s (n : Nat) : Int := (q_bi n : Int) - 2147483648
abbrev x_I (x : Int) : q_V := .inl (x_c x)
abbrev x_R (r : Nat) : q_V := .inr (.inl r)
def x_cl (x : Int) : Nat := (x % 18446744073709551616).toNat
abbrev x_L (x : Int) : q_V := .inr (.inr (.inl (x_cl x)))
abbrev x_Z (k : Nat) : q_V := .inr (.inr (.inr (.inr (.inr (.inl k)))))
abbrev x_S : Type := Nat → Nat → Int
theorem x_c_lt (x : Int) : x_c x < 4294967296 := by unfold x_c; omega
theorem x_bi {x : Int} (h1 : -2147483648 ≤ x) (h2 : x ≤ 2147483647) : (q_bi (x_c x) : Int) = x + 2147483648 := by
  unfold q_bi x_c; omega
theorem x_cs (n : Nat) : x_c (x_s n) = n % 4294967296 := by
  unfold x_c x_s q_bi; omega
theorem x_sc {x : Int} (h1 : -2147483648 ≤ x) (h2 : x ≤ 2147483647) : x_s (x_c x) = x := by
  unfold x_s; rw [x_bi h1 h2]; omega
theorem x_s_lo (n : Nat) : -2147483648 ≤ x_s n := by unfold x_s; omega
theorem x_s_hi (n : Nat) : x_s n ≤ 2147483647 := by
  unfold x_s q_bi
  have : (n + 2147483648) % 4294967296 < 4294967296 := Nat.mod_lt _ (by decide)
  omega
theorem x_add (a b : Int) : (x_c a + x_c b) % 4294967296 = x_c (a + b) := by unfold x_c; omega
theorem x_sub (a b : Int) : (x_c a + (4294967296 - x_c b % 4294967296)) % 4294967296 = x_c (a - b) := by unfold x_c; omega
theorem x_mul (a b : Int) : (x_c a * x_c b) % 4294967296 = x_c (a * b) := by
  unfold x_c
  apply Int.ofNat.inj
  show ((((a % 4294967296).toNat * (b % 4294967296).toNat) % 4294967296 : Nat) : Int) = (((a * b) % 4294967296).toNat : Int)
  rw [Int.toNat_of_nonneg (Int.emod_nonneg _ (by decide)), Int.natCast_emod, Int.natCast_mul, Int.toNat_of_nonneg (Int.emod_nonneg _ (by decide)), Int.toNat_of_nonneg (Int.emod_nonneg _ (by decide))]
  exact (Int.mul_emod a b 4294967296).symm
theorem x_c_nat {x : Int} (h1 : 0 ≤ x) (h2 : x ≤ 4294967295) : (x_c x : Int) = x := by unfold x_c; omega
/-- another number for the same int, in range -/
theorem x_wrap (x : Int) : ∃ y : Int, -2147483648 ≤ y ∧ y ≤ 2147483647 ∧ x_c x = x_c y ∧ (-2147483648 ≤ x → x ≤ 2147483647 → y = x) :=
  ⟨x_s (x_c x), x_s_lo _, x_s_hi _, by rw [x_cs, Nat.mod_eq_of_lt (x_c_lt x)], fun h1 h2 => x_sc h1 h2⟩
/-! locals -/
def x_le (lo lo2 : q_Lo) : Prop := ∀ i v, q_lg lo i = some v → q_lg lo2 i = some v
theorem x_le_rf (lo : q_Lo) : x_le lo lo := fun _ _ h => h
def x_sb : q_Lo → q_Lo → Prop
  | [], _ => True
  | p :: t, lo => q_lg lo p.1 = some p.2 ∧ x_sb t lo
theorem x_sb_le : ∀ {lo' lo : q_Lo}, x_sb lo' lo → x_le lo' lo
  | [], _, _, _, _, h => by cases h
  | p :: t, lo, ⟨h1, h2⟩, i, v, h => by
    unfold q_lg at h
    by_cases c : p.1 = i
    · rw [if_pos c] at h
      cases h
      rw [← c]
      exact h1
    · rw [if_neg c] at h
      exact x_sb_le h2 i v h
theorem x_le_tr {a b c : q_Lo} (h1 : x_le a b) (h2 : x_le b c) : x_le a c := fun i v h => h2 i v (h1 i v h)
def x_st (lo : q_Lo) (i : Nat) (v : q_V) : q_Lo := (i, v) :: lo.filter (fun q => !(Nat.beq q.1 i) && !(lo.any (fun p => Nat.beq p.1 q.1 && Nat.beq (p.1 + 1) i && Nat.beq (q_cat p.2) 2)))
theorem x_lg_mem : ∀ {lo : q_Lo} {i : Nat} {v : q_V}, q_lg lo i = some v → (i, v) ∈ lo
  | [], _, _, h => by cases h
  | p :: t, i, v, h => by
    unfold q_lg at h
    by_cases c : p.1 = i
    · rw [if_pos c] at h
      cases h
      rw [← c]
      exact List.mem_cons_self ..
    · rw [if_neg c] at h
      exact List.mem_cons_of_mem _ (x_lg_mem h)
/-- the first of a number, behind a filter that keeps all or none of that number -/
theorem x_lg_f {f : Nat × q_V → Bool} {i : Nat} {v : q_V} : ∀ {lo : q_Lo}, (∀ p ∈ lo, p.1 = i → f p = true) → q_lg (lo.filter f) i = q_lg lo i
  | [], _ => rfl
  | p :: t, h => by
    have ih := x_lg_f (f := f) (i := i) (v := v) (lo := t) (fun q hq => h q (List.mem_cons_of_mem _ hq))
    rw [List.filter_cons]
    by_cases c : p.1 = i
    · rw [h p (List.mem_cons_self ..) c, if_pos rfl]
      unfold q_lg
      rw [if_pos c, if_pos c]
    · cases hf : f p with
      | true =>
        rw [if_pos rfl]
        unfold q_lg
        rw [if_neg c, if_neg c]
        exact ih
      | false =>
        rw [if_neg (by simp)]
        show q_lg (t.filter f) i = q_lg (p :: t) i
        rw [ih]
        show _ = if p.1 = i then some p.2 else q_lg t i
        rw [if_neg c]
/-- the first that is found is kept where the filter keeps it -/
theorem x_lg_k {f : Nat × q_V → Bool} {i : Nat} {v : q_V} : ∀ {lo : q_Lo}, q_lg lo i = some v → f (i, v) = true → q_lg (lo.filter f) i = some v
  | [], h, _ => by cases h
  | p :: t, h, hf => by
    unfold q_lg at h
    rw [List.filter_cons]
    by_cases c : p.1 = i
    · rw [if_pos c] at h
      cases h
      subst c
      rw [show f p = true from hf, if_pos rfl]
      unfold q_lg
      rw [if_pos rfl]
    · rw [if_neg c] at h
      have ih := x_lg_k h hf
      cases hp : f p with
      | true =>
        rw [if_pos rfl]
        unfold q_lg
        rw [if_neg c]
        exact ih
      | false =>
        rw [if_neg (by simp)]
        exact ih
theorem x_st_le {lo lo2 : q_Lo} {i : Nat} {v : q_V} (h : x_le lo lo2) : x_le (x_st lo i v) (q_ls1 lo2 i v) := by
  intro m w hm
  unfold x_st at hm
  unfold q_ls1
  unfold q_lg at hm ⊢
  by_cases c : i = m
  · rw [if_pos c] at hm ⊢
    exact hm
  · rw [if_neg c] at hm ⊢
    have hmem := x_lg_mem hm
    have hf := (List.mem_filter.mp hmem).2
    rw [Bool.and_eq_true] at hf
    have hf2 := hf.2
    rw [Bool.not_eq_true'] at hf2
    have hany : ∀ p ∈ lo, ¬ (p.1 = m ∧ m + 1 = i ∧ q_cat p.2 = 2) := by
      intro p hp z
      have := List.any_eq_false.mp hf2 p hp
      apply this
      rw [Bool.and_eq_true, Bool.and_eq_true]
      refine ⟨⟨?_, ?_⟩, ?_⟩
      · rw [z.1]; exact Nat.beq_refl m
      · rw [z.1, z.2.1]; exact Nat.beq_refl i
      · rw [z.2.2]; rfl
    have hlo : q_lg lo m = some w := by
      rw [← hm]
      refine (x_lg_f (v := w) ?_).symm
      intro p hp hpm
      rw [Bool.and_eq_true, Bool.not_eq_true', Bool.not_eq_true']
      refine ⟨?_, ?_⟩
      · cases hb : Nat.beq p.1 i with
        | false => rfl
        | true => exact absurd ((Nat.eq_of_beq_eq_true hb).symm.trans hpm) c
      · rw [hpm]; exact hf2
    have h2 := h m w hlo
    refine x_lg_k h2 ?_
    rw [Bool.and_eq_true, Bool.not_eq_true', Bool.not_eq_true']
    refine ⟨?_, ?_⟩
    · exact beq_eq_false_iff_ne.mpr (fun z => c z.symm)
    · rw [Bool.and_eq_false_iff]
      by_cases c2 : m + 1 = i
      · right
        apply beq_eq_false_iff_ne.mpr
        intro z
        exact hany (m, w) (x_lg_mem hlo) ⟨rfl, c2, z⟩
      · left
        exact beq_eq_false_iff_ne.mpr c2
