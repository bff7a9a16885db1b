/-! how a walk ends: in range; what it made is a tree -/
section
variable {A : Nat → Int} {p : Int} {lt sg nd rk : Int → Int} {bl : Int → Int → Int} {D : Int → Prop}
theorem w_run_b (hP : y_PI A) (G : w_G lt nd rk bl D) : ∀ (n : Nat) (x : Int × w_C), (x.1 = 0 → 0 < x.2.1 → w_I A lt rk D x.2) → (x.1 = 0 ∨ x.1 = -3 ∨ (-60 ≤ x.1 ∧ x.1 ≤ -10)) → ((w_run A p lt sg nd bl n x).1 = 0 ∨ (w_run A p lt sg nd bl n x).1 = -3 ∨ (-60 ≤ (w_run A p lt sg nd bl n x).1 ∧ (w_run A p lt sg nd bl n x).1 ≤ -10))
  | 0, x, _, h => h
  | n + 1, x, hI, h => by
    by_cases c : x.1 = 0 ∧ 0 < x.2.1
    · rw [w_run_s c]
      have s := w_step_I (p := p) (sg := sg) hP G (hI c.1 c.2) c.2
      refine w_run_b hP G n _ (fun z1 z2 => ?_) ?_
      · rcases s with k | k | k
        · exact (k.2 z2).1
        · omega
        · omega
      · rcases s with k | k | k
        · exact Or.inl k.1
        · exact Or.inr (Or.inr k)
        · exact Or.inr (Or.inl k)
    · rw [w_run_t c]
      exact h
end
/-- a walk over a standing tree -/
abbrev w_RS (A : Nat → Int) (p q : Int) (l P V : Nat → Int) : Int × w_C := w_run A p (w_lt l) (w_lt V) w_nd (w_bl P) 100000 (w_come A p (w_lt l) (w_lt V) w_nd q 0 w_0)
theorem w_RS_b {A : Nat → Int} {p q : Int} {l P V : Nat → Int} {n : Nat} (hP : y_PI A) (n40 : n ≤ 40) (n0 : 1 ≤ n) (tr : y_tr l n) (ms : y_ms A 0 l n P V) : (w_RS A p q l P V).1 = 0 ∨ (w_RS A p q l P V).1 = -3 ∨ (-60 ≤ (w_RS A p q l P V).1 ∧ (w_RS A p q l P V).1 ≤ -10) := by
  have G := w_GS (A := A) n40 tr ms
  have c0 := w_come0 (p := p) (sg := w_lt V) (q := q) (x := 0) hP G (Or.inr ⟨⟨by omega, by omega⟩, by show (0 : Int) ≤ 0; omega⟩)
  refine w_run_b hP G _ _ (fun z1 z2 => ?_) ?_
  · rcases c0 with h | h
    · exact h.2.2.1
    · omega
  · rcases c0 with h | h
    · exact Or.inl h.1
    · exact Or.inr (Or.inr h)
/-- how it came out; what is answered -/
def w_uc (R : Int × w_C) : Int := if R.1 < 0 then R.1 else (R.2.2.2.2.2.1 : Int)
def w_an (R : Int × w_C) (i : Int) : Int := if R.1 < 0 then R.1 else if i < 0 then (R.2.2.2.2.2.1 : Int) else if i < R.2.2.2.2.2.1 then R.2.2.2.2.2.2.1 i.toNat else -4
theorem w_an_c {R : Int × w_C} {i v1 v2 : Int} (hi : -1 ≤ i) (ob : R.2.2.2.2.2.1 ≤ 40) (h1 : v1 = w_uc R) (h2 : ((v1 < 0 ∨ i = -1) ∧ v2 = v1) ∨ (¬ (v1 < 0 ∨ i = -1) ∧ (0 ≤ i ∧ i < R.2.2.2.2.2.1 ∧ i < 40) ∧ v2 = R.2.2.2.2.2.2.1 i.toNat) ∨ (¬ (v1 < 0 ∨ i = -1) ∧ ¬ (0 ≤ i ∧ i < R.2.2.2.2.2.1 ∧ i < 40) ∧ v2 = -4)) : v2 = w_an R i := by
  unfold w_uc at h1
  unfold w_an
  by_cases c : R.1 < 0
  · rw [if_pos c] at h1 ⊢
    omega
  rw [if_neg c] at h1 ⊢
  by_cases d : i < 0
  · rw [if_pos d]; omega
  rw [if_neg d]
  by_cases e : i < R.2.2.2.2.2.1
  · rw [if_pos e]; omega
  · rw [if_neg e]; omega
theorem w_an_r {R : Int × w_C} {τ : x_S} {i h v : Int} (hi : -1 ≤ i) (E : y_RE τ h R) (k : (h = 1 ∧ v = -10 - τ 138 21) ∨ (h = 2 ∧ v = -3) ∨ (¬ h = 1 ∧ ¬ h = 2 ∧ i < 0 ∧ v = τ 138 18) ∨ (¬ h = 1 ∧ ¬ h = 2 ∧ 0 ≤ i ∧ i < τ 138 18 ∧ v = τ 151 i.toNat) ∨ (¬ h = 1 ∧ ¬ h = 2 ∧ τ 138 18 ≤ i ∧ v = -4)) : v = w_an R i := by
  obtain ⟨s, d, a, r, j, o, u, w⟩ := R
  obtain ⟨E1, E2, E3, E4, E5⟩ := E
  show v = if s < 0 then s else if i < 0 then (o : Int) else if i < o then u i.toNat else -4
  by_cases c : s < 0
  · rw [if_pos c]; omega
  rw [if_neg c]
  by_cases d : i < 0
  · rw [if_pos d]; omega
  rw [if_neg d]
  by_cases e : i < o
  · rw [if_pos e]
    have e4 := E4 i.toNat (by omega)
    omega
  · rw [if_neg e]; omega
theorem y_WR_o {τ : x_S} : ∀ {c : w_C}, y_WR τ c → τ 105 5 = c.2.2.2.2.1
  | (_, _, _, _, _, _, _), h => h.2.1
theorem y_WR_u {τ : x_S} : ∀ {c : w_C}, y_WR τ c → ∀ j, j < c.2.2.2.2.1 → τ 106 j = c.2.2.2.2.2.1 j
  | (_, _, _, _, _, _, _), h => h.2.2.2.1
section
variable {d o : Nat} {a r i u v : Nat → Int}
end
