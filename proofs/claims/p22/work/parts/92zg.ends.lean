/-! how a walk ends: in range; what it made is a tree -/
section
variable {A : Nat → Int} {p : Int} {lt sg nd rk : Int → Int} {bl : Int → Int → Int} {D : Int → Prop}
theorem w_run_b (hP : y_PI A) (G : w_G lt nd rk bl D) : ∀ (n : Nat) (x : Int × w_C), (x.1 = 0 → 0 < x.2.1 → w_I A lt rk D x.2) → (x.1 = 0 ∨ x.1 = -3 ∨ (-60 ≤ x.1 ∧ x.1 ≤ -10)) → ((w_run A p lt sg nd bl n x).1 = 0 ∨ (w_run A p lt sg nd bl n x).1 = -3 ∨ (-60 ≤ (w_run A p lt sg nd bl n x).1 ∧ (w_run A p lt sg nd bl n x).1 ≤ -10))
  | 0, x, _, h => h
  | n + 1, x, hI, h => by
    by_cases c : x.1 = 0 ∧ 0 < x.2.1
    · rw [w_run_s c]
      have s := w_step_I (p := p) (sg := sg) hP G (hI c.1 c.2) c.2
      refine w_run_b hP G n _ (fun z1 z2 => ?_) ?_
      · rcases s with k | k | k
        · exact (k.2 z2).1
        · omega
        · omega
      · rcases s with k | k | k
        · exact Or.inl k.1
        · exact Or.inr (Or.inr k)
        · exact Or.inr (Or.inl k)
    · rw [w_run_t c]
      exact h
end
/-- a walk over a standing tree -/
abbrev w_RS (A : Nat → Int) (p q : Int) (l P V : Nat → Int) : Int × w_C := w_run A p (w_lt l) (w_lt V) w_nd (w_bl P) 100000 (w_come A p (w_lt l) (w_lt V) w_nd q 0 w_0)
theorem w_RS_b {A : Nat → Int} {p q : Int} {l P V : Nat → Int} {n : Nat} (hP : y_PI A) (n40 : n ≤ 40) (n0 : 1 ≤ n) (tr : y_tr l n) (ms : y_ms A 0 l n P V) : (w_RS A p q l P V).1 = 0 ∨ (w_RS A p q l P V).1 = -3 ∨ (-60 ≤ (w_RS A p q l P V).1 ∧ (w_RS A p q l P V).1 ≤ -10) := by
  have G := w_GS (A := A) n40 tr ms
  have c0 := w_come0 (p := p) (sg := w_lt V) (q := q) (x := 0) hP G (Or.inr ⟨⟨by omega, by omega⟩, by show (0 : Int) ≤ 0; omega⟩)
  refine w_run_b hP G _ _ (fun z1 z2 => ?_) ?_
  · rcases c0 with h | h
    · exact h.2.2.1
    · omega
  · rcases c0 with h | h
    · exact Or.inl h.1
    · exact Or.inr (Or.inr h)
/-- how it came out; what is answered -/
def w_uc (R : Int × w_C) : Int := if R.1 < 0 then R.1 else (R.2.2.2.2.2.1 : Int)
theorem y_WR_o {τ : x_S} : ∀ {c : w_C}, y_WR τ c → τ 105 5 = c.2.2.2.2.1
  | (_, _, _, _, _, _, _), h => h.2.1
theorem y_WR_v {τ : x_S} : ∀ {c : w_C}, y_WR τ c → ∀ j, j < 40 → τ 107 j = c.2.2.2.2.2.2 j
  | (_, _, _, _, _, _, _), h => h.2.2.2.2
section
variable {d o : Nat} {a r i u v : Nat → Int}
end
