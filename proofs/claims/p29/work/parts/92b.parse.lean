/-! the text read, as a function of its signs -/
/-- a piece: a letter, or a call where the letter f has children -/
def y_pc1 (g : Int → Int) (f k : Int) : Option (Int × Int) :=
  if 2 ≤ f ∧ 48 ≤ g k ∧ g k ≤ 50 then (if 120 ≤ g (k + 1) ∧ (g (k + 1) ≤ 120 ∨ (2 < f ∧ g (k + 1) ≤ 121)) then some (10 + 2 * (g k - 48) + (g (k + 1) - 120), k + 2) else none)
  else if 97 ≤ g k ∧ g k ≤ 101 then some (g k - 97, k + 1) else none
/-- pieces till none is open, so many at most -/
def y_rw (g : Int → Int) (f : Int) : Nat → Int → Int → Option (List Int × Int)
  | 0, o, k => if o ≤ 0 then some ([], k) else none
  | n + 1, o, k => if o ≤ 0 then some ([], k) else
    match y_pc1 g f k with
    | none => none
    | some (p, k') => match y_rw g f n (o + y_c9 p - 1) k' with
      | none => none
      | some (l, e) => some (p :: l, e)
theorem y_rw_0 {g : Int → Int} {f : Int} {n : Nat} {o k : Int} (h : o ≤ 0) : y_rw g f n o k = some ([], k) := by
  cases n <;> (unfold y_rw; rw [if_pos h])
theorem y_rw_n {g : Int → Int} {f : Int} {o k : Int} (h : 0 < o) : y_rw g f 0 o k = none := by
  unfold y_rw; rw [if_neg (by omega)]
theorem y_rw_x {g : Int → Int} {f : Int} {n : Nat} {o k : Int} (h : 0 < o) (hp : y_pc1 g f k = none) : y_rw g f (n + 1) o k = none := by
  rw [y_rw, if_neg (by omega), hp]
theorem y_rw_s {g : Int → Int} {f : Int} {n : Nat} {o k p k' : Int} (h : 0 < o) (hp : y_pc1 g f k = some (p, k')) : y_rw g f (n + 1) o k = match y_rw g f n (o + y_c9 p - 1) k' with | none => none | some (l, e) => some (p :: l, e) := by
  rw [y_rw, if_neg (by omega), hp]
/-- a piece, and what it can be -/
theorem y_pc1_ok {g : Int → Int} {f k p k' : Int} (h : y_pc1 g f k = some (p, k')) : ((0 ≤ p ∧ p ≤ 4) ∨ (10 ≤ p ∧ p ≤ 15 ∧ 2 ≤ f ∧ (p % 2 = 1 → 3 ≤ f))) ∧ k < k' ∧ 1 ≤ g k ∧ (k' = k + 1 ∨ (k' = k + 2 ∧ 1 ≤ g (k + 1))) := by
  unfold y_pc1 at h
  split at h
  · split at h
    · have h := Option.some.inj h
      have h1 : 10 + 2 * (g k - 48) + (g (k + 1) - 120) = p := congrArg Prod.fst h
      have h2 : k + 2 = k' := congrArg Prod.snd h
      rename_i a b
      exact ⟨Or.inr ⟨by omega, by omega, by omega, by omega⟩, by omega, by omega, by omega⟩
    · cases h
  · split at h
    · have h := Option.some.inj h
      have h1 : g k - 97 = p := congrArg Prod.fst h
      have h2 : k + 1 = k' := congrArg Prod.snd h
      exact ⟨Or.inl ⟨by omega, by omega⟩, by omega, by omega, by omega⟩
    · cases h
/-- as many pieces as are open, at least; no more than there is room for -/
theorem y_rw_len {g : Int → Int} {f : Int} : ∀ {n : Nat} {o k : Int} {l : List Int} {e : Int}, y_rw g f n o k = some (l, e) → o ≤ l.length ∧ l.length ≤ n
  | 0, o, k, l, e, h => by
    by_cases c : o ≤ 0
    · rw [y_rw_0 c] at h
      have h := Option.some.inj h
      have h1 : [] = l := congrArg Prod.fst h
      subst h1
      exact ⟨by simpa using c, Nat.le_refl _⟩
    · rw [y_rw_n (by omega)] at h
      cases h
  | n + 1, o, k, l, e, h => by
    by_cases c : o ≤ 0
    · rw [y_rw_0 c] at h
      have h := Option.some.inj h
      have h1 : [] = l := congrArg Prod.fst h
      subst h1
      exact ⟨by simpa using c, by simp⟩
    · cases hp : y_pc1 g f k with
      | none => rw [y_rw_x (by omega) hp] at h; cases h
      | some q =>
        obtain ⟨p, k'⟩ := q
        rw [y_rw_s (by omega) hp] at h
        cases hr : y_rw g f n (o + y_c9 p - 1) k' with
        | none => rw [hr] at h; cases h
        | some q =>
          obtain ⟨l', e'⟩ := q
          rw [hr] at h
          have h := Option.some.inj h
          have h1 : p :: l' = l := congrArg Prod.fst h
          subst h1
          have ih := y_rw_len hr
          have hb := y_c9_b p
          rw [List.length_cons]
          exact ⟨by omega, by omega⟩
/-- what is read is a tree: open places, pieces -/
theorem y_rw_tr {g : Int → Int} {f : Int} : ∀ {n : Nat} {o k : Int} {l : List Int} {e : Int}, 0 ≤ o → y_rw g f n o k = some (l, e) → (∀ i, i < l.length → y_pc f (l.getD i 0) ∧ 1 ≤ o - 1 + y_op (fun i => l.getD i 0) i) ∧ o - 1 + y_op (fun i => l.getD i 0) l.length = 0
  | 0, o, k, l, e, h0, h => by
    by_cases c : o ≤ 0
    · rw [y_rw_0 c] at h
      have h := Option.some.inj h
      have h1 : [] = l := congrArg Prod.fst h
      subst h1
      refine ⟨fun i hi => absurd hi (by simp), ?_⟩
      show o - 1 + 1 = 0
      omega
    · rw [y_rw_n (by omega)] at h
      cases h
  | n + 1, o, k, l, e, h0, h => by
    by_cases c : o ≤ 0
    · rw [y_rw_0 c] at h
      have h := Option.some.inj h
      have h1 : [] = l := congrArg Prod.fst h
      subst h1
      refine ⟨fun i hi => absurd hi (by simp), ?_⟩
      show o - 1 + 1 = 0
      omega
    · cases hp : y_pc1 g f k with
      | none => rw [y_rw_x (by omega) hp] at h; cases h
      | some q =>
        obtain ⟨p, k'⟩ := q
        rw [y_rw_s (by omega) hp] at h
        cases hr : y_rw g f n (o + y_c9 p - 1) k' with
        | none => rw [hr] at h; cases h
        | some q =>
          obtain ⟨l', e'⟩ := q
          rw [hr] at h
          have h := Option.some.inj h
          have h1 : p :: l' = l := congrArg Prod.fst h
          subst h1
          have hb := y_c9_b p
          have ih := y_rw_tr (by omega) hr
          have hsh : ∀ i, y_op (fun i => (p :: l').getD i 0) (i + 1) = y_op (fun i => l'.getD i 0) i + y_c9 p - 1 := by
            intro i
            induction i with
            | zero => rfl
            | succ i ih2 =>
              rw [y_op_s, ih2, y_op_s]
              show _ + y_c9 (l'.getD i 0) - 1 = _
              omega
          refine ⟨fun i hi => ?_, ?_⟩
          · cases i with
            | zero =>
              refine ⟨(y_pc1_ok hp).1, ?_⟩
              show 1 ≤ o - 1 + 1
              omega
            | succ i =>
              have hi : i < l'.length := by simpa using hi
              have ih1 := ih.1 i hi
              rw [hsh i]
              exact ⟨ih1.1, by omega⟩
          · show o - 1 + y_op _ (l'.length + 1) = 0
            rw [hsh]
            have := ih.2
            omega
/-- the end of what is read lies behind its beginning, within the text -/
theorem y_rw_end {g : Int → Int} {f n' : Int} (hg : ∀ k, 1 ≤ g k → k < n') : ∀ {n : Nat} {o k : Int} {l : List Int} {e : Int}, k ≤ n' → y_rw g f n o k = some (l, e) → k ≤ e ∧ e ≤ n'
  | 0, o, k, l, e, h0, h => by
    by_cases c : o ≤ 0
    · rw [y_rw_0 c] at h
      have h2 : k = e := congrArg Prod.snd (Option.some.inj h)
      omega
    · rw [y_rw_n (by omega)] at h
      cases h
  | n + 1, o, k, l, e, h0, h => by
    by_cases c : o ≤ 0
    · rw [y_rw_0 c] at h
      have h2 : k = e := congrArg Prod.snd (Option.some.inj h)
      omega
    · cases hp : y_pc1 g f k with
      | none => rw [y_rw_x (by omega) hp] at h; cases h
      | some q =>
        obtain ⟨p, k'⟩ := q
        rw [y_rw_s (by omega) hp] at h
        cases hr : y_rw g f n (o + y_c9 p - 1) k' with
        | none => rw [hr] at h; cases h
        | some q =>
          obtain ⟨l', e'⟩ := q
          rw [hr] at h
          have h2 : e' = e := congrArg Prod.snd (Option.some.inj h)
          subst h2
          obtain ⟨-, b1, b2, b3⟩ := y_pc1_ok hp
          have q1 := hg k b2
          have hk : k' ≤ n' := by
            rcases b3 with b3 | ⟨b3, b4⟩
            · omega
            · have := hg (k + 1) b4
              omega
          have ih := y_rw_end hg hk hr
          omega
/-- the items: a tree, a kind, a table's row, a rule -/
def y_iT (g : Int → Int) (s : Int) : Option (List Int × Int) := if 48 ≤ g s ∧ g s ≤ 50 ∧ g (s + 1) = 61 then y_rw g (-1) 11 1 (s + 2) else none
def y_iK (g : Int → Int) (s : Int) : Bool := decide (48 ≤ g s ∧ g s ≤ 49 ∧ 48 ≤ g (s + 1) ∧ g (s + 1) ≤ 51)
def y_iM (g : Int → Int) (s : Int) : Bool := decide (48 ≤ g s ∧ g s ≤ 49 ∧ 97 ≤ g (s + 1) ∧ g (s + 1) ≤ 101 ∧ g (s + 2) = 61) && (List.range (y_pw (y_ch (g (s + 1) - 97))).toNat).all (fun j => decide (48 ≤ g (s + 3 + j) ∧ g (s + 3 + j) ≤ 49))
/-- a rule from its pass on: its pieces, its end -/
def y_iR (g : Int → Int) (s : Int) : Option (List Int × Int) := if 48 ≤ g s ∧ g s ≤ 49 ∧ 48 ≤ g (s + 1) ∧ g (s + 1) ≤ 50 ∧ 97 ≤ g (s + 2) ∧ g (s + 2) ≤ 101 ∧ (g (s + 3) = 42 ∨ (48 ≤ g (s + 3) ∧ g (s + 3) ≤ 49)) ∧ g (s + 4) = 61 then y_rw g (g (s + 2) - 97) 7 1 (s + 5) else none
def y_lk (x : Int) : Int := if x = 42 then 2 else x - 48
