/-! the evaluator's small parts: all go on by a continuation, so that the kernel works them out as they come -/
abbrev q_B : Type := List (Nat × Nat)
abbrev q_K : Type := q_B → q_Lo → List q_V → Nat → Nat → q_H → Bool
abbrev q_KR : Type := q_B → Option q_V → q_H → Bool
abbrev q_Op : Type := q_B → q_Lo → List q_V → Nat → Nat → q_H → q_K → (Nat → q_K) → q_KR → (Nat → q_B → List q_V → q_H → q_KR → Bool) → Bool
/-- the script's ints lie in the box, moved up by half -/
def q_inB (E : q_E) (B : q_B) : Prop := ∀ k lo hi, B[k]? = some (lo, hi) → lo ≤ q_bi (E.2.2.2.1 k) ∧ q_bi (E.2.2.2.1 k) ≤ hi
noncomputable def e_frc (n : Nat) (f : Nat → Bool) : Bool := Nat.rec (motive := fun _ => Bool) (f 0) (fun m _ => f (Nat.succ m)) n
theorem e_frc_eq {n : Nat} {f : Nat → Bool} : e_frc n f = f n := by cases n <;> rfl
noncomputable def e_pop {α : Type} (st : List α) (k : α → List α → Bool) : Bool := List.rec (motive := fun _ => Bool) false (fun v t _ => k v t) st
theorem e_pop_ok {α : Type} {st : List α} {k : α → List α → Bool} (h : e_pop st k = true) : ∃ v t, st = v :: t ∧ k v t = true := by
  cases st with
  | nil => cases h
  | cons v t => exact ⟨v, t, rfl, h⟩
noncomputable def e_nth {α : Type} (l : List α) : Nat → (α → Bool) → Bool := List.rec (motive := fun _ => Nat → (α → Bool) → Bool) (fun _ _ => false) (fun a _ ih i k => Nat.rec (motive := fun _ => Bool) (k a) (fun i' _ => ih i' k) i) l
theorem e_nth_ok {α : Type} : ∀ {l : List α} {i : Nat} {k : α → Bool}, e_nth l i k = true → ∃ a, l[i]? = some a ∧ k a = true
  | [], _, _, h => by cases h
  | a :: l, 0, _, h => ⟨a, rfl, h⟩
  | a :: l, i + 1, k, h => by
    obtain ⟨b, h1, h2⟩ := e_nth_ok (l := l) (i := i) (k := k) h
    exact ⟨b, by rw [List.getElem?_cons_succ]; exact h1, h2⟩
noncomputable def e_set {α : Type} (l : List α) (x : α) : Nat → (List α → Bool) → Bool := List.rec (motive := fun _ => Nat → (List α → Bool) → Bool) (fun _ _ => false) (fun a t ih i k => Nat.rec (motive := fun _ => Bool) (k (x :: t)) (fun i' _ => ih i' (fun t' => k (a :: t'))) i) l
theorem e_set_ok {α : Type} {x : α} : ∀ {l : List α} {i : Nat} {k : List α → Bool}, e_set l x i k = true → k (l.set i x) = true
  | [], _, _, h => by cases h
  | a :: l, 0, _, h => h
  | a :: l, i + 1, k, h => by
    have := e_set_ok (l := l) (i := i) (k := fun t' => k (a :: t')) h
    exact this
noncomputable def e_cel (h : q_H) (r : Nat) (k : Nat → Nat → Nat → Bool) : Bool := e_nth h (r / 16) (fun row => e_nth row (r % 16) (fun c => k c.1 c.2.1 c.2.2))
theorem e_cel_ok {h : q_H} {r : Nat} {k : Nat → Nat → Nat → Bool} (e : e_cel h r k = true) : ∃ t n d, q_get h r = some (t, n, d) ∧ k t n d = true := by
  obtain ⟨row, h1, h2⟩ := e_nth_ok e
  obtain ⟨⟨t, n, d⟩, h3, h4⟩ := e_nth_ok h2
  exact ⟨t, n, d, by unfold q_get; rw [h1]; exact h3, h4⟩
noncomputable def e_put (h : q_H) (r t n d : Nat) (k : q_H → Bool) : Bool := e_frc d (fun d => e_nth h (r / 16) (fun row => e_set row (t, n, d) (r % 16) (fun row' => e_set h row' (r / 16) k)))
theorem e_put_ok {h : q_H} {r t n d : Nat} {k : q_H → Bool} (e : e_put h r t n d k = true) : k (q_put h r (t, n, d)) = true := by
  unfold e_put at e
  rw [e_frc_eq] at e
  obtain ⟨row, h1, h2⟩ := e_nth_ok e
  have h3 := e_set_ok (e_set_ok h2)
  have : h.set (r / 16) (row.set (r % 16) (t, n, d)) = q_put h r (t, n, d) := by
    unfold q_put
    apply List.ext_getElem?
    intro j
    rw [List.getElem?_set, List.getElem?_modify]
    by_cases c : r / 16 = j
    · subst c
      obtain ⟨hl, he⟩ := List.getElem?_eq_some_iff.mp h1
      simp [hl, he]
    · simp [c]
  rw [this] at h3
  exact h3
noncomputable def e_app (l : List q_C) (c : q_C) : (List q_C → Bool) → Bool := List.rec (motive := fun _ => (List q_C → Bool) → Bool) (fun k => k [c]) (fun a _ ih k => ih (fun t => k (a :: t))) l
theorem e_app_ok {c : q_C} : ∀ {l : List q_C} {k : List q_C → Bool}, e_app l c k = k (l ++ [c])
  | [], _ => rfl
  | a :: l, k => e_app_ok (l := l) (k := fun t => k (a :: t))
noncomputable def e_push (h : q_H) (c : q_C) : (q_H → Bool) → Bool := List.rec (motive := fun _ => (q_H → Bool) → Bool) (fun k => k [[c]]) (fun row t ih k => List.rec (motive := fun _ => Bool) (cond (Nat.ble (Nat.succ row.length) 16) (e_app row c (fun row' => k [row'])) (k [row, [c]])) (fun _ _ _ => ih (fun t' => k (row :: t'))) t) h
theorem e_push_ok {c : q_C} : ∀ {h : q_H} {k : q_H → Bool}, e_push h c k = true → k (q_push h c) = true
  | [], _, e => e
  | [row], k, e => by
    have e : cond (Nat.ble (Nat.succ row.length) 16) (e_app row c (fun row' => k [row'])) (k [row, [c]]) = true := e
    show k (if row.length < 16 then [row ++ [c]] else [row, [c]]) = true
    cases hb : Nat.ble (Nat.succ row.length) 16 with
    | true =>
      rw [hb] at e
      have e : e_app row c (fun row' => k [row']) = true := e
      rw [e_app_ok] at e
      rw [if_pos (show row.length < 16 from Nat.le_of_ble_eq_true hb)]
      exact e
    | false =>
      rw [hb] at e
      have : ¬ row.length < 16 := fun z => by
        have z2 := Nat.ble_eq_true_of_le (show row.length.succ ≤ 16 from z)
        rw [hb] at z2
        cases z2
      rw [if_neg this]
      exact e
  | row :: r2 :: h, k, e => e_push_ok (h := r2 :: h) (k := fun t' => k (row :: t')) e
/-- n values from the stack, the deepest first -/
noncomputable def e_args (n : Nat) : List q_V → List q_V → (List q_V → List q_V → Bool) → Bool := Nat.rec (motive := fun _ => List q_V → List q_V → (List q_V → List q_V → Bool) → Bool) (fun st acc k => k acc st) (fun _ ih st acc k => e_pop st (fun v st' => ih st' (v :: acc) k)) n
theorem e_args_ok : ∀ {n : Nat} {st acc : List q_V} {k : List q_V → List q_V → Bool}, e_args n st acc k = true → ∃ as st', st = as.reverse ++ st' ∧ as.length = n ∧ k (as ++ acc) st' = true
  | 0, st, acc, k, h => ⟨[], st, rfl, rfl, h⟩
  | n + 1, st, acc, k, h => by
    obtain ⟨v, t, rfl, h⟩ := e_pop_ok (show e_pop st (fun v st' => e_args n st' (v :: acc) k) = true from h)
    obtain ⟨as, st', e1, e2, e3⟩ := e_args_ok (n := n) h
    refine ⟨as ++ [v], st', ?_, by simp [e2], ?_⟩
    · rw [e1, List.reverse_append]; rfl
    · rw [List.append_assoc]; exact e3
/-- a value by its kind -/
noncomputable def e_isR (v : q_V) (k : Nat → Bool) : Bool := Sum.rec (motive := fun _ => Bool) (fun _ => false) (fun v => Sum.rec (motive := fun _ => Bool) k (fun _ => false) v) v
theorem e_isR_ok {v : q_V} {k : Nat → Bool} (h : e_isR v k = true) : ∃ r, v = .inr (.inl r) ∧ k r = true := by
  match v, h with
  | .inr (.inl r), h => exact ⟨r, rfl, h⟩
noncomputable def e_isL (v : q_V) (k : Nat → Bool) : Bool := Sum.rec (motive := fun _ => Bool) (fun _ => false) (fun v => Sum.rec (motive := fun _ => Bool) (fun _ => false) (fun v => Sum.rec (motive := fun _ => Bool) k (fun _ => false) v) v) v
theorem e_isL_ok {v : q_V} {k : Nat → Bool} (h : e_isL v k = true) : ∃ n, v = .inr (.inr (.inl n)) ∧ k n = true := by
  match v, h with
  | .inr (.inr (.inl r)), h => exact ⟨r, rfl, h⟩
/-- int: go on with the code; script's int: go on with its number -/
noncomputable def e_is (v : q_V) (ki ks : Nat → Bool) : Bool := Sum.rec (motive := fun _ => Bool) ki (fun v => Sum.rec (motive := fun _ => Bool) (fun _ => false) (fun v => Sum.rec (motive := fun _ => Bool) (fun _ => false) (fun v => Sum.rec (motive := fun _ => Bool) ks (fun _ => false) v) v) v) v
theorem e_is_ok {v : q_V} {ki ks : Nat → Bool} (h : e_is v ki ks = true) : (∃ n, v = .inl n ∧ ki n = true) ∨ ∃ s, v = .inr (.inr (.inr (.inl s))) ∧ ks s = true := by
  match v, h with
  | .inl n, h => exact Or.inl ⟨n, rfl, h⟩
  | .inr (.inr (.inr (.inl s))), h => exact Or.inr ⟨s, rfl, h⟩
theorem q_inB_set {E : q_E} {B : q_B} {s lo hi : Nat} (h : q_inB E B) (h1 : lo ≤ q_bi (E.2.2.2.1 s)) (h2 : q_bi (E.2.2.2.1 s) ≤ hi) : q_inB E (B.set s (lo, hi)) := by
  intro k lo' hi' e
  rw [List.getElem?_set] at e
  by_cases c : s = k
  · subst c
    rw [if_pos rfl] at e
    split at e
    · cases e; exact ⟨h1, h2⟩
    · cases e
  · rw [if_neg c] at e
    exact h k lo' hi' e
/-- all numbers from lo on, n of them -/
noncomputable def e_all (n : Nat) : Nat → (Nat → Bool) → Bool := Nat.rec (motive := fun _ => Nat → (Nat → Bool) → Bool) (fun _ _ => true) (fun _ ih lo k => cond (k lo) (e_frc (Nat.succ lo) (fun lo => ih lo k)) false) n
theorem e_all_ok : ∀ {n lo : Nat} {k : Nat → Bool}, e_all n lo k = true → ∀ c, lo ≤ c → c < lo + n → k c = true
  | 0, lo, k, _, c, h1, h2 => by omega
  | n + 1, lo, k, h, c, h1, h2 => by
    have h : cond (k lo) (e_frc (Nat.succ lo) (fun lo => e_all n lo k)) false = true := h
    cases hk : k lo with
    | false => rw [hk] at h; cases h
    | true =>
      rw [hk] at h
      have h : e_frc (Nat.succ lo) (fun lo => e_all n lo k) = true := h
      rw [e_frc_eq] at h
      by_cases e : c = lo
      · rw [e]; exact hk
      · exact e_all_ok h c (by omega) (by omega)
/-- the code of an int; a script's int is split into all that it may be -/
noncomputable def e_int (B : q_B) (v : q_V) (k : q_B → Nat → Bool) : Bool := e_is v (fun n => k B n) (fun s => e_nth B s (fun p => cond (Nat.ble p.2 (p.1 + 300)) (e_all (p.2 + 1 - p.1) p.1 (fun c => e_set B (c, c) s (fun B => e_frc ((c + 2147483648) % 4294967296) (fun n => k B n)))) false))
theorem e_int_ok {E : q_E} {B : q_B} {v : q_V} {k : q_B → Nat → Bool} (hB : q_inB E B) (h : e_int B v k = true) : ∃ n B', q_inB E B' ∧ k B' n = true ∧ ∀ ad w, q_vr E ad v w → q_vr E ad (.inl n) w := by
  rcases e_is_ok h with ⟨n, rfl, h⟩ | ⟨s, rfl, h⟩
  · exact ⟨n, B, hB, h, fun _ _ z => z⟩
  · obtain ⟨⟨lo, hi⟩, h1, h2⟩ := e_nth_ok h
    obtain ⟨b1, b2⟩ := hB s lo hi h1
    have h2 : cond (Nat.ble hi (lo + 300)) (e_all (hi + 1 - lo) lo (fun c => e_set B (c, c) s (fun B => e_frc ((c + 2147483648) % 4294967296) (fun n => k B n)))) false = true := h2
    cases hb : Nat.ble hi (lo + 300) with
    | false => rw [hb] at h2; cases h2
    | true =>
      rw [hb] at h2
      have h3 := e_set_ok (e_all_ok h2 (q_bi (E.2.2.2.1 s)) b1 (by omega))
      rw [e_frc_eq] at h3
      refine ⟨_, _, q_inB_set hB (Nat.le_refl _) (Nat.le_refl _), h3, fun ad w z => ?_⟩
      have z : w = .int (nI (E.2.2.2.1 s)) := z
      show w = .int (nI _)
      rw [z]
      exact congrArg Value.int (q_nI_eq.mpr (by unfold q_bi; omega))
/-- is the script's int, moved up by half, below c? -/
noncomputable def e_lt (B : q_B) (s c : Nat) (kt kf : q_B → Bool) : Bool := e_nth B s (fun p => cond (Nat.ble (Nat.succ p.2) c) (kt B) (cond (Nat.ble c p.1) (kf B) (cond (e_set B (p.1, c - 1) s kt) (e_set B (c, p.2) s kf) false)))
theorem e_lt_ok {E : q_E} {B : q_B} {s c : Nat} {kt kf : q_B → Bool} (hB : q_inB E B) (h : e_lt B s c kt kf = true) : (q_bi (E.2.2.2.1 s) < c ∧ ∃ B', q_inB E B' ∧ kt B' = true) ∨ (¬ q_bi (E.2.2.2.1 s) < c ∧ ∃ B', q_inB E B' ∧ kf B' = true) := by
  obtain ⟨⟨lo, hi⟩, h1, h2⟩ := e_nth_ok h
  obtain ⟨b1, b2⟩ := hB s lo hi h1
  have h2 : cond (Nat.ble (Nat.succ hi) c) (kt B) (cond (Nat.ble c lo) (kf B) (cond (e_set B (lo, c - 1) s kt) (e_set B (c, hi) s kf) false)) = true := h2
  cases x1 : Nat.ble (Nat.succ hi) c with
  | true =>
    rw [x1] at h2
    have := Nat.le_of_ble_eq_true x1
    exact Or.inl ⟨by omega, B, hB, h2⟩
  | false =>
    rw [x1] at h2
    cases x2 : Nat.ble c lo with
    | true =>
      rw [x2] at h2
      have := Nat.le_of_ble_eq_true x2
      exact Or.inr ⟨by omega, B, hB, h2⟩
    | false =>
      rw [x2] at h2
      have h2 : cond (e_set B (lo, c - 1) s kt) (e_set B (c, hi) s kf) false = true := h2
      cases x3 : e_set B (lo, c - 1) s kt with
      | false => rw [x3] at h2; cases h2
      | true =>
        rw [x3] at h2
        have h2 : e_set B (c, hi) s kf = true := h2
        by_cases z : q_bi (E.2.2.2.1 s) < c
        · exact Or.inl ⟨z, _, q_inB_set hB b1 (by omega), e_set_ok x3⟩
        · exact Or.inr ⟨z, _, q_inB_set hB (by omega) b2, e_set_ok h2⟩
noncomputable def e_lg (lo : q_Lo) (i : Nat) (k : q_V → Bool) : Bool := List.rec (motive := fun _ => Bool) false (fun p _ ih => cond (Nat.beq p.1 i) (k p.2) ih) lo
theorem e_lg_ok {i : Nat} {k : q_V → Bool} : ∀ {lo : q_Lo}, e_lg lo i k = true → ∃ v, q_lg lo i = some v ∧ k v = true
  | [], h => by cases h
  | p :: lo, h => by
    have h : cond (Nat.beq p.1 i) (k p.2) (e_lg lo i k) = true := h
    cases hb : Nat.beq p.1 i with
    | true =>
      rw [hb] at h
      exact ⟨p.2, by unfold q_lg; rw [if_pos (Nat.eq_of_beq_eq_true hb)], h⟩
    | false =>
      rw [hb] at h
      obtain ⟨v, h1, h2⟩ := e_lg_ok (lo := lo) h
      exact ⟨v, by unfold q_lg; rw [if_neg (Nat.ne_of_beq_eq_false hb)]; exact h1, h2⟩
theorem q_beq (a b : Nat) : (a == b) = Nat.beq a b := by
  cases h : Nat.beq a b with
  | true => simp [Nat.eq_of_beq_eq_true h]
  | false => simp [Nat.ne_of_beq_eq_false h]
/-- a store of one slot; none may be hit that has two -/
noncomputable def e_ls1 (lo : q_Lo) (i : Nat) (x : q_V) (k : q_Lo → Bool) : Bool := List.rec (motive := fun _ => (q_Lo → Bool) → Bool) (fun k => k []) (fun p _ ih k => cond (Nat.beq p.1 i) (ih k) (cond (and (Nat.beq (Nat.succ p.1) i) (Nat.beq (q_cat p.2) 2)) (ih k) (ih (fun t => k (p :: t))))) lo (fun t => k ((i, x) :: t))
theorem e_ls1_ok {lo : q_Lo} {i : Nat} {x : q_V} {k : q_Lo → Bool} (h : e_ls1 lo i x k = true) : k (q_ls1 lo i x) = true := by
  have key : ∀ (lo : q_Lo) (k : q_Lo → Bool), List.rec (motive := fun _ => (q_Lo → Bool) → Bool) (fun k => k []) (fun p _ ih k => cond (Nat.beq p.1 i) (ih k) (cond (and (Nat.beq (Nat.succ p.1) i) (Nat.beq (q_cat p.2) 2)) (ih k) (ih (fun t => k (p :: t))))) lo k = true → k (lo.filter (fun q => !(q.1 == i) && !(q.1 + 1 == i && q_cat q.2 == 2))) = true := by
    intro lo
    induction lo with
    | nil => intro k h; exact h
    | cons p lo ih =>
      intro k h
      rw [List.filter_cons]
      have e1 : (p.1 == i) = Nat.beq p.1 i := q_beq _ _
      have e2 : (p.1 + 1 == i) = Nat.beq (Nat.succ p.1) i := q_beq _ _
      have e3 : (q_cat p.2 == 2) = Nat.beq (q_cat p.2) 2 := q_beq _ _
      rw [e1, e2, e3]
      dsimp only at h
      cases b1 : Nat.beq p.1 i with
      | true => rw [b1] at h; exact ih _ h
      | false =>
        rw [b1] at h
        cases b2 : (Nat.beq (Nat.succ p.1) i && Nat.beq (q_cat p.2) 2) with
        | true =>
          have h : cond (Nat.beq (Nat.succ p.1) i && Nat.beq (q_cat p.2) 2) _ _ = true := h
          rw [b2] at h
          exact ih _ h
        | false =>
          have h : cond (Nat.beq (Nat.succ p.1) i && Nat.beq (q_cat p.2) 2) _ _ = true := h
          rw [b2] at h
          exact ih (fun t => k (p :: t)) h
  exact key lo (fun t => k ((i, x) :: t)) h
noncomputable def e_ls2 (lo : q_Lo) (i : Nat) (x : q_V) (k : q_Lo → Bool) : Bool := List.rec (motive := fun _ => (q_Lo → Bool) → Bool) (fun k => k []) (fun p _ ih k => cond (or (Nat.beq p.1 i) (or (Nat.beq p.1 (i + 1)) (and (Nat.beq (Nat.succ p.1) i) (Nat.beq (q_cat p.2) 2)))) (ih k) (ih (fun t => k (p :: t)))) lo (fun t => k ((i, x) :: t))
theorem e_ls2_ok {lo : q_Lo} {i : Nat} {x : q_V} {k : q_Lo → Bool} (h : e_ls2 lo i x k = true) : k (q_ls2 lo i x) = true := by
  have key : ∀ (lo : q_Lo) (k : q_Lo → Bool), List.rec (motive := fun _ => (q_Lo → Bool) → Bool) (fun k => k []) (fun p _ ih k => cond (or (Nat.beq p.1 i) (or (Nat.beq p.1 (i + 1)) (and (Nat.beq (Nat.succ p.1) i) (Nat.beq (q_cat p.2) 2)))) (ih k) (ih (fun t => k (p :: t)))) lo k = true → k (lo.filter (fun q => !(q.1 == i) && (!(q.1 == i + 1) && !(q.1 + 1 == i && q_cat q.2 == 2)))) = true := by
    intro lo
    induction lo with
    | nil => intro k h; exact h
    | cons p lo ih =>
      intro k h
      rw [List.filter_cons]
      have e : (!(p.1 == i) && (!(p.1 == i + 1) && !(p.1 + 1 == i && q_cat p.2 == 2))) = !(or (Nat.beq p.1 i) (or (Nat.beq p.1 (i + 1)) (and (Nat.beq (Nat.succ p.1) i) (Nat.beq (q_cat p.2) 2)))) := by
        have e1 : (p.1 == i) = Nat.beq p.1 i := q_beq _ _
        have e2 : (p.1 + 1 == i) = Nat.beq (Nat.succ p.1) i := q_beq _ _
        have e3 : (q_cat p.2 == 2) = Nat.beq (q_cat p.2) 2 := q_beq _ _
        have e4 : (p.1 == i + 1) = Nat.beq p.1 (i + 1) := q_beq _ _
        rw [e1, e2, e3, e4]
        cases Nat.beq p.1 i <;> cases Nat.beq p.1 (i + 1) <;> cases Nat.beq (Nat.succ p.1) i <;> cases Nat.beq (q_cat p.2) 2 <;> rfl
      rw [e]
      dsimp only at h
      cases b1 : (or (Nat.beq p.1 i) (or (Nat.beq p.1 (i + 1)) (and (Nat.beq (Nat.succ p.1) i) (Nat.beq (q_cat p.2) 2)))) with
      | true => rw [b1] at h; exact ih _ h
      | false => rw [b1] at h; exact ih (fun t => k (p :: t)) h
  exact key lo (fun t => k ((i, x) :: t)) h
/-- the same value, told otherwise -/
theorem q_conv {E : q_E} {M : q_M} {Q : Option q_V → q_H → Prop} {pc : Nat} {lo : q_Lo} {st : List q_V} {ce sl : Nat} {h : q_H} {x y : q_V} (hx : ∀ ad w, q_vr E ad x w → q_vr E ad y w) (k : q_W E M Q pc lo (y :: st) ce sl h) : q_W E M Q pc lo (x :: st) ce sl h := by
  intro p e R s m args below meth c A ad0 Z H locs ls stv C T Rt
  obtain ⟨ad, tys, ws, lv, h1, h2, h3, h4, h5⟩ := T
  match stv, h4 with
  | v0 :: stv, ⟨e0, h4⟩ => exact k.go C ⟨ad, tys, ws, lv, h1, h2, h3, ⟨hx ad v0 e0, h4⟩, h5⟩ Rt
theorem q_conv2 {E : q_E} {M : q_M} {Q : Option q_V → q_H → Prop} {pc : Nat} {lo : q_Lo} {st : List q_V} {ce sl : Nat} {h : q_H} {x y x' y' : q_V} (hx : ∀ ad w, q_vr E ad x w → q_vr E ad x' w) (hy : ∀ ad w, q_vr E ad y w → q_vr E ad y' w) (k : q_W E M Q pc lo (x' :: y' :: st) ce sl h) : q_W E M Q pc lo (x :: y :: st) ce sl h := by
  intro p e R s m args below meth c A ad0 Z H locs ls stv C T Rt
  obtain ⟨ad, tys, ws, lv, h1, h2, h3, h4, h5⟩ := T
  match stv, h4 with
  | v0 :: v1 :: stv, ⟨e0, e1, h4⟩ => exact k.go C ⟨ad, tys, ws, lv, h1, h2, h3, ⟨hx ad v0 e0, hy ad v1 e1, h4⟩, h5⟩ Rt
