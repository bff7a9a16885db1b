/-! all trees: which profiles come, the least tree of each; pure -/
/-- rows of letters, letter by letter -/
def cn_lt : List Int → List Int → Prop
  | [], _ => False
  | _ :: _, [] => False
  | a :: l, b :: m => a < b ∨ (a = b ∧ cn_lt l m)
theorem cn_lt_c (a b : Int) (l m : List Int) : cn_lt (a :: l) (b :: m) = (a < b ∨ (a = b ∧ cn_lt l m)) := rfl
theorem cn_lt_n (l : List Int) : ¬ cn_lt [] l := fun h => h
theorem cn_lt_m (l : List Int) : ¬ cn_lt l [] := by
  cases l with
  | nil => exact fun h => h
  | cons a l => exact fun h => h
theorem cn_lt_irr : ∀ l, ¬ cn_lt l l
  | [] => cn_lt_n _
  | a :: l => fun h => by
    rw [cn_lt_c] at h
    rcases h with h | h
    · omega
    · exact cn_lt_irr l h.2
theorem cn_lt_tr : ∀ {a b c : List Int}, cn_lt a b → cn_lt b c → cn_lt a c
  | [], _, _, h, _ => absurd h (cn_lt_n _)
  | _ :: _, [], _, h, _ => absurd h (cn_lt_m _)
  | _ :: _, _ :: _, [], _, h => absurd h (cn_lt_m _)
  | x :: a, y :: b, z :: c, h, g => by
    rw [cn_lt_c] at h g ⊢
    rcases h with h | h
    · rcases g with g | g
      · exact Or.inl (by omega)
      · exact Or.inl (by omega)
    · rcases g with g | g
      · exact Or.inl (by omega)
      · exact Or.inr ⟨by omega, cn_lt_tr h.2 g.2⟩
theorem cn_lt_3 : ∀ {a b : List Int}, a.length = b.length → cn_lt a b ∨ a = b ∨ cn_lt b a
  | [], [], _ => Or.inr (Or.inl rfl)
  | [], _ :: _, h => absurd h (by simp)
  | _ :: _, [], h => absurd h (by simp)
  | x :: a, y :: b, h => by
    have h2 : a.length = b.length := by simpa using h
    rw [cn_lt_c, cn_lt_c]
    by_cases c1 : x < y
    · exact Or.inl (Or.inl c1)
    · by_cases c2 : y < x
      · exact Or.inr (Or.inr (Or.inl c2))
      · have e : x = y := by omega
        rcases cn_lt_3 h2 with q | q | q
        · exact Or.inl (Or.inr ⟨e, q⟩)
        · exact Or.inr (Or.inl (by rw [e, q]))
        · exact Or.inr (Or.inr (Or.inr ⟨e.symm, q⟩))
def cn_lq (a b : List Int) : Prop := a = b ∨ cn_lt a b
theorem cn_lq_rf (a : List Int) : cn_lq a a := Or.inl rfl
theorem cn_lq_tr {a b c : List Int} (h : cn_lq a b) (g : cn_lq b c) : cn_lq a c := by
  rcases h with h | h
  · rw [h]; exact g
  · rcases g with g | g
    · rw [← g]; exact Or.inr h
    · exact Or.inr (cn_lt_tr h g)
theorem cn_lq_an {a b : List Int} (h : cn_lq a b) (g : cn_lq b a) : a = b := by
  rcases h with h | h
  · exact h
  · rcases g with g | g
    · exact g.symm
    · exact absurd (cn_lt_tr h g) (cn_lt_irr _)
theorem cn_lq_no {a b : List Int} (hl : a.length = b.length) (h : ¬ cn_lq a b) : cn_lq b a := by
  rcases cn_lt_3 hl with q | q | q
  · exact absurd (Or.inr q) h
  · exact absurd (Or.inl q) h
  · exact Or.inr q
theorem cn_lt_ap : ∀ (x a b : List Int), cn_lt (x ++ a) (x ++ b) ↔ cn_lt a b
  | [], _, _ => Iff.rfl
  | p :: x, a, b => by
    rw [List.cons_append, List.cons_append, cn_lt_c]
    constructor
    · intro h
      rcases h with h | h
      · omega
      · exact (cn_lt_ap x a b).1 h.2
    · intro h
      exact Or.inr ⟨rfl, (cn_lt_ap x a b).2 h⟩
theorem cn_lt_pr : ∀ (x y a b : List Int), (∀ u v, x ++ u = y ++ v → False) → (cn_lt (x ++ a) (y ++ b) ↔ cn_lt x y)
  | [], y, _, _, hn => (hn y [] (by simp)).elim
  | p :: x, [], _, _, hn => (hn [] (p :: x) (by simp)).elim
  | p :: x, q :: y, a, b, hn => by
    rw [List.cons_append, List.cons_append, cn_lt_c, cn_lt_c]
    by_cases c : p = q
    · have ih := cn_lt_pr x y a b (fun u v e => hn u v (by rw [List.cons_append, List.cons_append, c, e]))
      constructor
      · intro h
        rcases h with h | h
        · exact Or.inl h
        · exact Or.inr ⟨h.1, ih.1 h.2⟩
      · intro h
        rcases h with h | h
        · exact Or.inl h
        · exact Or.inr ⟨h.1, ih.2 h.2⟩
    · constructor
      · intro h
        rcases h with h | h
        · exact Or.inl h
        · exact absurd h.1 c
      · intro h
        rcases h with h | h
        · exact Or.inl h
        · exact absurd h.1 c
/-! letters of a row as a list -/
def cn_ls (g : Nat → Int) : Nat → List Int
  | 0 => []
  | n + 1 => g 0 :: cn_ls (fun i => g (i + 1)) n
theorem cn_ls_s (g : Nat → Int) (n : Nat) : cn_ls g (n + 1) = g 0 :: cn_ls (fun i => g (i + 1)) n := rfl
theorem cn_ls_l : ∀ (n : Nat) (g : Nat → Int), (cn_ls g n).length = n
  | 0, _ => rfl
  | n + 1, g => by rw [cn_ls_s, List.length_cons, cn_ls_l n]
theorem cn_ls_x : ∀ {n : Nat} {g h : Nat → Int}, (∀ i, i < n → g i = h i) → cn_ls g n = cn_ls h n
  | 0, _, _, _ => rfl
  | n + 1, g, h, e => by
    rw [cn_ls_s, cn_ls_s, e 0 (by omega), cn_ls_x (n := n) (g := fun i => g (i + 1)) (h := fun i => h (i + 1)) (fun i hi => e (i + 1) (by omega))]
theorem cn_ls_a : ∀ (n m : Nat) (g : Nat → Int), cn_ls g (n + m) = cn_ls g n ++ cn_ls (fun i => g (n + i)) m
  | 0, m, g => by
    rw [Nat.zero_add]
    show cn_ls g m = cn_ls (fun i => g (0 + i)) m
    exact cn_ls_x (fun i _ => by rw [Nat.zero_add])
  | n + 1, m, g => by
    rw [show n + 1 + m = (n + m) + 1 by omega, cn_ls_s, cn_ls_s, cn_ls_a n m, List.cons_append]
    congr 2
    exact cn_ls_x (fun i _ => congrArg g (by omega))
/-- the first place where they differ -/
theorem cn_ls_lt : ∀ {n : Nat} {g h : Nat → Int} (k : Nat), k < n → (∀ i, i < k → g i = h i) → g k < h k → cn_lt (cn_ls g n) (cn_ls h n)
  | 0, _, _, k, hk, _, _ => absurd hk (by omega)
  | n + 1, g, h, 0, _, _, c => by
    rw [cn_ls_s, cn_ls_s, cn_lt_c]
    exact Or.inl c
  | n + 1, g, h, k + 1, hk, e, c => by
    rw [cn_ls_s, cn_ls_s, cn_lt_c]
    exact Or.inr ⟨e 0 (by omega), cn_ls_lt (n := n) (g := fun i => g (i + 1)) (h := fun i => h (i + 1)) k (by omega) (fun i hi => e (i + 1) (by omega)) c⟩
/-- the i-th letter -/
def cn_at : List Int → Nat → Int
  | [], _ => -4
  | a :: _, 0 => a
  | _ :: l, i + 1 => cn_at l i
theorem cn_at_s (a : Int) (l : List Int) (i : Nat) : cn_at (a :: l) (i + 1) = cn_at l i := rfl
theorem cn_at_l : ∀ {x y : List Int} {i : Nat}, i < x.length → cn_at (x ++ y) i = cn_at x i
  | [], _, _, h => absurd h (by simp)
  | _ :: _, _, 0, _ => rfl
  | a :: x, y, i + 1, h => by
    rw [List.cons_append, cn_at_s, cn_at_s]
    exact cn_at_l (by simpa using h)
theorem cn_at_r : ∀ {x y : List Int} {i : Nat}, cn_at (x ++ y) (x.length + i) = cn_at y i
  | [], y, i => by rw [List.nil_append, List.length_nil, Nat.zero_add]
  | a :: x, y, i => by
    rw [List.cons_append, List.length_cons, show x.length + 1 + i = (x.length + i) + 1 by omega, cn_at_s]
    exact cn_at_r
theorem cn_at_ls : ∀ {n : Nat} {g : Nat → Int} {i : Nat}, i < n → cn_at (cn_ls g n) i = g i
  | 0, _, _, h => absurd h (by omega)
  | n + 1, g, 0, _ => rfl
  | n + 1, g, i + 1, h => by
    rw [cn_ls_s, cn_at_s]
    exact cn_at_ls (n := n) (g := fun i => g (i + 1)) (by omega)
/-! what a letter and two profiles make -/
def cn_z (f s t : Int) : Int := 1 + (if 1 ≤ y_ch f then s else 0) + (if 2 ≤ y_ch f then t else 0)
def cn_w (f : Int) (a b : List Int) : List Int := f :: ((if 1 ≤ y_ch f then a else []) ++ (if 2 ≤ y_ch f then b else []))
theorem cn_zx (f s t : Int) : (y_ch f = 0 ∧ cn_z f s t = 1) ∨ (y_ch f = 1 ∧ cn_z f s t = 1 + s) ∨ (y_ch f = 2 ∧ cn_z f s t = 1 + s + t) := by
  unfold cn_z
  have h := y_ch_b f
  by_cases c1 : 1 ≤ y_ch f
  · rw [if_pos c1]
    by_cases c2 : 2 ≤ y_ch f
    · rw [if_pos c2]; omega
    · rw [if_neg c2]; omega
  · rw [if_neg c1, if_neg (by omega)]; omega
theorem cn_wx (f : Int) (a b : List Int) : (y_ch f = 0 ∧ cn_w f a b = [f]) ∨ (y_ch f = 1 ∧ cn_w f a b = f :: a) ∨ (y_ch f = 2 ∧ cn_w f a b = f :: (a ++ b)) := by
  unfold cn_w
  have h := y_ch_b f
  by_cases c1 : 1 ≤ y_ch f
  · rw [if_pos c1]
    by_cases c2 : 2 ≤ y_ch f
    · rw [if_pos c2]; exact Or.inr (Or.inr ⟨by omega, rfl⟩)
    · rw [if_neg c2, List.append_nil]; exact Or.inr (Or.inl ⟨by omega, rfl⟩)
  · rw [if_neg c1, if_neg (by omega)]; exact Or.inl ⟨by omega, rfl⟩
/-- a letter and two profiles that come, as far as it has children -/
def cn_tri (S : Nat → Prop) (f : Int) (l r : Nat) : Prop := (0 ≤ f ∧ f ≤ 4) ∧ (1 ≤ y_ch f → l < 54 ∧ S l) ∧ (y_ch f < 1 → l = 0) ∧ (2 ≤ y_ch f → r < 54 ∧ S r) ∧ (y_ch f < 2 → r = 0)
theorem cn_tri_m {S S' : Nat → Prop} {f : Int} {l r : Nat} (h : ∀ k, k < 54 → S k → S' k) (t : cn_tri S f l r) : cn_tri S' f l r := by
  obtain ⟨a, b, c, d, e⟩ := t
  exact ⟨a, fun z => ⟨(b z).1, h _ (b z).1 (b z).2⟩, c, fun z => ⟨(d z).1, h _ (d z).1 (d z).2⟩, e⟩
def cn_cl (pf : Int → Nat → Nat → Nat) (S : Nat → Prop) : Prop := ∀ f l r, cn_tri S f l r → S (pf f l r)
def cn_mi (pf : Int → Nat → Nat → Nat) (S : Nat → Prop) : Prop := ∀ X : Nat → Prop, cn_cl pf X → ∀ k, k < 54 → S k → X k
theorem cn_cl_u {pf : Int → Nat → Nat → Nat} {S S' : Nat → Prop} (c : cn_cl pf S) (m : cn_mi pf S) (c' : cn_cl pf S') (m' : cn_mi pf S') {k : Nat} (hk : k < 54) : S k ↔ S' k := ⟨m S' c' k hk, m' S c k hk⟩
/-- sizes and letters of the least: such as are made of the least, none better -/
def cn_sol (pf : Int → Nat → Nat → Nat) (S : Nat → Prop) (s : Nat → Int) (L : Nat → List Int) : Prop := (∀ k, k < 54 → S k → 1 ≤ s k) ∧ (∀ k, k < 54 → S k → s k ≤ 40 → ∃ f l r, cn_tri S f l r ∧ pf f l r = k ∧ s k = cn_z f (s l) (s r) ∧ L k = cn_w f (L l) (L r)) ∧ (∀ f l r, cn_tri S f l r → cn_z f (s l) (s r) ≤ 40 → s (pf f l r) ≤ cn_z f (s l) (s r) ∧ (s (pf f l r) = cn_z f (s l) (s r) → cn_lq (L (pf f l r)) (cn_w f (L l) (L r))))
theorem cn_zw {S : Nat → Prop} {s s' : Nat → Int} {L L' : Nat → List Int} {f : Int} {l r : Nat} (t : cn_tri S f l r) (hl : 1 ≤ y_ch f → s l = s' l ∧ L l = L' l) (hr : 2 ≤ y_ch f → s r = s' r ∧ L r = L' r) : cn_z f (s l) (s r) = cn_z f (s' l) (s' r) ∧ cn_w f (L l) (L r) = cn_w f (L' l) (L' r) := by
  unfold cn_z cn_w
  by_cases c1 : 1 ≤ y_ch f
  · rw [if_pos c1, if_pos c1, if_pos c1, if_pos c1, (hl c1).1, (hl c1).2]
    by_cases c2 : 2 ≤ y_ch f
    · rw [if_pos c2, if_pos c2, if_pos c2, if_pos c2, (hr c2).1, (hr c2).2]; exact ⟨rfl, rfl⟩
    · rw [if_neg c2, if_neg c2, if_neg c2, if_neg c2]; exact ⟨rfl, rfl⟩
  · have c2 : ¬ 2 ≤ y_ch f := by omega
    rw [if_neg c1, if_neg c1, if_neg c1, if_neg c1, if_neg c2, if_neg c2, if_neg c2, if_neg c2]; exact ⟨rfl, rfl⟩
theorem cn_sol_h {pf : Int → Nat → Nat → Nat} {S : Nat → Prop} {s s' : Nat → Int} {L L' : Nat → List Int} (h : cn_sol pf S s L) (h' : cn_sol pf S s' L') {k : Nat} (hk : k < 54) (hS : S k) (h40 : s k ≤ 40) (ih : ∀ j, j < 54 → S j → s j < s k → s j = s' j ∧ L j = L' j) : s' k ≤ s k ∧ (s' k = s k → cn_lq (L' k) (L k)) := by
  obtain ⟨f, l, r, t, e1, e2, e3⟩ := h.2.1 k hk hS h40
  have zx := cn_zx f (s l) (s r)
  have b1 : 1 ≤ y_ch f → 1 ≤ s l := fun c => h.1 l (t.2.1 c).1 (t.2.1 c).2
  have b2 : 2 ≤ y_ch f → 1 ≤ s r := fun c => h.1 r (t.2.2.2.1 c).1 (t.2.2.2.1 c).2
  have q := cn_zw (s := s) (s' := s') (L := L) (L' := L') t (fun c => ih l (t.2.1 c).1 (t.2.1 c).2 (by
    rcases zx with z | z | z
    · omega
    · omega
    · have := b2 (by omega); omega)) (fun c => ih r (t.2.2.2.1 c).1 (t.2.2.2.1 c).2 (by
    rcases zx with z | z | z
    · omega
    · omega
    · have := b1 (by omega); omega))
  have g := h'.2.2 f l r t (by rw [← q.1]; omega)
  rw [e1, ← q.1, ← q.2, ← e2, ← e3] at g
  exact g
theorem cn_sol_u {pf : Int → Nat → Nat → Nat} {S : Nat → Prop} {s s' : Nat → Int} {L L' : Nat → List Int} (h : cn_sol pf S s L) (h' : cn_sol pf S s' L') : ∀ (N : Nat) (k : Nat), k < 54 → S k → (s k = N ∨ s' k = N) → N ≤ 40 → s k = s' k ∧ L k = L' k := by
  intro N
  induction N using Nat.strongRecOn with
  | ind N ih =>
    intro k hk hS hN h40
    have i1 : ∀ j, j < 54 → S j → s j < N → s j = s' j ∧ L j = L' j := fun j hj hSj hlt => by
      have b := h.1 j hj hSj
      exact ih (s j).toNat (by omega) j hj hSj (Or.inl (by omega)) (by omega)
    have i2 : ∀ j, j < 54 → S j → s' j < N → s' j = s j ∧ L' j = L j := fun j hj hSj hlt => by
      have b := h'.1 j hj hSj
      have q := ih (s' j).toNat (by omega) j hj hSj (Or.inr (by omega)) (by omega)
      exact ⟨q.1.symm, q.2.symm⟩
    have e : s k = N ∧ s' k = N := by
      rcases hN with hN | hN
      · have q := cn_sol_h h h' hk hS (by omega) (fun j hj hSj hlt => i1 j hj hSj (by omega))
        by_cases c : s' k < N
        · have := i2 k hk hS c; omega
        · omega
      · have q := cn_sol_h h' h hk hS (by omega) (fun j hj hSj hlt => i2 j hj hSj (by omega))
        by_cases c : s k < N
        · have := i1 k hk hS c; omega
        · omega
    have q1 := cn_sol_h h h' hk hS (by omega) (fun j hj hSj hlt => i1 j hj hSj (by omega))
    have q2 := cn_sol_h h' h hk hS (by omega) (fun j hj hSj hlt => i2 j hj hSj (by omega))
    exact ⟨by omega, cn_lq_an (q2.2 (by omega)) (q1.2 (by omega))⟩
/-! trees by pointers -/
def cn_L (hd lf rt : Nat → Int) : Nat → Int → List Int
  | 0, _ => []
  | n + 1, k => if k < 0 then [] else hd k.toNat :: (cn_L hd lf rt n (lf k.toNat) ++ cn_L hd lf rt n (rt k.toNat))
theorem cn_L_s (hd lf rt : Nat → Int) (n : Nat) (k : Int) : cn_L hd lf rt (n + 1) k = if k < 0 then [] else hd k.toNat :: (cn_L hd lf rt n (lf k.toNat) ++ cn_L hd lf rt n (rt k.toNat)) := rfl
theorem cn_L_n {hd lf rt : Nat → Int} : ∀ {n : Nat} {k : Int}, k < 0 → cn_L hd lf rt n k = []
  | 0, _, _ => rfl
  | n + 1, k, h => by rw [cn_L_s, if_pos h]
abbrev cn_LL (hd lf rt : Nat → Int) (k : Int) : List Int := cn_L hd lf rt 40 k
def cn_s (sz : Nat → Int) (x : Int) : Int := if 0 ≤ x ∧ x < 54 then sz x.toNat else 0
theorem cn_s_n {sz : Nat → Int} {x : Int} (h : x < 0) : cn_s sz x = 0 := if_neg (by omega)
theorem cn_s_p {sz : Nat → Int} {x : Int} (h : 0 ≤ x) (h2 : x < 54) : cn_s sz x = sz x.toNat := if_pos ⟨h, h2⟩
/-- a letter and two pointers, as far as it has children -/
def cn_ok (S : Nat → Prop) (f x y : Int) : Prop := (0 ≤ f ∧ f ≤ 4) ∧ (1 ≤ y_ch f → 0 ≤ x ∧ x < 54 ∧ S x.toNat) ∧ (y_ch f < 1 → x = -4) ∧ (2 ≤ y_ch f → 0 ≤ y ∧ y < 54 ∧ S y.toNat) ∧ (y_ch f < 2 → y = -4)
theorem cn_ok_m {S S' : Nat → Prop} {f x y : Int} (h : ∀ k, k < 54 → S k → S' k) (t : cn_ok S f x y) : cn_ok S' f x y := by
  obtain ⟨a, b, c, d, e⟩ := t
  exact ⟨a, fun z => ⟨(b z).1, (b z).2.1, h _ (by have := b z; omega) (b z).2.2⟩, c, fun z => ⟨(d z).1, (d z).2.1, h _ (by have := d z; omega) (d z).2.2⟩, e⟩
theorem cn_ok_t {S : Nat → Prop} {f x y : Int} (t : cn_ok S f x y) : cn_tri S f x.toNat y.toNat := by
  obtain ⟨a, b, c, d, e⟩ := t
  exact ⟨a, fun z => ⟨by have := b z; omega, (b z).2.2⟩, fun z => by rw [c z]; rfl, fun z => ⟨by have := d z; omega, (d z).2.2⟩, fun z => by rw [e z]; rfl⟩
/-- how many nodes, up to 41 -/
def cn_m (x : Int) : Int := if x < 41 then x else 41
theorem cn_mx (x : Int) : (x < 41 ∧ cn_m x = x) ∨ (41 ≤ x ∧ cn_m x = 41) := by
  unfold cn_m
  by_cases c : x < 41
  · rw [if_pos c]; exact Or.inl ⟨c, rfl⟩
  · rw [if_neg c]; exact Or.inr ⟨by omega, rfl⟩
theorem cn_ok_z {S : Nat → Prop} {f x y : Int} {sz : Nat → Int} (t : cn_ok S f x y) : 1 + cn_s sz x + cn_s sz y = cn_z f (sz x.toNat) (sz y.toNat) := by
  obtain ⟨a, b, c, d, e⟩ := t
  have zx := cn_zx f (sz x.toNat) (sz y.toNat)
  rcases zx with z | z | z
  · rw [cn_s_n (x := x) (by have := c (by omega); omega), cn_s_n (x := y) (by have := e (by omega); omega)]; omega
  · have q := b (by omega)
    rw [cn_s_p q.1 q.2.1, cn_s_n (x := y) (by have := e (by omega); omega)]; omega
  · have q := b (by omega)
    have q2 := d (by omega)
    rw [cn_s_p q.1 q.2.1, cn_s_p q2.1 q2.2.1]; omega
/-- an entry: a letter, pointers, the size -/
def cn_en (pf : Int → Nat → Nat → Nat) (S : Nat → Prop) (hd lf rt sz : Nat → Int) (k : Nat) : Prop := cn_ok S (hd k) (lf k) (rt k) ∧ sz k = cn_m (1 + cn_s sz (lf k) + cn_s sz (rt k)) ∧ pf (hd k) (lf k).toNat (rt k).toNat = k ∧ 1 ≤ sz k
def cn_TS (pf : Int → Nat → Nat → Nat) (S : Nat → Prop) (hd lf rt sz : Nat → Int) : Prop := ∀ k, k < 54 → S k → cn_en pf S hd lf rt sz k
/-- a pointer: none, or to one of at most so many nodes -/
def cn_vd (S : Nat → Prop) (sz : Nat → Int) (n x : Int) : Prop := x = -4 ∨ (0 ≤ x ∧ x < 54 ∧ S x.toNat ∧ sz x.toNat ≤ n)
theorem cn_vd_m {S : Nat → Prop} {sz : Nat → Int} {n m x : Int} (h : n ≤ m) (v : cn_vd S sz n x) : cn_vd S sz m x := by
  rcases v with v | ⟨a, b, c, d⟩
  · exact Or.inl v
  · exact Or.inr ⟨a, b, c, by omega⟩
theorem cn_kid {pf : Int → Nat → Nat → Nat} {S : Nat → Prop} {hd lf rt sz : Nat → Int} (T : cn_TS pf S hd lf rt sz) {f x y : Int} (o : cn_ok S f x y) {n : Int} (h : cn_m (1 + cn_s sz x + cn_s sz y) ≤ n) (hn : n ≤ 40) : cn_vd S sz (n - 1) x ∧ cn_vd S sz (n - 1) y := by
  have m := cn_mx (1 + cn_s sz x + cn_s sz y)
  obtain ⟨a, b, c, d, e⟩ := o
  have ch := y_ch_b f
  have px : (x = -4 ∧ cn_s sz x = 0) ∨ (0 ≤ x ∧ x < 54 ∧ S x.toNat ∧ cn_s sz x = sz x.toNat ∧ 1 ≤ sz x.toNat) := by
    by_cases c1 : 1 ≤ y_ch f
    · have q := b c1
      exact Or.inr ⟨q.1, q.2.1, q.2.2, cn_s_p q.1 q.2.1, (T _ (by omega) q.2.2).2.2.2⟩
    · have q := c (by omega)
      exact Or.inl ⟨q, cn_s_n (by omega)⟩
  have py : (y = -4 ∧ cn_s sz y = 0) ∨ (0 ≤ y ∧ y < 54 ∧ S y.toNat ∧ cn_s sz y = sz y.toNat ∧ 1 ≤ sz y.toNat) := by
    by_cases c1 : 2 ≤ y_ch f
    · have q := d c1
      exact Or.inr ⟨q.1, q.2.1, q.2.2, cn_s_p q.1 q.2.1, (T _ (by omega) q.2.2).2.2.2⟩
    · have q := e (by omega)
      exact Or.inl ⟨q, cn_s_n (by omega)⟩
  constructor
  · rcases px with q | q
    · exact Or.inl q.1
    · exact Or.inr ⟨q.1, q.2.1, q.2.2.1, by rcases py with w | w <;> omega⟩
  · rcases py with q | q
    · exact Or.inl q.1
    · exact Or.inr ⟨q.1, q.2.1, q.2.2.1, by rcases px with w | w <;> omega⟩
theorem cn_L_e {pf : Int → Nat → Nat → Nat} {S : Nat → Prop} {hd lf rt sz : Nat → Int} (T : cn_TS pf S hd lf rt sz) : ∀ (n m : Nat) (x : Int), n ≤ 40 → n ≤ m → cn_vd S sz n x → cn_L hd lf rt m x = cn_L hd lf rt n x
  | 0, m, x, _, _, v => by
    rcases v with v | ⟨v1, v2, v3, v4⟩
    · rw [cn_L_n (by omega)]; rfl
    · have := (T x.toNat (by omega) v3).2.2.2
      exact absurd v4 (by omega)
  | n + 1, 0, x, _, h, _ => absurd h (by omega)
  | n + 1, m + 1, x, h40, h, v => by
    rcases v with v | ⟨v1, v2, v3, v4⟩
    · rw [cn_L_n (by omega), cn_L_n (by omega)]
    · have t := T x.toNat (by omega) v3
      have kd := cn_kid T t.1 (n := ((n + 1 : Nat) : Int)) (by rw [← t.2.1]; exact v4) (by omega)
      have e : (((n + 1 : Nat) : Int)) - 1 = n := by omega
      rw [e] at kd
      rw [cn_L_s, cn_L_s, if_neg (by omega), if_neg (by omega), cn_L_e T n m _ (by omega) (by omega) kd.1, cn_L_e T n m _ (by omega) (by omega) kd.2]
section
variable {pf : Int → Nat → Nat → Nat} {S : Nat → Prop} {hd lf rt sz : Nat → Int}
theorem cn_LL_e (T : cn_TS pf S hd lf rt sz) {x : Int} (x0 : 0 ≤ x) (x1 : x < 54) (hS : S x.toNat) (h : sz x.toNat ≤ 40) : cn_LL hd lf rt x = hd x.toNat :: (cn_LL hd lf rt (lf x.toNat) ++ cn_LL hd lf rt (rt x.toNat)) := by
  have t := T x.toNat (by omega) hS
  have kd := cn_kid T t.1 (n := 40) (by rw [← t.2.1]; exact h) (by omega)
  unfold cn_LL
  rw [show (40 : Nat) = 39 + 1 from rfl, cn_L_s, if_neg (by omega), cn_L_e T 39 (39 + 1) (lf x.toNat) (by omega) (by omega) kd.1, cn_L_e T 39 (39 + 1) (rt x.toNat) (by omega) (by omega) kd.2]
theorem cn_LL_n {x : Int} (h : x < 0) : cn_LL hd lf rt x = [] := cn_L_n h
theorem cn_LL_l (T : cn_TS pf S hd lf rt sz) : ∀ (N : Nat) (x : Int), N ≤ 40 → cn_vd S sz N x → (cn_LL hd lf rt x).length = (cn_s sz x).toNat := by
  intro N
  induction N using Nat.strongRecOn with
  | ind N ih =>
    intro x hN v
    rcases v with v | ⟨v1, v2, v3, v4⟩
    · rw [cn_LL_n (by omega), cn_s_n (by omega)]; rfl
    · have t := T x.toNat (by omega) v3
      have b := t.2.2.2
      have kd := cn_kid T t.1 (n := N) (by rw [← t.2.1]; exact v4) (by omega)
      rw [cn_LL_e T v1 v2 v3 (by omega), List.length_cons, List.length_append, cn_s_p v1 v2, ih (N - 1) (by omega) (lf x.toNat) (by omega) (cn_vd_m (by omega) kd.1), ih (N - 1) (by omega) (rt x.toNat) (by omega) (cn_vd_m (by omega) kd.2)]
      have e := t.2.1
      have m := cn_mx (1 + cn_s sz (lf x.toNat) + cn_s sz (rt x.toNat))
      have nn : ∀ y, cn_vd S sz (N - 1) y → 0 ≤ cn_s sz y := fun y w => by
        rcases w with w | ⟨w1, w2, w3, w4⟩
        · rw [cn_s_n (by omega)]; omega
        · rw [cn_s_p w1 w2]; have := (T y.toNat (by omega) w3).2.2.2; omega
      have n1 := nn _ kd.1
      have n2 := nn _ kd.2
      omega
/-- no tree begins another, and what is written is one profile's -/
theorem cn_pre (T : cn_TS pf S hd lf rt sz) : ∀ (N : Nat) (a b : Int) (X Y : List Int), N ≤ 40 → 0 ≤ a → a < 54 → S a.toNat → sz a.toNat ≤ N → 0 ≤ b → b < 54 → S b.toNat → sz b.toNat ≤ 40 → cn_LL hd lf rt a ++ X = cn_LL hd lf rt b ++ Y → a = b ∧ X = Y := by
  intro N
  induction N using Nat.strongRecOn with
  | ind N ih =>
    intro a b X Y hN a0 a1 aS aN b0 b1 bS bN e
    have ta := T a.toNat (by omega) aS
    have tb := T b.toNat (by omega) bS
    have pa := ta.2.2.2
    have ka := cn_kid T ta.1 (n := N) (by rw [← ta.2.1]; exact aN) (by omega)
    have kb := cn_kid T tb.1 (n := 40) (by rw [← tb.2.1]; exact bN) (by omega)
    rw [cn_LL_e T a0 a1 aS (by omega), cn_LL_e T b0 b1 bS bN, List.cons_append, List.cons_append, List.append_assoc, List.append_assoc] at e
    injection e with e1 e2
    have ea := ta.2.2.1
    have eb := tb.2.2.1
    have one : ∀ (x y : Int) (X Y : List Int), cn_vd S sz (N - 1) x → cn_vd S sz (40 - 1) y → (x = -4 ↔ y = -4) → cn_LL hd lf rt x ++ X = cn_LL hd lf rt y ++ Y → x = y ∧ X = Y := fun x y X Y vx vy hxy e => by
      rcases vx with vx | ⟨x1, x2, x3, x4⟩
      · have vy := hxy.1 vx
        rw [cn_LL_n (by omega), cn_LL_n (by omega), List.nil_append, List.nil_append] at e
        exact ⟨by omega, e⟩
      · rcases vy with vy | ⟨y1, y2, y3, y4⟩
        · have := hxy.2 vy
          exact absurd x1 (by omega)
        · have := (T x.toNat (by omega) x3).2.2.2
          exact ih (N - 1) (by omega) x y X Y (by omega) x1 x2 x3 (by omega) y1 y2 y3 (by omega) e
    have ca := ta.1
    have cb := tb.1
    rw [← e1] at cb
    have q1 := one (lf a.toNat) (lf b.toNat) _ _ ka.1 kb.1 (by
      by_cases c : 1 ≤ y_ch (hd a.toNat)
      · have u1 := ca.2.1 c
        have u2 := cb.2.1 c
        constructor <;> intro z <;> omega
      · have u1 := ca.2.2.1 (by omega)
        have u2 := cb.2.2.1 (by omega)
        constructor <;> intro z <;> omega) e2
    have q2 := one (rt a.toNat) (rt b.toNat) _ _ ka.2 kb.2 (by
      by_cases c : 2 ≤ y_ch (hd a.toNat)
      · have u1 := ca.2.2.2.1 c
        have u2 := cb.2.2.2.1 c
        constructor <;> intro z <;> omega
      · have u1 := ca.2.2.2.2 (by omega)
        have u2 := cb.2.2.2.2 (by omega)
        constructor <;> intro z <;> omega) q1.2
    refine ⟨?_, q2.2⟩
    rw [e1, q1.1, q2.1] at ea
    have : a.toNat = b.toNat := ea.symm.trans eb
    omega
/-- two pointers: the same, or both to trees of at most 40 -/
def cn_two (S : Nat → Prop) (sz : Nat → Int) (n a b : Int) : Prop := a = b ∨ ((0 ≤ a ∧ a < 54 ∧ S a.toNat ∧ sz a.toNat ≤ n) ∧ (0 ≤ b ∧ b < 54 ∧ S b.toNat ∧ sz b.toNat ≤ n))
/-- behind the same: by the first pointer, or by what is behind it -/
theorem cn_lq_E (T : cn_TS pf S hd lf rt sz) {f a b n : Int} {X Y : List Int} (hn : n ≤ 40) (t : cn_two S sz n a b) : cn_lq (f :: (cn_LL hd lf rt a ++ X)) (f :: (cn_LL hd lf rt b ++ Y)) ↔ (a = b ∧ cn_lq X Y) ∨ (a ≠ b ∧ cn_lq (cn_LL hd lf rt a) (cn_LL hd lf rt b)) := by
  by_cases c : a = b
  · subst c
    constructor
    · intro h
      refine Or.inl ⟨rfl, ?_⟩
      rcases h with h | h
      · injection h with _ h
        exact Or.inl (List.append_cancel_left h)
      · rw [cn_lt_c] at h
        rcases h with h | h
        · omega
        · exact Or.inr ((cn_lt_ap _ _ _).1 h.2)
    · intro h
      rcases h with h | h
      · rcases h.2 with h | h
        · rw [h]; exact cn_lq_rf _
        · refine Or.inr ?_
          rw [cn_lt_c]
          exact Or.inr ⟨rfl, (cn_lt_ap _ _ _).2 h⟩
      · exact absurd rfl h.1
  · have t := t.resolve_left c
    have np : ∀ u v, cn_LL hd lf rt a ++ u = cn_LL hd lf rt b ++ v → False := fun u v e => c (cn_pre T 40 a b u v (by omega) t.1.1 t.1.2.1 t.1.2.2.1 (by omega) t.2.1 t.2.2.1 t.2.2.2.1 (by omega) e).1
    have pr := cn_lt_pr _ _ X Y np
    constructor
    · intro h
      refine Or.inr ⟨c, ?_⟩
      rcases h with h | h
      · injection h with _ h
        exact absurd h (fun z => np _ _ z)
      · rw [cn_lt_c] at h
        rcases h with h | h
        · omega
        · exact Or.inr (pr.1 h.2)
    · intro h
      rcases h with h | h
      · exact absurd h.1 c
      · rcases h.2 with h | h
        · exact (np [] [] (by rw [h])).elim
        · refine Or.inr ?_
          rw [cn_lt_c]
          exact Or.inr ⟨rfl, pr.2 h⟩
theorem cn_lq_H {f g : Int} {X Y : List Int} (h : f ≠ g) : cn_lq (f :: X) (g :: Y) ↔ f < g := by
  constructor
  · intro q
    rcases q with q | q
    · injection q with q _
      exact absurd q h
    · rw [cn_lt_c] at q
      rcases q with q | q
      · exact q
      · exact absurd q.1 h
  · intro q
    refine Or.inr ?_
    rw [cn_lt_c]
    exact Or.inl q
/-- one step of comparing two trees -/
theorem cn_lq_S (T : cn_TS pf S hd lf rt sz) {a b n : Int} (hn : n ≤ 40) (ab : a ≠ b) (t : cn_two S sz n a b) : (hd a.toNat ≠ hd b.toNat → (cn_lq (cn_LL hd lf rt a) (cn_LL hd lf rt b) ↔ hd a.toNat < hd b.toNat)) ∧ (hd a.toNat = hd b.toNat → lf a.toNat = lf b.toNat → cn_two S sz (n - 1) (rt a.toNat) (rt b.toNat) ∧ (cn_lq (cn_LL hd lf rt a) (cn_LL hd lf rt b) ↔ cn_lq (cn_LL hd lf rt (rt a.toNat)) (cn_LL hd lf rt (rt b.toNat)))) ∧ (hd a.toNat = hd b.toNat → lf a.toNat ≠ lf b.toNat → cn_two S sz (n - 1) (lf a.toNat) (lf b.toNat) ∧ (cn_lq (cn_LL hd lf rt a) (cn_LL hd lf rt b) ↔ cn_lq (cn_LL hd lf rt (lf a.toNat)) (cn_LL hd lf rt (lf b.toNat)))) := by
  obtain ⟨⟨a0, a1, aS, aN⟩, b0, b1, bS, bN⟩ := t.resolve_left ab
  have ta := T a.toNat (by omega) aS
  have tb := T b.toNat (by omega) bS
  have ka := cn_kid T ta.1 (n := n) (by rw [← ta.2.1]; exact aN) hn
  have kb := cn_kid T tb.1 (n := n) (by rw [← tb.2.1]; exact bN) hn
  rw [cn_LL_e T a0 a1 aS (by omega), cn_LL_e T b0 b1 bS (by omega)]
  have two : ∀ x y, cn_vd S sz (n - 1) x → cn_vd S sz (n - 1) y → (x = -4 ↔ y = -4) → cn_two S sz (n - 1) x y := fun x y vx vy h => by
    rcases vx with vx | vx
    · exact Or.inl (by have := h.1 vx; omega)
    · rcases vy with vy | vy
      · exact Or.inl (by have := h.2 vy; omega)
      · exact Or.inr ⟨vx, vy⟩
  have ca := ta.1
  have cb := tb.1
  have s1 : hd a.toNat = hd b.toNat → cn_two S sz (n - 1) (lf a.toNat) (lf b.toNat) := fun e => two _ _ ka.1 kb.1 (by
    rw [← e] at cb
    by_cases c : 1 ≤ y_ch (hd a.toNat)
    · have u1 := ca.2.1 c
      have u2 := cb.2.1 c
      constructor <;> intro z <;> omega
    · have u1 := ca.2.2.1 (by omega)
      have u2 := cb.2.2.1 (by omega)
      constructor <;> intro z <;> omega)
  have s2 : hd a.toNat = hd b.toNat → cn_two S sz (n - 1) (rt a.toNat) (rt b.toNat) := fun e => two _ _ ka.2 kb.2 (by
    rw [← e] at cb
    by_cases c : 2 ≤ y_ch (hd a.toNat)
    · have u1 := ca.2.2.2.1 c
      have u2 := cb.2.2.2.1 c
      constructor <;> intro z <;> omega
    · have u1 := ca.2.2.2.2 (by omega)
      have u2 := cb.2.2.2.2 (by omega)
      constructor <;> intro z <;> omega)
  refine ⟨fun h => cn_lq_H h, fun e l => ⟨s2 e, ?_⟩, fun e l => ⟨s1 e, ?_⟩⟩
  · rw [e, cn_lq_E T (n := n - 1) (by omega) (s1 e)]
    constructor
    · intro h
      rcases h with h | h
      · exact h.2
      · exact absurd l h.1
    · intro h
      exact Or.inl ⟨l, h⟩
  · rw [e, cn_lq_E T (n := n - 1) (by omega) (s1 e)]
    constructor
    · intro h
      rcases h with h | h
      · exact absurd h.1 l
      · exact h.2
    · intro h
      exact Or.inr ⟨l, h⟩
/-- trees hang on what they are made of alone -/
theorem cn_L_x (T : cn_TS pf S hd lf rt sz) {hd' lf' rt' : Nat → Int} (e : ∀ k, k < 54 → S k → hd' k = hd k ∧ lf' k = lf k ∧ rt' k = rt k) : ∀ (n : Nat) (x : Int), (x < 0 ∨ (0 ≤ x ∧ x < 54 ∧ S x.toNat)) → cn_L hd' lf' rt' n x = cn_L hd lf rt n x
  | 0, _, _ => rfl
  | n + 1, x, v => by
    rcases v with v | ⟨v1, v2, v3⟩
    · rw [cn_L_n v, cn_L_n v]
    · have t := (T x.toNat (by omega) v3).1
      have q := e x.toNat (by omega) v3
      have ch := y_ch_b (hd x.toNat)
      rw [cn_L_s, cn_L_s, if_neg (by omega), if_neg (by omega), q.1, q.2.1, q.2.2, cn_L_x T e n (lf x.toNat) (by
        by_cases c : 1 ≤ y_ch (hd x.toNat)
        · exact Or.inr (t.2.1 c)
        · have := t.2.2.1 (by omega)
          exact Or.inl (by omega)), cn_L_x T e n (rt x.toNat) (by
        by_cases c : 2 ≤ y_ch (hd x.toNat)
        · exact Or.inr (t.2.2.2.1 c)
        · have := t.2.2.2.2 (by omega)
          exact Or.inl (by omega))]
end
