/-! the class's census: ahead, nearest, offered, settled -/
section
variable {pf : Int → Nat → Nat → Nat} {S : Nat → Prop} {hd lf rt sz st : Nat → Int} {O : Int → Nat → Nat → Prop}
theorem cn_two_e (T : cn_TS pf S hd lf rt sz) {n a b : Int} (t : cn_two S sz n a b) (h : n ≤ 0 ∨ a = b ∨ a < 0 ∨ 53 < a ∨ b < 0 ∨ 53 < b) : a = b := by
  rcases t with t | t
  · exact t
  · have := (T a.toNat (by omega) t.1.2.2.1).2.2.2
    omega
theorem cn_bef (T : cn_TS pf S hd lf rt sz) {k : Nat} {f x y : Int} (en : cn_en pf S hd lf rt sz k) (o : cn_ok S f x y) (z : sz k = cn_m (1 + cn_s sz x + cn_s sz y)) (z40 : sz k ≤ 40) (hf : hd k = f) : cn_two S sz 40 (lf k) x ∧ cn_two S sz 40 (rt k) y ∧ (cn_lq (cn_E hd lf rt (hd k) (lf k) (rt k)) (cn_E hd lf rt f x y) ↔ (lf k = x ∧ cn_lq (cn_LL hd lf rt (rt k)) (cn_LL hd lf rt y)) ∨ (lf k ≠ x ∧ cn_lq (cn_LL hd lf rt (lf k)) (cn_LL hd lf rt x))) := by
  have k1 := cn_kid T en.1 (n := 40) (by rw [← en.2.1]; exact z40) (by omega)
  have k2 := cn_kid T o (n := 40) (by rw [← z]; exact z40) (by omega)
  have two : ∀ a b, cn_vd S sz (40 - 1) a → cn_vd S sz (40 - 1) b → (a = -4 ↔ b = -4) → cn_two S sz 40 a b := fun a b va vb h => by
    rcases va with va | ⟨va1, va2, va3, va4⟩
    · exact Or.inl (by have := h.1 va; omega)
    · rcases vb with vb | ⟨vb1, vb2, vb3, vb4⟩
      · exact Or.inl (by have := h.2 vb; omega)
      · exact Or.inr ⟨⟨va1, va2, va3, by omega⟩, vb1, vb2, vb3, by omega⟩
  have c1 := cn_okx en.1
  have c2 := cn_okx o
  rw [hf] at c1
  have t1 := two (lf k) x k1.1 k2.1 (by constructor <;> intro q <;> omega)
  have t2 := two (rt k) y k1.2 k2.2 (by constructor <;> intro q <;> omega)
  refine ⟨t1, t2, ?_⟩
  unfold cn_E
  rw [hf]
  exact cn_lq_E T (n := 40) (by omega) t1
/-- the best so far -/
def cn_bst (hd lf rt sz st : Nat → Int) (b p : Int) : Prop := (b = -4 ∧ ∀ k : Nat, (k : Int) < p → k < 54 → 0 < sz k → st k = 1) ∨ (0 ≤ b ∧ b ≤ 53 ∧ st b.toNat ≠ 1 ∧ 0 < sz b.toNat ∧ ∀ j : Nat, (j : Int) < p → j < 54 → st j ≠ 1 → 0 < sz j → cn_le (sz b.toNat) (cn_E hd lf rt (hd b.toNat) (lf b.toNat) (rt b.toNat)) (sz j) (cn_E hd lf rt (hd j) (lf j) (rt j)))
theorem cn_bst_0 : cn_bst hd lf rt sz st (-4) 0 := Or.inl ⟨rfl, fun k h _ _ => absurd h (by omega)⟩
theorem cn_bst_b {b p : Int} (h : cn_bst hd lf rt sz st b p) : b = -4 ∨ (0 ≤ b ∧ b ≤ 53) := by
  rcases h with h | h
  · exact Or.inl h.1
  · exact Or.inr ⟨h.1, h.2.1⟩
theorem cn_bst_s {b p : Int} (p0 : 0 ≤ p) (h : cn_bst hd lf rt sz st b p) (n : ¬ (0 < sz p.toNat ∧ st p.toNat ≠ 1)) : cn_bst hd lf rt sz st b (p + 1) := by
  rcases h with ⟨h1, h2⟩ | ⟨h1, h2, h3, h4, h5⟩
  · refine Or.inl ⟨h1, fun k hk h54 hz => ?_⟩
    by_cases e : (k : Int) = p
    · have e2 : p.toNat = k := by omega
      rw [e2] at n
      omega
    · exact h2 k (by omega) h54 hz
  · refine Or.inr ⟨h1, h2, h3, h4, fun j hj h54 hs hz => ?_⟩
    by_cases e : (j : Int) = p
    · have e2 : p.toNat = j := by omega
      rw [e2] at n
      exact absurd ⟨hz, hs⟩ n
    · exact h5 j (by omega) h54 hs hz
theorem cn_bst_n {b p : Int} (p0 : 0 ≤ p) (p1 : p ≤ 53) (h : cn_bst hd lf rt sz st b p) (hz : 0 < sz p.toNat) (hs : st p.toNat ≠ 1) (c : b < 0 ∨ cn_le (sz p.toNat) (cn_E hd lf rt (hd p.toNat) (lf p.toNat) (rt p.toNat)) (sz b.toNat) (cn_E hd lf rt (hd b.toNat) (lf b.toNat) (rt b.toNat))) : cn_bst hd lf rt sz st p (p + 1) := by
  refine Or.inr ⟨p0, p1, hs, hz, fun j hj h54 hsj hzj => ?_⟩
  by_cases e : (j : Int) = p
  · rw [show p.toNat = j by omega]; exact cn_le_rf _ _
  · rcases h with ⟨h1, h2⟩ | ⟨h1, h2, h3, h4, h5⟩
    · exact absurd (h2 j (by omega) h54 hzj) hsj
    · exact cn_le_tr (c.resolve_left (by omega)) (h5 j (by omega) h54 hsj hzj)
theorem cn_bst_o (I : cn_I pf hd lf rt sz st O) {b p : Int} (p0 : 0 ≤ p) (p1 : p ≤ 53) (b0 : 0 ≤ b) (h : cn_bst hd lf rt sz st b p) (c : ¬ cn_le (sz p.toNat) (cn_E hd lf rt (hd p.toNat) (lf p.toNat) (rt p.toNat)) (sz b.toNat) (cn_E hd lf rt (hd b.toNat) (lf b.toNat) (rt b.toNat))) : cn_bst hd lf rt sz st b (p + 1) := by
  rcases h with ⟨h1, h2⟩ | ⟨h1, h2, h3, h4, h5⟩
  · exact absurd b0 (by omega)
  · refine Or.inr ⟨h1, h2, h3, h4, fun j hj h54 hsj hzj => ?_⟩
    by_cases e : (j : Int) = p
    · have e2 : p.toNat = j := by omega
      rw [e2] at c
      refine cn_le_no (fun e1 e40 => ?_) c
      have T := cn_I_T I
      have nj := cn_I_n I h54 hzj
      have nb := cn_I_n I (k := b.toNat) (by omega) h4
      have l1 := cn_len T nj.1.1 (by rw [← nj.1.2.1]; exact e40)
      have l2 := cn_len T nb.1.1 (by rw [← nb.1.2.1]; omega)
      rw [← nj.1.2.1] at l1
      rw [← nb.1.2.1] at l2
      rw [l1, l2, e1]
    · exact h5 j (by omega) h54 hsj hzj
theorem cn_I_mono {O' : Int → Nat → Nat → Prop} (h : cn_I pf hd lf rt sz st O) (m : ∀ f l r, O' f l r → O f l r) : cn_I pf hd lf rt sz st O' := ⟨h.1, h.2.1, fun f l r z => h.2.2.1 f l r (m f l r z), h.2.2.2⟩
end
/-- bits of an answer, put together -/
theorem cn_orq {a s q v : Int} (h : (q = 0 ∧ s = 1 ∧ a = 0) ∨ (q = 1 ∧ s = 2 ∧ 0 ≤ a ∧ a ≤ 1) ∨ (q = 2 ∧ s = 4 ∧ 0 ≤ a ∧ a ≤ 3)) (hv : v = ((a.toNat ||| s.toNat : Nat) : Int)) : v = a + s := by
  rcases h with ⟨_, h2, h3⟩ | ⟨_, h2, h3, h4⟩ | ⟨_, h2, h3, h4⟩
  · subst h2; subst h3; exact hv
  · have c : a = 0 ∨ a = 1 := by omega
    subst h2
    rcases c with c | c <;> (subst c; exact hv)
  · have c : a = 0 ∨ a = 1 ∨ a = 2 ∨ a = 3 := by omega
    subst h2
    rcases c with c | c | c | c <;> (subst c; exact hv)
def cn_oq (v k q w : Int) : Prop := (q = 0 ∧ w = 0) ∨ (q = 1 ∧ w = cn_is (cn_ti k 0) v) ∨ (q = 2 ∧ w = cn_is (cn_ti k 0) v + 2 * cn_is (cn_ti k 1) v) ∨ (q = 3 ∧ w = cn_on v k)
theorem cn_oq_b {v k q w : Int} (h : cn_oq v k q w) (q2 : q ≤ 2) : (q = 0 ∧ w = 0) ∨ (q = 1 ∧ 0 ≤ w ∧ w ≤ 1) ∨ (q = 2 ∧ 0 ≤ w ∧ w ≤ 3) := by
  have a := cn_isx (cn_ti k 0) v
  have b := cn_isx (cn_ti k 1) v
  unfold cn_oq at h
  omega
theorem cn_oq_s {v k q w w' t : Int} (h : cn_oq v k q w) (q0 : 0 ≤ q) (q2 : q ≤ 2) (ht : t = cn_ti k q) (hw : (t = v ∧ ((q = 0 ∧ w' = w + 1) ∨ (q = 1 ∧ w' = w + 2) ∨ (q = 2 ∧ w' = w + 4))) ∨ (t ≠ v ∧ w' = w)) : cn_oq v k (q + 1) w' := by
  have a := cn_isx (cn_ti k 0) v
  have b := cn_isx (cn_ti k 1) v
  have c := cn_isx (cn_ti k 2) v
  unfold cn_oq at h ⊢
  unfold cn_on
  have c3 : q = 0 ∨ q = 1 ∨ q = 2 := by omega
  rcases c3 with e | e | e
  · subst e; omega
  · subst e; omega
  · subst e; omega
theorem cn_oq_3 {v k w : Int} (h : cn_oq v k 3 w) : w = cn_on v k := by
  unfold cn_oq at h
  omega
theorem x_up_row {σ τ : x_S} {r k : Nat} {v : Int} (e : τ = x_up σ r k v) : τ r = y_wK (σ r) k v := by
  funext m
  by_cases c : m = k
  · rw [c, y_wK_e]; exact x_up_at e
  · rw [y_wK_o c]; exact x_up_ne e (fun z => c z.2)
theorem x_up_rw {σ τ : x_S} {r k q : Nat} {v : Int} (e : τ = x_up σ r k v) (h : q ≠ r) : τ q = σ q := funext fun _ => x_up_nr e h
/-- the census under way -/
def cn_ST (σ : x_S) (c : Nat) (A : Nat → Int) (p : Int) (O : Int → Nat → Nat → Prop) (n : Nat) (B : Int) : Prop := cn_I (cn_pf A p) (σ (c + 1)) (σ (c + 2)) (σ (c + 3)) (σ (c + 4)) (σ (c + 6)) O ∧ cn_OD (σ (c + 1)) (σ (c + 2)) (σ (c + 3)) (σ (c + 4)) (σ (c + 6)) (σ (c + 5)) n ∧ cn_WO σ c A p ∧ (∀ k : Nat, k < 54 → σ (c + 6) k = 1 → cn_ON σ c k) ∧ 0 ≤ B ∧ (∀ j, j < 54 → σ (c + 6) j = 1 → σ (c + 4) j ≤ B)
theorem cn_WO_x {σ τ : x_S} {c : Nat} {A : Nat → Int} {p : Int} (h : cn_WO σ c A p) (e9 : τ (c + 9) = σ (c + 9)) (e10 : τ (c + 10) = σ (c + 10)) (e11 : τ (c + 11) = σ (c + 11)) : cn_WO τ c A p := by
  unfold cn_WO at h ⊢
  rw [e9, e10, e11]
  exact h
theorem cn_ON_x {σ τ : x_S} {c : Nat} {x : Int} (h : cn_ON σ c x) (e7 : τ (c + 7) x.toNat = σ (c + 7) x.toNat) (e8 : τ (c + 8) x.toNat = σ (c + 8) x.toNat) : cn_ON τ c x := by
  unfold cn_ON at h ⊢
  rw [e7, e8]
  exact h
theorem cn_ST_mono {σ : x_S} {c : Nat} {A : Nat → Int} {p : Int} {O O' : Int → Nat → Nat → Prop} {n : Nat} {B : Int} (h : cn_ST σ c A p O n B) (m : ∀ f l r, O' f l r → O f l r) : cn_ST σ c A p O' n B := ⟨cn_I_mono h.1 m, h.2⟩
theorem cn_ONx {σ : x_S} {c : Nat} {f x y : Int} (o : cn_ok (fun k => σ (c + 6) k = 1) f x y) (on : ∀ k : Nat, k < 54 → σ (c + 6) k = 1 → cn_ON σ c k) : cn_ON σ c x ∧ cn_ON σ c y := by
  have ok := cn_okx o
  have one : ∀ z : Int, (z = -4 ∨ (0 ≤ z ∧ z < 54 ∧ σ (c + 6) z.toNat = 1)) → cn_ON σ c z := fun z hz => by
    rcases hz with hz | ⟨h1, h2, h3⟩
    · exact Or.inl (by omega)
    · have q := on z.toNat (by omega) h3
      rw [show ((z.toNat : Nat) : Int) = z by omega] at q
      exact q
  obtain ⟨a, b, d, g, i⟩ := o
  constructor
  · by_cases k : 1 ≤ y_ch f
    · exact one x (Or.inr (b k))
    · exact one x (Or.inl (d (by omega)))
  · by_cases k : 2 ≤ y_ch f
    · exact one y (Or.inr (g k))
    · exact one y (Or.inl (i (by omega)))
theorem cn_ST_old {σ : x_S} {c : Nat} {A : Nat → Int} {p : Int} {O : Int → Nat → Nat → Prop} {n : Nat} {B f x y v : Int} (h : cn_ST σ c A p O n B) (hP : y_PI A) (o : cn_ok (fun k => σ (c + 6) k = 1) f x y) (hx : B < 1 + cn_s (σ (c + 4)) x + cn_s (σ (c + 4)) y) (hv : v = cn_pI A p f (x.toNat : Nat) (y.toNat : Nat)) (cs : σ (c + 6) v.toNat = 1 ∨ (0 < σ (c + 4) v.toNat ∧ cn_le (σ (c + 4) v.toNat) (cn_E (σ (c + 1)) (σ (c + 2)) (σ (c + 3)) (σ (c + 1) v.toNat) (σ (c + 2) v.toNat) (σ (c + 3) v.toNat)) (cn_m (1 + cn_s (σ (c + 4)) x + cn_s (σ (c + 4)) y)) (cn_E (σ (c + 1)) (σ (c + 2)) (σ (c + 3)) f x y))) : cn_ST σ c A p (cn_O1 O f x y) n B := by
  have e : cn_pf A p f x.toNat y.toNat = v.toNat := by rw [hv]; rfl
  refine ⟨cn_I_old h.1 o (cn_pf_b hP o.1.1 o.1.2) h.2.2.2.2.2 hx ?_, h.2⟩
  rw [e]
  exact cs
theorem cn_ST_new {σ τ : x_S} {c : Nat} {A : Nat → Int} {p : Int} {O : Int → Nat → Nat → Prop} {n : Nat} {B f x y v : Int} (h : cn_ST σ c A p O n B) (hP : y_PI A) (o : cn_ok (fun k => σ (c + 6) k = 1) f x y) (hx : B < 1 + cn_s (σ (c + 4)) x + cn_s (σ (c + 4)) y) (hv : v = cn_pI A p f (x.toNat : Nat) (y.toNat : Nat)) (hs : σ (c + 6) v.toNat ≠ 1) (cs : σ (c + 4) v.toNat = 0 ∨ ¬ cn_le (σ (c + 4) v.toNat) (cn_E (σ (c + 1)) (σ (c + 2)) (σ (c + 3)) (σ (c + 1) v.toNat) (σ (c + 2) v.toNat) (σ (c + 3) v.toNat)) (cn_m (1 + cn_s (σ (c + 4)) x + cn_s (σ (c + 4)) y)) (cn_E (σ (c + 1)) (σ (c + 2)) (σ (c + 3)) f x y)) (e1 : τ (c + 1) = y_wK (σ (c + 1)) v.toNat f) (e2 : τ (c + 2) = y_wK (σ (c + 2)) v.toNat x) (e3 : τ (c + 3) = y_wK (σ (c + 3)) v.toNat y) (e4 : τ (c + 4) = y_wK (σ (c + 4)) v.toNat (cn_m (1 + cn_s (σ (c + 4)) x + cn_s (σ (c + 4)) y))) (e : ∀ q, c + 5 ≤ q → q ≤ c + 11 → τ q = σ q) : cn_ST τ c A p (cn_O1 O f x y) n B := by
  have ek : cn_pf A p f x.toNat y.toNat = v.toNat := by rw [hv]; rfl
  have hk : v.toNat < 54 := by rw [← ek]; exact cn_pf_b hP o.1.1 o.1.2
  obtain ⟨a, b, d, g, i, j⟩ := h
  unfold cn_ST
  rw [e1, e2, e3, e4, e (c + 5) (by omega) (by omega), e (c + 6) (by omega) (by omega)]
  exact ⟨cn_I_new a o ek hk hs j i hx cs, cn_OD_new a b hs, cn_WO_x d (e _ (by omega) (by omega)) (e _ (by omega) (by omega)) (e _ (by omega) (by omega)), fun k hk hs => cn_ON_x (g k hk hs) (congrFun (e _ (by omega) (by omega)) _) (congrFun (e _ (by omega) (by omega)) _), i, fun k hk hs2 => by
    rw [y_wK_o (fun z => hs (by rw [← z]; exact hs2))]
    exact j k hk hs2⟩
theorem cn_ST_set {σ τ : x_S} {c : Nat} {A : Nat → Int} {p : Int} {O : Int → Nat → Nat → Prop} {n : Nat} {B : Int} (h : cn_ST σ c A p O n B) {u : Nat} (hu : u < 54) (hs : σ (c + 6) u ≠ 1) (hz : 0 < σ (c + 4) u) (hm : ∀ j, j < 54 → σ (c + 6) j ≠ 1 → 0 < σ (c + 4) j → cn_le (σ (c + 4) u) (cn_E (σ (c + 1)) (σ (c + 2)) (σ (c + 3)) (σ (c + 1) u) (σ (c + 2) u) (σ (c + 3) u)) (σ (c + 4) j) (cn_E (σ (c + 1)) (σ (c + 2)) (σ (c + 3)) (σ (c + 1) j) (σ (c + 2) j) (σ (c + 3) j))) (e5 : τ (c + 5) = y_wK (σ (c + 5)) n u) (e6 : τ (c + 6) = y_wK (σ (c + 6)) u 1) (e7 : ∀ m, m ≠ u → τ (c + 7) m = σ (c + 7) m ∧ τ (c + 8) m = σ (c + 8) m) (o7 : τ (c + 7) u = cn_on 1 u ∧ τ (c + 8) u = cn_on 2 u) (e : ∀ q, ((c + 1 ≤ q ∧ q ≤ c + 4) ∨ (c + 9 ≤ q ∧ q ≤ c + 11)) → τ q = σ q) : cn_ST τ c A p O (n + 1) (σ (c + 4) u) := by
  obtain ⟨a, b, d, g, i, j⟩ := h
  unfold cn_ST
  rw [e5, e6, e (c + 1) (by omega), e (c + 2) (by omega), e (c + 3) (by omega), e (c + 4) (by omega)]
  refine ⟨cn_I_set a hu hs hz hm, cn_OD_set a b hu hs hz, cn_WO_x d (e _ (by omega)) (e _ (by omega)) (e _ (by omega)), fun k hk hs2 => ?_, by omega, cn_OD_B a hu hs hz⟩
  by_cases z : k = u
  · rw [z]
    exact Or.inr ⟨o7.1, o7.2⟩
  · rw [y_wK_o z] at hs2
    exact cn_ON_x (g k hk hs2) (e7 k z).1 (e7 k z).2
theorem kx_87_111_b11 {E : q_E} {σ : x_S} {Q : Option q_V → x_S → Prop} {a1 a2 : Int} (p1 : -4 ≤ a1) (p2 : a1 ≤ 53) (p3 : -4 ≤ a2) (p4 : a2 ≤ 53) (C0 : y_CI σ) {pf : Int → Nat → Nat → Nat} {S : Nat → Prop} (T : cn_TS pf S (σ 112) (σ 113) (σ 114) (σ 115)) (tw0 : cn_two S (σ 115) 40 a1 a2) (k1 : cn_lq (cn_LL (σ 112) (σ 113) (σ 114) a1) (cn_LL (σ 112) (σ 113) (σ 114) a2) → Q (some (x_I 1)) σ) (k0 : ¬ cn_lq (cn_LL (σ 112) (σ 113) (σ 114) a1) (cn_LL (σ 112) (σ 113) (σ 114) a2) → Q (some (x_I 0)) σ) : ∀ (N : Nat) (a b d : Int), (40 - d).toNat = N → 0 ≤ d → d ≤ 40 → -4 ≤ a → a ≤ 53 → -4 ≤ b → b ≤ 53 → cn_two S (σ 115) (40 - d) a b → (cn_lq (cn_LL (σ 112) (σ 113) (σ 114) a1) (cn_LL (σ 112) (σ 113) (σ 114) a2) ↔ cn_lq (cn_LL (σ 112) (σ 113) (σ 114) a) (cn_LL (σ 112) (σ 113) (σ 114) b)) → x_G E m_87 Q (t_87 11) [(0, x_R 111), (3, x_I a), (4, x_I b), (5, x_I d)] [] σ := by
  intro N
  induction N using Nat.strongRecOn with
  | ind N ih =>
    intro a b d hN d0 d1 a0 a3 b0 b3 tw hi
    refine x_blk (b := 11) (a_87 E) rfl ?_
    unfold b_87_11
    refine x_iload rfl ?_
    refine x_push 40 rfl ?_
    refine x_icmp_ge (by omega) (by omega) (by omega) (by omega) (fun z1 => ?_) (fun z1 => ?_)
    · skip
      refine x_iload rfl ?_
      refine x_iload rfl ?_
      refine x_icmp_eq (by omega) (by omega) (by omega) (by omega) (fun z2 => ?_) (fun z2 => ?_)
      · skip
        refine x_blk (b := 1) (a_87 E) rfl ?_
        unfold b_87_1
        refine x_push 1 rfl ?_
        refine x_zret (by decide) ?_
        refine k1 (hi.2 ?_)
        rw [cn_two_e T tw (by omega)]
        exact cn_lq_rf _
      · skip
        refine x_iload rfl ?_
        refine x_push 54 rfl ?_
        refine x_cS (fun _ => rfl) (Nat.le_of_ble_eq_true rfl) ?_
        refine sf_2 (by omega) (by omega) (by omega) (by omega) C0 (fun y3 => ?_) (fun y3 => ?_)
        · skip
          refine x_if_eq (by omega) (by omega) (fun z => absurd z (by omega)) (fun z4 => ?_)
          refine x_iload rfl ?_
          refine x_push 54 rfl ?_
          refine x_cS (fun _ => rfl) (Nat.le_of_ble_eq_true rfl) ?_
          refine sf_2 (by omega) (by omega) (by omega) (by omega) C0 (fun y5 => ?_) (fun y5 => ?_)
          · skip
            refine x_if_eq (by omega) (by omega) (fun z => absurd z (by omega)) (fun z6 => ?_)
            refine x_aload rfl ?_
            refine x_getR (r := 111) rfl (by decide) (by decide) rfl ?_
            refine x_iload rfl ?_
            refine x_ialdX y_a112 C0 (by omega) (by omega) (fun v7 v7x v7a v7b => ?_)
            refine x_aload rfl ?_
            refine x_getR (r := 111) rfl (by decide) (by decide) rfl ?_
            refine x_iload rfl ?_
            refine x_ialdX y_a112 C0 (by omega) (by omega) (fun v8 v8x v8a v8b => ?_)
            refine x_icmp_eq (by omega) (by omega) (by omega) (by omega) (fun z9 => ?_) (fun z9 => ?_)
            · skip
              refine x_blk (b := 2) (a_87 E) rfl ?_
              unfold b_87_2
              refine x_aload rfl ?_
              refine x_getR (r := 111) rfl (by decide) (by decide) rfl ?_
              refine x_iload rfl ?_
              refine x_ialdX y_a113 C0 (by omega) (by omega) (fun v10 v10x v10a v10b => ?_)
              refine x_aload rfl ?_
              refine x_getR (r := 111) rfl (by decide) (by decide) rfl ?_
              refine x_iload rfl ?_
              refine x_ialdX y_a113 C0 (by omega) (by omega) (fun v11 v11x v11a v11b => ?_)
              refine x_icmp_ne (by omega) (by omega) (by omega) (by omega) (fun z12 => ?_) (fun z12 => ?_)
              · skip
                refine x_push 1 rfl ?_
                refine x_goto ?_
                refine x_blk (b := 6) (a_87 E) rfl ?_
                unfold b_87_6
                refine x_istore ?_
                refine x_iload rfl ?_
                refine x_if_eq (by omega) (by omega) (fun z => absurd z (by omega)) (fun z13 => ?_)
                refine x_aload rfl ?_
                refine x_getR (r := 111) rfl (by decide) (by decide) rfl ?_
                refine x_iload rfl ?_
                refine x_ialdX y_a114 C0 (by omega) (by omega) (fun v14 v14x v14a v14b => ?_)
                refine x_goto ?_
                refine x_blk (b := 8) (a_87 E) rfl ?_
                unfold b_87_8
                refine x_istore ?_
                refine x_X_lo (lo' := [(0, x_R 111), (3, x_I _), (4, x_I _), (5, x_I _), (6, x_I _), (7, x_I _)]) ⟨rfl, rfl, rfl, rfl, rfl, rfl, trivial⟩ ?_
                refine x_iload rfl ?_
                refine x_if_eq (by omega) (by omega) (fun z => absurd z (by omega)) (fun z15 => ?_)
                refine x_aload rfl ?_
                refine x_getR (r := 111) rfl (by decide) (by decide) rfl ?_
                refine x_iload rfl ?_
                refine x_ialdX y_a114 C0 (by omega) (by omega) (fun v16 v16x v16a v16b => ?_)
                refine x_goto ?_
                refine x_blk (b := 10) (a_87 E) rfl ?_
                unfold b_87_10
                refine x_istore ?_
                refine x_iload rfl ?_
                refine x_istore ?_
                refine x_X_lo (lo' := [(0, x_R 111), (3, x_I _), (4, x_I _), (5, x_I _), (6, x_I _), (7, x_I _)]) ⟨rfl, rfl, rfl, rfl, rfl, rfl, trivial⟩ ?_
                refine x_iinc 1 rfl rfl ?_
                refine x_goto ?_
                refine x_G_lo (lo' := [(0, x_R 111), (3, x_I _), (4, x_I _), (5, x_I _)]) ⟨rfl, rfl, rfl, rfl, trivial⟩ ?_
                have ab : a ≠ b := fun z => by omega
                have e := tw.resolve_left ab
                have oa := cn_okx (T a.toNat (by omega) e.1.2.2.1).1
                have ob := cn_okx (T b.toNat (by omega) e.2.2.2.1).1
                have r := (cn_lq_S T (n := 40 - d) (by omega) ab tw).2.1 (by omega) (by omega)
                refine ih _ (by omega) _ _ _ rfl (by omega) (by omega) (by omega) (by omega) (by omega) (by omega) ?_ ?_
                · rw [v14x, v16x, show 40 - (d + 1) = 40 - d - 1 by omega]; exact r.1
                · rw [v14x, v16x]; exact hi.trans r.2
              · skip
                refine x_blk (b := 5) (a_87 E) rfl ?_
                unfold b_87_5
                refine x_push 0 rfl ?_
                refine x_fall ?_
                refine x_blk (b := 6) (a_87 E) rfl ?_
                unfold b_87_6
                refine x_istore ?_
                refine x_iload rfl ?_
                refine x_if_eq (by omega) (by omega) (fun z17 => ?_) (fun z => absurd (by omega) z)
                refine x_blk (b := 7) (a_87 E) rfl ?_
                unfold b_87_7
                refine x_aload rfl ?_
                refine x_getR (r := 111) rfl (by decide) (by decide) rfl ?_
                refine x_iload rfl ?_
                refine x_ialdX y_a113 C0 (by omega) (by omega) (fun v18 v18x v18a v18b => ?_)
                refine x_fall ?_
                refine x_blk (b := 8) (a_87 E) rfl ?_
                unfold b_87_8
                refine x_istore ?_
                refine x_X_lo (lo' := [(0, x_R 111), (3, x_I _), (4, x_I _), (5, x_I _), (6, x_I _), (7, x_I _)]) ⟨rfl, rfl, rfl, rfl, rfl, rfl, trivial⟩ ?_
                refine x_iload rfl ?_
                refine x_if_eq (by omega) (by omega) (fun z19 => ?_) (fun z => absurd (by omega) z)
                refine x_blk (b := 9) (a_87 E) rfl ?_
                unfold b_87_9
                refine x_aload rfl ?_
                refine x_getR (r := 111) rfl (by decide) (by decide) rfl ?_
                refine x_iload rfl ?_
                refine x_ialdX y_a113 C0 (by omega) (by omega) (fun v20 v20x v20a v20b => ?_)
                refine x_fall ?_
                refine x_blk (b := 10) (a_87 E) rfl ?_
                unfold b_87_10
                refine x_istore ?_
                refine x_iload rfl ?_
                refine x_istore ?_
                refine x_X_lo (lo' := [(0, x_R 111), (3, x_I _), (4, x_I _), (5, x_I _), (6, x_I _), (7, x_I _)]) ⟨rfl, rfl, rfl, rfl, rfl, rfl, trivial⟩ ?_
                refine x_iinc 1 rfl rfl ?_
                refine x_goto ?_
                refine x_G_lo (lo' := [(0, x_R 111), (3, x_I _), (4, x_I _), (5, x_I _)]) ⟨rfl, rfl, rfl, rfl, trivial⟩ ?_
                have ab : a ≠ b := fun z => by omega
                have e := tw.resolve_left ab
                have oa := cn_okx (T a.toNat (by omega) e.1.2.2.1).1
                have ob := cn_okx (T b.toNat (by omega) e.2.2.2.1).1
                have r := (cn_lq_S T (n := 40 - d) (by omega) ab tw).2.2 (by omega) (by omega)
                refine ih _ (by omega) _ _ _ rfl (by omega) (by omega) (by omega) (by omega) (by omega) (by omega) ?_ ?_
                · rw [v18x, v20x, show 40 - (d + 1) = 40 - d - 1 by omega]; exact r.1
                · rw [v18x, v20x]; exact hi.trans r.2
            · skip
              refine x_aload rfl ?_
              refine x_getR (r := 111) rfl (by decide) (by decide) rfl ?_
              refine x_iload rfl ?_
              refine x_ialdX y_a112 C0 (by omega) (by omega) (fun v21 v21x v21a v21b => ?_)
              refine x_aload rfl ?_
              refine x_getR (r := 111) rfl (by decide) (by decide) rfl ?_
              refine x_iload rfl ?_
              refine x_ialdX y_a112 C0 (by omega) (by omega) (fun v22 v22x v22a v22b => ?_)
              refine x_icmp_ge (by omega) (by omega) (by omega) (by omega) (fun z23 => ?_) (fun z23 => ?_)
              · skip
                refine x_push 1 rfl ?_
                refine x_goto ?_
                refine x_blk (b := 4) (a_87 E) rfl ?_
                unfold b_87_4
                refine x_zret (by decide) ?_
                have r := (cn_lq_S T (n := 40 - d) (by omega) (fun z => by omega) tw).1 (by omega)
                exact k1 (hi.2 (r.2 (by omega)))
              · skip
                refine x_blk (b := 3) (a_87 E) rfl ?_
                unfold b_87_3
                refine x_push 0 rfl ?_
                refine x_fall ?_
                refine x_blk (b := 4) (a_87 E) rfl ?_
                unfold b_87_4
                refine x_zret (by decide) ?_
                have r := (cn_lq_S T (n := 40 - d) (by omega) (fun z => by omega) tw).1 (by omega)
                exact k0 (fun z => absurd (r.1 (hi.1 z)) (by omega))
          · skip
            refine x_if_eq (by omega) (by omega) (fun z24 => ?_) (fun z => absurd (by omega) z)
            refine x_blk (b := 1) (a_87 E) rfl ?_
            unfold b_87_1
            refine x_push 1 rfl ?_
            refine x_zret (by decide) ?_
            refine k1 (hi.2 ?_)
            rw [cn_two_e T tw (by omega)]
            exact cn_lq_rf _
        · skip
          refine x_if_eq (by omega) (by omega) (fun z25 => ?_) (fun z => absurd (by omega) z)
          refine x_blk (b := 1) (a_87 E) rfl ?_
          unfold b_87_1
          refine x_push 1 rfl ?_
          refine x_zret (by decide) ?_
          refine k1 (hi.2 ?_)
          rw [cn_two_e T tw (by omega)]
          exact cn_lq_rf _
    · skip
      refine x_blk (b := 1) (a_87 E) rfl ?_
      unfold b_87_1
      refine x_push 1 rfl ?_
      refine x_zret (by decide) ?_
      refine k1 (hi.2 ?_)
      rw [cn_two_e T tw (by omega)]
      exact cn_lq_rf _
theorem kx_87_111 {E : q_E} {σ : x_S} {Q : Option q_V → x_S → Prop} {a1 a2 : Int} (p1 : -4 ≤ a1) (p2 : a1 ≤ 53) (p3 : -4 ≤ a2) (p4 : a2 ≤ 53) (C0 : y_CI σ) {pf : Int → Nat → Nat → Nat} {S : Nat → Prop} (T : cn_TS pf S (σ 112) (σ 113) (σ 114) (σ 115)) (tw0 : cn_two S (σ 115) 40 a1 a2) (k1 : cn_lq (cn_LL (σ 112) (σ 113) (σ 114) a1) (cn_LL (σ 112) (σ 113) (σ 114) a2) → Q (some (x_I 1)) σ) (k0 : ¬ cn_lq (cn_LL (σ 112) (σ 113) (σ 114) a1) (cn_LL (σ 112) (σ 113) (σ 114) a2) → Q (some (x_I 0)) σ) : x_P E 87 [x_R 111, x_I a1, x_I a2] σ Q := by
  refine x_Mt e_87 (h_87 E) (Nat.le_of_ble_eq_true rfl) t_87 rfl ?_
  refine x_blk (b := 0) (a_87 E) rfl ?_
  unfold b_87_0
  refine x_iload rfl ?_
  refine x_istore ?_
  refine x_iload rfl ?_
  refine x_istore ?_
  refine x_X_lo (lo' := [(0, x_R 111), (1, x_I _), (2, x_I _), (3, x_I _), (4, x_I _)]) ⟨rfl, rfl, rfl, rfl, rfl, trivial⟩ ?_
  refine x_push 0 rfl ?_
  refine x_istore ?_
  refine x_fall ?_
  refine x_G_lo (lo' := [(0, x_R 111), (3, x_I _), (4, x_I _), (5, x_I _)]) ⟨rfl, rfl, rfl, rfl, trivial⟩ ?_
  exact kx_87_111_b11 p1 p2 p3 p4 C0 T tw0 k1 k0 _ _ _ 0 rfl (by omega) (by omega) p1 p2 p3 p4 tw0 Iff.rfl
theorem kx_87_124_b11 {E : q_E} {σ : x_S} {Q : Option q_V → x_S → Prop} {a1 a2 : Int} (p1 : -4 ≤ a1) (p2 : a1 ≤ 53) (p3 : -4 ≤ a2) (p4 : a2 ≤ 53) (C0 : y_CI σ) {pf : Int → Nat → Nat → Nat} {S : Nat → Prop} (T : cn_TS pf S (σ 125) (σ 126) (σ 127) (σ 128)) (tw0 : cn_two S (σ 128) 40 a1 a2) (k1 : cn_lq (cn_LL (σ 125) (σ 126) (σ 127) a1) (cn_LL (σ 125) (σ 126) (σ 127) a2) → Q (some (x_I 1)) σ) (k0 : ¬ cn_lq (cn_LL (σ 125) (σ 126) (σ 127) a1) (cn_LL (σ 125) (σ 126) (σ 127) a2) → Q (some (x_I 0)) σ) : ∀ (N : Nat) (a b d : Int), (40 - d).toNat = N → 0 ≤ d → d ≤ 40 → -4 ≤ a → a ≤ 53 → -4 ≤ b → b ≤ 53 → cn_two S (σ 128) (40 - d) a b → (cn_lq (cn_LL (σ 125) (σ 126) (σ 127) a1) (cn_LL (σ 125) (σ 126) (σ 127) a2) ↔ cn_lq (cn_LL (σ 125) (σ 126) (σ 127) a) (cn_LL (σ 125) (σ 126) (σ 127) b)) → x_G E m_87 Q (t_87 11) [(0, x_R 124), (3, x_I a), (4, x_I b), (5, x_I d)] [] σ := by
  intro N
  induction N using Nat.strongRecOn with
  | ind N ih =>
    intro a b d hN d0 d1 a0 a3 b0 b3 tw hi
    refine x_blk (b := 11) (a_87 E) rfl ?_
    unfold b_87_11
    refine x_iload rfl ?_
    refine x_push 40 rfl ?_
    refine x_icmp_ge (by omega) (by omega) (by omega) (by omega) (fun z1 => ?_) (fun z1 => ?_)
    · skip
      refine x_iload rfl ?_
      refine x_iload rfl ?_
      refine x_icmp_eq (by omega) (by omega) (by omega) (by omega) (fun z2 => ?_) (fun z2 => ?_)
      · skip
        refine x_blk (b := 1) (a_87 E) rfl ?_
        unfold b_87_1
        refine x_push 1 rfl ?_
        refine x_zret (by decide) ?_
        refine k1 (hi.2 ?_)
        rw [cn_two_e T tw (by omega)]
        exact cn_lq_rf _
      · skip
        refine x_iload rfl ?_
        refine x_push 54 rfl ?_
        refine x_cS (fun _ => rfl) (Nat.le_of_ble_eq_true rfl) ?_
        refine sf_2 (by omega) (by omega) (by omega) (by omega) C0 (fun y3 => ?_) (fun y3 => ?_)
        · skip
          refine x_if_eq (by omega) (by omega) (fun z => absurd z (by omega)) (fun z4 => ?_)
          refine x_iload rfl ?_
          refine x_push 54 rfl ?_
          refine x_cS (fun _ => rfl) (Nat.le_of_ble_eq_true rfl) ?_
          refine sf_2 (by omega) (by omega) (by omega) (by omega) C0 (fun y5 => ?_) (fun y5 => ?_)
          · skip
            refine x_if_eq (by omega) (by omega) (fun z => absurd z (by omega)) (fun z6 => ?_)
            refine x_aload rfl ?_
            refine x_getR (r := 124) rfl (by decide) (by decide) rfl ?_
            refine x_iload rfl ?_
            refine x_ialdX y_a125 C0 (by omega) (by omega) (fun v7 v7x v7a v7b => ?_)
            refine x_aload rfl ?_
            refine x_getR (r := 124) rfl (by decide) (by decide) rfl ?_
            refine x_iload rfl ?_
            refine x_ialdX y_a125 C0 (by omega) (by omega) (fun v8 v8x v8a v8b => ?_)
            refine x_icmp_eq (by omega) (by omega) (by omega) (by omega) (fun z9 => ?_) (fun z9 => ?_)
            · skip
              refine x_blk (b := 2) (a_87 E) rfl ?_
              unfold b_87_2
              refine x_aload rfl ?_
              refine x_getR (r := 124) rfl (by decide) (by decide) rfl ?_
              refine x_iload rfl ?_
              refine x_ialdX y_a126 C0 (by omega) (by omega) (fun v10 v10x v10a v10b => ?_)
              refine x_aload rfl ?_
              refine x_getR (r := 124) rfl (by decide) (by decide) rfl ?_
              refine x_iload rfl ?_
              refine x_ialdX y_a126 C0 (by omega) (by omega) (fun v11 v11x v11a v11b => ?_)
              refine x_icmp_ne (by omega) (by omega) (by omega) (by omega) (fun z12 => ?_) (fun z12 => ?_)
              · skip
                refine x_push 1 rfl ?_
                refine x_goto ?_
                refine x_blk (b := 6) (a_87 E) rfl ?_
                unfold b_87_6
                refine x_istore ?_
                refine x_iload rfl ?_
                refine x_if_eq (by omega) (by omega) (fun z => absurd z (by omega)) (fun z13 => ?_)
                refine x_aload rfl ?_
                refine x_getR (r := 124) rfl (by decide) (by decide) rfl ?_
                refine x_iload rfl ?_
                refine x_ialdX y_a127 C0 (by omega) (by omega) (fun v14 v14x v14a v14b => ?_)
                refine x_goto ?_
                refine x_blk (b := 8) (a_87 E) rfl ?_
                unfold b_87_8
                refine x_istore ?_
                refine x_X_lo (lo' := [(0, x_R 124), (3, x_I _), (4, x_I _), (5, x_I _), (6, x_I _), (7, x_I _)]) ⟨rfl, rfl, rfl, rfl, rfl, rfl, trivial⟩ ?_
                refine x_iload rfl ?_
                refine x_if_eq (by omega) (by omega) (fun z => absurd z (by omega)) (fun z15 => ?_)
                refine x_aload rfl ?_
                refine x_getR (r := 124) rfl (by decide) (by decide) rfl ?_
                refine x_iload rfl ?_
                refine x_ialdX y_a127 C0 (by omega) (by omega) (fun v16 v16x v16a v16b => ?_)
                refine x_goto ?_
                refine x_blk (b := 10) (a_87 E) rfl ?_
                unfold b_87_10
                refine x_istore ?_
                refine x_iload rfl ?_
                refine x_istore ?_
                refine x_X_lo (lo' := [(0, x_R 124), (3, x_I _), (4, x_I _), (5, x_I _), (6, x_I _), (7, x_I _)]) ⟨rfl, rfl, rfl, rfl, rfl, rfl, trivial⟩ ?_
                refine x_iinc 1 rfl rfl ?_
                refine x_goto ?_
                refine x_G_lo (lo' := [(0, x_R 124), (3, x_I _), (4, x_I _), (5, x_I _)]) ⟨rfl, rfl, rfl, rfl, trivial⟩ ?_
                have ab : a ≠ b := fun z => by omega
                have e := tw.resolve_left ab
                have oa := cn_okx (T a.toNat (by omega) e.1.2.2.1).1
                have ob := cn_okx (T b.toNat (by omega) e.2.2.2.1).1
                have r := (cn_lq_S T (n := 40 - d) (by omega) ab tw).2.1 (by omega) (by omega)
                refine ih _ (by omega) _ _ _ rfl (by omega) (by omega) (by omega) (by omega) (by omega) (by omega) ?_ ?_
                · rw [v14x, v16x, show 40 - (d + 1) = 40 - d - 1 by omega]; exact r.1
                · rw [v14x, v16x]; exact hi.trans r.2
              · skip
                refine x_blk (b := 5) (a_87 E) rfl ?_
                unfold b_87_5
                refine x_push 0 rfl ?_
                refine x_fall ?_
                refine x_blk (b := 6) (a_87 E) rfl ?_
                unfold b_87_6
                refine x_istore ?_
                refine x_iload rfl ?_
                refine x_if_eq (by omega) (by omega) (fun z17 => ?_) (fun z => absurd (by omega) z)
                refine x_blk (b := 7) (a_87 E) rfl ?_
                unfold b_87_7
                refine x_aload rfl ?_
                refine x_getR (r := 124) rfl (by decide) (by decide) rfl ?_
                refine x_iload rfl ?_
                refine x_ialdX y_a126 C0 (by omega) (by omega) (fun v18 v18x v18a v18b => ?_)
                refine x_fall ?_
                refine x_blk (b := 8) (a_87 E) rfl ?_
                unfold b_87_8
                refine x_istore ?_
                refine x_X_lo (lo' := [(0, x_R 124), (3, x_I _), (4, x_I _), (5, x_I _), (6, x_I _), (7, x_I _)]) ⟨rfl, rfl, rfl, rfl, rfl, rfl, trivial⟩ ?_
                refine x_iload rfl ?_
                refine x_if_eq (by omega) (by omega) (fun z19 => ?_) (fun z => absurd (by omega) z)
                refine x_blk (b := 9) (a_87 E) rfl ?_
                unfold b_87_9
                refine x_aload rfl ?_
                refine x_getR (r := 124) rfl (by decide) (by decide) rfl ?_
                refine x_iload rfl ?_
                refine x_ialdX y_a126 C0 (by omega) (by omega) (fun v20 v20x v20a v20b => ?_)
                refine x_fall ?_
                refine x_blk (b := 10) (a_87 E) rfl ?_
                unfold b_87_10
                refine x_istore ?_
                refine x_iload rfl ?_
                refine x_istore ?_
                refine x_X_lo (lo' := [(0, x_R 124), (3, x_I _), (4, x_I _), (5, x_I _), (6, x_I _), (7, x_I _)]) ⟨rfl, rfl, rfl, rfl, rfl, rfl, trivial⟩ ?_
                refine x_iinc 1 rfl rfl ?_
                refine x_goto ?_
                refine x_G_lo (lo' := [(0, x_R 124), (3, x_I _), (4, x_I _), (5, x_I _)]) ⟨rfl, rfl, rfl, rfl, trivial⟩ ?_
                have ab : a ≠ b := fun z => by omega
                have e := tw.resolve_left ab
                have oa := cn_okx (T a.toNat (by omega) e.1.2.2.1).1
                have ob := cn_okx (T b.toNat (by omega) e.2.2.2.1).1
                have r := (cn_lq_S T (n := 40 - d) (by omega) ab tw).2.2 (by omega) (by omega)
                refine ih _ (by omega) _ _ _ rfl (by omega) (by omega) (by omega) (by omega) (by omega) (by omega) ?_ ?_
                · rw [v18x, v20x, show 40 - (d + 1) = 40 - d - 1 by omega]; exact r.1
                · rw [v18x, v20x]; exact hi.trans r.2
            · skip
              refine x_aload rfl ?_
              refine x_getR (r := 124) rfl (by decide) (by decide) rfl ?_
              refine x_iload rfl ?_
              refine x_ialdX y_a125 C0 (by omega) (by omega) (fun v21 v21x v21a v21b => ?_)
              refine x_aload rfl ?_
              refine x_getR (r := 124) rfl (by decide) (by decide) rfl ?_
              refine x_iload rfl ?_
              refine x_ialdX y_a125 C0 (by omega) (by omega) (fun v22 v22x v22a v22b => ?_)
              refine x_icmp_ge (by omega) (by omega) (by omega) (by omega) (fun z23 => ?_) (fun z23 => ?_)
              · skip
                refine x_push 1 rfl ?_
                refine x_goto ?_
                refine x_blk (b := 4) (a_87 E) rfl ?_
                unfold b_87_4
                refine x_zret (by decide) ?_
                have r := (cn_lq_S T (n := 40 - d) (by omega) (fun z => by omega) tw).1 (by omega)
                exact k1 (hi.2 (r.2 (by omega)))
              · skip
                refine x_blk (b := 3) (a_87 E) rfl ?_
                unfold b_87_3
                refine x_push 0 rfl ?_
                refine x_fall ?_
                refine x_blk (b := 4) (a_87 E) rfl ?_
                unfold b_87_4
                refine x_zret (by decide) ?_
                have r := (cn_lq_S T (n := 40 - d) (by omega) (fun z => by omega) tw).1 (by omega)
                exact k0 (fun z => absurd (r.1 (hi.1 z)) (by omega))
          · skip
            refine x_if_eq (by omega) (by omega) (fun z24 => ?_) (fun z => absurd (by omega) z)
            refine x_blk (b := 1) (a_87 E) rfl ?_
            unfold b_87_1
            refine x_push 1 rfl ?_
            refine x_zret (by decide) ?_
            refine k1 (hi.2 ?_)
            rw [cn_two_e T tw (by omega)]
            exact cn_lq_rf _
        · skip
          refine x_if_eq (by omega) (by omega) (fun z25 => ?_) (fun z => absurd (by omega) z)
          refine x_blk (b := 1) (a_87 E) rfl ?_
          unfold b_87_1
          refine x_push 1 rfl ?_
          refine x_zret (by decide) ?_
          refine k1 (hi.2 ?_)
          rw [cn_two_e T tw (by omega)]
          exact cn_lq_rf _
    · skip
      refine x_blk (b := 1) (a_87 E) rfl ?_
      unfold b_87_1
      refine x_push 1 rfl ?_
      refine x_zret (by decide) ?_
      refine k1 (hi.2 ?_)
      rw [cn_two_e T tw (by omega)]
      exact cn_lq_rf _
theorem kx_87_124 {E : q_E} {σ : x_S} {Q : Option q_V → x_S → Prop} {a1 a2 : Int} (p1 : -4 ≤ a1) (p2 : a1 ≤ 53) (p3 : -4 ≤ a2) (p4 : a2 ≤ 53) (C0 : y_CI σ) {pf : Int → Nat → Nat → Nat} {S : Nat → Prop} (T : cn_TS pf S (σ 125) (σ 126) (σ 127) (σ 128)) (tw0 : cn_two S (σ 128) 40 a1 a2) (k1 : cn_lq (cn_LL (σ 125) (σ 126) (σ 127) a1) (cn_LL (σ 125) (σ 126) (σ 127) a2) → Q (some (x_I 1)) σ) (k0 : ¬ cn_lq (cn_LL (σ 125) (σ 126) (σ 127) a1) (cn_LL (σ 125) (σ 126) (σ 127) a2) → Q (some (x_I 0)) σ) : x_P E 87 [x_R 124, x_I a1, x_I a2] σ Q := by
  refine x_Mt e_87 (h_87 E) (Nat.le_of_ble_eq_true rfl) t_87 rfl ?_
  refine x_blk (b := 0) (a_87 E) rfl ?_
  unfold b_87_0
  refine x_iload rfl ?_
  refine x_istore ?_
  refine x_iload rfl ?_
  refine x_istore ?_
  refine x_X_lo (lo' := [(0, x_R 124), (1, x_I _), (2, x_I _), (3, x_I _), (4, x_I _)]) ⟨rfl, rfl, rfl, rfl, rfl, trivial⟩ ?_
  refine x_push 0 rfl ?_
  refine x_istore ?_
  refine x_fall ?_
  refine x_G_lo (lo' := [(0, x_R 124), (3, x_I _), (4, x_I _), (5, x_I _)]) ⟨rfl, rfl, rfl, rfl, trivial⟩ ?_
  exact kx_87_124_b11 p1 p2 p3 p4 C0 T tw0 k1 k0 _ _ _ 0 rfl (by omega) (by omega) p1 p2 p3 p4 tw0 Iff.rfl
theorem kx_50_111 {E : q_E} {σ : x_S} {Q : Option q_V → x_S → Prop} {a1 a2 a3 a4 a5 : Int} (r1 : 0 ≤ a1) (r2 : a1 ≤ 53) (C0 : y_CI σ) {pf : Int → Nat → Nat → Nat} {S : Nat → Prop} (T : cn_TS pf S (σ 112) (σ 113) (σ 114) (σ 115)) (en : cn_en pf S (σ 112) (σ 113) (σ 114) (σ 115) a1.toNat) (o : cn_ok S a2 a3 a4) (s0 : 0 ≤ a5) (s41 : a5 ≤ 41) (e5 : a5 = cn_m (1 + cn_s (σ 115) a3 + cn_s (σ 115) a4)) (k1 : cn_le (σ 115 a1.toNat) (cn_E (σ 112) (σ 113) (σ 114) (σ 112 a1.toNat) (σ 113 a1.toNat) (σ 114 a1.toNat)) a5 (cn_E (σ 112) (σ 113) (σ 114) a2 a3 a4) → Q (some (x_I 1)) σ) (k0 : ¬ cn_le (σ 115 a1.toNat) (cn_E (σ 112) (σ 113) (σ 114) (σ 112 a1.toNat) (σ 113 a1.toNat) (σ 114 a1.toNat)) a5 (cn_E (σ 112) (σ 113) (σ 114) a2 a3 a4) → Q (some (x_I 0)) σ) : x_P E 50 [x_R 111, x_I a1, x_I a2, x_I a3, x_I a4, x_I a5] σ Q := by
  have okx := cn_okx o
  have eno := cn_okx en.1
  have f1 := o.1.1
  have f2 := o.1.2
  have mx := cn_mx (1 + cn_s (σ 115) a3 + cn_s (σ 115) a4)
  refine x_Mt e_50 (h_50 E) (Nat.le_of_ble_eq_true rfl) t_50 rfl ?_
  refine x_blk (b := 0) (a_50 E) rfl ?_
  unfold b_50_0
  refine x_aload rfl ?_
  refine x_getR (r := 111) rfl (by decide) (by decide) rfl ?_
  refine x_iload rfl ?_
  refine x_ialdX y_a115 C0 (by omega) (by omega) (fun v1 v1x v1a v1b => ?_)
  refine x_iload rfl ?_
  refine x_icmp_eq (by omega) (by omega) (by omega) (by omega) (fun z2 => ?_) (fun z2 => ?_)
  · skip
    refine x_blk (b := 1) (a_50 E) rfl ?_
    unfold b_50_1
    refine x_iload rfl ?_
    refine x_push 40 rfl ?_
    refine x_icmp_le (by omega) (by omega) (by omega) (by omega) (fun z3 => ?_) (fun z3 => ?_)
    · skip
      refine x_blk (b := 4) (a_50 E) rfl ?_
      unfold b_50_4
      refine x_aload rfl ?_
      refine x_getR (r := 111) rfl (by decide) (by decide) rfl ?_
      refine x_iload rfl ?_
      refine x_ialdX y_a112 C0 (by omega) (by omega) (fun v4 v4x v4a v4b => ?_)
      refine x_iload rfl ?_
      refine x_icmp_eq (by omega) (by omega) (by omega) (by omega) (fun z5 => ?_) (fun z5 => ?_)
      · skip
        refine x_blk (b := 5) (a_50 E) rfl ?_
        unfold b_50_5
        refine x_aload rfl ?_
        refine x_getR (r := 111) rfl (by decide) (by decide) rfl ?_
        refine x_iload rfl ?_
        refine x_ialdX y_a113 C0 (by omega) (by omega) (fun v6 v6x v6a v6b => ?_)
        refine x_iload rfl ?_
        refine x_icmp_eq (by omega) (by omega) (by omega) (by omega) (fun z7 => ?_) (fun z7 => ?_)
        · skip
          refine x_blk (b := 8) (a_50 E) rfl ?_
          unfold b_50_8
          refine x_aload rfl ?_
          refine x_aload rfl ?_
          refine x_getR (r := 111) rfl (by decide) (by decide) rfl ?_
          refine x_iload rfl ?_
          refine x_ialdX y_a114 C0 (by omega) (by omega) (fun v8 v8x v8a v8b => ?_)
          refine x_iload rfl ?_
          refine x_cV (fun _ => rfl) rfl (by decide) (Nat.le_of_ble_eq_true rfl) ?_
          have be := cn_bef T en o (by omega) (by omega) (by omega)
          refine kx_87_111 (by omega) (by omega) (by omega) (by omega) C0 T (by rw [v8x]; exact be.2.1) (fun y9 => ?_) (fun y9 => ?_)
          · rw [v8x] at y9
            refine x_fall ?_
            refine x_blk (b := 9) (a_50 E) rfl ?_
            unfold b_50_9
            refine x_zret (by decide) ?_
            exact k1 (Or.inr ⟨by omega, Or.inr (be.2.2.2 (Or.inl ⟨by omega, y9⟩))⟩)
          · rw [v8x] at y9
            refine x_fall ?_
            refine x_blk (b := 9) (a_50 E) rfl ?_
            unfold b_50_9
            refine x_zret (by decide) ?_
            refine k0 (fun z => ?_)
            rcases z with z | ⟨_, z | z⟩
            · omega
            · omega
            · rcases be.2.2.1 z with w | w
              · exact y9 w.2
              · exact w.1 (by omega)
        · skip
          refine x_aload rfl ?_
          refine x_aload rfl ?_
          refine x_getR (r := 111) rfl (by decide) (by decide) rfl ?_
          refine x_iload rfl ?_
          refine x_ialdX y_a113 C0 (by omega) (by omega) (fun v10 v10x v10a v10b => ?_)
          refine x_iload rfl ?_
          refine x_cV (fun _ => rfl) rfl (by decide) (Nat.le_of_ble_eq_true rfl) ?_
          have be := cn_bef T en o (by omega) (by omega) (by omega)
          refine kx_87_111 (by omega) (by omega) (by omega) (by omega) C0 T (by rw [v10x]; exact be.1) (fun y11 => ?_) (fun y11 => ?_)
          · rw [v10x] at y11
            refine x_goto ?_
            refine x_blk (b := 9) (a_50 E) rfl ?_
            unfold b_50_9
            refine x_zret (by decide) ?_
            exact k1 (Or.inr ⟨by omega, Or.inr (be.2.2.2 (Or.inr ⟨fun z => by omega, y11⟩))⟩)
          · rw [v10x] at y11
            refine x_goto ?_
            refine x_blk (b := 9) (a_50 E) rfl ?_
            unfold b_50_9
            refine x_zret (by decide) ?_
            refine k0 (fun z => ?_)
            rcases z with z | ⟨_, z | z⟩
            · omega
            · omega
            · rcases be.2.2.1 z with w | w
              · omega
              · exact y11 w.2
      · skip
        refine x_aload rfl ?_
        refine x_getR (r := 111) rfl (by decide) (by decide) rfl ?_
        refine x_iload rfl ?_
        refine x_ialdX y_a112 C0 (by omega) (by omega) (fun v12 v12x v12a v12b => ?_)
        refine x_iload rfl ?_
        refine x_icmp_ge (by omega) (by omega) (by omega) (by omega) (fun z13 => ?_) (fun z13 => ?_)
        · skip
          refine x_push 1 rfl ?_
          refine x_goto ?_
          refine x_blk (b := 7) (a_50 E) rfl ?_
          unfold b_50_7
          refine x_zret (by decide) ?_
          have r := cn_lq_H (f := σ 112 a1.toNat) (g := a2) (X := cn_LL (σ 112) (σ 113) (σ 114) (σ 113 a1.toNat) ++ cn_LL (σ 112) (σ 113) (σ 114) (σ 114 a1.toNat)) (Y := cn_LL (σ 112) (σ 113) (σ 114) a3 ++ cn_LL (σ 112) (σ 113) (σ 114) a4) (fun z => by omega)
          exact k1 (Or.inr ⟨by omega, Or.inr (r.2 (by omega))⟩)
        · skip
          refine x_blk (b := 6) (a_50 E) rfl ?_
          unfold b_50_6
          refine x_push 0 rfl ?_
          refine x_fall ?_
          refine x_blk (b := 7) (a_50 E) rfl ?_
          unfold b_50_7
          refine x_zret (by decide) ?_
          have r := cn_lq_H (f := σ 112 a1.toNat) (g := a2) (X := cn_LL (σ 112) (σ 113) (σ 114) (σ 113 a1.toNat) ++ cn_LL (σ 112) (σ 113) (σ 114) (σ 114 a1.toNat)) (Y := cn_LL (σ 112) (σ 113) (σ 114) a3 ++ cn_LL (σ 112) (σ 113) (σ 114) a4) (fun z => by omega)
          refine k0 (fun z => ?_)
          rcases z with z | ⟨_, z | z⟩
          · omega
          · omega
          · exact absurd (r.1 z) (by omega)
    · skip
      refine x_push 1 rfl ?_
      refine x_zret (by decide) ?_
      exact k1 (Or.inr ⟨by omega, Or.inl (by omega)⟩)
  · skip
    refine x_aload rfl ?_
    refine x_getR (r := 111) rfl (by decide) (by decide) rfl ?_
    refine x_iload rfl ?_
    refine x_ialdX y_a115 C0 (by omega) (by omega) (fun v14 v14x v14a v14b => ?_)
    refine x_iload rfl ?_
    refine x_icmp_ge (by omega) (by omega) (by omega) (by omega) (fun z15 => ?_) (fun z15 => ?_)
    · skip
      refine x_push 1 rfl ?_
      refine x_goto ?_
      refine x_blk (b := 3) (a_50 E) rfl ?_
      unfold b_50_3
      refine x_zret (by decide) ?_
      exact k1 (Or.inl (by omega))
    · skip
      refine x_blk (b := 2) (a_50 E) rfl ?_
      unfold b_50_2
      refine x_push 0 rfl ?_
      refine x_fall ?_
      refine x_blk (b := 3) (a_50 E) rfl ?_
      unfold b_50_3
      refine x_zret (by decide) ?_
      exact k0 (fun z => absurd (cn_le_z z) (by omega))
theorem kx_50_124 {E : q_E} {σ : x_S} {Q : Option q_V → x_S → Prop} {a1 a2 a3 a4 a5 : Int} (r1 : 0 ≤ a1) (r2 : a1 ≤ 53) (C0 : y_CI σ) {pf : Int → Nat → Nat → Nat} {S : Nat → Prop} (T : cn_TS pf S (σ 125) (σ 126) (σ 127) (σ 128)) (en : cn_en pf S (σ 125) (σ 126) (σ 127) (σ 128) a1.toNat) (o : cn_ok S a2 a3 a4) (s0 : 0 ≤ a5) (s41 : a5 ≤ 41) (e5 : a5 = cn_m (1 + cn_s (σ 128) a3 + cn_s (σ 128) a4)) (k1 : cn_le (σ 128 a1.toNat) (cn_E (σ 125) (σ 126) (σ 127) (σ 125 a1.toNat) (σ 126 a1.toNat) (σ 127 a1.toNat)) a5 (cn_E (σ 125) (σ 126) (σ 127) a2 a3 a4) → Q (some (x_I 1)) σ) (k0 : ¬ cn_le (σ 128 a1.toNat) (cn_E (σ 125) (σ 126) (σ 127) (σ 125 a1.toNat) (σ 126 a1.toNat) (σ 127 a1.toNat)) a5 (cn_E (σ 125) (σ 126) (σ 127) a2 a3 a4) → Q (some (x_I 0)) σ) : x_P E 50 [x_R 124, x_I a1, x_I a2, x_I a3, x_I a4, x_I a5] σ Q := by
  have okx := cn_okx o
  have eno := cn_okx en.1
  have f1 := o.1.1
  have f2 := o.1.2
  have mx := cn_mx (1 + cn_s (σ 128) a3 + cn_s (σ 128) a4)
  refine x_Mt e_50 (h_50 E) (Nat.le_of_ble_eq_true rfl) t_50 rfl ?_
  refine x_blk (b := 0) (a_50 E) rfl ?_
  unfold b_50_0
  refine x_aload rfl ?_
  refine x_getR (r := 124) rfl (by decide) (by decide) rfl ?_
  refine x_iload rfl ?_
  refine x_ialdX y_a128 C0 (by omega) (by omega) (fun v1 v1x v1a v1b => ?_)
  refine x_iload rfl ?_
  refine x_icmp_eq (by omega) (by omega) (by omega) (by omega) (fun z2 => ?_) (fun z2 => ?_)
  · skip
    refine x_blk (b := 1) (a_50 E) rfl ?_
    unfold b_50_1
    refine x_iload rfl ?_
    refine x_push 40 rfl ?_
    refine x_icmp_le (by omega) (by omega) (by omega) (by omega) (fun z3 => ?_) (fun z3 => ?_)
    · skip
      refine x_blk (b := 4) (a_50 E) rfl ?_
      unfold b_50_4
      refine x_aload rfl ?_
      refine x_getR (r := 124) rfl (by decide) (by decide) rfl ?_
      refine x_iload rfl ?_
      refine x_ialdX y_a125 C0 (by omega) (by omega) (fun v4 v4x v4a v4b => ?_)
      refine x_iload rfl ?_
      refine x_icmp_eq (by omega) (by omega) (by omega) (by omega) (fun z5 => ?_) (fun z5 => ?_)
      · skip
        refine x_blk (b := 5) (a_50 E) rfl ?_
        unfold b_50_5
        refine x_aload rfl ?_
        refine x_getR (r := 124) rfl (by decide) (by decide) rfl ?_
        refine x_iload rfl ?_
        refine x_ialdX y_a126 C0 (by omega) (by omega) (fun v6 v6x v6a v6b => ?_)
        refine x_iload rfl ?_
        refine x_icmp_eq (by omega) (by omega) (by omega) (by omega) (fun z7 => ?_) (fun z7 => ?_)
        · skip
          refine x_blk (b := 8) (a_50 E) rfl ?_
          unfold b_50_8
          refine x_aload rfl ?_
          refine x_aload rfl ?_
          refine x_getR (r := 124) rfl (by decide) (by decide) rfl ?_
          refine x_iload rfl ?_
          refine x_ialdX y_a127 C0 (by omega) (by omega) (fun v8 v8x v8a v8b => ?_)
          refine x_iload rfl ?_
          refine x_cV (fun _ => rfl) rfl (by decide) (Nat.le_of_ble_eq_true rfl) ?_
          have be := cn_bef T en o (by omega) (by omega) (by omega)
          refine kx_87_124 (by omega) (by omega) (by omega) (by omega) C0 T (by rw [v8x]; exact be.2.1) (fun y9 => ?_) (fun y9 => ?_)
          · rw [v8x] at y9
            refine x_fall ?_
            refine x_blk (b := 9) (a_50 E) rfl ?_
            unfold b_50_9
            refine x_zret (by decide) ?_
            exact k1 (Or.inr ⟨by omega, Or.inr (be.2.2.2 (Or.inl ⟨by omega, y9⟩))⟩)
          · rw [v8x] at y9
            refine x_fall ?_
            refine x_blk (b := 9) (a_50 E) rfl ?_
            unfold b_50_9
            refine x_zret (by decide) ?_
            refine k0 (fun z => ?_)
            rcases z with z | ⟨_, z | z⟩
            · omega
            · omega
            · rcases be.2.2.1 z with w | w
              · exact y9 w.2
              · exact w.1 (by omega)
        · skip
          refine x_aload rfl ?_
          refine x_aload rfl ?_
          refine x_getR (r := 124) rfl (by decide) (by decide) rfl ?_
          refine x_iload rfl ?_
          refine x_ialdX y_a126 C0 (by omega) (by omega) (fun v10 v10x v10a v10b => ?_)
          refine x_iload rfl ?_
          refine x_cV (fun _ => rfl) rfl (by decide) (Nat.le_of_ble_eq_true rfl) ?_
          have be := cn_bef T en o (by omega) (by omega) (by omega)
          refine kx_87_124 (by omega) (by omega) (by omega) (by omega) C0 T (by rw [v10x]; exact be.1) (fun y11 => ?_) (fun y11 => ?_)
          · rw [v10x] at y11
            refine x_goto ?_
            refine x_blk (b := 9) (a_50 E) rfl ?_
            unfold b_50_9
            refine x_zret (by decide) ?_
            exact k1 (Or.inr ⟨by omega, Or.inr (be.2.2.2 (Or.inr ⟨fun z => by omega, y11⟩))⟩)
          · rw [v10x] at y11
            refine x_goto ?_
            refine x_blk (b := 9) (a_50 E) rfl ?_
            unfold b_50_9
            refine x_zret (by decide) ?_
            refine k0 (fun z => ?_)
            rcases z with z | ⟨_, z | z⟩
            · omega
            · omega
            · rcases be.2.2.1 z with w | w
              · omega
              · exact y11 w.2
      · skip
        refine x_aload rfl ?_
        refine x_getR (r := 124) rfl (by decide) (by decide) rfl ?_
        refine x_iload rfl ?_
        refine x_ialdX y_a125 C0 (by omega) (by omega) (fun v12 v12x v12a v12b => ?_)
        refine x_iload rfl ?_
        refine x_icmp_ge (by omega) (by omega) (by omega) (by omega) (fun z13 => ?_) (fun z13 => ?_)
        · skip
          refine x_push 1 rfl ?_
          refine x_goto ?_
          refine x_blk (b := 7) (a_50 E) rfl ?_
          unfold b_50_7
          refine x_zret (by decide) ?_
          have r := cn_lq_H (f := σ 125 a1.toNat) (g := a2) (X := cn_LL (σ 125) (σ 126) (σ 127) (σ 126 a1.toNat) ++ cn_LL (σ 125) (σ 126) (σ 127) (σ 127 a1.toNat)) (Y := cn_LL (σ 125) (σ 126) (σ 127) a3 ++ cn_LL (σ 125) (σ 126) (σ 127) a4) (fun z => by omega)
          exact k1 (Or.inr ⟨by omega, Or.inr (r.2 (by omega))⟩)
        · skip
          refine x_blk (b := 6) (a_50 E) rfl ?_
          unfold b_50_6
          refine x_push 0 rfl ?_
          refine x_fall ?_
          refine x_blk (b := 7) (a_50 E) rfl ?_
          unfold b_50_7
          refine x_zret (by decide) ?_
          have r := cn_lq_H (f := σ 125 a1.toNat) (g := a2) (X := cn_LL (σ 125) (σ 126) (σ 127) (σ 126 a1.toNat) ++ cn_LL (σ 125) (σ 126) (σ 127) (σ 127 a1.toNat)) (Y := cn_LL (σ 125) (σ 126) (σ 127) a3 ++ cn_LL (σ 125) (σ 126) (σ 127) a4) (fun z => by omega)
          refine k0 (fun z => ?_)
          rcases z with z | ⟨_, z | z⟩
          · omega
          · omega
          · exact absurd (r.1 z) (by omega)
    · skip
      refine x_push 1 rfl ?_
      refine x_zret (by decide) ?_
      exact k1 (Or.inr ⟨by omega, Or.inl (by omega)⟩)
  · skip
    refine x_aload rfl ?_
    refine x_getR (r := 124) rfl (by decide) (by decide) rfl ?_
    refine x_iload rfl ?_
    refine x_ialdX y_a128 C0 (by omega) (by omega) (fun v14 v14x v14a v14b => ?_)
    refine x_iload rfl ?_
    refine x_icmp_ge (by omega) (by omega) (by omega) (by omega) (fun z15 => ?_) (fun z15 => ?_)
    · skip
      refine x_push 1 rfl ?_
      refine x_goto ?_
      refine x_blk (b := 3) (a_50 E) rfl ?_
      unfold b_50_3
      refine x_zret (by decide) ?_
      exact k1 (Or.inl (by omega))
    · skip
      refine x_blk (b := 2) (a_50 E) rfl ?_
      unfold b_50_2
      refine x_push 0 rfl ?_
      refine x_fall ?_
      refine x_blk (b := 3) (a_50 E) rfl ?_
      unfold b_50_3
      refine x_zret (by decide) ?_
      exact k0 (fun z => absurd (cn_le_z z) (by omega))
theorem kx_70_111_b4 {E : q_E} {σ : x_S} {Q : Option q_V → x_S → Prop} (C0 : y_CI σ) {pf : Int → Nat → Nat → Nat} {O : Int → Nat → Nat → Prop} (I : cn_I pf (σ 112) (σ 113) (σ 114) (σ 115) (σ 117) O) (kN : (∀ k : Nat, k < 54 → 0 < σ 115 k → σ 117 k = 1) → Q (some (x_I (-4))) σ) (kS : ∀ v : Int, 0 ≤ v → v ≤ 53 → σ 117 v.toNat ≠ 1 → 0 < σ 115 v.toNat → (∀ j : Nat, j < 54 → σ 117 j ≠ 1 → 0 < σ 115 j → cn_le (σ 115 v.toNat) (cn_E (σ 112) (σ 113) (σ 114) (σ 112 v.toNat) (σ 113 v.toNat) (σ 114 v.toNat)) (σ 115 j) (cn_E (σ 112) (σ 113) (σ 114) (σ 112 j) (σ 113 j) (σ 114 j))) → Q (some (x_I v)) σ) : ∀ (N : Nat) (b p : Int), (54 - p).toNat = N → 0 ≤ p → p ≤ 54 → -4 ≤ b → b ≤ 53 → cn_bst (σ 112) (σ 113) (σ 114) (σ 115) (σ 117) b p → x_G E m_70 Q (t_70 4) [(0, x_R 111), (1, x_I b), (2, x_I p)] [] σ := by
  intro N
  induction N using Nat.strongRecOn with
  | ind N ih =>
    intro b p hN p0 p1 b0 b1 bs
    have bb := cn_bst_b bs
    refine x_blk (b := 4) (a_70 E) rfl ?_
    unfold b_70_4
    refine x_iload rfl ?_
    refine x_push 54 rfl ?_
    refine x_icmp_ge (by omega) (by omega) (by omega) (by omega) (fun z1 => ?_) (fun z1 => ?_)
    · skip
      refine x_aload rfl ?_
      refine x_getR (r := 111) rfl (by decide) (by decide) rfl ?_
      refine x_iload rfl ?_
      refine x_ialdX y_a115 C0 (by omega) (by omega) (fun v2 v2x v2a v2b => ?_)
      refine x_if_le (by omega) (by omega) (fun z3 => ?_) (fun z3 => ?_)
      · skip
        refine x_blk (b := 2) (a_70 E) rfl ?_
        unfold b_70_2
        refine x_iinc 1 rfl rfl ?_
        refine x_goto ?_
        refine x_G_lo (lo' := [(0, x_R 111), (1, x_I _), (2, x_I _)]) ⟨rfl, rfl, rfl, trivial⟩ ?_
        exact ih _ (by omega) _ _ rfl (by omega) (by omega) (by omega) (by omega) (cn_bst_s (by omega) bs (fun z => by omega))
      · skip
        refine x_aload rfl ?_
        refine x_getR (r := 111) rfl (by decide) (by decide) rfl ?_
        refine x_iload rfl ?_
        refine x_aldX y_a117 C0 (by omega) (by omega) (fun v4 v4x v4a v4b => ?_)
        refine x_if_ne (by omega) (by omega) (fun z5 => ?_) (fun z5 => ?_)
        · skip
          refine x_iload rfl ?_
          refine x_if_lt (by omega) (by omega) (fun z6 => ?_) (fun z6 => ?_)
          · skip
            refine x_blk (b := 3) (a_70 E) rfl ?_
            unfold b_70_3
            refine x_iload rfl ?_
            refine x_istore ?_
            refine x_fall ?_
            refine x_blk (b := 2) (a_70 E) rfl ?_
            unfold b_70_2
            refine x_iinc 1 rfl rfl ?_
            refine x_X_lo (lo' := [(0, x_R 111), (1, x_I _), (2, x_I _)]) ⟨rfl, rfl, rfl, trivial⟩ ?_
            refine x_goto ?_
            refine x_G_lo (lo' := [(0, x_R 111), (1, x_I _), (2, x_I _)]) ⟨rfl, rfl, rfl, trivial⟩ ?_
            exact ih _ (by omega) _ _ rfl (by omega) (by omega) (by omega) (by omega) (cn_bst_n (by omega) (by omega) bs (by omega) (fun z => by omega) (Or.inl (by omega)))
          · skip
            refine x_aload rfl ?_
            refine x_iload rfl ?_
            refine x_aload rfl ?_
            refine x_getR (r := 111) rfl (by decide) (by decide) rfl ?_
            refine x_iload rfl ?_
            refine x_ialdX y_a112 C0 (by omega) (by omega) (fun v7 v7x v7a v7b => ?_)
            refine x_aload rfl ?_
            refine x_getR (r := 111) rfl (by decide) (by decide) rfl ?_
            refine x_iload rfl ?_
            refine x_ialdX y_a113 C0 (by omega) (by omega) (fun v8 v8x v8a v8b => ?_)
            refine x_aload rfl ?_
            refine x_getR (r := 111) rfl (by decide) (by decide) rfl ?_
            refine x_iload rfl ?_
            refine x_ialdX y_a114 C0 (by omega) (by omega) (fun v9 v9x v9a v9b => ?_)
            refine x_aload rfl ?_
            refine x_getR (r := 111) rfl (by decide) (by decide) rfl ?_
            refine x_iload rfl ?_
            refine x_ialdX y_a115 C0 (by omega) (by omega) (fun v10 v10x v10a v10b => ?_)
            refine x_cV (fun _ => rfl) rfl (by decide) (Nat.le_of_ble_eq_true rfl) ?_
            have nb := cn_I_n I (k := b.toNat) (by omega) (by rcases bs with bs | bs; exact absurd bs.1 (by omega); exact bs.2.2.2.1)
            have np := cn_I_n I (k := p.toNat) (by omega) (by omega)
            refine kx_50_111 (by omega) (by omega) C0 (cn_I_T I) np.1 (by rw [v7x, v8x, v9x]; exact nb.1.1) (by omega) (by omega) (by rw [v10x, v8x, v9x]; exact nb.1.2.1) (fun y11 => ?_) (fun y11 => ?_)
            · rw [v7x, v8x, v9x, v10x] at y11
              refine x_if_eq (by omega) (by omega) (fun z => absurd z (by omega)) (fun z12 => ?_)
              refine x_fall ?_
              refine x_blk (b := 3) (a_70 E) rfl ?_
              unfold b_70_3
              refine x_iload rfl ?_
              refine x_istore ?_
              refine x_fall ?_
              refine x_blk (b := 2) (a_70 E) rfl ?_
              unfold b_70_2
              refine x_iinc 1 rfl rfl ?_
              refine x_X_lo (lo' := [(0, x_R 111), (1, x_I _), (2, x_I _)]) ⟨rfl, rfl, rfl, trivial⟩ ?_
              refine x_goto ?_
              refine x_G_lo (lo' := [(0, x_R 111), (1, x_I _), (2, x_I _)]) ⟨rfl, rfl, rfl, trivial⟩ ?_
              exact ih _ (by omega) _ _ rfl (by omega) (by omega) (by omega) (by omega) (cn_bst_n (by omega) (by omega) bs (by omega) (fun z => by omega) (Or.inr y11))
            · rw [v7x, v8x, v9x, v10x] at y11
              refine x_if_eq (by omega) (by omega) (fun z13 => ?_) (fun z => absurd (by omega) z)
              refine x_blk (b := 2) (a_70 E) rfl ?_
              unfold b_70_2
              refine x_iinc 1 rfl rfl ?_
              refine x_goto ?_
              refine x_G_lo (lo' := [(0, x_R 111), (1, x_I _), (2, x_I _)]) ⟨rfl, rfl, rfl, trivial⟩ ?_
              exact ih _ (by omega) _ _ rfl (by omega) (by omega) (by omega) (by omega) (cn_bst_o I (by omega) (by omega) (by omega) bs y11)
        · skip
          refine x_blk (b := 2) (a_70 E) rfl ?_
          unfold b_70_2
          refine x_iinc 1 rfl rfl ?_
          refine x_goto ?_
          refine x_G_lo (lo' := [(0, x_R 111), (1, x_I _), (2, x_I _)]) ⟨rfl, rfl, rfl, trivial⟩ ?_
          exact ih _ (by omega) _ _ rfl (by omega) (by omega) (by omega) (by omega) (cn_bst_s (by omega) bs (fun z => by omega))
    · skip
      refine x_blk (b := 1) (a_70 E) rfl ?_
      unfold b_70_1
      refine x_iload rfl ?_
      refine x_iret ?_
      rcases bs with ⟨q1, q2⟩ | ⟨q1, q2, q3, q4, q5⟩
      · subst q1; exact kN (fun k hk hz => q2 k (by omega) hk hz)
      · exact kS b q1 q2 q3 q4 (fun j hj hs hz => q5 j (by omega) hj hs hz)
theorem kx_70_111 {E : q_E} {σ : x_S} {Q : Option q_V → x_S → Prop} (C0 : y_CI σ) {pf : Int → Nat → Nat → Nat} {O : Int → Nat → Nat → Prop} (I : cn_I pf (σ 112) (σ 113) (σ 114) (σ 115) (σ 117) O) (kN : (∀ k : Nat, k < 54 → 0 < σ 115 k → σ 117 k = 1) → Q (some (x_I (-4))) σ) (kS : ∀ v : Int, 0 ≤ v → v ≤ 53 → σ 117 v.toNat ≠ 1 → 0 < σ 115 v.toNat → (∀ j : Nat, j < 54 → σ 117 j ≠ 1 → 0 < σ 115 j → cn_le (σ 115 v.toNat) (cn_E (σ 112) (σ 113) (σ 114) (σ 112 v.toNat) (σ 113 v.toNat) (σ 114 v.toNat)) (σ 115 j) (cn_E (σ 112) (σ 113) (σ 114) (σ 112 j) (σ 113 j) (σ 114 j))) → Q (some (x_I v)) σ) : x_P E 70 [x_R 111] σ Q := by
  refine x_Mt e_70 (h_70 E) (Nat.le_of_ble_eq_true rfl) t_70 rfl ?_
  refine x_blk (b := 0) (a_70 E) rfl ?_
  unfold b_70_0
  refine x_push (-4) rfl ?_
  refine x_istore ?_
  refine x_push 0 rfl ?_
  refine x_istore ?_
  refine x_X_lo (lo' := [(0, x_R 111), (1, x_I _), (2, x_I _)]) ⟨rfl, rfl, rfl, trivial⟩ ?_
  refine x_fall ?_
  refine x_G_lo (lo' := [(0, x_R 111), (1, x_I _), (2, x_I _)]) ⟨rfl, rfl, rfl, trivial⟩ ?_
  exact kx_70_111_b4 C0 I kN kS _ _ 0 rfl (by omega) (by omega) (by omega) (by omega) cn_bst_0
theorem kx_70_124_b4 {E : q_E} {σ : x_S} {Q : Option q_V → x_S → Prop} (C0 : y_CI σ) {pf : Int → Nat → Nat → Nat} {O : Int → Nat → Nat → Prop} (I : cn_I pf (σ 125) (σ 126) (σ 127) (σ 128) (σ 130) O) (kN : (∀ k : Nat, k < 54 → 0 < σ 128 k → σ 130 k = 1) → Q (some (x_I (-4))) σ) (kS : ∀ v : Int, 0 ≤ v → v ≤ 53 → σ 130 v.toNat ≠ 1 → 0 < σ 128 v.toNat → (∀ j : Nat, j < 54 → σ 130 j ≠ 1 → 0 < σ 128 j → cn_le (σ 128 v.toNat) (cn_E (σ 125) (σ 126) (σ 127) (σ 125 v.toNat) (σ 126 v.toNat) (σ 127 v.toNat)) (σ 128 j) (cn_E (σ 125) (σ 126) (σ 127) (σ 125 j) (σ 126 j) (σ 127 j))) → Q (some (x_I v)) σ) : ∀ (N : Nat) (b p : Int), (54 - p).toNat = N → 0 ≤ p → p ≤ 54 → -4 ≤ b → b ≤ 53 → cn_bst (σ 125) (σ 126) (σ 127) (σ 128) (σ 130) b p → x_G E m_70 Q (t_70 4) [(0, x_R 124), (1, x_I b), (2, x_I p)] [] σ := by
  intro N
  induction N using Nat.strongRecOn with
  | ind N ih =>
    intro b p hN p0 p1 b0 b1 bs
    have bb := cn_bst_b bs
    refine x_blk (b := 4) (a_70 E) rfl ?_
    unfold b_70_4
    refine x_iload rfl ?_
    refine x_push 54 rfl ?_
    refine x_icmp_ge (by omega) (by omega) (by omega) (by omega) (fun z1 => ?_) (fun z1 => ?_)
    · skip
      refine x_aload rfl ?_
      refine x_getR (r := 124) rfl (by decide) (by decide) rfl ?_
      refine x_iload rfl ?_
      refine x_ialdX y_a128 C0 (by omega) (by omega) (fun v2 v2x v2a v2b => ?_)
      refine x_if_le (by omega) (by omega) (fun z3 => ?_) (fun z3 => ?_)
      · skip
        refine x_blk (b := 2) (a_70 E) rfl ?_
        unfold b_70_2
        refine x_iinc 1 rfl rfl ?_
        refine x_goto ?_
        refine x_G_lo (lo' := [(0, x_R 124), (1, x_I _), (2, x_I _)]) ⟨rfl, rfl, rfl, trivial⟩ ?_
        exact ih _ (by omega) _ _ rfl (by omega) (by omega) (by omega) (by omega) (cn_bst_s (by omega) bs (fun z => by omega))
      · skip
        refine x_aload rfl ?_
        refine x_getR (r := 124) rfl (by decide) (by decide) rfl ?_
        refine x_iload rfl ?_
        refine x_aldX y_a130 C0 (by omega) (by omega) (fun v4 v4x v4a v4b => ?_)
        refine x_if_ne (by omega) (by omega) (fun z5 => ?_) (fun z5 => ?_)
        · skip
          refine x_iload rfl ?_
          refine x_if_lt (by omega) (by omega) (fun z6 => ?_) (fun z6 => ?_)
          · skip
            refine x_blk (b := 3) (a_70 E) rfl ?_
            unfold b_70_3
            refine x_iload rfl ?_
            refine x_istore ?_
            refine x_fall ?_
            refine x_blk (b := 2) (a_70 E) rfl ?_
            unfold b_70_2
            refine x_iinc 1 rfl rfl ?_
            refine x_X_lo (lo' := [(0, x_R 124), (1, x_I _), (2, x_I _)]) ⟨rfl, rfl, rfl, trivial⟩ ?_
            refine x_goto ?_
            refine x_G_lo (lo' := [(0, x_R 124), (1, x_I _), (2, x_I _)]) ⟨rfl, rfl, rfl, trivial⟩ ?_
            exact ih _ (by omega) _ _ rfl (by omega) (by omega) (by omega) (by omega) (cn_bst_n (by omega) (by omega) bs (by omega) (fun z => by omega) (Or.inl (by omega)))
          · skip
            refine x_aload rfl ?_
            refine x_iload rfl ?_
            refine x_aload rfl ?_
            refine x_getR (r := 124) rfl (by decide) (by decide) rfl ?_
            refine x_iload rfl ?_
            refine x_ialdX y_a125 C0 (by omega) (by omega) (fun v7 v7x v7a v7b => ?_)
            refine x_aload rfl ?_
            refine x_getR (r := 124) rfl (by decide) (by decide) rfl ?_
            refine x_iload rfl ?_
            refine x_ialdX y_a126 C0 (by omega) (by omega) (fun v8 v8x v8a v8b => ?_)
            refine x_aload rfl ?_
            refine x_getR (r := 124) rfl (by decide) (by decide) rfl ?_
            refine x_iload rfl ?_
            refine x_ialdX y_a127 C0 (by omega) (by omega) (fun v9 v9x v9a v9b => ?_)
            refine x_aload rfl ?_
            refine x_getR (r := 124) rfl (by decide) (by decide) rfl ?_
            refine x_iload rfl ?_
            refine x_ialdX y_a128 C0 (by omega) (by omega) (fun v10 v10x v10a v10b => ?_)
            refine x_cV (fun _ => rfl) rfl (by decide) (Nat.le_of_ble_eq_true rfl) ?_
            have nb := cn_I_n I (k := b.toNat) (by omega) (by rcases bs with bs | bs; exact absurd bs.1 (by omega); exact bs.2.2.2.1)
            have np := cn_I_n I (k := p.toNat) (by omega) (by omega)
            refine kx_50_124 (by omega) (by omega) C0 (cn_I_T I) np.1 (by rw [v7x, v8x, v9x]; exact nb.1.1) (by omega) (by omega) (by rw [v10x, v8x, v9x]; exact nb.1.2.1) (fun y11 => ?_) (fun y11 => ?_)
            · rw [v7x, v8x, v9x, v10x] at y11
              refine x_if_eq (by omega) (by omega) (fun z => absurd z (by omega)) (fun z12 => ?_)
              refine x_fall ?_
              refine x_blk (b := 3) (a_70 E) rfl ?_
              unfold b_70_3
              refine x_iload rfl ?_
              refine x_istore ?_
              refine x_fall ?_
              refine x_blk (b := 2) (a_70 E) rfl ?_
              unfold b_70_2
              refine x_iinc 1 rfl rfl ?_
              refine x_X_lo (lo' := [(0, x_R 124), (1, x_I _), (2, x_I _)]) ⟨rfl, rfl, rfl, trivial⟩ ?_
              refine x_goto ?_
              refine x_G_lo (lo' := [(0, x_R 124), (1, x_I _), (2, x_I _)]) ⟨rfl, rfl, rfl, trivial⟩ ?_
              exact ih _ (by omega) _ _ rfl (by omega) (by omega) (by omega) (by omega) (cn_bst_n (by omega) (by omega) bs (by omega) (fun z => by omega) (Or.inr y11))
            · rw [v7x, v8x, v9x, v10x] at y11
              refine x_if_eq (by omega) (by omega) (fun z13 => ?_) (fun z => absurd (by omega) z)
              refine x_blk (b := 2) (a_70 E) rfl ?_
              unfold b_70_2
              refine x_iinc 1 rfl rfl ?_
              refine x_goto ?_
              refine x_G_lo (lo' := [(0, x_R 124), (1, x_I _), (2, x_I _)]) ⟨rfl, rfl, rfl, trivial⟩ ?_
              exact ih _ (by omega) _ _ rfl (by omega) (by omega) (by omega) (by omega) (cn_bst_o I (by omega) (by omega) (by omega) bs y11)
        · skip
          refine x_blk (b := 2) (a_70 E) rfl ?_
          unfold b_70_2
          refine x_iinc 1 rfl rfl ?_
          refine x_goto ?_
          refine x_G_lo (lo' := [(0, x_R 124), (1, x_I _), (2, x_I _)]) ⟨rfl, rfl, rfl, trivial⟩ ?_
          exact ih _ (by omega) _ _ rfl (by omega) (by omega) (by omega) (by omega) (cn_bst_s (by omega) bs (fun z => by omega))
    · skip
      refine x_blk (b := 1) (a_70 E) rfl ?_
      unfold b_70_1
      refine x_iload rfl ?_
      refine x_iret ?_
      rcases bs with ⟨q1, q2⟩ | ⟨q1, q2, q3, q4, q5⟩
      · subst q1; exact kN (fun k hk hz => q2 k (by omega) hk hz)
      · exact kS b q1 q2 q3 q4 (fun j hj hs hz => q5 j (by omega) hj hs hz)
theorem kx_70_124 {E : q_E} {σ : x_S} {Q : Option q_V → x_S → Prop} (C0 : y_CI σ) {pf : Int → Nat → Nat → Nat} {O : Int → Nat → Nat → Prop} (I : cn_I pf (σ 125) (σ 126) (σ 127) (σ 128) (σ 130) O) (kN : (∀ k : Nat, k < 54 → 0 < σ 128 k → σ 130 k = 1) → Q (some (x_I (-4))) σ) (kS : ∀ v : Int, 0 ≤ v → v ≤ 53 → σ 130 v.toNat ≠ 1 → 0 < σ 128 v.toNat → (∀ j : Nat, j < 54 → σ 130 j ≠ 1 → 0 < σ 128 j → cn_le (σ 128 v.toNat) (cn_E (σ 125) (σ 126) (σ 127) (σ 125 v.toNat) (σ 126 v.toNat) (σ 127 v.toNat)) (σ 128 j) (cn_E (σ 125) (σ 126) (σ 127) (σ 125 j) (σ 126 j) (σ 127 j))) → Q (some (x_I v)) σ) : x_P E 70 [x_R 124] σ Q := by
  refine x_Mt e_70 (h_70 E) (Nat.le_of_ble_eq_true rfl) t_70 rfl ?_
  refine x_blk (b := 0) (a_70 E) rfl ?_
  unfold b_70_0
  refine x_push (-4) rfl ?_
  refine x_istore ?_
  refine x_push 0 rfl ?_
  refine x_istore ?_
  refine x_X_lo (lo' := [(0, x_R 124), (1, x_I _), (2, x_I _)]) ⟨rfl, rfl, rfl, trivial⟩ ?_
  refine x_fall ?_
  refine x_G_lo (lo' := [(0, x_R 124), (1, x_I _), (2, x_I _)]) ⟨rfl, rfl, rfl, trivial⟩ ?_
  exact kx_70_124_b4 C0 I kN kS _ _ 0 rfl (by omega) (by omega) (by omega) (by omega) cn_bst_0
theorem kx_39_111_4 {E : q_E} {σ : x_S} {Q : Option q_V → x_S → Prop} {a2 a3 a4 : Int} (C0 : y_CI σ) {A : Nat → Int} (hP : y_PI A) (hA : y_AG (y_cv σ 4) A) {O : Int → Nat → Nat → Prop} {n : Nat} {B : Int} (hst : cn_ST σ 111 A 0 O n B) (ok : cn_ok (fun k => σ 117 k = 1) a2 a3 a4) (hx : B < 1 + cn_s (σ 115) a3 + cn_s (σ 115) a4) (k : ∀ τ, y_CI τ → (∀ q m, ¬ (112 ≤ q ∧ q ≤ 115) → τ q m = σ q m) → (∀ j, σ 117 j = 1 → τ 115 j = σ 115 j) → cn_ST τ 111 A 0 (cn_O1 O a2 a3 a4) n B → Q none τ) : x_P E 39 [x_R 111, x_R 4, x_I a2, x_I a3, x_I a4] σ Q := by
  have okx := cn_okx ok
  have f1 := ok.1.1
  have f2 := ok.1.2
  have wo := hst.2.2.1
  have ons := cn_ONx ok hst.2.2.2.1
  have hI : cn_I (cn_pf A 0) (σ 112) (σ 113) (σ 114) (σ 115) (σ 117) O := hst.1
  refine x_Mt e_39 (h_39 E) (Nat.le_of_ble_eq_true rfl) t_39 rfl ?_
  refine x_blk (b := 0) (a_39 E) rfl ?_
  unfold b_39_0
  refine x_aload rfl ?_
  refine x_aload rfl ?_
  refine x_iload rfl ?_
  refine x_iload rfl ?_
  refine x_iload rfl ?_
  refine x_cV (fun _ => rfl) rfl (by decide) (Nat.le_of_ble_eq_true rfl) ?_
  refine kx_40_111_4 (cn_ok_m (fun _ _ _ => trivial) ok) C0 hP wo hA ons.1 ons.2 (fun v1 v1x => ?_)
  have pb := cn_pI_b (A := A) (p := 0) (f := a2) (one := ((a3.toNat : Nat) : Int)) (two := ((a4.toNat : Nat) : Int)) hP f1 f2
  rw [← v1x] at pb
  refine x_istore ?_
  refine x_iload rfl ?_
  refine x_push 54 rfl ?_
  refine x_cS (fun _ => rfl) (Nat.le_of_ble_eq_true rfl) ?_
  refine sf_2 (by omega) (by omega) (by omega) (by omega) C0 (fun y2 => ?_) (fun y2 => absurd (by omega) y2)
  refine x_if_eq (by omega) (by omega) (fun z => absurd z (by omega)) (fun z3 => ?_)
  refine x_aload rfl ?_
  refine x_getR (r := 111) rfl (by decide) (by decide) rfl ?_
  refine x_iload rfl ?_
  refine x_aldX y_a117 C0 (by omega) (by omega) (fun v4 v4x v4a v4b => ?_)
  refine x_if_eq (by omega) (by omega) (fun z5 => ?_) (fun z5 => ?_)
  · skip
    refine x_blk (b := 2) (a_39 E) rfl ?_
    unfold b_39_2
    refine x_push 41 rfl ?_
    refine x_push 1 rfl ?_
    refine x_aload rfl ?_
    refine x_iload rfl ?_
    refine x_cV (fun _ => rfl) rfl (by decide) (Nat.le_of_ble_eq_true rfl) ?_
    refine kx_41_111 (by omega) (by omega) C0 (fun v6 v6a v6b v6c => ?_)
    have s6 : v6 = cn_s (σ 115) a3 := by
      unfold cn_s
      rcases v6c with ⟨q1, q2⟩ | ⟨q1, q2⟩
      · rw [if_pos q1]; exact q2
      · rw [if_neg q1]; exact q2
    refine x_iadd ?_
    refine x_aload rfl ?_
    refine x_iload rfl ?_
    refine x_cV (fun _ => rfl) rfl (by decide) (Nat.le_of_ble_eq_true rfl) ?_
    refine kx_41_111 (by omega) (by omega) C0 (fun v7 v7a v7b v7c => ?_)
    have s7 : v7 = cn_s (σ 115) a4 := by
      unfold cn_s
      rcases v7c with ⟨q1, q2⟩ | ⟨q1, q2⟩
      · rw [if_pos q1]; exact q2
      · rw [if_neg q1]; exact q2
    refine x_iadd ?_
    refine x_min (by omega) (by omega) (by omega) (by omega) (Nat.le_of_ble_eq_true rfl) (fun v8 v8a v8b v8c => ?_)
    have mx := cn_mx (1 + cn_s (σ 115) a3 + cn_s (σ 115) a4)
    have em : v8 = cn_m (1 + cn_s (σ 115) a3 + cn_s (σ 115) a4) := by omega
    refine x_istore ?_
    refine x_X_lo (lo' := [(0, x_R 111), (1, x_R 4), (2, x_I _), (3, x_I _), (4, x_I _), (5, x_I _), (6, x_I _)]) ⟨rfl, rfl, rfl, rfl, rfl, rfl, rfl, trivial⟩ ?_
    refine x_aload rfl ?_
    refine x_getR (r := 111) rfl (by decide) (by decide) rfl ?_
    refine x_iload rfl ?_
    refine x_ialdX y_a115 C0 (by omega) (by omega) (fun v9 v9x v9a v9b => ?_)
    refine x_if_eq (by omega) (by omega) (fun z10 => ?_) (fun z10 => ?_)
    · skip
      refine x_blk (b := 3) (a_39 E) rfl ?_
      unfold b_39_3
      refine x_aload rfl ?_
      refine x_getR (r := 111) rfl (by decide) (by decide) rfl ?_
      refine x_iload rfl ?_
      refine x_iload rfl ?_
      refine x_astG y_a112 C0 (by decide) (y_fr_rf (lo := 0) (hi := 138)) (by omega) (by omega) (by omega) (by omega) (fun S11 e11 C11 F11 => ?_)
      refine x_aload rfl ?_
      refine x_getR (r := 111) rfl (by decide) (by decide) rfl ?_
      refine x_iload rfl ?_
      refine x_iload rfl ?_
      refine x_astG y_a113 C11 (by decide) F11 (by omega) (by omega) (by omega) (by omega) (fun S12 e12 C12 F12 => ?_)
      refine x_aload rfl ?_
      refine x_getR (r := 111) rfl (by decide) (by decide) rfl ?_
      refine x_iload rfl ?_
      refine x_iload rfl ?_
      refine x_astG y_a114 C12 (by decide) F12 (by omega) (by omega) (by omega) (by omega) (fun S13 e13 C13 F13 => ?_)
      refine x_aload rfl ?_
      refine x_getR (r := 111) rfl (by decide) (by decide) rfl ?_
      refine x_iload rfl ?_
      refine x_iload rfl ?_
      refine x_astG y_a115 C13 (by decide) F13 (by omega) (by omega) (by omega) (by omega) (fun S14 e14 C14 F14 => ?_)
      refine x_fall ?_
      refine x_blk (b := 4) (a_39 E) rfl ?_
      unfold b_39_4
      refine x_vret ?_
      refine k _ C14 (fun q m h => by rw [x_up_nr e14 (by omega), x_up_nr e13 (by omega), x_up_nr e12 (by omega), x_up_nr e11 (by omega)]) (fun j hj => ?_) (cn_ST_new hst hP ok hx v1x (fun z => absurd (show σ 117 v1.toNat = 1 from z) (by omega)) (Or.inl (show σ 115 v1.toNat = 0 by omega)) ?_ ?_ ?_ ?_ (fun q h1 h2 => by rw [x_up_rw e14 (by omega), x_up_rw e13 (by omega), x_up_rw e12 (by omega), x_up_rw e11 (by omega)]))
      · have nj : j ≠ v1.toNat := fun z => by rw [z] at hj; omega
        rw [x_up_ne e14 (fun z => nj z.2), x_up_nr e13 (by decide), x_up_nr e12 (by decide), x_up_nr e11 (by decide)]
      · rw [x_up_rw e14 (by decide), x_up_rw e13 (by decide), x_up_rw e12 (by decide)]; exact x_up_row e11
      · rw [x_up_rw e14 (by decide), x_up_rw e13 (by decide), x_up_row e12, x_up_rw e11 (by decide)]
      · rw [x_up_rw e14 (by decide), x_up_row e13, x_up_rw e12 (by decide), x_up_rw e11 (by decide)]
      · rw [x_up_row e14, x_up_rw e13 (by decide), x_up_rw e12 (by decide), x_up_rw e11 (by decide), em]
    · skip
      refine x_aload rfl ?_
      refine x_iload rfl ?_
      refine x_iload rfl ?_
      refine x_iload rfl ?_
      refine x_iload rfl ?_
      refine x_iload rfl ?_
      refine x_cV (fun _ => rfl) rfl (by decide) (Nat.le_of_ble_eq_true rfl) ?_
      have nk := cn_I_n hI (k := v1.toNat) (by omega) (by omega)
      refine kx_50_111 (by omega) (by omega) C0 (cn_I_T hI) nk.1 ok (by omega) (by omega) em (fun y15 => ?_) (fun y15 => ?_)
      · rw [em] at y15
        refine x_if_ne (by omega) (by omega) (fun z => absurd z (by omega)) (fun z16 => ?_)
        refine x_blk (b := 4) (a_39 E) rfl ?_
        unfold b_39_4
        refine x_vret ?_
        exact k _ C0 (fun _ _ _ => rfl) (fun _ _ => rfl) (cn_ST_old hst hP ok hx v1x (Or.inr ⟨show 0 < σ 115 v1.toNat by omega, y15⟩))
      · rw [em] at y15
        refine x_if_ne (by omega) (by omega) (fun z17 => ?_) (fun z => absurd (by omega) z)
        refine x_fall ?_
        refine x_blk (b := 3) (a_39 E) rfl ?_
        unfold b_39_3
        refine x_aload rfl ?_
        refine x_getR (r := 111) rfl (by decide) (by decide) rfl ?_
        refine x_iload rfl ?_
        refine x_iload rfl ?_
        refine x_astG y_a112 C0 (by decide) (y_fr_rf (lo := 0) (hi := 138)) (by omega) (by omega) (by omega) (by omega) (fun S18 e18 C18 F18 => ?_)
        refine x_aload rfl ?_
        refine x_getR (r := 111) rfl (by decide) (by decide) rfl ?_
        refine x_iload rfl ?_
        refine x_iload rfl ?_
        refine x_astG y_a113 C18 (by decide) F18 (by omega) (by omega) (by omega) (by omega) (fun S19 e19 C19 F19 => ?_)
        refine x_aload rfl ?_
        refine x_getR (r := 111) rfl (by decide) (by decide) rfl ?_
        refine x_iload rfl ?_
        refine x_iload rfl ?_
        refine x_astG y_a114 C19 (by decide) F19 (by omega) (by omega) (by omega) (by omega) (fun S20 e20 C20 F20 => ?_)
        refine x_aload rfl ?_
        refine x_getR (r := 111) rfl (by decide) (by decide) rfl ?_
        refine x_iload rfl ?_
        refine x_iload rfl ?_
        refine x_astG y_a115 C20 (by decide) F20 (by omega) (by omega) (by omega) (by omega) (fun S21 e21 C21 F21 => ?_)
        refine x_fall ?_
        refine x_blk (b := 4) (a_39 E) rfl ?_
        unfold b_39_4
        refine x_vret ?_
        refine k _ C21 (fun q m h => by rw [x_up_nr e21 (by omega), x_up_nr e20 (by omega), x_up_nr e19 (by omega), x_up_nr e18 (by omega)]) (fun j hj => ?_) (cn_ST_new hst hP ok hx v1x (fun z => absurd (show σ 117 v1.toNat = 1 from z) (by omega)) (Or.inr y15) ?_ ?_ ?_ ?_ (fun q h1 h2 => by rw [x_up_rw e21 (by omega), x_up_rw e20 (by omega), x_up_rw e19 (by omega), x_up_rw e18 (by omega)]))
        · have nj : j ≠ v1.toNat := fun z => by rw [z] at hj; omega
          rw [x_up_ne e21 (fun z => nj z.2), x_up_nr e20 (by decide), x_up_nr e19 (by decide), x_up_nr e18 (by decide)]
        · rw [x_up_rw e21 (by decide), x_up_rw e20 (by decide), x_up_rw e19 (by decide)]; exact x_up_row e18
        · rw [x_up_rw e21 (by decide), x_up_rw e20 (by decide), x_up_row e19, x_up_rw e18 (by decide)]
        · rw [x_up_rw e21 (by decide), x_up_row e20, x_up_rw e19 (by decide), x_up_rw e18 (by decide)]
        · rw [x_up_row e21, x_up_rw e20 (by decide), x_up_rw e19 (by decide), x_up_rw e18 (by decide), em]
  · skip
    refine x_fall ?_
    refine x_blk (b := 1) (a_39 E) rfl ?_
    unfold b_39_1
    refine x_vret ?_
    exact k _ C0 (fun _ _ _ => rfl) (fun _ _ => rfl) (cn_ST_old hst hP ok hx v1x (Or.inl (show σ 117 v1.toNat = 1 by omega)))
theorem kx_39_124_4 {E : q_E} {σ : x_S} {Q : Option q_V → x_S → Prop} {a2 a3 a4 : Int} (C0 : y_CI σ) {A : Nat → Int} (hP : y_PI A) (hA : y_AG (y_cv σ 4) A) {O : Int → Nat → Nat → Prop} {n : Nat} {B : Int} (hst : cn_ST σ 124 A 1 O n B) (ok : cn_ok (fun k => σ 130 k = 1) a2 a3 a4) (hx : B < 1 + cn_s (σ 128) a3 + cn_s (σ 128) a4) (k : ∀ τ, y_CI τ → (∀ q m, ¬ (125 ≤ q ∧ q ≤ 128) → τ q m = σ q m) → (∀ j, σ 130 j = 1 → τ 128 j = σ 128 j) → cn_ST τ 124 A 1 (cn_O1 O a2 a3 a4) n B → Q none τ) : x_P E 39 [x_R 124, x_R 4, x_I a2, x_I a3, x_I a4] σ Q := by
  have okx := cn_okx ok
  have f1 := ok.1.1
  have f2 := ok.1.2
  have wo := hst.2.2.1
  have ons := cn_ONx ok hst.2.2.2.1
  have hI : cn_I (cn_pf A 1) (σ 125) (σ 126) (σ 127) (σ 128) (σ 130) O := hst.1
  refine x_Mt e_39 (h_39 E) (Nat.le_of_ble_eq_true rfl) t_39 rfl ?_
  refine x_blk (b := 0) (a_39 E) rfl ?_
  unfold b_39_0
  refine x_aload rfl ?_
  refine x_aload rfl ?_
  refine x_iload rfl ?_
  refine x_iload rfl ?_
  refine x_iload rfl ?_
  refine x_cV (fun _ => rfl) rfl (by decide) (Nat.le_of_ble_eq_true rfl) ?_
  refine kx_40_124_4 (cn_ok_m (fun _ _ _ => trivial) ok) C0 hP wo hA ons.1 ons.2 (fun v1 v1x => ?_)
  have pb := cn_pI_b (A := A) (p := 1) (f := a2) (one := ((a3.toNat : Nat) : Int)) (two := ((a4.toNat : Nat) : Int)) hP f1 f2
  rw [← v1x] at pb
  refine x_istore ?_
  refine x_iload rfl ?_
  refine x_push 54 rfl ?_
  refine x_cS (fun _ => rfl) (Nat.le_of_ble_eq_true rfl) ?_
  refine sf_2 (by omega) (by omega) (by omega) (by omega) C0 (fun y2 => ?_) (fun y2 => absurd (by omega) y2)
  refine x_if_eq (by omega) (by omega) (fun z => absurd z (by omega)) (fun z3 => ?_)
  refine x_aload rfl ?_
  refine x_getR (r := 124) rfl (by decide) (by decide) rfl ?_
  refine x_iload rfl ?_
  refine x_aldX y_a130 C0 (by omega) (by omega) (fun v4 v4x v4a v4b => ?_)
  refine x_if_eq (by omega) (by omega) (fun z5 => ?_) (fun z5 => ?_)
  · skip
    refine x_blk (b := 2) (a_39 E) rfl ?_
    unfold b_39_2
    refine x_push 41 rfl ?_
    refine x_push 1 rfl ?_
    refine x_aload rfl ?_
    refine x_iload rfl ?_
    refine x_cV (fun _ => rfl) rfl (by decide) (Nat.le_of_ble_eq_true rfl) ?_
    refine kx_41_124 (by omega) (by omega) C0 (fun v6 v6a v6b v6c => ?_)
    have s6 : v6 = cn_s (σ 128) a3 := by
      unfold cn_s
      rcases v6c with ⟨q1, q2⟩ | ⟨q1, q2⟩
      · rw [if_pos q1]; exact q2
      · rw [if_neg q1]; exact q2
    refine x_iadd ?_
    refine x_aload rfl ?_
    refine x_iload rfl ?_
    refine x_cV (fun _ => rfl) rfl (by decide) (Nat.le_of_ble_eq_true rfl) ?_
    refine kx_41_124 (by omega) (by omega) C0 (fun v7 v7a v7b v7c => ?_)
    have s7 : v7 = cn_s (σ 128) a4 := by
      unfold cn_s
      rcases v7c with ⟨q1, q2⟩ | ⟨q1, q2⟩
      · rw [if_pos q1]; exact q2
      · rw [if_neg q1]; exact q2
    refine x_iadd ?_
    refine x_min (by omega) (by omega) (by omega) (by omega) (Nat.le_of_ble_eq_true rfl) (fun v8 v8a v8b v8c => ?_)
    have mx := cn_mx (1 + cn_s (σ 128) a3 + cn_s (σ 128) a4)
    have em : v8 = cn_m (1 + cn_s (σ 128) a3 + cn_s (σ 128) a4) := by omega
    refine x_istore ?_
    refine x_X_lo (lo' := [(0, x_R 124), (1, x_R 4), (2, x_I _), (3, x_I _), (4, x_I _), (5, x_I _), (6, x_I _)]) ⟨rfl, rfl, rfl, rfl, rfl, rfl, rfl, trivial⟩ ?_
    refine x_aload rfl ?_
    refine x_getR (r := 124) rfl (by decide) (by decide) rfl ?_
    refine x_iload rfl ?_
    refine x_ialdX y_a128 C0 (by omega) (by omega) (fun v9 v9x v9a v9b => ?_)
    refine x_if_eq (by omega) (by omega) (fun z10 => ?_) (fun z10 => ?_)
    · skip
      refine x_blk (b := 3) (a_39 E) rfl ?_
      unfold b_39_3
      refine x_aload rfl ?_
      refine x_getR (r := 124) rfl (by decide) (by decide) rfl ?_
      refine x_iload rfl ?_
      refine x_iload rfl ?_
      refine x_astG y_a125 C0 (by decide) (y_fr_rf (lo := 0) (hi := 138)) (by omega) (by omega) (by omega) (by omega) (fun S11 e11 C11 F11 => ?_)
      refine x_aload rfl ?_
      refine x_getR (r := 124) rfl (by decide) (by decide) rfl ?_
      refine x_iload rfl ?_
      refine x_iload rfl ?_
      refine x_astG y_a126 C11 (by decide) F11 (by omega) (by omega) (by omega) (by omega) (fun S12 e12 C12 F12 => ?_)
      refine x_aload rfl ?_
      refine x_getR (r := 124) rfl (by decide) (by decide) rfl ?_
      refine x_iload rfl ?_
      refine x_iload rfl ?_
      refine x_astG y_a127 C12 (by decide) F12 (by omega) (by omega) (by omega) (by omega) (fun S13 e13 C13 F13 => ?_)
      refine x_aload rfl ?_
      refine x_getR (r := 124) rfl (by decide) (by decide) rfl ?_
      refine x_iload rfl ?_
      refine x_iload rfl ?_
      refine x_astG y_a128 C13 (by decide) F13 (by omega) (by omega) (by omega) (by omega) (fun S14 e14 C14 F14 => ?_)
      refine x_fall ?_
      refine x_blk (b := 4) (a_39 E) rfl ?_
      unfold b_39_4
      refine x_vret ?_
      refine k _ C14 (fun q m h => by rw [x_up_nr e14 (by omega), x_up_nr e13 (by omega), x_up_nr e12 (by omega), x_up_nr e11 (by omega)]) (fun j hj => ?_) (cn_ST_new hst hP ok hx v1x (fun z => absurd (show σ 130 v1.toNat = 1 from z) (by omega)) (Or.inl (show σ 128 v1.toNat = 0 by omega)) ?_ ?_ ?_ ?_ (fun q h1 h2 => by rw [x_up_rw e14 (by omega), x_up_rw e13 (by omega), x_up_rw e12 (by omega), x_up_rw e11 (by omega)]))
      · have nj : j ≠ v1.toNat := fun z => by rw [z] at hj; omega
        rw [x_up_ne e14 (fun z => nj z.2), x_up_nr e13 (by decide), x_up_nr e12 (by decide), x_up_nr e11 (by decide)]
      · rw [x_up_rw e14 (by decide), x_up_rw e13 (by decide), x_up_rw e12 (by decide)]; exact x_up_row e11
      · rw [x_up_rw e14 (by decide), x_up_rw e13 (by decide), x_up_row e12, x_up_rw e11 (by decide)]
      · rw [x_up_rw e14 (by decide), x_up_row e13, x_up_rw e12 (by decide), x_up_rw e11 (by decide)]
      · rw [x_up_row e14, x_up_rw e13 (by decide), x_up_rw e12 (by decide), x_up_rw e11 (by decide), em]
    · skip
      refine x_aload rfl ?_
      refine x_iload rfl ?_
      refine x_iload rfl ?_
      refine x_iload rfl ?_
      refine x_iload rfl ?_
      refine x_iload rfl ?_
      refine x_cV (fun _ => rfl) rfl (by decide) (Nat.le_of_ble_eq_true rfl) ?_
      have nk := cn_I_n hI (k := v1.toNat) (by omega) (by omega)
      refine kx_50_124 (by omega) (by omega) C0 (cn_I_T hI) nk.1 ok (by omega) (by omega) em (fun y15 => ?_) (fun y15 => ?_)
      · rw [em] at y15
        refine x_if_ne (by omega) (by omega) (fun z => absurd z (by omega)) (fun z16 => ?_)
        refine x_blk (b := 4) (a_39 E) rfl ?_
        unfold b_39_4
        refine x_vret ?_
        exact k _ C0 (fun _ _ _ => rfl) (fun _ _ => rfl) (cn_ST_old hst hP ok hx v1x (Or.inr ⟨show 0 < σ 128 v1.toNat by omega, y15⟩))
      · rw [em] at y15
        refine x_if_ne (by omega) (by omega) (fun z17 => ?_) (fun z => absurd (by omega) z)
        refine x_fall ?_
        refine x_blk (b := 3) (a_39 E) rfl ?_
        unfold b_39_3
        refine x_aload rfl ?_
        refine x_getR (r := 124) rfl (by decide) (by decide) rfl ?_
        refine x_iload rfl ?_
        refine x_iload rfl ?_
        refine x_astG y_a125 C0 (by decide) (y_fr_rf (lo := 0) (hi := 138)) (by omega) (by omega) (by omega) (by omega) (fun S18 e18 C18 F18 => ?_)
        refine x_aload rfl ?_
        refine x_getR (r := 124) rfl (by decide) (by decide) rfl ?_
        refine x_iload rfl ?_
        refine x_iload rfl ?_
        refine x_astG y_a126 C18 (by decide) F18 (by omega) (by omega) (by omega) (by omega) (fun S19 e19 C19 F19 => ?_)
        refine x_aload rfl ?_
        refine x_getR (r := 124) rfl (by decide) (by decide) rfl ?_
        refine x_iload rfl ?_
        refine x_iload rfl ?_
        refine x_astG y_a127 C19 (by decide) F19 (by omega) (by omega) (by omega) (by omega) (fun S20 e20 C20 F20 => ?_)
        refine x_aload rfl ?_
        refine x_getR (r := 124) rfl (by decide) (by decide) rfl ?_
        refine x_iload rfl ?_
        refine x_iload rfl ?_
        refine x_astG y_a128 C20 (by decide) F20 (by omega) (by omega) (by omega) (by omega) (fun S21 e21 C21 F21 => ?_)
        refine x_fall ?_
        refine x_blk (b := 4) (a_39 E) rfl ?_
        unfold b_39_4
        refine x_vret ?_
        refine k _ C21 (fun q m h => by rw [x_up_nr e21 (by omega), x_up_nr e20 (by omega), x_up_nr e19 (by omega), x_up_nr e18 (by omega)]) (fun j hj => ?_) (cn_ST_new hst hP ok hx v1x (fun z => absurd (show σ 130 v1.toNat = 1 from z) (by omega)) (Or.inr y15) ?_ ?_ ?_ ?_ (fun q h1 h2 => by rw [x_up_rw e21 (by omega), x_up_rw e20 (by omega), x_up_rw e19 (by omega), x_up_rw e18 (by omega)]))
        · have nj : j ≠ v1.toNat := fun z => by rw [z] at hj; omega
          rw [x_up_ne e21 (fun z => nj z.2), x_up_nr e20 (by decide), x_up_nr e19 (by decide), x_up_nr e18 (by decide)]
        · rw [x_up_rw e21 (by decide), x_up_rw e20 (by decide), x_up_rw e19 (by decide)]; exact x_up_row e18
        · rw [x_up_rw e21 (by decide), x_up_rw e20 (by decide), x_up_row e19, x_up_rw e18 (by decide)]
        · rw [x_up_rw e21 (by decide), x_up_row e20, x_up_rw e19 (by decide), x_up_rw e18 (by decide)]
        · rw [x_up_row e21, x_up_rw e20 (by decide), x_up_rw e19 (by decide), x_up_rw e18 (by decide), em]
  · skip
    refine x_fall ?_
    refine x_blk (b := 1) (a_39 E) rfl ?_
    unfold b_39_1
    refine x_vret ?_
    exact k _ C0 (fun _ _ _ => rfl) (fun _ _ => rfl) (cn_ST_old hst hP ok hx v1x (Or.inl (show σ 130 v1.toNat = 1 by omega)))
theorem kx_79_111_b4 {E : q_E} {σ : x_S} {Q : Option q_V → x_S → Prop} {a1 a2 : Int} (r1 : 0 ≤ a1) (r2 : a1 ≤ 53) (n1 : 0 ≤ a2) (n2 : a2 ≤ 53) (C0 : y_CI σ) (k : ∀ τ, y_CI τ → (∀ k m, (k < 111 ∨ 119 < k ∨ (112 ≤ k ∧ k ≤ 115) ∨ (k = 111 ∧ m ≠ 13)) → τ k m = σ k m) → τ 116 = y_wK (σ 116) a2.toNat a1 → τ 117 = y_wK (σ 117) a1.toNat 1 → τ 111 13 = a2 + 1 → (∀ m, m ≠ a1.toNat → τ 118 m = σ 118 m ∧ τ 119 m = σ 119 m) → (τ 118 a1.toNat = cn_on 1 a1 ∧ τ 119 a1.toNat = cn_on 2 a1) → Q none τ) : ∀ (N : Nat) (q : Int) (τ : x_S), (3 - q).toNat = N → 0 ≤ q → q ≤ 3 → y_CI τ → (∀ k m, (k < 111 ∨ 119 < k ∨ (112 ≤ k ∧ k ≤ 115) ∨ (k = 111 ∧ m ≠ 13)) → τ k m = σ k m) → τ 116 = y_wK (σ 116) a2.toNat a1 → τ 117 = y_wK (σ 117) a1.toNat 1 → τ 111 13 = a2 + 1 → (∀ m, m ≠ a1.toNat → τ 118 m = σ 118 m ∧ τ 119 m = σ 119 m) → cn_oq 1 a1 q (τ 118 a1.toNat) → cn_oq 2 a1 q (τ 119 a1.toNat) → x_G E m_79 Q (t_79 4) [(0, x_R 111), (1, x_I a1), (2, x_I a2), (3, x_I q)] [] τ := by
  intro N
  induction N using Nat.strongRecOn with
  | ind N ih =>
    intro q τ hN q0 q3 C fr h5 h6 h13 hne hq7 hq8
    refine x_blk (b := 4) (a_79 E) rfl ?_
    unfold b_79_4
    refine x_iload rfl ?_
    refine x_push 3 rfl ?_
    refine x_icmp_ge (by omega) (by omega) (by omega) (by omega) (fun z1 => ?_) (fun z1 => ?_)
    · skip
      refine x_iload rfl ?_
      refine x_iload rfl ?_
      refine x_cS (fun _ => rfl) (Nat.le_of_ble_eq_true rfl) ?_
      refine kx_61 (by omega) (by omega) (by omega) (by omega) C (fun v2 v2a v2b v2c => ?_)
      refine x_istore ?_
      refine x_iload rfl ?_
      refine x_push 1 rfl ?_
      refine x_icmp_ne (by omega) (by omega) (by omega) (by omega) (fun z3 => ?_) (fun z3 => ?_)
      · skip
        refine x_aload rfl ?_
        refine x_getR (r := 111) rfl (by decide) (by decide) rfl ?_
        refine x_iload rfl ?_
        refine x_dup2 rfl rfl ?_
        refine x_ialdX y_a118 C (by omega) (by omega) (fun v4 v4x v4a v4b => ?_)
        refine x_push 1 rfl ?_
        refine x_iload rfl ?_
        refine x_shl1X (by omega) (by omega) (fun v5 v5x v5a v5b => ?_)
        have ob := cn_oq_b hq7 (by omega)
        refine x_iorX (by omega) (by omega) (by omega) (by omega) (fun v6 v6x v6a v6b => ?_)
        have w6 : v6 = v4 + v5 := cn_orq (q := q) (by omega) v6x
        refine x_astG y_a118 C (by decide) (y_fr_rf (lo := 0) (hi := 138)) (by omega) (by omega) (by omega) (by omega) (fun S7 e7 C7 F7 => ?_)
        refine x_goto ?_
        refine x_blk (b := 3) (a_79 E) rfl ?_
        unfold b_79_3
        refine x_iinc 1 rfl rfl ?_
        refine x_X_lo (lo' := [(0, x_R 111), (1, x_I _), (2, x_I _), (3, x_I _), (4, x_I _)]) ⟨rfl, rfl, rfl, rfl, rfl, trivial⟩ ?_
        refine x_goto ?_
        refine x_G_lo (lo' := [(0, x_R 111), (1, x_I _), (2, x_I _), (3, x_I _)]) ⟨rfl, rfl, rfl, rfl, trivial⟩ ?_
        refine ih _ (by omega) _ _ rfl (by omega) (by omega) C7 (fun k m h => (x_up_nr e7 (by omega)).trans (fr k m h)) ((x_up_rw e7 (by decide)).trans h5) ((x_up_rw e7 (by decide)).trans h6) ((x_up_nr e7 (by decide)).trans h13) (fun m hm => ⟨(x_up_ne e7 (fun z => hm z.2)).trans (hne m hm).1, (x_up_nr e7 (by decide)).trans (hne m hm).2⟩) (by rw [x_up_at e7]; exact cn_oq_s hq7 (by omega) (by omega) v2c (Or.inl ⟨by omega, by omega⟩)) (by rw [x_up_nr e7 (by decide)]; exact cn_oq_s hq8 (by omega) (by omega) v2c (Or.inr ⟨fun z => by omega, rfl⟩))
      · skip
        refine x_blk (b := 2) (a_79 E) rfl ?_
        unfold b_79_2
        refine x_iload rfl ?_
        refine x_push 2 rfl ?_
        refine x_icmp_ne (by omega) (by omega) (by omega) (by omega) (fun z8 => ?_) (fun z8 => ?_)
        · skip
          refine x_aload rfl ?_
          refine x_getR (r := 111) rfl (by decide) (by decide) rfl ?_
          refine x_iload rfl ?_
          refine x_dup2 rfl rfl ?_
          refine x_ialdX y_a119 C (by omega) (by omega) (fun v9 v9x v9a v9b => ?_)
          refine x_push 1 rfl ?_
          refine x_iload rfl ?_
          refine x_shl1X (by omega) (by omega) (fun v10 v10x v10a v10b => ?_)
          have ob := cn_oq_b hq8 (by omega)
          refine x_iorX (by omega) (by omega) (by omega) (by omega) (fun v11 v11x v11a v11b => ?_)
          have w11 : v11 = v9 + v10 := cn_orq (q := q) (by omega) v11x
          refine x_astG y_a119 C (by decide) (y_fr_rf (lo := 0) (hi := 138)) (by omega) (by omega) (by omega) (by omega) (fun S12 e12 C12 F12 => ?_)
          refine x_fall ?_
          refine x_blk (b := 3) (a_79 E) rfl ?_
          unfold b_79_3
          refine x_iinc 1 rfl rfl ?_
          refine x_X_lo (lo' := [(0, x_R 111), (1, x_I _), (2, x_I _), (3, x_I _), (4, x_I _)]) ⟨rfl, rfl, rfl, rfl, rfl, trivial⟩ ?_
          refine x_goto ?_
          refine x_G_lo (lo' := [(0, x_R 111), (1, x_I _), (2, x_I _), (3, x_I _)]) ⟨rfl, rfl, rfl, rfl, trivial⟩ ?_
          refine ih _ (by omega) _ _ rfl (by omega) (by omega) C12 (fun k m h => (x_up_nr e12 (by omega)).trans (fr k m h)) ((x_up_rw e12 (by decide)).trans h5) ((x_up_rw e12 (by decide)).trans h6) ((x_up_nr e12 (by decide)).trans h13) (fun m hm => ⟨(x_up_nr e12 (by decide)).trans (hne m hm).1, (x_up_ne e12 (fun z => hm z.2)).trans (hne m hm).2⟩) (by rw [x_up_nr e12 (by decide)]; exact cn_oq_s hq7 (by omega) (by omega) v2c (Or.inr ⟨fun z => by omega, rfl⟩)) (by rw [x_up_at e12]; exact cn_oq_s hq8 (by omega) (by omega) v2c (Or.inl ⟨by omega, by omega⟩))
        · skip
          refine x_blk (b := 3) (a_79 E) rfl ?_
          unfold b_79_3
          refine x_iinc 1 rfl rfl ?_
          refine x_X_lo (lo' := [(0, x_R 111), (1, x_I _), (2, x_I _), (3, x_I _), (4, x_I _)]) ⟨rfl, rfl, rfl, rfl, rfl, trivial⟩ ?_
          refine x_goto ?_
          refine x_G_lo (lo' := [(0, x_R 111), (1, x_I _), (2, x_I _), (3, x_I _)]) ⟨rfl, rfl, rfl, rfl, trivial⟩ ?_
          exact ih _ (by omega) _ _ rfl (by omega) (by omega) C fr h5 h6 h13 hne (cn_oq_s hq7 (by omega) (by omega) v2c (Or.inr ⟨fun z => by omega, rfl⟩)) (cn_oq_s hq8 (by omega) (by omega) v2c (Or.inr ⟨fun z => by omega, rfl⟩))
    · skip
      refine x_blk (b := 1) (a_79 E) rfl ?_
      unfold b_79_1
      refine x_vret ?_
      have e3 : q = 3 := by omega
      subst e3
      exact k _ C fr h5 h6 h13 hne ⟨cn_oq_3 hq7, cn_oq_3 hq8⟩
theorem kx_79_111 {E : q_E} {σ : x_S} {Q : Option q_V → x_S → Prop} {a1 a2 : Int} (r1 : 0 ≤ a1) (r2 : a1 ≤ 53) (n1 : 0 ≤ a2) (n2 : a2 ≤ 53) (C0 : y_CI σ) (k : ∀ τ, y_CI τ → (∀ k m, (k < 111 ∨ 119 < k ∨ (112 ≤ k ∧ k ≤ 115) ∨ (k = 111 ∧ m ≠ 13)) → τ k m = σ k m) → τ 116 = y_wK (σ 116) a2.toNat a1 → τ 117 = y_wK (σ 117) a1.toNat 1 → τ 111 13 = a2 + 1 → (∀ m, m ≠ a1.toNat → τ 118 m = σ 118 m ∧ τ 119 m = σ 119 m) → (τ 118 a1.toNat = cn_on 1 a1 ∧ τ 119 a1.toNat = cn_on 2 a1) → Q none τ) : x_P E 79 [x_R 111, x_I a1, x_I a2] σ Q := by
  refine x_Mt e_79 (h_79 E) (Nat.le_of_ble_eq_true rfl) t_79 rfl ?_
  refine x_blk (b := 0) (a_79 E) rfl ?_
  unfold b_79_0
  refine x_aload rfl ?_
  refine x_getR (r := 111) rfl (by decide) (by decide) rfl ?_
  refine x_iload rfl ?_
  refine x_push 1 rfl ?_
  refine x_astZG y_a117 C0 (by decide) (y_fr_rf (lo := 0) (hi := 138)) (by omega) (by omega) (by omega) (by omega) (fun S1 e1 C1 F1 => ?_)
  refine x_aload rfl ?_
  refine x_getR (r := 111) rfl (by decide) (by decide) rfl ?_
  refine x_iload rfl ?_
  refine x_iload rfl ?_
  refine x_astG y_a116 C1 (by decide) F1 (by omega) (by omega) (by omega) (by omega) (fun S2 e2 C2 F2 => ?_)
  refine x_aload rfl ?_
  refine x_iload rfl ?_
  refine x_push 1 rfl ?_
  refine x_iadd ?_
  refine x_putIG y_f111_13 ⟨by decide, rfl⟩ (by decide) C2 (by decide) F2 (by omega) (by omega) (fun S3 e3 C3 F3 => ?_)
  refine x_aload rfl ?_
  refine x_getR (r := 111) rfl (by decide) (by decide) rfl ?_
  refine x_iload rfl ?_
  refine x_push 0 rfl ?_
  refine x_astG y_a118 C3 (by decide) F3 (by omega) (by omega) (by omega) (by omega) (fun S4 e4 C4 F4 => ?_)
  refine x_aload rfl ?_
  refine x_getR (r := 111) rfl (by decide) (by decide) rfl ?_
  refine x_iload rfl ?_
  refine x_push 0 rfl ?_
  refine x_astG y_a119 C4 (by decide) F4 (by omega) (by omega) (by omega) (by omega) (fun S5 e5 C5 F5 => ?_)
  refine x_push 0 rfl ?_
  refine x_istore ?_
  refine x_fall ?_
  refine x_G_lo (lo' := [(0, x_R 111), (1, x_I _), (2, x_I _), (3, x_I _)]) ⟨rfl, rfl, rfl, rfl, trivial⟩ ?_
  refine kx_79_111_b4 r1 r2 n1 n2 C0 k _ 0 _ rfl (by omega) (by omega) C5 (fun k m h => by rw [x_up_nr e5 (by omega), x_up_nr e4 (by omega), x_up_ne e3 (fun z => by omega), x_up_nr e2 (by omega), x_up_nr e1 (by omega)]) ?_ ?_ ?_ (fun m hm => ⟨?_, ?_⟩) ?_ ?_
  · rw [x_up_rw e5 (by decide), x_up_rw e4 (by decide), x_up_rw e3 (by decide), x_up_row e2, x_up_rw e1 (by decide)]
  · rw [x_up_rw e5 (by decide), x_up_rw e4 (by decide), x_up_rw e3 (by decide), x_up_rw e2 (by decide)]; exact x_up_row e1
  · rw [x_up_nr e5 (by decide), x_up_nr e4 (by decide)]; exact x_up_at e3
  · rw [x_up_nr e5 (by decide), x_up_ne e4 (fun z => hm z.2), x_up_nr e3 (by decide), x_up_nr e2 (by decide), x_up_nr e1 (by decide)]
  · rw [x_up_ne e5 (fun z => hm z.2), x_up_nr e4 (by decide), x_up_nr e3 (by decide), x_up_nr e2 (by decide), x_up_nr e1 (by decide)]
  · rw [x_up_nr e5 (by decide), x_up_at e4]; exact Or.inl ⟨rfl, rfl⟩
  · rw [x_up_at e5]; exact Or.inl ⟨rfl, rfl⟩
theorem kx_79_124_b4 {E : q_E} {σ : x_S} {Q : Option q_V → x_S → Prop} {a1 a2 : Int} (r1 : 0 ≤ a1) (r2 : a1 ≤ 53) (n1 : 0 ≤ a2) (n2 : a2 ≤ 53) (C0 : y_CI σ) (k : ∀ τ, y_CI τ → (∀ k m, (k < 124 ∨ 132 < k ∨ (125 ≤ k ∧ k ≤ 128) ∨ (k = 124 ∧ m ≠ 13)) → τ k m = σ k m) → τ 129 = y_wK (σ 129) a2.toNat a1 → τ 130 = y_wK (σ 130) a1.toNat 1 → τ 124 13 = a2 + 1 → (∀ m, m ≠ a1.toNat → τ 131 m = σ 131 m ∧ τ 132 m = σ 132 m) → (τ 131 a1.toNat = cn_on 1 a1 ∧ τ 132 a1.toNat = cn_on 2 a1) → Q none τ) : ∀ (N : Nat) (q : Int) (τ : x_S), (3 - q).toNat = N → 0 ≤ q → q ≤ 3 → y_CI τ → (∀ k m, (k < 124 ∨ 132 < k ∨ (125 ≤ k ∧ k ≤ 128) ∨ (k = 124 ∧ m ≠ 13)) → τ k m = σ k m) → τ 129 = y_wK (σ 129) a2.toNat a1 → τ 130 = y_wK (σ 130) a1.toNat 1 → τ 124 13 = a2 + 1 → (∀ m, m ≠ a1.toNat → τ 131 m = σ 131 m ∧ τ 132 m = σ 132 m) → cn_oq 1 a1 q (τ 131 a1.toNat) → cn_oq 2 a1 q (τ 132 a1.toNat) → x_G E m_79 Q (t_79 4) [(0, x_R 124), (1, x_I a1), (2, x_I a2), (3, x_I q)] [] τ := by
  intro N
  induction N using Nat.strongRecOn with
  | ind N ih =>
    intro q τ hN q0 q3 C fr h5 h6 h13 hne hq7 hq8
    refine x_blk (b := 4) (a_79 E) rfl ?_
    unfold b_79_4
    refine x_iload rfl ?_
    refine x_push 3 rfl ?_
    refine x_icmp_ge (by omega) (by omega) (by omega) (by omega) (fun z1 => ?_) (fun z1 => ?_)
    · skip
      refine x_iload rfl ?_
      refine x_iload rfl ?_
      refine x_cS (fun _ => rfl) (Nat.le_of_ble_eq_true rfl) ?_
      refine kx_61 (by omega) (by omega) (by omega) (by omega) C (fun v2 v2a v2b v2c => ?_)
      refine x_istore ?_
      refine x_iload rfl ?_
      refine x_push 1 rfl ?_
      refine x_icmp_ne (by omega) (by omega) (by omega) (by omega) (fun z3 => ?_) (fun z3 => ?_)
      · skip
        refine x_aload rfl ?_
        refine x_getR (r := 124) rfl (by decide) (by decide) rfl ?_
        refine x_iload rfl ?_
        refine x_dup2 rfl rfl ?_
        refine x_ialdX y_a131 C (by omega) (by omega) (fun v4 v4x v4a v4b => ?_)
        refine x_push 1 rfl ?_
        refine x_iload rfl ?_
        refine x_shl1X (by omega) (by omega) (fun v5 v5x v5a v5b => ?_)
        have ob := cn_oq_b hq7 (by omega)
        refine x_iorX (by omega) (by omega) (by omega) (by omega) (fun v6 v6x v6a v6b => ?_)
        have w6 : v6 = v4 + v5 := cn_orq (q := q) (by omega) v6x
        refine x_astG y_a131 C (by decide) (y_fr_rf (lo := 0) (hi := 138)) (by omega) (by omega) (by omega) (by omega) (fun S7 e7 C7 F7 => ?_)
        refine x_goto ?_
        refine x_blk (b := 3) (a_79 E) rfl ?_
        unfold b_79_3
        refine x_iinc 1 rfl rfl ?_
        refine x_X_lo (lo' := [(0, x_R 124), (1, x_I _), (2, x_I _), (3, x_I _), (4, x_I _)]) ⟨rfl, rfl, rfl, rfl, rfl, trivial⟩ ?_
        refine x_goto ?_
        refine x_G_lo (lo' := [(0, x_R 124), (1, x_I _), (2, x_I _), (3, x_I _)]) ⟨rfl, rfl, rfl, rfl, trivial⟩ ?_
        refine ih _ (by omega) _ _ rfl (by omega) (by omega) C7 (fun k m h => (x_up_nr e7 (by omega)).trans (fr k m h)) ((x_up_rw e7 (by decide)).trans h5) ((x_up_rw e7 (by decide)).trans h6) ((x_up_nr e7 (by decide)).trans h13) (fun m hm => ⟨(x_up_ne e7 (fun z => hm z.2)).trans (hne m hm).1, (x_up_nr e7 (by decide)).trans (hne m hm).2⟩) (by rw [x_up_at e7]; exact cn_oq_s hq7 (by omega) (by omega) v2c (Or.inl ⟨by omega, by omega⟩)) (by rw [x_up_nr e7 (by decide)]; exact cn_oq_s hq8 (by omega) (by omega) v2c (Or.inr ⟨fun z => by omega, rfl⟩))
      · skip
        refine x_blk (b := 2) (a_79 E) rfl ?_
        unfold b_79_2
        refine x_iload rfl ?_
        refine x_push 2 rfl ?_
        refine x_icmp_ne (by omega) (by omega) (by omega) (by omega) (fun z8 => ?_) (fun z8 => ?_)
        · skip
          refine x_aload rfl ?_
          refine x_getR (r := 124) rfl (by decide) (by decide) rfl ?_
          refine x_iload rfl ?_
          refine x_dup2 rfl rfl ?_
          refine x_ialdX y_a132 C (by omega) (by omega) (fun v9 v9x v9a v9b => ?_)
          refine x_push 1 rfl ?_
          refine x_iload rfl ?_
          refine x_shl1X (by omega) (by omega) (fun v10 v10x v10a v10b => ?_)
          have ob := cn_oq_b hq8 (by omega)
          refine x_iorX (by omega) (by omega) (by omega) (by omega) (fun v11 v11x v11a v11b => ?_)
          have w11 : v11 = v9 + v10 := cn_orq (q := q) (by omega) v11x
          refine x_astG y_a132 C (by decide) (y_fr_rf (lo := 0) (hi := 138)) (by omega) (by omega) (by omega) (by omega) (fun S12 e12 C12 F12 => ?_)
          refine x_fall ?_
          refine x_blk (b := 3) (a_79 E) rfl ?_
          unfold b_79_3
          refine x_iinc 1 rfl rfl ?_
          refine x_X_lo (lo' := [(0, x_R 124), (1, x_I _), (2, x_I _), (3, x_I _), (4, x_I _)]) ⟨rfl, rfl, rfl, rfl, rfl, trivial⟩ ?_
          refine x_goto ?_
          refine x_G_lo (lo' := [(0, x_R 124), (1, x_I _), (2, x_I _), (3, x_I _)]) ⟨rfl, rfl, rfl, rfl, trivial⟩ ?_
          refine ih _ (by omega) _ _ rfl (by omega) (by omega) C12 (fun k m h => (x_up_nr e12 (by omega)).trans (fr k m h)) ((x_up_rw e12 (by decide)).trans h5) ((x_up_rw e12 (by decide)).trans h6) ((x_up_nr e12 (by decide)).trans h13) (fun m hm => ⟨(x_up_nr e12 (by decide)).trans (hne m hm).1, (x_up_ne e12 (fun z => hm z.2)).trans (hne m hm).2⟩) (by rw [x_up_nr e12 (by decide)]; exact cn_oq_s hq7 (by omega) (by omega) v2c (Or.inr ⟨fun z => by omega, rfl⟩)) (by rw [x_up_at e12]; exact cn_oq_s hq8 (by omega) (by omega) v2c (Or.inl ⟨by omega, by omega⟩))
        · skip
          refine x_blk (b := 3) (a_79 E) rfl ?_
          unfold b_79_3
          refine x_iinc 1 rfl rfl ?_
          refine x_X_lo (lo' := [(0, x_R 124), (1, x_I _), (2, x_I _), (3, x_I _), (4, x_I _)]) ⟨rfl, rfl, rfl, rfl, rfl, trivial⟩ ?_
          refine x_goto ?_
          refine x_G_lo (lo' := [(0, x_R 124), (1, x_I _), (2, x_I _), (3, x_I _)]) ⟨rfl, rfl, rfl, rfl, trivial⟩ ?_
          exact ih _ (by omega) _ _ rfl (by omega) (by omega) C fr h5 h6 h13 hne (cn_oq_s hq7 (by omega) (by omega) v2c (Or.inr ⟨fun z => by omega, rfl⟩)) (cn_oq_s hq8 (by omega) (by omega) v2c (Or.inr ⟨fun z => by omega, rfl⟩))
    · skip
      refine x_blk (b := 1) (a_79 E) rfl ?_
      unfold b_79_1
      refine x_vret ?_
      have e3 : q = 3 := by omega
      subst e3
      exact k _ C fr h5 h6 h13 hne ⟨cn_oq_3 hq7, cn_oq_3 hq8⟩
theorem kx_79_124 {E : q_E} {σ : x_S} {Q : Option q_V → x_S → Prop} {a1 a2 : Int} (r1 : 0 ≤ a1) (r2 : a1 ≤ 53) (n1 : 0 ≤ a2) (n2 : a2 ≤ 53) (C0 : y_CI σ) (k : ∀ τ, y_CI τ → (∀ k m, (k < 124 ∨ 132 < k ∨ (125 ≤ k ∧ k ≤ 128) ∨ (k = 124 ∧ m ≠ 13)) → τ k m = σ k m) → τ 129 = y_wK (σ 129) a2.toNat a1 → τ 130 = y_wK (σ 130) a1.toNat 1 → τ 124 13 = a2 + 1 → (∀ m, m ≠ a1.toNat → τ 131 m = σ 131 m ∧ τ 132 m = σ 132 m) → (τ 131 a1.toNat = cn_on 1 a1 ∧ τ 132 a1.toNat = cn_on 2 a1) → Q none τ) : x_P E 79 [x_R 124, x_I a1, x_I a2] σ Q := by
  refine x_Mt e_79 (h_79 E) (Nat.le_of_ble_eq_true rfl) t_79 rfl ?_
  refine x_blk (b := 0) (a_79 E) rfl ?_
  unfold b_79_0
  refine x_aload rfl ?_
  refine x_getR (r := 124) rfl (by decide) (by decide) rfl ?_
  refine x_iload rfl ?_
  refine x_push 1 rfl ?_
  refine x_astZG y_a130 C0 (by decide) (y_fr_rf (lo := 0) (hi := 138)) (by omega) (by omega) (by omega) (by omega) (fun S1 e1 C1 F1 => ?_)
  refine x_aload rfl ?_
  refine x_getR (r := 124) rfl (by decide) (by decide) rfl ?_
  refine x_iload rfl ?_
  refine x_iload rfl ?_
  refine x_astG y_a129 C1 (by decide) F1 (by omega) (by omega) (by omega) (by omega) (fun S2 e2 C2 F2 => ?_)
  refine x_aload rfl ?_
  refine x_iload rfl ?_
  refine x_push 1 rfl ?_
  refine x_iadd ?_
  refine x_putIG y_f124_13 ⟨by decide, rfl⟩ (by decide) C2 (by decide) F2 (by omega) (by omega) (fun S3 e3 C3 F3 => ?_)
  refine x_aload rfl ?_
  refine x_getR (r := 124) rfl (by decide) (by decide) rfl ?_
  refine x_iload rfl ?_
  refine x_push 0 rfl ?_
  refine x_astG y_a131 C3 (by decide) F3 (by omega) (by omega) (by omega) (by omega) (fun S4 e4 C4 F4 => ?_)
  refine x_aload rfl ?_
  refine x_getR (r := 124) rfl (by decide) (by decide) rfl ?_
  refine x_iload rfl ?_
  refine x_push 0 rfl ?_
  refine x_astG y_a132 C4 (by decide) F4 (by omega) (by omega) (by omega) (by omega) (fun S5 e5 C5 F5 => ?_)
  refine x_push 0 rfl ?_
  refine x_istore ?_
  refine x_fall ?_
  refine x_G_lo (lo' := [(0, x_R 124), (1, x_I _), (2, x_I _), (3, x_I _)]) ⟨rfl, rfl, rfl, rfl, trivial⟩ ?_
  refine kx_79_124_b4 r1 r2 n1 n2 C0 k _ 0 _ rfl (by omega) (by omega) C5 (fun k m h => by rw [x_up_nr e5 (by omega), x_up_nr e4 (by omega), x_up_ne e3 (fun z => by omega), x_up_nr e2 (by omega), x_up_nr e1 (by omega)]) ?_ ?_ ?_ (fun m hm => ⟨?_, ?_⟩) ?_ ?_
  · rw [x_up_rw e5 (by decide), x_up_rw e4 (by decide), x_up_rw e3 (by decide), x_up_row e2, x_up_rw e1 (by decide)]
  · rw [x_up_rw e5 (by decide), x_up_rw e4 (by decide), x_up_rw e3 (by decide), x_up_rw e2 (by decide)]; exact x_up_row e1
  · rw [x_up_nr e5 (by decide), x_up_nr e4 (by decide)]; exact x_up_at e3
  · rw [x_up_nr e5 (by decide), x_up_ne e4 (fun z => hm z.2), x_up_nr e3 (by decide), x_up_nr e2 (by decide), x_up_nr e1 (by decide)]
  · rw [x_up_ne e5 (fun z => hm z.2), x_up_nr e4 (by decide), x_up_nr e3 (by decide), x_up_nr e2 (by decide), x_up_nr e1 (by decide)]
  · rw [x_up_nr e5 (by decide), x_up_at e4]; exact Or.inl ⟨rfl, rfl⟩
  · rw [x_up_at e5]; exact Or.inl ⟨rfl, rfl⟩
