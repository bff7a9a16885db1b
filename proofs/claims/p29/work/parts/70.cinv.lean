def y_BT : List (List (Int × Int)) := [[(-2147483648, 2147483647), (-2147483648, 2147483647), (-2147483648, 2147483647), (-2147483648, 2147483647), (-2147483648, 2147483647), (-2147483648, 2147483647), (-2147483648, 2147483647), (-2147483648, 2147483647), (-2147483648, 2147483647), (-2147483648, 2147483647), (-2147483648, 2147483647), (-2147483648, 2147483647)], [(-2147483648, 2147483647), (-2147483648, 2147483647), (0, 200), (0, 200), (0, 1)], [(0, 65535)], [(0, 15)], [(-2147483648, 2147483647), (-2147483648, 2147483647), (-2147483648, 2147483647), (-2147483648, 2147483647), (-2147483648, 2147483647), (-2147483648, 2147483647), (0, 16)], [(0, 15)], [(0, 11)], [(0, 3)], [(0, 1)], [(0, 15)], [(-4, 15)], [(-2147483648, 2147483647), (-2147483648, 2147483647), (-2147483648, 2147483647), (-2147483648, 2147483647), (-2147483648, 2147483647), (-2147483648, 2147483647), (0, 16)], [(0, 15)], [(0, 11)], [(0, 3)], [(0, 1)], [(0, 15)], [(-4, 15)], [(-2147483648, 2147483647), (0, 7), (0, 8)], [], [(-2147483648, 2147483647), (-2147483648, 2147483647), (-2147483648, 2147483647), (-2147483648, 2147483647), (-2147483648, 2147483647), (-2147483648, 2147483647), (0, 16)], [(0, 15)], [(0, 11)], [(0, 3)], [(0, 1)], [(0, 15)], [(-4, 15)], [(-2147483648, 2147483647), (-2147483648, 2147483647), (-2147483648, 2147483647), (-2147483648, 2147483647), (-2147483648, 2147483647), (-2147483648, 2147483647), (0, 16)], [(0, 15)], [(0, 11)], [(0, 3)], [(0, 1)], [(0, 15)], [(-4, 15)], [(-2147483648, 2147483647), (-2147483648, 2147483647), (-2147483648, 2147483647), (-2147483648, 2147483647), (-2147483648, 2147483647), (-2147483648, 2147483647), (0, 16)], [(0, 15)], [(0, 11)], [(0, 3)], [(0, 1)], [(0, 15)], [(-4, 15)], [(-2147483648, 2147483647), (-2147483648, 2147483647), (-2147483648, 2147483647), (-2147483648, 2147483647), (-2147483648, 2147483647), (-2147483648, 2147483647), (0, 16)], [(0, 15)], [(0, 11)], [(0, 3)], [(0, 1)], [(0, 15)], [(-4, 15)], [(-2147483648, 2147483647), (-2147483648, 2147483647), (-2147483648, 2147483647), (-2147483648, 2147483647), (-2147483648, 2147483647), (-2147483648, 2147483647), (0, 16)], [(0, 15)], [(0, 11)], [(0, 3)], [(0, 1)], [(0, 15)], [(-4, 15)], [(-2147483648, 2147483647), (-2147483648, 2147483647), (-2147483648, 2147483647), (-2147483648, 2147483647), (-2147483648, 2147483647), (-2147483648, 2147483647), (0, 16)], [(0, 15)], [(0, 11)], [(0, 3)], [(0, 1)], [(0, 15)], [(-4, 15)], [(-2147483648, 2147483647), (-2147483648, 2147483647), (-2147483648, 2147483647), (-2147483648, 2147483647), (-2147483648, 2147483647), (-2147483648, 2147483647), (0, 16)], [(0, 15)], [(0, 11)], [(0, 3)], [(0, 1)], [(0, 15)], [(-4, 15)], [(-2147483648, 2147483647), (-2147483648, 2147483647), (-2147483648, 2147483647), (-2147483648, 2147483647), (-2147483648, 2147483647), (-2147483648, 2147483647), (0, 16)], [(0, 15)], [(0, 11)], [(0, 3)], [(0, 1)], [(0, 15)], [(-4, 15)], [(-2147483648, 2147483647), (0, 1), (0, 2)], [], [(-2147483648, 2147483647), (-2147483648, 2147483647), (-2147483648, 2147483647), (-2147483648, 2147483647), (-2147483648, 2147483647), (-2147483648, 2147483647), (0, 16)], [(0, 15)], [(0, 11)], [(0, 3)], [(0, 1)], [(0, 15)], [(-4, 15)], [(-2147483648, 2147483647), (-2147483648, 2147483647), (-2147483648, 2147483647), (-2147483648, 2147483647), (-2147483648, 2147483647), (-2147483648, 2147483647), (0, 16)], [(0, 15)], [(0, 11)], [(0, 3)], [(0, 1)], [(0, 15)], [(-4, 15)], [(-2147483648, 2147483647), (-2147483648, 2147483647), (-2147483648, 2147483647), (0, 40)], [(-4, 15)], [(-2147483648, 2147483647)], [(0, 1)], [(-2147483648, 2147483647), (-2147483648, 2147483647), (-2147483648, 2147483647), (0, 40)], [(-4, 15)], [(-2147483648, 2147483647)], [(0, 1)], [(-2147483648, 2147483647), (-2147483648, 2147483647)], [(-2147483648, 2147483647), (-2147483648, 2147483647), (-2147483648, 2147483647), (0, 40)], [(-4, 15)], [(-2147483648, 2147483647)], [(0, 1)], [(-2147483648, 2147483647), (-2147483648, 2147483647), (-2147483648, 2147483647), (-2147483648, 2147483647), (-2147483648, 2147483647), (0, 40), (0, 80)], [(-4, 15)], [(-2147483648, 2147483647)], [(0, 2147483647)], [(0, 15)], [(-2147483648, 2147483647)], [(0, 1), (-2147483648, 2147483647), (-2147483648, 2147483647), (-2147483648, 2147483647), (-2147483648, 2147483647), (-2147483648, 2147483647), (-2147483648, 2147483647), (-2147483648, 2147483647), (-2147483648, 2147483647), (-2147483648, 2147483647), (-2147483648, 2147483647), (-2147483648, 2147483647), (-2147483648, 2147483647), (0, 54), (0, 1)], [(-2147483648, 2147483647)], [(-2147483648, 2147483647)], [(-2147483648, 2147483647)], [(0, 41)], [(0, 53)], [(0, 1)], [(0, 7)], [(0, 7)], [(-4, 15)], [(-2147483648, 2147483647)], [], [], [(0, 1), (-2147483648, 2147483647), (-2147483648, 2147483647), (-2147483648, 2147483647), (-2147483648, 2147483647), (-2147483648, 2147483647), (-2147483648, 2147483647), (-2147483648, 2147483647), (-2147483648, 2147483647), (-2147483648, 2147483647), (-2147483648, 2147483647), (-2147483648, 2147483647), (-2147483648, 2147483647), (0, 54), (0, 1)], [(-2147483648, 2147483647)], [(-2147483648, 2147483647)], [(-2147483648, 2147483647)], [(0, 41)], [(0, 53)], [(0, 1)], [(0, 7)], [(0, 7)], [(-4, 15)], [(-2147483648, 2147483647)], [], [], [(0, 15)]]
def y_bn (r k : Nat) : Int × Int := match y_BT.getD r [] with
  | [b] => b
  | l => l.getD k (-2147483648, 2147483647)
/-- every word of the class's cells lies in its range -/
def y_CI (σ : x_S) : Prop := ∀ r k, r < 138 → x_tag r ≠ 1 → k < x_len r → (y_bn r k).1 ≤ σ r k ∧ σ r k ≤ (y_bn r k).2
/-- nothing has changed but cells from one to another, the class's text not either -/
def y_fq (lo hi : Nat) (σ τ : x_S) : Prop := ∀ r k, (r < lo ∨ hi ≤ r ∨ r = 2 ∨ (r = 1 ∧ k = 2)) → τ r k = σ r k
/-- the reference, and the class's text, are as they were -/
abbrev y_fr (σ τ : x_S) : Prop := y_fq 0 138 σ τ
theorem y_fr_rf {lo hi : Nat} {σ : x_S} : y_fq lo hi σ σ := fun _ _ _ => rfl
theorem y_fr_tr {lo hi : Nat} {a b c : x_S} (h1 : y_fq lo hi a b) (h2 : y_fq lo hi b c) : y_fq lo hi a c := fun r k h => (h2 r k h).trans (h1 r k h)
theorem y_fq_w {lo hi lo' hi' : Nat} {a b : x_S} (hl : lo ≤ lo' ∧ hi' ≤ hi) (h : y_fq lo' hi' a b) : y_fq lo hi a b := fun r k g => h r k (by omega)
theorem y_fq_tr {lo hi lo' hi' : Nat} {a b c : x_S} (hl : lo ≤ lo' ∧ hi' ≤ hi) (h1 : y_fq lo hi a b) (h2 : y_fq lo' hi' b c) : y_fq lo hi a c := y_fr_tr h1 (y_fq_w hl h2)
theorem y_fr_up {lo hi : Nat} {σ τ : x_S} {r k : Nat} {v : Int} (e : τ = x_up σ r k v) (h1 : lo ≤ r ∧ r < hi) (h2 : r ≠ 2) (h3 : ¬ (r = 1 ∧ k = 2)) : y_fq lo hi σ τ := by
  intro r' k' h
  refine x_up_ne e (fun z => ?_)
  obtain ⟨z1, z2⟩ := z
  subst z1; subst z2
  rcases h with h | h | h | h
  · omega
  · omega
  · exact h2 h
  · exact h3 h
theorem y_CI_up {σ τ : x_S} {r k : Nat} {v lo hi : Int} (C : y_CI σ) (e : τ = x_up σ r k v) (hb : y_bn r k = (lo, hi)) (h1 : lo ≤ v) (h2 : v ≤ hi) : y_CI τ := by
  intro r' k' a b c
  by_cases z : r' = r ∧ k' = k
  · obtain ⟨z1, z2⟩ := z
    subst z1; subst z2
    rw [x_up_at e, hb]
    exact ⟨h1, h2⟩
  · rw [x_up_ne e z]
    exact C r' k' a b c
theorem y_CI_upL {σ τ : x_S} {r k : Nat} {v : Int} (C : y_CI σ) (e : τ = x_up σ r k v) (ht : x_tag r = 1) : y_CI τ := by
  intro r' k' a b c
  rw [x_up_ne e (fun z => b (by rw [z.1]; exact ht))]
  exact C r' k' a b c
/-- a row of the class: its kind, its length, its range -/
def y_ar (t r n : Nat) (lo hi : Int) : Prop := x_tag r = t ∧ x_len r = n ∧ n ≤ 2147483647 ∧ (∀ z, x_rf r z = 0) ∧ r < 138 ∧ (∀ k, y_bn r k = (lo, hi)) ∧ -2147483648 ≤ lo ∧ hi ≤ 2147483647 ∧ r ≠ 2 ∧ r ≠ 1
/-- a word of an object of the class -/
def y_fd (t r k : Nat) (lo hi : Int) : Prop := x_tag r = t ∧ 5 ≤ t ∧ t < 99 ∧ k < x_len r ∧ x_rf r k = 0 ∧ r < 138 ∧ y_bn r k = (lo, hi) ∧ -2147483648 ≤ lo ∧ hi ≤ 2147483647
theorem x_cp_nr {σ τ : x_S} {r sp r' dp n q k : Nat} (e : τ = x_cp σ r sp r' dp n) (h : q ≠ r') : τ q k = σ q k := by
  rw [e]; exact if_neg (fun z => h z.1)
section
variable {E : q_E} {M : q_M} {Q : Option q_V → x_S → Prop} {tg : Nat → Nat} {cs : List q_Op} {lo : q_Lo} {st : List q_V} {σ σ0 : x_S} {fl fh : Nat}
theorem x_X_lo {lo' : q_Lo} (hl : x_sb lo' lo) (k : x_X E M Q tg cs lo' st σ) : x_X E M Q tg cs lo st σ := fun B lo2 h hB hlo hs hg => k B lo2 h hB (x_le_tr (x_sb_le hl) hlo) hs hg
theorem x_ialdG {r n : Nat} {l h i : Int} (a : y_ar 0 r n l h) (C : y_CI σ) (hi : 0 ≤ i) (hn : i < n) (kk : ∀ v, l ≤ v → v ≤ h → x_X E M Q tg cs lo (x_I v :: st) σ) : x_X E M Q tg (o_iald0 :: cs) lo (x_I i :: x_R r :: st) σ := by
  obtain ⟨a1, a2, a3, a4, a5, a6, a7, a8, a9, a10⟩ := a
  have c := C r i.toNat a5 (by omega) (by omega)
  rw [a6] at c
  exact x_iald a1 a2 (by omega) a4 rfl hi hn (fun _ _ => kk _ c.1 c.2)
theorem x_aldG {r n : Nat} {l h i : Int} (a : y_ar 3 r n l h) (C : y_CI σ) (hi : 0 ≤ i) (hn : i < n) (kk : ∀ v, l ≤ v → v ≤ h → x_X E M Q tg cs lo (x_I v :: st) σ) : x_X E M Q tg (o_ald 3 :: cs) lo (x_I i :: x_R r :: st) σ := by
  obtain ⟨a1, a2, a3, a4, a5, a6, a7, a8, a9, a10⟩ := a
  have c := C r i.toNat a5 (by omega) (by omega)
  rw [a6] at c
  exact x_ald a1 (by decide) a2 (by omega) a4 rfl hi hn (fun _ _ => kk _ c.1 c.2)
theorem x_astG {r n : Nat} {l h i v : Int} (a : y_ar 0 r n l h) (C : y_CI σ) (hq : fl ≤ r ∧ r < fh) (F : y_fq fl fh σ0 σ) (hi : 0 ≤ i) (hn : i < n) (h1 : l ≤ v) (h2 : v ≤ h) (kk : ∀ τ, τ = x_up σ r i.toNat v → y_CI τ → y_fq fl fh σ0 τ → x_X E M Q tg cs lo st τ) : x_X E M Q tg (o_ast 0 18446744073709551616 :: cs) lo (x_I v :: x_I i :: x_R r :: st) σ := by
  obtain ⟨a1, a2, a3, a4, a5, a6, a7, a8, a9, a10⟩ := a
  exact x_ast a1 a2 (by omega) a4 rfl hi hn (by omega) (by omega) (fun τ e => kk τ e (y_CI_up C e (a6 _) h1 h2) (y_fr_tr F (y_fr_up e hq a9 (fun z => a10 z.1))))
theorem x_astZG {r n : Nat} {l h i v : Int} (a : y_ar 3 r n l h) (C : y_CI σ) (hq : fl ≤ r ∧ r < fh) (F : y_fq fl fh σ0 σ) (hi : 0 ≤ i) (hn : i < n) (hv : v = 0 ∨ v = 1) (hb : l ≤ v ∧ v ≤ h) (kk : ∀ τ, τ = x_up σ r i.toNat v → y_CI τ → y_fq fl fh σ0 τ → x_X E M Q tg cs lo st τ) : x_X E M Q tg (o_ast 3 2 :: cs) lo (x_I v :: x_I i :: x_R r :: st) σ := by
  obtain ⟨a1, a2, a3, a4, a5, a6, a7, a8, a9, a10⟩ := a
  exact x_astZ a1 a2 (by omega) a4 rfl hi hn hv (fun τ e => kk τ e (y_CI_up C e (a6 _) hb.1 hb.2) (y_fr_tr F (y_fr_up e hq a9 (fun z => a10 z.1))))
theorem x_lastG {r n a : Nat} {i : Int} (hr : x_tag r = 1) (hl : x_len r = n) (hb : n ≤ 2147483647) (hf : ∀ z, x_rf r z = 0) (h138 : r < 138 ∧ r ≠ 2 ∧ r ≠ 1) (C : y_CI σ) (hq : fl ≤ r ∧ r < fh) (F : y_fq fl fh σ0 σ) (hi : 0 ≤ i) (hn : i < n) (kk : ∀ τ v, τ = x_up σ r i.toNat v → y_CI τ → y_fq fl fh σ0 τ → x_X E M Q tg cs lo st τ) : x_X E M Q tg (o_last :: cs) lo (x_N a :: x_I i :: x_R r :: st) σ :=
  x_last hr hl hb hf hi hn (fun τ v e => kk τ v e (y_CI_upL C e hr) (y_fr_tr F (y_fr_up e hq h138.2.1 (fun z => h138.2.2 z.1))))
theorem x_getIG {t r k : Nat} {l h : Int} (a : y_fd t r k l h) (C : y_CI σ) (kk : l ≤ σ r k → σ r k ≤ h → x_X E M Q tg cs lo (x_I (σ r k) :: st) σ) : x_X E M Q tg (o_getI t k :: cs) lo (x_R r :: st) σ := by
  obtain ⟨a1, a2, a3, a4, a5, a6, a7, a8, a9⟩ := a
  have c := C r k a6 (by omega) a4
  rw [a7] at c
  exact x_getI a1 a2 a3 a4 a5 (fun _ _ => kk c.1 c.2)
theorem x_putIG {t r k top : Nat} {l h v : Int} (a : y_fd t r k l h) (htop : 4294967296 ≤ top ∧ x_top t k = 4294967296) (hne : ¬ (r = 1 ∧ k = 2)) (C : y_CI σ) (hq : fl ≤ r ∧ r < fh) (F : y_fq fl fh σ0 σ) (h1 : l ≤ v) (h2 : v ≤ h) (kk : ∀ τ, τ = x_up σ r k v → y_CI τ → y_fq fl fh σ0 τ → x_X E M Q tg cs lo st τ) : x_X E M Q tg (o_putI t k top :: cs) lo (x_I v :: x_R r :: st) σ := by
  obtain ⟨a1, a2, a3, a4, a5, a6, a7, a8, a9⟩ := a
  have r2 : r ≠ 2 := fun z => by
    subst z
    have h2 : x_tag 2 = 2 := rfl
    omega
  exact x_putI a1 a2 a3 a4 a5 htop (by omega) (by omega) (fun τ e => kk τ e (y_CI_up C e a7 h1 h2) (y_fr_tr F (y_fr_up e hq r2 hne)))
theorem x_putZG {t r k : Nat} {l h v : Int} (a : y_fd t r k l h) (htop : x_top t k = 2) (hne : ¬ (r = 1 ∧ k = 2) ∧ l ≤ 0 ∧ 1 ≤ h) (C : y_CI σ) (hq : fl ≤ r ∧ r < fh) (F : y_fq fl fh σ0 σ) (hv : v = 0 ∨ v = 1) (kk : ∀ τ, τ = x_up σ r k v → y_CI τ → y_fq fl fh σ0 τ → x_X E M Q tg cs lo st τ) : x_X E M Q tg (o_putI t k 2 :: cs) lo (x_I v :: x_R r :: st) σ := by
  obtain ⟨a1, a2, a3, a4, a5, a6, a7, a8, a9⟩ := a
  have r2 : r ≠ 2 := fun z => by
    subst z
    have h2 : x_tag 2 = 2 := rfl
    omega
  exact x_putZ a1 a2 a3 a4 a5 htop hv (fun τ e => kk τ e (y_CI_up C e a7 (by omega) (by omega)) (y_fr_tr F (y_fr_up e hq r2 hne.1)))
theorem x_copyG {lR r r' n n' : Nat} {l h l' h' sp dp m : Int} (a : y_ar 0 r n l h) (a' : y_ar 0 r' n' l' h') (hl : l' ≤ l) (hh : h ≤ h') (C : y_CI σ) (hq : fl ≤ r' ∧ r' < fh) (F : y_fq fl fh σ0 σ) (h1 : 0 ≤ sp) (h2 : 0 ≤ dp) (h3 : 0 ≤ m) (h4 : sp + m ≤ n) (h5 : dp + m ≤ n') (hw : q_wd st + 18 ≤ lR) (kk : ∀ τ, τ = x_cp σ r sp.toNat r' dp.toNat m.toNat → y_CI τ → y_fq fl fh σ0 τ → x_X E M Q tg cs lo st τ) : x_X E M Q tg (o_copy lR :: cs) lo (x_I m :: x_I dp :: x_R r' :: x_I sp :: x_R r :: st) σ := by
  obtain ⟨a1, a2, a3, a4, a5, a6, a7, a8, a9, a10⟩ := a
  obtain ⟨b1, b2, b3, b4, b5, b6, b7, b8, b9, b10⟩ := a'
  refine x_copy a1 b1 h1 h2 h3 (by omega) (by omega) (by omega) (by omega) hw a4 b4 (fun τ e => kk τ e ?_ (y_fr_tr F ?_))
  · intro q k c1 c2 c3
    by_cases z : q = r' ∧ dp.toNat ≤ k ∧ k < dp.toNat + m.toNat
    · have hv : τ q k = σ r (sp.toNat + (k - dp.toNat)) := by rw [e]; exact if_pos z
      have c := C r (sp.toNat + (k - dp.toNat)) a5 (by omega) (by omega)
      rw [a6] at c
      rw [hv, z.1, b6]
      exact ⟨Int.le_trans hl c.1, Int.le_trans c.2 hh⟩
    · have hv : τ q k = σ q k := by rw [e]; exact if_neg z
      rw [hv]
      exact C q k c1 c2 c3
  · intro q k hz
    refine x_cp_nr e (fun z => ?_)
    subst z
    rcases hz with hz | hz | hz | hz
    · omega
    · omega
    · exact b9 hz
    · exact b10 hz.1
theorem x_lenG {r t n : Nat} {L : Int} (hr : x_tag r = t) (ht : t < 5) (hl : x_len r = n) (hb : n ≤ 2147483647) (hL : (n : Int) = L) (kk : x_X E M Q tg cs lo (x_I L :: st) σ) : x_X E M Q tg (o_len0 :: cs) lo (x_R r :: st) σ := by
  subst hL
  exact x_lenq hr ht hl hb kk
theorem x_chiG {i : Int} (hi : 0 ≤ i) (hn : i < 5) (kk : ∀ v, 0 ≤ v → v ≤ 2 → x_X E M Q tg cs lo (x_I v :: st) σ) : x_X E M Q tg (o_iald0 :: cs) lo (x_I i :: x_Z 1 :: st) σ := by
  refine x_chi hi hn ?_
  have h5 : i.toNat = 0 ∨ i.toNat = 1 ∨ i.toNat = 2 ∨ i.toNat = 3 ∨ i.toNat = 4 := by omega
  rcases h5 with e | e | e | e | e <;> (rw [e]; exact kk _ (by decide) (by decide))
theorem x_shl1G {c : Int} (h1 : 0 ≤ c) (h2 : c ≤ 2) (k : ∀ v, 1 ≤ v → v ≤ 4 → x_X E M Q tg cs lo (x_I v :: st) σ) : x_X E M Q tg (o_binc g_ishl f_ishl :: cs) lo (x_I c :: x_I 1 :: st) σ := x_shl1 h1 h2 (k _ (y_pw_b c).1 (y_pw_b c).2)
theorem x_aaldG {r n : Nat} {i : Int} (hr : x_tag r = 4) (hl : x_len r = n) (hb : n ≤ 2147483647) (hi : 0 ≤ i) (hn : i < n) (kk : ∀ q : Nat, i.toNat = q ∧ q < n → x_X E M Q tg (o_aald :: cs) lo (x_I i :: x_R r :: st) σ) : x_X E M Q tg (o_aald :: cs) lo (x_I i :: x_R r :: st) σ := kk i.toNat ⟨rfl, by omega⟩
end

theorem y_f1_2 : y_fd 8 1 2 0 200 := ⟨rfl, by decide, by decide, by decide, rfl, by decide, rfl, by decide, by decide⟩
theorem y_f1_3 : y_fd 8 1 3 0 200 := ⟨rfl, by decide, by decide, by decide, rfl, by decide, rfl, by decide, by decide⟩
theorem y_f1_4 : y_fd 8 1 4 0 1 := ⟨rfl, by decide, by decide, by decide, rfl, by decide, rfl, by decide, by decide⟩
theorem y_a3 : y_ar 0 3 12 0 15 := ⟨rfl, rfl, by decide, fun _ => rfl, by decide, fun _ => rfl, by decide, by decide, by decide, by decide⟩
theorem y_f4_6 : y_fd 7 4 6 0 16 := ⟨rfl, by decide, by decide, by decide, rfl, by decide, rfl, by decide, by decide⟩
theorem y_a5 : y_ar 0 5 33 0 15 := ⟨rfl, rfl, by decide, fun _ => rfl, by decide, fun _ => rfl, by decide, by decide, by decide, by decide⟩
theorem y_a6 : y_ar 0 6 3 0 11 := ⟨rfl, rfl, by decide, fun _ => rfl, by decide, fun _ => rfl, by decide, by decide, by decide, by decide⟩
theorem y_a7 : y_ar 0 7 2 0 3 := ⟨rfl, rfl, by decide, fun _ => rfl, by decide, fun _ => rfl, by decide, by decide, by decide, by decide⟩
theorem y_a8 : y_ar 0 8 40 0 1 := ⟨rfl, rfl, by decide, fun _ => rfl, by decide, fun _ => rfl, by decide, by decide, by decide, by decide⟩
theorem y_a9 : y_ar 0 9 192 0 15 := ⟨rfl, rfl, by decide, fun _ => rfl, by decide, fun _ => rfl, by decide, by decide, by decide, by decide⟩
theorem y_a10 : y_ar 0 10 90 (-4) 15 := ⟨rfl, rfl, by decide, fun _ => rfl, by decide, fun _ => rfl, by decide, by decide, by decide, by decide⟩
theorem y_f11_6 : y_fd 7 11 6 0 16 := ⟨rfl, by decide, by decide, by decide, rfl, by decide, rfl, by decide, by decide⟩
theorem y_a12 : y_ar 0 12 33 0 15 := ⟨rfl, rfl, by decide, fun _ => rfl, by decide, fun _ => rfl, by decide, by decide, by decide, by decide⟩
theorem y_a13 : y_ar 0 13 3 0 11 := ⟨rfl, rfl, by decide, fun _ => rfl, by decide, fun _ => rfl, by decide, by decide, by decide, by decide⟩
theorem y_a14 : y_ar 0 14 2 0 3 := ⟨rfl, rfl, by decide, fun _ => rfl, by decide, fun _ => rfl, by decide, by decide, by decide, by decide⟩
theorem y_a15 : y_ar 0 15 40 0 1 := ⟨rfl, rfl, by decide, fun _ => rfl, by decide, fun _ => rfl, by decide, by decide, by decide, by decide⟩
theorem y_a16 : y_ar 0 16 192 0 15 := ⟨rfl, rfl, by decide, fun _ => rfl, by decide, fun _ => rfl, by decide, by decide, by decide, by decide⟩
theorem y_a17 : y_ar 0 17 90 (-4) 15 := ⟨rfl, rfl, by decide, fun _ => rfl, by decide, fun _ => rfl, by decide, by decide, by decide, by decide⟩
theorem y_f18_1 : y_fd 9 18 1 0 7 := ⟨rfl, by decide, by decide, by decide, rfl, by decide, rfl, by decide, by decide⟩
theorem y_f18_2 : y_fd 9 18 2 0 8 := ⟨rfl, by decide, by decide, by decide, rfl, by decide, rfl, by decide, by decide⟩
theorem y_f20_6 : y_fd 7 20 6 0 16 := ⟨rfl, by decide, by decide, by decide, rfl, by decide, rfl, by decide, by decide⟩
theorem y_a21 : y_ar 0 21 33 0 15 := ⟨rfl, rfl, by decide, fun _ => rfl, by decide, fun _ => rfl, by decide, by decide, by decide, by decide⟩
theorem y_a22 : y_ar 0 22 3 0 11 := ⟨rfl, rfl, by decide, fun _ => rfl, by decide, fun _ => rfl, by decide, by decide, by decide, by decide⟩
theorem y_a23 : y_ar 0 23 2 0 3 := ⟨rfl, rfl, by decide, fun _ => rfl, by decide, fun _ => rfl, by decide, by decide, by decide, by decide⟩
theorem y_a24 : y_ar 0 24 40 0 1 := ⟨rfl, rfl, by decide, fun _ => rfl, by decide, fun _ => rfl, by decide, by decide, by decide, by decide⟩
theorem y_a25 : y_ar 0 25 192 0 15 := ⟨rfl, rfl, by decide, fun _ => rfl, by decide, fun _ => rfl, by decide, by decide, by decide, by decide⟩
theorem y_a26 : y_ar 0 26 90 (-4) 15 := ⟨rfl, rfl, by decide, fun _ => rfl, by decide, fun _ => rfl, by decide, by decide, by decide, by decide⟩
theorem y_f27_6 : y_fd 7 27 6 0 16 := ⟨rfl, by decide, by decide, by decide, rfl, by decide, rfl, by decide, by decide⟩
theorem y_a28 : y_ar 0 28 33 0 15 := ⟨rfl, rfl, by decide, fun _ => rfl, by decide, fun _ => rfl, by decide, by decide, by decide, by decide⟩
theorem y_a29 : y_ar 0 29 3 0 11 := ⟨rfl, rfl, by decide, fun _ => rfl, by decide, fun _ => rfl, by decide, by decide, by decide, by decide⟩
theorem y_a30 : y_ar 0 30 2 0 3 := ⟨rfl, rfl, by decide, fun _ => rfl, by decide, fun _ => rfl, by decide, by decide, by decide, by decide⟩
theorem y_a31 : y_ar 0 31 40 0 1 := ⟨rfl, rfl, by decide, fun _ => rfl, by decide, fun _ => rfl, by decide, by decide, by decide, by decide⟩
theorem y_a32 : y_ar 0 32 192 0 15 := ⟨rfl, rfl, by decide, fun _ => rfl, by decide, fun _ => rfl, by decide, by decide, by decide, by decide⟩
theorem y_a33 : y_ar 0 33 90 (-4) 15 := ⟨rfl, rfl, by decide, fun _ => rfl, by decide, fun _ => rfl, by decide, by decide, by decide, by decide⟩
theorem y_f34_6 : y_fd 7 34 6 0 16 := ⟨rfl, by decide, by decide, by decide, rfl, by decide, rfl, by decide, by decide⟩
theorem y_a35 : y_ar 0 35 33 0 15 := ⟨rfl, rfl, by decide, fun _ => rfl, by decide, fun _ => rfl, by decide, by decide, by decide, by decide⟩
theorem y_a36 : y_ar 0 36 3 0 11 := ⟨rfl, rfl, by decide, fun _ => rfl, by decide, fun _ => rfl, by decide, by decide, by decide, by decide⟩
theorem y_a37 : y_ar 0 37 2 0 3 := ⟨rfl, rfl, by decide, fun _ => rfl, by decide, fun _ => rfl, by decide, by decide, by decide, by decide⟩
theorem y_a38 : y_ar 0 38 40 0 1 := ⟨rfl, rfl, by decide, fun _ => rfl, by decide, fun _ => rfl, by decide, by decide, by decide, by decide⟩
theorem y_a39 : y_ar 0 39 192 0 15 := ⟨rfl, rfl, by decide, fun _ => rfl, by decide, fun _ => rfl, by decide, by decide, by decide, by decide⟩
theorem y_a40 : y_ar 0 40 90 (-4) 15 := ⟨rfl, rfl, by decide, fun _ => rfl, by decide, fun _ => rfl, by decide, by decide, by decide, by decide⟩
theorem y_f41_6 : y_fd 7 41 6 0 16 := ⟨rfl, by decide, by decide, by decide, rfl, by decide, rfl, by decide, by decide⟩
theorem y_a42 : y_ar 0 42 33 0 15 := ⟨rfl, rfl, by decide, fun _ => rfl, by decide, fun _ => rfl, by decide, by decide, by decide, by decide⟩
theorem y_a43 : y_ar 0 43 3 0 11 := ⟨rfl, rfl, by decide, fun _ => rfl, by decide, fun _ => rfl, by decide, by decide, by decide, by decide⟩
theorem y_a44 : y_ar 0 44 2 0 3 := ⟨rfl, rfl, by decide, fun _ => rfl, by decide, fun _ => rfl, by decide, by decide, by decide, by decide⟩
theorem y_a45 : y_ar 0 45 40 0 1 := ⟨rfl, rfl, by decide, fun _ => rfl, by decide, fun _ => rfl, by decide, by decide, by decide, by decide⟩
theorem y_a46 : y_ar 0 46 192 0 15 := ⟨rfl, rfl, by decide, fun _ => rfl, by decide, fun _ => rfl, by decide, by decide, by decide, by decide⟩
theorem y_a47 : y_ar 0 47 90 (-4) 15 := ⟨rfl, rfl, by decide, fun _ => rfl, by decide, fun _ => rfl, by decide, by decide, by decide, by decide⟩
theorem y_f48_6 : y_fd 7 48 6 0 16 := ⟨rfl, by decide, by decide, by decide, rfl, by decide, rfl, by decide, by decide⟩
theorem y_a49 : y_ar 0 49 33 0 15 := ⟨rfl, rfl, by decide, fun _ => rfl, by decide, fun _ => rfl, by decide, by decide, by decide, by decide⟩
theorem y_a50 : y_ar 0 50 3 0 11 := ⟨rfl, rfl, by decide, fun _ => rfl, by decide, fun _ => rfl, by decide, by decide, by decide, by decide⟩
theorem y_a51 : y_ar 0 51 2 0 3 := ⟨rfl, rfl, by decide, fun _ => rfl, by decide, fun _ => rfl, by decide, by decide, by decide, by decide⟩
theorem y_a52 : y_ar 0 52 40 0 1 := ⟨rfl, rfl, by decide, fun _ => rfl, by decide, fun _ => rfl, by decide, by decide, by decide, by decide⟩
theorem y_a53 : y_ar 0 53 192 0 15 := ⟨rfl, rfl, by decide, fun _ => rfl, by decide, fun _ => rfl, by decide, by decide, by decide, by decide⟩
theorem y_a54 : y_ar 0 54 90 (-4) 15 := ⟨rfl, rfl, by decide, fun _ => rfl, by decide, fun _ => rfl, by decide, by decide, by decide, by decide⟩
theorem y_f55_6 : y_fd 7 55 6 0 16 := ⟨rfl, by decide, by decide, by decide, rfl, by decide, rfl, by decide, by decide⟩
theorem y_a56 : y_ar 0 56 33 0 15 := ⟨rfl, rfl, by decide, fun _ => rfl, by decide, fun _ => rfl, by decide, by decide, by decide, by decide⟩
theorem y_a57 : y_ar 0 57 3 0 11 := ⟨rfl, rfl, by decide, fun _ => rfl, by decide, fun _ => rfl, by decide, by decide, by decide, by decide⟩
theorem y_a58 : y_ar 0 58 2 0 3 := ⟨rfl, rfl, by decide, fun _ => rfl, by decide, fun _ => rfl, by decide, by decide, by decide, by decide⟩
theorem y_a59 : y_ar 0 59 40 0 1 := ⟨rfl, rfl, by decide, fun _ => rfl, by decide, fun _ => rfl, by decide, by decide, by decide, by decide⟩
theorem y_a60 : y_ar 0 60 192 0 15 := ⟨rfl, rfl, by decide, fun _ => rfl, by decide, fun _ => rfl, by decide, by decide, by decide, by decide⟩
theorem y_a61 : y_ar 0 61 90 (-4) 15 := ⟨rfl, rfl, by decide, fun _ => rfl, by decide, fun _ => rfl, by decide, by decide, by decide, by decide⟩
theorem y_f62_6 : y_fd 7 62 6 0 16 := ⟨rfl, by decide, by decide, by decide, rfl, by decide, rfl, by decide, by decide⟩
theorem y_a63 : y_ar 0 63 33 0 15 := ⟨rfl, rfl, by decide, fun _ => rfl, by decide, fun _ => rfl, by decide, by decide, by decide, by decide⟩
theorem y_a64 : y_ar 0 64 3 0 11 := ⟨rfl, rfl, by decide, fun _ => rfl, by decide, fun _ => rfl, by decide, by decide, by decide, by decide⟩
theorem y_a65 : y_ar 0 65 2 0 3 := ⟨rfl, rfl, by decide, fun _ => rfl, by decide, fun _ => rfl, by decide, by decide, by decide, by decide⟩
theorem y_a66 : y_ar 0 66 40 0 1 := ⟨rfl, rfl, by decide, fun _ => rfl, by decide, fun _ => rfl, by decide, by decide, by decide, by decide⟩
theorem y_a67 : y_ar 0 67 192 0 15 := ⟨rfl, rfl, by decide, fun _ => rfl, by decide, fun _ => rfl, by decide, by decide, by decide, by decide⟩
theorem y_a68 : y_ar 0 68 90 (-4) 15 := ⟨rfl, rfl, by decide, fun _ => rfl, by decide, fun _ => rfl, by decide, by decide, by decide, by decide⟩
theorem y_f69_6 : y_fd 7 69 6 0 16 := ⟨rfl, by decide, by decide, by decide, rfl, by decide, rfl, by decide, by decide⟩
theorem y_a70 : y_ar 0 70 33 0 15 := ⟨rfl, rfl, by decide, fun _ => rfl, by decide, fun _ => rfl, by decide, by decide, by decide, by decide⟩
theorem y_a71 : y_ar 0 71 3 0 11 := ⟨rfl, rfl, by decide, fun _ => rfl, by decide, fun _ => rfl, by decide, by decide, by decide, by decide⟩
theorem y_a72 : y_ar 0 72 2 0 3 := ⟨rfl, rfl, by decide, fun _ => rfl, by decide, fun _ => rfl, by decide, by decide, by decide, by decide⟩
theorem y_a73 : y_ar 0 73 40 0 1 := ⟨rfl, rfl, by decide, fun _ => rfl, by decide, fun _ => rfl, by decide, by decide, by decide, by decide⟩
theorem y_a74 : y_ar 0 74 192 0 15 := ⟨rfl, rfl, by decide, fun _ => rfl, by decide, fun _ => rfl, by decide, by decide, by decide, by decide⟩
theorem y_a75 : y_ar 0 75 90 (-4) 15 := ⟨rfl, rfl, by decide, fun _ => rfl, by decide, fun _ => rfl, by decide, by decide, by decide, by decide⟩
theorem y_f76_1 : y_fd 9 76 1 0 1 := ⟨rfl, by decide, by decide, by decide, rfl, by decide, rfl, by decide, by decide⟩
theorem y_f76_2 : y_fd 9 76 2 0 2 := ⟨rfl, by decide, by decide, by decide, rfl, by decide, rfl, by decide, by decide⟩
theorem y_f78_6 : y_fd 7 78 6 0 16 := ⟨rfl, by decide, by decide, by decide, rfl, by decide, rfl, by decide, by decide⟩
theorem y_a79 : y_ar 0 79 33 0 15 := ⟨rfl, rfl, by decide, fun _ => rfl, by decide, fun _ => rfl, by decide, by decide, by decide, by decide⟩
theorem y_a80 : y_ar 0 80 3 0 11 := ⟨rfl, rfl, by decide, fun _ => rfl, by decide, fun _ => rfl, by decide, by decide, by decide, by decide⟩
theorem y_a81 : y_ar 0 81 2 0 3 := ⟨rfl, rfl, by decide, fun _ => rfl, by decide, fun _ => rfl, by decide, by decide, by decide, by decide⟩
theorem y_a82 : y_ar 0 82 40 0 1 := ⟨rfl, rfl, by decide, fun _ => rfl, by decide, fun _ => rfl, by decide, by decide, by decide, by decide⟩
theorem y_a83 : y_ar 0 83 192 0 15 := ⟨rfl, rfl, by decide, fun _ => rfl, by decide, fun _ => rfl, by decide, by decide, by decide, by decide⟩
theorem y_a84 : y_ar 0 84 90 (-4) 15 := ⟨rfl, rfl, by decide, fun _ => rfl, by decide, fun _ => rfl, by decide, by decide, by decide, by decide⟩
theorem y_f85_6 : y_fd 7 85 6 0 16 := ⟨rfl, by decide, by decide, by decide, rfl, by decide, rfl, by decide, by decide⟩
theorem y_a86 : y_ar 0 86 33 0 15 := ⟨rfl, rfl, by decide, fun _ => rfl, by decide, fun _ => rfl, by decide, by decide, by decide, by decide⟩
theorem y_a87 : y_ar 0 87 3 0 11 := ⟨rfl, rfl, by decide, fun _ => rfl, by decide, fun _ => rfl, by decide, by decide, by decide, by decide⟩
theorem y_a88 : y_ar 0 88 2 0 3 := ⟨rfl, rfl, by decide, fun _ => rfl, by decide, fun _ => rfl, by decide, by decide, by decide, by decide⟩
theorem y_a89 : y_ar 0 89 40 0 1 := ⟨rfl, rfl, by decide, fun _ => rfl, by decide, fun _ => rfl, by decide, by decide, by decide, by decide⟩
theorem y_a90 : y_ar 0 90 192 0 15 := ⟨rfl, rfl, by decide, fun _ => rfl, by decide, fun _ => rfl, by decide, by decide, by decide, by decide⟩
theorem y_a91 : y_ar 0 91 90 (-4) 15 := ⟨rfl, rfl, by decide, fun _ => rfl, by decide, fun _ => rfl, by decide, by decide, by decide, by decide⟩
theorem y_f92_3 : y_fd 10 92 3 0 40 := ⟨rfl, by decide, by decide, by decide, rfl, by decide, rfl, by decide, by decide⟩
theorem y_a93 : y_ar 0 93 40 (-4) 15 := ⟨rfl, rfl, by decide, fun _ => rfl, by decide, fun _ => rfl, by decide, by decide, by decide, by decide⟩
theorem y_a94 : y_ar 0 94 40 (-2147483648) 2147483647 := ⟨rfl, rfl, by decide, fun _ => rfl, by decide, fun _ => rfl, by decide, by decide, by decide, by decide⟩
theorem y_a95 : y_ar 0 95 40 0 1 := ⟨rfl, rfl, by decide, fun _ => rfl, by decide, fun _ => rfl, by decide, by decide, by decide, by decide⟩
theorem y_f96_3 : y_fd 10 96 3 0 40 := ⟨rfl, by decide, by decide, by decide, rfl, by decide, rfl, by decide, by decide⟩
theorem y_a97 : y_ar 0 97 40 (-4) 15 := ⟨rfl, rfl, by decide, fun _ => rfl, by decide, fun _ => rfl, by decide, by decide, by decide, by decide⟩
theorem y_a98 : y_ar 0 98 40 (-2147483648) 2147483647 := ⟨rfl, rfl, by decide, fun _ => rfl, by decide, fun _ => rfl, by decide, by decide, by decide, by decide⟩
theorem y_a99 : y_ar 0 99 40 0 1 := ⟨rfl, rfl, by decide, fun _ => rfl, by decide, fun _ => rfl, by decide, by decide, by decide, by decide⟩
theorem y_f101_3 : y_fd 10 101 3 0 40 := ⟨rfl, by decide, by decide, by decide, rfl, by decide, rfl, by decide, by decide⟩
theorem y_a102 : y_ar 0 102 40 (-4) 15 := ⟨rfl, rfl, by decide, fun _ => rfl, by decide, fun _ => rfl, by decide, by decide, by decide, by decide⟩
theorem y_a103 : y_ar 0 103 40 (-2147483648) 2147483647 := ⟨rfl, rfl, by decide, fun _ => rfl, by decide, fun _ => rfl, by decide, by decide, by decide, by decide⟩
theorem y_a104 : y_ar 0 104 40 0 1 := ⟨rfl, rfl, by decide, fun _ => rfl, by decide, fun _ => rfl, by decide, by decide, by decide, by decide⟩
theorem y_f105_5 : y_fd 12 105 5 0 40 := ⟨rfl, by decide, by decide, by decide, rfl, by decide, rfl, by decide, by decide⟩
theorem y_f105_6 : y_fd 12 105 6 0 80 := ⟨rfl, by decide, by decide, by decide, rfl, by decide, rfl, by decide, by decide⟩
theorem y_a106 : y_ar 0 106 40 (-4) 15 := ⟨rfl, rfl, by decide, fun _ => rfl, by decide, fun _ => rfl, by decide, by decide, by decide, by decide⟩
theorem y_a107 : y_ar 0 107 40 (-2147483648) 2147483647 := ⟨rfl, rfl, by decide, fun _ => rfl, by decide, fun _ => rfl, by decide, by decide, by decide, by decide⟩
theorem y_a108 : y_ar 0 108 80 0 2147483647 := ⟨rfl, rfl, by decide, fun _ => rfl, by decide, fun _ => rfl, by decide, by decide, by decide, by decide⟩
theorem y_a109 : y_ar 0 109 80 0 15 := ⟨rfl, rfl, by decide, fun _ => rfl, by decide, fun _ => rfl, by decide, by decide, by decide, by decide⟩
theorem y_a110 : y_ar 0 110 80 (-2147483648) 2147483647 := ⟨rfl, rfl, by decide, fun _ => rfl, by decide, fun _ => rfl, by decide, by decide, by decide, by decide⟩
theorem y_f111_0 : y_fd 5 111 0 0 1 := ⟨rfl, by decide, by decide, by decide, rfl, by decide, rfl, by decide, by decide⟩
theorem y_f111_13 : y_fd 5 111 13 0 54 := ⟨rfl, by decide, by decide, by decide, rfl, by decide, rfl, by decide, by decide⟩
theorem y_f111_14 : y_fd 5 111 14 0 1 := ⟨rfl, by decide, by decide, by decide, rfl, by decide, rfl, by decide, by decide⟩
theorem y_a112 : y_ar 0 112 54 (-2147483648) 2147483647 := ⟨rfl, rfl, by decide, fun _ => rfl, by decide, fun _ => rfl, by decide, by decide, by decide, by decide⟩
theorem y_a113 : y_ar 0 113 54 (-2147483648) 2147483647 := ⟨rfl, rfl, by decide, fun _ => rfl, by decide, fun _ => rfl, by decide, by decide, by decide, by decide⟩
theorem y_a114 : y_ar 0 114 54 (-2147483648) 2147483647 := ⟨rfl, rfl, by decide, fun _ => rfl, by decide, fun _ => rfl, by decide, by decide, by decide, by decide⟩
theorem y_a115 : y_ar 0 115 54 0 41 := ⟨rfl, rfl, by decide, fun _ => rfl, by decide, fun _ => rfl, by decide, by decide, by decide, by decide⟩
theorem y_a116 : y_ar 0 116 54 0 53 := ⟨rfl, rfl, by decide, fun _ => rfl, by decide, fun _ => rfl, by decide, by decide, by decide, by decide⟩
theorem y_a117 : y_ar 3 117 54 0 1 := ⟨rfl, rfl, by decide, fun _ => rfl, by decide, fun _ => rfl, by decide, by decide, by decide, by decide⟩
theorem y_a118 : y_ar 0 118 54 0 7 := ⟨rfl, rfl, by decide, fun _ => rfl, by decide, fun _ => rfl, by decide, by decide, by decide, by decide⟩
theorem y_a119 : y_ar 0 119 54 0 7 := ⟨rfl, rfl, by decide, fun _ => rfl, by decide, fun _ => rfl, by decide, by decide, by decide, by decide⟩
theorem y_a120 : y_ar 0 120 30 (-4) 15 := ⟨rfl, rfl, by decide, fun _ => rfl, by decide, fun _ => rfl, by decide, by decide, by decide, by decide⟩
theorem y_a121 : y_ar 0 121 16 (-2147483648) 2147483647 := ⟨rfl, rfl, by decide, fun _ => rfl, by decide, fun _ => rfl, by decide, by decide, by decide, by decide⟩
theorem y_f124_0 : y_fd 5 124 0 0 1 := ⟨rfl, by decide, by decide, by decide, rfl, by decide, rfl, by decide, by decide⟩
theorem y_f124_13 : y_fd 5 124 13 0 54 := ⟨rfl, by decide, by decide, by decide, rfl, by decide, rfl, by decide, by decide⟩
theorem y_f124_14 : y_fd 5 124 14 0 1 := ⟨rfl, by decide, by decide, by decide, rfl, by decide, rfl, by decide, by decide⟩
theorem y_a125 : y_ar 0 125 54 (-2147483648) 2147483647 := ⟨rfl, rfl, by decide, fun _ => rfl, by decide, fun _ => rfl, by decide, by decide, by decide, by decide⟩
theorem y_a126 : y_ar 0 126 54 (-2147483648) 2147483647 := ⟨rfl, rfl, by decide, fun _ => rfl, by decide, fun _ => rfl, by decide, by decide, by decide, by decide⟩
theorem y_a127 : y_ar 0 127 54 (-2147483648) 2147483647 := ⟨rfl, rfl, by decide, fun _ => rfl, by decide, fun _ => rfl, by decide, by decide, by decide, by decide⟩
theorem y_a128 : y_ar 0 128 54 0 41 := ⟨rfl, rfl, by decide, fun _ => rfl, by decide, fun _ => rfl, by decide, by decide, by decide, by decide⟩
theorem y_a129 : y_ar 0 129 54 0 53 := ⟨rfl, rfl, by decide, fun _ => rfl, by decide, fun _ => rfl, by decide, by decide, by decide, by decide⟩
theorem y_a130 : y_ar 3 130 54 0 1 := ⟨rfl, rfl, by decide, fun _ => rfl, by decide, fun _ => rfl, by decide, by decide, by decide, by decide⟩
theorem y_a131 : y_ar 0 131 54 0 7 := ⟨rfl, rfl, by decide, fun _ => rfl, by decide, fun _ => rfl, by decide, by decide, by decide, by decide⟩
theorem y_a132 : y_ar 0 132 54 0 7 := ⟨rfl, rfl, by decide, fun _ => rfl, by decide, fun _ => rfl, by decide, by decide, by decide, by decide⟩
theorem y_a133 : y_ar 0 133 30 (-4) 15 := ⟨rfl, rfl, by decide, fun _ => rfl, by decide, fun _ => rfl, by decide, by decide, by decide, by decide⟩
theorem y_a134 : y_ar 0 134 16 (-2147483648) 2147483647 := ⟨rfl, rfl, by decide, fun _ => rfl, by decide, fun _ => rfl, by decide, by decide, by decide, by decide⟩
theorem y_a137 : y_ar 0 137 12 0 15 := ⟨rfl, rfl, by decide, fun _ => rfl, by decide, fun _ => rfl, by decide, by decide, by decide, by decide⟩
