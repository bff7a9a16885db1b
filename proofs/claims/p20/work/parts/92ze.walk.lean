/-! the class's walk is the machine -/
/-- a standing tree of the class -/
def y_gS (σ : x_S) (g n : Nat) (l P V : Nat → Int) : Prop := σ g 3 = n ∧ ∀ v : Nat, v < n → σ (g + 1) v = l v ∧ σ (g + 2) v = P v - v ∧ σ (g + 3) v = V v
theorem y_gS_fr {σ τ : x_S} {g n : Nat} {l P V : Nat → Int} (f : ∀ c m, g ≤ c → c ≤ g + 3 → τ c m = σ c m) (h : y_gS σ g n l P V) : y_gS τ g n l P V := ⟨(f _ _ (by omega) (by omega)).trans h.1, fun v hv => ⟨(f _ _ (by omega) (by omega)).trans (h.2 v hv).1, (f _ _ (by omega) (by omega)).trans (h.2 v hv).2.1, (f _ _ (by omega) (by omega)).trans (h.2 v hv).2.2⟩⟩
/-- the class's walk stands as the machine -/
def y_WR (τ : x_S) : w_C → Prop
  | (d, a, r, i, o, u, v) => τ 105 6 = d ∧ τ 105 5 = o ∧ (∀ j, j < d → τ 108 j = a j ∧ τ 109 j = r j ∧ τ 110 j = i j) ∧ (∀ j, j < o → τ 106 j = u j) ∧ ∀ j, j < 40 → τ 107 j = v j
/-- what is chosen is what is taken -/
theorem y_chs {σ : x_S} {A : Nat → Int} {p q f l : Int} (h : y_CH σ 4 A) (p1 : 0 ≤ p) (p2 : p ≤ 1) (q1 : 0 ≤ q) (q2 : q ≤ 2) (f1 : 0 ≤ f) (f2 : f ≤ 4) (l1 : 0 ≤ l) (l2 : l ≤ 2) : σ 10 (((p * 3 + q) * 5 + f) * 3 + l).toNat = y_sel A p q f l (A 62).toNat := by
  have e := h p.toNat q.toNat f.toNat l.toNat (by omega) (by omega) (by omega) (by omega)
  rw [show ((p.toNat : Nat) : Int) = p by omega, show ((q.toNat : Nat) : Int) = q by omega, show ((f.toNat : Nat) : Int) = f by omega, show ((l.toNat : Nat) : Int) = l by omega] at e
  rw [← e]
  show σ 10 _ = σ 10 _
  congr 1
  omega
/-- a standing tree, to be walked over -/
abbrev w_lt (l : Nat → Int) : Int → Int := fun x => l x.toNat
abbrev w_nd : Int → Int := fun x => x
def w_bl (P : Nat → Int) : Int → Int → Int := fun x c => if c = 0 then x + 1 else P (x + 1).toNat
abbrev w_D (n : Nat) : Int → Prop := fun x => 0 ≤ x ∧ x < n
theorem w_GS {A : Nat → Int} {m : Int} {l P V : Nat → Int} {n : Nat} (n40 : n ≤ 40) (tr : y_tr l n) (ms : y_ms A m l n P V) : w_G (w_lt l) w_nd w_nd (w_bl P) (w_D n) := by
  refine ⟨fun x h => ?_, fun x c h hc => Or.inr ?_⟩
  · have t := tr.1 x.toNat (by omega)
    show (0 ≤ x ∧ x ≤ 2147483647) ∧ (0 ≤ x ∧ x < 40) ∧ (0 ≤ l x.toNat ∧ l x.toNat ≤ 4) ∧ 0 ≤ x ∧ x ≤ 78
    omega
  · have hc : (c = 0 ∧ 2 ≤ l x.toNat) ∨ (c = 1 ∧ 3 ≤ l x.toNat) := hc
    have k := y_mp_c tr ms (v := x.toNat) (by omega) (by omega) (by omega)
    have e : (x + 1).toNat = x.toNat + 1 := by omega
    unfold w_bl
    rcases hc with hc | hc
    · rw [if_pos hc.1]
      show (0 ≤ x + 1 ∧ x + 1 < n) ∧ x < x + 1
      omega
    · have k2 := k.2.2.2 hc.2
      rw [if_neg (by omega), e]
      show (0 ≤ P (x.toNat + 1) ∧ P (x.toNat + 1) < n) ∧ x < P (x.toNat + 1)
      omega
theorem kx_149_105 {E : q_E} {σ : x_S} {Q : Option q_V → x_S → Prop} {a1 : Int} (b1 : 0 ≤ a1) (b2 : a1 ≤ 9) (C0 : y_CI σ) (kF : ¬ σ 105 5 < 40 → Q (some (x_I (-3))) σ) (kS : σ 105 5 < 40 → ∀ τ, y_CI τ → (∀ k m, k ≠ 106 → ¬ (k = 105 ∧ m = 5) → τ k m = σ k m) → τ 105 5 = σ 105 5 + 1 → (∀ m, τ 106 m = y_wK (σ 106) (σ 105 5).toNat a1 m) → Q (some (x_I 0)) τ) : x_P E 149 [x_R 105, x_I a1] σ Q := by
  have c5 : 0 ≤ σ 105 5 ∧ σ 105 5 ≤ 40 := C0 105 5 (by decide) (by decide) (by decide)
  refine x_Mt e_149 (h_149 E) (Nat.le_of_ble_eq_true rfl) t_149 rfl ?_
  refine x_blk (b := 0) (a_149 E) rfl ?_
  unfold b_149_0
  refine x_aload rfl ?_
  refine x_getIG y_f105_5 C0 ?_
  intro g1a g1b
  refine x_push 40 rfl ?_
  refine x_icmp_lt (by omega) (by omega) (by omega) (by omega) (fun z2 => ?_) (fun z2 => ?_)
  · skip
    refine x_blk (b := 1) (a_149 E) rfl ?_
    unfold b_149_1
    refine x_aload rfl ?_
    refine x_getR (r := 105) rfl (by decide) (by decide) rfl ?_
    refine x_aload rfl ?_
    refine x_getIG y_f105_5 C0 ?_
    intro g3a g3b
    refine x_iload rfl ?_
    refine x_astG y_a106 C0 (by decide) (y_fr_rf (lo := 0) (hi := 138)) (by omega) (by omega) (by omega) (by omega) (fun S4 e4 C4 F4 => ?_)
    refine x_aload rfl ?_
    refine x_dup rfl ?_
    refine x_getIG y_f105_5 C4 ?_
    have q5_0 : S4 105 5 = σ 105 5 := x_up_nr e4 (by decide)
    simp only [q5_0]
    intro g5a g5b
    refine x_push 1 rfl ?_
    refine x_iadd ?_
    refine x_putIG y_f105_5 ⟨by decide, rfl⟩ (by decide) C4 (by decide) F4 (by omega) (by omega) (fun S6 e6 C6 F6 => ?_)
    refine x_push 0 rfl ?_
    refine x_iret ?_
    refine kS (by omega) _ C6 (fun k m h1 h2 => (x_up_ne e6 h2).trans (x_up_nr e4 h1)) (x_up_at e6) (fun m => (x_up_nr e6 (by decide)).trans ?_)
    by_cases c : m = (σ 105 5).toNat
    · rw [c, y_wK_e]; exact x_up_at e4
    · rw [y_wK_o c]; exact x_up_ne e4 (fun z => c z.2)
  · skip
    refine x_push (-3) rfl ?_
    refine x_iret ?_
    exact kF (by omega)
theorem kx_68 {E : q_E} {σ : x_S} {Q : Option q_V → x_S → Prop} {a0 : Int} (b1 : 10 ≤ a0) (b2 : a0 ≤ 15) (C0 : y_CI σ) (k : ∀ v, 0 ≤ v → v ≤ 2 → v = (a0 - 10) / 2 → Q (some (x_I v)) σ) : x_P E 68 [x_I a0] σ Q := by
  refine x_Mt e_68 (h_68 E) (Nat.le_of_ble_eq_true rfl) t_68 rfl ?_
  refine x_blk (b := 0) (a_68 E) rfl ?_
  unfold b_68_0
  refine x_iload rfl ?_
  refine x_push 10 rfl ?_
  refine x_isub ?_
  refine x_push 2 rfl ?_
  refine x_idiv (by omega) (by omega) (by omega) (by omega) ?_
  refine x_iret ?_
  exact k _ (by omega) (by omega) (by omega)
