/-! the reference: questions of all trees -/
/-- what the reference has worked out is right -/
def cn_RF (A : Nat → Int) (p : Int) (cm sz : Nat → Int) (L : Nat → List Int) (nn : Int) : Prop := cn_FC A p cm nn ∧ (∀ k, k < 54 → cm k ≠ 1 → sz k = 41) ∧ cn_sol (cn_pf A p) (fun k => cm k = 1) sz L ∧ (∀ k, k < 54 → sz k ≤ 41) ∧ (∀ k, k < 54 → sz k ≤ 40 → (L k).length = (sz k).toNat)
theorem cn_lr_l {row sz : Nat → Int} {k : Nat} (h : sz k ≤ 40) : (cn_lr row sz k).length = (sz k).toNat := by rw [cn_lr_s h, cn_ls_l]
/-- the best of a type, so far -/
def cn_rb (cm sz : Nat → Int) (L : Nat → List Int) (q ty b i : Int) : Prop := (b = -4 ∧ ∀ k : Nat, (k : Int) < i → k < 54 → cm k = 1 → cn_ti k q ≠ ty) ∨ (0 ≤ b ∧ b ≤ 53 ∧ cm b.toNat = 1 ∧ cn_ti b q = ty ∧ ∀ k : Nat, (k : Int) < i → k < 54 → cm k = 1 → cn_ti k q = ty → cn_le (sz b.toNat) (L b.toNat) (sz k) (L k))
section
variable {cm sz : Nat → Int} {L : Nat → List Int} {q ty b i : Int}
theorem cn_rb_0 : cn_rb cm sz L q ty (-4) 0 := Or.inl ⟨rfl, fun k h _ _ => absurd h (by omega)⟩
theorem cn_rb_b (h : cn_rb cm sz L q ty b i) : b = -4 ∨ (0 ≤ b ∧ b ≤ 53) := by
  rcases h with h | h
  · exact Or.inl h.1
  · exact Or.inr ⟨h.1, h.2.1⟩
theorem cn_rb_s (h : cn_rb cm sz L q ty b i) (i0 : 0 ≤ i) (n : cm i.toNat ≠ 1 ∨ cn_ti i q ≠ ty) : cn_rb cm sz L q ty b (i + 1) := by
  have no : ∀ k : Nat, (k : Int) = i → cm k = 1 → cn_ti k q = ty → False := fun k e c t => by
    rw [← e] at n
    rcases n with n | n
    · exact n (by rw [show ((k : Int)).toNat = k by omega]; exact c)
    · exact n t
  rcases h with ⟨h1, h2⟩ | ⟨h1, h2, h3, h4, h5⟩
  · refine Or.inl ⟨h1, fun k hk h54 c t => ?_⟩
    by_cases e : (k : Int) = i
    · exact no k e c t
    · exact h2 k (by omega) h54 c t
  · refine Or.inr ⟨h1, h2, h3, h4, fun k hk h54 c t => ?_⟩
    by_cases e : (k : Int) = i
    · exact (no k e c t).elim
    · exact h5 k (by omega) h54 c t
theorem cn_rb_n (h : cn_rb cm sz L q ty b i) (i0 : 0 ≤ i) (i1 : i ≤ 53) (c : cm i.toNat = 1) (t : cn_ti i q = ty) (hb : b < 0 ∨ cn_le (sz i.toNat) (L i.toNat) (sz b.toNat) (L b.toNat)) : cn_rb cm sz L q ty i (i + 1) := by
  refine Or.inr ⟨i0, i1, c, t, fun k hk h54 ck tk => ?_⟩
  by_cases e : (k : Int) = i
  · rw [show i.toNat = k by omega]; exact cn_le_rf _ _
  · rcases h with ⟨h1, h2⟩ | ⟨h1, h2, h3, h4, h5⟩
    · exact absurd tk (h2 k (by omega) h54 ck)
    · exact cn_le_tr (hb.resolve_left (by omega)) (h5 k (by omega) h54 ck tk)
theorem cn_rb_o (h : cn_rb cm sz L q ty b i) (i0 : 0 ≤ i) (b0 : 0 ≤ b) (hb : cn_le (sz b.toNat) (L b.toNat) (sz i.toNat) (L i.toNat)) : cn_rb cm sz L q ty b (i + 1) := by
  rcases h with ⟨h1, h2⟩ | ⟨h1, h2, h3, h4, h5⟩
  · exact absurd b0 (by omega)
  · refine Or.inr ⟨h1, h2, h3, h4, fun k hk h54 c t => ?_⟩
    by_cases e : (k : Int) = i
    · rw [show k = i.toNat by omega]; exact hb
    · exact h5 k (by omega) h54 c t
end
/-- the answer of both kinds of question -/
def cn_fw (sz : Nat → Int) (what b : Int) : Int := if what = 0 then (if b < 0 then 0 else sz b.toNat) else (if b < 0 then -4 else if sz b.toNat = 41 then -4 else b)
theorem rx_207_b2 {E : q_E} {σ : x_S} {Q : Option q_V → x_S → Prop} {a1 a2 : Int} (a1l : 0 ≤ a1) (a1h : a1 ≤ 53) (a2l : 0 ≤ a2) (a2h : a2 ≤ 53) (rq0 : σ 156 a1.toNat ≤ 40) (C0 : y_SI σ) (k1 : (σ 156 a1.toNat < σ 156 a2.toNat ∨ (σ 156 a1.toNat = σ 156 a2.toNat ∧ cn_lt (cn_ls (fun i => σ 157 (40 * a1.toNat + i)) (σ 156 a1.toNat).toNat) (cn_ls (fun i => σ 157 (40 * a2.toNat + i)) (σ 156 a2.toNat).toNat))) → Q (some (x_I 1)) σ) (k0 : ¬ (σ 156 a1.toNat < σ 156 a2.toNat ∨ (σ 156 a1.toNat = σ 156 a2.toNat ∧ cn_lt (cn_ls (fun i => σ 157 (40 * a1.toNat + i)) (σ 156 a1.toNat).toNat) (cn_ls (fun i => σ 157 (40 * a2.toNat + i)) (σ 156 a2.toNat).toNat))) → Q (some (x_I 0)) σ) : ∀ (N : Nat) (i : Int), (40 - i).toNat = N → 0 ≤ i → i ≤ 40 → i ≤ σ 156 a1.toNat → (∀ m : Nat, (m : Int) < i → σ 157 (40 * a1.toNat + m) = σ 157 (40 * a2.toNat + m)) → x_G E m_207 Q (t_207 2) [(0, x_R 138), (1, x_I a1), (2, x_I a2), (3, x_I i)] [] σ := by
  intro N
  induction N using Nat.strongRecOn with
  | ind N ih =>
    intro i hN i0 i1 i2 eq
    refine x_blk (b := 2) (a_207 E) rfl ?_
    unfold b_207_2
    refine x_iload rfl ?_
    refine x_aload rfl ?_
    refine x_getR (r := 138) rfl (by decide) (by decide) rfl ?_
    refine x_iload rfl ?_
    refine x_ialdS C0 (by omega) (by omega) ?_
    intro g1a g1b
    refine x_icmp_ge (by omega) (by omega) (by omega) (by omega) (fun z2 => ?_) (fun z2 => ?_)
    · skip
      refine x_iload rfl ?_
      refine x_push 40 rfl ?_
      refine x_icmp_ge (by omega) (by omega) (by omega) (by omega) (fun z3 => ?_) (fun z3 => ?_)
      · skip
        refine x_aload rfl ?_
        refine x_getR (r := 138) rfl (by decide) (by decide) rfl ?_
        refine x_push 40 rfl ?_
        refine x_iload rfl ?_
        refine x_imul ?_
        refine x_iload rfl ?_
        refine x_iadd ?_
        refine x_iald (r := 157) (n := 2160) (m := (40 * a1 + i).toNat) rfl rfl (by decide) (fun _ => rfl) (by omega) (by omega) (by omega) ?_
        intro g4a g4b
        refine x_aload rfl ?_
        refine x_getR (r := 138) rfl (by decide) (by decide) rfl ?_
        refine x_push 40 rfl ?_
        refine x_iload rfl ?_
        refine x_imul ?_
        refine x_iload rfl ?_
        refine x_iadd ?_
        refine x_iald (r := 157) (n := 2160) (m := (40 * a2 + i).toNat) rfl rfl (by decide) (fun _ => rfl) (by omega) (by omega) (by omega) ?_
        intro g5a g5b
        refine x_icmp_ne (by omega) (by omega) (by omega) (by omega) (fun z6 => ?_) (fun z6 => ?_)
        · skip
          refine x_iinc 1 rfl rfl ?_
          refine x_goto ?_
          refine x_G_lo (lo' := [(0, x_R 138), (1, x_I _), (2, x_I _), (3, x_I _)]) ⟨rfl, rfl, rfl, rfl, trivial⟩ ?_
          refine ih _ (by omega) _ rfl (by omega) (by omega) (by omega) (fun m hm => ?_)
          by_cases c : (m : Int) = i
          · have e1 : 40 * a1.toNat + m = (40 * a1 + i).toNat := by omega
            have e2 : 40 * a2.toNat + m = (40 * a2 + i).toNat := by omega
            rw [e1, e2]
            omega
          · exact eq m (by omega)
        · skip
          refine x_blk (b := 1) (a_207 E) rfl ?_
          unfold b_207_1
          refine x_aload rfl ?_
          refine x_getR (r := 138) rfl (by decide) (by decide) rfl ?_
          refine x_iload rfl ?_
          refine x_ialdS C0 (by omega) (by omega) ?_
          intro g7a g7b
          refine x_aload rfl ?_
          refine x_getR (r := 138) rfl (by decide) (by decide) rfl ?_
          refine x_iload rfl ?_
          refine x_ialdS C0 (by omega) (by omega) ?_
          intro g8a g8b
          refine x_icmp_lt (by omega) (by omega) (by omega) (by omega) (fun z9 => ?_) (fun z9 => ?_)
          · skip
            refine x_blk (b := 3) (a_207 E) rfl ?_
            unfold b_207_3
            refine x_push 1 rfl ?_
            refine x_goto ?_
            refine x_blk (b := 5) (a_207 E) rfl ?_
            unfold b_207_5
            refine x_zret (by decide) ?_
            have e1 : 40 * a1.toNat + i.toNat = (40 * a1 + i).toNat := by omega
            have e2 : 40 * a2.toNat + i.toNat = (40 * a2 + i).toNat := by omega
            by_cases c : σ 156 a1.toNat < σ 156 a2.toNat
            · exact k1 (Or.inl c)
            · have ez : σ 156 a1.toNat = σ 156 a2.toNat := by omega
              refine k1 (Or.inr ⟨ez, ?_⟩)
              rw [← ez]
              refine cn_ls_lt i.toNat (by omega) (fun m hm => eq m (by omega)) ?_
              show σ 157 (40 * a1.toNat + i.toNat) < σ 157 (40 * a2.toNat + i.toNat)
              rw [e1, e2]
              omega
          · skip
            refine x_aload rfl ?_
            refine x_getR (r := 138) rfl (by decide) (by decide) rfl ?_
            refine x_iload rfl ?_
            refine x_ialdS C0 (by omega) (by omega) ?_
            intro g10a g10b
            refine x_aload rfl ?_
            refine x_getR (r := 138) rfl (by decide) (by decide) rfl ?_
            refine x_iload rfl ?_
            refine x_ialdS C0 (by omega) (by omega) ?_
            intro g11a g11b
            refine x_icmp_ne (by omega) (by omega) (by omega) (by omega) (fun z12 => ?_) (fun z12 => ?_)
            · skip
              refine x_iload rfl ?_
              refine x_aload rfl ?_
              refine x_getR (r := 138) rfl (by decide) (by decide) rfl ?_
              refine x_iload rfl ?_
              refine x_ialdS C0 (by omega) (by omega) ?_
              intro g13a g13b
              refine x_icmp_ge (by omega) (by omega) (by omega) (by omega) (fun z14 => ?_) (fun z14 => ?_)
              · skip
                refine x_aload rfl ?_
                refine x_getR (r := 138) rfl (by decide) (by decide) rfl ?_
                refine x_push 40 rfl ?_
                refine x_iload rfl ?_
                refine x_imul ?_
                refine x_iload rfl ?_
                refine x_iadd ?_
                refine x_iald (r := 157) (n := 2160) (m := (40 * a1 + i).toNat) rfl rfl (by decide) (fun _ => rfl) (by omega) (by omega) (by omega) ?_
                intro g15a g15b
                refine x_aload rfl ?_
                refine x_getR (r := 138) rfl (by decide) (by decide) rfl ?_
                refine x_push 40 rfl ?_
                refine x_iload rfl ?_
                refine x_imul ?_
                refine x_iload rfl ?_
                refine x_iadd ?_
                refine x_iald (r := 157) (n := 2160) (m := (40 * a2 + i).toNat) rfl rfl (by decide) (fun _ => rfl) (by omega) (by omega) (by omega) ?_
                intro g16a g16b
                refine x_icmp_ge (by omega) (by omega) (by omega) (by omega) (fun z17 => ?_) (fun z17 => ?_)
                · skip
                  refine x_fall ?_
                  refine x_blk (b := 3) (a_207 E) rfl ?_
                  unfold b_207_3
                  refine x_push 1 rfl ?_
                  refine x_goto ?_
                  refine x_blk (b := 5) (a_207 E) rfl ?_
                  unfold b_207_5
                  refine x_zret (by decide) ?_
                  have e1 : 40 * a1.toNat + i.toNat = (40 * a1 + i).toNat := by omega
                  have e2 : 40 * a2.toNat + i.toNat = (40 * a2 + i).toNat := by omega
                  by_cases c : σ 156 a1.toNat < σ 156 a2.toNat
                  · exact k1 (Or.inl c)
                  · have ez : σ 156 a1.toNat = σ 156 a2.toNat := by omega
                    refine k1 (Or.inr ⟨ez, ?_⟩)
                    rw [← ez]
                    refine cn_ls_lt i.toNat (by omega) (fun m hm => eq m (by omega)) ?_
                    show σ 157 (40 * a1.toNat + i.toNat) < σ 157 (40 * a2.toNat + i.toNat)
                    rw [e1, e2]
                    omega
                · skip
                  refine x_blk (b := 4) (a_207 E) rfl ?_
                  unfold b_207_4
                  refine x_push 0 rfl ?_
                  refine x_fall ?_
                  refine x_blk (b := 5) (a_207 E) rfl ?_
                  unfold b_207_5
                  refine x_zret (by decide) ?_
                  have e1 : 40 * a1.toNat + i.toNat = (40 * a1 + i).toNat := by omega
                  have e2 : 40 * a2.toNat + i.toNat = (40 * a2 + i).toNat := by omega
                  refine k0 (fun z => ?_)
                  rcases z with z | ⟨ez, z⟩
                  · omega
                  · rw [← ez] at z
                    by_cases c : i < σ 156 a1.toNat
                    · refine cn_lt_as z (cn_ls_lt i.toNat (by omega) (fun m hm => (eq m (by omega)).symm) ?_)
                      show σ 157 (40 * a2.toNat + i.toNat) < σ 157 (40 * a1.toNat + i.toNat)
                      rw [e1, e2]
                      omega
                    · have e3 : cn_ls (fun i => σ 157 (40 * a1.toNat + i)) (σ 156 a1.toNat).toNat = cn_ls (fun i => σ 157 (40 * a2.toNat + i)) (σ 156 a1.toNat).toNat := cn_ls_x (fun m hm => eq m (by omega))
                      rw [e3] at z
                      exact cn_lt_irr _ z
              · skip
                refine x_blk (b := 4) (a_207 E) rfl ?_
                unfold b_207_4
                refine x_push 0 rfl ?_
                refine x_fall ?_
                refine x_blk (b := 5) (a_207 E) rfl ?_
                unfold b_207_5
                refine x_zret (by decide) ?_
                have e1 : 40 * a1.toNat + i.toNat = (40 * a1 + i).toNat := by omega
                have e2 : 40 * a2.toNat + i.toNat = (40 * a2 + i).toNat := by omega
                refine k0 (fun z => ?_)
                rcases z with z | ⟨ez, z⟩
                · omega
                · rw [← ez] at z
                  by_cases c : i < σ 156 a1.toNat
                  · refine cn_lt_as z (cn_ls_lt i.toNat (by omega) (fun m hm => (eq m (by omega)).symm) ?_)
                    show σ 157 (40 * a2.toNat + i.toNat) < σ 157 (40 * a1.toNat + i.toNat)
                    rw [e1, e2]
                    omega
                  · have e3 : cn_ls (fun i => σ 157 (40 * a1.toNat + i)) (σ 156 a1.toNat).toNat = cn_ls (fun i => σ 157 (40 * a2.toNat + i)) (σ 156 a1.toNat).toNat := cn_ls_x (fun m hm => eq m (by omega))
                    rw [e3] at z
                    exact cn_lt_irr _ z
            · skip
              refine x_blk (b := 4) (a_207 E) rfl ?_
              unfold b_207_4
              refine x_push 0 rfl ?_
              refine x_fall ?_
              refine x_blk (b := 5) (a_207 E) rfl ?_
              unfold b_207_5
              refine x_zret (by decide) ?_
              have e1 : 40 * a1.toNat + i.toNat = (40 * a1 + i).toNat := by omega
              have e2 : 40 * a2.toNat + i.toNat = (40 * a2 + i).toNat := by omega
              refine k0 (fun z => ?_)
              rcases z with z | ⟨ez, z⟩
              · omega
              · rw [← ez] at z
                by_cases c : i < σ 156 a1.toNat
                · refine cn_lt_as z (cn_ls_lt i.toNat (by omega) (fun m hm => (eq m (by omega)).symm) ?_)
                  show σ 157 (40 * a2.toNat + i.toNat) < σ 157 (40 * a1.toNat + i.toNat)
                  rw [e1, e2]
                  omega
                · have e3 : cn_ls (fun i => σ 157 (40 * a1.toNat + i)) (σ 156 a1.toNat).toNat = cn_ls (fun i => σ 157 (40 * a2.toNat + i)) (σ 156 a1.toNat).toNat := cn_ls_x (fun m hm => eq m (by omega))
                  rw [e3] at z
                  exact cn_lt_irr _ z
      · skip
        refine x_blk (b := 1) (a_207 E) rfl ?_
        unfold b_207_1
        refine x_aload rfl ?_
        refine x_getR (r := 138) rfl (by decide) (by decide) rfl ?_
        refine x_iload rfl ?_
        refine x_ialdS C0 (by omega) (by omega) ?_
        intro g18a g18b
        refine x_aload rfl ?_
        refine x_getR (r := 138) rfl (by decide) (by decide) rfl ?_
        refine x_iload rfl ?_
        refine x_ialdS C0 (by omega) (by omega) ?_
        intro g19a g19b
        refine x_icmp_lt (by omega) (by omega) (by omega) (by omega) (fun z20 => ?_) (fun z20 => ?_)
        · skip
          refine x_blk (b := 3) (a_207 E) rfl ?_
          unfold b_207_3
          refine x_push 1 rfl ?_
          refine x_goto ?_
          refine x_blk (b := 5) (a_207 E) rfl ?_
          unfold b_207_5
          refine x_zret (by decide) ?_
          have e1 : 40 * a1.toNat + i.toNat = (40 * a1 + i).toNat := by omega
          have e2 : 40 * a2.toNat + i.toNat = (40 * a2 + i).toNat := by omega
          by_cases c : σ 156 a1.toNat < σ 156 a2.toNat
          · exact k1 (Or.inl c)
          · have ez : σ 156 a1.toNat = σ 156 a2.toNat := by omega
            refine k1 (Or.inr ⟨ez, ?_⟩)
            rw [← ez]
            refine cn_ls_lt i.toNat (by omega) (fun m hm => eq m (by omega)) ?_
            show σ 157 (40 * a1.toNat + i.toNat) < σ 157 (40 * a2.toNat + i.toNat)
            rw [e1, e2]
            omega
        · skip
          refine x_aload rfl ?_
          refine x_getR (r := 138) rfl (by decide) (by decide) rfl ?_
          refine x_iload rfl ?_
          refine x_ialdS C0 (by omega) (by omega) ?_
          intro g21a g21b
          refine x_aload rfl ?_
          refine x_getR (r := 138) rfl (by decide) (by decide) rfl ?_
          refine x_iload rfl ?_
          refine x_ialdS C0 (by omega) (by omega) ?_
          intro g22a g22b
          refine x_icmp_ne (by omega) (by omega) (by omega) (by omega) (fun z23 => ?_) (fun z23 => ?_)
          · skip
            refine x_iload rfl ?_
            refine x_aload rfl ?_
            refine x_getR (r := 138) rfl (by decide) (by decide) rfl ?_
            refine x_iload rfl ?_
            refine x_ialdS C0 (by omega) (by omega) ?_
            intro g24a g24b
            refine x_icmp_ge (by omega) (by omega) (by omega) (by omega) (fun z25 => ?_) (fun z25 => ?_)
            · skip
              refine x_aload rfl ?_
              refine x_getR (r := 138) rfl (by decide) (by decide) rfl ?_
              refine x_push 40 rfl ?_
              refine x_iload rfl ?_
              refine x_imul ?_
              refine x_iload rfl ?_
              refine x_iadd ?_
              refine x_iald (r := 157) (n := 2160) (m := (40 * a1 + i).toNat) rfl rfl (by decide) (fun _ => rfl) (by omega) (by omega) (by omega) ?_
              intro g26a g26b
              refine x_aload rfl ?_
              refine x_getR (r := 138) rfl (by decide) (by decide) rfl ?_
              refine x_push 40 rfl ?_
              refine x_iload rfl ?_
              refine x_imul ?_
              refine x_iload rfl ?_
              refine x_iadd ?_
              refine x_iald (r := 157) (n := 2160) (m := (40 * a2 + i).toNat) rfl rfl (by decide) (fun _ => rfl) (by omega) (by omega) (by omega) ?_
              intro g27a g27b
              refine x_icmp_ge (by omega) (by omega) (by omega) (by omega) (fun z28 => ?_) (fun z28 => ?_)
              · skip
                refine x_fall ?_
                refine x_blk (b := 3) (a_207 E) rfl ?_
                unfold b_207_3
                refine x_push 1 rfl ?_
                refine x_goto ?_
                refine x_blk (b := 5) (a_207 E) rfl ?_
                unfold b_207_5
                refine x_zret (by decide) ?_
                have e1 : 40 * a1.toNat + i.toNat = (40 * a1 + i).toNat := by omega
                have e2 : 40 * a2.toNat + i.toNat = (40 * a2 + i).toNat := by omega
                by_cases c : σ 156 a1.toNat < σ 156 a2.toNat
                · exact k1 (Or.inl c)
                · have ez : σ 156 a1.toNat = σ 156 a2.toNat := by omega
                  refine k1 (Or.inr ⟨ez, ?_⟩)
                  rw [← ez]
                  refine cn_ls_lt i.toNat (by omega) (fun m hm => eq m (by omega)) ?_
                  show σ 157 (40 * a1.toNat + i.toNat) < σ 157 (40 * a2.toNat + i.toNat)
                  rw [e1, e2]
                  omega
              · skip
                refine x_blk (b := 4) (a_207 E) rfl ?_
                unfold b_207_4
                refine x_push 0 rfl ?_
                refine x_fall ?_
                refine x_blk (b := 5) (a_207 E) rfl ?_
                unfold b_207_5
                refine x_zret (by decide) ?_
                have e1 : 40 * a1.toNat + i.toNat = (40 * a1 + i).toNat := by omega
                have e2 : 40 * a2.toNat + i.toNat = (40 * a2 + i).toNat := by omega
                refine k0 (fun z => ?_)
                rcases z with z | ⟨ez, z⟩
                · omega
                · rw [← ez] at z
                  by_cases c : i < σ 156 a1.toNat
                  · refine cn_lt_as z (cn_ls_lt i.toNat (by omega) (fun m hm => (eq m (by omega)).symm) ?_)
                    show σ 157 (40 * a2.toNat + i.toNat) < σ 157 (40 * a1.toNat + i.toNat)
                    rw [e1, e2]
                    omega
                  · have e3 : cn_ls (fun i => σ 157 (40 * a1.toNat + i)) (σ 156 a1.toNat).toNat = cn_ls (fun i => σ 157 (40 * a2.toNat + i)) (σ 156 a1.toNat).toNat := cn_ls_x (fun m hm => eq m (by omega))
                    rw [e3] at z
                    exact cn_lt_irr _ z
            · skip
              refine x_blk (b := 4) (a_207 E) rfl ?_
              unfold b_207_4
              refine x_push 0 rfl ?_
              refine x_fall ?_
              refine x_blk (b := 5) (a_207 E) rfl ?_
              unfold b_207_5
              refine x_zret (by decide) ?_
              have e1 : 40 * a1.toNat + i.toNat = (40 * a1 + i).toNat := by omega
              have e2 : 40 * a2.toNat + i.toNat = (40 * a2 + i).toNat := by omega
              refine k0 (fun z => ?_)
              rcases z with z | ⟨ez, z⟩
              · omega
              · rw [← ez] at z
                by_cases c : i < σ 156 a1.toNat
                · refine cn_lt_as z (cn_ls_lt i.toNat (by omega) (fun m hm => (eq m (by omega)).symm) ?_)
                  show σ 157 (40 * a2.toNat + i.toNat) < σ 157 (40 * a1.toNat + i.toNat)
                  rw [e1, e2]
                  omega
                · have e3 : cn_ls (fun i => σ 157 (40 * a1.toNat + i)) (σ 156 a1.toNat).toNat = cn_ls (fun i => σ 157 (40 * a2.toNat + i)) (σ 156 a1.toNat).toNat := cn_ls_x (fun m hm => eq m (by omega))
                  rw [e3] at z
                  exact cn_lt_irr _ z
          · skip
            refine x_blk (b := 4) (a_207 E) rfl ?_
            unfold b_207_4
            refine x_push 0 rfl ?_
            refine x_fall ?_
            refine x_blk (b := 5) (a_207 E) rfl ?_
            unfold b_207_5
            refine x_zret (by decide) ?_
            have e1 : 40 * a1.toNat + i.toNat = (40 * a1 + i).toNat := by omega
            have e2 : 40 * a2.toNat + i.toNat = (40 * a2 + i).toNat := by omega
            refine k0 (fun z => ?_)
            rcases z with z | ⟨ez, z⟩
            · omega
            · rw [← ez] at z
              by_cases c : i < σ 156 a1.toNat
              · refine cn_lt_as z (cn_ls_lt i.toNat (by omega) (fun m hm => (eq m (by omega)).symm) ?_)
                show σ 157 (40 * a2.toNat + i.toNat) < σ 157 (40 * a1.toNat + i.toNat)
                rw [e1, e2]
                omega
              · have e3 : cn_ls (fun i => σ 157 (40 * a1.toNat + i)) (σ 156 a1.toNat).toNat = cn_ls (fun i => σ 157 (40 * a2.toNat + i)) (σ 156 a1.toNat).toNat := cn_ls_x (fun m hm => eq m (by omega))
                rw [e3] at z
                exact cn_lt_irr _ z
    · skip
      refine x_blk (b := 1) (a_207 E) rfl ?_
      unfold b_207_1
      refine x_aload rfl ?_
      refine x_getR (r := 138) rfl (by decide) (by decide) rfl ?_
      refine x_iload rfl ?_
      refine x_ialdS C0 (by omega) (by omega) ?_
      intro g29a g29b
      refine x_aload rfl ?_
      refine x_getR (r := 138) rfl (by decide) (by decide) rfl ?_
      refine x_iload rfl ?_
      refine x_ialdS C0 (by omega) (by omega) ?_
      intro g30a g30b
      refine x_icmp_lt (by omega) (by omega) (by omega) (by omega) (fun z31 => ?_) (fun z31 => ?_)
      · skip
        refine x_blk (b := 3) (a_207 E) rfl ?_
        unfold b_207_3
        refine x_push 1 rfl ?_
        refine x_goto ?_
        refine x_blk (b := 5) (a_207 E) rfl ?_
        unfold b_207_5
        refine x_zret (by decide) ?_
        have e1 : 40 * a1.toNat + i.toNat = (40 * a1 + i).toNat := by omega
        have e2 : 40 * a2.toNat + i.toNat = (40 * a2 + i).toNat := by omega
        by_cases c : σ 156 a1.toNat < σ 156 a2.toNat
        · exact k1 (Or.inl c)
        · have ez : σ 156 a1.toNat = σ 156 a2.toNat := by omega
          refine k1 (Or.inr ⟨ez, ?_⟩)
          rw [← ez]
          refine cn_ls_lt i.toNat (by omega) (fun m hm => eq m (by omega)) ?_
          show σ 157 (40 * a1.toNat + i.toNat) < σ 157 (40 * a2.toNat + i.toNat)
          rw [e1, e2]
          omega
      · skip
        refine x_aload rfl ?_
        refine x_getR (r := 138) rfl (by decide) (by decide) rfl ?_
        refine x_iload rfl ?_
        refine x_ialdS C0 (by omega) (by omega) ?_
        intro g32a g32b
        refine x_aload rfl ?_
        refine x_getR (r := 138) rfl (by decide) (by decide) rfl ?_
        refine x_iload rfl ?_
        refine x_ialdS C0 (by omega) (by omega) ?_
        intro g33a g33b
        refine x_icmp_ne (by omega) (by omega) (by omega) (by omega) (fun z34 => ?_) (fun z34 => ?_)
        · skip
          refine x_iload rfl ?_
          refine x_aload rfl ?_
          refine x_getR (r := 138) rfl (by decide) (by decide) rfl ?_
          refine x_iload rfl ?_
          refine x_ialdS C0 (by omega) (by omega) ?_
          intro g35a g35b
          refine x_icmp_ge (by omega) (by omega) (by omega) (by omega) (fun z36 => ?_) (fun z36 => ?_)
          · skip
            refine x_aload rfl ?_
            refine x_getR (r := 138) rfl (by decide) (by decide) rfl ?_
            refine x_push 40 rfl ?_
            refine x_iload rfl ?_
            refine x_imul ?_
            refine x_iload rfl ?_
            refine x_iadd ?_
            refine x_iald (r := 157) (n := 2160) (m := (40 * a1 + i).toNat) rfl rfl (by decide) (fun _ => rfl) (by omega) (by omega) (by omega) ?_
            intro g37a g37b
            refine x_aload rfl ?_
            refine x_getR (r := 138) rfl (by decide) (by decide) rfl ?_
            refine x_push 40 rfl ?_
            refine x_iload rfl ?_
            refine x_imul ?_
            refine x_iload rfl ?_
            refine x_iadd ?_
            refine x_iald (r := 157) (n := 2160) (m := (40 * a2 + i).toNat) rfl rfl (by decide) (fun _ => rfl) (by omega) (by omega) (by omega) ?_
            intro g38a g38b
            refine x_icmp_ge (by omega) (by omega) (by omega) (by omega) (fun z39 => ?_) (fun z39 => ?_)
            · skip
              refine x_fall ?_
              refine x_blk (b := 3) (a_207 E) rfl ?_
              unfold b_207_3
              refine x_push 1 rfl ?_
              refine x_goto ?_
              refine x_blk (b := 5) (a_207 E) rfl ?_
              unfold b_207_5
              refine x_zret (by decide) ?_
              have e1 : 40 * a1.toNat + i.toNat = (40 * a1 + i).toNat := by omega
              have e2 : 40 * a2.toNat + i.toNat = (40 * a2 + i).toNat := by omega
              by_cases c : σ 156 a1.toNat < σ 156 a2.toNat
              · exact k1 (Or.inl c)
              · have ez : σ 156 a1.toNat = σ 156 a2.toNat := by omega
                refine k1 (Or.inr ⟨ez, ?_⟩)
                rw [← ez]
                refine cn_ls_lt i.toNat (by omega) (fun m hm => eq m (by omega)) ?_
                show σ 157 (40 * a1.toNat + i.toNat) < σ 157 (40 * a2.toNat + i.toNat)
                rw [e1, e2]
                omega
            · skip
              refine x_blk (b := 4) (a_207 E) rfl ?_
              unfold b_207_4
              refine x_push 0 rfl ?_
              refine x_fall ?_
              refine x_blk (b := 5) (a_207 E) rfl ?_
              unfold b_207_5
              refine x_zret (by decide) ?_
              have e1 : 40 * a1.toNat + i.toNat = (40 * a1 + i).toNat := by omega
              have e2 : 40 * a2.toNat + i.toNat = (40 * a2 + i).toNat := by omega
              refine k0 (fun z => ?_)
              rcases z with z | ⟨ez, z⟩
              · omega
              · rw [← ez] at z
                by_cases c : i < σ 156 a1.toNat
                · refine cn_lt_as z (cn_ls_lt i.toNat (by omega) (fun m hm => (eq m (by omega)).symm) ?_)
                  show σ 157 (40 * a2.toNat + i.toNat) < σ 157 (40 * a1.toNat + i.toNat)
                  rw [e1, e2]
                  omega
                · have e3 : cn_ls (fun i => σ 157 (40 * a1.toNat + i)) (σ 156 a1.toNat).toNat = cn_ls (fun i => σ 157 (40 * a2.toNat + i)) (σ 156 a1.toNat).toNat := cn_ls_x (fun m hm => eq m (by omega))
                  rw [e3] at z
                  exact cn_lt_irr _ z
          · skip
            refine x_blk (b := 4) (a_207 E) rfl ?_
            unfold b_207_4
            refine x_push 0 rfl ?_
            refine x_fall ?_
            refine x_blk (b := 5) (a_207 E) rfl ?_
            unfold b_207_5
            refine x_zret (by decide) ?_
            have e1 : 40 * a1.toNat + i.toNat = (40 * a1 + i).toNat := by omega
            have e2 : 40 * a2.toNat + i.toNat = (40 * a2 + i).toNat := by omega
            refine k0 (fun z => ?_)
            rcases z with z | ⟨ez, z⟩
            · omega
            · rw [← ez] at z
              by_cases c : i < σ 156 a1.toNat
              · refine cn_lt_as z (cn_ls_lt i.toNat (by omega) (fun m hm => (eq m (by omega)).symm) ?_)
                show σ 157 (40 * a2.toNat + i.toNat) < σ 157 (40 * a1.toNat + i.toNat)
                rw [e1, e2]
                omega
              · have e3 : cn_ls (fun i => σ 157 (40 * a1.toNat + i)) (σ 156 a1.toNat).toNat = cn_ls (fun i => σ 157 (40 * a2.toNat + i)) (σ 156 a1.toNat).toNat := cn_ls_x (fun m hm => eq m (by omega))
                rw [e3] at z
                exact cn_lt_irr _ z
        · skip
          refine x_blk (b := 4) (a_207 E) rfl ?_
          unfold b_207_4
          refine x_push 0 rfl ?_
          refine x_fall ?_
          refine x_blk (b := 5) (a_207 E) rfl ?_
          unfold b_207_5
          refine x_zret (by decide) ?_
          have e1 : 40 * a1.toNat + i.toNat = (40 * a1 + i).toNat := by omega
          have e2 : 40 * a2.toNat + i.toNat = (40 * a2 + i).toNat := by omega
          refine k0 (fun z => ?_)
          rcases z with z | ⟨ez, z⟩
          · omega
          · rw [← ez] at z
            by_cases c : i < σ 156 a1.toNat
            · refine cn_lt_as z (cn_ls_lt i.toNat (by omega) (fun m hm => (eq m (by omega)).symm) ?_)
              show σ 157 (40 * a2.toNat + i.toNat) < σ 157 (40 * a1.toNat + i.toNat)
              rw [e1, e2]
              omega
            · have e3 : cn_ls (fun i => σ 157 (40 * a1.toNat + i)) (σ 156 a1.toNat).toNat = cn_ls (fun i => σ 157 (40 * a2.toNat + i)) (σ 156 a1.toNat).toNat := cn_ls_x (fun m hm => eq m (by omega))
              rw [e3] at z
              exact cn_lt_irr _ z
theorem rx_207 {E : q_E} {σ : x_S} {Q : Option q_V → x_S → Prop} {a1 a2 : Int} (a1l : 0 ≤ a1) (a1h : a1 ≤ 53) (a2l : 0 ≤ a2) (a2h : a2 ≤ 53) (rq0 : σ 156 a1.toNat ≤ 40) (C0 : y_SI σ) (k1 : (σ 156 a1.toNat < σ 156 a2.toNat ∨ (σ 156 a1.toNat = σ 156 a2.toNat ∧ cn_lt (cn_ls (fun i => σ 157 (40 * a1.toNat + i)) (σ 156 a1.toNat).toNat) (cn_ls (fun i => σ 157 (40 * a2.toNat + i)) (σ 156 a2.toNat).toNat))) → Q (some (x_I 1)) σ) (k0 : ¬ (σ 156 a1.toNat < σ 156 a2.toNat ∨ (σ 156 a1.toNat = σ 156 a2.toNat ∧ cn_lt (cn_ls (fun i => σ 157 (40 * a1.toNat + i)) (σ 156 a1.toNat).toNat) (cn_ls (fun i => σ 157 (40 * a2.toNat + i)) (σ 156 a2.toNat).toNat))) → Q (some (x_I 0)) σ) : x_P E 207 [x_R 138, x_I a1, x_I a2] σ Q := by
  refine x_Mt e_207 (h_207 E) (Nat.le_of_ble_eq_true rfl) t_207 rfl ?_
  refine x_blk (b := 0) (a_207 E) rfl ?_
  unfold b_207_0
  refine x_push 0 rfl ?_
  refine x_istore ?_
  refine x_fall ?_
  refine x_G_lo (lo' := [(0, x_R 138), (1, x_I _), (2, x_I _), (3, x_I _)]) ⟨rfl, rfl, rfl, rfl, trivial⟩ ?_
  have z1 := (C0 a1.toNat (by omega)).2
  exact rx_207_b2 a1l a1h a2l a2h rq0 C0 k1 k0 _ 0 rfl (by omega) (by omega) (by omega) (fun m hm => absurd hm (by omega))
theorem rx_206_b6 {E : q_E} {σ : x_S} {Q : Option q_V → x_S → Prop} {a1 a2 a3 a4 : Int} (a1l : 0 ≤ a1) (a1h : a1 ≤ 1) (a2l : 0 ≤ a2) (a2h : a2 ≤ 2) (a3l : 0 ≤ a3) (a3h : a3 ≤ 2) (a4l : -2147483648 ≤ a4) (a4h : a4 ≤ 2147483647) (hP : y_PI (σ 140)) (k : ∀ τ b, y_SI τ → y_rf σ τ → cn_RF (σ 140) a1 (τ 155) (τ 156) (cn_lr (τ 157) (τ 156)) (τ 138 27) → cn_rb (τ 155) (τ 156) (cn_lr (τ 157) (τ 156)) a2 a3 b 54 → Q (some (x_I (cn_fw (τ 156) a4 b))) τ) {τ : x_S} (C : y_SI τ) (F : y_rf σ τ) (R : cn_RF (σ 140) a1 (τ 155) (τ 156) (cn_lr (τ 157) (τ 156)) (τ 138 27)) : ∀ (N : Nat) (b i : Int), (54 - i).toNat = N → 0 ≤ i → i ≤ 54 → -4 ≤ b → b ≤ 53 → cn_rb (τ 155) (τ 156) (cn_lr (τ 157) (τ 156)) a2 a3 b i → x_G E m_206 Q (t_206 6) [(0, x_R 138), (2, x_I a2), (3, x_I a3), (4, x_I a4), (5, x_I b), (6, x_I i)] [] τ := by
  have ru := hP.2.2.2.1
  have kd := hP.1
  intro N
  induction N using Nat.strongRecOn with
  | ind N ih =>
    intro b i hN i0 i1 b0 b1 rb
    have bb := cn_rb_b rb
    refine x_blk (b := 6) (a_206 E) rfl ?_
    unfold b_206_6
    refine x_iload rfl ?_
    refine x_push 54 rfl ?_
    refine x_icmp_ge (by omega) (by omega) (by omega) (by omega) (fun z1 => ?_) (fun z1 => ?_)
    · skip
      refine x_aload rfl ?_
      refine x_getR (r := 138) rfl (by decide) (by decide) rfl ?_
      refine x_iload rfl ?_
      refine x_aldS C (by omega) (by omega) ?_
      intro g2a g2b
      refine x_if_eq (by omega) (by omega) (fun z3 => ?_) (fun z3 => ?_)
      · skip
        refine x_blk (b := 2) (a_206 E) rfl ?_
        unfold b_206_2
        refine x_iinc 1 rfl rfl ?_
        refine x_goto ?_
        refine x_G_lo (lo' := [(0, x_R 138), (2, x_I _), (3, x_I _), (4, x_I _), (5, x_I _), (6, x_I _)]) ⟨rfl, rfl, rfl, rfl, rfl, rfl, trivial⟩ ?_
        exact ih _ (by omega) _ _ rfl (by omega) (by omega) (by omega) (by omega) (cn_rb_s rb (by omega) (Or.inl (fun z => by omega)))
      · skip
        refine x_iload rfl ?_
        refine x_iload rfl ?_
        refine x_cS (fun _ => rfl) (Nat.le_of_ble_eq_true rfl) ?_
        refine rx_33 (by omega) (by omega) (by omega) (by omega) (fun v4 v4a v4b v4c => ?_)
        refine x_iload rfl ?_
        refine x_icmp_ne (by omega) (by omega) (by omega) (by omega) (fun z5 => ?_) (fun z5 => ?_)
        · skip
          refine x_iload rfl ?_
          refine x_push (-4) rfl ?_
          refine x_icmp_eq (by omega) (by omega) (by omega) (by omega) (fun z6 => ?_) (fun z6 => ?_)
          · skip
            refine x_blk (b := 3) (a_206 E) rfl ?_
            unfold b_206_3
            refine x_iload rfl ?_
            refine x_goto ?_
            refine x_blk (b := 5) (a_206 E) rfl ?_
            unfold b_206_5
            refine x_istore ?_
            refine x_fall ?_
            refine x_blk (b := 2) (a_206 E) rfl ?_
            unfold b_206_2
            refine x_iinc 1 rfl rfl ?_
            refine x_X_lo (lo' := [(0, x_R 138), (2, x_I _), (3, x_I _), (4, x_I _), (5, x_I _), (6, x_I _)]) ⟨rfl, rfl, rfl, rfl, rfl, rfl, trivial⟩ ?_
            refine x_goto ?_
            refine x_G_lo (lo' := [(0, x_R 138), (2, x_I _), (3, x_I _), (4, x_I _), (5, x_I _), (6, x_I _)]) ⟨rfl, rfl, rfl, rfl, rfl, rfl, trivial⟩ ?_
            exact ih _ (by omega) _ _ rfl (by omega) (by omega) (by omega) (by omega) (cn_rb_n rb (by omega) (by omega) (by omega) (by omega) (Or.inl (by omega)))
          · skip
            refine x_aload rfl ?_
            refine x_getR (r := 138) rfl (by decide) (by decide) rfl ?_
            refine x_iload rfl ?_
            refine x_ialdS C (by omega) (by omega) ?_
            intro g7a g7b
            refine x_push 41 rfl ?_
            refine x_icmp_ge (by omega) (by omega) (by omega) (by omega) (fun z8 => ?_) (fun z8 => ?_)
            · skip
              refine x_aload rfl ?_
              refine x_iload rfl ?_
              refine x_iload rfl ?_
              refine x_cV (fun _ => rfl) rfl (by decide) (Nat.le_of_ble_eq_true rfl) ?_
              refine rx_207 (by omega) (by omega) (by omega) (by omega) (by omega) C (fun y9 => ?_) (fun y9 => ?_)
              · skip
                refine x_if_eq (by omega) (by omega) (fun z => absurd z (by omega)) (fun z10 => ?_)
                refine x_fall ?_
                refine x_blk (b := 3) (a_206 E) rfl ?_
                unfold b_206_3
                refine x_iload rfl ?_
                refine x_goto ?_
                refine x_blk (b := 5) (a_206 E) rfl ?_
                unfold b_206_5
                refine x_istore ?_
                refine x_fall ?_
                refine x_blk (b := 2) (a_206 E) rfl ?_
                unfold b_206_2
                refine x_iinc 1 rfl rfl ?_
                refine x_X_lo (lo' := [(0, x_R 138), (2, x_I _), (3, x_I _), (4, x_I _), (5, x_I _), (6, x_I _)]) ⟨rfl, rfl, rfl, rfl, rfl, rfl, trivial⟩ ?_
                refine x_goto ?_
                refine x_G_lo (lo' := [(0, x_R 138), (2, x_I _), (3, x_I _), (4, x_I _), (5, x_I _), (6, x_I _)]) ⟨rfl, rfl, rfl, rfl, rfl, rfl, trivial⟩ ?_
                refine ih _ (by omega) _ _ rfl (by omega) (by omega) (by omega) (by omega) (cn_rb_n rb (by omega) (by omega) (by omega) (by omega) (Or.inr ?_))
                rcases y9 with y | ⟨y1, y2⟩
                · exact Or.inl y
                · refine Or.inr ⟨y1, Or.inr (Or.inr ?_)⟩
                  rw [cn_lr_s (k := i.toNat) (by omega), cn_lr_s (k := b.toNat) (by omega)]
                  exact y2
              · skip
                refine x_if_eq (by omega) (by omega) (fun z11 => ?_) (fun z => absurd (by omega) z)
                refine x_blk (b := 4) (a_206 E) rfl ?_
                unfold b_206_4
                refine x_iload rfl ?_
                refine x_fall ?_
                refine x_blk (b := 5) (a_206 E) rfl ?_
                unfold b_206_5
                refine x_istore ?_
                refine x_fall ?_
                refine x_blk (b := 2) (a_206 E) rfl ?_
                unfold b_206_2
                refine x_iinc 1 rfl rfl ?_
                refine x_X_lo (lo' := [(0, x_R 138), (2, x_I _), (3, x_I _), (4, x_I _), (5, x_I _), (6, x_I _)]) ⟨rfl, rfl, rfl, rfl, rfl, rfl, trivial⟩ ?_
                refine x_goto ?_
                refine x_G_lo (lo' := [(0, x_R 138), (2, x_I _), (3, x_I _), (4, x_I _), (5, x_I _), (6, x_I _)]) ⟨rfl, rfl, rfl, rfl, rfl, rfl, trivial⟩ ?_
                refine ih _ (by omega) _ _ rfl (by omega) (by omega) (by omega) (by omega) (cn_rb_o rb (by omega) (by omega) ?_)
                have cb := (C b.toNat (by omega)).2
                by_cases c : τ 156 b.toNat < τ 156 i.toNat
                · exact Or.inl c
                · have ez : τ 156 i.toNat = τ 156 b.toNat := by
                    by_cases d : τ 156 i.toNat < τ 156 b.toNat
                    · exact absurd (Or.inl d) y9
                    · omega
                  have ny : ¬ cn_lt (cn_lr (τ 157) (τ 156) i.toNat) (cn_lr (τ 157) (τ 156) b.toNat) := fun z => y9 (Or.inr ⟨ez, by
                    rw [cn_lr_s (k := i.toNat) (by omega), cn_lr_s (k := b.toNat) (by omega)] at z
                    exact z⟩)
                  refine Or.inr ⟨ez.symm, Or.inr ?_⟩
                  have ln : (cn_lr (τ 157) (τ 156) i.toNat).length = (cn_lr (τ 157) (τ 156) b.toNat).length := by rw [cn_lr_l (k := i.toNat) (by omega), cn_lr_l (k := b.toNat) (by omega), ez]
                  rcases cn_lt_3 ln with q | q | q
                  · exact absurd q ny
                  · exact Or.inl q.symm
                  · exact Or.inr q
            · skip
              refine x_blk (b := 4) (a_206 E) rfl ?_
              unfold b_206_4
              refine x_iload rfl ?_
              refine x_fall ?_
              refine x_blk (b := 5) (a_206 E) rfl ?_
              unfold b_206_5
              refine x_istore ?_
              refine x_fall ?_
              refine x_blk (b := 2) (a_206 E) rfl ?_
              unfold b_206_2
              refine x_iinc 1 rfl rfl ?_
              refine x_X_lo (lo' := [(0, x_R 138), (2, x_I _), (3, x_I _), (4, x_I _), (5, x_I _), (6, x_I _)]) ⟨rfl, rfl, rfl, rfl, rfl, rfl, trivial⟩ ?_
              refine x_goto ?_
              refine x_G_lo (lo' := [(0, x_R 138), (2, x_I _), (3, x_I _), (4, x_I _), (5, x_I _), (6, x_I _)]) ⟨rfl, rfl, rfl, rfl, rfl, rfl, trivial⟩ ?_
              exact ih _ (by omega) _ _ rfl (by omega) (by omega) (by omega) (by omega) (cn_rb_o rb (by omega) (by omega) (by have := (C b.toNat (by omega)).2; by_cases c : τ 156 b.toNat < 41; exact Or.inl (by omega); exact Or.inr ⟨by omega, Or.inl (by omega)⟩))
        · skip
          refine x_blk (b := 2) (a_206 E) rfl ?_
          unfold b_206_2
          refine x_iinc 1 rfl rfl ?_
          refine x_goto ?_
          refine x_G_lo (lo' := [(0, x_R 138), (2, x_I _), (3, x_I _), (4, x_I _), (5, x_I _), (6, x_I _)]) ⟨rfl, rfl, rfl, rfl, rfl, rfl, trivial⟩ ?_
          exact ih _ (by omega) _ _ rfl (by omega) (by omega) (by omega) (by omega) (cn_rb_s rb (by omega) (Or.inr (fun z => by omega)))
    · skip
      refine x_blk (b := 1) (a_206 E) rfl ?_
      unfold b_206_1
      refine x_iload rfl ?_
      refine x_if_ne (by omega) (by omega) (fun z12 => ?_) (fun z12 => ?_)
      · skip
        refine x_iload rfl ?_
        refine x_push (-4) rfl ?_
        refine x_icmp_ne (by omega) (by omega) (by omega) (by omega) (fun z13 => ?_) (fun z13 => ?_)
        · skip
          refine x_push 0 rfl ?_
          refine x_goto ?_
          refine x_blk (b := 9) (a_206 E) rfl ?_
          unfold b_206_9
          refine x_iret ?_
          have i54 : i = 54 := by omega
          refine x_fin (b := cn_fw (τ 156) a4 b) ?_ ?_
          · have bb := cn_rb_b rb
            unfold cn_fw
            (repeat' split) <;> omega
          rw [i54] at rb
          exact k _ b C F R rb
        · skip
          refine x_blk (b := 8) (a_206 E) rfl ?_
          unfold b_206_8
          refine x_aload rfl ?_
          refine x_getR (r := 138) rfl (by decide) (by decide) rfl ?_
          refine x_iload rfl ?_
          refine x_ialdS C (by omega) (by omega) ?_
          intro g14a g14b
          refine x_fall ?_
          refine x_blk (b := 9) (a_206 E) rfl ?_
          unfold b_206_9
          refine x_iret ?_
          have i54 : i = 54 := by omega
          refine x_fin (b := cn_fw (τ 156) a4 b) ?_ ?_
          · have bb := cn_rb_b rb
            unfold cn_fw
            (repeat' split) <;> omega
          rw [i54] at rb
          exact k _ b C F R rb
      · skip
        refine x_blk (b := 7) (a_206 E) rfl ?_
        unfold b_206_7
        refine x_iload rfl ?_
        refine x_push (-4) rfl ?_
        refine x_icmp_eq (by omega) (by omega) (by omega) (by omega) (fun z15 => ?_) (fun z15 => ?_)
        · skip
          refine x_blk (b := 10) (a_206 E) rfl ?_
          unfold b_206_10
          refine x_push (-4) rfl ?_
          refine x_goto ?_
          refine x_blk (b := 12) (a_206 E) rfl ?_
          unfold b_206_12
          refine x_iret ?_
          have i54 : i = 54 := by omega
          refine x_fin (b := cn_fw (τ 156) a4 b) ?_ ?_
          · have bb := cn_rb_b rb
            unfold cn_fw
            (repeat' split) <;> omega
          rw [i54] at rb
          exact k _ b C F R rb
        · skip
          refine x_aload rfl ?_
          refine x_getR (r := 138) rfl (by decide) (by decide) rfl ?_
          refine x_iload rfl ?_
          refine x_ialdS C (by omega) (by omega) ?_
          intro g16a g16b
          refine x_push 41 rfl ?_
          refine x_icmp_ne (by omega) (by omega) (by omega) (by omega) (fun z17 => ?_) (fun z17 => ?_)
          · skip
            refine x_fall ?_
            refine x_blk (b := 10) (a_206 E) rfl ?_
            unfold b_206_10
            refine x_push (-4) rfl ?_
            refine x_goto ?_
            refine x_blk (b := 12) (a_206 E) rfl ?_
            unfold b_206_12
            refine x_iret ?_
            have i54 : i = 54 := by omega
            refine x_fin (b := cn_fw (τ 156) a4 b) ?_ ?_
            · have bb := cn_rb_b rb
              unfold cn_fw
              (repeat' split) <;> omega
            rw [i54] at rb
            exact k _ b C F R rb
          · skip
            refine x_blk (b := 11) (a_206 E) rfl ?_
            unfold b_206_11
            refine x_iload rfl ?_
            refine x_fall ?_
            refine x_blk (b := 12) (a_206 E) rfl ?_
            unfold b_206_12
            refine x_iret ?_
            have i54 : i = 54 := by omega
            refine x_fin (b := cn_fw (τ 156) a4 b) ?_ ?_
            · have bb := cn_rb_b rb
              unfold cn_fw
              (repeat' split) <;> omega
            rw [i54] at rb
            exact k _ b C F R rb
theorem rx_206 {E : q_E} {σ : x_S} {Q : Option q_V → x_S → Prop} {a1 a2 a3 a4 : Int} (a1l : 0 ≤ a1) (a1h : a1 ≤ 1) (a2l : 0 ≤ a2) (a2h : a2 ≤ 2) (a3l : 0 ≤ a3) (a3h : a3 ≤ 2) (a4l : -2147483648 ≤ a4) (a4h : a4 ≤ 2147483647) (hP : y_PI (σ 140)) (k : ∀ τ b, y_SI τ → y_rf σ τ → cn_RF (σ 140) a1 (τ 155) (τ 156) (cn_lr (τ 157) (τ 156)) (τ 138 27) → cn_rb (τ 155) (τ 156) (cn_lr (τ 157) (τ 156)) a2 a3 b 54 → Q (some (x_I (cn_fw (τ 156) a4 b))) τ) : x_P E 206 [x_R 138, x_I a1, x_I a2, x_I a3, x_I a4] σ Q := by
  have ru := hP.2.2.2.1
  have kd := hP.1
  refine x_Mt e_206 (h_206 E) (Nat.le_of_ble_eq_true rfl) t_206 rfl ?_
  refine x_blk (b := 0) (a_206 E) rfl ?_
  unfold b_206_0
  refine x_aload rfl ?_
  refine x_iload rfl ?_
  refine x_cV (fun _ => rfl) rfl (by decide) (Nat.le_of_ble_eq_true rfl) ?_
  refine rx_201 (by omega) (by omega) hP (fun S1 C1 f1 fc1 nc1 so1 => ?_)
  have F1 := y_rf_tr y_rf_rf f1
  have R1 : cn_RF (σ 140) a1 (S1 155) (S1 156) (cn_lr (S1 157) (S1 156)) (S1 138 27) := ⟨fc1, nc1, so1, fun k hk => (C1 k hk).2.2, fun k hk h => cn_lr_l h⟩
  refine x_push (-4) rfl ?_
  refine x_istore ?_
  refine x_push 0 rfl ?_
  refine x_istore ?_
  refine x_X_lo (lo' := [(0, x_R 138), (1, x_I _), (2, x_I _), (3, x_I _), (4, x_I _), (5, x_I _), (6, x_I _)]) ⟨rfl, rfl, rfl, rfl, rfl, rfl, rfl, trivial⟩ ?_
  refine x_fall ?_
  refine x_G_lo (lo' := [(0, x_R 138), (2, x_I _), (3, x_I _), (4, x_I _), (5, x_I _), (6, x_I _)]) ⟨rfl, rfl, rfl, rfl, rfl, rfl, trivial⟩ ?_
  exact rx_206_b6 a1l a1h a2l a2h a3l a3h a4l a4h hP k C1 F1 R1 _ _ 0 rfl (by omega) (by omega) (by omega) (by omega) cn_rb_0
theorem rx_199 {E : q_E} {σ : x_S} {Q : Option q_V → x_S → Prop} {a1 : Int} (a1l : -2147483648 ≤ a1) (a1h : a1 ≤ 2147483647) (hP : y_PI (σ 140)) (kB : ¬ (0 ≤ a1 ∧ a1 ≤ 1) → Q (some (x_I (-1))) σ) (kS : (0 ≤ a1 ∧ a1 ≤ 1) → ∀ τ, y_rf σ τ → ∀ cm : Nat → Int, ∀ nn : Int, cn_FC (σ 140) a1 cm nn → Q (some (x_I nn)) τ) : x_P E 199 [x_R 138, x_I a1] σ Q := by
  have ru := hP.2.2.2.1
  have kd := hP.1
  refine x_Mt e_199 (h_199 E) (Nat.le_of_ble_eq_true rfl) t_199 rfl ?_
  refine x_blk (b := 0) (a_199 E) rfl ?_
  unfold b_199_0
  refine x_iload rfl ?_
  refine x_cS (fun _ => rfl) (Nat.le_of_ble_eq_true rfl) ?_
  refine c_64 (by omega) (by omega) (fun y1 => ?_) (fun y1 => ?_)
  · skip
    refine x_if_ne (by omega) (by omega) (fun z => absurd z (by omega)) (fun z2 => ?_)
    refine x_blk (b := 1) (a_199 E) rfl ?_
    unfold b_199_1
    refine x_aload rfl ?_
    refine x_iload rfl ?_
    refine x_cV (fun _ => rfl) rfl (by decide) (Nat.le_of_ble_eq_true rfl) ?_
    refine rx_118 (by omega) (by omega) hP (fun S3 C3 f3 fc3 s41 => ?_)
    have F3 := y_rf_tr y_rf_rf f3
    refine x_aload rfl ?_
    refine x_getI (r := 138) rfl (by decide) (by decide) (by decide) rfl ?_
    intro g4a g4b
    refine x_iret ?_
    exact kS (by omega) _ F3 (S3 155) (S3 138 27) fc3
  · skip
    refine x_if_ne (by omega) (by omega) (fun z5 => ?_) (fun z => absurd (by omega) z)
    refine x_push (-1) rfl ?_
    refine x_iret ?_
    exact kB (by omega)
theorem rx_200 {E : q_E} {σ : x_S} {Q : Option q_V → x_S → Prop} {a1 a2 a3 : Int} (a1l : -2147483648 ≤ a1) (a1h : a1 ≤ 2147483647) (a2l : -2147483648 ≤ a2) (a2h : a2 ≤ 2147483647) (a3l : -2147483648 ≤ a3) (a3h : a3 ≤ 2147483647) (hP : y_PI (σ 140)) (kB : ¬ ((0 ≤ a1 ∧ a1 ≤ 1) ∧ (0 ≤ a2 ∧ a2 ≤ 53) ∧ -1 ≤ a3) → Q (some (x_I (-1))) σ) (kS : ((0 ≤ a1 ∧ a1 ≤ 1) ∧ (0 ≤ a2 ∧ a2 ≤ 53) ∧ -1 ≤ a3) → ∀ τ, y_rf σ τ → ∀ cm sz : Nat → Int, ∀ L : Nat → List Int, ∀ nn : Int, cn_RF (σ 140) a1 cm sz L nn → (((sz a2.toNat = 41 ∨ sz a2.toNat ≤ a3) → Q (some (x_I (-4))) τ) ∧ (sz a2.toNat ≤ 40 → a3 = -1 → Q (some (x_I (sz a2.toNat))) τ) ∧ (sz a2.toNat ≤ 40 → 0 ≤ a3 → a3 < sz a2.toNat → Q (some (x_I (cn_at (L a2.toNat) a3.toNat))) τ))) : x_P E 200 [x_R 138, x_I a1, x_I a2, x_I a3] σ Q := by
  have ru := hP.2.2.2.1
  have kd := hP.1
  refine x_Mt e_200 (h_200 E) (Nat.le_of_ble_eq_true rfl) t_200 rfl ?_
  refine x_blk (b := 0) (a_200 E) rfl ?_
  unfold b_200_0
  refine x_iload rfl ?_
  refine x_cS (fun _ => rfl) (Nat.le_of_ble_eq_true rfl) ?_
  refine c_64 (by omega) (by omega) (fun y1 => ?_) (fun y1 => ?_)
  · skip
    refine x_if_eq (by omega) (by omega) (fun z => absurd z (by omega)) (fun z2 => ?_)
    refine x_iload rfl ?_
    refine x_i2l (by omega) (by omega) ?_
    refine x_pushL 0 rfl ?_
    refine x_pushL 53 rfl ?_
    refine x_cS (fun _ => rfl) (Nat.le_of_ble_eq_true rfl) ?_
    refine c_45 (by omega) (by omega) (by omega) (by omega) (by omega) (by omega) (fun y3 => ?_) (fun y3 => ?_)
    · skip
      refine x_if_eq (by omega) (by omega) (fun z => absurd z (by omega)) (fun z4 => ?_)
      refine x_iload rfl ?_
      refine x_push (-1) rfl ?_
      refine x_icmp_ge (by omega) (by omega) (by omega) (by omega) (fun z5 => ?_) (fun z5 => ?_)
      · skip
        refine x_fall ?_
        refine x_blk (b := 1) (a_200 E) rfl ?_
        unfold b_200_1
        refine x_push (-1) rfl ?_
        refine x_iret ?_
        exact kB (by omega)
      · skip
        refine x_blk (b := 2) (a_200 E) rfl ?_
        unfold b_200_2
        refine x_aload rfl ?_
        refine x_iload rfl ?_
        refine x_cV (fun _ => rfl) rfl (by decide) (Nat.le_of_ble_eq_true rfl) ?_
        refine rx_201 (by omega) (by omega) hP (fun S6 C6 f6 fc6 nc6 so6 => ?_)
        have F6 := y_rf_tr y_rf_rf f6
        have R6 : cn_RF (σ 140) a1 (S6 155) (S6 156) (cn_lr (S6 157) (S6 156)) (S6 138 27) := ⟨fc6, nc6, so6, fun k hk => (C6 k hk).2.2, fun k hk h => cn_lr_l h⟩
        refine x_aload rfl ?_
        refine x_getR (r := 138) rfl (by decide) (by decide) rfl ?_
        refine x_iload rfl ?_
        refine x_ialdS C6 (by omega) (by omega) ?_
        intro g7a g7b
        refine x_push 41 rfl ?_
        refine x_icmp_ne (by omega) (by omega) (by omega) (by omega) (fun z8 => ?_) (fun z8 => ?_)
        · skip
          refine x_push (-4) rfl ?_
          refine x_iret ?_
          have cz := (C6 a2.toNat (by omega)).2
          exact (kS (by omega) _ F6 (S6 155) (S6 156) (cn_lr (S6 157) (S6 156)) (S6 138 27) R6).1 (by omega)
        · skip
          refine x_blk (b := 3) (a_200 E) rfl ?_
          unfold b_200_3
          refine x_iload rfl ?_
          refine x_if_ge (by omega) (by omega) (fun z9 => ?_) (fun z9 => ?_)
          · skip
            refine x_aload rfl ?_
            refine x_getR (r := 138) rfl (by decide) (by decide) rfl ?_
            refine x_iload rfl ?_
            refine x_ialdS C6 (by omega) (by omega) ?_
            intro g10a g10b
            refine x_goto ?_
            refine x_blk (b := 5) (a_200 E) rfl ?_
            unfold b_200_5
            refine x_iret ?_
            have cz := (C6 a2.toNat (by omega)).2
            exact (kS (by omega) _ F6 (S6 155) (S6 156) (cn_lr (S6 157) (S6 156)) (S6 138 27) R6).2.1 (by omega) (by omega)
          · skip
            refine x_blk (b := 4) (a_200 E) rfl ?_
            unfold b_200_4
            refine x_iload rfl ?_
            refine x_aload rfl ?_
            refine x_getR (r := 138) rfl (by decide) (by decide) rfl ?_
            refine x_iload rfl ?_
            refine x_ialdS C6 (by omega) (by omega) ?_
            intro g11a g11b
            refine x_icmp_ge (by omega) (by omega) (by omega) (by omega) (fun z12 => ?_) (fun z12 => ?_)
            · skip
              refine x_aload rfl ?_
              refine x_getR (r := 138) rfl (by decide) (by decide) rfl ?_
              refine x_push 40 rfl ?_
              refine x_iload rfl ?_
              refine x_imul ?_
              refine x_iload rfl ?_
              refine x_iadd ?_
              refine x_iald (r := 157) (n := 2160) (m := (40 * a2 + a3).toNat) rfl rfl (by decide) (fun _ => rfl) (by omega) (by omega) (by omega) ?_
              intro g13a g13b
              refine x_goto ?_
              refine x_blk (b := 5) (a_200 E) rfl ?_
              unfold b_200_5
              refine x_iret ?_
              have cz := (C6 a2.toNat (by omega)).2
              have kk := (kS (by omega) _ F6 (S6 155) (S6 156) (cn_lr (S6 157) (S6 156)) (S6 138 27) R6).2.2 (by omega) (by omega) (by omega)
              rw [cn_lr_s (by omega), cn_at_ls (by omega), show 40 * a2.toNat + a3.toNat = (40 * a2 + a3).toNat by omega] at kk
              exact kk
            · skip
              refine x_blk (b := 6) (a_200 E) rfl ?_
              unfold b_200_6
              refine x_push (-4) rfl ?_
              refine x_fall ?_
              refine x_blk (b := 5) (a_200 E) rfl ?_
              unfold b_200_5
              refine x_iret ?_
              have cz := (C6 a2.toNat (by omega)).2
              exact (kS (by omega) _ F6 (S6 155) (S6 156) (cn_lr (S6 157) (S6 156)) (S6 138 27) R6).1 (by omega)
    · skip
      refine x_if_eq (by omega) (by omega) (fun z14 => ?_) (fun z => absurd (by omega) z)
      refine x_blk (b := 1) (a_200 E) rfl ?_
      unfold b_200_1
      refine x_push (-1) rfl ?_
      refine x_iret ?_
      exact kB (by omega)
  · skip
    refine x_if_eq (by omega) (by omega) (fun z15 => ?_) (fun z => absurd (by omega) z)
    refine x_blk (b := 1) (a_200 E) rfl ?_
    unfold b_200_1
    refine x_push (-1) rfl ?_
    refine x_iret ?_
    exact kB (by omega)
theorem rx_205 {E : q_E} {σ : x_S} {Q : Option q_V → x_S → Prop} {a1 a2 a3 : Int} (a1l : -2147483648 ≤ a1) (a1h : a1 ≤ 2147483647) (a2l : -2147483648 ≤ a2) (a2h : a2 ≤ 2147483647) (a3l : -2147483648 ≤ a3) (a3h : a3 ≤ 2147483647) (hP : y_PI (σ 140)) (kB : ¬ ((0 ≤ a1 ∧ a1 ≤ 1) ∧ (0 ≤ a2 ∧ a2 ≤ 2) ∧ (0 ≤ a3 ∧ a3 ≤ 1)) → Q (some (x_I (-1))) σ) (kS : ((0 ≤ a1 ∧ a1 ≤ 1) ∧ (0 ≤ a2 ∧ a2 ≤ 2) ∧ (0 ≤ a3 ∧ a3 ≤ 1)) → ∀ τ, y_rf σ τ → ∀ cm sz : Nat → Int, ∀ L : Nat → List Int, ∀ nn : Int, cn_RF (σ 140) a1 cm sz L nn → ∀ b, cn_rb cm sz L a2 2 b 54 → Q (some (x_I (cn_fw sz a3 b))) τ) : x_P E 205 [x_R 138, x_I a1, x_I a2, x_I a3] σ Q := by
  have ru := hP.2.2.2.1
  have kd := hP.1
  refine x_Mt e_205 (h_205 E) (Nat.le_of_ble_eq_true rfl) t_205 rfl ?_
  refine x_blk (b := 0) (a_205 E) rfl ?_
  unfold b_205_0
  refine x_iload rfl ?_
  refine x_cS (fun _ => rfl) (Nat.le_of_ble_eq_true rfl) ?_
  refine c_64 (by omega) (by omega) (fun y1 => ?_) (fun y1 => ?_)
  · skip
    refine x_if_eq (by omega) (by omega) (fun z => absurd z (by omega)) (fun z2 => ?_)
    refine x_iload rfl ?_
    refine x_i2l (by omega) (by omega) ?_
    refine x_pushL 0 rfl ?_
    refine x_pushL 2 rfl ?_
    refine x_cS (fun _ => rfl) (Nat.le_of_ble_eq_true rfl) ?_
    refine c_45 (by omega) (by omega) (by omega) (by omega) (by omega) (by omega) (fun y3 => ?_) (fun y3 => ?_)
    · skip
      refine x_if_eq (by omega) (by omega) (fun z => absurd z (by omega)) (fun z4 => ?_)
      refine x_iload rfl ?_
      refine x_i2l (by omega) (by omega) ?_
      refine x_pushL 0 rfl ?_
      refine x_pushL 1 rfl ?_
      refine x_cS (fun _ => rfl) (Nat.le_of_ble_eq_true rfl) ?_
      refine c_45 (by omega) (by omega) (by omega) (by omega) (by omega) (by omega) (fun y5 => ?_) (fun y5 => ?_)
      · skip
        refine x_if_eq (by omega) (by omega) (fun z => absurd z (by omega)) (fun z6 => ?_)
        refine x_aload rfl ?_
        refine x_iload rfl ?_
        refine x_iload rfl ?_
        refine x_push 2 rfl ?_
        refine x_iload rfl ?_
        refine x_cV (fun _ => rfl) rfl (by decide) (Nat.le_of_ble_eq_true rfl) ?_
        refine rx_206 (by omega) (by omega) (by omega) (by omega) (by omega) (by omega) (by omega) (by omega) hP (fun S7 b7 C7 f7 R7 rb7 => ?_)
        have F7 := y_rf_tr y_rf_rf f7
        refine x_goto ?_
        refine x_blk (b := 2) (a_205 E) rfl ?_
        unfold b_205_2
        refine x_iret ?_
        exact kS (by omega) _ F7 (S7 155) (S7 156) (cn_lr (S7 157) (S7 156)) (S7 138 27) R7 b7 rb7
      · skip
        refine x_if_eq (by omega) (by omega) (fun z8 => ?_) (fun z => absurd (by omega) z)
        refine x_blk (b := 1) (a_205 E) rfl ?_
        unfold b_205_1
        refine x_push (-1) rfl ?_
        refine x_fall ?_
        refine x_blk (b := 2) (a_205 E) rfl ?_
        unfold b_205_2
        refine x_iret ?_
        exact kB (by omega)
    · skip
      refine x_if_eq (by omega) (by omega) (fun z9 => ?_) (fun z => absurd (by omega) z)
      refine x_blk (b := 1) (a_205 E) rfl ?_
      unfold b_205_1
      refine x_push (-1) rfl ?_
      refine x_fall ?_
      refine x_blk (b := 2) (a_205 E) rfl ?_
      unfold b_205_2
      refine x_iret ?_
      exact kB (by omega)
  · skip
    refine x_if_eq (by omega) (by omega) (fun z10 => ?_) (fun z => absurd (by omega) z)
    refine x_blk (b := 1) (a_205 E) rfl ?_
    unfold b_205_1
    refine x_push (-1) rfl ?_
    refine x_fall ?_
    refine x_blk (b := 2) (a_205 E) rfl ?_
    unfold b_205_2
    refine x_iret ?_
    exact kB (by omega)
theorem rx_208 {E : q_E} {σ : x_S} {Q : Option q_V → x_S → Prop} {a1 a2 a3 : Int} (a1l : -2147483648 ≤ a1) (a1h : a1 ≤ 2147483647) (a2l : -2147483648 ≤ a2) (a2h : a2 ≤ 2147483647) (a3l : -2147483648 ≤ a3) (a3h : a3 ≤ 2147483647) (hP : y_PI (σ 140)) (kB : ¬ ((0 ≤ a1 ∧ a1 ≤ 1) ∧ (0 ≤ a2 ∧ a2 ≤ 2) ∧ (0 ≤ a3 ∧ a3 ≤ 1)) → Q (some (x_I (-1))) σ) (kS : ((0 ≤ a1 ∧ a1 ≤ 1) ∧ (0 ≤ a2 ∧ a2 ≤ 2) ∧ (0 ≤ a3 ∧ a3 ≤ 1)) → ∀ τ, y_rf σ τ → ∀ cm sz : Nat → Int, ∀ L : Nat → List Int, ∀ nn : Int, cn_RF (σ 140) a1 cm sz L nn → ∀ b, cn_rb cm sz L a2 0 b 54 → Q (some (x_I (cn_fw sz a3 b))) τ) : x_P E 208 [x_R 138, x_I a1, x_I a2, x_I a3] σ Q := by
  have ru := hP.2.2.2.1
  have kd := hP.1
  refine x_Mt e_208 (h_208 E) (Nat.le_of_ble_eq_true rfl) t_208 rfl ?_
  refine x_blk (b := 0) (a_208 E) rfl ?_
  unfold b_208_0
  refine x_iload rfl ?_
  refine x_cS (fun _ => rfl) (Nat.le_of_ble_eq_true rfl) ?_
  refine c_64 (by omega) (by omega) (fun y1 => ?_) (fun y1 => ?_)
  · skip
    refine x_if_eq (by omega) (by omega) (fun z => absurd z (by omega)) (fun z2 => ?_)
    refine x_iload rfl ?_
    refine x_i2l (by omega) (by omega) ?_
    refine x_pushL 0 rfl ?_
    refine x_pushL 2 rfl ?_
    refine x_cS (fun _ => rfl) (Nat.le_of_ble_eq_true rfl) ?_
    refine c_45 (by omega) (by omega) (by omega) (by omega) (by omega) (by omega) (fun y3 => ?_) (fun y3 => ?_)
    · skip
      refine x_if_eq (by omega) (by omega) (fun z => absurd z (by omega)) (fun z4 => ?_)
      refine x_iload rfl ?_
      refine x_i2l (by omega) (by omega) ?_
      refine x_pushL 0 rfl ?_
      refine x_pushL 1 rfl ?_
      refine x_cS (fun _ => rfl) (Nat.le_of_ble_eq_true rfl) ?_
      refine c_45 (by omega) (by omega) (by omega) (by omega) (by omega) (by omega) (fun y5 => ?_) (fun y5 => ?_)
      · skip
        refine x_if_eq (by omega) (by omega) (fun z => absurd z (by omega)) (fun z6 => ?_)
        refine x_aload rfl ?_
        refine x_iload rfl ?_
        refine x_iload rfl ?_
        refine x_push 0 rfl ?_
        refine x_iload rfl ?_
        refine x_cV (fun _ => rfl) rfl (by decide) (Nat.le_of_ble_eq_true rfl) ?_
        refine rx_206 (by omega) (by omega) (by omega) (by omega) (by omega) (by omega) (by omega) (by omega) hP (fun S7 b7 C7 f7 R7 rb7 => ?_)
        have F7 := y_rf_tr y_rf_rf f7
        refine x_goto ?_
        refine x_blk (b := 2) (a_208 E) rfl ?_
        unfold b_208_2
        refine x_iret ?_
        exact kS (by omega) _ F7 (S7 155) (S7 156) (cn_lr (S7 157) (S7 156)) (S7 138 27) R7 b7 rb7
      · skip
        refine x_if_eq (by omega) (by omega) (fun z8 => ?_) (fun z => absurd (by omega) z)
        refine x_blk (b := 1) (a_208 E) rfl ?_
        unfold b_208_1
        refine x_push (-1) rfl ?_
        refine x_fall ?_
        refine x_blk (b := 2) (a_208 E) rfl ?_
        unfold b_208_2
        refine x_iret ?_
        exact kB (by omega)
    · skip
      refine x_if_eq (by omega) (by omega) (fun z9 => ?_) (fun z => absurd (by omega) z)
      refine x_blk (b := 1) (a_208 E) rfl ?_
      unfold b_208_1
      refine x_push (-1) rfl ?_
      refine x_fall ?_
      refine x_blk (b := 2) (a_208 E) rfl ?_
      unfold b_208_2
      refine x_iret ?_
      exact kB (by omega)
  · skip
    refine x_if_eq (by omega) (by omega) (fun z10 => ?_) (fun z => absurd (by omega) z)
    refine x_blk (b := 1) (a_208 E) rfl ?_
    unfold b_208_1
    refine x_push (-1) rfl ?_
    refine x_fall ?_
    refine x_blk (b := 2) (a_208 E) rfl ?_
    unfold b_208_2
    refine x_iret ?_
    exact kB (by omega)
