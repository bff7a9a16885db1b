/-! the reference: the least trees -/
/-- letters of the least of a profile -/
def cn_lr (row sz : Nat → Int) (k : Nat) : List Int := cn_ls (fun i => row (40 * k + i)) (if sz k ≤ 40 then (sz k).toNat else 0)
theorem cn_lr_s {row sz : Nat → Int} {k : Nat} (h : sz k ≤ 40) : cn_lr row sz k = cn_ls (fun i => row (40 * k + i)) (sz k).toNat := by
  unfold cn_lr
  rw [if_pos h]
theorem cn_lr_x {row sz row' sz' : Nat → Int} {k : Nat} (h : sz k = sz' k) (e : ∀ i : Nat, (i : Int) < sz k → i < 40 → row (40 * k + i) = row' (40 * k + i)) : cn_lr row sz k = cn_lr row' sz' k := by
  unfold cn_lr
  rw [← h]
  by_cases c : sz k ≤ 40
  · rw [if_pos c]
    exact cn_ls_x (fun i hi => e i (by omega) (by omega))
  · rw [if_neg c]; rfl
theorem cn_lt_as {a b : List Int} (h : cn_lt a b) (g : cn_lt b a) : False := cn_lt_irr _ (cn_lt_tr h g)
theorem cn_zch {f v s t : Int} (h : (f < 2 ∧ v = 1) ∨ (f = 2 ∧ v = 1 + s) ∨ (2 < f ∧ v = 1 + s + t)) : v = cn_z f s t := by
  have c := y_chx f
  have z := cn_zx f s t
  omega
/-- a letter, then what the children are -/
theorem cn_bld {f : Int} {g A B : Nat → Int} {c : Int} {n1 n2 : Nat} (hc : c = y_ch f) (g0 : g 0 = f) (ga : ∀ m, m < n1 → g (1 + m) = A m) (gb : ∀ m, m < n2 → g (1 + n1 + m) = B m) (h1 : c < 1 → n1 = 0) (h2 : c < 2 → n2 = 0) : cn_ls g (1 + n1 + n2) = cn_w f (cn_ls A n1) (cn_ls B n2) := by
  have w := cn_wx f (cn_ls A n1) (cn_ls B n2)
  have e : cn_ls g (1 + n1 + n2) = f :: (cn_ls A n1 ++ cn_ls B n2) := by
    rw [show 1 + n1 + n2 = (n1 + n2) + 1 by omega, cn_ls_s, g0, cn_ls_a]
    congr 2
    · exact cn_ls_x (fun m hm => by rw [Nat.add_comm m 1]; exact ga m hm)
    · exact cn_ls_x (fun m hm => by rw [show n1 + m + 1 = 1 + n1 + m by omega]; exact gb m hm)
  rw [e]
  rcases w with w | w | w
  · rw [w.2, h1 (by omega), h2 (by omega)]; rfl
  · rw [w.2, h2 (by omega)]
    show f :: (cn_ls A n1 ++ []) = _
    rw [List.append_nil]
  · rw [w.2]
section
variable {A : Nat → Int} {p : Int} {cm : Nat → Int} {nn : Int} {sz : Nat → Int} {L : Nat → List Int} {n cd : Int}
/-- the least so far -/
def cn_FL (pf : Int → Nat → Nat → Nat) (cm sz : Nat → Int) (L : Nat → List Int) (n cd : Int) : Prop := (∀ k, k < 54 → (cm k = 1 → 1 ≤ sz k ∧ (sz k < n ∨ (sz k = n ∧ 0 < cd) ∨ sz k = 41)) ∧ (cm k ≠ 1 → sz k = 41)) ∧ (∀ k, k < 54 → sz k ≤ 40 → ∃ f l r, cn_tri (fun k => cm k = 1) f l r ∧ pf f l r = k ∧ sz k = cn_z f (sz l) (sz r) ∧ L k = cn_w f (L l) (L r)) ∧ (∀ f l r, cn_tri (fun k => cm k = 1) f l r → (cn_z f (sz l) (sz r) < n ∨ (cn_z f (sz l) (sz r) = n ∧ f * 2916 + l * 54 + r < cd)) → sz (pf f l r) ≤ cn_z f (sz l) (sz r) ∧ (sz (pf f l r) = cn_z f (sz l) (sz r) → cn_lq (L (pf f l r)) (cn_w f (L l) (L r))))
theorem cn_FL_0 {pf : Int → Nat → Nat → Nat} (h : ∀ k, k < 54 → sz k = 41) : cn_FL pf cm sz L 1 0 := by
  refine ⟨fun k hk => ⟨fun _ => ⟨by rw [h k hk]; decide, Or.inr (Or.inr (h k hk))⟩, fun _ => h k hk⟩, fun k hk z => absurd z (by rw [h k hk]; decide), fun f l r t z => ?_⟩
  have tc := cn_tri_cd t
  have zx := cn_zx f (sz l) (sz r)
  rw [h l tc.1, h r tc.2.1] at zx z
  omega
theorem cn_FL_n {pf : Int → Nat → Nat → Nat} (h : cn_FL pf cm sz L n 14580) : cn_FL pf cm sz L (n + 1) 0 := by
  refine ⟨fun k hk => ⟨fun c => ?_, (h.1 k hk).2⟩, h.2.1, fun f l r t z => h.2.2 f l r t ?_⟩
  · have q := (h.1 k hk).1 c
    omega
  · have tc := cn_tri_cd t
    omega
theorem cn_FL_sol {pf : Int → Nat → Nat → Nat} (h : cn_FL pf cm sz L 41 0) : cn_sol pf (fun k => cm k = 1) sz L := by
  refine ⟨fun k hk c => ((h.1 k hk).1 c).1, fun k hk c h40 => h.2.1 k hk h40, fun f l r t z => h.2.2 f l r t (by omega)⟩
theorem cn_FL_s {pf : Int → Nat → Nat → Nat} (h : cn_FL pf cm sz L n cd) (c0 : 0 ≤ cd) {f : Int} {l r : Nat} (hf : f = cd / 2916) (hl : l = (cd / 54 % 54).toNat) (hr : r = (cd % 54).toNat) (c1 : cd < 14580) (s : ¬ cn_tri (fun k => cm k = 1) f l r ∨ cn_z f (sz l) (sz r) ≠ n ∨ sz (pf f l r) < n ∨ (sz (pf f l r) = n ∧ cn_lq (L (pf f l r)) (cn_w f (L l) (L r)))) : cn_FL pf cm sz L n (cd + 1) := by
  refine ⟨fun k hk => ⟨fun c => ?_, (h.1 k hk).2⟩, h.2.1, fun f' l' r' t z => ?_⟩
  · have q := (h.1 k hk).1 c
    omega
  · by_cases e : cn_z f' (sz l') (sz r') = n ∧ f' * 2916 + l' * 54 + r' = cd
    · have tc := cn_tri_cd t
      have f0 : f' = f := by omega
      have l0 : l' = l := by omega
      have r0 : r' = r := by omega
      rw [f0, l0, r0] at t e ⊢
      rcases s with s | s | s | s
      · exact absurd t s
      · exact absurd e.1 s
      · exact ⟨by omega, fun z => absurd z (by omega)⟩
      · exact ⟨by omega, fun _ => s.2⟩
    · exact h.2.2 f' l' r' t (by omega)
theorem cn_FL_u {pf : Int → Nat → Nat → Nat} (h : cn_FL pf cm sz L n cd) (n1 : 1 ≤ n) (n40 : n ≤ 40) (c0 : 0 ≤ cd) {f : Int} {l r : Nat} (hf : f = cd / 2916) (hl : l = (cd / 54 % 54).toNat) (hr : r = (cd % 54).toNat) (c1 : cd < 14580) (t : cn_tri (fun k => cm k = 1) f l r) (e : cn_z f (sz l) (sz r) = n) {v : Nat} (hv : pf f l r = v) (hv54 : v < 54) (hp54 : ∀ g a b, cn_tri (fun k => cm k = 1) g a b → pf g a b < 54) (hcm : cm v = 1) (hz : n ≤ sz v) {sz' : Nat → Int} {L' : Nat → List Int} (s : n < sz v ∨ cn_lt (cn_w f (L l) (L r)) (L v)) (z1 : sz' v = n) (z2 : ∀ k, k ≠ v → sz' k = sz k) (L1 : L' v = cn_w f (L l) (L r)) (L2 : ∀ k, k < 54 → k ≠ v → L' k = L k) : cn_FL pf cm sz' L' n (cd + 1) := by
  have nv : ∀ {g : Int} {a b : Nat} {s1 s2 : Int}, cn_tri (fun k => cm k = 1) g a b → cn_z g (sz a) (sz b) ≤ n → (1 ≤ y_ch g → a ≠ v) ∧ (2 ≤ y_ch g → b ≠ v) := fun {g a b _ _} t hz' => by
    have zx := cn_zx g (sz a) (sz b)
    have pa : 1 ≤ y_ch g → 1 ≤ sz a := fun c => ((h.1 a (t.2.1 c).1).1 (t.2.1 c).2).1
    have pb : 2 ≤ y_ch g → 1 ≤ sz b := fun c => ((h.1 b (t.2.2.2.1 c).1).1 (t.2.2.2.1 c).2).1
    refine ⟨fun c q => ?_, fun c q => ?_⟩
    · rw [q] at zx hz' pa
      have pa := pa c
      rcases zx with zx | zx | zx
      · omega
      · omega
      · have pb := pb (by omega)
        omega
    · rw [q] at zx hz' pb
      have pb := pb c
      have pa := pa (by omega)
      omega
  have zw : ∀ {g : Int} {a b : Nat}, cn_tri (fun k => cm k = 1) g a b → (1 ≤ y_ch g → a ≠ v) → (2 ≤ y_ch g → b ≠ v) → cn_z g (sz' a) (sz' b) = cn_z g (sz a) (sz b) ∧ cn_w g (L' a) (L' b) = cn_w g (L a) (L b) := fun {g a b} t ha hb => cn_zw t (fun c => ⟨z2 a (ha c), L2 a (t.2.1 c).1 (ha c)⟩) (fun c => ⟨z2 b (hb c), L2 b (t.2.2.2.1 c).1 (hb c)⟩)
  have lo : ∀ {g : Int} {a b : Nat}, cn_tri (fun k => cm k = 1) g a b → cn_z g (sz' a) (sz' b) ≤ n → (1 ≤ y_ch g → a ≠ v) ∧ (2 ≤ y_ch g → b ≠ v) := fun {g a b} t hz' => by
    have zx := cn_zx g (sz' a) (sz' b)
    have p' : ∀ k, k < 54 → cm k = 1 → 1 ≤ sz' k := fun k hk c => by
      by_cases q : k = v
      · rw [q, z1]; exact n1
      · rw [z2 k q]; exact ((h.1 k hk).1 c).1
    have pa : 1 ≤ y_ch g → 1 ≤ sz' a := fun c => p' a (t.2.1 c).1 (t.2.1 c).2
    have pb : 2 ≤ y_ch g → 1 ≤ sz' b := fun c => p' b (t.2.2.2.1 c).1 (t.2.2.2.1 c).2
    refine ⟨fun c q => ?_, fun c q => ?_⟩
    · rw [q, z1] at zx hz' pa
      rcases zx with zx | zx | zx
      · omega
      · omega
      · have pb := pb (by omega)
        omega
    · rw [q, z1] at zx hz' pb
      have pa := pa (by omega)
      omega
  refine ⟨fun k hk => ⟨fun c => ?_, fun c => ?_⟩, fun k hk h40 => ?_, fun f' l' r' t' z => ?_⟩
  · by_cases q : k = v
    · rw [q, z1]
      exact ⟨n1, Or.inr (Or.inl ⟨rfl, by omega⟩)⟩
    · rw [z2 k q]
      have w := (h.1 k hk).1 c
      omega
  · by_cases q : k = v
    · rw [q] at c; exact absurd hcm c
    · rw [z2 k q]; exact (h.1 k hk).2 c
  · by_cases q : k = v
    · have w := nv (s1 := 0) (s2 := 0) t (by omega)
      have zz := zw t w.1 w.2
      exact ⟨f, l, r, t, by rw [q]; exact hv, by rw [q, z1, zz.1]; exact e.symm, by rw [q, L1, zz.2]⟩
    · rw [z2 k q] at h40
      obtain ⟨g, a, b, t', e1, e2, e3⟩ := h.2.1 k hk h40
      have ck : cm k = 1 := by
        by_cases c : cm k = 1
        · exact c
        · have := (h.1 k hk).2 c; omega
      have w := nv (s1 := 0) (s2 := 0) t' (by have := (h.1 k hk).1 ck; omega)
      have zz := zw t' w.1 w.2
      exact ⟨g, a, b, t', e1, by rw [z2 k q, zz.1]; exact e2, by rw [L2 k hk q, zz.2]; exact e3⟩
  · have w := lo t' (by omega)
    have zz := zw t' w.1 w.2
    rw [zz.1] at z ⊢
    rw [zz.2]
    have tc := cn_tri_cd t'
    have cse : (cn_z f' (sz l') (sz r') < n ∨ (cn_z f' (sz l') (sz r') = n ∧ f' * 2916 + l' * 54 + r' < cd)) ∨ (cn_z f' (sz l') (sz r') = n ∧ f' = f ∧ l' = l ∧ r' = r) := by omega
    rcases cse with cse | ⟨c1, c2, c3, c4⟩
    · have old := h.2.2 f' l' r' t' cse
      by_cases q : pf f' l' r' = v
      · rw [q] at old ⊢
        rw [z1, L1]
        refine ⟨by omega, fun _ => ?_⟩
        have ez : sz v = cn_z f' (sz l') (sz r') := by omega
        rcases s with s | s
        · omega
        · exact cn_lq_tr (Or.inr s) (old.2 ez)
      · have p54 : pf f' l' r' < 54 ∨ ¬ pf f' l' r' < 54 := by omega
        rw [z2 _ q]
        refine ⟨old.1, fun z => ?_⟩
        rcases p54 with p54 | p54
        · rw [L2 _ p54 q]; exact old.2 z
        · exact absurd (hp54 f' l' r' t') p54
    · rw [c2, c3, c4] at c1 ⊢
      rw [hv, z1, L1]
      exact ⟨by omega, fun _ => cn_lq_rf _⟩
end
set_option maxHeartbeats 8000000 in
theorem rx_203_b4 {E : q_E} {σ : x_S} {Q : Option q_V → x_S → Prop} {a1 a2 a3 : Int} (a1l : 0 ≤ a1) (a1h : a1 ≤ 4) (a2l : 0 ≤ a2) (a2h : a2 ≤ 53) (a3l : 0 ≤ a3) (a3h : a3 ≤ 53) (rq0 : (a1 < 2 ∨ (a1 = 2 ∧ σ 156 a2.toNat ≤ 39) ∨ (2 < a1 ∧ σ 156 a2.toNat + σ 156 a3.toNat ≤ 39))) (C0 : y_SI σ) (k : ∀ τ v, y_SI τ → y_rf σ τ → (-2147483648) ≤ v → v ≤ 2147483647 → (∀ q m, q ≠ 159 → τ q m = σ q m) → cn_ls (τ 159) (cn_z a1 (σ 156 a2.toNat) (σ 156 a3.toNat)).toNat = cn_w a1 (cn_lr (σ 157) (σ 156) a2.toNat) (cn_lr (σ 157) (σ 156) a3.toNat) → Q (some (x_I v)) τ) {n1 : Nat} (h1 : (y_ch a1 < 1 ∧ n1 = 0) ∨ (1 ≤ y_ch a1 ∧ (n1 : Int) = σ 156 a2.toNat)) (h2 : (n1 : Int) ≤ 39) (h3 : 2 ≤ y_ch a1 → (n1 : Int) + σ 156 a3.toNat ≤ 39) : ∀ (N : Nat) (n i : Int) (τ : x_S), (41 - i).toNat = N → n = 1 + n1 + i → 0 ≤ i → i ≤ σ 156 a3.toNat → (i = 0 ∨ 2 ≤ y_ch a1) → (∀ q m, q ≠ 159 → τ q m = σ q m) → τ 159 0 = a1 → (∀ m : Nat, m < n1 → τ 159 (1 + m) = σ 157 (40 * a2.toNat + m)) → (∀ m : Nat, (m : Int) < i → τ 159 (1 + n1 + m) = σ 157 (40 * a3.toNat + m)) → y_SI τ → y_rf σ τ → x_G E m_203 Q (t_203 4) [(0, x_R 138), (2, x_I a2), (3, x_I a3), (4, x_I (y_ch a1)), (5, x_I n), (6, x_I i)] [] τ := by
  have s2 := (C0 a2.toNat (by omega)).2
  have s3 := (C0 a3.toNat (by omega)).2
  have chx := y_chx a1
  intro N
  induction N using Nat.strongRecOn with
  | ind N ih =>
    intro n i τ hN hn i0 i1 ic fr g0 ga gb C F
    have e156 : τ 156 a3.toNat = σ 156 a3.toNat := fr 156 _ (by decide)
    have nb : n ≤ 40 := by
      rcases ic with ic | ic
      · omega
      · have := h3 ic; omega
    refine x_blk (b := 4) (a_203 E) rfl ?_
    unfold b_203_4
    refine x_iload rfl ?_
    refine x_aload rfl ?_
    refine x_getR (r := 138) rfl (by decide) (by decide) rfl ?_
    refine x_iload rfl ?_
    refine x_ialdS C (by omega) (by omega) ?_
    intro g1a g1b
    refine x_icmp_ge (by omega) (by omega) (by omega) (by omega) (fun z2 => ?_) (fun z2 => ?_)
    · skip
      refine x_iload rfl ?_
      refine x_push 1 rfl ?_
      refine x_icmp_le (by omega) (by omega) (by omega) (by omega) (fun z3 => ?_) (fun z3 => ?_)
      · skip
        refine x_blk (b := 3) (a_203 E) rfl ?_
        unfold b_203_3
        refine x_iload rfl ?_
        refine x_iret ?_
        have e156 : τ 156 a3.toNat = σ 156 a3.toNat := fr 156 _ (by decide)
        have zx := cn_zx a1 (σ 156 a2.toNat) (σ 156 a3.toNat)
        have bl := cn_bld (f := a1) (g := τ 159) (A := fun i => σ 157 (40 * a2.toNat + i)) (B := fun i => σ 157 (40 * a3.toNat + i)) (c := y_ch a1) (n1 := n1) (n2 := i.toNat) rfl g0 (fun m hm => ga m hm) (fun m hm => gb m (by omega)) (fun z => by omega) (fun z => by omega)
        refine k _ n C F (by omega) (by omega) fr ?_
        rw [show (cn_z a1 (σ 156 a2.toNat) (σ 156 a3.toNat)).toNat = 1 + n1 + i.toNat by omega, bl]
        have w := cn_wx a1 (cn_lr (σ 157) (σ 156) a2.toNat) (cn_lr (σ 157) (σ 156) a3.toNat)
        have w' := cn_wx a1 (cn_ls (fun i => σ 157 (40 * a2.toNat + i)) n1) (cn_ls (fun j => σ 157 (40 * a3.toNat + j)) i.toNat)
        rcases w with w | w | w
        · rcases w' with w' | w' | w'
          · rw [w.2, w'.2]
          · exact absurd w.1 (by omega)
          · exact absurd w.1 (by omega)
        · rcases w' with w' | w' | w'
          · exact absurd w.1 (by omega)
          · rw [w.2, w'.2, cn_lr_s (by omega), show n1 = (σ 156 a2.toNat).toNat by omega]
          · exact absurd w.1 (by omega)
        · rcases w' with w' | w' | w'
          · exact absurd w.1 (by omega)
          · exact absurd w.1 (by omega)
          · rw [w.2, w'.2, cn_lr_s (k := a2.toNat) (by omega), cn_lr_s (k := a3.toNat) (by omega), show n1 = (σ 156 a2.toNat).toNat by omega, show i.toNat = (σ 156 a3.toNat).toNat by omega]
      · skip
        refine x_aload rfl ?_
        refine x_getR (r := 138) rfl (by decide) (by decide) rfl ?_
        refine x_iload rfl ?_
        refine x_aload rfl ?_
        refine x_getR (r := 138) rfl (by decide) (by decide) rfl ?_
        refine x_push 40 rfl ?_
        refine x_iload rfl ?_
        refine x_imul ?_
        refine x_iload rfl ?_
        refine x_iadd ?_
        refine x_iald (r := 157) (n := 2160) (m := (40 * a3 + i).toNat) rfl rfl (by decide) (fun _ => rfl) (by omega) (by omega) (by omega) ?_
        intro g4a g4b
        refine x_astM y_m159 F (by omega) (by omega) (by omega) (by omega) (fun S5 e5 F5 => ?_)
        have C5 := y_SI_up C e5 (fun z => absurd z (by decide)) (fun z => absurd z (by decide))
        refine x_iinc 1 rfl rfl ?_
        refine x_iinc 1 rfl rfl ?_
        refine x_X_lo (lo' := [(0, x_R 138), (2, x_I _), (3, x_I _), (4, x_I _), (5, x_I _), (6, x_I _)]) ⟨rfl, rfl, rfl, rfl, rfl, rfl, trivial⟩ ?_
        refine x_goto ?_
        refine x_G_lo (lo' := [(0, x_R 138), (2, x_I _), (3, x_I _), (4, x_I _), (5, x_I _), (6, x_I _)]) ⟨rfl, rfl, rfl, rfl, rfl, rfl, trivial⟩ ?_
        refine ih _ (by omega) _ _ S5 rfl (by omega) (by omega) (by omega) (by omega) (fun q m h => (x_up_nr e5 h).trans (fr q m h)) ((x_up_ne e5 (fun z => by omega)).trans g0) (fun m hm => ?_) (fun m hm => ?_) C5 F5
        · rw [x_up_ne e5 (fun z => by omega)]; exact ga m hm
        · by_cases c : (m : Int) = i
          · rw [show 1 + n1 + m = n.toNat by omega, x_up_at e5, fr 157 _ (by decide)]
            congr 1
            omega
          · rw [x_up_ne e5 (fun z => by omega)]; exact gb m (by omega)
    · skip
      refine x_blk (b := 3) (a_203 E) rfl ?_
      unfold b_203_3
      refine x_iload rfl ?_
      refine x_iret ?_
      have e156 : τ 156 a3.toNat = σ 156 a3.toNat := fr 156 _ (by decide)
      have zx := cn_zx a1 (σ 156 a2.toNat) (σ 156 a3.toNat)
      have bl := cn_bld (f := a1) (g := τ 159) (A := fun i => σ 157 (40 * a2.toNat + i)) (B := fun i => σ 157 (40 * a3.toNat + i)) (c := y_ch a1) (n1 := n1) (n2 := i.toNat) rfl g0 (fun m hm => ga m hm) (fun m hm => gb m (by omega)) (fun z => by omega) (fun z => by omega)
      refine k _ n C F (by omega) (by omega) fr ?_
      rw [show (cn_z a1 (σ 156 a2.toNat) (σ 156 a3.toNat)).toNat = 1 + n1 + i.toNat by omega, bl]
      have w := cn_wx a1 (cn_lr (σ 157) (σ 156) a2.toNat) (cn_lr (σ 157) (σ 156) a3.toNat)
      have w' := cn_wx a1 (cn_ls (fun i => σ 157 (40 * a2.toNat + i)) n1) (cn_ls (fun j => σ 157 (40 * a3.toNat + j)) i.toNat)
      rcases w with w | w | w
      · rcases w' with w' | w' | w'
        · rw [w.2, w'.2]
        · exact absurd w.1 (by omega)
        · exact absurd w.1 (by omega)
      · rcases w' with w' | w' | w'
        · exact absurd w.1 (by omega)
        · rw [w.2, w'.2, cn_lr_s (by omega), show n1 = (σ 156 a2.toNat).toNat by omega]
        · exact absurd w.1 (by omega)
      · rcases w' with w' | w' | w'
        · exact absurd w.1 (by omega)
        · exact absurd w.1 (by omega)
        · rw [w.2, w'.2, cn_lr_s (k := a2.toNat) (by omega), cn_lr_s (k := a3.toNat) (by omega), show n1 = (σ 156 a2.toNat).toNat by omega, show i.toNat = (σ 156 a3.toNat).toNat by omega]
set_option maxHeartbeats 8000000 in
theorem rx_203_b2 {E : q_E} {σ : x_S} {Q : Option q_V → x_S → Prop} {a1 a2 a3 : Int} (a1l : 0 ≤ a1) (a1h : a1 ≤ 4) (a2l : 0 ≤ a2) (a2h : a2 ≤ 53) (a3l : 0 ≤ a3) (a3h : a3 ≤ 53) (rq0 : (a1 < 2 ∨ (a1 = 2 ∧ σ 156 a2.toNat ≤ 39) ∨ (2 < a1 ∧ σ 156 a2.toNat + σ 156 a3.toNat ≤ 39))) (C0 : y_SI σ) (k : ∀ τ v, y_SI τ → y_rf σ τ → (-2147483648) ≤ v → v ≤ 2147483647 → (∀ q m, q ≠ 159 → τ q m = σ q m) → cn_ls (τ 159) (cn_z a1 (σ 156 a2.toNat) (σ 156 a3.toNat)).toNat = cn_w a1 (cn_lr (σ 157) (σ 156) a2.toNat) (cn_lr (σ 157) (σ 156) a3.toNat) → Q (some (x_I v)) τ) : ∀ (N : Nat) (n i : Int) (τ : x_S), (41 - i).toNat = N → n = 1 + i → 0 ≤ i → i ≤ σ 156 a2.toNat → (i = 0 ∨ 1 ≤ y_ch a1) → (∀ q m, q ≠ 159 → τ q m = σ q m) → τ 159 0 = a1 → (∀ m : Nat, (m : Int) < i → τ 159 (1 + m) = σ 157 (40 * a2.toNat + m)) → y_SI τ → y_rf σ τ → x_G E m_203 Q (t_203 2) [(0, x_R 138), (2, x_I a2), (3, x_I a3), (4, x_I (y_ch a1)), (5, x_I n), (6, x_I i)] [] τ := by
  have s2 := (C0 a2.toNat (by omega)).2
  have s3 := (C0 a3.toNat (by omega)).2
  have chx := y_chx a1
  intro N
  induction N using Nat.strongRecOn with
  | ind N ih =>
    intro n i τ hN hn i0 i1 ic fr g0 ga C F
    have e156 : τ 156 a2.toNat = σ 156 a2.toNat := fr 156 _ (by decide)
    have nb : n ≤ 40 := by omega
    refine x_blk (b := 2) (a_203 E) rfl ?_
    unfold b_203_2
    refine x_iload rfl ?_
    refine x_aload rfl ?_
    refine x_getR (r := 138) rfl (by decide) (by decide) rfl ?_
    refine x_iload rfl ?_
    refine x_ialdS C (by omega) (by omega) ?_
    intro g1a g1b
    refine x_icmp_ge (by omega) (by omega) (by omega) (by omega) (fun z2 => ?_) (fun z2 => ?_)
    · skip
      refine x_iload rfl ?_
      refine x_if_le (by omega) (by omega) (fun z3 => ?_) (fun z3 => ?_)
      · skip
        refine x_blk (b := 1) (a_203 E) rfl ?_
        unfold b_203_1
        refine x_push 0 rfl ?_
        refine x_istore ?_
        refine x_fall ?_
        refine x_G_lo (lo' := [(0, x_R 138), (2, x_I _), (3, x_I _), (4, x_I _), (5, x_I _), (6, x_I _)]) ⟨rfl, rfl, rfl, rfl, rfl, rfl, trivial⟩ ?_
        have e156 : τ 156 a2.toNat = σ 156 a2.toNat := fr 156 _ (by decide)
        exact rx_203_b4 a1l a1h a2l a2h a3l a3h rq0 C0 k (n1 := i.toNat) (by omega) (by omega) (by omega) _ n 0 τ rfl (by omega) (by omega) (by omega) (by omega) fr g0 (fun m hm => ga m (by omega)) (fun m hm => absurd hm (by omega)) C F
      · skip
        refine x_aload rfl ?_
        refine x_getR (r := 138) rfl (by decide) (by decide) rfl ?_
        refine x_iload rfl ?_
        refine x_aload rfl ?_
        refine x_getR (r := 138) rfl (by decide) (by decide) rfl ?_
        refine x_push 40 rfl ?_
        refine x_iload rfl ?_
        refine x_imul ?_
        refine x_iload rfl ?_
        refine x_iadd ?_
        refine x_iald (r := 157) (n := 2160) (m := (40 * a2 + i).toNat) rfl rfl (by decide) (fun _ => rfl) (by omega) (by omega) (by omega) ?_
        intro g4a g4b
        refine x_astM y_m159 F (by omega) (by omega) (by omega) (by omega) (fun S5 e5 F5 => ?_)
        have C5 := y_SI_up C e5 (fun z => absurd z (by decide)) (fun z => absurd z (by decide))
        refine x_iinc 1 rfl rfl ?_
        refine x_iinc 1 rfl rfl ?_
        refine x_X_lo (lo' := [(0, x_R 138), (2, x_I _), (3, x_I _), (4, x_I _), (5, x_I _), (6, x_I _)]) ⟨rfl, rfl, rfl, rfl, rfl, rfl, trivial⟩ ?_
        refine x_goto ?_
        refine x_G_lo (lo' := [(0, x_R 138), (2, x_I _), (3, x_I _), (4, x_I _), (5, x_I _), (6, x_I _)]) ⟨rfl, rfl, rfl, rfl, rfl, rfl, trivial⟩ ?_
        refine ih _ (by omega) _ _ S5 rfl (by omega) (by omega) (by omega) (by omega) (fun q m h => (x_up_nr e5 h).trans (fr q m h)) ((x_up_ne e5 (fun z => by omega)).trans g0) (fun m hm => ?_) C5 F5
        by_cases c : (m : Int) = i
        · rw [show 1 + m = n.toNat by omega, x_up_at e5, fr 157 _ (by decide)]
          congr 1
          omega
        · rw [x_up_ne e5 (fun z => by omega)]; exact ga m (by omega)
    · skip
      refine x_blk (b := 1) (a_203 E) rfl ?_
      unfold b_203_1
      refine x_push 0 rfl ?_
      refine x_istore ?_
      refine x_fall ?_
      refine x_G_lo (lo' := [(0, x_R 138), (2, x_I _), (3, x_I _), (4, x_I _), (5, x_I _), (6, x_I _)]) ⟨rfl, rfl, rfl, rfl, rfl, rfl, trivial⟩ ?_
      have e156 : τ 156 a2.toNat = σ 156 a2.toNat := fr 156 _ (by decide)
      exact rx_203_b4 a1l a1h a2l a2h a3l a3h rq0 C0 k (n1 := i.toNat) (by omega) (by omega) (by omega) _ n 0 τ rfl (by omega) (by omega) (by omega) (by omega) fr g0 (fun m hm => ga m (by omega)) (fun m hm => absurd hm (by omega)) C F
theorem rx_203 {E : q_E} {σ : x_S} {Q : Option q_V → x_S → Prop} {a1 a2 a3 : Int} (a1l : 0 ≤ a1) (a1h : a1 ≤ 4) (a2l : 0 ≤ a2) (a2h : a2 ≤ 53) (a3l : 0 ≤ a3) (a3h : a3 ≤ 53) (rq0 : (a1 < 2 ∨ (a1 = 2 ∧ σ 156 a2.toNat ≤ 39) ∨ (2 < a1 ∧ σ 156 a2.toNat + σ 156 a3.toNat ≤ 39))) (C0 : y_SI σ) (k : ∀ τ v, y_SI τ → y_rf σ τ → (-2147483648) ≤ v → v ≤ 2147483647 → (∀ q m, q ≠ 159 → τ q m = σ q m) → cn_ls (τ 159) (cn_z a1 (σ 156 a2.toNat) (σ 156 a3.toNat)).toNat = cn_w a1 (cn_lr (σ 157) (σ 156) a2.toNat) (cn_lr (σ 157) (σ 156) a3.toNat) → Q (some (x_I v)) τ) : x_P E 203 [x_R 138, x_I a1, x_I a2, x_I a3] σ Q := by
  have s2 := (C0 a2.toNat (by omega)).2
  have s3 := (C0 a3.toNat (by omega)).2
  have chx := y_chx a1
  refine x_Mt e_203 (h_203 E) (Nat.le_of_ble_eq_true rfl) t_203 rfl ?_
  refine x_blk (b := 0) (a_203 E) rfl ?_
  unfold b_203_0
  refine x_iload rfl ?_
  refine x_cS (fun _ => rfl) (Nat.le_of_ble_eq_true rfl) ?_
  refine rs_0 (by omega) (by omega) (fun v1 v1a v1b v1c => ?_)
  refine x_istore ?_
  refine x_push 1 rfl ?_
  refine x_istore ?_
  refine x_X_lo (lo' := [(0, x_R 138), (1, x_I _), (2, x_I _), (3, x_I _), (4, x_I _), (5, x_I _)]) ⟨rfl, rfl, rfl, rfl, rfl, rfl, trivial⟩ ?_
  refine x_aload rfl ?_
  refine x_getR (r := 138) rfl (by decide) (by decide) rfl ?_
  refine x_push 0 rfl ?_
  refine x_iload rfl ?_
  refine x_astM y_m159 y_rf_rf (by omega) (by omega) (by omega) (by omega) (fun S2 e2 F2 => ?_)
  have C2 := y_SI_up C0 e2 (fun z => absurd z (by decide)) (fun z => absurd z (by decide))
  refine x_push 0 rfl ?_
  refine x_istore ?_
  refine x_fall ?_
  refine x_G_lo (lo' := [(0, x_R 138), (2, x_I _), (3, x_I _), (4, x_I _), (5, x_I _), (6, x_I _)]) ⟨rfl, rfl, rfl, rfl, rfl, rfl, trivial⟩ ?_
  have cv : v1 = y_ch a1 := by omega
  subst cv
  exact rx_203_b2 a1l a1h a2l a2h a3l a3h rq0 C0 k _ 1 0 S2 rfl (by omega) (by omega) (by omega) (by omega) (fun q m h => x_up_nr e2 h) (x_up_at e2) (fun m hm => absurd hm (by omega)) C2 F2
theorem rx_204_b2 {E : q_E} {σ : x_S} {Q : Option q_V → x_S → Prop} {a1 a2 : Int} (a1l : 0 ≤ a1) (a1h : a1 ≤ 53) (a2l : 0 ≤ a2) (a2h : a2 ≤ 40) (k1 : cn_lt (cn_ls (σ 159) a2.toNat) (cn_ls (fun i => σ 157 (40 * a1.toNat + i)) a2.toNat) → Q (some (x_I 1)) σ) (k0 : ¬ cn_lt (cn_ls (σ 159) a2.toNat) (cn_ls (fun i => σ 157 (40 * a1.toNat + i)) a2.toNat) → Q (some (x_I 0)) σ) : ∀ (N : Nat) (i : Int), (40 - i).toNat = N → 0 ≤ i → i ≤ a2 → (∀ m : Nat, (m : Int) < i → σ 159 m = σ 157 (40 * a1.toNat + m)) → x_G E m_204 Q (t_204 2) [(0, x_R 138), (1, x_I a1), (2, x_I a2), (3, x_I i)] [] σ := by
  intro N
  induction N using Nat.strongRecOn with
  | ind N ih =>
    intro i hN i0 i1 eq
    refine x_blk (b := 2) (a_204 E) rfl ?_
    unfold b_204_2
    refine x_iload rfl ?_
    refine x_iload rfl ?_
    refine x_icmp_ge (by omega) (by omega) (by omega) (by omega) (fun z1 => ?_) (fun z1 => ?_)
    · skip
      refine x_aload rfl ?_
      refine x_getR (r := 138) rfl (by decide) (by decide) rfl ?_
      refine x_iload rfl ?_
      refine x_iald (r := 159) (n := 40) (m := i.toNat) rfl rfl (by decide) (fun _ => rfl) (by omega) (by omega) (by omega) ?_
      intro g2a g2b
      refine x_aload rfl ?_
      refine x_getR (r := 138) rfl (by decide) (by decide) rfl ?_
      refine x_push 40 rfl ?_
      refine x_iload rfl ?_
      refine x_imul ?_
      refine x_iload rfl ?_
      refine x_iadd ?_
      refine x_iald (r := 157) (n := 2160) (m := (40 * a1 + i).toNat) rfl rfl (by decide) (fun _ => rfl) (by omega) (by omega) (by omega) ?_
      intro g3a g3b
      refine x_icmp_ne (by omega) (by omega) (by omega) (by omega) (fun z4 => ?_) (fun z4 => ?_)
      · skip
        refine x_iinc 1 rfl rfl ?_
        refine x_goto ?_
        refine x_G_lo (lo' := [(0, x_R 138), (1, x_I _), (2, x_I _), (3, x_I _)]) ⟨rfl, rfl, rfl, rfl, trivial⟩ ?_
        refine ih _ (by omega) _ rfl (by omega) (by omega) (fun m hm => ?_)
        by_cases c : (m : Int) = i
        · have e1 : m = i.toNat := by omega
          have e2 : 40 * a1.toNat + m = (40 * a1 + i).toNat := by omega
          rw [e1] at e2
          rw [e1, e2]
          omega
        · exact eq m (by omega)
      · skip
        refine x_blk (b := 1) (a_204 E) rfl ?_
        unfold b_204_1
        refine x_iload rfl ?_
        refine x_iload rfl ?_
        refine x_icmp_ge (by omega) (by omega) (by omega) (by omega) (fun z5 => ?_) (fun z5 => ?_)
        · skip
          refine x_aload rfl ?_
          refine x_getR (r := 138) rfl (by decide) (by decide) rfl ?_
          refine x_iload rfl ?_
          refine x_iald (r := 159) (n := 40) (m := i.toNat) rfl rfl (by decide) (fun _ => rfl) (by omega) (by omega) (by omega) ?_
          intro g6a g6b
          refine x_aload rfl ?_
          refine x_getR (r := 138) rfl (by decide) (by decide) rfl ?_
          refine x_push 40 rfl ?_
          refine x_iload rfl ?_
          refine x_imul ?_
          refine x_iload rfl ?_
          refine x_iadd ?_
          refine x_iald (r := 157) (n := 2160) (m := (40 * a1 + i).toNat) rfl rfl (by decide) (fun _ => rfl) (by omega) (by omega) (by omega) ?_
          intro g7a g7b
          refine x_icmp_ge (by omega) (by omega) (by omega) (by omega) (fun z8 => ?_) (fun z8 => ?_)
          · skip
            refine x_push 1 rfl ?_
            refine x_goto ?_
            refine x_blk (b := 4) (a_204 E) rfl ?_
            unfold b_204_4
            refine x_zret (by decide) ?_
            have e2 : 40 * a1.toNat + i.toNat = (40 * a1 + i).toNat := by omega
            refine k1 (cn_ls_lt i.toNat (by omega) (fun m hm => eq m (by omega)) ?_)
            show σ 159 i.toNat < σ 157 (40 * a1.toNat + i.toNat)
            rw [e2]
            omega
          · skip
            refine x_blk (b := 3) (a_204 E) rfl ?_
            unfold b_204_3
            refine x_push 0 rfl ?_
            refine x_fall ?_
            refine x_blk (b := 4) (a_204 E) rfl ?_
            unfold b_204_4
            refine x_zret (by decide) ?_
            have e2 : 40 * a1.toNat + i.toNat = (40 * a1 + i).toNat := by omega
            refine k0 (fun z => ?_)
            by_cases c : i < a2
            · refine cn_lt_as z (cn_ls_lt i.toNat (by omega) (fun m hm => (eq m (by omega)).symm) ?_)
              show σ 157 (40 * a1.toNat + i.toNat) < σ 159 i.toNat
              rw [e2]
              omega
            · have e3 : cn_ls (σ 159) a2.toNat = cn_ls (fun i => σ 157 (40 * a1.toNat + i)) a2.toNat := cn_ls_x (fun m hm => eq m (by omega))
              rw [e3] at z
              exact cn_lt_irr _ z
        · skip
          refine x_blk (b := 3) (a_204 E) rfl ?_
          unfold b_204_3
          refine x_push 0 rfl ?_
          refine x_fall ?_
          refine x_blk (b := 4) (a_204 E) rfl ?_
          unfold b_204_4
          refine x_zret (by decide) ?_
          have e2 : 40 * a1.toNat + i.toNat = (40 * a1 + i).toNat := by omega
          refine k0 (fun z => ?_)
          by_cases c : i < a2
          · refine cn_lt_as z (cn_ls_lt i.toNat (by omega) (fun m hm => (eq m (by omega)).symm) ?_)
            show σ 157 (40 * a1.toNat + i.toNat) < σ 159 i.toNat
            rw [e2]
            omega
          · have e3 : cn_ls (σ 159) a2.toNat = cn_ls (fun i => σ 157 (40 * a1.toNat + i)) a2.toNat := cn_ls_x (fun m hm => eq m (by omega))
            rw [e3] at z
            exact cn_lt_irr _ z
    · skip
      refine x_blk (b := 1) (a_204 E) rfl ?_
      unfold b_204_1
      refine x_iload rfl ?_
      refine x_iload rfl ?_
      refine x_icmp_ge (by omega) (by omega) (by omega) (by omega) (fun z9 => ?_) (fun z9 => ?_)
      · skip
        refine x_aload rfl ?_
        refine x_getR (r := 138) rfl (by decide) (by decide) rfl ?_
        refine x_iload rfl ?_
        refine x_iald (r := 159) (n := 40) (m := i.toNat) rfl rfl (by decide) (fun _ => rfl) (by omega) (by omega) (by omega) ?_
        intro g10a g10b
        refine x_aload rfl ?_
        refine x_getR (r := 138) rfl (by decide) (by decide) rfl ?_
        refine x_push 40 rfl ?_
        refine x_iload rfl ?_
        refine x_imul ?_
        refine x_iload rfl ?_
        refine x_iadd ?_
        refine x_iald (r := 157) (n := 2160) (m := (40 * a1 + i).toNat) rfl rfl (by decide) (fun _ => rfl) (by omega) (by omega) (by omega) ?_
        intro g11a g11b
        refine x_icmp_ge (by omega) (by omega) (by omega) (by omega) (fun z12 => ?_) (fun z12 => ?_)
        · skip
          refine x_push 1 rfl ?_
          refine x_goto ?_
          refine x_blk (b := 4) (a_204 E) rfl ?_
          unfold b_204_4
          refine x_zret (by decide) ?_
          have e2 : 40 * a1.toNat + i.toNat = (40 * a1 + i).toNat := by omega
          refine k1 (cn_ls_lt i.toNat (by omega) (fun m hm => eq m (by omega)) ?_)
          show σ 159 i.toNat < σ 157 (40 * a1.toNat + i.toNat)
          rw [e2]
          omega
        · skip
          refine x_blk (b := 3) (a_204 E) rfl ?_
          unfold b_204_3
          refine x_push 0 rfl ?_
          refine x_fall ?_
          refine x_blk (b := 4) (a_204 E) rfl ?_
          unfold b_204_4
          refine x_zret (by decide) ?_
          have e2 : 40 * a1.toNat + i.toNat = (40 * a1 + i).toNat := by omega
          refine k0 (fun z => ?_)
          by_cases c : i < a2
          · refine cn_lt_as z (cn_ls_lt i.toNat (by omega) (fun m hm => (eq m (by omega)).symm) ?_)
            show σ 157 (40 * a1.toNat + i.toNat) < σ 159 i.toNat
            rw [e2]
            omega
          · have e3 : cn_ls (σ 159) a2.toNat = cn_ls (fun i => σ 157 (40 * a1.toNat + i)) a2.toNat := cn_ls_x (fun m hm => eq m (by omega))
            rw [e3] at z
            exact cn_lt_irr _ z
      · skip
        refine x_blk (b := 3) (a_204 E) rfl ?_
        unfold b_204_3
        refine x_push 0 rfl ?_
        refine x_fall ?_
        refine x_blk (b := 4) (a_204 E) rfl ?_
        unfold b_204_4
        refine x_zret (by decide) ?_
        have e2 : 40 * a1.toNat + i.toNat = (40 * a1 + i).toNat := by omega
        refine k0 (fun z => ?_)
        by_cases c : i < a2
        · refine cn_lt_as z (cn_ls_lt i.toNat (by omega) (fun m hm => (eq m (by omega)).symm) ?_)
          show σ 157 (40 * a1.toNat + i.toNat) < σ 159 i.toNat
          rw [e2]
          omega
        · have e3 : cn_ls (σ 159) a2.toNat = cn_ls (fun i => σ 157 (40 * a1.toNat + i)) a2.toNat := cn_ls_x (fun m hm => eq m (by omega))
          rw [e3] at z
          exact cn_lt_irr _ z
theorem rx_204 {E : q_E} {σ : x_S} {Q : Option q_V → x_S → Prop} {a1 a2 : Int} (a1l : 0 ≤ a1) (a1h : a1 ≤ 53) (a2l : 0 ≤ a2) (a2h : a2 ≤ 40) (k1 : cn_lt (cn_ls (σ 159) a2.toNat) (cn_ls (fun i => σ 157 (40 * a1.toNat + i)) a2.toNat) → Q (some (x_I 1)) σ) (k0 : ¬ cn_lt (cn_ls (σ 159) a2.toNat) (cn_ls (fun i => σ 157 (40 * a1.toNat + i)) a2.toNat) → Q (some (x_I 0)) σ) : x_P E 204 [x_R 138, x_I a1, x_I a2] σ Q := by
  refine x_Mt e_204 (h_204 E) (Nat.le_of_ble_eq_true rfl) t_204 rfl ?_
  refine x_blk (b := 0) (a_204 E) rfl ?_
  unfold b_204_0
  refine x_push 0 rfl ?_
  refine x_istore ?_
  refine x_fall ?_
  refine x_G_lo (lo' := [(0, x_R 138), (1, x_I _), (2, x_I _), (3, x_I _)]) ⟨rfl, rfl, rfl, rfl, trivial⟩ ?_
  exact rx_204_b2 a1l a1h a2l a2h k1 k0 _ 0 rfl (by omega) (by omega) (fun m hm => absurd hm (by omega))
set_option maxHeartbeats 8000000 in
theorem rx_201_b5 {E : q_E} {σ : x_S} {Q : Option q_V → x_S → Prop} {a1 : Int} (a1l : 0 ≤ a1) (a1h : a1 ≤ 1) (hP : y_PI (σ 140)) (k : ∀ τ, y_SI τ → y_rf σ τ → cn_FC (σ 140) a1 (τ 155) (τ 138 27) → (∀ k, k < 54 → τ 155 k ≠ 1 → τ 156 k = 41) → cn_sol (cn_pf (σ 140) a1) (fun k => τ 155 k = 1) (τ 156) (cn_lr (τ 157) (τ 156)) → Q none τ) {cm : Nat → Int} {nn : Int} (hfc : cn_FC (σ 140) a1 cm nn) {n cd v : Int} {σ1 : x_S} (n1 : 1 ≤ n) (n2 : n ≤ 40) (c0 : 0 ≤ cd) (c1 : cd ≤ 14579) (v0 : 0 ≤ v) (v1 : v ≤ 53) (ho : ∀ τ' : x_S, y_SI τ' → y_rf σ τ' → (∀ q m, q ≠ 157 → τ' q m = σ1 q m) → (∀ m : Nat, ¬ (40 * v ≤ m ∧ (m : Int) < 40 * v + n) → τ' 157 m = σ1 157 m) → (∀ m : Nat, (m : Int) < n → τ' 157 (40 * v.toNat + m) = σ1 159 m) → x_G E m_201 Q (t_201 6) [(0, x_R 138), (1, x_I a1), (2, x_I n), (3, x_I (cd + 1))] [] τ') : ∀ (N : Nat) (i : Int) (τ : x_S), (40 - i).toNat = N → 0 ≤ i → i ≤ n → y_SI τ → y_rf σ τ → (∀ q m, q ≠ 157 → τ q m = σ1 q m) → (∀ m : Nat, ¬ (40 * v ≤ m ∧ (m : Int) < 40 * v + i) → τ 157 m = σ1 157 m) → (∀ m : Nat, (m : Int) < i → τ 157 (40 * v.toNat + m) = σ1 159 m) → x_G E m_201 Q (t_201 5) [(0, x_R 138), (1, x_I a1), (2, x_I n), (3, x_I cd), (7, x_I v), (8, x_I i)] [] τ := by
  have ru := hP.2.2.2.1
  have kd := hP.1
  intro N
  induction N using Nat.strongRecOn with
  | ind N ih =>
    intro i τ hN i0 i1 C F fr fo fi
    refine x_blk (b := 5) (a_201 E) rfl ?_
    unfold b_201_5
    refine x_iload rfl ?_
    refine x_iload rfl ?_
    refine x_icmp_ge (by omega) (by omega) (by omega) (by omega) (fun z1 => ?_) (fun z1 => ?_)
    · skip
      refine x_aload rfl ?_
      refine x_getR (r := 138) rfl (by decide) (by decide) rfl ?_
      refine x_push 40 rfl ?_
      refine x_iload rfl ?_
      refine x_imul ?_
      refine x_iload rfl ?_
      refine x_iadd ?_
      refine x_aload rfl ?_
      refine x_getR (r := 138) rfl (by decide) (by decide) rfl ?_
      refine x_iload rfl ?_
      refine x_iald (r := 159) (n := 40) (m := i.toNat) rfl rfl (by decide) (fun _ => rfl) (by omega) (by omega) (by omega) ?_
      intro g2a g2b
      refine x_astM y_m157 F (by omega) (by omega) (by omega) (by omega) (fun S3 e3 F3 => ?_)
      have C3 := y_SI_up C e3 (fun z => absurd z (by decide)) (fun z => absurd z (by decide))
      refine x_iinc 1 rfl rfl ?_
      refine x_goto ?_
      refine x_G_lo (lo' := [(0, x_R 138), (1, x_I _), (2, x_I _), (3, x_I _), (7, x_I _), (8, x_I _)]) ⟨rfl, rfl, rfl, rfl, rfl, rfl, trivial⟩ ?_
      refine ih _ (by omega) _ _ rfl (by omega) (by omega) C3 F3 (fun q m h => (x_up_nr e3 h).trans (fr q m h)) (fun m hm => (x_up_ne e3 (fun z => by omega)).trans (fo m (by omega))) (fun m hm => ?_)
      by_cases c : (m : Int) = i
      · rw [show 40 * v.toNat + m = (40 * v + i).toNat by omega, x_up_at e3, fr 159 _ (by decide)]
        congr 1
        omega
      · rw [x_up_ne e3 (fun z => by omega)]; exact fi m (by omega)
    · skip
      refine x_blk (b := 3) (a_201 E) rfl ?_
      unfold b_201_3
      refine x_iinc 1 rfl rfl ?_
      refine x_goto ?_
      refine x_G_lo (lo' := [(0, x_R 138), (1, x_I _), (2, x_I _), (3, x_I _)]) ⟨rfl, rfl, rfl, rfl, trivial⟩ ?_
      exact ho _ C F fr (fun m hm => fo m (by omega)) (fun m hm => fi m (by omega))
set_option maxHeartbeats 8000000 in
theorem rx_201_b6 {E : q_E} {σ : x_S} {Q : Option q_V → x_S → Prop} {a1 : Int} (a1l : 0 ≤ a1) (a1h : a1 ≤ 1) (hP : y_PI (σ 140)) (k : ∀ τ, y_SI τ → y_rf σ τ → cn_FC (σ 140) a1 (τ 155) (τ 138 27) → (∀ k, k < 54 → τ 155 k ≠ 1 → τ 156 k = 41) → cn_sol (cn_pf (σ 140) a1) (fun k => τ 155 k = 1) (τ 156) (cn_lr (τ 157) (τ 156)) → Q none τ) {cm : Nat → Int} {nn : Int} (hfc : cn_FC (σ 140) a1 cm nn) {n : Int} (n1 : 1 ≤ n) (n2 : n ≤ 40) (ho : ∀ τ' : x_S, y_SI τ' → y_rf σ τ' → τ' 155 = cm → τ' 138 27 = nn → cn_FL (cn_pf (σ 140) a1) cm (τ' 156) (cn_lr (τ' 157) (τ' 156)) (n + 1) 0 → x_G E m_201 Q (t_201 7) [(0, x_R 138), (1, x_I a1), (2, x_I (n + 1))] [] τ') : ∀ (N : Nat) (cd : Int) (τ : x_S), (14580 - cd).toNat = N → 0 ≤ cd → cd ≤ 14580 → y_SI τ → y_rf σ τ → τ 155 = cm → τ 138 27 = nn → cn_FL (cn_pf (σ 140) a1) cm (τ 156) (cn_lr (τ 157) (τ 156)) n cd → x_G E m_201 Q (t_201 6) [(0, x_R 138), (1, x_I a1), (2, x_I n), (3, x_I cd)] [] τ := by
  have ru := hP.2.2.2.1
  have kd := hP.1
  intro N
  induction N using Nat.strongRecOn with
  | ind N ih =>
    intro cd τ hN c0 c1 C F h55 h27 hfl
    refine x_blk (b := 6) (a_201 E) rfl ?_
    unfold b_201_6
    refine x_iload rfl ?_
    refine x_push 14580 rfl ?_
    refine x_icmp_ge (by omega) (by omega) (by omega) (by omega) (fun z1 => ?_) (fun z1 => ?_)
    · skip
      refine x_iload rfl ?_
      refine x_push 2916 rfl ?_
      refine x_idiv (by omega) (by omega) (by omega) (by omega) ?_
      refine x_istore ?_
      refine x_iload rfl ?_
      refine x_push 54 rfl ?_
      refine x_idiv (by omega) (by omega) (by omega) (by omega) ?_
      refine x_push 54 rfl ?_
      refine x_irem (by omega) (by omega) (by omega) (by omega) ?_
      refine x_istore ?_
      refine x_X_lo (lo' := [(0, x_R 138), (1, x_I _), (2, x_I _), (3, x_I _), (4, x_I _), (5, x_I _)]) ⟨rfl, rfl, rfl, rfl, rfl, rfl, trivial⟩ ?_
      refine x_iload rfl ?_
      refine x_push 54 rfl ?_
      refine x_irem (by omega) (by omega) (by omega) (by omega) ?_
      refine x_istore ?_
      refine x_aload rfl ?_
      refine x_iload rfl ?_
      refine x_iload rfl ?_
      refine x_iload rfl ?_
      refine x_cV (fun _ => rfl) rfl (by decide) (Nat.le_of_ble_eq_true rfl) ?_
      refine rx_1 (by omega) (by omega) (by omega) (by omega) (by omega) (by omega) C (fun y2 => ?_) (fun y2 => ?_)
      · skip
        refine x_if_eq (by omega) (by omega) (fun z => absurd z (by omega)) (fun z3 => ?_)
        refine x_aload rfl ?_
        refine x_iload rfl ?_
        refine x_iload rfl ?_
        refine x_iload rfl ?_
        refine x_cV (fun _ => rfl) rfl (by decide) (Nat.le_of_ble_eq_true rfl) ?_
        refine rs_202 (by omega) (by omega) (by omega) (by omega) (by omega) (by omega) C (fun v4 v4a v4b v4c => ?_)
        have z4 := cn_zch v4c
        refine x_iload rfl ?_
        refine x_icmp_ne (by omega) (by omega) (by omega) (by omega) (fun z5 => ?_) (fun z5 => ?_)
        · skip
          refine x_aload rfl ?_
          refine x_iload rfl ?_
          refine x_iload rfl ?_
          refine x_iload rfl ?_
          refine x_iload rfl ?_
          refine x_cV (fun _ => rfl) rfl (by decide) (Nat.le_of_ble_eq_true rfl) ?_
          refine rx_29 (by omega) (by omega) (by omega) (by omega) (by omega) (by omega) (by omega) (by omega) (y_rf_P F hP) (fun S6 v6 f6 v6a v6b k6_0 k6_1 => ?_)
          have F6 := y_rf_tr F f6
          have C6 := y_so_C C k6_0
          refine x_istore ?_
          refine x_X_lo (lo' := [(0, x_R 138), (1, x_I _), (2, x_I _), (3, x_I _), (4, x_I _), (5, x_I _), (6, x_I _), (7, x_I _)]) ⟨rfl, rfl, rfl, rfl, rfl, rfl, rfl, rfl, trivial⟩ ?_
          refine x_aload rfl ?_
          refine x_getR (r := 138) rfl (by decide) (by decide) rfl ?_
          refine x_iload rfl ?_
          refine x_ialdS C6 (by omega) (by omega) ?_
          intro g7a g7b
          refine x_iload rfl ?_
          refine x_icmp_lt (by omega) (by omega) (by omega) (by omega) (fun z8 => ?_) (fun z8 => ?_)
          · skip
            refine x_blk (b := 3) (a_201 E) rfl ?_
            unfold b_201_3
            refine x_iinc 1 rfl rfl ?_
            refine x_goto ?_
            refine x_G_lo (lo' := [(0, x_R 138), (1, x_I _), (2, x_I _), (3, x_I _)]) ⟨rfl, rfl, rfl, rfl, trivial⟩ ?_
            have pe : cn_pf (σ 140) a1 (cd / 2916) (cd / 54 % 54).toNat (cd % 54).toNat = v6.toNat := by
              rw [cn_e140 F] at k6_1
              show (cn_pI (σ 140) a1 (cd / 2916) (((cd / 54 % 54).toNat : Nat) : Int) (((cd % 54).toNat : Nat) : Int)).toNat = _
              rw [show (((cd / 54 % 54).toNat : Nat) : Int) = cd / 54 % 54 by omega, show (((cd % 54).toNat : Nat) : Int) = cd % 54 by omega, ← k6_1]
            have o56 : S6 156 = τ 156 := funext fun m => k6_0 156 m (by decide)
            have o57 : S6 157 = τ 157 := funext fun m => k6_0 157 m (by decide)
            have o55 : S6 155 = τ 155 := funext fun m => k6_0 155 m (by decide)
            have ov := congrFun o56 v6.toNat
            refine ih _ (by omega) _ S6 rfl (by omega) (by omega) C6 F6 (o55.trans h55) ((k6_0 138 27 (by decide)).trans h27) ?_
            rw [o56, o57]
            exact cn_FL_s hfl (by omega) rfl rfl rfl (by omega) (Or.inr (Or.inr (Or.inl (by rw [pe]; omega))))
          · skip
            refine x_aload rfl ?_
            refine x_iload rfl ?_
            have b1 := k6_0 156 (cd / 54 % 54).toNat (by decide)
            have b2 := k6_0 156 (cd % 54).toNat (by decide)
            refine x_iload rfl ?_
            refine x_iload rfl ?_
            refine x_cV (fun _ => rfl) rfl (by decide) (Nat.le_of_ble_eq_true rfl) ?_
            have o56 : S6 156 = τ 156 := funext fun m => k6_0 156 m (by decide)
            have o57 : S6 157 = τ 157 := funext fun m => k6_0 157 m (by decide)
            have q1 := congrFun o56 (cd / 54 % 54).toNat
            have q2 := congrFun o56 (cd % 54).toNat
            have ov := congrFun o56 v6.toNat
            refine rx_203 (by omega) (by omega) (by omega) (by omega) (by omega) (by omega) (by omega) C6 (fun S9 v9 C9 f9 v9a v9b fr9 cand => ?_)
            have F9 := y_rf_tr F6 f9
            rw [o56, o57] at cand
            have p56 : S9 156 = τ 156 := (funext fun m => fr9 156 m (by decide)).trans o56
            have p57 : S9 157 = τ 157 := (funext fun m => fr9 157 m (by decide)).trans o57
            have p55 : S9 155 = τ 155 := (funext fun m => fr9 155 m (by decide)).trans (funext fun m => k6_0 155 m (by decide))
            have p27 : S9 138 27 = τ 138 27 := (fr9 138 27 (by decide)).trans (k6_0 138 27 (by decide))
            have pv := congrFun p56 v6.toNat
            refine x_pop rfl ?_
            refine x_aload rfl ?_
            refine x_fall ?_
            refine x_blk (b := 8) (a_201 E) rfl ?_
            unfold b_201_8
            refine x_getR (r := 138) rfl (by decide) (by decide) rfl ?_
            refine x_iload rfl ?_
            refine x_ialdS C9 (by omega) (by omega) ?_
            intro g10a g10b
            refine x_iload rfl ?_
            refine x_icmp_gt (by omega) (by omega) (by omega) (by omega) (fun z11 => ?_) (fun z11 => ?_)
            · skip
              refine x_aload rfl ?_
              refine x_iload rfl ?_
              refine x_iload rfl ?_
              refine x_cV (fun _ => rfl) rfl (by decide) (Nat.le_of_ble_eq_true rfl) ?_
              refine rx_204 (by omega) (by omega) (by omega) (by omega) (fun y12 => ?_) (fun y12 => ?_)
              · skip
                refine x_if_eq (by omega) (by omega) (fun z => absurd z (by omega)) (fun z13 => ?_)
                refine x_fall ?_
                refine x_blk (b := 4) (a_201 E) rfl ?_
                unfold b_201_4
                refine x_aload rfl ?_
                refine x_getR (r := 138) rfl (by decide) (by decide) rfl ?_
                refine x_iload rfl ?_
                refine x_iload rfl ?_
                refine x_astM y_m156 F9 (by omega) (by omega) (by omega) (by omega) (fun S14 e14 F14 => ?_)
                have C14 := y_SI_up C9 e14 (fun z => absurd z (by decide)) (fun _ => by omega)
                refine x_push 0 rfl ?_
                refine x_istore ?_
                refine x_fall ?_
                refine x_G_lo (lo' := [(0, x_R 138), (1, x_I _), (2, x_I _), (3, x_I _), (7, x_I _), (8, x_I _)]) ⟨rfl, rfl, rfl, rfl, rfl, rfl, trivial⟩ ?_
                have pe : cn_pf (σ 140) a1 (cd / 2916) (cd / 54 % 54).toNat (cd % 54).toNat = v6.toNat := by
                  rw [cn_e140 F] at k6_1
                  show (cn_pI (σ 140) a1 (cd / 2916) (((cd / 54 % 54).toNat : Nat) : Int) (((cd % 54).toNat : Nat) : Int)).toNat = _
                  rw [show (((cd / 54 % 54).toNat : Nat) : Int) = cd / 54 % 54 by omega, show (((cd % 54).toNat : Nat) : Int) = cd % 54 by omega, ← k6_1]
                have tr : cn_tri (fun k => cm k = 1) (cd / 2916) (cd / 54 % 54).toNat (cd % 54).toNat := by rw [← h55]; exact y2
                have hc1 : cm v6.toNat = 1 := by
                  have q := hfc.2.2.1 _ _ _ tr
                  rw [pe] at q
                  exact q
                rw [show (cn_z (cd / 2916) (τ 156 (cd / 54 % 54).toNat) (τ 156 (cd % 54).toNat)).toNat = n.toNat by omega] at cand
                have w156 : ∀ m, m ≠ v6.toNat → S14 156 m = τ 156 m := fun m hm => (x_up_ne e14 (fun z => hm z.2)).trans (congrFun p56 m)
                have w157 : ∀ m, S14 157 m = τ 157 m := fun m => (x_up_nr e14 (by decide)).trans (congrFun p57 m)
                refine rx_201_b5 a1l a1h hP k hfc (n := n) (cd := cd) (v := v6) (σ1 := S14) (by omega) (by omega) (by omega) (by omega) (by omega) (by omega) (fun τ' C' F' fr fo fi => ?_) _ 0 _ rfl (by omega) (by omega) C14 F14 (fun _ _ _ => rfl) (fun _ _ => rfl) (fun m hm => absurd hm (by omega))
                refine ih _ (by omega) _ τ' rfl (by omega) (by omega) C' F' ?_ ?_ ?_
                · rw [show τ' 155 = S9 155 from funext fun m => (fr 155 m (by decide)).trans (x_up_nr e14 (by decide)), p55]; exact h55
                · rw [fr 138 27 (by decide), x_up_nr e14 (by decide), p27]; exact h27
                refine cn_FL_u hfl (by omega) (by omega) (by omega) rfl rfl rfl (by omega) tr (by omega) pe (by omega) (fun g a b t => cn_pf_b hP t.1.1 t.1.2) hc1 (by omega) (Or.inr (by
                    have g := y12
                    rw [cand, p57] at g
                    rw [cn_lr_s (k := v6.toNat) (by omega), show τ 156 v6.toNat = n by omega]
                    exact g)) ?_ ?_ ?_ ?_
                · exact (fr 156 _ (by decide)).trans (x_up_at e14)
                · intro m hm
                  exact (fr 156 m (by decide)).trans (w156 m hm)
                · rw [cn_lr_s (by rw [fr 156 _ (by decide), x_up_at e14]; omega), fr 156 _ (by decide), x_up_at e14, ← cand]
                  refine cn_ls_x (fun i hi => ?_)
                  rw [fi i (by omega)]
                  exact x_up_nr e14 (by decide)
                · intro m hm hv
                  refine cn_lr_x ((fr 156 m (by decide)).trans (w156 m hv)) (fun i h1 h2 => ?_)
                  rw [fo _ (by omega)]
                  exact w157 _
              · skip
                refine x_if_eq (by omega) (by omega) (fun z15 => ?_) (fun z => absurd (by omega) z)
                refine x_blk (b := 3) (a_201 E) rfl ?_
                unfold b_201_3
                refine x_iinc 1 rfl rfl ?_
                refine x_goto ?_
                refine x_G_lo (lo' := [(0, x_R 138), (1, x_I _), (2, x_I _), (3, x_I _)]) ⟨rfl, rfl, rfl, rfl, trivial⟩ ?_
                have pe : cn_pf (σ 140) a1 (cd / 2916) (cd / 54 % 54).toNat (cd % 54).toNat = v6.toNat := by
                  rw [cn_e140 F] at k6_1
                  show (cn_pI (σ 140) a1 (cd / 2916) (((cd / 54 % 54).toNat : Nat) : Int) (((cd % 54).toNat : Nat) : Int)).toNat = _
                  rw [show (((cd / 54 % 54).toNat : Nat) : Int) = cd / 54 % 54 by omega, show (((cd % 54).toNat : Nat) : Int) = cd % 54 by omega, ← k6_1]
                refine ih _ (by omega) _ S9 rfl (by omega) (by omega) C9 F9 (p55.trans h55) (p27.trans h27) ?_
                rw [p56, p57]
                have sv : τ 156 v6.toNat = n := by omega
                rw [show (cn_z (cd / 2916) (τ 156 (cd / 54 % 54).toNat) (τ 156 (cd % 54).toNat)).toNat = n.toNat by omega] at cand
                have ny : ¬ cn_lt (cn_w (cd / 2916) (cn_lr (τ 157) (τ 156) (cd / 54 % 54).toNat) (cn_lr (τ 157) (τ 156) (cd % 54).toNat)) (cn_lr (τ 157) (τ 156) v6.toNat) := fun z => y12 (by
                  rw [cand, p57]
                  rw [cn_lr_s (k := v6.toNat) (by omega), sv] at z
                  exact z)
                have ln : (cn_w (cd / 2916) (cn_lr (τ 157) (τ 156) (cd / 54 % 54).toNat) (cn_lr (τ 157) (τ 156) (cd % 54).toNat)).length = (cn_lr (τ 157) (τ 156) v6.toNat).length := by
                  rw [← cand, cn_lr_s (k := v6.toNat) (by omega), cn_ls_l, cn_ls_l, sv]
                have lq : cn_lq (cn_lr (τ 157) (τ 156) v6.toNat) (cn_w (cd / 2916) (cn_lr (τ 157) (τ 156) (cd / 54 % 54).toNat) (cn_lr (τ 157) (τ 156) (cd % 54).toNat)) := by
                  rcases cn_lt_3 ln with q | q | q
                  · exact absurd q ny
                  · exact Or.inl q.symm
                  · exact Or.inr q
                exact cn_FL_s hfl (by omega) rfl rfl rfl (by omega) (Or.inr (Or.inr (Or.inr (by rw [pe]; exact ⟨sv, lq⟩))))
            · skip
              refine x_blk (b := 4) (a_201 E) rfl ?_
              unfold b_201_4
              refine x_aload rfl ?_
              refine x_getR (r := 138) rfl (by decide) (by decide) rfl ?_
              refine x_iload rfl ?_
              refine x_iload rfl ?_
              refine x_astM y_m156 F9 (by omega) (by omega) (by omega) (by omega) (fun S16 e16 F16 => ?_)
              have C16 := y_SI_up C9 e16 (fun z => absurd z (by decide)) (fun _ => by omega)
              refine x_push 0 rfl ?_
              refine x_istore ?_
              refine x_fall ?_
              refine x_G_lo (lo' := [(0, x_R 138), (1, x_I _), (2, x_I _), (3, x_I _), (7, x_I _), (8, x_I _)]) ⟨rfl, rfl, rfl, rfl, rfl, rfl, trivial⟩ ?_
              have pe : cn_pf (σ 140) a1 (cd / 2916) (cd / 54 % 54).toNat (cd % 54).toNat = v6.toNat := by
                rw [cn_e140 F] at k6_1
                show (cn_pI (σ 140) a1 (cd / 2916) (((cd / 54 % 54).toNat : Nat) : Int) (((cd % 54).toNat : Nat) : Int)).toNat = _
                rw [show (((cd / 54 % 54).toNat : Nat) : Int) = cd / 54 % 54 by omega, show (((cd % 54).toNat : Nat) : Int) = cd % 54 by omega, ← k6_1]
              have tr : cn_tri (fun k => cm k = 1) (cd / 2916) (cd / 54 % 54).toNat (cd % 54).toNat := by rw [← h55]; exact y2
              have hc1 : cm v6.toNat = 1 := by
                have q := hfc.2.2.1 _ _ _ tr
                rw [pe] at q
                exact q
              rw [show (cn_z (cd / 2916) (τ 156 (cd / 54 % 54).toNat) (τ 156 (cd % 54).toNat)).toNat = n.toNat by omega] at cand
              have w156 : ∀ m, m ≠ v6.toNat → S16 156 m = τ 156 m := fun m hm => (x_up_ne e16 (fun z => hm z.2)).trans (congrFun p56 m)
              have w157 : ∀ m, S16 157 m = τ 157 m := fun m => (x_up_nr e16 (by decide)).trans (congrFun p57 m)
              refine rx_201_b5 a1l a1h hP k hfc (n := n) (cd := cd) (v := v6) (σ1 := S16) (by omega) (by omega) (by omega) (by omega) (by omega) (by omega) (fun τ' C' F' fr fo fi => ?_) _ 0 _ rfl (by omega) (by omega) C16 F16 (fun _ _ _ => rfl) (fun _ _ => rfl) (fun m hm => absurd hm (by omega))
              refine ih _ (by omega) _ τ' rfl (by omega) (by omega) C' F' ?_ ?_ ?_
              · rw [show τ' 155 = S9 155 from funext fun m => (fr 155 m (by decide)).trans (x_up_nr e16 (by decide)), p55]; exact h55
              · rw [fr 138 27 (by decide), x_up_nr e16 (by decide), p27]; exact h27
              refine cn_FL_u hfl (by omega) (by omega) (by omega) rfl rfl rfl (by omega) tr (by omega) pe (by omega) (fun g a b t => cn_pf_b hP t.1.1 t.1.2) hc1 (by omega) (Or.inl (by omega)) ?_ ?_ ?_ ?_
              · exact (fr 156 _ (by decide)).trans (x_up_at e16)
              · intro m hm
                exact (fr 156 m (by decide)).trans (w156 m hm)
              · rw [cn_lr_s (by rw [fr 156 _ (by decide), x_up_at e16]; omega), fr 156 _ (by decide), x_up_at e16, ← cand]
                refine cn_ls_x (fun i hi => ?_)
                rw [fi i (by omega)]
                exact x_up_nr e16 (by decide)
              · intro m hm hv
                refine cn_lr_x ((fr 156 m (by decide)).trans (w156 m hv)) (fun i h1 h2 => ?_)
                rw [fo _ (by omega)]
                exact w157 _
        · skip
          refine x_blk (b := 3) (a_201 E) rfl ?_
          unfold b_201_3
          refine x_iinc 1 rfl rfl ?_
          refine x_X_lo (lo' := [(0, x_R 138), (1, x_I _), (2, x_I _), (3, x_I _), (4, x_I _), (5, x_I _), (6, x_I _)]) ⟨rfl, rfl, rfl, rfl, rfl, rfl, rfl, trivial⟩ ?_
          refine x_goto ?_
          refine x_G_lo (lo' := [(0, x_R 138), (1, x_I _), (2, x_I _), (3, x_I _)]) ⟨rfl, rfl, rfl, rfl, trivial⟩ ?_
          exact ih _ (by omega) _ _ rfl (by omega) (by omega) C F h55 h27 (cn_FL_s hfl (by omega) rfl rfl rfl (by omega) (Or.inr (Or.inl (fun z => by omega))))
      · skip
        refine x_if_eq (by omega) (by omega) (fun z17 => ?_) (fun z => absurd (by omega) z)
        refine x_blk (b := 3) (a_201 E) rfl ?_
        unfold b_201_3
        refine x_iinc 1 rfl rfl ?_
        refine x_X_lo (lo' := [(0, x_R 138), (1, x_I _), (2, x_I _), (3, x_I _), (4, x_I _), (5, x_I _), (6, x_I _)]) ⟨rfl, rfl, rfl, rfl, rfl, rfl, rfl, trivial⟩ ?_
        refine x_goto ?_
        refine x_G_lo (lo' := [(0, x_R 138), (1, x_I _), (2, x_I _), (3, x_I _)]) ⟨rfl, rfl, rfl, rfl, trivial⟩ ?_
        exact ih _ (by omega) _ _ rfl (by omega) (by omega) C F h55 h27 (cn_FL_s hfl (by omega) rfl rfl rfl (by omega) (Or.inl (by rw [← h55]; exact y2)))
    · skip
      refine x_blk (b := 2) (a_201 E) rfl ?_
      unfold b_201_2
      refine x_iinc 1 rfl rfl ?_
      refine x_goto ?_
      refine x_G_lo (lo' := [(0, x_R 138), (1, x_I _), (2, x_I _)]) ⟨rfl, rfl, rfl, trivial⟩ ?_
      exact ho τ C F h55 h27 (by rw [show cd = 14580 by omega] at hfl; exact cn_FL_n hfl)
set_option maxHeartbeats 8000000 in
theorem rx_201_b7 {E : q_E} {σ : x_S} {Q : Option q_V → x_S → Prop} {a1 : Int} (a1l : 0 ≤ a1) (a1h : a1 ≤ 1) (hP : y_PI (σ 140)) (k : ∀ τ, y_SI τ → y_rf σ τ → cn_FC (σ 140) a1 (τ 155) (τ 138 27) → (∀ k, k < 54 → τ 155 k ≠ 1 → τ 156 k = 41) → cn_sol (cn_pf (σ 140) a1) (fun k => τ 155 k = 1) (τ 156) (cn_lr (τ 157) (τ 156)) → Q none τ) {cm : Nat → Int} {nn : Int} (hfc : cn_FC (σ 140) a1 cm nn) : ∀ (N : Nat) (n : Int) (τ : x_S), (41 - n).toNat = N → 1 ≤ n → n ≤ 41 → y_SI τ → y_rf σ τ → τ 155 = cm → τ 138 27 = nn → cn_FL (cn_pf (σ 140) a1) cm (τ 156) (cn_lr (τ 157) (τ 156)) n 0 → x_G E m_201 Q (t_201 7) [(0, x_R 138), (1, x_I a1), (2, x_I n)] [] τ := by
  have ru := hP.2.2.2.1
  have kd := hP.1
  intro N
  induction N using Nat.strongRecOn with
  | ind N ih =>
    intro n τ hN n1 n2 C F h55 h27 hfl
    refine x_blk (b := 7) (a_201 E) rfl ?_
    unfold b_201_7
    refine x_iload rfl ?_
    refine x_push 41 rfl ?_
    refine x_icmp_ge (by omega) (by omega) (by omega) (by omega) (fun z1 => ?_) (fun z1 => ?_)
    · skip
      refine x_push 0 rfl ?_
      refine x_istore ?_
      refine x_fall ?_
      refine x_G_lo (lo' := [(0, x_R 138), (1, x_I _), (2, x_I _), (3, x_I _)]) ⟨rfl, rfl, rfl, rfl, trivial⟩ ?_
      exact rx_201_b6 a1l a1h hP k hfc (n := n) (by omega) (by omega) (fun τ' c f a b h => ih _ (by omega) _ τ' rfl (by omega) (by omega) c f a b h) _ 0 τ rfl (by omega) (by omega) C F h55 h27 hfl
    · skip
      refine x_blk (b := 1) (a_201 E) rfl ?_
      unfold b_201_1
      refine x_vret ?_
      have n41 : n = 41 := by omega
      rw [n41] at hfl
      exact k _ C F (by rw [h55, h27]; exact hfc) (fun k hk c => (hfl.1 k hk).2 (by rw [← h55]; exact c)) (by rw [h55]; exact cn_FL_sol hfl)
theorem rx_201 {E : q_E} {σ : x_S} {Q : Option q_V → x_S → Prop} {a1 : Int} (a1l : 0 ≤ a1) (a1h : a1 ≤ 1) (hP : y_PI (σ 140)) (k : ∀ τ, y_SI τ → y_rf σ τ → cn_FC (σ 140) a1 (τ 155) (τ 138 27) → (∀ k, k < 54 → τ 155 k ≠ 1 → τ 156 k = 41) → cn_sol (cn_pf (σ 140) a1) (fun k => τ 155 k = 1) (τ 156) (cn_lr (τ 157) (τ 156)) → Q none τ) : x_P E 201 [x_R 138, x_I a1] σ Q := by
  have ru := hP.2.2.2.1
  have kd := hP.1
  refine x_Mt e_201 (h_201 E) (Nat.le_of_ble_eq_true rfl) t_201 rfl ?_
  refine x_blk (b := 0) (a_201 E) rfl ?_
  unfold b_201_0
  refine x_aload rfl ?_
  refine x_iload rfl ?_
  refine x_cV (fun _ => rfl) rfl (by decide) (Nat.le_of_ble_eq_true rfl) ?_
  refine rx_118 (by omega) (by omega) hP (fun S1 C1 f1 fc1 s41 => ?_)
  have F1 := y_rf_tr y_rf_rf f1
  refine x_push 1 rfl ?_
  refine x_istore ?_
  refine x_fall ?_
  refine x_G_lo (lo' := [(0, x_R 138), (1, x_I _), (2, x_I _)]) ⟨rfl, rfl, rfl, trivial⟩ ?_
  exact rx_201_b7 a1l a1h hP k fc1 _ 1 _ rfl (by omega) (by omega) C1 F1 rfl rfl (cn_FL_0 (fun k hk => s41 k (by omega)))
