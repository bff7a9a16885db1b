section
variable {E : q_E} {M : q_M} {Q : Option q_V → x_S → Prop} {tg : Nat → Nat} {cs : List q_Op} {lo : q_Lo} {st : List q_V} {σ : x_S}
theorem x_g_lo {h : q_H} {r i : Nat} (ht : x_tag r ≠ 1) : -2147483648 ≤ x_g h r i ∧ x_g h r i ≤ 2147483647 := by
  unfold x_g x_de
  rw [if_neg ht]
  exact ⟨x_s_lo _, x_s_hi _⟩
theorem x_g_c {h : q_H} {r i t : Nat} (hs : x_sh h) (hr : x_tag r = t) (ht : t < 99) (ht1 : t ≠ 1) (hi : i < x_len r) (hf : x_rf r i = 0) : q_rd (x_d h r) i = x_c (x_g h r i) := by
  obtain ⟨c1, c2⟩ := x_cell hs hr ht
  have h1 := (c2 i hi).1 hf
  unfold x_g x_de
  rw [if_neg (by rw [hr]; exact ht1), x_cs]
  have : q_rd (x_d h r) i < 4294967296 := by
    unfold x_top at h1
    split at h1
    · exact h1
    · exact absurd rfl ht1
    · omega
    · omega
    · omega
    · split at h1 <;> omega
  exact (Nat.mod_eq_of_lt this).symm
theorem x_getI {t k r : Nat} (hr : x_tag r = t) (ht : 5 ≤ t) (ht2 : t < 99) (hk : k < x_len r) (hf : x_rf r k = 0) (kk : -2147483648 ≤ σ r k → σ r k ≤ 2147483647 → x_X E M Q tg cs lo (x_I (σ r k) :: st) σ) : x_X E M Q tg (o_getI t k :: cs) lo (x_R r :: st) σ := by
  intro B lo2 h hB hlo hs hg
  obtain ⟨c1, c2⟩ := x_cell hs hr ht2
  have hb := x_g_lo (h := h) (r := r) (i := k) (by omega)
  have hc := x_g_c hs hr ht2 (by omega) hk hf
  rw [hg] at hb hc
  rw [x_run_c]
  unfold o_getI
  rw [n_pop, n_isR, f_cel c1, Nat.beq_refl, cond_true, e_frc_eq, hc]
  exact kk hb.1 hb.2 B lo2 h hB hlo hs hg
theorem x_getR {t k r r' : Nat} (hr : x_tag r = t) (ht2 : t < 99) (hk : k < x_len r) (hf : x_rf r k = r' + 1) (kk : x_X E M Q tg cs lo (x_R r' :: st) σ) : x_X E M Q tg (o_getR t k :: cs) lo (x_R r :: st) σ := by
  intro B lo2 h hB hlo hs hg
  obtain ⟨c1, c2⟩ := x_cell hs hr ht2
  have hc := (c2 k hk).2 (by omega)
  rw [x_run_c]
  unfold o_getR
  rw [n_pop, n_isR, f_cel c1, Nat.beq_refl, cond_true, hc, hf]
  exact kk B lo2 h hB hlo hs hg
theorem x_wr {h : q_H} {r t k : Nat} {v : Int} (hs : x_sh h) (hr : x_tag r = t) (ht : t < 99) (ht1 : t ≠ 1) (hk : k < x_len r) (hf : x_rf r k = 0) (ha : x_c v < x_top t k) (hv1 : -2147483648 ≤ v) (hv2 : v ≤ 2147483647) : x_sh (q_put h r (t, x_len r, q_wr (x_d h r) k (x_c v))) ∧ x_g (q_put h r (t, x_len r, q_wr (x_d h r) k (x_c v))) = x_up (x_g h) r k v := by
  obtain ⟨h1, h2⟩ := x_put hs hr ht hk hf ha
  refine ⟨h1, ?_⟩
  rw [h2]
  unfold x_de
  rw [if_neg (by rw [hr]; exact ht1), x_sc hv1 hv2]
theorem x_up_at {τ : x_S} {r k : Nat} {v : Int} (e : τ = x_up σ r k v) : τ r k = v := by rw [e]; exact if_pos ⟨rfl, rfl⟩
theorem x_up_ne {τ : x_S} {r k r' k' : Nat} {v : Int} (e : τ = x_up σ r k v) (h : ¬ (r' = r ∧ k' = k)) : τ r' k' = σ r' k' := by rw [e]; exact if_neg h
theorem x_up_nr {τ : x_S} {r k r' k' : Nat} {v : Int} (e : τ = x_up σ r k v) (h : ¬ r' = r) : τ r' k' = σ r' k' := x_up_ne e (fun z => h z.1)
theorem x_putI {t k top r : Nat} {v : Int} (hr : x_tag r = t) (ht : 5 ≤ t) (ht2 : t < 99) (hk : k < x_len r) (hf : x_rf r k = 0) (htop : 4294967296 ≤ top ∧ x_top t k = 4294967296) (hv1 : -2147483648 ≤ v) (hv2 : v ≤ 2147483647) (kk : ∀ τ, τ = x_up σ r k v → x_X E M Q tg cs lo st τ) : x_X E M Q tg (o_putI t k top :: cs) lo (x_I v :: x_R r :: st) σ := by
  intro B lo2 h hB hlo hs hg
  obtain ⟨c1, c2⟩ := x_cell hs hr ht2
  have hc := x_c_lt v
  rw [x_run_c]
  unfold o_putI
  rw [n_pi, n_pop, n_isR, f_cel c1, Nat.beq_refl, f_ble (show Nat.succ (x_c v) ≤ top by omega), Bool.and_true, cond_true, f_put c1]
  obtain ⟨w1, w2⟩ := x_wr hs hr ht2 (by omega) hk hf (by rw [htop.2]; exact hc) hv1 hv2
  exact kk _ rfl B lo2 _ hB hlo w1 (by rw [w2, hg])
theorem x_c01 {v : Int} (hv : v = 0 ∨ v = 1) : x_c v < 2 := by rcases hv with rfl | rfl <;> decide
theorem x_putZ {t k r : Nat} {v : Int} (hr : x_tag r = t) (ht : 5 ≤ t) (ht2 : t < 99) (hk : k < x_len r) (hf : x_rf r k = 0) (htop : x_top t k = 2) (hv : v = 0 ∨ v = 1) (kk : ∀ τ, τ = x_up σ r k v → x_X E M Q tg cs lo st τ) : x_X E M Q tg (o_putI t k 2 :: cs) lo (x_I v :: x_R r :: st) σ := by
  intro B lo2 h hB hlo hs hg
  obtain ⟨c1, c2⟩ := x_cell hs hr ht2
  have hc := x_c01 hv
  rw [x_run_c]
  unfold o_putI
  rw [n_pi, n_pop, n_isR, f_cel c1, Nat.beq_refl, f_ble (show Nat.succ (x_c v) ≤ 2 by omega), Bool.and_true, cond_true, f_put c1]
  obtain ⟨w1, w2⟩ := x_wr hs hr ht2 (by omega) hk hf (by rw [htop]; exact hc) (by omega) (by omega)
  exact kk _ rfl B lo2 _ hB hlo w1 (by rw [w2, hg])
theorem x_ald {r t n m : Nat} {i : Int} (hr : x_tag r = t) (ht : t = 0 ∨ t = 2 ∨ t = 3) (hl : x_len r = n) (hb : n ≤ 2147483648) (hf : ∀ z, x_rf r z = 0) (hm : i.toNat = m) (hi : 0 ≤ i) (hn : i < n) (kk : -2147483648 ≤ σ r m → σ r m ≤ 2147483647 → x_X E M Q tg cs lo (x_I (σ r m) :: st) σ) : x_X E M Q tg (o_ald t :: cs) lo (x_I i :: x_R r :: st) σ := by
  intro B lo2 h hB hlo hs hg
  subst hl
  obtain ⟨c1, c2⟩ := x_cell hs hr (by omega)
  have hci := x_c_nat hi (by omega)
  have hin : x_c i = m := by omega
  have hb2 := x_g_lo (h := h) (r := r) (i := m) (by omega)
  have hc := x_g_c hs hr (by omega) (by omega) (i := m) (by omega) (hf m)
  rw [hg] at hb2 hc
  rw [x_run_c]
  unfold o_ald
  rw [n_pi, n_pop, n_isR, f_cel c1, Nat.beq_refl, f_ble (show Nat.succ (x_c i) ≤ x_len r by omega), f_ble (show Nat.succ (x_c i) ≤ 2147483648 by omega), Bool.and_true, Bool.and_true, cond_true, e_frc_eq, hin, hc]
  exact kk hb2.1 hb2.2 B lo2 h hB hlo hs hg
theorem x_iald {r n m : Nat} {i : Int} (hr : x_tag r = 0) (hl : x_len r = n) (hb : n ≤ 2147483648) (hf : ∀ z, x_rf r z = 0) (hm : i.toNat = m) (hi : 0 ≤ i) (hn : i < n) (kk : -2147483648 ≤ σ r m → σ r m ≤ 2147483647 → x_X E M Q tg cs lo (x_I (σ r m) :: st) σ) : x_X E M Q tg (o_iald0 :: cs) lo (x_I i :: x_R r :: st) σ := by
  intro B lo2 h hB hlo hs hg
  subst hl
  obtain ⟨c1, c2⟩ := x_cell hs hr (by omega)
  have hci := x_c_nat hi (by omega)
  have hin : x_c i = m := by omega
  have hb2 := x_g_lo (h := h) (r := r) (i := m) (by omega)
  have hc := x_g_c hs hr (by omega) (by omega) (i := m) (by omega) (hf m)
  rw [hg] at hb2 hc
  rw [x_run_c]
  unfold o_iald0
  rw [n_pi, n_pop, n_ra, f_cel c1, Nat.beq_refl, f_ble (show Nat.succ (x_c i) ≤ x_len r by omega), f_ble (show Nat.succ (x_c i) ≤ 2147483648 by omega), Bool.and_true, Bool.and_true, cond_true, e_frc_eq, hin, hc]
  exact kk hb2.1 hb2.2 B lo2 h hB hlo hs hg
theorem x_astw {r t n m top : Nat} {i v : Int} (hr : x_tag r = t) (ht : t = 0 ∨ t = 2 ∨ t = 3) (hl : x_len r = n) (hb : n ≤ 2147483648) (hf : ∀ z, x_rf r z = 0) (hm : i.toNat = m) (hi : 0 ≤ i) (hn : i < n) (hv : x_c v < top) (hv0 : x_c v < x_top t m) (hv1 : -2147483648 ≤ v) (hv2 : v ≤ 2147483647) (kk : ∀ τ, τ = x_up σ r m v → x_X E M Q tg cs lo st τ) : x_X E M Q tg (o_ast t top :: cs) lo (x_I v :: x_I i :: x_R r :: st) σ := by
  intro B lo2 h hB hlo hs hg
  subst hl
  obtain ⟨c1, c2⟩ := x_cell hs hr (by omega)
  have hci := x_c_nat hi (by omega)
  have hin : x_c i = m := by omega
  rw [x_run_c]
  unfold o_ast
  rw [n_pi, n_pi, n_pop, n_isR, f_cel c1, Nat.beq_refl, f_ble (show Nat.succ (x_c i) ≤ x_len r by omega), f_ble (show Nat.succ (x_c i) ≤ 2147483648 by omega), f_ble (show Nat.succ (x_c v) ≤ top from hv), Bool.and_true, Bool.and_true, Bool.and_true, cond_true, f_put c1, hin]
  obtain ⟨w1, w2⟩ := x_wr (k := m) hs hr (by omega) (by omega) (by omega) (hf m) hv0 hv1 hv2
  exact kk _ rfl B lo2 _ hB hlo w1 (by rw [w2, hg])
theorem x_ast {r n m : Nat} {i v : Int} (hr : x_tag r = 0) (hl : x_len r = n) (hb : n ≤ 2147483648) (hf : ∀ z, x_rf r z = 0) (hm : i.toNat = m) (hi : 0 ≤ i) (hn : i < n) (hv1 : -2147483648 ≤ v) (hv2 : v ≤ 2147483647) (kk : ∀ τ, τ = x_up σ r m v → x_X E M Q tg cs lo st τ) : x_X E M Q tg (o_ast 0 18446744073709551616 :: cs) lo (x_I v :: x_I i :: x_R r :: st) σ := x_astw hr (Or.inl rfl) hl hb hf hm hi hn (Nat.lt_trans (x_c_lt v) (by decide)) (x_c_lt v) hv1 hv2 kk
theorem x_astZ {r n m : Nat} {i v : Int} (hr : x_tag r = 3) (hl : x_len r = n) (hb : n ≤ 2147483648) (hf : ∀ z, x_rf r z = 0) (hm : i.toNat = m) (hi : 0 ≤ i) (hn : i < n) (hv : v = 0 ∨ v = 1) (kk : ∀ τ, τ = x_up σ r m v → x_X E M Q tg cs lo st τ) : x_X E M Q tg (o_ast 3 2 :: cs) lo (x_I v :: x_I i :: x_R r :: st) σ := x_astw hr (Or.inr (Or.inr rfl)) hl hb hf hm hi hn (x_c01 hv) (x_c01 hv) (by omega) (by omega) kk
theorem x_lenq {r t n : Nat} (hr : x_tag r = t) (ht : t < 5) (hl : x_len r = n) (hb : n ≤ 2147483647) (kk : x_X E M Q tg cs lo (x_I n :: st) σ) : x_X E M Q tg (o_len0 :: cs) lo (x_R r :: st) σ := by
  intro B lo2 h hB hlo hs hg
  subst hl
  obtain ⟨c1, c2⟩ := x_cell hs hr (by omega)
  have hci := x_c_nat (x := (x_len r : Int)) (by omega) (by omega)
  have hin : x_c (x_len r : Int) = x_len r := by omega
  have kk2 := kk B lo2 h hB hlo hs hg
  have hv : x_I (x_len r : Int) = .inl (x_len r) := by show Sum.inl _ = _; rw [hin]
  rw [hv] at kk2
  rw [x_run_c]
  unfold o_len0
  rw [n_pop, n_ra, f_cel c1, f_ble (show Nat.succ t ≤ 5 from ht), cond_true]
  exact kk2
/-- the row of children, which never changes -/
theorem x_chi {i : Int} (hi : 0 ≤ i) (hn : i < 5) (kk : x_X E M Q tg cs lo (x_I (q_chi i.toNat : Nat) :: st) σ) : x_X E M Q tg (o_iald0 :: cs) lo (x_I i :: x_Z 1 :: st) σ := by
  intro B lo2 h hB hlo hs hg
  have hci := x_c_nat hi (by omega)
  have hin : x_c i = i.toNat := by omega
  have h5 : i.toNat = 0 ∨ i.toNat = 1 ∨ i.toNat = 2 ∨ i.toNat = 3 ∨ i.toNat = 4 := by omega
  have kk2 := kk B lo2 h hB hlo hs hg
  rw [x_run_c]
  unfold o_iald0
  rw [n_pi, n_pop, n_raZ, hin]
  rcases h5 with e | e | e | e | e <;> (rw [e] at kk2 ⊢; exact kk2)
/-- a row's piece copied -/
theorem x_copy {lR r r' : Nat} {sp dp n : Int} (hr : x_tag r = 0) (hr' : x_tag r' = 0) (h1 : 0 ≤ sp) (h2 : 0 ≤ dp) (h3 : 0 ≤ n) (h4 : sp + n ≤ x_len r) (h5 : dp + n ≤ x_len r') (h6 : x_len r ≤ 2147483647) (h7 : x_len r' ≤ 2147483647) (hw : q_wd st + 18 ≤ lR) (hf : ∀ i, x_rf r i = 0) (hf' : ∀ i, x_rf r' i = 0) (kk : ∀ τ, τ = x_cp σ r sp.toNat r' dp.toNat n.toNat → x_X E M Q tg cs lo st τ) : x_X E M Q tg (o_copy lR :: cs) lo (x_I n :: x_I dp :: x_R r' :: x_I sp :: x_R r :: st) σ := by
  intro B lo2 h hB hlo hs hg
  obtain ⟨c1, c2⟩ := x_cell hs hr (by decide)
  obtain ⟨d1, d2⟩ := x_cell hs hr' (by decide)
  have e1 : x_c sp = sp.toNat := by have := x_c_nat h1 (by omega); omega
  have e2 : x_c dp = dp.toNat := by have := x_c_nat h2 (by omega); omega
  have e3 : x_c n = n.toNat := by have := x_c_nat h3 (by omega); omega
  rw [x_run_c]
  unfold o_copy
  rw [n_pi, n_pi, n_pop, n_isR, n_pi, n_pop, n_isR, f_cel c1, f_cel d1, e1, e2, e3]
  rw [f_ble (show sp.toNat + n.toNat ≤ x_len r by omega), f_ble (show dp.toNat + n.toNat ≤ x_len r' by omega), f_ble (show q_wd st + 18 ≤ lR from hw), f_ble (show Nat.succ sp.toNat ≤ 2147483648 by omega), f_ble (show Nat.succ dp.toNat ≤ 2147483648 by omega), f_ble (show Nat.succ n.toNat ≤ 2147483648 by omega)]
  simp only [Nat.beq_refl, Bool.and_true, cond_true]
  rw [f_put d1]
  have hget : ∀ q, q_get (q_put h r' (0, x_len r', q_cp (x_d h r') (x_d h r) sp.toNat dp.toNat n.toNat)) q = if q = r' then some (0, x_len r', q_cp (x_d h r') (x_d h r) sp.toNat dp.toNat n.toNat) else q_get h q := fun q => q_get_put d1
  refine kk _ rfl B lo2 _ hB hlo ?_ ?_
  · intro q t' n' ws' hT
    rw [hget]
    by_cases c : q = r'
    · subst c
      rw [if_pos rfl]
      rw [x_tag_T hr' (by decide)] at hT
      cases hT
      refine ⟨_, rfl, fun i hi => ?_⟩
      rw [q_rd_cp]
      by_cases ci : dp.toNat ≤ i ∧ i < dp.toNat + n.toNat
      · rw [if_pos ci]
        refine ⟨fun _ => ?_, fun z => absurd (hf' i) z⟩
        exact (c2 (sp.toNat + (i - dp.toNat)) (by omega)).1 (hf _)
      · rw [if_neg ci]
        exact d2 i hi
    · rw [if_neg c]
      exact hs q t' n' ws' hT
  · rw [← hg]
    funext q k
    unfold x_cp
    have hd : x_d (q_put h r' (0, x_len r', q_cp (x_d h r') (x_d h r) sp.toNat dp.toNat n.toNat)) q = if q = r' then q_cp (x_d h r') (x_d h r) sp.toNat dp.toNat n.toNat else x_d h q := by
      unfold x_d
      rw [q_get_put d1]
      by_cases c : q = r'
      · rw [if_pos c, if_pos c]; rfl
      · rw [if_neg c, if_neg c]
    show x_de q (q_rd (x_d (q_put h r' _) q) k) = _
    rw [hd]
    by_cases c : q = r'
    · subst c
      rw [if_pos rfl, q_rd_cp]
      by_cases ck : dp.toNat ≤ k ∧ k < dp.toNat + n.toNat
      · rw [if_pos ck, if_pos ⟨rfl, ck⟩]
        unfold x_g x_de
        rw [hr, hr']
      · rw [if_neg ck, if_neg (fun z => ck z.2)]
        rfl
    · rw [if_neg c, if_neg (fun z => c z.1)]
      rfl
/-! calls -/
theorem x_res {st : List q_V} {k : List q_V → Bool} : ∀ {r : Option q_V}, e_res r st k = k (r.toList ++ st)
  | none => rfl
  | some _ => rfl
theorem x_call {j : Nat} {as : List q_V} {B : q_B} {lo2 : q_Lo} {h : q_H} (hB : q_inB E B) (hlo : x_le lo lo2) (hs : x_sh h) (hg : x_g h = σ) (hw : q_wd st ≤ 8) (hP : x_P E j as σ (fun ret σ' => x_X E M Q tg cs lo (ret.toList ++ st) σ')) : e_call j 0 0 0 0 B lo2 as st 0 0 h (x_run (x_kj E M Q tg) (x_kr Q) (x_kc E) cs) (x_kc E) = true := by
  unfold e_call
  rw [f_ble hw, f_ble (show 0 + 0 ≤ 0 from Nat.le_refl 0), Bool.and_true, Bool.and_true, cond_true]
  refine x_dd_in ?_
  refine q_P_mono (fun r h' z => ?_) (hP h hs hg)
  refine ⟨B, hB, ?_⟩
  simp only [x_res, e_frc_eq]
  exact z.2 B lo2 h' hB hlo z.1 rfl
theorem x_cV {t j n r : Nat} {as st0 : List q_V} (ha : ∀ k : List q_V → List q_V → Bool, e_args n st0 [] k = k as (x_R r :: st)) (hr : x_tag r = t) (ht : t < 99) (hw : q_wd st ≤ 8) (hP : x_P E j (x_R r :: as) σ (fun ret σ' => x_X E M Q tg cs lo (ret.toList ++ st) σ')) : x_X E M Q tg (o_cV t j n 0 0 0 0 :: cs) lo st0 σ := by
  intro B lo2 h hB hlo hs hg
  obtain ⟨c1, c2⟩ := x_cell hs hr ht
  rw [x_run_c]
  unfold o_cV
  rw [ha, n_pop, n_isR, f_cel c1, Nat.beq_refl, cond_true]
  exact x_call hB hlo hs hg hw hP
theorem x_cS {j n : Nat} {as st0 : List q_V} (ha : ∀ k : List q_V → List q_V → Bool, e_args n st0 [] k = k as st) (hw : q_wd st ≤ 8) (hP : x_P E j as σ (fun ret σ' => x_X E M Q tg cs lo (ret.toList ++ st) σ')) : x_X E M Q tg (o_cS j n 0 0 0 0 :: cs) lo st0 σ := by
  intro B lo2 h hB hlo hs hg
  rw [x_run_c]
  unfold o_cS
  rw [ha]
  exact x_call hB hlo hs hg hw hP
theorem x_cU1 {t1 j1 t2 j2 n r : Nat} {as st0 : List q_V} (ha : ∀ k : List q_V → List q_V → Bool, e_args n st0 [] k = k as (x_R r :: st)) (hr : x_tag r = t1) (ht : t1 < 99) (hw : q_wd st ≤ 8) (hP : x_P E j1 (x_R r :: as) σ (fun ret σ' => x_X E M Q tg cs lo (ret.toList ++ st) σ')) : x_X E M Q tg (o_cU n t1 j1 t2 j2 0 0 :: cs) lo st0 σ := by
  intro B lo2 h hB hlo hs hg
  obtain ⟨c1, c2⟩ := x_cell hs hr ht
  rw [x_run_c]
  unfold o_cU
  rw [ha, n_pop, n_isR, f_cel c1, Nat.beq_refl, cond_true]
  exact x_call hB hlo hs hg hw hP
theorem x_cU2 {t1 j1 t2 j2 n r : Nat} {as st0 : List q_V} (ha : ∀ k : List q_V → List q_V → Bool, e_args n st0 [] k = k as (x_R r :: st)) (hr : x_tag r = t2) (hne : t2 ≠ t1) (ht : t2 < 99) (hw : q_wd st ≤ 8) (hP : x_P E j2 (x_R r :: as) σ (fun ret σ' => x_X E M Q tg cs lo (ret.toList ++ st) σ')) : x_X E M Q tg (o_cU n t1 j1 t2 j2 0 0 :: cs) lo st0 σ := by
  intro B lo2 h hB hlo hs hg
  obtain ⟨c1, c2⟩ := x_cell hs hr ht
  rw [x_run_c]
  unfold o_cU
  rw [ha, n_pop, n_isR, f_cel c1, Nat.beq_refl, f_nbeq hne, cond_false, cond_true]
  exact x_call hB hlo hs hg hw hP
theorem x_iret {n : Nat} (k : Q (some (.inl n)) σ) : x_X E M Q tg (o_iret 0 0 :: cs) lo [.inl n] σ := by
  intro B lo2 h hB hlo hs hg
  rw [x_run_c]
  unfold o_iret
  rw [n_pop, n_nil, f_ble (Nat.le_refl 0), n_is]
  exact x_dd_in ⟨hs, by rw [hg]; exact k⟩
theorem x_zret {n : Nat} (hn : n < 2) (k : Q (some (.inl n)) σ) : x_X E M Q tg (o_zret 0 0 :: cs) lo [.inl n] σ := by
  intro B lo2 h hB hlo hs hg
  rw [x_run_c]
  unfold o_zret
  rw [n_pop, n_nil, f_ble (Nat.le_refl 0), n_is, f_ble (show Nat.succ n ≤ 2 from hn)]
  exact x_dd_in ⟨hs, by rw [hg]; exact k⟩
theorem x_vret (k : Q none σ) : x_X E M Q tg (o_vret 0 0 :: cs) lo [] σ := by
  intro B lo2 h hB hlo hs hg
  rw [x_run_c]
  unfold o_vret
  rw [n_nil, f_ble (Nat.le_refl 0)]
  exact x_dd_in ⟨hs, by rw [hg]; exact k⟩
theorem x_aret {r : Nat} (k : Q (some (x_R r)) σ) : x_X E M Q tg (o_aret 0 0 :: cs) lo [x_R r] σ := by
  intro B lo2 h hB hlo hs hg
  rw [x_run_c]
  unfold o_aret
  rw [n_pop, n_nil, f_ble (Nat.le_refl 0), n_isR]
  exact x_dd_in ⟨hs, by rw [hg]; exact k⟩
theorem x_i2l {x : Int} (h1 : -2147483648 ≤ x) (h2 : x ≤ 2147483647) (k : x_X E M Q tg cs lo (x_L x :: st) σ) : x_X E M Q tg (o_i2l :: cs) lo (x_I x :: st) σ := by
  intro B lo2 h hB hlo hs hg
  have hb := x_bi h1 h2
  have he : (q_bi (x_c x) + 18446744071562067968) % 18446744073709551616 = x_cl x := by unfold x_cl; omega
  rw [x_run_c]
  unfold o_i2l
  rw [n_pop, n_is, e_frc_eq, he]
  exact k B lo2 h hB hlo hs hg
theorem x_pushL {n : Nat} (x : Int) (h : x_cl x = n) (k : x_X E M Q tg cs lo (x_L x :: st) σ) : x_X E M Q tg (o_push (.inr (.inr (.inl n))) :: cs) lo st σ := by
  subst h
  exact fun B lo2 h hB hlo hs hg => k B lo2 h hB hlo hs hg
theorem x_lcmp {x y : Int} (h1 : -9223372036854775808 ≤ x) (h2 : x ≤ 9223372036854775807) (h3 : -9223372036854775808 ≤ y) (h4 : y ≤ 9223372036854775807) (k1 : y < x → x_X E M Q tg cs lo (x_I 1 :: st) σ) (k0 : x = y → x_X E M Q tg cs lo (x_I 0 :: st) σ) (k2 : x < y → x_X E M Q tg cs lo (x_I (-1) :: st) σ) : x_X E M Q tg (o_lcmp :: cs) lo (x_L y :: x_L x :: st) σ := by
  intro B lo2 h hB hlo hs hg
  have hx : (q_bl (x_cl x) : Int) = x + 9223372036854775808 := by unfold q_bl x_cl; omega
  have hy : (q_bl (x_cl y) : Int) = y + 9223372036854775808 := by unfold q_bl x_cl; omega
  rw [x_run_c]
  unfold o_lcmp
  rw [n_pop, n_isL, n_pop, n_ll]
  by_cases z1 : y < x
  · rw [f_ble (by omega), cond_true]
    exact k1 z1 B lo2 h hB hlo hs hg
  · rw [f_nble (by omega), cond_false]
    by_cases z2 : x = y
    · rw [f_beq (by omega), cond_true]
      exact k0 z2 B lo2 h hB hlo hs hg
    · rw [f_nbeq (by omega), cond_false]
      exact k2 (by omega) B lo2 h hB hlo hs hg
/-- a switch -/
theorem x_tsw {lo0 n d : Nat} {bs : List Nat} {x : Int} (l : Int) (hl : (lo0 : Int) = l + 2147483648) (hn : bs.length = n) (h1 : -2147483648 ≤ x) (h2 : x ≤ 2147483647) (hlow : x < l → x_G E M Q (tg d) lo st σ) (hmid : ∀ (i b : Nat), bs[i]? = some b → x = l + i → x_G E M Q (tg b) lo st σ) (hhigh : l + n ≤ x → x_G E M Q (tg d) lo st σ) : x_X E M Q tg (o_tsw lo0 n d bs :: cs) lo (x_I x :: st) σ := by
  intro B lo2 h hB hlo hs hg
  have hb := x_bi h1 h2
  rw [x_run_c]
  unfold o_tsw
  rw [n_pop]
  refine x_clt l hl h1 h2 (fun z => x_jmp (B := B) hlo hs hg (hlow z)) (fun z => ?_)
  refine x_clt (l + n) (by omega) h1 h2 (fun z2 => ?_) (fun z2 => x_jmp (B := B) hlo hs hg (hhigh (by omega)))
  rw [n_int]
  have hlt : q_bi (x_c x) - lo0 < bs.length := by omega
  rw [f_nth (List.getElem?_eq_getElem hlt)]
  exact x_jmp (B := B) hlo hs hg (hmid _ _ (List.getElem?_eq_getElem hlt) (by omega))
end
