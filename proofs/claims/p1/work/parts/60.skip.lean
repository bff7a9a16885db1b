/-! the reference's two long loops: what is passed over -/
def z_cv (f : Nat) : Nat := if f < 2 then 0 else if f = 2 then 1 else 2
theorem z_bi {n : Nat} (h : n < 2147483648) : q_bi n = n + 2147483648 := by unfold q_bi; omega
theorem z_lsub {E : q_E} {M : q_M} {Q : Option q_V → q_H → Prop} {pc : Nat} {lo lo' : q_Lo} {st : List q_V} {ce sl : Nat} {h : q_H} (hs : ∀ x ∈ lo', ∃ k : Nat, lo[k]? = some x) (k : q_W E M Q pc lo' st ce sl h) : q_W E M Q pc lo st ce sl h := by
  intro p e R s m args below meth c A ad0 Z H locs ls stv C T Rt
  obtain ⟨ad, tys, ws, lv, h1, h2, h3, h4, h5⟩ := T
  have key : ∀ (l : q_Lo), (∀ x ∈ l, ∃ k : Nat, lo[k]? = some x) → ∃ lv' : List (Nat × Value), q_lr E ad l lv' ∧ ∀ q ∈ lv', q ∈ lv := by
    intro l
    induction l with
    | nil => intro _; exact ⟨[], trivial, fun q hq => by cases hq⟩
    | cons x l ih =>
      intro hx
      obtain ⟨lv', g1, g2⟩ := ih (fun y hy => hx y (List.mem_cons_of_mem _ hy))
      obtain ⟨k, hk⟩ := hx x List.mem_cons_self
      obtain ⟨v, g3, g4⟩ := q_lr_get h3.2 (show lo[k]? = some (x.1, x.2) from hk)
      refine ⟨(x.1, v) :: lv', ⟨⟨rfl, g4⟩, g1⟩, fun q hq => ?_⟩
      rcases List.mem_cons.mp hq with rfl | hq
      · exact List.mem_of_getElem? g3
      · exact g2 q hq
  obtain ⟨lv', g1, g2⟩ := key lo' hs
  exact k.go C ⟨ad, tys, ws, lv', h1, h2, ⟨⟨h3.1.1, h3.1.2.1, fun q hq => h3.1.2.2 q (g2 q hq)⟩, g1⟩, h4, h5⟩ Rt
theorem z_ch (E : q_E) {f : Nat} (hf : f < 2147483648) (h : q_H) : q_P E m_0 [.inl f] h (fun r h' => r = some (.inl (z_cv f)) ∧ h' = h) := by
  refine q_Pof (by decide +kernel) (Nat.le_of_ble_eq_true rfl) ?_
  have bf := z_bi hf
  have b2 : q_bi 2 = 2147483650 := by decide
  refine q_iload_ni (k0 := 0) (by decide +kernel) rfl rfl ?_
  refine q_iconst (n := 2) (a := 2) (by decide +kernel) (by decide +kernel) ?_
  refine q_icmp_ge (off := 7) (tgt := 9) (by decide +kernel) (by decide) rfl rfl (fun z => ?_) (fun z => ?_)
  · refine q_iload_ni (k0 := 0) (by decide +kernel) rfl rfl ?_
    refine q_iconst (n := 2) (a := 2) (by decide +kernel) (by decide +kernel) ?_
    refine q_icmp_ne (off := 7) (tgt := 18) (by decide +kernel) (by decide) rfl rfl (fun z2 => ?_) (fun z2 => ?_)
    · refine q_iconst (n := 2) (a := 2) (by decide +kernel) (by decide +kernel) ?_
      exact q_ret (r := some (.inl 2)) ⟨by decide +kernel, Or.inl rfl⟩ (by decide) (by decide) ⟨by unfold z_cv; rw [if_neg (by omega), if_neg (by omega)], rfl⟩
    · refine q_iconst (n := 1) (a := 1) (by decide +kernel) (by decide +kernel) ?_
      refine q_goto (off := 4) (tgt := 19) (by decide +kernel) (by decide) ?_
      exact q_ret (r := some (.inl 1)) ⟨by decide +kernel, Or.inl rfl⟩ (by decide) (by decide) ⟨by unfold z_cv; rw [if_neg (by omega), if_pos (by omega)], rfl⟩
  · refine q_iconst (n := 0) (a := 0) (by decide +kernel) (by decide +kernel) ?_
    refine q_goto (off := 13) (tgt := 19) (by decide +kernel) (by decide) ?_
    exact q_ret (r := some (.inl 0)) ⟨by decide +kernel, Or.inl rfl⟩ (by decide) (by decide) ⟨by unfold z_cv; rw [if_pos (by omega)], rfl⟩
theorem z_cv3 (f : Nat) : z_cv f = 0 ∨ z_cv f = 1 ∨ z_cv f = 2 := by
  unfold z_cv
  split
  · exact Or.inl rfl
  · split
    · exact Or.inr (Or.inl rfl)
    · exact Or.inr (Or.inr rfl)
/-- first and second child as mayBe wants them -/
def z_may1 (dC n one : Nat) : Prop := if 0 < n then ¬ q_bi (q_rd dC one) = 2147483648 else one = 0
def z_may2 (dC n two : Nat) : Prop := if 1 < n then ¬ q_bi (q_rd dC two) = 2147483648 else two = 0

theorem z_mb (E : q_E) {h : q_H} {r0 n0 dM rc dC f one two : Nat} (hM : q_get h r0 = some (14, n0, dM)) (hrc : q_rd dM 28 = rc + 1) (hC : q_get h rc = some (3, 54, dC)) (hf : f < 5) (h1 : one < 54) (h2 : two < 54) : q_P E m_1 [.inr (.inl r0), .inl f, .inl one, .inl two] h (fun r h' => ((r = some (.inl 1) ∧ z_may1 dC (z_cv f) one ∧ z_may2 dC (z_cv f) two) ∨ (r = some (.inl 0) ∧ ¬ (z_may1 dC (z_cv f) one ∧ z_may2 dC (z_cv f) two))) ∧ h' = h) := by
  refine q_Pof (by decide +kernel) (Nat.le_of_ble_eq_true rfl) ?_
  have b1 := z_bi (show one < 2147483648 by omega)
  have b2 := z_bi (show two < 2147483648 by omega)
  refine q_iload_ni (k0 := 1) (by decide +kernel) rfl rfl ?_
  refine q_callS (M' := m_0) (as := [.inl f]) (idx := 114) (n := 1) (by decide +kernel) ⟨by decide +kernel, s_0⟩ w_1041 w_1042 rfl (by decide) (by decide) (by decide) (z_ch E (by omega) h) (fun r h' z => ?_)
  obtain ⟨z1, z2⟩ := z
  subst z1; subst z2
  refine q_istorei (i := 4) (by decide +kernel) (by decide) ?_
  rcases z_cv3 f with hn | hn | hn
  · rw [hn]
    refine q_iloadi (i := 4) (by decide +kernel) rfl ?_
    refine q_if_le (off := 15) (tgt := 23) (by decide +kernel) (by decide) rfl (fun _ => ?_) (fun z => absurd (by decide) z)
    refine q_iload_ni (k0 := 2) (by decide +kernel) rfl rfl ?_
    refine q_if_ne (off := 29) (tgt := 53) (by decide +kernel) (by decide) rfl (fun z => ?_) (fun z => ?_)
    · refine q_iconst (n := 0) (a := 0) (by decide +kernel) (by decide +kernel) ?_
      exact q_ret (r := some (.inl 0)) ⟨by decide +kernel, Or.inr ⟨.boolean, rfl, by decide +kernel⟩⟩ (by decide) (by decide) ⟨Or.inr ⟨rfl, (fun w => by have w1 : one = 0 := w.1; exact z (by omega))⟩, rfl⟩
    · have x1 : z_may1 dC 0 one := (show one = 0 by omega)
      refine q_iloadi (i := 4) (by decide +kernel) rfl ?_
      refine q_iconst (n := 1) (a := 1) (by decide +kernel) (by decide +kernel) ?_
      refine q_icmp_le (off := 15) (tgt := 45) (by decide +kernel) (by decide) rfl rfl (fun _ => ?_) (fun z => absurd (by decide) z)
      refine q_iload_ni (k0 := 3) (by decide +kernel) rfl rfl ?_
      refine q_if_ne (off := 7) (tgt := 53) (by decide +kernel) (by decide) rfl (fun z => ?_) (fun z => ?_)
      · refine q_iconst (n := 0) (a := 0) (by decide +kernel) (by decide +kernel) ?_
        exact q_ret (r := some (.inl 0)) ⟨by decide +kernel, Or.inr ⟨.boolean, rfl, by decide +kernel⟩⟩ (by decide) (by decide) ⟨Or.inr ⟨rfl, (fun w => by have w2 : two = 0 := w.2; exact z (by omega))⟩, rfl⟩
      · refine q_iconst (n := 1) (a := 1) (by decide +kernel) (by decide +kernel) ?_
        refine q_goto (off := 4) (tgt := 54) (by decide +kernel) (by decide) ?_
        exact q_ret (r := some (.inl 1)) ⟨by decide +kernel, Or.inr ⟨.boolean, rfl, by decide +kernel⟩⟩ (by decide) (by decide) ⟨Or.inl ⟨rfl, x1, (show two = 0 by omega)⟩, rfl⟩
  · rw [hn]
    refine q_iloadi (i := 4) (by decide +kernel) rfl ?_
    refine q_if_le (off := 15) (tgt := 23) (by decide +kernel) (by decide) rfl (fun z => absurd z (by decide)) (fun _ => ?_)
    refine q_aload_nr (k0 := 0) (by decide +kernel) rfl rfl ?_
    refine q_getR (ci := 9) (k := 28) (by decide +kernel) (f_TreePassesModel_58 _ rfl) rfl hM hrc ?_
    refine q_iload_ni (k0 := 2) (by decide +kernel) rfl rfl ?_
    refine q_ald (t := 3) (ins := .baload) (by decide +kernel) (Or.inr (Or.inr ⟨rfl, rfl⟩)) hC h1 (by omega) ?_
    refine q_if_eq (off := 36) (tgt := 53) (by decide +kernel) (by decide) rfl (fun z => ?_) (fun z => ?_)
    · refine q_iconst (n := 0) (a := 0) (by decide +kernel) (by decide +kernel) ?_
      exact q_ret (r := some (.inl 0)) ⟨by decide +kernel, Or.inr ⟨.boolean, rfl, by decide +kernel⟩⟩ (by decide) (by decide) ⟨Or.inr ⟨rfl, (fun w => by have w1 := w.1; exact w1 z)⟩, rfl⟩
    · have x1 : z_may1 dC 1 one := z
      refine q_goto (off := 7) (tgt := 27) (by decide +kernel) (by decide) ?_
      refine q_iloadi (i := 4) (by decide +kernel) rfl ?_
      refine q_iconst (n := 1) (a := 1) (by decide +kernel) (by decide +kernel) ?_
      refine q_icmp_le (off := 15) (tgt := 45) (by decide +kernel) (by decide) rfl rfl (fun _ => ?_) (fun z => absurd (by decide) z)
      refine q_iload_ni (k0 := 3) (by decide +kernel) rfl rfl ?_
      refine q_if_ne (off := 7) (tgt := 53) (by decide +kernel) (by decide) rfl (fun z => ?_) (fun z => ?_)
      · refine q_iconst (n := 0) (a := 0) (by decide +kernel) (by decide +kernel) ?_
        exact q_ret (r := some (.inl 0)) ⟨by decide +kernel, Or.inr ⟨.boolean, rfl, by decide +kernel⟩⟩ (by decide) (by decide) ⟨Or.inr ⟨rfl, (fun w => by have w2 : two = 0 := w.2; exact z (by omega))⟩, rfl⟩
      · refine q_iconst (n := 1) (a := 1) (by decide +kernel) (by decide +kernel) ?_
        refine q_goto (off := 4) (tgt := 54) (by decide +kernel) (by decide) ?_
        exact q_ret (r := some (.inl 1)) ⟨by decide +kernel, Or.inr ⟨.boolean, rfl, by decide +kernel⟩⟩ (by decide) (by decide) ⟨Or.inl ⟨rfl, x1, (show two = 0 by omega)⟩, rfl⟩
  · rw [hn]
    refine q_iloadi (i := 4) (by decide +kernel) rfl ?_
    refine q_if_le (off := 15) (tgt := 23) (by decide +kernel) (by decide) rfl (fun z => absurd z (by decide)) (fun _ => ?_)
    refine q_aload_nr (k0 := 0) (by decide +kernel) rfl rfl ?_
    refine q_getR (ci := 9) (k := 28) (by decide +kernel) (f_TreePassesModel_58 _ rfl) rfl hM hrc ?_
    refine q_iload_ni (k0 := 2) (by decide +kernel) rfl rfl ?_
    refine q_ald (t := 3) (ins := .baload) (by decide +kernel) (Or.inr (Or.inr ⟨rfl, rfl⟩)) hC h1 (by omega) ?_
    refine q_if_eq (off := 36) (tgt := 53) (by decide +kernel) (by decide) rfl (fun z => ?_) (fun z => ?_)
    · refine q_iconst (n := 0) (a := 0) (by decide +kernel) (by decide +kernel) ?_
      exact q_ret (r := some (.inl 0)) ⟨by decide +kernel, Or.inr ⟨.boolean, rfl, by decide +kernel⟩⟩ (by decide) (by decide) ⟨Or.inr ⟨rfl, (fun w => by have w1 := w.1; exact w1 z)⟩, rfl⟩
    · have x1 : z_may1 dC 2 one := z
      refine q_goto (off := 7) (tgt := 27) (by decide +kernel) (by decide) ?_
      refine q_iloadi (i := 4) (by decide +kernel) rfl ?_
      refine q_iconst (n := 1) (a := 1) (by decide +kernel) (by decide +kernel) ?_
      refine q_icmp_le (off := 15) (tgt := 45) (by decide +kernel) (by decide) rfl rfl (fun z => absurd z (by decide)) (fun _ => ?_)
      refine q_aload_nr (k0 := 0) (by decide +kernel) rfl rfl ?_
      refine q_getR (ci := 9) (k := 28) (by decide +kernel) (f_TreePassesModel_58 _ rfl) rfl hM hrc ?_
      refine q_iload_ni (k0 := 3) (by decide +kernel) rfl rfl ?_
      refine q_ald (t := 3) (ins := .baload) (by decide +kernel) (Or.inr (Or.inr ⟨rfl, rfl⟩)) hC h2 (by omega) ?_
      refine q_if_eq (off := 14) (tgt := 53) (by decide +kernel) (by decide) rfl (fun z => ?_) (fun z => ?_)
      · refine q_iconst (n := 0) (a := 0) (by decide +kernel) (by decide +kernel) ?_
        exact q_ret (r := some (.inl 0)) ⟨by decide +kernel, Or.inr ⟨.boolean, rfl, by decide +kernel⟩⟩ (by decide) (by decide) ⟨Or.inr ⟨rfl, (fun w => by have w2 := w.2; exact w2 z)⟩, rfl⟩
      · refine q_goto (off := 7) (tgt := 49) (by decide +kernel) (by decide) ?_
        refine q_iconst (n := 1) (a := 1) (by decide +kernel) (by decide +kernel) ?_
        refine q_goto (off := 4) (tgt := 54) (by decide +kernel) (by decide) ?_
        exact q_ret (r := some (.inl 1)) ⟨by decide +kernel, Or.inr ⟨.boolean, rfl, by decide +kernel⟩⟩ (by decide) (by decide) ⟨Or.inl ⟨rfl, x1, z⟩, rfl⟩

def z_szv (dS n one two : Nat) : Nat := ((1 + (if 0 < n then q_rd dS one else 0)) % 4294967296 + (if 1 < n then q_rd dS two else 0)) % 4294967296
theorem z_sz (E : q_E) {h : q_H} {r0 n0 dM rs dS f one two : Nat} (hM : q_get h r0 = some (14, n0, dM)) (hrs : q_rd dM 29 = rs + 1) (hS : q_get h rs = some (0, 54, dS)) (hf : f < 5) (h1 : one < 54) (h2 : two < 54) : q_P E m_202 [.inr (.inl r0), .inl f, .inl one, .inl two] h (fun r h' => r = some (.inl (z_szv dS (z_cv f) one two)) ∧ h' = h) := by
  refine q_Pof (by decide +kernel) (Nat.le_of_ble_eq_true rfl) ?_
  refine q_iload_ni (k0 := 1) (by decide +kernel) rfl rfl ?_
  refine q_callS (M' := m_0) (as := [.inl f]) (idx := 114) (n := 1) (by decide +kernel) ⟨by decide +kernel, s_0⟩ w_1041 w_1042 rfl (by decide) (by decide) (by decide) (z_ch E (by omega) h) (fun r h' z => ?_)
  obtain ⟨z1, z2⟩ := z
  subst z1; subst z2
  refine q_istorei (i := 4) (by decide +kernel) (by decide) ?_
  rcases z_cv3 f with hn | hn | hn
  · rw [hn]
    refine q_iconst (n := 1) (a := 1) (by decide +kernel) (by decide +kernel) ?_
    refine q_iloadi (i := 4) (by decide +kernel) rfl ?_
    refine q_if_le (off := 12) (tgt := 21) (by decide +kernel) (by decide) rfl (fun _ => ?_) (fun z => absurd (by decide) z)
    refine q_iconst (n := 0) (a := 0) (by decide +kernel) (by decide +kernel) ?_
    refine q_iadd (by decide +kernel) ?_
    refine q_iloadi (i := 4) (by decide +kernel) rfl ?_
    refine q_iconst (n := 1) (a := 1) (by decide +kernel) (by decide +kernel) ?_
    refine q_icmp_le (off := 12) (tgt := 38) (by decide +kernel) (by decide) rfl rfl (fun _ => ?_) (fun z => absurd (by decide) z)
    refine q_iconst (n := 0) (a := 0) (by decide +kernel) (by decide +kernel) ?_
    refine q_iadd (by decide +kernel) ?_
    exact q_ret (r := some (.inl _)) ⟨by decide +kernel, Or.inl rfl⟩ (by decide) (by decide) ⟨rfl, rfl⟩
  · rw [hn]
    refine q_iconst (n := 1) (a := 1) (by decide +kernel) (by decide +kernel) ?_
    refine q_iloadi (i := 4) (by decide +kernel) rfl ?_
    refine q_if_le (off := 12) (tgt := 21) (by decide +kernel) (by decide) rfl (fun z => absurd z (by decide)) (fun _ => ?_)
    refine q_aload_nr (k0 := 0) (by decide +kernel) rfl rfl ?_
    refine q_getR (ci := 9) (k := 29) (by decide +kernel) (f_TreePassesModel_62 _ rfl) rfl hM hrs ?_
    refine q_iload_ni (k0 := 2) (by decide +kernel) rfl rfl ?_
    refine q_ald (t := 0) (ins := .iaload) (by decide +kernel) (Or.inl ⟨rfl, rfl⟩) hS h1 (by omega) ?_
    refine q_goto (off := 4) (tgt := 22) (by decide +kernel) (by decide) ?_
    refine q_iadd (by decide +kernel) ?_
    refine q_iloadi (i := 4) (by decide +kernel) rfl ?_
    refine q_iconst (n := 1) (a := 1) (by decide +kernel) (by decide +kernel) ?_
    refine q_icmp_le (off := 12) (tgt := 38) (by decide +kernel) (by decide) rfl rfl (fun _ => ?_) (fun z => absurd (by decide) z)
    refine q_iconst (n := 0) (a := 0) (by decide +kernel) (by decide +kernel) ?_
    refine q_iadd (by decide +kernel) ?_
    exact q_ret (r := some (.inl _)) ⟨by decide +kernel, Or.inl rfl⟩ (by decide) (by decide) ⟨rfl, rfl⟩
  · rw [hn]
    refine q_iconst (n := 1) (a := 1) (by decide +kernel) (by decide +kernel) ?_
    refine q_iloadi (i := 4) (by decide +kernel) rfl ?_
    refine q_if_le (off := 12) (tgt := 21) (by decide +kernel) (by decide) rfl (fun z => absurd z (by decide)) (fun _ => ?_)
    refine q_aload_nr (k0 := 0) (by decide +kernel) rfl rfl ?_
    refine q_getR (ci := 9) (k := 29) (by decide +kernel) (f_TreePassesModel_62 _ rfl) rfl hM hrs ?_
    refine q_iload_ni (k0 := 2) (by decide +kernel) rfl rfl ?_
    refine q_ald (t := 0) (ins := .iaload) (by decide +kernel) (Or.inl ⟨rfl, rfl⟩) hS h1 (by omega) ?_
    refine q_goto (off := 4) (tgt := 22) (by decide +kernel) (by decide) ?_
    refine q_iadd (by decide +kernel) ?_
    refine q_iloadi (i := 4) (by decide +kernel) rfl ?_
    refine q_iconst (n := 1) (a := 1) (by decide +kernel) (by decide +kernel) ?_
    refine q_icmp_le (off := 12) (tgt := 38) (by decide +kernel) (by decide) rfl rfl (fun z => absurd z (by decide)) (fun _ => ?_)
    refine q_aload_nr (k0 := 0) (by decide +kernel) rfl rfl ?_
    refine q_getR (ci := 9) (k := 29) (by decide +kernel) (f_TreePassesModel_62 _ rfl) rfl hM hrs ?_
    refine q_iload_ni (k0 := 3) (by decide +kernel) rfl rfl ?_
    refine q_ald (t := 0) (ins := .iaload) (by decide +kernel) (Or.inl ⟨rfl, rfl⟩) hS h2 (by omega) ?_
    refine q_goto (off := 4) (tgt := 39) (by decide +kernel) (by decide) ?_
    refine q_iadd (by decide +kernel) ?_
    exact q_ret (r := some (.inl _)) ⟨by decide +kernel, Or.inl rfl⟩ (by decide) (by decide) ⟨rfl, rfl⟩

/-- the locals behind an iteration -/
theorem z_l4 {c f one two r0 : Nat} {v1 v2 : q_V} (hv2 : q_cat v2 = 1) (hv1 : q_cat v1 = 1) : q_ls1 (q_ls1 (q_ls1 (q_ls1 [(3, .inl c), (2, v2), (1, v1), (0, .inr (.inl r0))] 4 (.inl f)) 5 (.inl one)) 6 (.inl two)) 3 (.inl (c + 1)) = [(3, .inl (c + 1)), (6, .inl two), (5, .inl one), (4, .inl f), (2, v2), (1, v1), (0, .inr (.inl r0))] := by
  have e : ∀ n : Nat, q_cat (.inl n) = 1 := fun _ => rfl
  have e2 : ∀ n : Nat, q_cat (.inr (.inl n)) = 1 := fun _ => rfl
  simp [q_ls1, hv2, hv1, e, e2]

theorem z_sk1 (E : q_E) {Q : Option q_V → q_H → Prop} {h : q_H} {r0 n0 dM rc dC c : Nat} {v1 v2 : q_V} (hv1 : q_cat v1 = 1) (hv2 : q_cat v2 = 1) (hM : q_get h r0 = some (14, n0, dM)) (hrc : q_rd dM 28 = rc + 1) (hC : q_get h rc = some (3, 54, dC)) (hc : c < 14580) (hq : ¬ (z_may1 dC (z_cv (c / 2916)) (c / 54 % 54) ∧ z_may2 dC (z_cv (c / 2916)) (c % 54)))
    (k : q_W E m_118 Q 51 [(3, .inl (c + 1)), (2, v2), (1, v1), (0, .inr (.inl r0))] [] 0 0 h) : q_W E m_118 Q 51 [(3, .inl c), (2, v2), (1, v1), (0, .inr (.inl r0))] [] 0 0 h := by
  have bc := z_bi (show c < 2147483648 by omega)
  have bb : q_bi 14580 = 2147498228 := by decide
  refine q_iload_ni (k0 := 3) (by decide +kernel) rfl rfl ?_
  refine q_sipush (n := 14580) (a := 14580) (by decide +kernel) (by decide +kernel) ?_
  refine q_icmp_ge (off := 89) (tgt := 144) (by decide +kernel) (by decide) rfl rfl (fun z => absurd z (by omega)) (fun _ => ?_)
  refine q_iload_ni (k0 := 3) (by decide +kernel) rfl rfl ?_
  refine q_sipush (n := 2916) (a := 2916) (by decide +kernel) (by decide +kernel) ?_
  refine q_idiv (by decide +kernel) (by omega) (by decide) (by decide) ?_
  refine q_istorei (i := 4) (by decide +kernel) (by decide) ?_
  refine q_iload_ni (k0 := 3) (by decide +kernel) rfl rfl ?_
  refine q_bipush (n := 54) (a := 54) (by decide +kernel) (by decide +kernel) ?_
  refine q_idiv (by decide +kernel) (by omega) (by decide) (by decide) ?_
  refine q_bipush (n := 54) (a := 54) (by decide +kernel) (by decide +kernel) ?_
  refine q_irem (by decide +kernel) (by omega) (by decide) (by decide) ?_
  refine q_istorei (i := 5) (by decide +kernel) (by decide) ?_
  refine q_iload_ni (k0 := 3) (by decide +kernel) rfl rfl ?_
  refine q_bipush (n := 54) (a := 54) (by decide +kernel) (by decide +kernel) ?_
  refine q_irem (by decide +kernel) (by omega) (by decide) (by decide) ?_
  refine q_istorei (i := 6) (by decide +kernel) (by decide) ?_
  have gf : c / 2916 < 5 := by omega
  have g1 : c / 54 % 54 < 54 := Nat.mod_lt _ (by decide)
  have g2 : c % 54 < 54 := Nat.mod_lt _ (by decide)
  refine q_aload_nr (k0 := 0) (by decide +kernel) rfl rfl ?_
  refine q_iloadi (i := 4) (by decide +kernel) rfl ?_
  refine q_iloadi (i := 5) (by decide +kernel) rfl ?_
  refine q_iloadi (i := 6) (by decide +kernel) rfl ?_
  refine q_callV (M' := m_1) (ci := 9) (r0 := r0) (as := [.inl (c / 2916), .inl (c / 54 % 54), .inl (c % 54)]) (idx := 251) (n := 3) (by decide +kernel) ⟨by decide +kernel, s_1⟩ w_1222 ⟨w_1224, wp_68⟩ hM (fun q hq => by cases hq; rfl) rfl (by decide) (by decide) (by decide) (z_mb E hM hrc hC gf g1 g2) (fun r h' z => ?_)
  obtain ⟨z, z2⟩ := z
  subst z2
  rcases z with ⟨-, z1, z2⟩ | ⟨z1, -⟩
  · exact absurd ⟨z1, z2⟩ hq
  subst z1
  refine q_if_eq (off := 48) (tgt := 138) (by decide +kernel) (by decide) rfl (fun _ => ?_) (fun z => absurd (by decide) z)
  refine q_iinc (i := 3) (n := 1) (b := 1) (by decide +kernel) rfl (by decide +kernel) (by decide) ?_
  rw [show (c + 1) % 4294967296 = c + 1 by omega]
  refine q_goto (off := -90) (tgt := 51) (by decide +kernel) (by decide) ?_
  refine z_lsub (lo' := [(3, .inl (c + 1)), (2, v2), (1, v1), (0, .inr (.inl r0))]) ?_ k
  intro x hx
  simp only [List.mem_cons, List.not_mem_nil, or_false] at hx
  rcases hx with rfl | rfl | rfl | rfl
  · exact ⟨0, rfl⟩
  · exact ⟨4, by rw [z_l4 hv2 hv1]; rfl⟩
  · exact ⟨5, by rw [z_l4 hv2 hv1]; rfl⟩
  · exact ⟨6, by rw [z_l4 hv2 hv1]; rfl⟩

theorem z_sk2 (E : q_E) {Q : Option q_V → q_H → Prop} {h : q_H} {r0 n0 dM rc dC rs dS c n : Nat} {v1 : q_V} (hv1 : q_cat v1 = 1) (hM : q_get h r0 = some (14, n0, dM)) (hrc : q_rd dM 28 = rc + 1) (hC : q_get h rc = some (3, 54, dC)) (hrs : q_rd dM 29 = rs + 1) (hS : q_get h rs = some (0, 54, dS)) (hc : c < 14580) (hq : (z_may1 dC (z_cv (c / 2916)) (c / 54 % 54) ∧ z_may2 dC (z_cv (c / 2916)) (c % 54)) → ¬ q_bi (z_szv dS (z_cv (c / 2916)) (c / 54 % 54) (c % 54)) = q_bi n)
    (k : q_W E m_201 Q 15 [(3, .inl (c + 1)), (2, .inl n), (1, v1), (0, .inr (.inl r0))] [] 0 0 h) : q_W E m_201 Q 15 [(3, .inl c), (2, .inl n), (1, v1), (0, .inr (.inl r0))] [] 0 0 h := by
  have bc := z_bi (show c < 2147483648 by omega)
  have bb : q_bi 14580 = 2147498228 := by decide
  refine q_iload_ni (k0 := 3) (by decide +kernel) rfl rfl ?_
  refine q_sipush (n := 14580) (a := 14580) (by decide +kernel) (by decide +kernel) ?_
  refine q_icmp_ge (off := 157) (tgt := 176) (by decide +kernel) (by decide) rfl rfl (fun z => absurd z (by omega)) (fun _ => ?_)
  refine q_iload_ni (k0 := 3) (by decide +kernel) rfl rfl ?_
  refine q_sipush (n := 2916) (a := 2916) (by decide +kernel) (by decide +kernel) ?_
  refine q_idiv (by decide +kernel) (by omega) (by decide) (by decide) ?_
  refine q_istorei (i := 4) (by decide +kernel) (by decide) ?_
  refine q_iload_ni (k0 := 3) (by decide +kernel) rfl rfl ?_
  refine q_bipush (n := 54) (a := 54) (by decide +kernel) (by decide +kernel) ?_
  refine q_idiv (by decide +kernel) (by omega) (by decide) (by decide) ?_
  refine q_bipush (n := 54) (a := 54) (by decide +kernel) (by decide +kernel) ?_
  refine q_irem (by decide +kernel) (by omega) (by decide) (by decide) ?_
  refine q_istorei (i := 5) (by decide +kernel) (by decide) ?_
  refine q_iload_ni (k0 := 3) (by decide +kernel) rfl rfl ?_
  refine q_bipush (n := 54) (a := 54) (by decide +kernel) (by decide +kernel) ?_
  refine q_irem (by decide +kernel) (by omega) (by decide) (by decide) ?_
  refine q_istorei (i := 6) (by decide +kernel) (by decide) ?_
  have gf : c / 2916 < 5 := by omega
  have g1 : c / 54 % 54 < 54 := Nat.mod_lt _ (by decide)
  have g2 : c % 54 < 54 := Nat.mod_lt _ (by decide)
  refine q_aload_nr (k0 := 0) (by decide +kernel) rfl rfl ?_
  refine q_iloadi (i := 4) (by decide +kernel) rfl ?_
  refine q_iloadi (i := 5) (by decide +kernel) rfl ?_
  refine q_iloadi (i := 6) (by decide +kernel) rfl ?_
  refine q_callV (M' := m_1) (ci := 9) (r0 := r0) (as := [.inl (c / 2916), .inl (c / 54 % 54), .inl (c % 54)]) (idx := 251) (n := 3) (by decide +kernel) ⟨by decide +kernel, s_1⟩ w_1222 ⟨w_1224, wp_68⟩ hM (fun q hq => by cases hq; rfl) rfl (by decide) (by decide) (by decide) (z_mb E hM hrc hC gf g1 g2) (fun r h' z => ?_)
  obtain ⟨z, z2⟩ := z
  subst z2
  rcases z with ⟨z1, z2⟩ | ⟨z1, -⟩
  · subst z1
    refine q_if_eq (off := 116) (tgt := 170) (by decide +kernel) (by decide) rfl (fun z => absurd z (by decide)) (fun _ => ?_)
    refine q_aload_nr (k0 := 0) (by decide +kernel) rfl rfl ?_
    refine q_iloadi (i := 4) (by decide +kernel) rfl ?_
    refine q_iloadi (i := 5) (by decide +kernel) rfl ?_
    refine q_iloadi (i := 6) (by decide +kernel) rfl ?_
    refine q_callV (M' := m_202) (ci := 9) (r0 := r0) (as := [.inl (c / 2916), .inl (c / 54 % 54), .inl (c % 54)]) (idx := 260) (n := 3) (by decide +kernel) ⟨by decide +kernel, s_202⟩ w_1246 ⟨w_1248, wp_72⟩ hM (fun q hq => by cases hq; rfl) rfl (by decide) (by decide) (by decide) (z_sz E hM hrs hS gf g1 g2) (fun r h' z => ?_)
    obtain ⟨z3, z4⟩ := z
    subst z3; subst z4
    refine q_iload_ni (k0 := 2) (by decide +kernel) rfl rfl ?_
    refine q_icmp_ne (off := 102) (tgt := 170) (by decide +kernel) (by decide) rfl rfl (fun _ => ?_) (fun z => absurd (fun y => hq z2 y) z)
    refine q_iinc (i := 3) (n := 1) (b := 1) (by decide +kernel) rfl (by decide +kernel) (by decide) ?_
    rw [show (c + 1) % 4294967296 = c + 1 by omega]
    refine q_goto (off := -158) (tgt := 15) (by decide +kernel) (by decide) ?_
    refine z_lsub (lo' := [(3, .inl (c + 1)), (2, .inl n), (1, v1), (0, .inr (.inl r0))]) ?_ k
    intro x hx
    simp only [List.mem_cons, List.not_mem_nil, or_false] at hx
    rcases hx with rfl | rfl | rfl | rfl
    · exact ⟨0, rfl⟩
    · exact ⟨4, by rw [z_l4 (v2 := .inl n) rfl hv1]; rfl⟩
    · exact ⟨5, by rw [z_l4 (v2 := .inl n) rfl hv1]; rfl⟩
    · exact ⟨6, by rw [z_l4 (v2 := .inl n) rfl hv1]; rfl⟩
  · subst z1
    refine q_if_eq (off := 116) (tgt := 170) (by decide +kernel) (by decide) rfl (fun _ => ?_) (fun z => absurd (by decide) z)
    refine q_iinc (i := 3) (n := 1) (b := 1) (by decide +kernel) rfl (by decide +kernel) (by decide) ?_
    rw [show (c + 1) % 4294967296 = c + 1 by omega]
    refine q_goto (off := -158) (tgt := 15) (by decide +kernel) (by decide) ?_
    refine z_lsub (lo' := [(3, .inl (c + 1)), (2, .inl n), (1, v1), (0, .inr (.inl r0))]) ?_ k
    intro x hx
    simp only [List.mem_cons, List.not_mem_nil, or_false] at hx
    rcases hx with rfl | rfl | rfl | rfl
    · exact ⟨0, rfl⟩
    · exact ⟨4, by rw [z_l4 (v2 := .inl n) rfl hv1]; rfl⟩
    · exact ⟨5, by rw [z_l4 (v2 := .inl n) rfl hv1]; rfl⟩
    · exact ⟨6, by rw [z_l4 (v2 := .inl n) rfl hv1]; rfl⟩

