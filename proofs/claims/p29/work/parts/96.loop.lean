theorem z_pushx : q_push [] (8 + 5, 12, 0) = [[(13, 12, 0)]] := rfl
theorem z_cntx : q_cnt [] = 0 := rfl
theorem z_pushm : q_push z_h1 (9 + 5, 33, 0) = z_h1m := by
  have h : e_hEq (q_push z_h1 (9 + 5, 33, 0)) z_h1m = true := by decide +kernel
  exact e_hEq_ok h
theorem z_cntm : q_cnt z_h1 = 138 := by decide +kernel
theorem z_Px (E : q_E) : q_P E (q_mt 119) [.inr (.inl 0)] [[(13, 12, 0)]] (fun r h => r = none ∧ h = z_h1) :=
  q_run (j := 119) (ml := m_119.2.2.1) (bl := b_119) (cs := b_119_0) (B := []) rfl rfl (by decide) q_inB_nil (fun _ r h _ z => by
    obtain ⟨z1, z2⟩ := e_and z
    exact ⟨(by cases r with | none => rfl | some v => cases z1), e_hEq_ok z2⟩) r_x
theorem z_Pm (E : q_E) : q_P E (q_mt 170) [.inr (.inl 138)] z_h1m (fun r h => r = none ∧ h = z_h2) :=
  q_run (j := 170) (ml := m_170.2.2.1) (bl := b_170) (cs := b_170_0) (B := []) rfl rfl (by decide) q_inB_nil (fun _ r h _ z => by
    obtain ⟨z1, z2⟩ := e_and z
    exact ⟨(by cases r with | none => rfl | some v => cases z1), e_hEq_ok z2⟩) r_m

theorem z_dsw : decode m_L.2.1 32 = .ok (.tableswitch 982 0 27 #[128, 151, 164, 177, 190, 223, 266, 309, 342, 375, 398, 421, 454, 497, 540, 573, 586, 639, 672, 705, 738, 781, 804, 847, 890, 933, 946, 959], 128) := by decide +kernel
theorem z_bi {n : Nat} (h : n < 32) : (q_bi n : Int) - 2147483648 = n := by unfold q_bi; omega
/-- behind a case: on by five -/
theorem z_next {E : q_E} {i : Nat} {h : q_H} (hi : i + 5 ≤ 2560) (k : q_W E m_L z_Q 18 (z_l (i + 5)) [] 1000 50000 h) : q_W E m_L z_Q 1014 (z_l i) [] 1000 50000 h := by
  refine q_iinc (i := 3) (a := i) (b := 5) (n := 5) (by decide +kernel) rfl (by decide +kernel) (by decide) ?_
  have e : q_ls1 (z_l i) 3 (.inl ((i + 5) % 4294967296)) = z_l (i + 5) := by
    rw [Nat.mod_eq_of_lt (by omega)]
    rfl
  rw [e]
  exact q_goto (off := -999) (tgt := 18) (by decide +kernel) (by decide) k
theorem z_sw {E : q_E} {i n : Nat} (hE : ∀ k, E.2.2.2.1 k < 4294967296) (hi : i + 5 ≤ E.2.2.2.2) (hl : E.2.2.2.2 ≤ 2560) {h : q_H} (hI : z_LI h) (hn : n < 32) (K : ∀ h, z_LI h → q_W E m_L z_Q 1014 (z_l i) [] 1000 50000 h) : q_W E m_L z_Q 32 (z_l i) [.inl n] 1000 50000 h := by
    have : n = 0 ∨ n = 1 ∨ n = 2 ∨ n = 3 ∨ n = 4 ∨ n = 5 ∨ n = 6 ∨ n = 7 ∨ n = 8 ∨ n = 9 ∨ n = 10 ∨ n = 11 ∨ n = 12 ∨ n = 13 ∨ n = 14 ∨ n = 15 ∨ n = 16 ∨ n = 17 ∨ n = 18 ∨ n = 19 ∨ n = 20 ∨ n = 21 ∨ n = 22 ∨ n = 23 ∨ n = 24 ∨ n = 25 ∨ n = 26 ∨ n = 27 ∨ n = 28 ∨ n = 29 ∨ n = 30 ∨ n = 31 := by omega
    rcases this with rfl | rfl | rfl | rfl | rfl | rfl | rfl | rfl | rfl | rfl | rfl | rfl | rfl | rfl | rfl | rfl | rfl | rfl | rfl | rfl | rfl | rfl | rfl | rfl | rfl | rfl | rfl | rfl | rfl | rfl | rfl | rfl
    · exact q_tswIn (x := .inl 0) (a := 0) (i := 0) (off := 128) (tgt := 160) z_dsw rfl (z_bi (by decide)) (by decide) rfl (by decide) (z_c0 hE hi hl hI K)
    · exact q_tswIn (x := .inl 1) (a := 1) (i := 1) (off := 151) (tgt := 183) z_dsw rfl (z_bi (by decide)) (by decide) rfl (by decide) (z_c1 hE hi hl hI K)
    · exact q_tswIn (x := .inl 2) (a := 2) (i := 2) (off := 164) (tgt := 196) z_dsw rfl (z_bi (by decide)) (by decide) rfl (by decide) (z_c2 hE hi hl hI K)
    · exact q_tswIn (x := .inl 3) (a := 3) (i := 3) (off := 177) (tgt := 209) z_dsw rfl (z_bi (by decide)) (by decide) rfl (by decide) (z_c3 hE hi hl hI K)
    · exact q_tswIn (x := .inl 4) (a := 4) (i := 4) (off := 190) (tgt := 222) z_dsw rfl (z_bi (by decide)) (by decide) rfl (by decide) (z_c4 hE hi hl hI K)
    · exact q_tswIn (x := .inl 5) (a := 5) (i := 5) (off := 223) (tgt := 255) z_dsw rfl (z_bi (by decide)) (by decide) rfl (by decide) (z_c5 hE hi hl hI K)
    · exact q_tswIn (x := .inl 6) (a := 6) (i := 6) (off := 266) (tgt := 298) z_dsw rfl (z_bi (by decide)) (by decide) rfl (by decide) (z_c6 hE hi hl hI K)
    · exact q_tswIn (x := .inl 7) (a := 7) (i := 7) (off := 309) (tgt := 341) z_dsw rfl (z_bi (by decide)) (by decide) rfl (by decide) (z_c7 hE hi hl hI K)
    · exact q_tswIn (x := .inl 8) (a := 8) (i := 8) (off := 342) (tgt := 374) z_dsw rfl (z_bi (by decide)) (by decide) rfl (by decide) (z_c8 hE hi hl hI K)
    · exact q_tswIn (x := .inl 9) (a := 9) (i := 9) (off := 375) (tgt := 407) z_dsw rfl (z_bi (by decide)) (by decide) rfl (by decide) (z_c9 hE hi hl hI K)
    · exact q_tswIn (x := .inl 10) (a := 10) (i := 10) (off := 398) (tgt := 430) z_dsw rfl (z_bi (by decide)) (by decide) rfl (by decide) (z_c10 hE hi hl hI K)
    · exact q_tswIn (x := .inl 11) (a := 11) (i := 11) (off := 421) (tgt := 453) z_dsw rfl (z_bi (by decide)) (by decide) rfl (by decide) (z_c11 hE hi hl hI K)
    · exact q_tswIn (x := .inl 12) (a := 12) (i := 12) (off := 454) (tgt := 486) z_dsw rfl (z_bi (by decide)) (by decide) rfl (by decide) (z_c12 hE hi hl hI K)
    · exact q_tswIn (x := .inl 13) (a := 13) (i := 13) (off := 497) (tgt := 529) z_dsw rfl (z_bi (by decide)) (by decide) rfl (by decide) (z_c13 hE hi hl hI K)
    · exact q_tswIn (x := .inl 14) (a := 14) (i := 14) (off := 540) (tgt := 572) z_dsw rfl (z_bi (by decide)) (by decide) rfl (by decide) (z_c14 hE hi hl hI K)
    · exact q_tswIn (x := .inl 15) (a := 15) (i := 15) (off := 573) (tgt := 605) z_dsw rfl (z_bi (by decide)) (by decide) rfl (by decide) (z_c15 hE hi hl hI K)
    · exact q_tswIn (x := .inl 16) (a := 16) (i := 16) (off := 586) (tgt := 618) z_dsw rfl (z_bi (by decide)) (by decide) rfl (by decide) (z_c16 hE hi hl hI K)
    · exact q_tswIn (x := .inl 17) (a := 17) (i := 17) (off := 639) (tgt := 671) z_dsw rfl (z_bi (by decide)) (by decide) rfl (by decide) (z_c17 hE hi hl hI K)
    · exact q_tswIn (x := .inl 18) (a := 18) (i := 18) (off := 672) (tgt := 704) z_dsw rfl (z_bi (by decide)) (by decide) rfl (by decide) (z_c18 hE hi hl hI K)
    · exact q_tswIn (x := .inl 19) (a := 19) (i := 19) (off := 705) (tgt := 737) z_dsw rfl (z_bi (by decide)) (by decide) rfl (by decide) (z_c19 hE hi hl hI K)
    · exact q_tswIn (x := .inl 20) (a := 20) (i := 20) (off := 738) (tgt := 770) z_dsw rfl (z_bi (by decide)) (by decide) rfl (by decide) (z_c20 hE hi hl hI K)
    · exact q_tswIn (x := .inl 21) (a := 21) (i := 21) (off := 781) (tgt := 813) z_dsw rfl (z_bi (by decide)) (by decide) rfl (by decide) (z_c21 hE hi hl hI K)
    · exact q_tswIn (x := .inl 22) (a := 22) (i := 22) (off := 804) (tgt := 836) z_dsw rfl (z_bi (by decide)) (by decide) rfl (by decide) (z_c22 hE hi hl hI K)
    · exact q_tswIn (x := .inl 23) (a := 23) (i := 23) (off := 847) (tgt := 879) z_dsw rfl (z_bi (by decide)) (by decide) rfl (by decide) (z_c23 hE hi hl hI K)
    · exact q_tswIn (x := .inl 24) (a := 24) (i := 24) (off := 890) (tgt := 922) z_dsw rfl (z_bi (by decide)) (by decide) rfl (by decide) (z_c24 hE hi hl hI K)
    · exact q_tswIn (x := .inl 25) (a := 25) (i := 25) (off := 933) (tgt := 965) z_dsw rfl (z_bi (by decide)) (by decide) rfl (by decide) (z_c25 hE hi hl hI K)
    · exact q_tswIn (x := .inl 26) (a := 26) (i := 26) (off := 946) (tgt := 978) z_dsw rfl (z_bi (by decide)) (by decide) rfl (by decide) (z_c26 hE hi hl hI K)
    · exact q_tswIn (x := .inl 27) (a := 27) (i := 27) (off := 959) (tgt := 991) z_dsw rfl (z_bi (by decide)) (by decide) rfl (by decide) (z_c27 hE hi hl hI K)
    · exact q_tswOut (x := .inl 28) (a := 28) (tgt := 1014) z_dsw rfl (Or.inr (by decide)) (by decide) (K h hI)
    · exact q_tswOut (x := .inl 29) (a := 29) (tgt := 1014) z_dsw rfl (Or.inr (by decide)) (by decide) (K h hI)
    · exact q_tswOut (x := .inl 30) (a := 30) (tgt := 1014) z_dsw rfl (Or.inr (by decide)) (by decide) (K h hI)
    · exact q_tswOut (x := .inl 31) (a := 31) (tgt := 1014) z_dsw rfl (Or.inr (by decide)) (by decide) (K h hI)
theorem z_loop {E : q_E} (hE : ∀ k, E.2.2.2.1 k < 4294967296) (hl : E.2.2.2.2 ≤ 2560) : ∀ (N i : Nat) (h : q_H), 2570 - i = N → i ≤ 2560 → z_LI h → q_W E m_L z_Q 18 (z_l i) [] 1000 50000 h := by
  intro N
  induction N using Nat.strongRecOn with
  | ind N ih =>
    intro i h hN i1 hI
    refine q_iload_ni (k0 := 3) (i := 3) (a := i) (by decide +kernel) rfl rfl ?_
    refine q_aload_nq (k0 := 0) (i := 0) (a := 0) (by decide +kernel) rfl rfl ?_
    refine q_slen0 (by decide +kernel) ?_
    refine q_iconst (n := 5) (a := 5) (by decide +kernel) (by decide +kernel) ?_
    refine q_isub (by decide +kernel) ?_
    refine q_icmp_gt (x := .inl i) (a := i) (off := 997) (tgt := 1020) (by decide +kernel) (by decide) rfl rfl (fun _ => ?_) (fun z => ?_)
    · refine q_iconst (n := 1) (a := 1) (by decide +kernel) (by decide +kernel) ?_
      exact q_ret (r := some (.inl 1)) ⟨by decide +kernel, Or.inr ⟨.boolean, rfl, by decide +kernel⟩⟩ (by decide) (by decide) rfl
    · have hi : i + 5 ≤ E.2.2.2.2 := by
        generalize E.2.2.2.2 = L at hl z ⊢
        unfold q_bi at z
        omega
      refine q_aload_nq (k0 := 0) (i := 0) (a := 0) (by decide +kernel) rfl rfl ?_
      refine q_iload_ni (k0 := 3) (i := 3) (a := i) (by decide +kernel) rfl rfl ?_
      refine q_sld0 (by decide +kernel) (by omega) (by omega) ?_
      refine q_bipush (n := 31) (a := 31) (by decide +kernel) (by decide +kernel) ?_
      refine q_conv2 (x' := .inl 31) (y' := .inl (E.2.2.2.1 i)) (fun _ _ z => z) (fun _ _ z => z) ?_
      refine q_iand (by decide +kernel) ?_
      have hn : E.2.2.2.1 i &&& 31 < 32 := Nat.lt_of_le_of_lt Nat.and_le_right (by decide)
      exact z_sw hE hi hl hI hn (fun h' hI' => z_next (by omega) (ih _ (by omega) (i + 5) h' rfl (by omega) hI'))
/-- the law from its entry: both constructors, then the loop -/
theorem z_entry (E : q_E) (hE : ∀ k, E.2.2.2.1 k < 4294967296) (hl : E.2.2.2.2 ≤ 2560) : q_W E m_L z_Q 0 [(0, .inr (.inr (.inr (.inr (.inr (.inl 0))))))] [] 0 0 [] := by
  refine q_new (ci := 8) (q := (RX8, TX8, 12)) (idx := 7) (by decide +kernel) rfl w_18 w_19 w_1 (by decide) (by decide) ?_
  rw [z_pushx, z_cntx]
  refine q_dup (by decide +kernel) rfl ?_
  have P1 := z_Px E
  refine q_callI (M' := q_mt 119) (as := []) (idx := 9) (n := 0) (r0 := 0) (by decide +kernel) ⟨by decide +kernel, s_119⟩ w_20 w_21 ⟨rfl, rfl⟩ rfl (by decide) (by decide) (by decide) P1 (fun r h' z => ?_)
  obtain ⟨z1, z2⟩ := z
  subst z1; subst z2
  refine q_astore_nr (k0 := 1) (by decide +kernel) rfl (by decide) ?_
  refine q_new (ci := 9) (q := (RX9, TX9, 33)) (idx := 10) (by decide +kernel) rfl w_879 w_880 w_17 (by decide) (by decide) ?_
  rw [z_pushm, z_cntm]
  refine q_dup (by decide +kernel) rfl ?_
  have P2 := z_Pm E
  refine q_callI (M' := q_mt 170) (as := []) (idx := 12) (n := 0) (r0 := 138) (by decide +kernel) ⟨by decide +kernel, s_170⟩ w_881 w_882 ⟨rfl, rfl⟩ rfl (by decide) (by decide) (by decide) P2 (fun r h' z => ?_)
  obtain ⟨z1, z2⟩ := z
  subst z1; subst z2
  refine q_astore_nr (k0 := 2) (by decide +kernel) rfl (by decide) ?_
  refine q_iconst (n := 0) (a := 0) (by decide +kernel) (by decide +kernel) ?_
  refine q_istore_ni (k0 := 3) (by decide +kernel) rfl (by decide) ?_
  refine q_widen (ce' := 1000) (sl' := 50000) (by decide) (by decide) ?_
  exact z_loop hE hl _ 0 z_h2 rfl (by omega) z_start
