theorem q_widen {E : q_E} {M : q_M} {Q : Option q_V → q_H → Prop} {pc : Nat} {lo : q_Lo} {st : List q_V} {ce sl ce' sl' : Nat} {h : q_H} (h1 : ce ≤ ce') (h2 : sl ≤ sl') (k : q_W E M Q pc lo st ce' sl' h) : q_W E M Q pc lo st ce sl h := by
  intro p e R s m args below meth c A ad0 Z H locs ls stv C T Rt
  exact W.widen h1 h2 (k.go C T Rt)
theorem q_bi_lt (n : Nat) : q_bi n < 4294967296 := Nat.mod_lt _ (by decide)
theorem z_inB {E : q_E} {lo hi : Nat} (h1 : lo ≤ q_bi (E.2.2.2.1 1)) (h2 : q_bi (E.2.2.2.1 1) ≤ hi) : q_inB E [(0, 4294967295), (lo, hi), (0, 4294967295), (0, 4294967295), (0, 4294967295)] := by
  intro k a b h
  have hb := q_bi_lt (E.2.2.2.1 k)
  have key : ∀ x y : Nat, some (x, y) = some (a, b) → x ≤ q_bi (E.2.2.2.1 k) → q_bi (E.2.2.2.1 k) ≤ y → a ≤ q_bi (E.2.2.2.1 k) ∧ q_bi (E.2.2.2.1 k) ≤ b := by
    intro x y z z1 z2
    have z := Option.some.inj z
    have e1 : x = a := congrArg Prod.fst z
    have e2 : y = b := congrArg Prod.snd z
    exact ⟨by omega, by omega⟩
  by_cases c0 : k = 0
  · subst c0
    exact key 0 4294967295 h (Nat.zero_le _) (by omega)
  by_cases c1 : k = 1
  · subst c1
    exact key lo hi h h1 h2
  by_cases c2 : k = 2
  · subst c2
    exact key 0 4294967295 h (Nat.zero_le _) (by omega)
  by_cases c3 : k = 3
  · subst c3
    exact key 0 4294967295 h (Nat.zero_le _) (by omega)
  by_cases c4 : k = 4
  · subst c4
    exact key 0 4294967295 h (Nat.zero_le _) (by omega)
  rw [List.getElem?_eq_none (by show 5 ≤ k; omega)] at h
  cases h
theorem e_one_ok {r : Option q_V} (h : e_one r = true) : r = some (.inl 1) := by
  match r, h with
  | some (.inl n), h => rw [e_eq (show Nat.beq n 1 = true from h)]
def z_Q (r : Option q_V) (_ : q_H) : Prop := r = some (.inl 1)
abbrev z_lo : q_Lo := [(3, .inl 0), (2, .inr (.inl 138)), (1, .inr (.inl 0)), (0, .inr (.inr (.inr (.inr (.inr (.inl 0))))))]
theorem z_case {E : q_E} (hL : E.2.2.2.2 = 5) {n : Nat} (e : z_law n = true) : q_W E m_L z_Q 32 z_lo [.inl n] 1000 50000 z_h2 := by
  unfold z_law at e
  exact q_go_ok q_Pg_all 100000000 m_L t_L b_L 32 b_L_33 z_B z_lo [.inl n] 1000 50000 z_h2 (fun _ r _ => e_one r) z_Q (q_okB_all (a_L E hL)) (k_L_33 E hL) (z_inB (Nat.zero_le _) (Nat.le_of_lt_succ (q_bi_lt _))) (fun _ _ _ _ z => e_one_ok z) e
theorem z_caseB {E : q_E} (hL : E.2.2.2.2 = 5) {n lo hi : Nat} (h1 : lo ≤ q_bi (E.2.2.2.1 1)) (h2 : q_bi (E.2.2.2.1 1) ≤ hi) (e : z_lawB n lo hi = true) : q_W E m_L z_Q 32 z_lo [.inl n] 1000 50000 z_h2 := by
  unfold z_lawB at e
  exact q_go_ok q_Pg_all 100000000 m_L t_L b_L 32 b_L_33 [(0, 4294967295), (lo, hi), (0, 4294967295), (0, 4294967295), (0, 4294967295)] z_lo [.inl n] 1000 50000 z_h2 (fun _ r _ => e_one r) z_Q (q_okB_all (a_L E hL)) (k_L_33 E hL) (z_inB h1 h2) (fun _ _ _ _ z => e_one_ok z) e
theorem z_inC {E : q_E} {lo hi lo2 hi2 : Nat} (h1 : lo ≤ q_bi (E.2.2.2.1 1)) (h2 : q_bi (E.2.2.2.1 1) ≤ hi) (h3 : lo2 ≤ q_bi (E.2.2.2.1 2)) (h4 : q_bi (E.2.2.2.1 2) ≤ hi2) : q_inB E [(0, 4294967295), (lo, hi), (lo2, hi2), (0, 4294967295), (0, 4294967295)] := by
  intro k a b h
  have hb := q_bi_lt (E.2.2.2.1 k)
  have key : ∀ x y : Nat, some (x, y) = some (a, b) → x ≤ q_bi (E.2.2.2.1 k) → q_bi (E.2.2.2.1 k) ≤ y → a ≤ q_bi (E.2.2.2.1 k) ∧ q_bi (E.2.2.2.1 k) ≤ b := by
    intro x y z z1 z2
    have z := Option.some.inj z
    have e1 : x = a := congrArg Prod.fst z
    have e2 : y = b := congrArg Prod.snd z
    exact ⟨by omega, by omega⟩
  by_cases c0 : k = 0
  · subst c0
    exact key 0 4294967295 h (Nat.zero_le _) (by omega)
  by_cases c1 : k = 1
  · subst c1
    exact key lo hi h h1 h2
  by_cases c2 : k = 2
  · subst c2
    exact key lo2 hi2 h h3 h4
  by_cases c3 : k = 3
  · subst c3
    exact key 0 4294967295 h (Nat.zero_le _) (by omega)
  by_cases c4 : k = 4
  · subst c4
    exact key 0 4294967295 h (Nat.zero_le _) (by omega)
  rw [List.getElem?_eq_none (by show 5 ≤ k; omega)] at h
  cases h
theorem z_caseC {E : q_E} (hL : E.2.2.2.2 = 5) {n lo hi lo2 hi2 : Nat} (h1 : lo ≤ q_bi (E.2.2.2.1 1)) (h2 : q_bi (E.2.2.2.1 1) ≤ hi) (h3 : lo2 ≤ q_bi (E.2.2.2.1 2)) (h4 : q_bi (E.2.2.2.1 2) ≤ hi2) (e : z_lawC n lo hi lo2 hi2 = true) : q_W E m_L z_Q 32 z_lo [.inl n] 1000 50000 z_h2 := by
  unfold z_lawC at e
  exact q_go_ok q_Pg_all 100000000 m_L t_L b_L 32 b_L_33 [(0, 4294967295), (lo, hi), (lo2, hi2), (0, 4294967295), (0, 4294967295)] z_lo [.inl n] 1000 50000 z_h2 (fun _ r _ => e_one r) z_Q (q_okB_all (a_L E hL)) (k_L_33 E hL) (z_inC h1 h2 h3 h4) (fun _ _ _ _ z => e_one_ok z) e
theorem z_three {E : q_E} (hL : E.2.2.2.2 = 5) {c : Nat} (h : q_bi (E.2.2.2.1 1) = c) (e0 : z_lawC 11 c c 0 2147483652 = true) (e1 : z_lawC 11 c c 2147483653 2147483656 = true) (e2 : z_lawC 11 c c 2147483657 4294967295 = true) : q_W E m_L z_Q 32 z_lo [.inl 11] 1000 50000 z_h2 := by
  have hb := q_bi_lt (E.2.2.2.1 2)
  by_cases h1 : q_bi (E.2.2.2.1 2) ≤ 2147483652
  · exact z_caseC hL (by omega) (by omega) (Nat.zero_le _) h1 e0
  by_cases h2 : q_bi (E.2.2.2.1 2) ≤ 2147483656
  · exact z_caseC hL (by omega) (by omega) (by omega) h2 e1
  · exact z_caseC hL (by omega) (by omega) (by omega) (by omega) e2
theorem z_caseS {E : q_E} (hL : E.2.2.2.2 = 5) {n lo hi : Nat} (h1 : lo ≤ q_bi (E.2.2.2.1 1)) (h2 : q_bi (E.2.2.2.1 1) ≤ hi) (e : z_lawS n lo hi = true) : q_W E m_L z_Q 32 z_lo [.inl n] 1000 50000 z_h2 := by
  unfold z_lawS at e
  exact q_gs_ok q_Pg_all (S := y_S) (y_S_ok E) 100000000 m_L t_L b_L 32 b_L_33 [(0, 4294967295), (lo, hi), (0, 4294967295), (0, 4294967295), (0, 4294967295)] z_lo [.inl n] 1000 50000 z_h2 (fun _ r _ => e_one r) z_Q (fun b cs hb => q_okCQ_of z_Q (q_okB_all (a_L E hL) b cs hb)) (q_okCQ_of z_Q (k_L_33 E hL)) (z_inB h1 h2) (fun _ _ _ _ z => e_one_ok z) e
theorem z_caseT {E : q_E} (hL : E.2.2.2.2 = 5) {n lo hi : Nat} (h1 : lo ≤ q_bi (E.2.2.2.1 1)) (h2 : q_bi (E.2.2.2.1 1) ≤ hi) (e : z_lawT n lo hi = true) : q_W E m_L z_Q 32 z_lo [.inl n] 1000 50000 z_h2 := by
  unfold z_lawT at e
  exact q_gs_ok q_Pg_all (S := y_S2) (y_S2_ok E) 100000000 m_L t_L b_L 32 b_L_33 [(0, 4294967295), (lo, hi), (0, 4294967295), (0, 4294967295), (0, 4294967295)] z_lo [.inl n] 1000 50000 z_h2 (fun _ r _ => e_one r) z_Q (fun b cs hb => q_okCQ_of z_Q (q_okB_all (a_L E hL) b cs hb)) (q_okCQ_of z_Q (k_L_33 E hL)) (z_inB h1 h2) (fun _ _ _ _ z => e_one_ok z) e
theorem z_censT {E : q_E} (hL : E.2.2.2.2 = 5) {n : Nat} (ra : z_lawS n 0 2147483647 = true) (rb : z_lawS n 2147483650 4294967295 = true) (r0 : z_lawT n 2147483648 2147483648 = true) (r1 : z_lawT n 2147483649 2147483649 = true) : q_W E m_L z_Q 32 z_lo [.inl n] 1000 50000 z_h2 := by
  have hb := q_bi_lt (E.2.2.2.1 1)
  by_cases h1 : q_bi (E.2.2.2.1 1) ≤ 2147483647
  · exact z_caseS hL (Nat.zero_le _) h1 ra
  by_cases h2 : 2147483650 ≤ q_bi (E.2.2.2.1 1)
  · exact z_caseS hL h2 (by omega) rb
  by_cases h3 : q_bi (E.2.2.2.1 1) = 2147483648
  · exact z_caseT hL (by omega) (by omega) r0
  · exact z_caseT hL (by omega) (by omega) r1
theorem z_cens {E : q_E} (hL : E.2.2.2.2 = 5) {n : Nat} (ra : z_lawS n 0 2147483647 = true) (rb : z_lawS n 2147483650 4294967295 = true) (r0 : z_lawS n 2147483648 2147483648 = true) (r1 : z_lawS n 2147483649 2147483649 = true) : q_W E m_L z_Q 32 z_lo [.inl n] 1000 50000 z_h2 := by
  have hb := q_bi_lt (E.2.2.2.1 1)
  by_cases h1 : q_bi (E.2.2.2.1 1) ≤ 2147483647
  · exact z_caseS hL (Nat.zero_le _) h1 ra
  by_cases h2 : 2147483650 ≤ q_bi (E.2.2.2.1 1)
  · exact z_caseS hL h2 (by omega) rb
  by_cases h3 : q_bi (E.2.2.2.1 1) = 2147483648
  · exact z_caseS hL (by omega) (by omega) r0
  · exact z_caseS hL (by omega) (by omega) r1
theorem z_shift {E : q_E} (hL : E.2.2.2.2 = 5) : q_W E m_L z_Q 32 z_lo [.inl 11] 1000 50000 z_h2 := by
  have hb := q_bi_lt (E.2.2.2.1 1)
  by_cases h1 : q_bi (E.2.2.2.1 1) ≤ 2147483647
  · exact z_caseB hL (Nat.zero_le _) h1 r_11_a
  by_cases h2 : 2147483661 ≤ q_bi (E.2.2.2.1 1)
  · exact z_caseB hL h2 (by omega) r_11_b
  have : q_bi (E.2.2.2.1 1) = 2147483648 ∨ q_bi (E.2.2.2.1 1) = 2147483649 ∨ q_bi (E.2.2.2.1 1) = 2147483650 ∨ q_bi (E.2.2.2.1 1) = 2147483651 ∨ q_bi (E.2.2.2.1 1) = 2147483652 ∨ q_bi (E.2.2.2.1 1) = 2147483653 ∨ q_bi (E.2.2.2.1 1) = 2147483654 ∨ q_bi (E.2.2.2.1 1) = 2147483655 ∨ q_bi (E.2.2.2.1 1) = 2147483656 ∨ q_bi (E.2.2.2.1 1) = 2147483657 ∨ q_bi (E.2.2.2.1 1) = 2147483658 ∨ q_bi (E.2.2.2.1 1) = 2147483659 ∨ q_bi (E.2.2.2.1 1) = 2147483660 := by omega
  rcases this with h | h | h | h | h | h | h | h | h | h | h | h | h
  · exact z_three hL h r_11_0_0 r_11_0_1 r_11_0_2
  · exact z_three hL h r_11_1_0 r_11_1_1 r_11_1_2
  · exact z_three hL h r_11_2_0 r_11_2_1 r_11_2_2
  · exact z_three hL h r_11_3_0 r_11_3_1 r_11_3_2
  · exact z_three hL h r_11_4_0 r_11_4_1 r_11_4_2
  · exact z_three hL h r_11_5_0 r_11_5_1 r_11_5_2
  · exact z_three hL h r_11_6_0 r_11_6_1 r_11_6_2
  · exact z_three hL h r_11_7_0 r_11_7_1 r_11_7_2
  · exact z_three hL h r_11_8_0 r_11_8_1 r_11_8_2
  · exact z_three hL h r_11_9_0 r_11_9_1 r_11_9_2
  · exact z_three hL h r_11_10_0 r_11_10_1 r_11_10_2
  · exact z_three hL h r_11_11_0 r_11_11_1 r_11_11_2
  · exact z_three hL h r_11_12_0 r_11_12_1 r_11_12_2

theorem z_all {E : q_E} (hL : E.2.2.2.2 = 5) {n : Nat} (hn : n < 32) : q_W E m_L z_Q 32 z_lo [.inl n] 1000 50000 z_h2 := by
  have : n = 0 ∨ n = 1 ∨ n = 2 ∨ n = 3 ∨ n = 4 ∨ n = 5 ∨ n = 6 ∨ n = 7 ∨ n = 8 ∨ n = 9 ∨ n = 10 ∨ n = 11 ∨ n = 12 ∨ n = 13 ∨ n = 14 ∨ n = 15 ∨ n = 16 ∨ n = 17 ∨ n = 18 ∨ n = 19 ∨ n = 20 ∨ n = 21 ∨ n = 22 ∨ n = 23 ∨ n = 24 ∨ n = 25 ∨ n = 26 ∨ n = 27 ∨ n = 28 ∨ n = 29 ∨ n = 30 ∨ n = 31 := by omega
  rcases this with rfl | rfl | rfl | rfl | rfl | rfl | rfl | rfl | rfl | rfl | rfl | rfl | rfl | rfl | rfl | rfl | rfl | rfl | rfl | rfl | rfl | rfl | rfl | rfl | rfl | rfl | rfl | rfl | rfl | rfl | rfl | rfl
  · exact z_case hL r_0
  · exact z_case hL r_1
  · exact z_case hL r_2
  · exact z_case hL r_3
  · exact z_case hL r_4
  · exact z_case hL r_5
  · exact z_case hL r_6
  · exact z_case hL r_7
  · exact z_case hL r_8
  · exact z_case hL r_9
  · exact z_case hL r_10
  · exact z_shift hL
  · exact z_case hL r_12
  · exact z_case hL r_13
  · exact z_case hL r_14
  · exact z_case hL r_15
  · exact z_case hL r_16
  · exact z_case hL r_17
  · exact z_case hL r_18
  · exact z_case hL r_19
  · exact z_case hL r_20
  · exact z_cens hL r_21_a r_21_b r_21_0 r_21_1
  · exact z_censT hL r_22_a r_22_b r_22_0 r_22_1
  · exact z_cens hL r_23_a r_23_b r_23_0 r_23_1
  · exact z_cens hL r_24_a r_24_b r_24_0 r_24_1
  · exact z_case hL r_25
  · exact z_case hL r_26
  · exact z_case hL r_27
  · exact z_case hL r_28
  · exact z_case hL r_29
  · exact z_case hL r_30
  · exact z_case hL r_31

theorem z_pushx : q_push [] (8 + 5, 12, 0) = [[(13, 12, 0)]] := rfl
theorem z_cntx : q_cnt [] = 0 := rfl
theorem z_pushm : q_push z_h1 (9 + 5, 33, 0) = z_h1m := by
  have h : e_hEq (q_push z_h1 (9 + 5, 33, 0)) z_h1m = true := by decide +kernel
  exact e_hEq_ok h
theorem z_cntm : q_cnt z_h1 = 138 := by decide +kernel
theorem z_Px (E : q_E) : q_P E (q_mt 119) [.inr (.inl 0)] [[(13, 12, 0)]] (fun r h => r = none ∧ h = z_h1) :=
  q_run (j := 119) (ml := m_119.2.2.1) (bl := b_119) (cs := b_119_0) (B := []) rfl rfl (by decide) q_inB_nil (fun _ r h _ z => by
    obtain ⟨z1, z2⟩ := e_and z
    exact ⟨(by cases r with | none => rfl | some v => cases z1), e_hEq_ok z2⟩) r_x
theorem z_Pm (E : q_E) : q_P E (q_mt 170) [.inr (.inl 138)] z_h1m (fun r h => r = none ∧ h = z_h2) :=
  q_run (j := 170) (ml := m_170.2.2.1) (bl := b_170) (cs := b_170_0) (B := []) rfl rfl (by decide) q_inB_nil (fun _ r h _ z => by
    obtain ⟨z1, z2⟩ := e_and z
    exact ⟨(by cases r with | none => rfl | some v => cases z1), e_hEq_ok z2⟩) r_m
/-- the law from its entry: both constructors, then the loop's head -/
theorem z_entry (E : q_E) (hL5 : E.2.2.2.2 ≤ 5) : q_W E m_L z_Q 0 [(0, .inr (.inr (.inr (.inr (.inr (.inl 0))))))] [] 0 0 [] := by
  refine q_new (ci := 8) (q := (RX8, TX8, 12)) (idx := 7) (by decide +kernel) rfl w_18 w_19 w_1 (by decide) (by decide) ?_
  rw [z_pushx, z_cntx]
  refine q_dup (by decide +kernel) rfl ?_
  have P1 := z_Px E
  refine q_callI (M' := q_mt 119) (as := []) (idx := 9) (n := 0) (r0 := 0) (by decide +kernel) ⟨by decide +kernel, s_119⟩ w_20 w_21 ⟨rfl, rfl⟩ rfl (by decide) (by decide) (by decide) P1 (fun r h' z => ?_)
  obtain ⟨z1, z2⟩ := z
  subst z1; subst z2
  refine q_astore_nr (k0 := 1) (by decide +kernel) rfl (by decide) ?_
  refine q_new (ci := 9) (q := (RX9, TX9, 33)) (idx := 10) (by decide +kernel) rfl w_879 w_880 w_17 (by decide) (by decide) ?_
  rw [z_pushm, z_cntm]
  refine q_dup (by decide +kernel) rfl ?_
  have P2 := z_Pm E
  refine q_callI (M' := q_mt 170) (as := []) (idx := 12) (n := 0) (r0 := 138) (by decide +kernel) ⟨by decide +kernel, s_170⟩ w_881 w_882 ⟨rfl, rfl⟩ rfl (by decide) (by decide) (by decide) P2 (fun r h' z => ?_)
  obtain ⟨z1, z2⟩ := z
  subst z1; subst z2
  refine q_astore_nr (k0 := 2) (by decide +kernel) rfl (by decide) ?_
  refine q_iconst (n := 0) (a := 0) (by decide +kernel) (by decide +kernel) ?_
  refine q_istore_ni (k0 := 3) (by decide +kernel) rfl (by decide) ?_
  refine q_iload_ni (k0 := 3) (i := 3) (a := 0) (by decide +kernel) rfl rfl ?_
  refine q_aload_nq (k0 := 0) (i := 0) (a := 0) (by decide +kernel) rfl rfl ?_
  refine q_slen0 (by decide +kernel) ?_
  refine q_iconst (n := 5) (a := 5) (by decide +kernel) (by decide +kernel) ?_
  refine q_isub (by decide +kernel) ?_
  refine q_icmp_gt (x := .inl 0) (a := 0) (off := 997) (tgt := 1020) (by decide +kernel) (by decide) rfl rfl (fun _ => ?_) (fun z => ?_)
  · refine q_iconst (n := 1) (a := 1) (by decide +kernel) (by decide +kernel) ?_
    exact q_ret (r := some (.inl 1)) ⟨by decide +kernel, Or.inr ⟨.boolean, rfl, by decide +kernel⟩⟩ (by decide) (by decide) rfl
  · have hL : E.2.2.2.2 = 5 := by
      unfold q_bi at z
      omega
    refine q_aload_nq (k0 := 0) (i := 0) (a := 0) (by decide +kernel) rfl rfl ?_
    refine q_iload_ni (k0 := 3) (i := 3) (a := 0) (by decide +kernel) rfl rfl ?_
    refine q_sld0 (by decide +kernel) (by omega) (by decide) ?_
    refine q_bipush (n := 31) (a := 31) (by decide +kernel) (by decide +kernel) ?_
    refine q_conv2 (x' := .inl 31) (y' := .inl (E.2.2.2.1 0)) (fun _ _ z => z) (fun _ _ z => z) ?_
    refine q_iand (by decide +kernel) ?_
    refine q_widen (ce' := 1000) (sl' := 50000) (by decide) (by decide) ?_
    have hn : E.2.2.2.1 0 &&& 31 < 32 := Nat.lt_of_le_of_lt Nat.and_le_right (by decide)
    exact z_all hL hn

