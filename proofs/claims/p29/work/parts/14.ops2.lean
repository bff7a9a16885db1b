section
variable {E : q_E} {tg : Nat → Nat} {mt : Nat → q_M} {M : q_M} {pc pc' : Nat}

noncomputable def o_if_eq (b : Nat) : q_Op := fun B lo st ce sl h ks kj _ _ => e_pop st (fun x st => e_ceq B x 2147483648 (fun B => kj b B lo st ce sl h) (fun B => ks B lo st ce sl h))
theorem o_if_eq_ok {b : Nat} {off : Int} (hd : decode M.2.1 pc = .ok (.ifCond .eq off, 3)) (ht : (pc : Int) + off = (tg b : Int)) : q_OK E tg mt M pc (pc + 3) (o_if_eq b) := by
  intro Q B lo st ce sl h ks kj kr kc hB hs hj hr hc e
  replace e := e_pop_ok e
  obtain ⟨x, st1, rfl, e⟩ := e
  obtain ⟨a, hx, e⟩ := e_ceq_ok hB e
  rcases e with ⟨g1, B', g2, g3⟩ | ⟨g1, B', g2, g3⟩
  · exact q_if_eq hd ht hx (fun _ => hj _ _ _ _ _ _ _ g2 g3) (fun z => absurd (by omega) z)
  · exact q_if_eq hd ht hx (fun z => absurd z (by omega)) (fun _ => hs _ _ _ _ _ _ g2 g3)

noncomputable def o_icmp_eq (b : Nat) : q_Op := fun B lo st ce sl h ks kj _ _ => e_pi B st (fun B y st => e_pop st (fun x st => e_frc (q_bi y) (fun c => e_ceq B x c (fun B => kj b B lo st ce sl h) (fun B => ks B lo st ce sl h))))
theorem o_icmp_eq_ok {b : Nat} {off : Int} (hd : decode M.2.1 pc = .ok (.if_icmp .eq off, 3)) (ht : (pc : Int) + off = (tg b : Int)) : q_OK E tg mt M pc (pc + 3) (o_icmp_eq b) := by
  intro Q B lo st ce sl h ks kj kr kc hB hs hj hr hc e
  replace e := e_pi_ok hB e
  obtain ⟨v, st1, y, B1, rfl, hB1, e, hv⟩ := e
  replace e := e_pop_ok e
  obtain ⟨x, st2, rfl, e⟩ := e
  rw [e_frc_eq] at e
  obtain ⟨a, hx, e⟩ := e_ceq_ok hB1 e
  refine q_conv hv ?_
  rcases e with ⟨g1, B', g2, g3⟩ | ⟨g1, B', g2, g3⟩
  · exact q_icmp_eq hd ht hx (show q_cd E (.inl y) = some y from rfl) (fun _ => hj _ _ _ _ _ _ _ g2 g3) (fun z => absurd (by omega) z)
  · exact q_icmp_eq hd ht hx (show q_cd E (.inl y) = some y from rfl) (fun z => absurd z (by omega)) (fun _ => hs _ _ _ _ _ _ g2 g3)

noncomputable def o_if_ne (b : Nat) : q_Op := fun B lo st ce sl h ks kj _ _ => e_pop st (fun x st => e_ceq B x 2147483648 (fun B => ks B lo st ce sl h) (fun B => kj b B lo st ce sl h))
theorem o_if_ne_ok {b : Nat} {off : Int} (hd : decode M.2.1 pc = .ok (.ifCond .ne off, 3)) (ht : (pc : Int) + off = (tg b : Int)) : q_OK E tg mt M pc (pc + 3) (o_if_ne b) := by
  intro Q B lo st ce sl h ks kj kr kc hB hs hj hr hc e
  replace e := e_pop_ok e
  obtain ⟨x, st1, rfl, e⟩ := e
  obtain ⟨a, hx, e⟩ := e_ceq_ok hB e
  rcases e with ⟨g1, B', g2, g3⟩ | ⟨g1, B', g2, g3⟩
  · exact q_if_ne hd ht hx (fun z => absurd z (by omega)) (fun _ => hs _ _ _ _ _ _ g2 g3)
  · exact q_if_ne hd ht hx (fun _ => hj _ _ _ _ _ _ _ g2 g3) (fun z => absurd (by omega) z)

noncomputable def o_icmp_ne (b : Nat) : q_Op := fun B lo st ce sl h ks kj _ _ => e_pi B st (fun B y st => e_pop st (fun x st => e_frc (q_bi y) (fun c => e_ceq B x c (fun B => ks B lo st ce sl h) (fun B => kj b B lo st ce sl h))))
theorem o_icmp_ne_ok {b : Nat} {off : Int} (hd : decode M.2.1 pc = .ok (.if_icmp .ne off, 3)) (ht : (pc : Int) + off = (tg b : Int)) : q_OK E tg mt M pc (pc + 3) (o_icmp_ne b) := by
  intro Q B lo st ce sl h ks kj kr kc hB hs hj hr hc e
  replace e := e_pi_ok hB e
  obtain ⟨v, st1, y, B1, rfl, hB1, e, hv⟩ := e
  replace e := e_pop_ok e
  obtain ⟨x, st2, rfl, e⟩ := e
  rw [e_frc_eq] at e
  obtain ⟨a, hx, e⟩ := e_ceq_ok hB1 e
  refine q_conv hv ?_
  rcases e with ⟨g1, B', g2, g3⟩ | ⟨g1, B', g2, g3⟩
  · exact q_icmp_ne hd ht hx (show q_cd E (.inl y) = some y from rfl) (fun z => absurd z (by omega)) (fun _ => hs _ _ _ _ _ _ g2 g3)
  · exact q_icmp_ne hd ht hx (show q_cd E (.inl y) = some y from rfl) (fun _ => hj _ _ _ _ _ _ _ g2 g3) (fun z => absurd (by omega) z)

noncomputable def o_if_lt (b : Nat) : q_Op := fun B lo st ce sl h ks kj _ _ => e_pop st (fun x st => e_clt B x 2147483648 (fun B => kj b B lo st ce sl h) (fun B => ks B lo st ce sl h))
theorem o_if_lt_ok {b : Nat} {off : Int} (hd : decode M.2.1 pc = .ok (.ifCond .lt off, 3)) (ht : (pc : Int) + off = (tg b : Int)) : q_OK E tg mt M pc (pc + 3) (o_if_lt b) := by
  intro Q B lo st ce sl h ks kj kr kc hB hs hj hr hc e
  replace e := e_pop_ok e
  obtain ⟨x, st1, rfl, e⟩ := e
  obtain ⟨a, hx, e⟩ := e_clt_ok hB e
  rcases e with ⟨g1, B', g2, g3⟩ | ⟨g1, B', g2, g3⟩
  · exact q_if_lt hd ht hx (fun _ => hj _ _ _ _ _ _ _ g2 g3) (fun z => absurd (by omega) z)
  · exact q_if_lt hd ht hx (fun z => absurd z (by omega)) (fun _ => hs _ _ _ _ _ _ g2 g3)

noncomputable def o_icmp_lt (b : Nat) : q_Op := fun B lo st ce sl h ks kj _ _ => e_pi B st (fun B y st => e_pop st (fun x st => e_frc (q_bi y) (fun c => e_clt B x c (fun B => kj b B lo st ce sl h) (fun B => ks B lo st ce sl h))))
theorem o_icmp_lt_ok {b : Nat} {off : Int} (hd : decode M.2.1 pc = .ok (.if_icmp .lt off, 3)) (ht : (pc : Int) + off = (tg b : Int)) : q_OK E tg mt M pc (pc + 3) (o_icmp_lt b) := by
  intro Q B lo st ce sl h ks kj kr kc hB hs hj hr hc e
  replace e := e_pi_ok hB e
  obtain ⟨v, st1, y, B1, rfl, hB1, e, hv⟩ := e
  replace e := e_pop_ok e
  obtain ⟨x, st2, rfl, e⟩ := e
  rw [e_frc_eq] at e
  obtain ⟨a, hx, e⟩ := e_clt_ok hB1 e
  refine q_conv hv ?_
  rcases e with ⟨g1, B', g2, g3⟩ | ⟨g1, B', g2, g3⟩
  · exact q_icmp_lt hd ht hx (show q_cd E (.inl y) = some y from rfl) (fun _ => hj _ _ _ _ _ _ _ g2 g3) (fun z => absurd (by omega) z)
  · exact q_icmp_lt hd ht hx (show q_cd E (.inl y) = some y from rfl) (fun z => absurd z (by omega)) (fun _ => hs _ _ _ _ _ _ g2 g3)

noncomputable def o_if_ge (b : Nat) : q_Op := fun B lo st ce sl h ks kj _ _ => e_pop st (fun x st => e_clt B x 2147483648 (fun B => ks B lo st ce sl h) (fun B => kj b B lo st ce sl h))
theorem o_if_ge_ok {b : Nat} {off : Int} (hd : decode M.2.1 pc = .ok (.ifCond .ge off, 3)) (ht : (pc : Int) + off = (tg b : Int)) : q_OK E tg mt M pc (pc + 3) (o_if_ge b) := by
  intro Q B lo st ce sl h ks kj kr kc hB hs hj hr hc e
  replace e := e_pop_ok e
  obtain ⟨x, st1, rfl, e⟩ := e
  obtain ⟨a, hx, e⟩ := e_clt_ok hB e
  rcases e with ⟨g1, B', g2, g3⟩ | ⟨g1, B', g2, g3⟩
  · exact q_if_ge hd ht hx (fun z => absurd z (by omega)) (fun _ => hs _ _ _ _ _ _ g2 g3)
  · exact q_if_ge hd ht hx (fun _ => hj _ _ _ _ _ _ _ g2 g3) (fun z => absurd (by omega) z)

noncomputable def o_icmp_ge (b : Nat) : q_Op := fun B lo st ce sl h ks kj _ _ => e_pi B st (fun B y st => e_pop st (fun x st => e_frc (q_bi y) (fun c => e_clt B x c (fun B => ks B lo st ce sl h) (fun B => kj b B lo st ce sl h))))
theorem o_icmp_ge_ok {b : Nat} {off : Int} (hd : decode M.2.1 pc = .ok (.if_icmp .ge off, 3)) (ht : (pc : Int) + off = (tg b : Int)) : q_OK E tg mt M pc (pc + 3) (o_icmp_ge b) := by
  intro Q B lo st ce sl h ks kj kr kc hB hs hj hr hc e
  replace e := e_pi_ok hB e
  obtain ⟨v, st1, y, B1, rfl, hB1, e, hv⟩ := e
  replace e := e_pop_ok e
  obtain ⟨x, st2, rfl, e⟩ := e
  rw [e_frc_eq] at e
  obtain ⟨a, hx, e⟩ := e_clt_ok hB1 e
  refine q_conv hv ?_
  rcases e with ⟨g1, B', g2, g3⟩ | ⟨g1, B', g2, g3⟩
  · exact q_icmp_ge hd ht hx (show q_cd E (.inl y) = some y from rfl) (fun z => absurd z (by omega)) (fun _ => hs _ _ _ _ _ _ g2 g3)
  · exact q_icmp_ge hd ht hx (show q_cd E (.inl y) = some y from rfl) (fun _ => hj _ _ _ _ _ _ _ g2 g3) (fun z => absurd (by omega) z)

noncomputable def o_if_gt (b : Nat) : q_Op := fun B lo st ce sl h ks kj _ _ => e_pop st (fun x st => e_clt B x 2147483649 (fun B => ks B lo st ce sl h) (fun B => kj b B lo st ce sl h))
theorem o_if_gt_ok {b : Nat} {off : Int} (hd : decode M.2.1 pc = .ok (.ifCond .gt off, 3)) (ht : (pc : Int) + off = (tg b : Int)) : q_OK E tg mt M pc (pc + 3) (o_if_gt b) := by
  intro Q B lo st ce sl h ks kj kr kc hB hs hj hr hc e
  replace e := e_pop_ok e
  obtain ⟨x, st1, rfl, e⟩ := e
  obtain ⟨a, hx, e⟩ := e_clt_ok hB e
  rcases e with ⟨g1, B', g2, g3⟩ | ⟨g1, B', g2, g3⟩
  · exact q_if_gt hd ht hx (fun z => absurd z (by omega)) (fun _ => hs _ _ _ _ _ _ g2 g3)
  · exact q_if_gt hd ht hx (fun _ => hj _ _ _ _ _ _ _ g2 g3) (fun z => absurd (by omega) z)

noncomputable def o_icmp_gt (b : Nat) : q_Op := fun B lo st ce sl h ks kj _ _ => e_pi B st (fun B y st => e_pop st (fun x st => e_frc (Nat.succ (q_bi y)) (fun c => e_clt B x c (fun B => ks B lo st ce sl h) (fun B => kj b B lo st ce sl h))))
theorem o_icmp_gt_ok {b : Nat} {off : Int} (hd : decode M.2.1 pc = .ok (.if_icmp .gt off, 3)) (ht : (pc : Int) + off = (tg b : Int)) : q_OK E tg mt M pc (pc + 3) (o_icmp_gt b) := by
  intro Q B lo st ce sl h ks kj kr kc hB hs hj hr hc e
  replace e := e_pi_ok hB e
  obtain ⟨v, st1, y, B1, rfl, hB1, e, hv⟩ := e
  replace e := e_pop_ok e
  obtain ⟨x, st2, rfl, e⟩ := e
  rw [e_frc_eq] at e
  obtain ⟨a, hx, e⟩ := e_clt_ok hB1 e
  refine q_conv hv ?_
  rcases e with ⟨g1, B', g2, g3⟩ | ⟨g1, B', g2, g3⟩
  · exact q_icmp_gt hd ht hx (show q_cd E (.inl y) = some y from rfl) (fun z => absurd z (by omega)) (fun _ => hs _ _ _ _ _ _ g2 g3)
  · exact q_icmp_gt hd ht hx (show q_cd E (.inl y) = some y from rfl) (fun _ => hj _ _ _ _ _ _ _ g2 g3) (fun z => absurd (by omega) z)

noncomputable def o_if_le (b : Nat) : q_Op := fun B lo st ce sl h ks kj _ _ => e_pop st (fun x st => e_clt B x 2147483649 (fun B => kj b B lo st ce sl h) (fun B => ks B lo st ce sl h))
theorem o_if_le_ok {b : Nat} {off : Int} (hd : decode M.2.1 pc = .ok (.ifCond .le off, 3)) (ht : (pc : Int) + off = (tg b : Int)) : q_OK E tg mt M pc (pc + 3) (o_if_le b) := by
  intro Q B lo st ce sl h ks kj kr kc hB hs hj hr hc e
  replace e := e_pop_ok e
  obtain ⟨x, st1, rfl, e⟩ := e
  obtain ⟨a, hx, e⟩ := e_clt_ok hB e
  rcases e with ⟨g1, B', g2, g3⟩ | ⟨g1, B', g2, g3⟩
  · exact q_if_le hd ht hx (fun _ => hj _ _ _ _ _ _ _ g2 g3) (fun z => absurd (by omega) z)
  · exact q_if_le hd ht hx (fun z => absurd z (by omega)) (fun _ => hs _ _ _ _ _ _ g2 g3)

noncomputable def o_icmp_le (b : Nat) : q_Op := fun B lo st ce sl h ks kj _ _ => e_pi B st (fun B y st => e_pop st (fun x st => e_frc (Nat.succ (q_bi y)) (fun c => e_clt B x c (fun B => kj b B lo st ce sl h) (fun B => ks B lo st ce sl h))))
theorem o_icmp_le_ok {b : Nat} {off : Int} (hd : decode M.2.1 pc = .ok (.if_icmp .le off, 3)) (ht : (pc : Int) + off = (tg b : Int)) : q_OK E tg mt M pc (pc + 3) (o_icmp_le b) := by
  intro Q B lo st ce sl h ks kj kr kc hB hs hj hr hc e
  replace e := e_pi_ok hB e
  obtain ⟨v, st1, y, B1, rfl, hB1, e, hv⟩ := e
  replace e := e_pop_ok e
  obtain ⟨x, st2, rfl, e⟩ := e
  rw [e_frc_eq] at e
  obtain ⟨a, hx, e⟩ := e_clt_ok hB1 e
  refine q_conv hv ?_
  rcases e with ⟨g1, B', g2, g3⟩ | ⟨g1, B', g2, g3⟩
  · exact q_icmp_le hd ht hx (show q_cd E (.inl y) = some y from rfl) (fun _ => hj _ _ _ _ _ _ _ g2 g3) (fun z => absurd (by omega) z)
  · exact q_icmp_le hd ht hx (show q_cd E (.inl y) = some y from rfl) (fun z => absurd z (by omega)) (fun _ => hs _ _ _ _ _ _ g2 g3)

/-- lo0: the table's first number, moved up by half; bs: the blocks; d: the block of the rest -/
noncomputable def o_tsw (lo0 n d : Nat) (bs : List Nat) : q_Op := fun B lo st ce sl h _ kj _ _ => e_pop st (fun x st => e_clt B x lo0 (fun B => kj d B lo st ce sl h) (fun B => e_clt B x (lo0 + n) (fun B => e_int B x (fun B a => e_nth bs (q_bi a - lo0) (fun b => kj b B lo st ce sl h))) (fun B => kj d B lo st ce sl h)))
theorem o_tsw_ok {lo0 n d len : Nat} {bs : List Nat} {dflt l0 h0 : Int} {offs : Array Int} (hd : decode M.2.1 pc = .ok (.tableswitch dflt l0 h0 offs, len)) (hl : l0 = (lo0 : Int) - 2147483648) (hh : h0 = (lo0 : Int) + n - 1 - 2147483648) (ht : (pc : Int) + dflt = (tg d : Int)) (hb : ∀ (i b : Nat), bs[i]? = some b → ∃ off : Int, offs[i]? = some off ∧ (pc : Int) + off = (tg b : Int)) : q_OK E tg mt M pc pc' (o_tsw lo0 n d bs) := by
  intro Q B lo st ce sl h ks kj kr kc hB hs hj hr hc e
  replace e := e_pop_ok e
  obtain ⟨x, st1, rfl, e⟩ := e
  obtain ⟨a, hx, e⟩ := e_clt_ok hB e
  rcases e with ⟨g1, B', g2, g3⟩ | ⟨g1, B', g2, g3⟩
  · exact q_tswOut hd hx (Or.inl (by omega)) ht (hj _ _ _ _ _ _ _ g2 g3)
  · obtain ⟨a', hx', e⟩ := e_clt_ok g2 g3
    rw [hx] at hx'
    cases hx'
    rcases e with ⟨k1, B2, k2, k3⟩ | ⟨k1, B2, k2, k3⟩
    · obtain ⟨c, B3, k4, k5, k6⟩ := e_int_ok k2 k3
      replace k5 := e_nth_ok k5
      obtain ⟨b, k7, k8⟩ := k5
      obtain ⟨off, k9, k10⟩ := hb _ _ k7
      have hc : q_bi c = q_bi a := by
        have w1 : q_vr E [] x (.int (nI a)) := by
          match x, hx with
          | .inl n, hx => cases hx; rfl
          | .inr (.inr (.inr (.inl k))), hx => cases hx; rfl
        have w2 : Value.int (nI a) = .int (nI c) := k6 [] _ w1
        have w3 : nI a = nI c := by injection w2
        exact (q_eq.mp w3).symm
      rw [hc] at k9
      exact q_tswIn (i := q_bi a - lo0) hd hx (by omega) (by omega) k9 k10 (hj _ _ _ _ _ _ _ k4 k8)
    · exact q_tswOut hd hx (Or.inr (by omega)) ht (hj _ _ _ _ _ _ _ k2 k3)

noncomputable def o_getI (t k : Nat) : q_Op := fun B lo st ce sl h ks _ _ _ => e_pop st (fun v st => e_isR v (fun r => e_cel h r (fun t' _ d => cond (Nat.beq t' t) (e_frc (q_rd d k) (fun m => ks B lo (.inl m :: st) ce sl h)) false)))
theorem o_getI_ok {ci k idx : Nat} (hd : decode M.2.1 pc = .ok (.getfield idx, 3)) (hf : q_fl M idx ci k) (hi : q_isr (q_ty ci k) = false) : q_OK E tg mt M pc (pc + 3) (o_getI (ci + 5) k) := by
  intro Q B lo st ce sl h ks kj kr kc hB hs hj hr hc e
  replace e := e_pop_ok e
  obtain ⟨v, st1, rfl, e⟩ := e
  replace e := e_isR_ok e
  obtain ⟨r, rfl, e⟩ := e
  replace e := e_cel_ok e
  obtain ⟨t, n, d, hc', e⟩ := e
  obtain ⟨e0, e⟩ := e_cnd e
  rw [e_frc_eq] at e
  rw [e_eq e0] at hc'
  exact q_getI hd hf hi hc' (hs _ _ _ _ _ _ hB e)
noncomputable def o_getR (t k : Nat) : q_Op := fun B lo st ce sl h ks _ _ _ => e_pop st (fun v st => e_isR v (fun r => e_cel h r (fun t' _ d => cond (Nat.beq t' t) (Nat.rec (motive := fun _ => Bool) false (fun m _ => ks B lo (.inr (.inl m) :: st) ce sl h) (q_rd d k)) false)))
theorem o_getR_ok {ci k idx : Nat} (hd : decode M.2.1 pc = .ok (.getfield idx, 3)) (hf : q_fl M idx ci k) (hi : q_isr (q_ty ci k) = true) : q_OK E tg mt M pc (pc + 3) (o_getR (ci + 5) k) := by
  intro Q B lo st ce sl h ks kj kr kc hB hs hj hr hc e
  replace e := e_pop_ok e
  obtain ⟨v, st1, rfl, e⟩ := e
  replace e := e_isR_ok e
  obtain ⟨r, rfl, e⟩ := e
  replace e := e_cel_ok e
  obtain ⟨t, n, d, hc', e⟩ := e
  obtain ⟨e0, e⟩ := e_cnd e
  rw [e_eq e0] at hc'
  cases hr' : q_rd d k with
  | zero => rw [hr'] at e; cases e
  | succ m =>
    rw [hr'] at e
    exact q_getR hd hf hi hc' hr' (hs _ _ _ _ _ _ hB e)
def q_fin (M : q_M) (idx ci k : Nat) : Prop := ∀ q : vw_C, q_cl[ci]? = some q → (q.2.1 k).2.2.2 = false ∨ ((q.2.1 k).2.2.2 = true ∧ M.1.name = "<init>" ∧ (q.2.1 k).1 = M.1.cls ∧ Cond.fieldLink M.1.cls idx (q.2.1 k).1 (q.2.1 k).2.1 (q.2.1 k).2.2.1 ∈ q_gd)
/-- an int into a field; of a boolean's: below 2 -/
noncomputable def o_putI (t k top : Nat) : q_Op := fun B lo st ce sl h ks _ _ _ => e_pi B st (fun B a st => e_pop st (fun v st => e_isR v (fun r => e_cel h r (fun t' n d => cond (and (Nat.beq t' t) (Nat.ble (Nat.succ a) top)) (e_put h r t' n (q_wr d k a) (fun h => ks B lo st ce sl h)) false))))
theorem o_putI_ok {ci k idx top : Nat} (hd : decode M.2.1 pc = .ok (.putfield idx, 3)) (hf : q_fl M idx ci k) (hfin : q_fin M idx ci k) (hi : (q_ty ci k = .int ∧ top = 18446744073709551616) ∨ (q_ty ci k = .boolean ∧ top = 2)) : q_OK E tg mt M pc (pc + 3) (o_putI (ci + 5) k top) := by
  intro Q B lo st ce sl h ks kj kr kc hB hs hj hr hc e
  replace e := e_pi_ok hB e
  obtain ⟨w, st1, a, B1, rfl, hB1, e, hw⟩ := e
  replace e := e_pop_ok e
  obtain ⟨v, st2, rfl, e⟩ := e
  replace e := e_isR_ok e
  obtain ⟨r, rfl, e⟩ := e
  replace e := e_cel_ok e
  obtain ⟨t, n, d, hc', e⟩ := e
  obtain ⟨e0, e⟩ := e_cnd e
  obtain ⟨e0, e1⟩ := e_and e0
  replace e := e_put_ok (k := fun h => ks B1 lo st2 ce sl h) e
  have e1 := e_le e1
  rw [e_eq e0] at hc' e
  refine q_conv hw (q_putf hd hf hc' ?_ hfin ?_ (hs _ _ _ _ _ _ hB1 e))
  · rcases hi with ⟨-, z⟩ | ⟨-, z⟩ <;> omega
  · intro ad v z
    have z : v = .int (nI a) := z
    subst z
    rcases hi with ⟨z, -⟩ | ⟨z, z2⟩
    · rw [z]; exact ⟨rfl, rfl, rfl⟩
    · rw [z]; exact ⟨rfl, (q_nar_bool (by omega)).2⟩
noncomputable def o_putR (t k : Nat) : q_Op := fun B lo st ce sl h ks _ _ _ => e_pop st (fun w st => e_isR w (fun a => e_pop st (fun v st => e_isR v (fun r => e_cel h r (fun t' n d => cond (and (Nat.beq t' t) (Nat.ble (a + 2) 18446744073709551616)) (e_put h r t' n (q_wr d k (a + 1)) (fun h => ks B lo st ce sl h)) false)))))
theorem o_putR_ok {ci k idx : Nat} (hd : decode M.2.1 pc = .ok (.putfield idx, 3)) (hf : q_fl M idx ci k) (hfin : q_fin M idx ci k) (hi : (∃ ty, q_ty ci k = .array ty) ∨ (∃ n, q_ty ci k = .object n)) : q_OK E tg mt M pc (pc + 3) (o_putR (ci + 5) k) := by
  intro Q B lo st ce sl h ks kj kr kc hB hs hj hr hc e
  replace e := e_pop_ok e
  obtain ⟨w, st1, rfl, e⟩ := e
  replace e := e_isR_ok e
  obtain ⟨a, rfl, e⟩ := e
  replace e := e_pop_ok e
  obtain ⟨v, st2, rfl, e⟩ := e
  replace e := e_isR_ok e
  obtain ⟨r, rfl, e⟩ := e
  replace e := e_cel_ok e
  obtain ⟨t, n, d, hc', e⟩ := e
  obtain ⟨e0, e⟩ := e_cnd e
  obtain ⟨e0, e1⟩ := e_and e0
  replace e := e_put_ok (k := fun h => ks B lo st2 ce sl h) e
  have e1 := e_le e1
  rw [e_eq e0] at hc' e
  refine q_putf hd hf hc' (by omega) hfin ?_ (hs _ _ _ _ _ _ hB e)
  intro ad v z
  obtain ⟨b, z1, z2⟩ := z
  subst z2
  rcases hi with ⟨ty, z⟩ | ⟨ty, z⟩
  · rw [z]; exact ⟨Or.inr ⟨a, b, rfl, z1, rfl⟩, rfl, rfl⟩
  · rw [z]; exact ⟨Or.inr ⟨a, b, rfl, z1, rfl⟩, rfl, rfl⟩

noncomputable def o_ald (t : Nat) : q_Op := fun B lo st ce sl h ks _ _ _ => e_pi B st (fun B i st => e_pop st (fun v st => e_isR v (fun r => e_cel h r (fun t' n d => cond (and (Nat.beq t' t) (and (Nat.ble (Nat.succ i) n) (Nat.ble (Nat.succ i) 2147483648))) (e_frc (q_rd d i) (fun m => ks B lo (.inl m :: st) ce sl h)) false))))
theorem o_ald_ok {t : Nat} {ins : Instr} (hi : (t = 0 ∧ ins = .iaload) ∨ (t = 2 ∧ ins = .caload) ∨ (t = 3 ∧ ins = .baload)) (hd : decode M.2.1 pc = .ok (ins, 1)) : q_OK E tg mt M pc (pc + 1) (o_ald t) := by
  intro Q B lo st ce sl h ks kj kr kc hB hs hj hr hc e
  replace e := e_pi_ok hB e
  obtain ⟨w, st1, i, B1, rfl, hB1, e, hw⟩ := e
  replace e := e_pop_ok e
  obtain ⟨v, st2, rfl, e⟩ := e
  refine q_conv hw ?_
  replace e := e_isR_ok e
  obtain ⟨r, rfl, e⟩ := e
  replace e := e_cel_ok e
  obtain ⟨t', n, d, hc', e⟩ := e
  obtain ⟨e0, e⟩ := e_cnd e
  obtain ⟨e0, e1⟩ := e_and e0
  obtain ⟨e1, e2⟩ := e_and e1
  rw [e_frc_eq] at e
  rw [e_eq e0] at hc'
  exact q_ald hd hi hc' (e_le e1) (e_le e2) (hs _ _ _ _ _ _ hB1 e)
noncomputable def o_lald : q_Op := fun B lo st ce sl h ks _ _ _ => e_pi B st (fun B i st => e_pop st (fun v st => e_ra v (fun r => e_cel h r (fun t n d => cond (and (Nat.beq t 1) (and (Nat.ble (Nat.succ i) n) (Nat.ble (Nat.succ i) 2147483648))) (e_frc (q_rd d i) (fun m => ks B lo (.inr (.inr (.inl m)) :: st) ce sl h)) false))
  (fun q => cond (and (Nat.ble (Nat.succ i) 6) (Nat.beq q 2)) (e_frc (q_whe i) (fun m => ks B lo (.inr (.inr (.inl m)) :: st) ce sl h)) false)))
theorem o_lald_ok (hd : decode M.2.1 pc = .ok (.laload, 1)) : q_OK E tg mt M pc (pc + 1) o_lald := by
  intro Q B lo st ce sl h ks kj kr kc hB hs hj hr hc e
  replace e := e_pi_ok hB e
  obtain ⟨w, st1, i, B1, rfl, hB1, e, hw⟩ := e
  replace e := e_pop_ok e
  obtain ⟨v, st2, rfl, e⟩ := e
  refine q_conv hw ?_
  replace e := e_ra_ok e
  rcases e with ⟨r, rfl, e⟩ | ⟨q, rfl, e⟩
  · replace e := e_cel_ok e
    obtain ⟨t, n, d, hc', e⟩ := e
    obtain ⟨e0, e⟩ := e_cnd e
    obtain ⟨e0, e1⟩ := e_and e0
    obtain ⟨e1, e2⟩ := e_and e1
    rw [e_frc_eq] at e
    rw [e_eq e0] at hc'
    exact q_ald_L hd hc' (e_le e1) (e_le e2) (hs _ _ _ _ _ _ hB1 e)
  · obtain ⟨e0, e⟩ := e_cnd e
    obtain ⟨e0, e1⟩ := e_and e0
    rw [e_frc_eq] at e
    rw [e_eq e1]
    exact q_sld2 hd (e_le e0) (hs _ _ _ _ _ _ hB1 e)
noncomputable def o_aald : q_Op := fun B lo st ce sl h ks _ _ _ => e_pi B st (fun B i st => e_pop st (fun v st => e_isR v (fun r => e_cel h r (fun t n d => cond (and (Nat.beq t 4) (and (Nat.ble (Nat.succ i) n) (Nat.ble (Nat.succ i) 2147483648))) (Nat.rec (motive := fun _ => Bool) false (fun m _ => ks B lo (.inr (.inl m) :: st) ce sl h) (q_rd d i)) false))))
theorem o_aald_ok (hd : decode M.2.1 pc = .ok (.aaload, 1)) : q_OK E tg mt M pc (pc + 1) o_aald := by
  intro Q B lo st ce sl h ks kj kr kc hB hs hj hr hc e
  replace e := e_pi_ok hB e
  obtain ⟨w, st1, i, B1, rfl, hB1, e, hw⟩ := e
  replace e := e_pop_ok e
  obtain ⟨v, st2, rfl, e⟩ := e
  refine q_conv hw ?_
  replace e := e_isR_ok e
  obtain ⟨r, rfl, e⟩ := e
  replace e := e_cel_ok e
  obtain ⟨t', n, d, hc', e⟩ := e
  obtain ⟨e0, e⟩ := e_cnd e
  obtain ⟨e0, e1⟩ := e_and e0
  obtain ⟨e1, e2⟩ := e_and e1
  rw [e_eq e0] at hc'
  cases hr' : q_rd d i with
  | zero => rw [hr'] at e; cases e
  | succ m =>
    rw [hr'] at e
    exact q_ald_R hd hc' (e_le e1) (e_le e2) hr' (hs _ _ _ _ _ _ hB1 e)
noncomputable def o_ast (t top : Nat) : q_Op := fun B lo st ce sl h ks _ _ _ => e_pi B st (fun B a st => e_pi B st (fun B i st => e_pop st (fun v st => e_isR v (fun r => e_cel h r (fun t' n d => cond (and (Nat.beq t' t) (and (Nat.ble (Nat.succ i) n) (and (Nat.ble (Nat.succ i) 2147483648) (Nat.ble (Nat.succ a) top)))) (e_put h r t' n (q_wr d i a) (fun h => ks B lo st ce sl h)) false)))))
theorem o_ast_ok {t top : Nat} {ins : Instr} (hi : (t = 0 ∧ ins = .iastore ∧ top = 18446744073709551616) ∨ (t = 2 ∧ ins = .castore ∧ top = 65536) ∨ (t = 3 ∧ ins = .bastore ∧ top = 2)) (hd : decode M.2.1 pc = .ok (ins, 1)) : q_OK E tg mt M pc (pc + 1) (o_ast t top) := by
  intro Q B lo st ce sl h ks kj kr kc hB hs hj hr hc e
  replace e := e_pi_ok hB e
  obtain ⟨w, st1, a, B1, rfl, hB1, e, hw⟩ := e
  replace e := e_pi_ok hB1 e
  obtain ⟨x, st2, i, B2, rfl, hB2, e, hx⟩ := e
  replace e := e_pop_ok e
  obtain ⟨v, st3, rfl, e⟩ := e
  refine q_conv2 hw hx ?_
  replace e := e_isR_ok e
  obtain ⟨r, rfl, e⟩ := e
  replace e := e_cel_ok e
  obtain ⟨t', n, d, hc', e⟩ := e
  obtain ⟨e0, e⟩ := e_cnd e
  obtain ⟨e0, e1⟩ := e_and e0
  obtain ⟨e1, e2⟩ := e_and e1
  obtain ⟨e2, e3⟩ := e_and e2
  replace e := e_put_ok (k := fun h => ks B2 lo st3 ce sl h) e
  have e3 := e_le e3
  rw [e_eq e0] at hc' e
  have hm : a % 18446744073709551616 = a := Nat.mod_eq_of_lt (by rcases hi with ⟨-, -, z⟩ | ⟨-, -, z⟩ | ⟨-, -, z⟩ <;> omega)
  refine q_ast hd ?_ hc' (e_le e1) (e_le e2) (by rw [hm]; exact hs _ _ _ _ _ _ hB2 e)
  rcases hi with ⟨z, z2, -⟩ | ⟨z, z2, z3⟩ | ⟨z, z2, z3⟩
  · exact Or.inl ⟨z, z2⟩
  · exact Or.inr (Or.inl ⟨z, z2, by omega⟩)
  · exact Or.inr (Or.inr ⟨z, z2, by omega⟩)
noncomputable def o_last : q_Op := fun B lo st ce sl h ks _ _ _ => e_pop st (fun w st => e_isL w (fun a => e_pi B st (fun B i st => e_pop st (fun v st => e_isR v (fun r => e_cel h r (fun t' n d => cond (and (Nat.beq t' 1) (and (Nat.ble (Nat.succ i) n) (Nat.ble (Nat.succ i) 2147483648))) (e_put h r t' n (q_wr d i (a % 18446744073709551616)) (fun h => ks B lo st ce sl h)) false))))))
theorem o_last_ok (hd : decode M.2.1 pc = .ok (.lastore, 1)) : q_OK E tg mt M pc (pc + 1) o_last := by
  intro Q B lo st ce sl h ks kj kr kc hB hs hj hr hc e
  replace e := e_pop_ok e
  obtain ⟨w, st1, rfl, e⟩ := e
  replace e := e_isL_ok e
  obtain ⟨a, rfl, e⟩ := e
  replace e := e_pi_ok hB e
  obtain ⟨x, st2, i, B2, rfl, hB2, e, hx⟩ := e
  replace e := e_pop_ok e
  obtain ⟨v, st3, rfl, e⟩ := e
  refine q_conv2 (x' := .inr (.inr (.inl a))) (fun _ _ z => z) hx ?_
  replace e := e_isR_ok e
  obtain ⟨r, rfl, e⟩ := e
  replace e := e_cel_ok e
  obtain ⟨t', n, d, hc', e⟩ := e
  obtain ⟨e0, e⟩ := e_cnd e
  obtain ⟨e0, e1⟩ := e_and e0
  obtain ⟨e1, e2⟩ := e_and e1
  replace e := e_put_ok (k := fun h => ks B2 lo st3 ce sl h) e
  rw [e_eq e0] at hc' e
  exact q_ast_L hd hc' (e_le e1) (e_le e2) (hs _ _ _ _ _ _ hB2 e)
noncomputable def o_aast : q_Op := fun B lo st ce sl h ks _ _ _ => e_pop st (fun w st => e_isR w (fun a => e_cel h a (fun ta _ _ => e_pi B st (fun B i st => e_pop st (fun v st => e_isR v (fun r => e_cel h r (fun t' n d => cond (and (Nat.beq ta 7) (and (Nat.beq t' 4) (and (Nat.ble (Nat.succ i) n) (and (Nat.ble (Nat.succ i) 2147483648) (Nat.ble (a + 2) 18446744073709551616))))) (e_put h r t' n (q_wr d i (a + 1)) (fun h => ks B lo st ce sl h)) false)))))))
theorem o_aast_ok (hd : decode M.2.1 pc = .ok (.aastore, 1)) : q_OK E tg mt M pc (pc + 1) o_aast := by
  intro Q B lo st ce sl h ks kj kr kc hB hs hj hr hc e
  replace e := e_pop_ok e
  obtain ⟨w, st1, rfl, e⟩ := e
  replace e := e_isR_ok e
  obtain ⟨a, rfl, e⟩ := e
  replace e := e_cel_ok e
  obtain ⟨ta, na, da, hca, e⟩ := e
  replace e := e_pi_ok hB e
  obtain ⟨x, st2, i, B2, rfl, hB2, e, hx⟩ := e
  replace e := e_pop_ok e
  obtain ⟨v, st3, rfl, e⟩ := e
  refine q_conv2 (x' := .inr (.inl a)) (fun _ _ z => z) hx ?_
  replace e := e_isR_ok e
  obtain ⟨r, rfl, e⟩ := e
  replace e := e_cel_ok e
  obtain ⟨t', n, d, hc', e⟩ := e
  obtain ⟨e0, e⟩ := e_cnd e
  obtain ⟨e00, e0⟩ := e_and e0
  obtain ⟨e0, e1⟩ := e_and e0
  obtain ⟨e1, e2⟩ := e_and e1
  obtain ⟨e2, e3⟩ := e_and e2
  replace e := e_put_ok (k := fun h => ks B2 lo st3 ce sl h) e
  have e3 := e_le e3
  rw [e_eq e0] at hc' e
  rw [e_eq e00] at hca
  exact q_ast_R hd hc' hca (e_le e1) (e_le e2) (by omega) (hs _ _ _ _ _ _ hB2 e)
end
