section
variable {E : q_E} {tg : Nat → Nat} {mt : Nat → q_M} {M : q_M} {pc pc' : Nat}
noncomputable def o_new (t N cR sR : Nat) : q_Op := fun B lo st ce sl h ks _ _ _ => cond (and (Nat.ble (Nat.succ ce) cR) (Nat.ble (sl + N) sR)) (e_frc (q_cnt h) (fun r => e_push h (t, N, 0) (fun h => e_frc (ce + 1) (fun ce => e_frc (sl + N) (fun sl => ks B lo (.inr (.inl r) :: st) ce sl h))))) false
theorem o_new_ok {idx ci N cR sR : Nat} {q : vw_C} (hd : decode M.2.1 pc = .ok (.new idx, 3)) (hq : q_cl[ci]? = some q) (hN : q.2.2 = N) (hw : Cond.classLink M.1.cls idx q.1 ∈ q_gd) (hi : Cond.instantiable q.1 q.2.2 ∈ q_gd) (hn : Cond.initialized q.1 ∈ q_gd) (hcR : M.2.2.2.2.cells = cR) (hsR : M.2.2.2.2.slots = sR) : q_OK E tg mt M pc (pc + 3) (o_new (ci + 5) N cR sR) := by
  intro Q B lo st ce sl h ks kj kr kc hB hs hj hr hc e
  subst hN
  replace e := e_cnd e
  obtain ⟨e0, e⟩ := e
  replace e0 := e_and e0
  obtain ⟨e0, e1⟩ := e0
  rw [e_frc_eq] at e
  replace e := e_push_ok (k := fun h' => e_frc (ce + 1) (fun ce => e_frc (sl + q.2.2) (fun sl => ks B lo (.inr (.inl (q_cnt h)) :: st) ce sl h'))) e
  rw [e_frc_eq, e_frc_eq] at e
  exact q_new hd hq hw hi hn (by rw [hcR]; exact e_le e0) (by rw [hsR]; exact e_le e1) (hs _ _ _ _ _ _ hB e)
noncomputable def o_newa (t cR sR : Nat) : q_Op := fun B lo st ce sl h ks _ _ _ => e_pi B st (fun B n st => cond (and (Nat.ble (Nat.succ n) 1000000) (and (Nat.ble (Nat.succ ce) cR) (Nat.ble (sl + n) sR))) (e_frc (q_cnt h) (fun r => e_push h (t, n, 0) (fun h => e_frc (ce + 1) (fun ce => e_frc (sl + n) (fun sl => ks B lo (.inr (.inl r) :: st) ce sl h))))) false)
theorem o_newa_ok {t cR sR : Nat} (ht : t < 4) (hd : decode M.2.1 pc = .ok (.newarray (q_at t), 2)) (hw : Cond.arrayClass (newarray.typeOf (q_at t)) ∈ q_gd) (hcR : M.2.2.2.2.cells = cR) (hsR : M.2.2.2.2.slots = sR) : q_OK E tg mt M pc (pc + 2) (o_newa t cR sR) := by
  intro Q B lo st ce sl h ks kj kr kc hB hs hj hr hc e
  replace e := e_pi_ok hB e
  obtain ⟨w, st1, n, B1, rfl, hB1, e, hw'⟩ := e
  replace e := e_cnd e
  obtain ⟨e0, e⟩ := e
  replace e0 := e_and e0
  obtain ⟨e0, e1⟩ := e0
  replace e1 := e_and e1
  obtain ⟨e1, e2⟩ := e1
  rw [e_frc_eq] at e
  replace e := e_push_ok (k := fun h' => e_frc (ce + 1) (fun ce => e_frc (sl + n) (fun sl => ks B1 lo (.inr (.inl (q_cnt h)) :: st1) ce sl h'))) e
  rw [e_frc_eq, e_frc_eq] at e
  exact q_conv hw' (q_newa ht hd hw (e_le e0) (by rw [hcR]; exact e_le e1) (by rw [hsR]; exact e_le e2) (hs _ _ _ _ _ _ hB1 e))
theorem o_newq_ok {idx cR sR : Nat} (hd : decode M.2.1 pc = .ok (.anewarray idx, 3)) (hw : Cond.classLink M.1.cls idx RX2 ∈ q_gd) (hcR : M.2.2.2.2.cells = cR) (hsR : M.2.2.2.2.slots = sR) : q_OK E tg mt M pc (pc + 3) (o_newa 4 cR sR) := by
  intro Q B lo st ce sl h ks kj kr kc hB hs hj hr hc e
  replace e := e_pi_ok hB e
  obtain ⟨w, st1, n, B1, rfl, hB1, e, hw'⟩ := e
  replace e := e_cnd e
  obtain ⟨e0, e⟩ := e
  replace e0 := e_and e0
  obtain ⟨e0, e1⟩ := e0
  replace e1 := e_and e1
  obtain ⟨e1, e2⟩ := e1
  rw [e_frc_eq] at e
  replace e := e_push_ok (k := fun h' => e_frc (ce + 1) (fun ce => e_frc (sl + n) (fun sl => ks B1 lo (.inr (.inl (q_cnt h)) :: st1) ce sl h'))) e
  rw [e_frc_eq, e_frc_eq] at e
  exact q_conv hw' (q_newq hd hw (e_le e0) (by rw [hcR]; exact e_le e1) (by rw [hsR]; exact e_le e2) (hs _ _ _ _ _ _ hB1 e))
noncomputable def o_objI (lR : Nat) : q_Op := fun B lo st ce sl h ks _ _ _ => e_pop st (fun v st => e_isR v (fun _ => cond (Nat.ble (q_wd st + 12) lR) (ks B lo st ce sl h) false))
theorem o_objI_ok {idx lR : Nat} (hd : decode M.2.1 pc = .ok (.invokespecial idx, 3)) (hw : Cond.methodLink M.1.cls idx Lib.objectInit ∈ q_gd) (hf : 1 ≤ M.2.2.2.2.frames) (hlR : M.2.2.2.2.locals = lR) (hg : Cond.instanceMethod Lib.objectInit ∈ q_gd ∧ Cond.code Lib.objectInit ⟨#[0xb1]⟩ 1 none ∈ q_gd) : q_OK E tg mt M pc (pc + 3) (o_objI lR) := by
  intro Q B lo st ce sl h ks kj kr kc hB hs hj hr hc e
  replace e := e_pop_ok e
  obtain ⟨v, st1, rfl, e⟩ := e
  replace e := e_isR_ok e
  obtain ⟨r, rfl, e⟩ := e
  replace e := e_cnd e
  obtain ⟨e0, e⟩ := e
  exact q_objInit hd hw hf (by rw [hlR]; exact e_le e0) hg (hs _ _ _ _ _ _ hB e)
noncomputable def o_copy (lR : Nat) : q_Op := fun B lo st ce sl h ks _ _ _ => e_pi B st (fun B n st => e_pi B st (fun B dp st => e_pop st (fun v' st => e_isR v' (fun r' => e_pi B st (fun B sp st => e_pop st (fun v st => e_isR v (fun r => e_cel h r (fun t0 n0 d0 => e_cel h r' (fun t1 n1 d1 => cond (and (and (Nat.beq t0 0) (Nat.beq t1 0)) (and (and (Nat.ble (sp + n) n0) (Nat.ble (dp + n) n1)) (and (Nat.ble (q_wd st + 18) lR) (and (Nat.ble (Nat.succ sp) 2147483648) (and (Nat.ble (Nat.succ dp) 2147483648) (Nat.ble (Nat.succ n) 2147483648)))))) (e_put h r' 0 n1 (q_cp d1 d0 sp dp n) (fun h => ks B lo st ce sl h)) false)))))))))
theorem o_copy_ok {idx lR : Nat} (hd : decode M.2.1 pc = .ok (.invokestatic idx, 3)) (hw : Cond.methodLink M.1.cls idx arraycopyName ∈ q_gd) (hg : Cond.native arraycopyName ∈ q_gd ∧ Cond.static arraycopyName ∈ q_gd ∧ Cond.initialized "java/lang/System" ∈ q_gd) (hf : 1 ≤ M.2.2.2.2.frames) (hlR : M.2.2.2.2.locals = lR) : q_OK E tg mt M pc (pc + 3) (o_copy lR) := by
  intro Q B lo st ce sl h ks kj kr kc hB hs hj hr hc e
  replace e := e_pi_ok hB e
  obtain ⟨v1, st1, n, B1, rfl, hB1, e, w1⟩ := e
  replace e := e_pi_ok hB1 e
  obtain ⟨v2, st2, dp, B2, rfl, hB2, e, w2⟩ := e
  replace e := e_pop_ok e
  obtain ⟨v3, st3, rfl, e⟩ := e
  replace e := e_isR_ok e
  obtain ⟨r', rfl, e⟩ := e
  replace e := e_pi_ok hB2 e
  obtain ⟨v4, st4, sp, B4, rfl, hB4, e, w4⟩ := e
  replace e := e_pop_ok e
  obtain ⟨v5, st5, rfl, e⟩ := e
  replace e := e_isR_ok e
  obtain ⟨r, rfl, e⟩ := e
  replace e := e_cel_ok e
  obtain ⟨t0, n0, d0, c0, e⟩ := e
  replace e := e_cel_ok e
  obtain ⟨t1, n1, d1, c1, e⟩ := e
  replace e := e_cnd e
  obtain ⟨e0, e⟩ := e
  replace e0 := e_and e0
  obtain ⟨e0, e1⟩ := e0
  replace e0 := e_and e0
  obtain ⟨e00, e01⟩ := e0
  replace e1 := e_and e1
  obtain ⟨e1, e2⟩ := e1
  replace e1 := e_and e1
  obtain ⟨e10, e11⟩ := e1
  replace e2 := e_and e2
  obtain ⟨e2, e3⟩ := e2
  replace e3 := e_and e3
  obtain ⟨e3, e4⟩ := e3
  replace e4 := e_and e4
  obtain ⟨e4, e5⟩ := e4
  replace e := e_put_ok (k := fun h => ks B4 lo st5 ce sl h) e
  rw [e_eq e00] at c0
  rw [e_eq e01] at c1
  have kz := q_copy hd hw hg hf (by rw [hlR]; exact e_le e2) c0 c1 (e_le e10) (e_le e11) (e_le e3) (e_le e4) (e_le e5) (hs _ _ _ _ _ _ hB4 e)
  refine q_conv2 w1 w2 ?_
  intro p e R s m args below meth c A ad0 Z H locs ls stv C T Rt
  obtain ⟨ad, tys, ws, lv, h1, h2, h3, h4, h5⟩ := T
  match stv, h4 with
  | a1 :: a2 :: a3 :: a4 :: stv, ⟨g1, g2, g3, g4, h4⟩ => exact kz.go C ⟨ad, tys, ws, lv, h1, h2, h3, ⟨g1, g2, g3, w4 _ _ g4, h4⟩, h5⟩ Rt
noncomputable def o_mm (f : Nat → Nat → Nat) (lR cR sR : Nat) : q_Op := fun B lo st ce sl h ks _ _ _ => e_pi B st (fun B b st => e_pi B st (fun B a st => cond (and (Nat.ble (q_wd st + 13) lR) (and (Nat.ble ce cR) (Nat.ble sl sR))) (e_frc (f a b) (fun m => ks B lo (.inl m :: st) ce sl h)) false))
def q_fmax (a b : Nat) : Nat := cond (Nat.ble (Nat.succ (q_bi a)) (q_bi b)) b a
def q_fmin (a b : Nat) : Nat := cond (Nat.ble (Nat.succ (q_bi b)) (q_bi a)) b a
theorem q_fmax_eq (a b : Nat) : q_fmax a b = if q_bi a < q_bi b then b else a := by
  unfold q_fmax
  cases hb : Nat.ble (Nat.succ (q_bi a)) (q_bi b) with
  | true => rw [if_pos (show q_bi a < q_bi b from e_le hb)]; rfl
  | false => rw [if_neg (show ¬ q_bi a < q_bi b from e_nle hb)]; rfl
theorem q_fmin_eq (a b : Nat) : q_fmin a b = if q_bi b < q_bi a then b else a := by
  unfold q_fmin
  cases hb : Nat.ble (Nat.succ (q_bi b)) (q_bi a) with
  | true => rw [if_pos (show q_bi b < q_bi a from e_le hb)]; rfl
  | false => rw [if_neg (show ¬ q_bi b < q_bi a from e_nle hb)]; rfl

theorem o_max_ok {idx lR cR sR : Nat} (hd : decode M.2.1 pc = .ok (.invokestatic idx, 3)) (hw : Cond.methodLink M.1.cls idx Lib.Math.max.name ∈ q_gd) (hg : Cond.static Lib.Math.max.name ∈ q_gd ∧ Cond.initialized "java/lang/Math" ∈ q_gd ∧ Cond.code Lib.Math.max.name Lib.Math.max.code 2 (some .int) ∈ q_gd) (hf : 1 ≤ M.2.2.2.2.frames) (hlR : M.2.2.2.2.locals = lR) (hcR : M.2.2.2.2.cells = cR) (hsR : M.2.2.2.2.slots = sR) : q_OK E tg mt M pc (pc + 3) (o_mm q_fmax lR cR sR) := by
  intro Q B lo st ce sl h ks kj kr kc hB hs hj hr hc e
  replace e := e_pi_ok hB e
  obtain ⟨v1, st1, b, B1, rfl, hB1, e, w1⟩ := e
  replace e := e_pi_ok hB1 e
  obtain ⟨v2, st2, a, B2, rfl, hB2, e, w2⟩ := e
  replace e := e_cnd e
  obtain ⟨e0, e⟩ := e
  replace e0 := e_and e0
  obtain ⟨e0, e1⟩ := e0
  replace e1 := e_and e1
  obtain ⟨e1, e2⟩ := e1
  rw [e_frc_eq, q_fmax_eq] at e
  exact q_conv2 w1 w2 (q_max hd hw hg hf (by rw [hlR]; exact e_le e0) (by rw [hcR]; exact e_le e1) (by rw [hsR]; exact e_le e2) (hs _ _ _ _ _ _ hB2 e))

theorem o_min_ok {idx lR cR sR : Nat} (hd : decode M.2.1 pc = .ok (.invokestatic idx, 3)) (hw : Cond.methodLink M.1.cls idx Lib.Math.min.name ∈ q_gd) (hg : Cond.static Lib.Math.min.name ∈ q_gd ∧ Cond.initialized "java/lang/Math" ∈ q_gd ∧ Cond.code Lib.Math.min.name Lib.Math.min.code 2 (some .int) ∈ q_gd) (hf : 1 ≤ M.2.2.2.2.frames) (hlR : M.2.2.2.2.locals = lR) (hcR : M.2.2.2.2.cells = cR) (hsR : M.2.2.2.2.slots = sR) : q_OK E tg mt M pc (pc + 3) (o_mm q_fmin lR cR sR) := by
  intro Q B lo st ce sl h ks kj kr kc hB hs hj hr hc e
  replace e := e_pi_ok hB e
  obtain ⟨v1, st1, b, B1, rfl, hB1, e, w1⟩ := e
  replace e := e_pi_ok hB1 e
  obtain ⟨v2, st2, a, B2, rfl, hB2, e, w2⟩ := e
  replace e := e_cnd e
  obtain ⟨e0, e⟩ := e
  replace e0 := e_and e0
  obtain ⟨e0, e1⟩ := e0
  replace e1 := e_and e1
  obtain ⟨e1, e2⟩ := e1
  rw [e_frc_eq, q_fmin_eq] at e
  exact q_conv2 w1 w2 (q_min hd hw hg hf (by rw [hlR]; exact e_le e0) (by rw [hcR]; exact e_le e1) (by rw [hsR]; exact e_le e2) (hs _ _ _ _ _ _ hB2 e))

noncomputable def o_abs (lR cR sR : Nat) : q_Op := fun B lo st ce sl h ks _ _ _ => e_pi B st (fun B a st => cond (and (Nat.ble (q_wd st + 13) lR) (and (Nat.ble ce cR) (Nat.ble sl sR))) (e_frc (cond (Nat.ble 2147483648 (q_bi a)) a ((4294967296 - a % 4294967296) % 4294967296)) (fun m => ks B lo (.inl m :: st) ce sl h)) false)
theorem o_abs_ok {idx lR cR sR : Nat} (hd : decode M.2.1 pc = .ok (.invokestatic idx, 3)) (hw : Cond.methodLink M.1.cls idx Lib.Math.abs.name ∈ q_gd) (hg : Cond.static Lib.Math.abs.name ∈ q_gd ∧ Cond.initialized "java/lang/Math" ∈ q_gd ∧ Cond.code Lib.Math.abs.name Lib.Math.abs.code 1 (some .int) ∈ q_gd) (hf : 1 ≤ M.2.2.2.2.frames) (hlR : M.2.2.2.2.locals = lR) (hcR : M.2.2.2.2.cells = cR) (hsR : M.2.2.2.2.slots = sR) : q_OK E tg mt M pc (pc + 3) (o_abs lR cR sR) := by
  intro Q B lo st ce sl h ks kj kr kc hB hs hj hr hc e
  replace e := e_pi_ok hB e
  obtain ⟨v1, st1, a, B1, rfl, hB1, e, w1⟩ := e
  replace e := e_cnd e
  obtain ⟨e0, e⟩ := e
  replace e0 := e_and e0
  obtain ⟨e0, e1⟩ := e0
  replace e1 := e_and e1
  obtain ⟨e1, e2⟩ := e1
  rw [e_frc_eq] at e
  refine q_conv w1 (q_abs hd hw hg hf (by rw [hlR]; exact e_le e0) (by rw [hcR]; exact e_le e1) (by rw [hsR]; exact e_le e2) (hs _ _ _ _ _ _ hB1 ?_))
  cases hb : Nat.ble 2147483648 (q_bi a) with
  | true => rw [hb] at e; rw [if_pos (e_le hb)]; exact e
  | false => rw [hb] at e; rw [if_neg (e_nle hb)]; exact e
noncomputable def e_nil (st : List q_V) (k : Bool) : Bool := List.rec (motive := fun _ => Bool) k (fun _ _ _ => false) st
theorem e_nil_ok {st : List q_V} {k : Bool} (h : e_nil st k = true) : st = [] ∧ k = true := by
  cases st with
  | nil => exact ⟨rfl, h⟩
  | cons v t => cases h
/-- returns: nothing, an int (below top, where it is a boolean's), a ref, a long -/
noncomputable def o_vret (cR sR : Nat) : q_Op := fun B _ st ce sl h _ _ kr _ => e_nil st (cond (and (Nat.ble ce cR) (Nat.ble sl sR)) (kr B none h) false)
theorem o_vret_ok {cR sR : Nat} (hd : decode M.2.1 pc = .ok (.return_, 1)) (hrt : M.2.2.2.1 = none) (hcR : M.2.2.2.2.cells = cR) (hsR : M.2.2.2.2.slots = sR) : q_OK E tg mt M pc pc' (o_vret cR sR) := by
  intro Q B lo st ce sl h ks kj kr kc hB hs hj hr hc e
  replace e := e_nil_ok e
  obtain ⟨rfl, e⟩ := e
  replace e := e_cnd e
  obtain ⟨e0, e⟩ := e
  replace e0 := e_and e0
  obtain ⟨e0, e1⟩ := e0
  exact q_ret (r := none) ⟨hd, hrt⟩ (by rw [hcR]; exact e_le e0) (by rw [hsR]; exact e_le e1) (hr _ _ _ hB e)
noncomputable def o_iret (cR sR : Nat) : q_Op := fun B _ st ce sl h _ _ kr _ => e_pop st (fun v st => e_nil st (cond (and (Nat.ble ce cR) (Nat.ble sl sR)) (e_is v (fun n => kr B (some (.inl n)) h) (fun s => kr B (some (.inr (.inr (.inr (.inl s))))) h)) false))
theorem o_iret_ok {cR sR : Nat} (hd : decode M.2.1 pc = .ok (.ireturn, 1)) (hrt : M.2.2.2.1 = some .int) (hcR : M.2.2.2.2.cells = cR) (hsR : M.2.2.2.2.slots = sR) : q_OK E tg mt M pc pc' (o_iret cR sR) := by
  intro Q B lo st ce sl h ks kj kr kc hB hs hj hr hc e
  replace e := e_pop_ok e
  obtain ⟨v, st1, rfl, e⟩ := e
  replace e := e_nil_ok e
  obtain ⟨rfl, e⟩ := e
  replace e := e_cnd e
  obtain ⟨e0, e⟩ := e
  replace e0 := e_and e0
  obtain ⟨e0, e1⟩ := e0
  replace e := e_is_ok e
  rcases e with ⟨n, rfl, e⟩ | ⟨s, rfl, e⟩
  · exact q_ret (r := some (.inl n)) ⟨hd, Or.inl hrt⟩ (by rw [hcR]; exact e_le e0) (by rw [hsR]; exact e_le e1) (hr _ _ _ hB e)
  · exact q_ret (r := some (.inr (.inr (.inr (.inl s))))) ⟨hd, hrt⟩ (by rw [hcR]; exact e_le e0) (by rw [hsR]; exact e_le e1) (hr _ _ _ hB e)
noncomputable def o_zret (cR sR : Nat) : q_Op := fun B _ st ce sl h _ _ kr _ => e_pop st (fun v st => e_nil st (cond (and (Nat.ble ce cR) (Nat.ble sl sR)) (e_is v (fun n => cond (Nat.ble (Nat.succ n) 2) (kr B (some (.inl n)) h) false) (fun _ => false)) false))
theorem o_zret_ok {cR sR : Nat} (hd : decode M.2.1 pc = .ok (.ireturn, 1)) (hrt : M.2.2.2.1 = some .boolean) (hcR : M.2.2.2.2.cells = cR) (hsR : M.2.2.2.2.slots = sR) : q_OK E tg mt M pc pc' (o_zret cR sR) := by
  intro Q B lo st ce sl h ks kj kr kc hB hs hj hr hc e
  replace e := e_pop_ok e
  obtain ⟨v, st1, rfl, e⟩ := e
  replace e := e_nil_ok e
  obtain ⟨rfl, e⟩ := e
  replace e := e_cnd e
  obtain ⟨e0, e⟩ := e
  replace e0 := e_and e0
  obtain ⟨e0, e1⟩ := e0
  replace e := e_is_ok e
  rcases e with ⟨n, rfl, e⟩ | ⟨s, rfl, e⟩
  · obtain ⟨e2, e⟩ := e_cnd e
    exact q_ret (r := some (.inl n)) ⟨hd, Or.inr ⟨_, hrt, (q_nar_bool (e_le e2)).2.1⟩⟩ (by rw [hcR]; exact e_le e0) (by rw [hsR]; exact e_le e1) (hr _ _ _ hB e)
  · cases e
noncomputable def o_aret (cR sR : Nat) : q_Op := fun B _ st ce sl h _ _ kr _ => e_pop st (fun v st => e_nil st (cond (and (Nat.ble ce cR) (Nat.ble sl sR)) (e_isR v (fun n => kr B (some (.inr (.inl n))) h)) false))
theorem o_aret_ok {cR sR : Nat} {nm : String} (hd : decode M.2.1 pc = .ok (.areturn, 1)) (hrt : M.2.2.2.1 = some (.object nm)) (hcR : M.2.2.2.2.cells = cR) (hsR : M.2.2.2.2.slots = sR) : q_OK E tg mt M pc pc' (o_aret cR sR) := by
  intro Q B lo st ce sl h ks kj kr kc hB hs hj hr hc e
  replace e := e_pop_ok e
  obtain ⟨v, st1, rfl, e⟩ := e
  replace e := e_nil_ok e
  obtain ⟨rfl, e⟩ := e
  replace e := e_cnd e
  obtain ⟨e0, e⟩ := e
  replace e0 := e_and e0
  obtain ⟨e0, e1⟩ := e0
  replace e := e_isR_ok e
  obtain ⟨n, rfl, e⟩ := e
  exact q_ret (r := some (.inr (.inl n))) ⟨hd, nm, hrt⟩ (by rw [hcR]; exact e_le e0) (by rw [hsR]; exact e_le e1) (hr _ _ _ hB e)
noncomputable def o_lret (cR sR : Nat) : q_Op := fun B _ st ce sl h _ _ kr _ => e_pop st (fun v st => e_nil st (cond (and (Nat.ble ce cR) (Nat.ble sl sR)) (e_isL v (fun n => kr B (some (.inr (.inr (.inl n)))) h)) false))
theorem o_lret_ok {cR sR : Nat} (hd : decode M.2.1 pc = .ok (.lreturn, 1)) (hrt : M.2.2.2.1 = some .long) (hcR : M.2.2.2.2.cells = cR) (hsR : M.2.2.2.2.slots = sR) : q_OK E tg mt M pc pc' (o_lret cR sR) := by
  intro Q B lo st ce sl h ks kj kr kc hB hs hj hr hc e
  replace e := e_pop_ok e
  obtain ⟨v, st1, rfl, e⟩ := e
  replace e := e_nil_ok e
  obtain ⟨rfl, e⟩ := e
  replace e := e_cnd e
  obtain ⟨e0, e⟩ := e
  replace e0 := e_and e0
  obtain ⟨e0, e1⟩ := e0
  replace e := e_isL_ok e
  obtain ⟨n, rfl, e⟩ := e
  exact q_ret (r := some (.inr (.inr (.inl n)))) ⟨hd, hrt⟩ (by rw [hcR]; exact e_le e0) (by rw [hsR]; exact e_le e1) (hr _ _ _ hB e)
/-- behind a call: what came back goes on the stack -/
noncomputable def e_res (r : Option q_V) (st : List q_V) (k : List q_V → Bool) : Bool := Option.rec (motive := fun _ => Bool) (k st) (fun v => k (v :: st)) r
theorem e_res_eq {r : Option q_V} {st : List q_V} {k : List q_V → Bool} : e_res r st k = k (r.toList ++ st) := by cases r <;> rfl
noncomputable def e_call (j mc ms cR sR : Nat) (B : q_B) (lo : q_Lo) (as st : List q_V) (ce sl : Nat) (h : q_H) (ks : q_K) (kc : Nat → q_B → List q_V → q_H → q_KR → Bool) : Bool := cond (and (Nat.ble (q_wd st) 8) (and (Nat.ble (ce + mc) cR) (Nat.ble (sl + ms) sR))) (kc j B as h (fun B r h => e_res r st (fun st => e_frc (ce + mc) (fun ce => e_frc (sl + ms) (fun sl => ks B lo st ce sl h))))) false

noncomputable def o_cS (j n mc ms cR sR : Nat) : q_Op := fun B lo st ce sl h ks _ _ kc => e_args n st [] (fun as st => e_call j mc ms cR sR B lo as st ce sl h ks kc)
theorem o_cS_ok {j n mc ms cR sR idx : Nat} (hd : decode M.2.1 pc = .ok (.invokestatic idx, 3)) (ho : q_ok M (mt j) n) (hw : Cond.methodLink M.1.cls idx (mt j).1 ∈ q_gd) (hx : Cond.static (mt j).1 ∈ q_gd) (hmc : (mt j).2.2.2.2.cells = mc) (hms : (mt j).2.2.2.2.slots = ms) (hcR : M.2.2.2.2.cells = cR) (hsR : M.2.2.2.2.slots = sR) : q_OK E tg mt M pc (pc + 3) (o_cS j n mc ms cR sR) := by
  intro Q B lo st ce sl h ks kj kr kc hB hs hj hr hc e
  replace e := e_args_ok e
  obtain ⟨as, st1, rfl, hn, e⟩ := e
  rw [List.append_nil] at e
  replace e := e_cnd e
  obtain ⟨e0, e⟩ := e
  replace e0 := e_and e0
  obtain ⟨e0, e1⟩ := e0
  replace e1 := e_and e1
  obtain ⟨e1, e2⟩ := e1
  subst hmc
  subst hms
  have hP := hc _ _ _ _ _ hB e
  refine q_callS hd ho hw hx hn (e_le e0) (by rw [hcR]; exact e_le e1) (by rw [hsR]; exact e_le e2) hP (fun r' h' z => ?_)
  obtain ⟨B', z1, z2⟩ := z
  rw [e_res_eq, e_frc_eq, e_frc_eq] at z2
  exact hs _ _ _ _ _ _ z1 z2

theorem o_cSN_ok {j n mc ms cR sR idx : Nat} (hd : decode M.2.1 pc = .ok (.invokestatic idx, 3)) (ho : q_ok M (mt j) n) {host : String} (hw : Cond.methodLinkNest M.1.cls idx (mt j).1 host ∈ q_nst) (hx : Cond.static (mt j).1 ∈ q_gd) (hmc : (mt j).2.2.2.2.cells = mc) (hms : (mt j).2.2.2.2.slots = ms) (hcR : M.2.2.2.2.cells = cR) (hsR : M.2.2.2.2.slots = sR) : q_OK E tg mt M pc (pc + 3) (o_cS j n mc ms cR sR) := by
  intro Q B lo st ce sl h ks kj kr kc hB hs hj hr hc e
  replace e := e_args_ok e
  obtain ⟨as, st1, rfl, hn, e⟩ := e
  rw [List.append_nil] at e
  replace e := e_cnd e
  obtain ⟨e0, e⟩ := e
  replace e0 := e_and e0
  obtain ⟨e0, e1⟩ := e0
  replace e1 := e_and e1
  obtain ⟨e1, e2⟩ := e1
  subst hmc
  subst hms
  have hP := hc _ _ _ _ _ hB e
  refine q_callSN hd ho hw hx hn (e_le e0) (by rw [hcR]; exact e_le e1) (by rw [hsR]; exact e_le e2) hP (fun r' h' z => ?_)
  obtain ⟨B', z1, z2⟩ := z
  rw [e_res_eq, e_frc_eq, e_frc_eq] at z2
  exact hs _ _ _ _ _ _ z1 z2

noncomputable def o_cI (j n mc ms cR sR : Nat) : q_Op := fun B lo st ce sl h ks _ _ kc => e_args n st [] (fun as st => e_pop st (fun v st => e_isR v (fun r => e_call j mc ms cR sR B lo (.inr (.inl r) :: as) st ce sl h ks kc)))
theorem o_cI_ok {j n mc ms cR sR idx : Nat} (hd : decode M.2.1 pc = .ok (.invokespecial idx, 3)) (ho : q_ok M (mt j) n) (hw : Cond.methodLink M.1.cls idx (mt j).1 ∈ q_gd) (hx : Cond.instanceMethod (mt j).1 ∈ q_gd) (hi : (mt j).1.name = "<init>" ∧ (mt j).2.2.2.1 = none) (hmc : (mt j).2.2.2.2.cells = mc) (hms : (mt j).2.2.2.2.slots = ms) (hcR : M.2.2.2.2.cells = cR) (hsR : M.2.2.2.2.slots = sR) : q_OK E tg mt M pc (pc + 3) (o_cI j n mc ms cR sR) := by
  intro Q B lo st ce sl h ks kj kr kc hB hs hj hr hc e
  replace e := e_args_ok e
  obtain ⟨as, st1, rfl, hn, e⟩ := e
  rw [List.append_nil] at e
  replace e := e_pop_ok e
  obtain ⟨v, st2, rfl, e⟩ := e
  replace e := e_isR_ok e
  obtain ⟨r, rfl, e⟩ := e
  replace e := e_cnd e
  obtain ⟨e0, e⟩ := e
  replace e0 := e_and e0
  obtain ⟨e0, e1⟩ := e0
  replace e1 := e_and e1
  obtain ⟨e1, e2⟩ := e1
  subst hmc
  subst hms
  have hP := hc _ _ _ _ _ hB e
  refine q_callI hd ho hw hx hi hn (e_le e0) (by rw [hcR]; exact e_le e1) (by rw [hsR]; exact e_le e2) hP (fun r' h' z => ?_)
  obtain ⟨B', z1, z2⟩ := z
  rw [e_res_eq, e_frc_eq, e_frc_eq] at z2
  exact hs _ _ _ _ _ _ z1 z2

theorem o_cIN_ok {j n mc ms cR sR idx : Nat} (hd : decode M.2.1 pc = .ok (.invokespecial idx, 3)) (ho : q_ok M (mt j) n) {host : String} (hw : Cond.methodLinkNest M.1.cls idx (mt j).1 host ∈ q_nst) (hx : Cond.instanceMethod (mt j).1 ∈ q_gd) (hi : (mt j).1.name = "<init>" ∧ (mt j).2.2.2.1 = none) (hmc : (mt j).2.2.2.2.cells = mc) (hms : (mt j).2.2.2.2.slots = ms) (hcR : M.2.2.2.2.cells = cR) (hsR : M.2.2.2.2.slots = sR) : q_OK E tg mt M pc (pc + 3) (o_cI j n mc ms cR sR) := by
  intro Q B lo st ce sl h ks kj kr kc hB hs hj hr hc e
  replace e := e_args_ok e
  obtain ⟨as, st1, rfl, hn, e⟩ := e
  rw [List.append_nil] at e
  replace e := e_pop_ok e
  obtain ⟨v, st2, rfl, e⟩ := e
  replace e := e_isR_ok e
  obtain ⟨r, rfl, e⟩ := e
  replace e := e_cnd e
  obtain ⟨e0, e⟩ := e
  replace e0 := e_and e0
  obtain ⟨e0, e1⟩ := e0
  replace e1 := e_and e1
  obtain ⟨e1, e2⟩ := e1
  subst hmc
  subst hms
  have hP := hc _ _ _ _ _ hB e
  refine q_callIN hd ho hw hx hi hn (e_le e0) (by rw [hcR]; exact e_le e1) (by rw [hsR]; exact e_le e2) hP (fun r' h' z => ?_)
  obtain ⟨B', z1, z2⟩ := z
  rw [e_res_eq, e_frc_eq, e_frc_eq] at z2
  exact hs _ _ _ _ _ _ z1 z2

noncomputable def o_cV (t j n mc ms cR sR : Nat) : q_Op := fun B lo st ce sl h ks _ _ kc => e_args n st [] (fun as st => e_pop st (fun v st => e_isR v (fun r => e_cel h r (fun t' _ _ => cond (Nat.beq t' t) (e_call j mc ms cR sR B lo (.inr (.inl r) :: as) st ce sl h ks kc) false))))
theorem o_cV_ok {j n mc ms cR sR idx ci : Nat} (hd : decode M.2.1 pc = .ok (.invokevirtual idx, 3)) (ho : q_ok M (mt j) n) (hw : Cond.methodLink M.1.cls idx (mt j).1 ∈ q_gd) (hx : Cond.instanceMethod (mt j).1 ∈ q_gd ∧ Cond.selects (mt j).1.cls (mt j).1 (mt j).1 ∈ q_gd) (hcl : ∀ q : vw_C, q_cl[ci]? = some q → q.1 = (mt j).1.cls) (hmc : (mt j).2.2.2.2.cells = mc) (hms : (mt j).2.2.2.2.slots = ms) (hcR : M.2.2.2.2.cells = cR) (hsR : M.2.2.2.2.slots = sR) : q_OK E tg mt M pc (pc + 3) (o_cV (ci + 5) j n mc ms cR sR) := by
  intro Q B lo st ce sl h ks kj kr kc hB hs hj hr hc e
  replace e := e_args_ok e
  obtain ⟨as, st1, rfl, hn, e⟩ := e
  rw [List.append_nil] at e
  replace e := e_pop_ok e
  obtain ⟨v, st2, rfl, e⟩ := e
  replace e := e_isR_ok e
  obtain ⟨r, rfl, e⟩ := e
  replace e := e_cel_ok e
  obtain ⟨t', n', d', hq, e⟩ := e
  replace e := e_cnd e
  obtain ⟨ez, e⟩ := e
  rw [e_eq ez] at hq
  replace e := e_cnd e
  obtain ⟨e0, e⟩ := e
  replace e0 := e_and e0
  obtain ⟨e0, e1⟩ := e0
  replace e1 := e_and e1
  obtain ⟨e1, e2⟩ := e1
  subst hmc
  subst hms
  have hP := hc _ _ _ _ _ hB e
  refine q_callV hd ho hw hx hq hcl hn (e_le e0) (by rw [hcR]; exact e_le e1) (by rw [hsR]; exact e_le e2) hP (fun r' h' z => ?_)
  obtain ⟨B', z1, z2⟩ := z
  rw [e_res_eq, e_frc_eq, e_frc_eq] at z2
  exact hs _ _ _ _ _ _ z1 z2

noncomputable def o_cU (n : Nat) (t1 j1 t2 j2 cR sR : Nat) : q_Op := fun B lo st ce sl h ks _ _ kc => e_args n st [] (fun as st => e_pop st (fun v st => e_isR v (fun r => e_cel h r (fun t _ _ => cond (Nat.beq t t1) (e_call j1 0 0 cR sR B lo (.inr (.inl r) :: as) st ce sl h ks kc) (cond (Nat.beq t t2) (e_call j2 0 0 cR sR B lo (.inr (.inl r) :: as) st ce sl h ks kc) false)))))
def q_okU (M M' : q_M) (x : MethodName) (n ci : Nat) : Prop := q_ok M M' n ∧ (Cond.instanceMethod M'.1 ∈ q_gd ∧ Cond.selects M'.1.cls x M'.1 ∈ q_gd ∧ Cond.sameMethod x.cls x.cls x.name x.desc ∈ q_gd ∧ Cond.declares x ∈ q_nst) ∧ (x.desc = M'.1.desc ∧ x.cls ≠ "java/lang/invoke/MethodHandle" ∧ x.cls ≠ "java/lang/invoke/VarHandle") ∧ (∀ q : vw_C, q_cl[ci]? = some q → q.1 = M'.1.cls) ∧ M'.2.2.2.2.cells = 0 ∧ M'.2.2.2.2.slots = 0
theorem o_cU_ok {n ci1 j1 ci2 j2 cR sR idx : Nat} {x : MethodName} (hd : decode M.2.1 pc = .ok (.invokevirtual idx, 3)) (hw : Cond.methodLink M.1.cls idx x ∈ q_gd) (h1 : q_okU M (mt j1) x n ci1) (h2 : q_okU M (mt j2) x n ci2) (hcR : M.2.2.2.2.cells = cR) (hsR : M.2.2.2.2.slots = sR) : q_OK E tg mt M pc (pc + 3) (o_cU n (ci1 + 5) j1 (ci2 + 5) j2 cR sR) := by
  intro Q B lo st ce sl h ks kj kr kc hB hs hj hr hc e
  replace e := e_args_ok e
  obtain ⟨as, st1, rfl, hn, e⟩ := e
  rw [List.append_nil] at e
  replace e := e_pop_ok e
  obtain ⟨v, st2, rfl, e⟩ := e
  replace e := e_isR_ok e
  obtain ⟨r, rfl, e⟩ := e
  replace e := e_cel_ok e
  obtain ⟨t', n', d', hq, e⟩ := e
  have key : ∀ (j ci : Nat), t' = ci + 5 → q_okU M (mt j) x n ci → e_call j 0 0 cR sR B lo (.inr (.inl r) :: as) st2 ce sl h ks kc = true → q_W E M Q pc lo (as.reverse ++ .inr (.inl r) :: st2) ce sl h := by
    intro j ci ht hu e
    rw [ht] at hq
    obtain ⟨u1, u2, u3, u4, u5, u6⟩ := hu
    replace e := e_cnd e
    obtain ⟨e0, e⟩ := e
    replace e0 := e_and e0
    obtain ⟨e0, e1⟩ := e0
    replace e1 := e_and e1
    obtain ⟨e1, e2⟩ := e1
    have hP := hc _ _ _ _ _ hB e
    refine q_callU hd u1 hw u2 u3 hq u4 hn (e_le e0) (by rw [hcR, u5]; exact e_le e1) (by rw [hsR, u6]; exact e_le e2) hP (fun r' h' z => ?_)
    obtain ⟨B', z1, z2⟩ := z
    rw [e_res_eq, e_frc_eq, e_frc_eq] at z2
    rw [u5, u6]
    exact hs _ _ _ _ _ _ z1 z2
  cases b1 : Nat.beq t' (ci1 + 5) with
  | true => rw [b1] at e; exact key j1 ci1 (e_eq b1) h1 e
  | false =>
    rw [b1] at e
    replace e := e_cnd e
    obtain ⟨b2, e⟩ := e
    exact key j2 ci2 (e_eq b2) h2 e
end
/-- the run of a method's blocks: fuel, the table of all methods' blocks, this one's, the code from here on -/
noncomputable def q_go (P : List (Nat × List (List q_Op))) : Nat → List (List q_Op) → List q_Op → q_B → q_Lo → List q_V → Nat → Nat → q_H → q_KR → Bool := fun n => Nat.rec (motive := fun _ => List (List q_Op) → List q_Op → q_B → q_Lo → List q_V → Nat → Nat → q_H → q_KR → Bool) (fun _ _ _ _ _ _ _ _ _ => false)
  (fun _ ih bl cs B lo st ce sl h kr => e_pop cs (fun op cs => op B lo st ce sl h (fun B lo st ce sl h => ih bl cs B lo st ce sl h kr) (fun b B lo st ce sl h => e_nth bl b (fun cs => ih bl cs B lo st ce sl h kr)) kr (fun j B as h kc => e_nth P j (fun p => cond (Nat.ble (q_wd as) p.1) (e_pop p.2 (fun cs _ => ih p.2 cs B (q_args 0 as) [] 0 0 h kc)) false)))) n
def q_okC (E : q_E) (tg : Nat → Nat) (mt : Nat → q_M) (M : q_M) : Nat → List q_Op → Prop
  | _, [] => True
  | pc, op :: cs => ∃ pc', q_OK E tg mt M pc pc' op ∧ q_okC E tg mt M pc' cs
/-- a method's blocks are its bytecode -/
def q_okM (E : q_E) (mt : Nat → q_M) (M : q_M) (p : Nat × List (List q_Op)) : Prop := ∃ tg : Nat → Nat, tg 0 = 0 ∧ p.1 = M.2.2.1 ∧ (∀ (b : Nat) (cs : List q_Op), p.2[b]? = some cs → q_okC E tg mt M (tg b) cs) ∧ plainName M.1.cls = true
theorem q_go_ok {E : q_E} {mt : Nat → q_M} {P : List (Nat × List (List q_Op))} (hP : ∀ (j : Nat) (p : Nat × List (List q_Op)), P[j]? = some p → q_okM E mt (mt j) p) :
    ∀ (n : Nat) (M : q_M) (tg : Nat → Nat) (bl : List (List q_Op)) (pc : Nat) (cs : List q_Op) (B : q_B) (lo : q_Lo) (st : List q_V) (ce sl : Nat) (h : q_H) (kr : q_KR) (Q : Option q_V → q_H → Prop), (∀ (b : Nat) (cs : List q_Op), bl[b]? = some cs → q_okC E tg mt M (tg b) cs) → q_okC E tg mt M pc cs → q_inB E B → (∀ B r h, q_inB E B → kr B r h = true → Q r h) → q_go P n bl cs B lo st ce sl h kr = true → q_W E M Q pc lo st ce sl h := by
  intro n
  induction n with
  | zero => intro M tg bl pc cs B lo st ce sl h kr Q hbl hcs hB hkr e; cases e
  | succ n ih =>
    intro M tg bl pc cs B lo st ce sl h kr Q hbl hcs hB hkr e
    replace e := e_pop_ok e
    obtain ⟨op, cs', rfl, e⟩ := e
    obtain ⟨pc', hop, hcs'⟩ := hcs
    refine hop Q B lo st ce sl h _ _ _ _ hB ?_ ?_ hkr ?_ e
    · intro B lo st ce sl h hB e
      exact ih M tg bl pc' cs' B lo st ce sl h kr Q hbl hcs' hB hkr e
    · intro b B lo st ce sl h hB e
      replace e := e_nth_ok e
      obtain ⟨cs2, e1, e⟩ := e
      exact ih M tg bl (tg b) cs2 B lo st ce sl h kr Q hbl (hbl b cs2 e1) hB hkr e
    · intro j B as h kc' hB e
      replace e := e_nth_ok e
      obtain ⟨⟨ml, bl2⟩, e1, e⟩ := e
      replace e := e_cnd e
      obtain ⟨e0, e⟩ := e
      replace e := e_pop_ok e
      obtain ⟨cs2, bl3, e2, e⟩ := e
      obtain ⟨tg2, t0, tm, t1, t2⟩ := hP j _ e1
      have e2 : bl2 = cs2 :: bl3 := e2
      have tm : ml = (mt j).2.2.1 := tm
      have hW : q_W E (mt j) (fun r h' => ∃ B', q_inB E B' ∧ kc' B' r h' = true) 0 (q_args 0 as) [] 0 0 h := by
        have hz := t1 0 cs2 (by rw [e2]; rfl)
        rw [t0] at hz
        exact ih (mt j) tg2 bl2 0 cs2 B (q_args 0 as) [] 0 0 h kc' _ t1 hz hB (fun B r h z1 z2 => ⟨B, z1, z2⟩) e
      exact q_Pof t2 (by rw [← tm]; exact e_le e0) hW
