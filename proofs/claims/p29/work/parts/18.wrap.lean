section
variable {E : q_E} {tg : Nat → Nat} {mt : Nat → q_M} {M M' : q_M} {pc pc' : Nat}
noncomputable def o_fail : q_Op := fun _ _ _ _ _ _ _ _ _ _ => false
theorem o_fail_ok : q_OK E tg mt M pc pc' o_fail := fun _ _ _ _ _ _ _ _ _ _ _ _ _ _ _ _ e => by cases e
/-- loads and lengths that never touch the script -/
noncomputable def o_iald0 : q_Op := fun B lo st ce sl h ks _ _ _ => e_pi B st (fun B i st => e_pop st (fun v st => e_ra v (fun r => e_cel h r (fun t n d => cond (and (Nat.beq t 0) (and (Nat.ble (Nat.succ i) n) (Nat.ble (Nat.succ i) 2147483648))) (e_frc (q_rd d i) (fun m => ks B lo (.inl m :: st) ce sl h)) false))
  (fun q => cond (and (Nat.ble (Nat.succ i) 5) (Nat.beq q 1)) (e_frc (q_chi i) (fun m => ks B lo (.inl m :: st) ce sl h)) false)))
theorem o_iald0_ok (hd : decode M.2.1 pc = .ok (.iaload, 1)) : q_OK E tg mt M pc (pc + 1) o_iald0 := by
  intro Q B lo st ce sl h ks kj kr kc hB hs hj hr hc e
  replace e := e_pi_ok hB e
  obtain ⟨w, st1, i, B1, rfl, hB1, e, hw⟩ := e
  replace e := e_pop_ok e
  obtain ⟨v, st2, rfl, e⟩ := e
  refine q_conv hw ?_
  replace e := e_ra_ok e
  rcases e with ⟨r, rfl, e⟩ | ⟨q, rfl, e⟩
  · replace e := e_cel_ok e
    obtain ⟨t, n, d, hc', e⟩ := e
    replace e := e_cnd e
    obtain ⟨e0, e⟩ := e
    replace e0 := e_and e0
    obtain ⟨e0, e1⟩ := e0
    replace e1 := e_and e1
    obtain ⟨e1, e2⟩ := e1
    rw [e_frc_eq] at e
    rw [e_eq e0] at hc'
    exact q_ald hd (Or.inl ⟨rfl, rfl⟩) hc' (e_le e1) (e_le e2) (hs _ _ _ _ _ _ hB1 e)
  · replace e := e_cnd e
    obtain ⟨e0, e⟩ := e
    replace e0 := e_and e0
    obtain ⟨e0, e1⟩ := e0
    rw [e_frc_eq] at e
    rw [e_eq e1]
    exact q_sld1 hd (e_le e0) (hs _ _ _ _ _ _ hB1 e)
theorem q_slen2 {Q : Option q_V → q_H → Prop} {lo : q_Lo} {st : List q_V} {ce sl : Nat} {h : q_H} (hd : decode M.2.1 pc = .ok (.arraylength, 1))
    (k : q_W E M Q (pc + 1) lo (.inl 6 :: st) ce sl h) : q_W E M Q pc lo (.inr (.inr (.inr (.inr (.inr (.inl 2))))) :: st) ce sl h := by
  intro p e R s m args below meth c A ad0 Z H locs ls stv C T Rt
  obtain ⟨ad, tys, ws, lv, h1', h2', h3, h4, h5⟩ := T
  match stv, h4 with
  | v0 :: stv, ⟨ey, h4⟩ =>
    cases ey
    exact va_tlen (v := nI 6) C.1.1 C.1.2 C.2.2.2.2.2.2.2.2.1.2.2.1.2 h5.2.2.2 rfl hd (k.go C ⟨ad, tys, ws, lv, h1', h2', h3, ⟨rfl, h4⟩, h5⟩ Rt)
noncomputable def o_len0 : q_Op := fun B lo st ce sl h ks _ _ _ => e_pop st (fun v st => e_ra v (fun r => e_cel h r (fun t n _ => cond (Nat.ble (Nat.succ t) 5) (ks B lo (.inl n :: st) ce sl h) false)) (fun q => cond (Nat.beq q 2) (ks B lo (.inl 6 :: st) ce sl h) false))
theorem o_len0_ok (hd : decode M.2.1 pc = .ok (.arraylength, 1)) : q_OK E tg mt M pc (pc + 1) o_len0 := by
  intro Q B lo st ce sl h ks kj kr kc hB hs hj hr hc e
  replace e := e_pop_ok e
  obtain ⟨v, st1, rfl, e⟩ := e
  replace e := e_ra_ok e
  rcases e with ⟨r, rfl, e⟩ | ⟨q, rfl, e⟩
  · replace e := e_cel_ok e
    obtain ⟨t, n, d, hc', e⟩ := e
    replace e := e_cnd e
    obtain ⟨e0, e⟩ := e
    exact q_len hd hc' (e_le e0) (hs _ _ _ _ _ _ hB e)
  · replace e := e_cnd e
    obtain ⟨e0, e⟩ := e
    rw [e_eq e0]
    exact q_slen2 hd (hs _ _ _ _ _ _ hB e)
def f_iadd (a b : Nat) : Nat := (a + b) % 4294967296
def f_isub (a b : Nat) : Nat := (a + (4294967296 - b % 4294967296)) % 4294967296
def f_imul (a b : Nat) : Nat := (a * b) % 4294967296
def f_iand (a b : Nat) : Nat := a &&& b
def f_ior (a b : Nat) : Nat := a ||| b
def f_land (a b : Nat) : Nat := a &&& b
def f_lor (a b : Nat) : Nat := a ||| b
def f_lxor (a b : Nat) : Nat := a ^^^ b
def f_ishl (a b : Nat) : Nat := (a * 2 ^ b) % 4294967296
def f_ishr (a b : Nat) : Nat := a / 2 ^ b
def f_idiv (a b : Nat) : Nat := a / b
def f_irem (a b : Nat) : Nat := a % b
def g_ishl (_ b : Nat) : Bool := Nat.ble (Nat.succ b) 32
def g_ishr (a b : Nat) : Bool := and (Nat.ble (Nat.succ a) 2147483648) (Nat.ble (Nat.succ b) 32)
def g_idiv (a b : Nat) : Bool := and (Nat.ble (Nat.succ a) 2147483648) (and (Nat.ble (Nat.succ b) 2147483648) (Nat.ble 1 b))
def g_irem (a b : Nat) : Bool := and (Nat.ble (Nat.succ a) 2147483648) (and (Nat.ble (Nat.succ b) 2147483648) (Nat.ble 1 b))
theorem o_ishl_ok (hd : decode M.2.1 pc = .ok (.ishl, 1)) : q_OK E tg mt M pc (pc + 1) (o_binc g_ishl f_ishl) := o_binc_ok (fun g k => q_ishl hd (e_le g) k)
theorem o_ishr_ok (hd : decode M.2.1 pc = .ok (.ishr, 1)) : q_OK E tg mt M pc (pc + 1) (o_binc g_ishr f_ishr) := o_binc_ok (fun g k => q_ishr hd (e_le (e_and g).1) (e_le (e_and g).2) k)
theorem o_idiv_ok (hd : decode M.2.1 pc = .ok (.idiv, 1)) : q_OK E tg mt M pc (pc + 1) (o_binc g_idiv f_idiv) := o_binc_ok (fun g k => q_idiv hd (e_le (e_and g).1) (e_le (e_and (e_and g).2).1) (e_le (e_and (e_and g).2).2) k)
theorem o_irem_ok (hd : decode M.2.1 pc = .ok (.irem, 1)) : q_OK E tg mt M pc (pc + 1) (o_binc g_irem f_irem) := o_binc_ok (fun g k => q_irem hd (e_le (e_and g).1) (e_le (e_and (e_and g).2).1) (e_le (e_and (e_and g).2).2) k)
theorem q_tsw {pc : Nat} {tg : Nat → Nat} {bs : List Nat} {offs : Array Int} (h : (List.range bs.length).all (fun i => match bs[i]?, offs[i]? with | some b, some off => decide ((pc : Int) + off = (tg b : Int)) | _, _ => false) = true) : ∀ (i b : Nat), bs[i]? = some b → ∃ off : Int, offs[i]? = some off ∧ (pc : Int) + off = (tg b : Int) := by
  intro i b hb
  have h1 := List.all_eq_true.mp h i (List.mem_range.mpr (List.getElem?_eq_some_iff.mp hb).1)
  rw [hb] at h1
  cases ho : offs[i]? with
  | none => rw [ho] at h1; cases h1
  | some off => rw [ho] at h1; exact ⟨off, rfl, of_decide_eq_true h1⟩
def q_okB (E : q_E) (tg : Nat → Nat) (mt : Nat → q_M) (M : q_M) : Nat → List (List q_Op) → Prop
  | _, [] => True
  | b, cs :: bl => q_okC E tg mt M (tg b) cs ∧ q_okB E tg mt M (b + 1) bl
theorem q_okB_at {E : q_E} {tg : Nat → Nat} {mt : Nat → q_M} {M : q_M} : ∀ {bl : List (List q_Op)} {b0 b : Nat} {cs : List q_Op}, q_okB E tg mt M b0 bl → bl[b]? = some cs → q_okC E tg mt M (tg (b0 + b)) cs
  | [], _, _, _, _, h => by simp at h
  | c :: bl, b0, 0, cs, g, h => by cases h; exact g.1
  | c :: bl, b0, b + 1, cs, g, h => by
    rw [List.getElem?_cons_succ] at h
    have := q_okB_at g.2 h
    rw [show b0 + 1 + b = b0 + (b + 1) by omega] at this
    exact this
theorem q_okB_all {E : q_E} {tg : Nat → Nat} {mt : Nat → q_M} {M : q_M} {bl : List (List q_Op)} (g : q_okB E tg mt M 0 bl) : ∀ (b : Nat) (cs : List q_Op), bl[b]? = some cs → q_okC E tg mt M (tg b) cs := by
  intro b cs h
  have := q_okB_at g h
  rwa [Nat.zero_add] at this

theorem o_cS2_ok {j n mc ms cR sR idx : Nat} (hj : mt j = M') (hd : decode M.2.1 pc = .ok (.invokestatic idx, 3)) (ho : q_ok M M' n) (hw : Cond.methodLink M.1.cls idx M'.1 ∈ q_gd) (hx : Cond.static M'.1 ∈ q_gd) (hmc : M'.2.2.2.2.cells = mc) (hms : M'.2.2.2.2.slots = ms) (hcR : M.2.2.2.2.cells = cR) (hsR : M.2.2.2.2.slots = sR) : q_OK E tg mt M pc (pc + 3) (o_cS j n mc ms cR sR) := by
  subst hj
  exact o_cS_ok hd ho hw hx hmc hms hcR hsR
theorem o_cSN2_ok {j n mc ms cR sR idx : Nat} (hj : mt j = M') (hd : decode M.2.1 pc = .ok (.invokestatic idx, 3)) (ho : q_ok M M' n) {host : String} (hw : Cond.methodLinkNest M.1.cls idx M'.1 host ∈ q_nst) (hx : Cond.static M'.1 ∈ q_gd) (hmc : M'.2.2.2.2.cells = mc) (hms : M'.2.2.2.2.slots = ms) (hcR : M.2.2.2.2.cells = cR) (hsR : M.2.2.2.2.slots = sR) : q_OK E tg mt M pc (pc + 3) (o_cS j n mc ms cR sR) := by
  subst hj
  exact o_cSN_ok hd ho hw hx hmc hms hcR hsR
theorem o_cI2_ok {j n mc ms cR sR idx : Nat} (hj : mt j = M') (hd : decode M.2.1 pc = .ok (.invokespecial idx, 3)) (ho : q_ok M M' n) (hw : Cond.methodLink M.1.cls idx M'.1 ∈ q_gd) (hx : Cond.instanceMethod M'.1 ∈ q_gd) (hi : M'.1.name = "<init>" ∧ M'.2.2.2.1 = none) (hmc : M'.2.2.2.2.cells = mc) (hms : M'.2.2.2.2.slots = ms) (hcR : M.2.2.2.2.cells = cR) (hsR : M.2.2.2.2.slots = sR) : q_OK E tg mt M pc (pc + 3) (o_cI j n mc ms cR sR) := by
  subst hj
  exact o_cI_ok hd ho hw hx hi hmc hms hcR hsR
theorem o_cIN2_ok {j n mc ms cR sR idx : Nat} (hj : mt j = M') (hd : decode M.2.1 pc = .ok (.invokespecial idx, 3)) (ho : q_ok M M' n) {host : String} (hw : Cond.methodLinkNest M.1.cls idx M'.1 host ∈ q_nst) (hx : Cond.instanceMethod M'.1 ∈ q_gd) (hi : M'.1.name = "<init>" ∧ M'.2.2.2.1 = none) (hmc : M'.2.2.2.2.cells = mc) (hms : M'.2.2.2.2.slots = ms) (hcR : M.2.2.2.2.cells = cR) (hsR : M.2.2.2.2.slots = sR) : q_OK E tg mt M pc (pc + 3) (o_cI j n mc ms cR sR) := by
  subst hj
  exact o_cIN_ok hd ho hw hx hi hmc hms hcR hsR
theorem o_cV2_ok {j n mc ms cR sR idx ci : Nat} (hj : mt j = M') (hd : decode M.2.1 pc = .ok (.invokevirtual idx, 3)) (ho : q_ok M M' n) (hw : Cond.methodLink M.1.cls idx M'.1 ∈ q_gd) (hx : Cond.instanceMethod M'.1 ∈ q_gd ∧ Cond.selects M'.1.cls M'.1 M'.1 ∈ q_gd) (hcl : ∀ q : vw_C, q_cl[ci]? = some q → q.1 = M'.1.cls) (hmc : M'.2.2.2.2.cells = mc) (hms : M'.2.2.2.2.slots = ms) (hcR : M.2.2.2.2.cells = cR) (hsR : M.2.2.2.2.slots = sR) : q_OK E tg mt M pc (pc + 3) (o_cV (ci + 5) j n mc ms cR sR) := by
  subst hj
  exact o_cV_ok hd ho hw hx hcl hmc hms hcR hsR
theorem o_cT2_ok {j n mc ms cR sR idx : Nat} (hj : mt j = M') (hd : decode M.2.1 pc = .ok (.invokevirtual idx, 3)) (ho : q_ok M M' n) (hw : Cond.methodLink M.1.cls idx M'.1 ∈ q_gd) (hx : Cond.instanceMethod M'.1 ∈ q_gd ∧ Cond.selects M'.1.cls M'.1 M'.1 ∈ q_gd) (hcl : M'.1.cls = "java/lang/String") (hmc : M'.2.2.2.2.cells = mc) (hms : M'.2.2.2.2.slots = ms) (hcR : M.2.2.2.2.cells = cR) (hsR : M.2.2.2.2.slots = sR) : q_OK E tg mt M pc (pc + 3) (o_cT j n mc ms cR sR) := by
  subst hj
  exact o_cT_ok hd ho hw hx hcl hmc hms hcR hsR
theorem o_cU2_ok {M2 : q_M} {n ci1 j1 ci2 j2 cR sR idx : Nat} {x : MethodName} (hj1 : mt j1 = M') (hj2 : mt j2 = M2) (hd : decode M.2.1 pc = .ok (.invokevirtual idx, 3)) (hw : Cond.methodLink M.1.cls idx x ∈ q_gd) (h1 : q_okU M M' x n ci1) (h2 : q_okU M M2 x n ci2) (hcR : M.2.2.2.2.cells = cR) (hsR : M.2.2.2.2.slots = sR) : q_OK E tg mt M pc (pc + 3) (o_cU n (ci1 + 5) j1 (ci2 + 5) j2 cR sR) := by
  subst hj1
  subst hj2
  exact o_cU_ok hd hw h1 h2 hcR hsR
end
