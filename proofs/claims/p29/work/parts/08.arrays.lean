theorem q_in {i n : Nat} (h1 : i < n) (h2 : i < 2147483648) : vp_in (nI i) n := by
  rintro (h | h)
  · exact nI_pos h2 h
  · rw [nI_clamp h2] at h; omega
theorem q_nar_char {x : Nat} (h : x < 65536) : vp_nar .char (nI x) = nI x := by
  rw [vp_nar_char]
  apply Int32.toBitVec_inj.mp
  show ((nI x).toUInt32.toUInt16.toUInt32).toBitVec = _
  apply BitVec.eq_of_toNat_eq
  show ((nI x).toUInt32.toUInt16.toUInt32).toNat = _
  rw [UInt16.toNat_toUInt32, UInt32.toNat_toUInt16]
  show (nI x).toBitVec.toNat % 65536 = (nI x).toBitVec.toNat
  rw [q_bI, BitVec.toNat_ofNat]
  omega
theorem q_nar_bool {x : Nat} (h : x < 2) : vp_nar .boolean (nI x) = nI x ∧ narrow .boolean (.int (nI x)) = .int (nI x) ∧ fits .boolean (.int (nI x)) = true := by
  have : x = 0 ∨ x = 1 := by omega
  rcases this with rfl | rfl <;> decide +kernel
theorem q_upd {d i v : Nat} {x : Int32} (h : x = nI v) : upd (fun j => nI (q_rd d j)) i x = fun j => nI (q_rd (q_wr d i (v % 18446744073709551616)) j) := by
  funext j
  rw [q_rd_wr (Nat.mod_lt _ (by decide))]
  unfold upd
  by_cases e : j = i
  · rw [if_pos e, if_pos e, h, ← q_nmod v, ← q_nmod (v % 18446744073709551616)]
    congr 1
    omega
  · rw [if_neg e, if_neg e]
theorem q_updL {d i v : Nat} : vp_updL (fun j => lN (q_rd d j)) i (lN v) = fun j => lN (q_rd (q_wr d i (v % 18446744073709551616)) j) := by
  funext j
  rw [q_rd_wr (Nat.mod_lt _ (by decide))]
  unfold vp_updL
  by_cases e : j = i
  · rw [if_pos e, if_pos e, q_lmod]
  · rw [if_neg e, if_neg e]
section
variable {E : q_E} {M : q_M} {Q : Option q_V → q_H → Prop} {pc : Nat} {lo : q_Lo} {st : List q_V} {ce sl : Nat} {h : q_H}
/-- a load of a whole number: int, char, boolean arrays -/
theorem q_ald {t r i n d : Nat} {ins : Instr} (hd : decode M.2.1 pc = .ok (ins, 1)) (hi : (t = 0 ∧ ins = .iaload) ∨ (t = 2 ∧ ins = .caload) ∨ (t = 3 ∧ ins = .baload)) (hc : q_get h r = some (t, n, d)) (h1 : i < n) (h2 : i < 2147483648)
    (k : q_W E M Q (pc + 1) lo (.inl (q_rd d i) :: st) ce sl h) : q_W E M Q pc lo (.inl i :: .inr (.inl r) :: st) ce sl h := by
  intro p e R s m args below meth c A ad0 Z H locs ls stv C T Rt
  obtain ⟨ad, tys, ws, lv, h1', h2', h3, h4, h5⟩ := T
  match stv, h4 with
  | v :: v0 :: stv, ⟨ex, ⟨a0, e0, e1⟩, h4⟩ =>
    subst e1
    cases ex
    obtain ⟨a, cA, t0, g1, g2, g3⟩ := q_arr h5.1 hc (by rcases hi with ⟨z, -⟩ | ⟨z, -⟩ | ⟨z, -⟩ <;> omega)
    rw [g1] at e0
    cases e0
    have kz := k.go (stv := .int (nI (q_rd d i)) :: stv) C ⟨ad, tys, ws, lv, h1', h2', h3, ⟨rfl, h4⟩, h5⟩ Rt
    have ec : (nI i).toNatClampNeg = i := nI_clamp h2
    rcases hi with ⟨z, z2⟩ | ⟨z, z2⟩ | ⟨z, z2⟩
    · subst z; subst z2
      exact va_iald C.1.1 C.1.2 h2' h5.2.1 r t0 g3 g2 (q_in h1 h2) hd (by rw [ec]; exact kz)
    · subst z; subst z2
      exact va_cald C.1.1 C.1.2 h2' h5.2.1 r t0 g3 g2 (q_in h1 h2) hd (by rw [ec]; exact kz)
    · subst z; subst z2
      exact va_zald C.1.1 C.1.2 h2' h5.2.1 r t0 g3 g2 (q_in h1 h2) hd (by rw [ec]; exact kz)
theorem q_ald_L {r i n d : Nat} (hd : decode M.2.1 pc = .ok (.laload, 1)) (hc : q_get h r = some (1, n, d)) (h1 : i < n) (h2 : i < 2147483648)
    (k : q_W E M Q (pc + 1) lo (.inr (.inr (.inl (q_rd d i))) :: st) ce sl h) : q_W E M Q pc lo (.inl i :: .inr (.inl r) :: st) ce sl h := by
  intro p e R s m args below meth c A ad0 Z H locs ls stv C T Rt
  obtain ⟨ad, tys, ws, lv, h1', h2', h3, h4, h5⟩ := T
  match stv, h4 with
  | v :: v0 :: stv, ⟨ex, ⟨a0, e0, e1⟩, h4⟩ =>
    subst e1
    cases ex
    obtain ⟨a, cA, t0, g1, g2, g3⟩ := q_arrL h5.1 hc
    rw [g1] at e0
    cases e0
    have kz := k.go (stv := .long (lN (q_rd d i)) :: stv) C ⟨ad, tys, ws, lv, h1', h2', h3, ⟨rfl, h4⟩, h5⟩ Rt
    have ec : (nI i).toNatClampNeg = i := nI_clamp h2
    exact va_lald C.1.1 C.1.2 h2' h5.2.1 r t0 g3 g2 (q_in h1 h2) hd (by rw [ec]; exact kz)
theorem q_ald_R {r r' i n d : Nat} (hd : decode M.2.1 pc = .ok (.aaload, 1)) (hc : q_get h r = some (4, n, d)) (h1 : i < n) (h2 : i < 2147483648) (hr : q_rd d i = r' + 1)
    (k : q_W E M Q (pc + 1) lo (.inr (.inl r') :: st) ce sl h) : q_W E M Q pc lo (.inl i :: .inr (.inl r) :: st) ce sl h := by
  intro p e R s m args below meth c A ad0 Z H locs ls stv C T Rt
  obtain ⟨ad, tys, ws, lv, h1', h2', h3, h4, h5⟩ := T
  match stv, h4 with
  | v :: v0 :: stv, ⟨ex, ⟨a0, e0, e1⟩, h4⟩ =>
    subst e1
    cases ex
    obtain ⟨a, cA, t0, f, g1, g2, g3, g4⟩ := q_arrR h5.1 hc
    rw [g1] at e0
    cases e0
    have g5 := g4 i
    rw [hr] at g5
    rcases g5 with ⟨g5, -⟩ | ⟨r2, a2, g5, g6, g7⟩
    · omega
    · have : r2 = r' := by omega
      subst this
      have kz := k.go (stv := .ref a2 :: stv) C ⟨ad, tys, ws, lv, h1', h2', h3, ⟨⟨a2, g6, rfl⟩, h4⟩, h5⟩ Rt
      have ec : (nI i).toNatClampNeg = i := nI_clamp h2
      exact va_aldq C.1.1 C.1.2 h2' h5.2.1 r t0 g3 g2 (q_in h1 h2) hd (by rw [ec, g7]; exact kz)
/-- a store of a whole number -/
theorem q_ast {t r i n d v : Nat} {ins : Instr} (hd : decode M.2.1 pc = .ok (ins, 1)) (hi : (t = 0 ∧ ins = .iastore) ∨ (t = 2 ∧ ins = .castore ∧ v < 65536) ∨ (t = 3 ∧ ins = .bastore ∧ v < 2)) (hc : q_get h r = some (t, n, d)) (h1 : i < n) (h2 : i < 2147483648)
    (k : q_W E M Q (pc + 1) lo st ce sl (q_put h r (t, n, q_wr d i (v % 18446744073709551616)))) : q_W E M Q pc lo (.inl v :: .inl i :: .inr (.inl r) :: st) ce sl h := by
  intro p e R s m args below meth c A ad0 Z H locs ls stv C T Rt
  obtain ⟨ad, tys, ws, lv, h1', h2', h3, h4, h5⟩ := T
  match stv, h4 with
  | w :: w2 :: v0 :: stv, ⟨ex, ey, ⟨a0, e0, e1⟩, h4⟩ =>
    subst e1
    cases ex
    cases ey
    obtain ⟨a, cA, t0, g1, g2, g3⟩ := q_arr h5.1 hc (by rcases hi with ⟨z, -⟩ | ⟨z, -⟩ | ⟨z, -⟩ <;> omega)
    rw [g1] at e0
    cases e0
    have ec : (nI i).toNatClampNeg = i := nI_clamp h2
    have key : ∀ x : Int32, x = nI v → ∀ (H1 : Heap) (locs1 : List Loc), va_P E.2.1 q_cl (ws.set r (a0, .inl (cA, n, .inl (upd (fun j => nI (q_rd d j)) (nI i).toNatClampNeg x)))) H1 → va_D A (ws.set r (a0, .inl (cA, n, .inl (upd (fun j => nI (q_rd d j)) (nI i).toNatClampNeg x)))) → va_S A s.heap H1 locs1 → W p E.1 e R s m args below meth c H1 locs1 ce sl Z (F0 m (pc + 1) ls stv) := by
      intro x hx H1 locs1 y1 y2 y3
      rw [ec, q_upd hx] at y1 y2
      refine k.go C ⟨ad, tys, _, lv, h1', h2', h3, h4, q_hr_set h5.1 hc g1 ?_, y1, y2, y3⟩ Rt
      rcases hi with ⟨z, -⟩ | ⟨z, -⟩ | ⟨z, -⟩
      · subst z; exact Or.inl ⟨rfl, cA, t0, g2, rfl⟩
      · subst z; exact Or.inr (Or.inr (Or.inl ⟨rfl, cA, t0, g2, rfl⟩))
      · subst z; exact Or.inr (Or.inr (Or.inr (Or.inl ⟨rfl, cA, t0, g2, rfl⟩)))
    rcases hi with ⟨z, z2⟩ | ⟨z, z2, z3⟩ | ⟨z, z2, z3⟩
    · subst z; subst z2
      exact va_iast C.1.1 C.1.2 h2' h5.2.1 h5.2.2.1 h5.2.2.2 r t0 g3 g2 (q_in h1 h2) hd (key _ rfl)
    · subst z; subst z2
      exact va_cast C.1.1 C.1.2 h2' h5.2.1 h5.2.2.1 h5.2.2.2 r t0 g3 g2 (q_in h1 h2) hd (key _ (q_nar_char z3))
    · subst z; subst z2
      exact va_zast C.1.1 C.1.2 h2' h5.2.1 h5.2.2.1 h5.2.2.2 r t0 g3 g2 (q_in h1 h2) hd (key _ (q_nar_bool z3).1)
theorem q_ast_L {r i n d v : Nat} (hd : decode M.2.1 pc = .ok (.lastore, 1)) (hc : q_get h r = some (1, n, d)) (h1 : i < n) (h2 : i < 2147483648)
    (k : q_W E M Q (pc + 1) lo st ce sl (q_put h r (1, n, q_wr d i (v % 18446744073709551616)))) : q_W E M Q pc lo (.inr (.inr (.inl v)) :: .inl i :: .inr (.inl r) :: st) ce sl h := by
  intro p e R s m args below meth c A ad0 Z H locs ls stv C T Rt
  obtain ⟨ad, tys, ws, lv, h1', h2', h3, h4, h5⟩ := T
  match stv, h4 with
  | w :: w2 :: v0 :: stv, ⟨ex, ey, ⟨a0, e0, e1⟩, h4⟩ =>
    subst e1
    cases ex
    cases ey
    obtain ⟨a, cA, t0, g1, g2, g3⟩ := q_arrL h5.1 hc
    rw [g1] at e0
    cases e0
    have ec : (nI i).toNatClampNeg = i := nI_clamp h2
    refine va_last C.1.1 C.1.2 h2' h5.2.1 h5.2.2.1 h5.2.2.2 r t0 g3 g2 (q_in h1 h2) hd (fun H1 locs1 y1 y2 y3 => ?_)
    rw [ec, q_updL] at y1 y2
    exact k.go C ⟨ad, tys, _, lv, h1', h2', h3, h4, q_hr_set h5.1 hc g1 (Or.inr (Or.inl ⟨rfl, cA, t0, g2, rfl⟩)), y1, y2, y3⟩ Rt
theorem q_ast_R {r r' i n d n' d' : Nat} (hd : decode M.2.1 pc = .ok (.aastore, 1)) (hc : q_get h r = some (4, n, d)) (hc' : q_get h r' = some (2 + 5, n', d')) (h1 : i < n) (h2 : i < 2147483648) (hr : r' + 1 < 18446744073709551616)
    (k : q_W E M Q (pc + 1) lo st ce sl (q_put h r (4, n, q_wr d i (r' + 1)))) : q_W E M Q pc lo (.inr (.inl r') :: .inl i :: .inr (.inl r) :: st) ce sl h := by
  intro p e R s m args below meth c A ad0 Z H locs ls stv C T Rt
  obtain ⟨ad, tys, ws, lv, h1', h2', h3, h4, h5⟩ := T
  match stv, h4 with
  | w :: w2 :: v0 :: stv, ⟨⟨b0, u0, u1⟩, ey, ⟨a0, e0, e1⟩, h4⟩ =>
    subst e1
    subst u1
    cases ey
    obtain ⟨a, cA, t0, f, g1, g2, g3, g4⟩ := q_arrR h5.1 hc
    rw [g1] at e0
    cases e0
    obtain ⟨a', fs, q', g1', g2', g3', -⟩ := q_obj h5.1 hc'
    rw [g1'] at u0
    cases u0
    have ec : (nI i).toNatClampNeg = i := nI_clamp h2
    have hq : q' = (RX2, TX2, 7) := (Option.some.inj g3').symm
    subst hq
    refine va_astq C.1.1 C.1.2 h2' h5.2.1 h5.2.2.1 h5.2.2.2 r t0 r' 2 g3 g2 g2' g3' (q_in h1 h2) hd (fun H1 locs1 y1 y2 y3 => ?_)
    refine k.go C ⟨ad, tys, _, lv, h1', h2', h3, h4, q_hr_set h5.1 hc g1 (Or.inr (Or.inr (Or.inr (Or.inr (Or.inl ⟨rfl, cA, t0, _, g2, rfl, fun j => ?_⟩))))), y1, y2, y3⟩ Rt
    show q_opt ad (q_rd (q_wr d i (r' + 1)) j) _
    rw [q_rd_wr hr, ec]
    unfold va_up
    by_cases e : j = i
    · rw [if_pos e, if_pos e]
      exact Or.inr ⟨r', b0, rfl, g1', rfl⟩
    · rw [if_neg e, if_neg e]
      exact g4 j
theorem q_len {t r n d : Nat} (hd : decode M.2.1 pc = .ok (.arraylength, 1)) (hc : q_get h r = some (t, n, d)) (ht : t < 5)
    (k : q_W E M Q (pc + 1) lo (.inl n :: st) ce sl h) : q_W E M Q pc lo (.inr (.inl r) :: st) ce sl h := by
  intro p e R s m args below meth c A ad0 Z H locs ls stv C T Rt
  obtain ⟨ad, tys, ws, lv, h1', h2', h3, h4, h5⟩ := T
  match stv, h4 with
  | v0 :: stv, ⟨⟨a0, e0, e1⟩, h4⟩ =>
    subst e1
    have kz := k.go (stv := .int (nI n) :: stv) C ⟨ad, tys, ws, lv, h1', h2', h3, ⟨rfl, h4⟩, h5⟩ Rt
    obtain ⟨a, e', k1, k2, k3⟩ := h5.1.2.2.2 r _ hc
    rw [k1] at e0
    cases e0
    rcases k3 with ⟨g, cA, t0, g1, g2⟩ | ⟨g, cA, t0, g1, g2⟩ | ⟨g, cA, t0, g1, g2⟩ | ⟨g, cA, t0, g1, g2⟩ | ⟨g, cA, t0, f, g1, g2, -⟩ | ⟨ci', fs, q, g1, -⟩
    · subst g2; exact va_alen C.1.1 C.1.2 h2' h5.2.1 r t0 k2 g1 rfl hd kz
    · subst g2; exact va_alen C.1.1 C.1.2 h2' h5.2.1 r t0 k2 g1 rfl hd kz
    · subst g2; exact va_alen C.1.1 C.1.2 h2' h5.2.1 r t0 k2 g1 rfl hd kz
    · subst g2; exact va_alen C.1.1 C.1.2 h2' h5.2.1 r t0 k2 g1 rfl hd kz
    · subst g2; exact va_alen C.1.1 C.1.2 h2' h5.2.1 r t0 k2 g1 rfl hd kz
    · have g1 : t = ci' + 5 := g1; omega
/-- the static rows, the script -/
theorem q_gets1 {idx : Nat} (hd : decode M.2.1 pc = .ok (.getstatic idx, 3)) (hf : Cond.fieldLink M.1.cls idx "TreePasses" "CHILDREN" "[I" ∈ q_gd)
    (k : q_W E M Q (pc + 3) lo (.inr (.inr (.inr (.inr (.inr (.inl 1))))) :: st) ce sl h) : q_W E M Q pc lo st ce sl h := by
  intro p e R s m args below meth c A ad0 Z H locs ls stv C T Rt
  obtain ⟨ad, tys, ws, lv, h1', h2', h3, h4, h5⟩ := T
  exact va_gets C.1.1 C.1.2 C.2.2.2.2.2.2.2.2.1.2.1.1 h5.2.2.2 C.2.2.2.2.1 (C.2.2.2.2.2.1 _ hf) (fun _ z => z) hd (k.go C ⟨ad, tys, ws, lv, h1', h2', h3, ⟨rfl, h4⟩, h5⟩ Rt)
theorem q_gets2 {idx : Nat} {host : String} (hd : decode M.2.1 pc = .ok (.getstatic idx, 3)) (hf : Cond.fieldLinkNest M.1.cls idx "TreePasses" "WHERE" "[J" host ∈ q_nst)
    (k : q_W E M Q (pc + 3) lo (.inr (.inr (.inr (.inr (.inr (.inl 2))))) :: st) ce sl h) : q_W E M Q pc lo st ce sl h := by
  intro p e R s m args below meth c A ad0 Z H locs ls stv C T Rt
  obtain ⟨ad, tys, ws, lv, h1', h2', h3, h4, h5⟩ := T
  exact va_getsN C.1.1 C.1.2 C.2.2.2.2.2.2.2.2.1.2.2.1.1 h5.2.2.2 C.2.2.2.2.1 (q_Cx_nst C hf) (fun _ z => z) hd (k.go C ⟨ad, tys, ws, lv, h1', h2', h3, ⟨rfl, h4⟩, h5⟩ Rt)
theorem q_sld1 {i : Nat} (hd : decode M.2.1 pc = .ok (.iaload, 1)) (h1 : i < 5)
    (k : q_W E M Q (pc + 1) lo (.inl (q_chi i) :: st) ce sl h) : q_W E M Q pc lo (.inl i :: .inr (.inr (.inr (.inr (.inr (.inl 1))))) :: st) ce sl h := by
  intro p e R s m args below meth c A ad0 Z H locs ls stv C T Rt
  obtain ⟨ad, tys, ws, lv, h1', h2', h3, h4, h5⟩ := T
  match stv, h4 with
  | v :: v0 :: stv, ⟨ex, ey, h4⟩ =>
    cases ex; cases ey
    have ec : (nI i).toNatClampNeg = i := nI_clamp (by omega)
    exact va_ti C.1.1 C.1.2 C.2.2.2.2.2.2.2.2.1.2.1.2 h5.2.2.2 (q_in h1 (by omega)) (v := .int (nI (q_chi i))) (by rw [ec]) hd (k.go C ⟨ad, tys, ws, lv, h1', h2', h3, ⟨rfl, h4⟩, h5⟩ Rt)
theorem q_sld2 {i : Nat} (hd : decode M.2.1 pc = .ok (.laload, 1)) (h1 : i < 6)
    (k : q_W E M Q (pc + 1) lo (.inr (.inr (.inl (q_whe i))) :: st) ce sl h) : q_W E M Q pc lo (.inl i :: .inr (.inr (.inr (.inr (.inr (.inl 2))))) :: st) ce sl h := by
  intro p e R s m args below meth c A ad0 Z H locs ls stv C T Rt
  obtain ⟨ad, tys, ws, lv, h1', h2', h3, h4, h5⟩ := T
  match stv, h4 with
  | v :: v0 :: stv, ⟨ex, ey, h4⟩ =>
    cases ex; cases ey
    have ec : (nI i).toNatClampNeg = i := nI_clamp (by omega)
    exact va_tl C.1.1 C.1.2 C.2.2.2.2.2.2.2.2.1.2.2.1.2 h5.2.2.2 (q_in h1 (by omega)) (v := .long (lN (q_whe i))) (by rw [ec]) hd (k.go C ⟨ad, tys, ws, lv, h1', h2', h3, ⟨rfl, h4⟩, h5⟩ Rt)
theorem q_sld0 {i : Nat} (hd : decode M.2.1 pc = .ok (.iaload, 1)) (h1 : i < E.2.2.2.2) (h2 : i < 2147483648)
    (k : q_W E M Q (pc + 1) lo (.inr (.inr (.inr (.inl i))) :: st) ce sl h) : q_W E M Q pc lo (.inl i :: .inr (.inr (.inr (.inr (.inr (.inl 0))))) :: st) ce sl h := by
  intro p e R s m args below meth c A ad0 Z H locs ls stv C T Rt
  obtain ⟨ad, tys, ws, lv, h1', h2', h3, h4, h5⟩ := T
  match stv, h4 with
  | v :: v0 :: stv, ⟨ex, ey, h4⟩ =>
    cases ex; cases ey
    have ec : (nI i).toNatClampNeg = i := nI_clamp h2
    obtain ⟨w1, w2, w3⟩ := C.2.2.2.2.2.2.2.2.1.1
    exact va_sld C.1.1 C.1.2 w1 w2 w3 h5.2.2.2 (q_in h1 h2) hd (k.go C ⟨ad, tys, ws, lv, h1', h2', h3, ⟨by rw [ec]; rfl, h4⟩, h5⟩ Rt)
theorem q_slen0 (hd : decode M.2.1 pc = .ok (.arraylength, 1))
    (k : q_W E M Q (pc + 1) lo (.inl E.2.2.2.2 :: st) ce sl h) : q_W E M Q pc lo (.inr (.inr (.inr (.inr (.inr (.inl 0))))) :: st) ce sl h := by
  intro p e R s m args below meth c A ad0 Z H locs ls stv C T Rt
  obtain ⟨ad, tys, ws, lv, h1', h2', h3, h4, h5⟩ := T
  match stv, h4 with
  | v0 :: stv, ⟨ey, h4⟩ =>
    cases ey
    obtain ⟨w1, w2, w3⟩ := C.2.2.2.2.2.2.2.2.1.1
    exact va_slen C.1.1 C.1.2 w1 w2 w3 h5.2.2.2 hd (k.go C ⟨ad, tys, ws, lv, h1', h2', h3, ⟨rfl, h4⟩, h5⟩ Rt)
theorem q_ldcS (hM : M.1.cls = "TreePasses") (hd : decode M.2.1 pc = .ok (.ldc 76, 2))
    (k : q_W E M Q (pc + 2) lo (.inr (.inr (.inr (.inr (.inr (.inl 3))))) :: st) ce sl h) : q_W E M Q pc lo st ce sl h := by
  intro p e R s m args below meth c A ad0 Z H locs ls stv C T Rt
  obtain ⟨ad, tys, ws, lv, h1', h2', h3, h4, h5⟩ := T
  exact va_ldcS C.1.1 C.1.2 (by rw [← hM]; exact C.2.2.2.2.1) C.2.2.2.2.2.2.2.2.1.2.2.2.1.1 hd (k.go C ⟨ad, tys, ws, lv, h1', h2', h3, ⟨rfl, h4⟩, h5⟩ Rt)
end
