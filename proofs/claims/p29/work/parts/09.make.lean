theorem q_dv : ∀ ci (q : vw_C), q_cl[ci]? = some q → ∀ k, k < q.2.2 → (q_isr (q_ty ci k) = false ∧ defaultValue (q_ty ci k) = .int (nI 0)) ∨ (q_isr (q_ty ci k) = true ∧ defaultValue (q_ty ci k) = .null) := by
  intro ci q hq
  match ci, hq with
  | 0, hq => cases hq; decide +kernel
  | 1, hq => cases hq; decide +kernel
  | 2, hq => cases hq; decide +kernel
  | 3, hq => cases hq; decide +kernel
  | 4, hq => cases hq; decide +kernel
  | 5, hq => cases hq; decide +kernel
  | 6, hq => cases hq; decide +kernel
  | 7, hq => cases hq; decide +kernel
  | 8, hq => cases hq; decide +kernel
  | 9, hq => cases hq; decide +kernel
  | k + 10, hq => simp [q_cl] at hq
/-- the code of a long -/
def q_sx (n : Nat) : Nat := (q_bi n + 18446744071562067968) % 18446744073709551616
theorem q_i2lx (a : Nat) : (nI a).toInt64 = lN (q_sx a) := by unfold q_sx; exact q_i2l a
def q_cdL (E : q_E) : q_V → Option Nat
  | .inr (.inr (.inl n)) => some n
  | .inr (.inr (.inr (.inr (.inl k)))) => some (q_sx (E.2.2.2.1 k))
  | _ => none
theorem q_cdL_vr {E : q_E} {x : q_V} {a : Nat} {ad : List Nat} {v : Value} (hx : q_cdL E x = some a) (h : q_vr E ad x v) : v = .long (lN a) := by
  exact match x, hx, h with
  | .inr (.inr (.inl n)), hx, h => by cases hx; exact h
  | .inr (.inr (.inr (.inr (.inl k)))), hx, h => by
    have e : q_sx (E.2.2.2.1 k) = a := Option.some.inj hx
    rw [← e]
    exact Eq.trans (show v = .long (nI (E.2.2.2.1 k)).toInt64 from h) (congrArg Value.long (q_i2lx _))
theorem q_lcmpv (a b : Nat) : lg_cmp (lN a) (lN b) = nI (if q_bl b < q_bl a then 1 else if q_bl a = q_bl b then 0 else 4294967295) := by
  unfold lg_cmp
  by_cases h1 : q_bl b < q_bl a
  · rw [if_pos h1, if_pos (q_ltL.mpr h1)]; rfl
  · rw [if_neg h1, if_neg (fun z => h1 (q_ltL.mp z))]
    by_cases h2 : q_bl a = q_bl b
    · rw [if_pos h2, if_pos (q_eqL.mpr h2)]; rfl
    · rw [if_neg h2, if_neg (fun z => h2 (q_eqL.mp z))]; decide +kernel
def q_at (t : Nat) : ArrayType := match t with
  | 0 => .int | 1 => .long | 2 => .char | _ => .boolean
section
variable {E : q_E} {M : q_M} {Q : Option q_V → q_H → Prop} {pc : Nat} {lo : q_Lo} {st : List q_V} {ce sl : Nat} {h : q_H}
theorem q_lcmp {x y : q_V} {a b : Nat} (hd : decode M.2.1 pc = .ok (.lcmp, 1)) (hx : q_cdL E x = some a) (hy : q_cdL E y = some b)
    (k : q_W E M Q (pc + 1) lo (.inl (if q_bl b < q_bl a then 1 else if q_bl a = q_bl b then 0 else 4294967295) :: st) ce sl h) : q_W E M Q pc lo (y :: x :: st) ce sl h := by
  intro p e R s m args below meth c A ad0 Z H locs ls stv C T Rt
  obtain ⟨ad, tys, ws, lv, h1, h2, h3, h4, h5⟩ := T
  match stv, h4 with
  | v0 :: v1 :: stv, ⟨e0, e1, h4⟩ =>
    rw [q_cdL_vr hy e0, q_cdL_vr hx e1]
    refine W.lcmp C.1.1 C.1.2 hd ?_
    rw [q_lcmpv]
    exact k.go C ⟨ad, tys, ws, lv, h1, h2, h3, ⟨rfl, h4⟩, h5⟩ Rt
/-- a switch by a table: lo0 and the table's length are Nats here -/
theorem q_tswIn {x : q_V} {a len i : Nat} {dflt off lo0 hi0 : Int} {offs : Array Int} {tgt : Nat} (hd : decode M.2.1 pc = .ok (.tableswitch dflt lo0 hi0 offs, len)) (hx : q_cd E x = some a) (ha : (q_bi a : Int) - 2147483648 = lo0 + i) (hi : lo0 + i ≤ hi0) (ho : offs[i]? = some off) (ht : (pc : Int) + off = (tgt : Int))
    (k : q_W E M Q tgt lo st ce sl h) : q_W E M Q pc lo (x :: st) ce sl h := by
  intro p e R s m args below meth c A ad0 Z H locs ls stv C T Rt
  obtain ⟨ad, tys, ws, lv, h1, h2, h3, h4, h5⟩ := T
  match stv, h4 with
  | v0 :: stv, ⟨e0, h4⟩ =>
    rw [q_cd_vr hx e0]
    refine lv_tableIn C.1.1 C.1.2 hd (by rw [q_toInt, ha]; omega) (by rw [q_toInt, ha]; omega) ?_ ht (k.go C ⟨ad, tys, ws, lv, h1, h2, h3, h4, h5⟩ Rt)
    rw [q_toInt, ha, show (lo0 + (i : Int) - lo0).toNat = i by omega]
    exact ho
theorem q_tswOut {x : q_V} {a len : Nat} {dflt lo0 hi0 : Int} {offs : Array Int} {tgt : Nat} (hd : decode M.2.1 pc = .ok (.tableswitch dflt lo0 hi0 offs, len)) (hx : q_cd E x = some a) (ha : (q_bi a : Int) - 2147483648 < lo0 ∨ hi0 < (q_bi a : Int) - 2147483648) (ht : (pc : Int) + dflt = (tgt : Int))
    (k : q_W E M Q tgt lo st ce sl h) : q_W E M Q pc lo (x :: st) ce sl h := by
  intro p e R s m args below meth c A ad0 Z H locs ls stv C T Rt
  obtain ⟨ad, tys, ws, lv, h1, h2, h3, h4, h5⟩ := T
  match stv, h4 with
  | v0 :: stv, ⟨e0, h4⟩ =>
    rw [q_cd_vr hx e0]
    exact lv_tableOut C.1.1 C.1.2 hd (by rw [q_toInt]; exact ha) ht (k.go C ⟨ad, tys, ws, lv, h1, h2, h3, h4, h5⟩ Rt)
/-- a new object -/
theorem q_new {idx ci : Nat} {q : vw_C} (hd : decode M.2.1 pc = .ok (.new idx, 3)) (hq : q_cl[ci]? = some q) (hw : Cond.classLink M.1.cls idx q.1 ∈ q_gd) (hi : Cond.instantiable q.1 q.2.2 ∈ q_gd) (hn : Cond.initialized q.1 ∈ q_gd) (hc : ce + 1 ≤ M.2.2.2.2.cells) (hs : sl + q.2.2 ≤ M.2.2.2.2.slots)
    (k : q_W E M Q (pc + 3) lo (.inr (.inl (q_cnt h)) :: st) (ce + 1) (sl + q.2.2) (q_push h (ci + 5, q.2.2, 0))) : q_W E M Q pc lo st ce sl h := by
  intro p e R s m args below meth c A ad0 Z H locs ls stv C T Rt
  obtain ⟨ad, tys, ws, lv, ⟨z, h1⟩, h2, h3, h4, h5⟩ := T
  have hR := C.2.2.2.2.2.2.2.1
  have hts := C.2.2.2.2.2.1
  obtain ⟨w1, w2, w3⟩ := q_cw ci q hq
  refine va_new (fs := (List.range q.2.2).map (fun j => defaultValue (q_ty ci j))) C.1.1 C.1.2 hts w1 (q_ty ci) w2 C.2.2.2.2.1 (hts _ hw) (hts _ hi) (hts _ hn) h2 h5.2.1 h5.2.2.1 h5.2.2.2 C.2.2.2.2.2.2.2.2.2 hq (fun j hj => by simp [vp_V, List.getD, hj]) (by rw [hR]; exact hc) (by rw [hR]; exact hs) hd (fun a H1 y1 y2 y3 => ?_)
  have hh := q_hr_push (t2 := []) (q := a) (c := (ci + 5, q.2.2, 0)) (e := .inr (ci, (List.range q.2.2).map (fun j => defaultValue (q_ty ci j)))) h5.1 (by
    refine Or.inr (Or.inr (Or.inr (Or.inr (Or.inr ⟨ci, _, q, rfl, hq, rfl, rfl, by simp, fun k' hk' => ?_⟩))))
    have hk' : k' < q.2.2 := hk'
    refine ⟨defaultValue (q_ty ci k'), by simp [hk'], ?_⟩
    show q_fr _ _ (q_rd 0 k') _
    rw [q_rd_zero]
    rcases q_dv ci q hq k' hk' with ⟨g1, g2⟩ | ⟨g1, g2⟩
    · rw [g1, g2]; rfl
    · rw [g1, g2]; exact Or.inl ⟨rfl, rfl⟩)
  rw [List.append_nil] at hh
  exact k.go C ⟨ad ++ [a], tys, _, lv, ⟨z ++ [a], by rw [h1, List.append_assoc]⟩, h2, ⟨h3.1, q_lr_mono h3.2⟩, ⟨⟨a, q_new_ref h5.1, rfl⟩, q_sr_mono h4⟩, hh, y1, y2, y3⟩ Rt
/-- a new array of whole numbers -/
theorem q_newa {t n : Nat} (ht : t < 4) (hd : decode M.2.1 pc = .ok (.newarray (q_at t), 2)) (hw : Cond.arrayClass (newarray.typeOf (q_at t)) ∈ q_gd) (hn : n < 1000000) (hc : ce + 1 ≤ M.2.2.2.2.cells) (hs : sl + n ≤ M.2.2.2.2.slots)
    (k : q_W E M Q (pc + 2) lo (.inr (.inl (q_cnt h)) :: st) (ce + 1) (sl + n) (q_push h (t, n, 0))) : q_W E M Q pc lo (.inl n :: st) ce sl h := by
  intro p e R s m args below meth c A ad0 Z H locs ls stv C T Rt
  obtain ⟨ad, tys, ws, lv, ⟨z, h1⟩, h2, h3, h4, h5⟩ := T
  have hR := C.2.2.2.2.2.2.2.1
  have hts := C.2.2.2.2.2.1
  match stv, h4 with
  | v0 :: stv, ⟨e0, h4⟩ =>
    cases e0
    have hb : n * componentBytes (newarray.typeOf (q_at t)) ≤ 536870912 := by
      have : componentBytes (newarray.typeOf (q_at t)) ≤ 8 := by
        have : t = 0 ∨ t = 1 ∨ t = 2 ∨ t = 3 := by omega
        rcases this with rfl | rfl | rfl | rfl <;> decide
      have := Nat.mul_le_mul (Nat.le_of_lt hn) this
      omega
    have hcl : (nI n).toNatClampNeg = n := nI_clamp (by omega)
    have hpos : ¬ nI n < 0 := nI_pos (by omega)
    have key : ∀ (a0 : vp_A) (ty : FieldType), newarray.typeOf (q_at t) = ty → (∀ cA : ClassId, vp_cell cA a0 = arrV cA n (fun _ => defaultValue ty)) → (∀ (q : Nat) (cA : ClassId), q_cr (tys ++ [(cA, ty)]) (ad ++ [q]) (t, n, 0) (.inl (cA, a0))) → W p E.1 e R s m args below meth c H locs ce sl Z (F0 m pc ls (.int (nI n) :: stv)) := by
      intro a0 ty hty ha hcr
      refine va_newa C.1.1 C.1.2 (hts _ hw) hty h2 h5.2.1 h5.2.2.1 h5.2.2.2 C.2.2.2.2.2.2.2.2.2 ha hpos hcl (by rw [← hty]; exact hb) (by rw [hR]; exact hc) (by rw [hR]; exact hs) hd (fun a cA H1 y0 y1 y2 y3 => ?_)
      exact k.go C ⟨ad ++ [a], tys ++ [(cA, ty)], _, lv, ⟨z ++ [a], by rw [h1, List.append_assoc]⟩, y0, ⟨h3.1, q_lr_mono h3.2⟩, ⟨⟨a, q_new_ref h5.1, rfl⟩, q_sr_mono h4⟩, q_hr_push h5.1 (hcr a cA), y1, y2, y3⟩ Rt
    have hz : (fun j : Nat => Value.int (nI (q_rd 0 j))) = fun _ => .int 0 := by
      funext j; rw [q_rd_zero, nI_0]
    have ht4 : t = 0 ∨ t = 1 ∨ t = 2 ∨ t = 3 := by omega
    rcases ht4 with rfl | rfl | rfl | rfl
    · refine key (n, .inl (fun i => nI (q_rd 0 i))) .int rfl (fun cA => ?_) (fun q cA => Or.inl ⟨rfl, cA, tys.length, by simp, rfl⟩)
      rw [vp_cell_i, hz]; rfl
    · refine key (n, .inr (.inl (fun i => lN (q_rd 0 i)))) .long rfl (fun cA => ?_) (fun q cA => Or.inr (Or.inl ⟨rfl, cA, tys.length, by simp, rfl⟩))
      rw [vp_cell_l]
      have : (fun j : Nat => Value.long (lN (q_rd 0 j))) = fun _ => .long 0 := by
        funext j; rw [q_rd_zero]; rfl
      rw [this]; rfl
    · refine key (n, .inl (fun i => nI (q_rd 0 i))) .char rfl (fun cA => ?_) (fun q cA => Or.inr (Or.inr (Or.inl ⟨rfl, cA, tys.length, by simp, rfl⟩)))
      rw [vp_cell_i, hz]; rfl
    · refine key (n, .inl (fun i => nI (q_rd 0 i))) .boolean rfl (fun cA => ?_) (fun q cA => Or.inr (Or.inr (Or.inr (Or.inl ⟨rfl, cA, tys.length, by simp, rfl⟩))))
      rw [vp_cell_i, hz]; rfl
theorem q_newq {idx n : Nat} (hd : decode M.2.1 pc = .ok (.anewarray idx, 3)) (hw : Cond.classLink M.1.cls idx RX2 ∈ q_gd) (hn : n < 1000000) (hc : ce + 1 ≤ M.2.2.2.2.cells) (hs : sl + n ≤ M.2.2.2.2.slots)
    (k : q_W E M Q (pc + 3) lo (.inr (.inl (q_cnt h)) :: st) (ce + 1) (sl + n) (q_push h (4, n, 0))) : q_W E M Q pc lo (.inl n :: st) ce sl h := by
  intro p e R s m args below meth c A ad0 Z H locs ls stv C T Rt
  obtain ⟨ad, tys, ws, lv, ⟨z, h1⟩, h2, h3, h4, h5⟩ := T
  have hR := C.2.2.2.2.2.2.2.1
  have hts := C.2.2.2.2.2.1
  match stv, h4 with
  | v0 :: stv, ⟨e0, h4⟩ =>
    cases e0
    refine va_newq C.1.1 C.1.2 C.2.2.2.2.1 (hts _ hw) C.2.2.2.2.2.2.2.2.1.2.2.2.2.2 h2 h5.2.1 h5.2.2.1 h5.2.2.2 C.2.2.2.2.2.2.2.2.2 (nI_pos (by omega)) (nI_clamp (by omega)) (by omega) (by rw [hR]; exact hc) (by rw [hR]; exact hs) hd (fun a cA H1 y0 y1 y2 y3 => ?_)
    exact k.go C ⟨ad ++ [a], tys ++ [(cA, .object RX2)], _, lv, ⟨z ++ [a], by rw [h1, List.append_assoc]⟩, y0, ⟨h3.1, q_lr_mono h3.2⟩, ⟨⟨a, q_new_ref h5.1, rfl⟩, q_sr_mono h4⟩, q_hr_push h5.1 (Or.inr (Or.inr (Or.inr (Or.inr (Or.inl ⟨rfl, cA, tys.length, _, by simp, rfl, fun i => Or.inl ⟨by show q_rd 0 i = 0; exact q_rd_zero i, rfl⟩⟩))))), y1, y2, y3⟩ Rt
/-- words of the operand stack below -/
def q_wd (st : List q_V) : Nat := (st.map q_cat).sum
theorem q_wd_sr {ad : List Nat} : ∀ {st : List q_V} {stv : List Value}, q_sr E ad st stv → (stv.map fun v => v.category).sum = q_wd st
  | [], [], _ => rfl
  | x :: st, v :: stv, h => by
    have h2 := q_wd_sr h.2
    have h1 := q_vr_cat h.1
    unfold q_wd at h2 ⊢
    rw [List.map_cons, List.map_cons, List.sum_cons, List.sum_cons, h2, h1]
theorem q_objInit {r idx : Nat} (hd : decode M.2.1 pc = .ok (.invokespecial idx, 3)) (hw : Cond.methodLink M.1.cls idx Lib.objectInit ∈ q_gd) (hf : 1 ≤ M.2.2.2.2.frames) (hl : q_wd st + 12 ≤ M.2.2.2.2.locals) (hg : Cond.instanceMethod Lib.objectInit ∈ q_gd ∧ Cond.code Lib.objectInit ⟨#[0xb1]⟩ 1 none ∈ q_gd)
    (k : q_W E M Q (pc + 3) lo st ce sl h) : q_W E M Q pc lo (.inr (.inl r) :: st) ce sl h := by
  intro p e R s m args below meth c A ad0 Z H locs ls stv C T Rt
  obtain ⟨ad, tys, ws, lv, h1, h2, h3, h4, h5⟩ := T
  have hR := C.2.2.2.2.2.2.2.1
  have hts := C.2.2.2.2.2.1
  match stv, h4 with
  | v0 :: stv, ⟨⟨a0, e0, e1⟩, h4⟩ =>
    subst e1
    exact W.objInit C.1.1 C.1.2 C.2.2.2.2.1 (hts _ hw) (hts _ hg.1) (hts _ hg.2) rfl (h3.1.1.trans C.2.1.symm) rfl hd (by rw [hR]; exact hf) (by rw [hR, q_wd_sr h4]; show 2 * 0 + _ + 12 ≤ _; omega) (k.go C ⟨ad, tys, ws, lv, h1, h2, h3, h4, h5⟩ Rt)
theorem q_copy {r r' sp dp n n0 d0 n1 d1 idx : Nat} (hd : decode M.2.1 pc = .ok (.invokestatic idx, 3)) (hw : Cond.methodLink M.1.cls idx arraycopyName ∈ q_gd) (hg : Cond.native arraycopyName ∈ q_gd ∧ Cond.static arraycopyName ∈ q_gd ∧ Cond.initialized "java/lang/System" ∈ q_gd) (hf : 1 ≤ M.2.2.2.2.frames) (hl : q_wd st + 18 ≤ M.2.2.2.2.locals)
    (hc : q_get h r = some (0, n0, d0)) (hc' : q_get h r' = some (0, n1, d1)) (b1 : sp + n ≤ n0) (b2 : dp + n ≤ n1) (c1 : sp < 2147483648) (c2 : dp < 2147483648) (c3 : n < 2147483648)
    (k : q_W E M Q (pc + 3) lo st ce sl (q_put h r' (0, n1, q_cp d1 d0 sp dp n))) : q_W E M Q pc lo (.inl n :: .inl dp :: .inr (.inl r') :: .inl sp :: .inr (.inl r) :: st) ce sl h := by
  intro p e R s m args below meth c A ad0 Z H locs ls stv C T Rt
  obtain ⟨ad, tys, ws, lv, h1, h2, h3, h4, h5⟩ := T
  have hR := C.2.2.2.2.2.2.2.1
  have hts := C.2.2.2.2.2.1
  match stv, h4 with
  | v0 :: v1 :: v2 :: v3 :: v4 :: stv, ⟨e0, e1, ⟨a', u0, u1⟩, e3, ⟨a, w0, w1⟩, h4⟩ =>
    subst u1
    subst w1
    cases e0; cases e1; cases e3
    obtain ⟨b, cA, t0, g1, g2, g3⟩ := q_arr h5.1 hc (Or.inl rfl)
    obtain ⟨b', cA', t0', g1', g2', g3'⟩ := q_arr h5.1 hc' (Or.inl rfl)
    rw [g1] at w0
    cases w0
    rw [g1'] at u0
    cases u0
    refine va_copyi C.1.1 C.1.2 (C.2.1.trans h3.1.1.symm) C.2.2.2.2.1 (hts _ hw) (hts _ hg.1) (hts _ hg.2.1) (hts _ hg.2.2) h2 h5.2.1 h5.2.2.1 h5.2.2.2 r r' t0 t0' g3 g3' g2 g2' rfl (nI_pos c1) (nI_pos c2) (nI_pos c3) (by rw [nI_clamp c1, nI_clamp c3]; exact b1) (by rw [nI_clamp c2, nI_clamp c3]; exact b2) (fun i _ => rfl) (by rw [hR]; exact hf) (by rw [hR, q_wd_sr h4]; exact hl) hd (fun H1 locs1 y1 y2 y3 => ?_)
    have e : va_cpy (fun i => nI (q_rd d0 i)) (fun i => nI (q_rd d1 i)) (nI sp).toNatClampNeg (nI dp).toNatClampNeg (nI n).toNatClampNeg = fun i => nI (q_rd (q_cp d1 d0 sp dp n) i) := by
      funext j
      rw [nI_clamp c1, nI_clamp c2, nI_clamp c3, q_rd_cp]
      unfold va_cpy
      split <;> rfl
    rw [e] at y1 y2
    exact k.go C ⟨ad, tys, _, lv, h1, h2, h3, h4, q_hr_set h5.1 hc' g1' (Or.inl ⟨rfl, cA', t0', g2', rfl⟩), y1, y2, y3⟩ Rt
theorem q_max {a b idx : Nat} (hd : decode M.2.1 pc = .ok (.invokestatic idx, 3)) (hw : Cond.methodLink M.1.cls idx Lib.Math.max.name ∈ q_gd) (hg : Cond.static Lib.Math.max.name ∈ q_gd ∧ Cond.initialized "java/lang/Math" ∈ q_gd ∧ Cond.code Lib.Math.max.name Lib.Math.max.code 2 (some .int) ∈ q_gd) (hf : 1 ≤ M.2.2.2.2.frames) (hl : q_wd st + 13 ≤ M.2.2.2.2.locals) (hc : ce ≤ M.2.2.2.2.cells) (hs : sl ≤ M.2.2.2.2.slots)
    (k : q_W E M Q (pc + 3) lo (.inl (if q_bi a < q_bi b then b else a) :: st) ce sl h) : q_W E M Q pc lo (.inl b :: .inl a :: st) ce sl h := by
  intro p e R s m args below meth c A ad0 Z H locs ls stv C T Rt
  obtain ⟨ad, tys, ws, lv, h1, h2, h3, h4, h5⟩ := T
  have hR := C.2.2.2.2.2.2.2.1
  have hts := C.2.2.2.2.2.1
  match stv, h4 with
  | v0 :: v1 :: stv, ⟨e0, e1, h4⟩ =>
    cases e0; cases e1
    refine va_mmax C.1.1 C.1.2 (C.2.1.trans h3.1.1.symm) C.2.2.2.2.1 (hts _ hw) (hts _ hg.1) (hts _ hg.2.1) (hts _ hg.2.2) (by rw [hR]; exact hf) (by rw [hR, q_wd_sr h4]; exact hl) (by rw [hR]; exact hc) (by rw [hR]; exact hs) hd ?_
    have e : (if nI a < nI b then nI b else nI a) = nI (if q_bi a < q_bi b then b else a) := by
      by_cases z : q_bi a < q_bi b
      · rw [if_pos z, if_pos (q_lt.mpr z)]
      · rw [if_neg z, if_neg (fun y => z (q_lt.mp y))]
    rw [e]
    exact k.go C ⟨ad, tys, ws, lv, h1, h2, h3, ⟨rfl, h4⟩, h5⟩ Rt
theorem q_min {a b idx : Nat} (hd : decode M.2.1 pc = .ok (.invokestatic idx, 3)) (hw : Cond.methodLink M.1.cls idx Lib.Math.min.name ∈ q_gd) (hg : Cond.static Lib.Math.min.name ∈ q_gd ∧ Cond.initialized "java/lang/Math" ∈ q_gd ∧ Cond.code Lib.Math.min.name Lib.Math.min.code 2 (some .int) ∈ q_gd) (hf : 1 ≤ M.2.2.2.2.frames) (hl : q_wd st + 13 ≤ M.2.2.2.2.locals) (hc : ce ≤ M.2.2.2.2.cells) (hs : sl ≤ M.2.2.2.2.slots)
    (k : q_W E M Q (pc + 3) lo (.inl (if q_bi b < q_bi a then b else a) :: st) ce sl h) : q_W E M Q pc lo (.inl b :: .inl a :: st) ce sl h := by
  intro p e R s m args below meth c A ad0 Z H locs ls stv C T Rt
  obtain ⟨ad, tys, ws, lv, h1, h2, h3, h4, h5⟩ := T
  have hR := C.2.2.2.2.2.2.2.1
  have hts := C.2.2.2.2.2.1
  match stv, h4 with
  | v0 :: v1 :: stv, ⟨e0, e1, h4⟩ =>
    cases e0; cases e1
    refine va_mmin C.1.1 C.1.2 (C.2.1.trans h3.1.1.symm) C.2.2.2.2.1 (hts _ hw) (hts _ hg.1) (hts _ hg.2.1) (hts _ hg.2.2) (by rw [hR]; exact hf) (by rw [hR, q_wd_sr h4]; exact hl) (by rw [hR]; exact hc) (by rw [hR]; exact hs) hd ?_
    have e : (if nI b < nI a then nI b else nI a) = nI (if q_bi b < q_bi a then b else a) := by
      by_cases z : q_bi b < q_bi a
      · rw [if_pos z, if_pos (q_lt.mpr z)]
      · rw [if_neg z, if_neg (fun y => z (q_lt.mp y))]
    rw [e]
    exact k.go C ⟨ad, tys, ws, lv, h1, h2, h3, ⟨rfl, h4⟩, h5⟩ Rt
theorem q_abs {a idx : Nat} (hd : decode M.2.1 pc = .ok (.invokestatic idx, 3)) (hw : Cond.methodLink M.1.cls idx Lib.Math.abs.name ∈ q_gd) (hg : Cond.static Lib.Math.abs.name ∈ q_gd ∧ Cond.initialized "java/lang/Math" ∈ q_gd ∧ Cond.code Lib.Math.abs.name Lib.Math.abs.code 1 (some .int) ∈ q_gd) (hf : 1 ≤ M.2.2.2.2.frames) (hl : q_wd st + 13 ≤ M.2.2.2.2.locals) (hc : ce ≤ M.2.2.2.2.cells) (hs : sl ≤ M.2.2.2.2.slots)
    (k : q_W E M Q (pc + 3) lo (.inl (if 2147483648 ≤ q_bi a then a else (4294967296 - a % 4294967296) % 4294967296) :: st) ce sl h) : q_W E M Q pc lo (.inl a :: st) ce sl h := by
  intro p e R s m args below meth c A ad0 Z H locs ls stv C T Rt
  obtain ⟨ad, tys, ws, lv, h1, h2, h3, h4, h5⟩ := T
  have hR := C.2.2.2.2.2.2.2.1
  have hts := C.2.2.2.2.2.1
  match stv, h4 with
  | v0 :: stv, ⟨e0, h4⟩ =>
    cases e0
    refine va_mabs C.1.1 C.1.2 (C.2.1.trans h3.1.1.symm) C.2.2.2.2.1 (hts _ hw) (hts _ hg.1) (hts _ hg.2.1) (hts _ hg.2.2) (by rw [hR]; exact hf) (by rw [hR, q_wd_sr h4]; exact hl) (by rw [hR]; exact hc) (by rw [hR]; exact hs) hd ?_
    have e : (if 0 ≤ nI a then nI a else 0 - nI a) = nI (if 2147483648 ≤ q_bi a then a else (4294967296 - a % 4294967296) % 4294967296) := by
      by_cases z : 2147483648 ≤ q_bi a
      · rw [if_pos z, if_pos (q_ge0.mpr z)]
      · rw [if_neg z, if_neg (fun y => z (q_ge0.mp y)), ← nI_0, q_sub]
        congr 1
        omega
    rw [e]
    exact k.go C ⟨ad, tys, ws, lv, h1, h2, h3, ⟨rfl, h4⟩, h5⟩ Rt
/-- the end of a method -/
theorem q_ret {r : Option q_V} (hr : q_ri M.2.1 M.2.2.2.1 pc r) (hc : ce ≤ M.2.2.2.2.cells) (hs : sl ≤ M.2.2.2.2.slots) (hQ : Q r h) : q_W E M Q pc lo r.toList ce sl h := by
  intro p e R s m args below meth c A ad0 Z H locs ls stv C T Rt
  obtain ⟨ad, tys, ws, lv, h1, h2, h3, h4, h5⟩ := T
  have hR := C.2.2.2.2.2.2.2.1
  exact Rt pc ls r stv h H locs ce sl hr ⟨ad, tys, ws, [], h1, h2, ⟨⟨h3.1.1, h3.1.2.1, fun q hq => by cases hq⟩, trivial⟩, h4, h5⟩ hQ (by rw [hR]; exact hc) (by rw [hR]; exact hs)
end
