theorem q_bi0 : q_bi 0 = 2147483648 := by decide
theorem q_eq0 {a : Nat} : nI a = 0 ↔ q_bi a = 2147483648 := by rw [← q_bi0]; exact q_eq (b := 0)
theorem q_lt0 {a : Nat} : nI a < 0 ↔ q_bi a < 2147483648 := by rw [← q_bi0]; exact q_lt (b := 0)
theorem q_le0 {a : Nat} : nI a ≤ 0 ↔ q_bi a ≤ 2147483648 := by rw [← q_bi0]; exact q_le (b := 0)
theorem q_gt0 {a : Nat} : 0 < nI a ↔ 2147483648 < q_bi a := by rw [← q_bi0]; exact q_lt (a := 0)
theorem q_ge0 {a : Nat} : 0 ≤ nI a ↔ 2147483648 ≤ q_bi a := by rw [← q_bi0]; exact q_le (a := 0)
section
variable {E : q_E} {M : q_M} {Q : Option q_V → q_H → Prop} {pc : Nat} {lo : q_Lo} {st : List q_V} {ce sl : Nat} {h : q_H}

theorem q_iadd {a b : Nat} (hd : decode M.2.1 pc = .ok (.iadd, 1))
    (k : q_W E M Q (pc + 1) lo ((.inl ((a + b) % 4294967296)) :: st) ce sl h) : q_W E M Q pc lo ((.inl b) :: (.inl a) :: st) ce sl h := by
  intro p e R s m args below meth c A ad0 Z H locs ls stv C T Rt
  obtain ⟨ad, tys, ws, lv, h1, h2, h3, h4, h5⟩ := T
  match stv, h4 with
  | v0 :: v1 :: stv, ⟨e0, e1, h4⟩ =>
    cases e0
    cases e1
    refine lv_iadd C.1.1 C.1.2 hd ?_
    rw [q_add]
    exact k.go C ⟨ad, tys, ws, lv, h1, h2, h3, ⟨rfl, h4⟩, h5⟩ Rt

theorem q_isub {a b : Nat} (hd : decode M.2.1 pc = .ok (.isub, 1))
    (k : q_W E M Q (pc + 1) lo ((.inl ((a + (4294967296 - b % 4294967296)) % 4294967296)) :: st) ce sl h) : q_W E M Q pc lo ((.inl b) :: (.inl a) :: st) ce sl h := by
  intro p e R s m args below meth c A ad0 Z H locs ls stv C T Rt
  obtain ⟨ad, tys, ws, lv, h1, h2, h3, h4, h5⟩ := T
  match stv, h4 with
  | v0 :: v1 :: stv, ⟨e0, e1, h4⟩ =>
    cases e0
    cases e1
    refine lv_isub C.1.1 C.1.2 hd ?_
    rw [q_sub]
    exact k.go C ⟨ad, tys, ws, lv, h1, h2, h3, ⟨rfl, h4⟩, h5⟩ Rt

theorem q_imul {a b : Nat} (hd : decode M.2.1 pc = .ok (.imul, 1))
    (k : q_W E M Q (pc + 1) lo ((.inl ((a * b) % 4294967296)) :: st) ce sl h) : q_W E M Q pc lo ((.inl b) :: (.inl a) :: st) ce sl h := by
  intro p e R s m args below meth c A ad0 Z H locs ls stv C T Rt
  obtain ⟨ad, tys, ws, lv, h1, h2, h3, h4, h5⟩ := T
  match stv, h4 with
  | v0 :: v1 :: stv, ⟨e0, e1, h4⟩ =>
    cases e0
    cases e1
    refine lv_imul C.1.1 C.1.2 hd ?_
    rw [q_mul]
    exact k.go C ⟨ad, tys, ws, lv, h1, h2, h3, ⟨rfl, h4⟩, h5⟩ Rt

theorem q_iand {a b : Nat} (hd : decode M.2.1 pc = .ok (.iand, 1))
    (k : q_W E M Q (pc + 1) lo ((.inl (a &&& b)) :: st) ce sl h) : q_W E M Q pc lo ((.inl b) :: (.inl a) :: st) ce sl h := by
  intro p e R s m args below meth c A ad0 Z H locs ls stv C T Rt
  obtain ⟨ad, tys, ws, lv, h1, h2, h3, h4, h5⟩ := T
  match stv, h4 with
  | v0 :: v1 :: stv, ⟨e0, e1, h4⟩ =>
    cases e0
    cases e1
    refine lv_iand C.1.1 C.1.2 hd ?_
    rw [q_and]
    exact k.go C ⟨ad, tys, ws, lv, h1, h2, h3, ⟨rfl, h4⟩, h5⟩ Rt

theorem q_ior {a b : Nat} (hd : decode M.2.1 pc = .ok (.ior, 1))
    (k : q_W E M Q (pc + 1) lo ((.inl (a ||| b)) :: st) ce sl h) : q_W E M Q pc lo ((.inl b) :: (.inl a) :: st) ce sl h := by
  intro p e R s m args below meth c A ad0 Z H locs ls stv C T Rt
  obtain ⟨ad, tys, ws, lv, h1, h2, h3, h4, h5⟩ := T
  match stv, h4 with
  | v0 :: v1 :: stv, ⟨e0, e1, h4⟩ =>
    cases e0
    cases e1
    refine lv_ior C.1.1 C.1.2 hd ?_
    rw [q_or]
    exact k.go C ⟨ad, tys, ws, lv, h1, h2, h3, ⟨rfl, h4⟩, h5⟩ Rt

theorem q_ishl {a b : Nat} (hd : decode M.2.1 pc = .ok (.ishl, 1)) (hb : b < 32)
    (k : q_W E M Q (pc + 1) lo ((.inl ((a * 2 ^ b) % 4294967296)) :: st) ce sl h) : q_W E M Q pc lo ((.inl b) :: (.inl a) :: st) ce sl h := by
  intro p e R s m args below meth c A ad0 Z H locs ls stv C T Rt
  obtain ⟨ad, tys, ws, lv, h1, h2, h3, h4, h5⟩ := T
  match stv, h4 with
  | v0 :: v1 :: stv, ⟨e0, e1, h4⟩ =>
    cases e0
    cases e1
    refine lv_ishl C.1.1 C.1.2 hd ?_
    rw [q_shl hb]
    exact k.go C ⟨ad, tys, ws, lv, h1, h2, h3, ⟨rfl, h4⟩, h5⟩ Rt

theorem q_ishr {a b : Nat} (hd : decode M.2.1 pc = .ok (.ishr, 1)) (ha : a < 2147483648) (hb : b < 32)
    (k : q_W E M Q (pc + 1) lo ((.inl (a / 2 ^ b)) :: st) ce sl h) : q_W E M Q pc lo ((.inl b) :: (.inl a) :: st) ce sl h := by
  intro p e R s m args below meth c A ad0 Z H locs ls stv C T Rt
  obtain ⟨ad, tys, ws, lv, h1, h2, h3, h4, h5⟩ := T
  match stv, h4 with
  | v0 :: v1 :: stv, ⟨e0, e1, h4⟩ =>
    cases e0
    cases e1
    refine lv_ishr C.1.1 C.1.2 hd ?_
    rw [q_shr ha hb]
    exact k.go C ⟨ad, tys, ws, lv, h1, h2, h3, ⟨rfl, h4⟩, h5⟩ Rt

theorem q_idiv {a b : Nat} (hd : decode M.2.1 pc = .ok (.idiv, 1)) (ha : a < 2147483648) (hb : b < 2147483648) (h0 : 0 < b)
    (k : q_W E M Q (pc + 1) lo ((.inl (a / b)) :: st) ce sl h) : q_W E M Q pc lo ((.inl b) :: (.inl a) :: st) ce sl h := by
  intro p e R s m args below meth c A ad0 Z H locs ls stv C T Rt
  obtain ⟨ad, tys, ws, lv, h1, h2, h3, h4, h5⟩ := T
  match stv, h4 with
  | v0 :: v1 :: stv, ⟨e0, e1, h4⟩ =>
    cases e0
    cases e1
    refine lv_idiv C.1.1 C.1.2 hd (nI_ne0 h0 hb) ?_
    rw [q_div ha hb]
    exact k.go C ⟨ad, tys, ws, lv, h1, h2, h3, ⟨rfl, h4⟩, h5⟩ Rt

theorem q_irem {a b : Nat} (hd : decode M.2.1 pc = .ok (.irem, 1)) (ha : a < 2147483648) (hb : b < 2147483648) (h0 : 0 < b)
    (k : q_W E M Q (pc + 1) lo ((.inl (a % b)) :: st) ce sl h) : q_W E M Q pc lo ((.inl b) :: (.inl a) :: st) ce sl h := by
  intro p e R s m args below meth c A ad0 Z H locs ls stv C T Rt
  obtain ⟨ad, tys, ws, lv, h1, h2, h3, h4, h5⟩ := T
  match stv, h4 with
  | v0 :: v1 :: stv, ⟨e0, e1, h4⟩ =>
    cases e0
    cases e1
    refine lv_irem C.1.1 C.1.2 hd (nI_ne0 h0 hb) ?_
    rw [q_rem ha hb]
    exact k.go C ⟨ad, tys, ws, lv, h1, h2, h3, ⟨rfl, h4⟩, h5⟩ Rt

theorem q_land {a b : Nat} (hd : decode M.2.1 pc = .ok (.land, 1))
    (k : q_W E M Q (pc + 1) lo ((.inr (.inr (.inl (a &&& b)))) :: st) ce sl h) : q_W E M Q pc lo ((.inr (.inr (.inl b))) :: (.inr (.inr (.inl a))) :: st) ce sl h := by
  intro p e R s m args below meth c A ad0 Z H locs ls stv C T Rt
  obtain ⟨ad, tys, ws, lv, h1, h2, h3, h4, h5⟩ := T
  match stv, h4 with
  | v0 :: v1 :: stv, ⟨e0, e1, h4⟩ =>
    cases e0
    cases e1
    refine lv_land C.1.1 C.1.2 hd ?_
    rw [q_andL]
    exact k.go C ⟨ad, tys, ws, lv, h1, h2, h3, ⟨rfl, h4⟩, h5⟩ Rt

theorem q_lor {a b : Nat} (hd : decode M.2.1 pc = .ok (.lor, 1))
    (k : q_W E M Q (pc + 1) lo ((.inr (.inr (.inl (a ||| b)))) :: st) ce sl h) : q_W E M Q pc lo ((.inr (.inr (.inl b))) :: (.inr (.inr (.inl a))) :: st) ce sl h := by
  intro p e R s m args below meth c A ad0 Z H locs ls stv C T Rt
  obtain ⟨ad, tys, ws, lv, h1, h2, h3, h4, h5⟩ := T
  match stv, h4 with
  | v0 :: v1 :: stv, ⟨e0, e1, h4⟩ =>
    cases e0
    cases e1
    refine lv_lor C.1.1 C.1.2 hd ?_
    rw [q_orL]
    exact k.go C ⟨ad, tys, ws, lv, h1, h2, h3, ⟨rfl, h4⟩, h5⟩ Rt

theorem q_lxor {a b : Nat} (hd : decode M.2.1 pc = .ok (.lxor, 1))
    (k : q_W E M Q (pc + 1) lo ((.inr (.inr (.inl (a ^^^ b)))) :: st) ce sl h) : q_W E M Q pc lo ((.inr (.inr (.inl b))) :: (.inr (.inr (.inl a))) :: st) ce sl h := by
  intro p e R s m args below meth c A ad0 Z H locs ls stv C T Rt
  obtain ⟨ad, tys, ws, lv, h1, h2, h3, h4, h5⟩ := T
  match stv, h4 with
  | v0 :: v1 :: stv, ⟨e0, e1, h4⟩ =>
    cases e0
    cases e1
    refine lv_lxor C.1.1 C.1.2 hd ?_
    rw [q_xorL]
    exact k.go C ⟨ad, tys, ws, lv, h1, h2, h3, ⟨rfl, h4⟩, h5⟩ Rt

theorem q_lushr {a b : Nat} (hd : decode M.2.1 pc = .ok (.lushr, 1)) (hb : b < 64)
    (k : q_W E M Q (pc + 1) lo ((.inr (.inr (.inl ((a % 18446744073709551616) / 2 ^ b)))) :: st) ce sl h) : q_W E M Q pc lo ((.inl b) :: (.inr (.inr (.inl a))) :: st) ce sl h := by
  intro p e R s m args below meth c A ad0 Z H locs ls stv C T Rt
  obtain ⟨ad, tys, ws, lv, h1, h2, h3, h4, h5⟩ := T
  match stv, h4 with
  | v0 :: v1 :: stv, ⟨e0, e1, h4⟩ =>
    cases e0
    cases e1
    refine lv_lushr C.1.1 C.1.2 hd (q_ushrL hb) ?_
    exact k.go C ⟨ad, tys, ws, lv, h1, h2, h3, ⟨rfl, h4⟩, h5⟩ Rt

theorem q_i2l_ {a : Nat} (hd : decode M.2.1 pc = .ok (.i2l, 1))
    (k : q_W E M Q (pc + 1) lo ((.inr (.inr (.inl ((q_bi a + 18446744071562067968) % 18446744073709551616)))) :: st) ce sl h) : q_W E M Q pc lo ((.inl a) :: st) ce sl h := by
  intro p e R s m args below meth c A ad0 Z H locs ls stv C T Rt
  obtain ⟨ad, tys, ws, lv, h1, h2, h3, h4, h5⟩ := T
  match stv, h4 with
  | v0 :: stv, ⟨e0, h4⟩ =>
    cases e0
    refine lv_i2l C.1.1 C.1.2 hd (q_i2l a) ?_
    exact k.go C ⟨ad, tys, ws, lv, h1, h2, h3, ⟨rfl, h4⟩, h5⟩ Rt

theorem q_i2lS {a : Nat} (hd : decode M.2.1 pc = .ok (.i2l, 1))
    (k : q_W E M Q (pc + 1) lo ((.inr (.inr (.inr (.inr (.inl a))))) :: st) ce sl h) : q_W E M Q pc lo ((.inr (.inr (.inr (.inl a)))) :: st) ce sl h := by
  intro p e R s m args below meth c A ad0 Z H locs ls stv C T Rt
  obtain ⟨ad, tys, ws, lv, h1, h2, h3, h4, h5⟩ := T
  match stv, h4 with
  | v0 :: stv, ⟨e0, h4⟩ =>
    cases e0
    refine lv_i2l C.1.1 C.1.2 hd rfl ?_
    exact k.go C ⟨ad, tys, ws, lv, h1, h2, h3, ⟨rfl, h4⟩, h5⟩ Rt

theorem q_l2i_ {a : Nat} (hd : decode M.2.1 pc = .ok (.l2i, 1))
    (k : q_W E M Q (pc + 1) lo ((.inl (a % 4294967296)) :: st) ce sl h) : q_W E M Q pc lo ((.inr (.inr (.inl a))) :: st) ce sl h := by
  intro p e R s m args below meth c A ad0 Z H locs ls stv C T Rt
  obtain ⟨ad, tys, ws, lv, h1, h2, h3, h4, h5⟩ := T
  match stv, h4 with
  | v0 :: stv, ⟨e0, h4⟩ =>
    cases e0
    refine lv_l2i C.1.1 C.1.2 hd (q_l2i a) ?_
    exact k.go C ⟨ad, tys, ws, lv, h1, h2, h3, ⟨rfl, h4⟩, h5⟩ Rt

theorem q_i2c_ {a : Nat} (hd : decode M.2.1 pc = .ok (.i2c, 1))
    (k : q_W E M Q (pc + 1) lo ((.inl (a % 65536)) :: st) ce sl h) : q_W E M Q pc lo ((.inl a) :: st) ce sl h := by
  intro p e R s m args below meth c A ad0 Z H locs ls stv C T Rt
  obtain ⟨ad, tys, ws, lv, h1, h2, h3, h4, h5⟩ := T
  match stv, h4 with
  | v0 :: stv, ⟨e0, h4⟩ =>
    cases e0
    refine lv_i2c C.1.1 C.1.2 hd (q_i2c a) ?_
    exact k.go C ⟨ad, tys, ws, lv, h1, h2, h3, ⟨rfl, h4⟩, h5⟩ Rt

theorem q_iconst {n : Int} {a : Nat} (hd : decode M.2.1 pc = .ok (.iconst n, 1)) (hv : Int32.ofInt n = nI a)
    (k : q_W E M Q (pc + 1) lo ((.inl a) :: st) ce sl h) : q_W E M Q pc lo (st) ce sl h := by
  intro p e R s m args below meth c A ad0 Z H locs ls stv C T Rt
  obtain ⟨ad, tys, ws, lv, h1, h2, h3, h4, h5⟩ := T
  refine lv_iconst C.1.1 C.1.2 hd hv ?_
  exact k.go C ⟨ad, tys, ws, lv, h1, h2, h3, ⟨rfl, h4⟩, h5⟩ Rt

theorem q_bipush {n : Int} {a : Nat} (hd : decode M.2.1 pc = .ok (.bipush n, 2)) (hv : (Int8.ofInt n).toInt32 = nI a)
    (k : q_W E M Q (pc + 2) lo ((.inl a) :: st) ce sl h) : q_W E M Q pc lo (st) ce sl h := by
  intro p e R s m args below meth c A ad0 Z H locs ls stv C T Rt
  obtain ⟨ad, tys, ws, lv, h1, h2, h3, h4, h5⟩ := T
  refine lv_bipush C.1.1 C.1.2 hd hv ?_
  exact k.go C ⟨ad, tys, ws, lv, h1, h2, h3, ⟨rfl, h4⟩, h5⟩ Rt

theorem q_sipush {n : Int} {a : Nat} (hd : decode M.2.1 pc = .ok (.sipush n, 3)) (hv : (Int16.ofInt n).toInt32 = nI a)
    (k : q_W E M Q (pc + 3) lo ((.inl a) :: st) ce sl h) : q_W E M Q pc lo (st) ce sl h := by
  intro p e R s m args below meth c A ad0 Z H locs ls stv C T Rt
  obtain ⟨ad, tys, ws, lv, h1, h2, h3, h4, h5⟩ := T
  refine lv_sipush C.1.1 C.1.2 hd hv ?_
  exact k.go C ⟨ad, tys, ws, lv, h1, h2, h3, ⟨rfl, h4⟩, h5⟩ Rt

theorem q_lconst {n : Fin 2} {a : Nat} (hd : decode M.2.1 pc = .ok (.lconst n, 1)) (hv : Int64.ofNat (n : Nat) = lN a)
    (k : q_W E M Q (pc + 1) lo ((.inr (.inr (.inl a))) :: st) ce sl h) : q_W E M Q pc lo (st) ce sl h := by
  intro p e R s m args below meth c A ad0 Z H locs ls stv C T Rt
  obtain ⟨ad, tys, ws, lv, h1, h2, h3, h4, h5⟩ := T
  refine lv_lconst C.1.1 C.1.2 hd hv ?_
  exact k.go C ⟨ad, tys, ws, lv, h1, h2, h3, ⟨rfl, h4⟩, h5⟩ Rt

theorem q_ldc {i : Nat} {a : Nat} (hd : decode M.2.1 pc = .ok (.ldc i, 2)) (hw : Cond.constant M.1.cls i (nI a) ∈ q_gd)
    (k : q_W E M Q (pc + 2) lo ((.inl a) :: st) ce sl h) : q_W E M Q pc lo (st) ce sl h := by
  intro p e R s m args below meth c A ad0 Z H locs ls stv C T Rt
  obtain ⟨ad, tys, ws, lv, h1, h2, h3, h4, h5⟩ := T
  refine lv_ldc C.1.1 C.1.2 C.2.2.2.2.1 (C.2.2.2.2.2.1 _ hw) hd ?_
  exact k.go C ⟨ad, tys, ws, lv, h1, h2, h3, ⟨rfl, h4⟩, h5⟩ Rt

theorem q_ldc2 {i : Nat} {a : Nat} (hd : decode M.2.1 pc = .ok (.ldc2_w i, 3)) (hw : Cond.constantLong M.1.cls i (lN a) ∈ q_gd)
    (k : q_W E M Q (pc + 3) lo ((.inr (.inr (.inl a))) :: st) ce sl h) : q_W E M Q pc lo (st) ce sl h := by
  intro p e R s m args below meth c A ad0 Z H locs ls stv C T Rt
  obtain ⟨ad, tys, ws, lv, h1, h2, h3, h4, h5⟩ := T
  refine lv_ldc2 C.1.1 C.1.2 C.2.2.2.2.1 (C.2.2.2.2.2.1 _ hw) hd ?_
  exact k.go C ⟨ad, tys, ws, lv, h1, h2, h3, ⟨rfl, h4⟩, h5⟩ Rt

theorem q_dup {x : q_V} (hd : decode M.2.1 pc = .ok (.dup, 1)) (hx : q_cat x = 1)
    (k : q_W E M Q (pc + 1) lo (x :: x :: st) ce sl h) : q_W E M Q pc lo (x :: st) ce sl h := by
  intro p e R s m args below meth c A ad0 Z H locs ls stv C T Rt
  obtain ⟨ad, tys, ws, lv, h1, h2, h3, h4, h5⟩ := T
  match stv, h4 with
  | v0 :: stv, ⟨e0, h4⟩ =>
    refine lv_dup C.1.1 C.1.2 hd (by rw [q_vr_cat e0, hx]) ?_
    exact k.go C ⟨ad, tys, ws, lv, h1, h2, h3, ⟨e0, e0, h4⟩, h5⟩ Rt
theorem q_dup2 {x y : q_V} (hd : decode M.2.1 pc = .ok (.dup2, 1)) (hx : q_cat x = 1) (hy : q_cat y = 1)
    (k : q_W E M Q (pc + 1) lo (x :: y :: x :: y :: st) ce sl h) : q_W E M Q pc lo (x :: y :: st) ce sl h := by
  intro p e R s m args below meth c A ad0 Z H locs ls stv C T Rt
  obtain ⟨ad, tys, ws, lv, h1, h2, h3, h4, h5⟩ := T
  match stv, h4 with
  | v0 :: v1 :: stv, ⟨e0, e1, h4⟩ =>
    refine lv_dup2_11 C.1.1 C.1.2 hd (by rw [q_vr_cat e0, hx]) (by rw [q_vr_cat e1, hy]) ?_
    exact k.go C ⟨ad, tys, ws, lv, h1, h2, h3, ⟨e0, e1, e0, e1, h4⟩, h5⟩ Rt
theorem q_pop {x : q_V} (hd : decode M.2.1 pc = .ok (.pop, 1)) (hx : q_cat x = 1)
    (k : q_W E M Q (pc + 1) lo st ce sl h) : q_W E M Q pc lo (x :: st) ce sl h := by
  intro p e R s m args below meth c A ad0 Z H locs ls stv C T Rt
  obtain ⟨ad, tys, ws, lv, h1, h2, h3, h4, h5⟩ := T
  match stv, h4 with
  | v0 :: stv, ⟨e0, h4⟩ =>
    refine lv_pop C.1.1 C.1.2 hd (by rw [q_vr_cat e0, hx]) ?_
    exact k.go C ⟨ad, tys, ws, lv, h1, h2, h3, h4, h5⟩ Rt
theorem q_goto {off : Int} {tgt : Nat} (hd : decode M.2.1 pc = .ok (.goto off, 3)) (ht : (pc : Int) + off = (tgt : Int))
    (k : q_W E M Q tgt lo st ce sl h) : q_W E M Q pc lo st ce sl h := by
  intro p e R s m args below meth c A ad0 Z H locs ls stv C T Rt
  exact lv_goto C.1.1 C.1.2 hd ht (k.go C T Rt)

theorem q_iload_ni {k0 : Fin 4} {i a : Nat} (hd : decode M.2.1 pc = .ok (.iload_n k0, 1)) (hi : (k0 : Nat) = i) (hl : q_lg lo i = some (.inl a))
    (k : q_W E M Q (pc + 1) lo ((.inl a) :: st) ce sl h) : q_W E M Q pc lo st ce sl h := by
  intro p e R s m args below meth c A ad0 Z H locs ls stv C T Rt
  obtain ⟨ad, tys, ws, lv, h1, h2, h3, h4, h5⟩ := T
  obtain ⟨j, hj⟩ := q_lg_get hl
  obtain ⟨v, g1, g2⟩ := q_lr_get h3.2 hj
  have g3 := id g2
  cases g2
  refine lv_iload_n C.1.1 C.1.2 hd hi (lv_at h3.1 j g1) ?_
  exact k.go C ⟨ad, tys, ws, lv, h1, h2, h3, ⟨g3, h4⟩, h5⟩ Rt

theorem q_iload_ns {k0 : Fin 4} {i a : Nat} (hd : decode M.2.1 pc = .ok (.iload_n k0, 1)) (hi : (k0 : Nat) = i) (hl : q_lg lo i = some (.inr (.inr (.inr (.inl a)))))
    (k : q_W E M Q (pc + 1) lo ((.inr (.inr (.inr (.inl a)))) :: st) ce sl h) : q_W E M Q pc lo st ce sl h := by
  intro p e R s m args below meth c A ad0 Z H locs ls stv C T Rt
  obtain ⟨ad, tys, ws, lv, h1, h2, h3, h4, h5⟩ := T
  obtain ⟨j, hj⟩ := q_lg_get hl
  obtain ⟨v, g1, g2⟩ := q_lr_get h3.2 hj
  have g3 := id g2
  cases g2
  refine lv_iload_n C.1.1 C.1.2 hd hi (lv_at h3.1 j g1) ?_
  exact k.go C ⟨ad, tys, ws, lv, h1, h2, h3, ⟨g3, h4⟩, h5⟩ Rt

theorem q_iloadi {i a : Nat} (hd : decode M.2.1 pc = .ok (.iload i, 2)) (hl : q_lg lo i = some (.inl a))
    (k : q_W E M Q (pc + 2) lo ((.inl a) :: st) ce sl h) : q_W E M Q pc lo st ce sl h := by
  intro p e R s m args below meth c A ad0 Z H locs ls stv C T Rt
  obtain ⟨ad, tys, ws, lv, h1, h2, h3, h4, h5⟩ := T
  obtain ⟨j, hj⟩ := q_lg_get hl
  obtain ⟨v, g1, g2⟩ := q_lr_get h3.2 hj
  have g3 := id g2
  cases g2
  refine lv_iload C.1.1 C.1.2 hd (lv_at h3.1 j g1) ?_
  exact k.go C ⟨ad, tys, ws, lv, h1, h2, h3, ⟨g3, h4⟩, h5⟩ Rt

theorem q_iloads {i a : Nat} (hd : decode M.2.1 pc = .ok (.iload i, 2)) (hl : q_lg lo i = some (.inr (.inr (.inr (.inl a)))))
    (k : q_W E M Q (pc + 2) lo ((.inr (.inr (.inr (.inl a)))) :: st) ce sl h) : q_W E M Q pc lo st ce sl h := by
  intro p e R s m args below meth c A ad0 Z H locs ls stv C T Rt
  obtain ⟨ad, tys, ws, lv, h1, h2, h3, h4, h5⟩ := T
  obtain ⟨j, hj⟩ := q_lg_get hl
  obtain ⟨v, g1, g2⟩ := q_lr_get h3.2 hj
  have g3 := id g2
  cases g2
  refine lv_iload C.1.1 C.1.2 hd (lv_at h3.1 j g1) ?_
  exact k.go C ⟨ad, tys, ws, lv, h1, h2, h3, ⟨g3, h4⟩, h5⟩ Rt

theorem q_lload_nl {k0 : Fin 4} {i a : Nat} (hd : decode M.2.1 pc = .ok (.lload_n k0, 1)) (hi : (k0 : Nat) = i) (hl : q_lg lo i = some (.inr (.inr (.inl a))))
    (k : q_W E M Q (pc + 1) lo ((.inr (.inr (.inl a))) :: st) ce sl h) : q_W E M Q pc lo st ce sl h := by
  intro p e R s m args below meth c A ad0 Z H locs ls stv C T Rt
  obtain ⟨ad, tys, ws, lv, h1, h2, h3, h4, h5⟩ := T
  obtain ⟨j, hj⟩ := q_lg_get hl
  obtain ⟨v, g1, g2⟩ := q_lr_get h3.2 hj
  have g3 := id g2
  cases g2
  refine lv_lload_n C.1.1 C.1.2 hd hi (lv_at h3.1 j g1) ?_
  exact k.go C ⟨ad, tys, ws, lv, h1, h2, h3, ⟨g3, h4⟩, h5⟩ Rt

theorem q_lload_nt {k0 : Fin 4} {i a : Nat} (hd : decode M.2.1 pc = .ok (.lload_n k0, 1)) (hi : (k0 : Nat) = i) (hl : q_lg lo i = some (.inr (.inr (.inr (.inr (.inl a))))))
    (k : q_W E M Q (pc + 1) lo ((.inr (.inr (.inr (.inr (.inl a))))) :: st) ce sl h) : q_W E M Q pc lo st ce sl h := by
  intro p e R s m args below meth c A ad0 Z H locs ls stv C T Rt
  obtain ⟨ad, tys, ws, lv, h1, h2, h3, h4, h5⟩ := T
  obtain ⟨j, hj⟩ := q_lg_get hl
  obtain ⟨v, g1, g2⟩ := q_lr_get h3.2 hj
  have g3 := id g2
  cases g2
  refine lv_lload_n C.1.1 C.1.2 hd hi (lv_at h3.1 j g1) ?_
  exact k.go C ⟨ad, tys, ws, lv, h1, h2, h3, ⟨g3, h4⟩, h5⟩ Rt

theorem q_lloadl {i a : Nat} (hd : decode M.2.1 pc = .ok (.lload i, 2)) (hl : q_lg lo i = some (.inr (.inr (.inl a))))
    (k : q_W E M Q (pc + 2) lo ((.inr (.inr (.inl a))) :: st) ce sl h) : q_W E M Q pc lo st ce sl h := by
  intro p e R s m args below meth c A ad0 Z H locs ls stv C T Rt
  obtain ⟨ad, tys, ws, lv, h1, h2, h3, h4, h5⟩ := T
  obtain ⟨j, hj⟩ := q_lg_get hl
  obtain ⟨v, g1, g2⟩ := q_lr_get h3.2 hj
  have g3 := id g2
  cases g2
  refine lv_lload C.1.1 C.1.2 hd (lv_at h3.1 j g1) ?_
  exact k.go C ⟨ad, tys, ws, lv, h1, h2, h3, ⟨g3, h4⟩, h5⟩ Rt

theorem q_lloadt {i a : Nat} (hd : decode M.2.1 pc = .ok (.lload i, 2)) (hl : q_lg lo i = some (.inr (.inr (.inr (.inr (.inl a))))))
    (k : q_W E M Q (pc + 2) lo ((.inr (.inr (.inr (.inr (.inl a))))) :: st) ce sl h) : q_W E M Q pc lo st ce sl h := by
  intro p e R s m args below meth c A ad0 Z H locs ls stv C T Rt
  obtain ⟨ad, tys, ws, lv, h1, h2, h3, h4, h5⟩ := T
  obtain ⟨j, hj⟩ := q_lg_get hl
  obtain ⟨v, g1, g2⟩ := q_lr_get h3.2 hj
  have g3 := id g2
  cases g2
  refine lv_lload C.1.1 C.1.2 hd (lv_at h3.1 j g1) ?_
  exact k.go C ⟨ad, tys, ws, lv, h1, h2, h3, ⟨g3, h4⟩, h5⟩ Rt

theorem q_aload_nr {k0 : Fin 4} {i a : Nat} (hd : decode M.2.1 pc = .ok (.aload_n k0, 1)) (hi : (k0 : Nat) = i) (hl : q_lg lo i = some (.inr (.inl a)))
    (k : q_W E M Q (pc + 1) lo ((.inr (.inl a)) :: st) ce sl h) : q_W E M Q pc lo st ce sl h := by
  intro p e R s m args below meth c A ad0 Z H locs ls stv C T Rt
  obtain ⟨ad, tys, ws, lv, h1, h2, h3, h4, h5⟩ := T
  obtain ⟨j, hj⟩ := q_lg_get hl
  obtain ⟨v, g1, g2⟩ := q_lr_get h3.2 hj
  obtain ⟨b0, g3, g4⟩ := id g2
  cases g4
  refine lv_aload_n C.1.1 C.1.2 hd hi (lv_at h3.1 j g1) ?_
  exact k.go C ⟨ad, tys, ws, lv, h1, h2, h3, ⟨g2, h4⟩, h5⟩ Rt

theorem q_aload_nq {k0 : Fin 4} {i a : Nat} (hd : decode M.2.1 pc = .ok (.aload_n k0, 1)) (hi : (k0 : Nat) = i) (hl : q_lg lo i = some (.inr (.inr (.inr (.inr (.inr (.inl a)))))))
    (k : q_W E M Q (pc + 1) lo ((.inr (.inr (.inr (.inr (.inr (.inl a)))))) :: st) ce sl h) : q_W E M Q pc lo st ce sl h := by
  intro p e R s m args below meth c A ad0 Z H locs ls stv C T Rt
  obtain ⟨ad, tys, ws, lv, h1, h2, h3, h4, h5⟩ := T
  obtain ⟨j, hj⟩ := q_lg_get hl
  obtain ⟨v, g1, g2⟩ := q_lr_get h3.2 hj
  have g3 := id g2
  cases g2
  refine lv_aload_n C.1.1 C.1.2 hd hi (lv_at h3.1 j g1) ?_
  exact k.go C ⟨ad, tys, ws, lv, h1, h2, h3, ⟨g3, h4⟩, h5⟩ Rt

theorem q_aloadr {i a : Nat} (hd : decode M.2.1 pc = .ok (.aload i, 2)) (hl : q_lg lo i = some (.inr (.inl a)))
    (k : q_W E M Q (pc + 2) lo ((.inr (.inl a)) :: st) ce sl h) : q_W E M Q pc lo st ce sl h := by
  intro p e R s m args below meth c A ad0 Z H locs ls stv C T Rt
  obtain ⟨ad, tys, ws, lv, h1, h2, h3, h4, h5⟩ := T
  obtain ⟨j, hj⟩ := q_lg_get hl
  obtain ⟨v, g1, g2⟩ := q_lr_get h3.2 hj
  obtain ⟨b0, g3, g4⟩ := id g2
  cases g4
  refine lv_aload C.1.1 C.1.2 hd (lv_at h3.1 j g1) ?_
  exact k.go C ⟨ad, tys, ws, lv, h1, h2, h3, ⟨g2, h4⟩, h5⟩ Rt

theorem q_aloadq {i a : Nat} (hd : decode M.2.1 pc = .ok (.aload i, 2)) (hl : q_lg lo i = some (.inr (.inr (.inr (.inr (.inr (.inl a)))))))
    (k : q_W E M Q (pc + 2) lo ((.inr (.inr (.inr (.inr (.inr (.inl a)))))) :: st) ce sl h) : q_W E M Q pc lo st ce sl h := by
  intro p e R s m args below meth c A ad0 Z H locs ls stv C T Rt
  obtain ⟨ad, tys, ws, lv, h1, h2, h3, h4, h5⟩ := T
  obtain ⟨j, hj⟩ := q_lg_get hl
  obtain ⟨v, g1, g2⟩ := q_lr_get h3.2 hj
  have g3 := id g2
  cases g2
  refine lv_aload C.1.1 C.1.2 hd (lv_at h3.1 j g1) ?_
  exact k.go C ⟨ad, tys, ws, lv, h1, h2, h3, ⟨g3, h4⟩, h5⟩ Rt

theorem q_istore_ni {k0 : Fin 4} {i a : Nat} (hd : decode M.2.1 pc = .ok (.istore_n k0, 1)) (hi : (k0 : Nat) = i) (hn : i < M.2.2.1)
    (k : q_W E M Q (pc + 1) (q_ls1 lo i (.inl a)) st ce sl h) : q_W E M Q pc lo ((.inl a) :: st) ce sl h := by
  intro p e R s m args below meth c A ad0 Z H locs ls stv C T Rt
  obtain ⟨ad, tys, ws, lv, h1, h2, h3, h4, h5⟩ := T
  match stv, h4 with
  | v0 :: stv, ⟨e0, h4⟩ =>
    have g := id e0
    cases e0
    refine lv_istore_n C.1.1 C.1.2 hd hi h3.1 hn rfl (fun ls hl => ?_)
    exact k.go C ⟨ad, tys, ws, _, h1, h2, ⟨hl, ⟨⟨rfl, g⟩, q_lr_filter (f := fun u v => !(u == i) && !(u + 1 == i && v == 2)) h3.2⟩⟩, h4, h5⟩ Rt

theorem q_istore_ns {k0 : Fin 4} {i a : Nat} (hd : decode M.2.1 pc = .ok (.istore_n k0, 1)) (hi : (k0 : Nat) = i) (hn : i < M.2.2.1)
    (k : q_W E M Q (pc + 1) (q_ls1 lo i (.inr (.inr (.inr (.inl a))))) st ce sl h) : q_W E M Q pc lo ((.inr (.inr (.inr (.inl a)))) :: st) ce sl h := by
  intro p e R s m args below meth c A ad0 Z H locs ls stv C T Rt
  obtain ⟨ad, tys, ws, lv, h1, h2, h3, h4, h5⟩ := T
  match stv, h4 with
  | v0 :: stv, ⟨e0, h4⟩ =>
    have g := id e0
    cases e0
    refine lv_istore_n C.1.1 C.1.2 hd hi h3.1 hn rfl (fun ls hl => ?_)
    exact k.go C ⟨ad, tys, ws, _, h1, h2, ⟨hl, ⟨⟨rfl, g⟩, q_lr_filter (f := fun u v => !(u == i) && !(u + 1 == i && v == 2)) h3.2⟩⟩, h4, h5⟩ Rt

theorem q_istorei {i a : Nat} (hd : decode M.2.1 pc = .ok (.istore i, 2)) (hn : i < M.2.2.1)
    (k : q_W E M Q (pc + 2) (q_ls1 lo i (.inl a)) st ce sl h) : q_W E M Q pc lo ((.inl a) :: st) ce sl h := by
  intro p e R s m args below meth c A ad0 Z H locs ls stv C T Rt
  obtain ⟨ad, tys, ws, lv, h1, h2, h3, h4, h5⟩ := T
  match stv, h4 with
  | v0 :: stv, ⟨e0, h4⟩ =>
    have g := id e0
    cases e0
    refine lv_istore C.1.1 C.1.2 hd h3.1 hn rfl (fun ls hl => ?_)
    exact k.go C ⟨ad, tys, ws, _, h1, h2, ⟨hl, ⟨⟨rfl, g⟩, q_lr_filter (f := fun u v => !(u == i) && !(u + 1 == i && v == 2)) h3.2⟩⟩, h4, h5⟩ Rt

theorem q_istores {i a : Nat} (hd : decode M.2.1 pc = .ok (.istore i, 2)) (hn : i < M.2.2.1)
    (k : q_W E M Q (pc + 2) (q_ls1 lo i (.inr (.inr (.inr (.inl a))))) st ce sl h) : q_W E M Q pc lo ((.inr (.inr (.inr (.inl a)))) :: st) ce sl h := by
  intro p e R s m args below meth c A ad0 Z H locs ls stv C T Rt
  obtain ⟨ad, tys, ws, lv, h1, h2, h3, h4, h5⟩ := T
  match stv, h4 with
  | v0 :: stv, ⟨e0, h4⟩ =>
    have g := id e0
    cases e0
    refine lv_istore C.1.1 C.1.2 hd h3.1 hn rfl (fun ls hl => ?_)
    exact k.go C ⟨ad, tys, ws, _, h1, h2, ⟨hl, ⟨⟨rfl, g⟩, q_lr_filter (f := fun u v => !(u == i) && !(u + 1 == i && v == 2)) h3.2⟩⟩, h4, h5⟩ Rt

theorem q_lstorel {i a : Nat} (hd : decode M.2.1 pc = .ok (.lstore i, 2)) (hn : i + 1 < M.2.2.1)
    (k : q_W E M Q (pc + 2) (q_ls2 lo i (.inr (.inr (.inl a)))) st ce sl h) : q_W E M Q pc lo ((.inr (.inr (.inl a))) :: st) ce sl h := by
  intro p e R s m args below meth c A ad0 Z H locs ls stv C T Rt
  obtain ⟨ad, tys, ws, lv, h1, h2, h3, h4, h5⟩ := T
  match stv, h4 with
  | v0 :: stv, ⟨e0, h4⟩ =>
    have g := id e0
    cases e0
    refine lv_lstore C.1.1 C.1.2 hd h3.1 hn rfl (fun ls hl => ?_)
    exact k.go C ⟨ad, tys, ws, _, h1, h2, ⟨hl, ⟨⟨rfl, g⟩, q_lr_filter (f := fun u v => !(u == i) && (!(u == i + 1) && !(u + 1 == i && v == 2))) h3.2⟩⟩, h4, h5⟩ Rt

theorem q_astore_nr {k0 : Fin 4} {i a : Nat} (hd : decode M.2.1 pc = .ok (.astore_n k0, 1)) (hi : (k0 : Nat) = i) (hn : i < M.2.2.1)
    (k : q_W E M Q (pc + 1) (q_ls1 lo i (.inr (.inl a))) st ce sl h) : q_W E M Q pc lo ((.inr (.inl a)) :: st) ce sl h := by
  intro p e R s m args below meth c A ad0 Z H locs ls stv C T Rt
  obtain ⟨ad, tys, ws, lv, h1, h2, h3, h4, h5⟩ := T
  match stv, h4 with
  | v0 :: stv, ⟨e0, h4⟩ =>
    obtain ⟨b0, g3, g4⟩ := id e0
    cases g4
    have g := e0
    refine lv_astore_n C.1.1 C.1.2 hd hi h3.1 hn rfl (fun ls hl => ?_)
    exact k.go C ⟨ad, tys, ws, _, h1, h2, ⟨hl, ⟨⟨rfl, g⟩, q_lr_filter (f := fun u v => !(u == i) && !(u + 1 == i && v == 2)) h3.2⟩⟩, h4, h5⟩ Rt

theorem q_astorer {i a : Nat} (hd : decode M.2.1 pc = .ok (.astore i, 2)) (hn : i < M.2.2.1)
    (k : q_W E M Q (pc + 2) (q_ls1 lo i (.inr (.inl a))) st ce sl h) : q_W E M Q pc lo ((.inr (.inl a)) :: st) ce sl h := by
  intro p e R s m args below meth c A ad0 Z H locs ls stv C T Rt
  obtain ⟨ad, tys, ws, lv, h1, h2, h3, h4, h5⟩ := T
  match stv, h4 with
  | v0 :: stv, ⟨e0, h4⟩ =>
    obtain ⟨b0, g3, g4⟩ := id e0
    cases g4
    have g := e0
    refine lv_astore C.1.1 C.1.2 hd h3.1 hn rfl (fun ls hl => ?_)
    exact k.go C ⟨ad, tys, ws, _, h1, h2, ⟨hl, ⟨⟨rfl, g⟩, q_lr_filter (f := fun u v => !(u == i) && !(u + 1 == i && v == 2)) h3.2⟩⟩, h4, h5⟩ Rt

theorem q_iinc {i a b : Nat} {n : Int} (hd : decode M.2.1 pc = .ok (.iinc i n, 3)) (hl : q_lg lo i = some (.inl a)) (hv : Int32.ofInt n = nI b) (hn : i < M.2.2.1)
    (k : q_W E M Q (pc + 3) (q_ls1 lo i (.inl ((a + b) % 4294967296))) st ce sl h) : q_W E M Q pc lo st ce sl h := by
  intro p e R s m args below meth c A ad0 Z H locs ls stv C T Rt
  obtain ⟨ad, tys, ws, lv, h1, h2, h3, h4, h5⟩ := T
  obtain ⟨j, hj⟩ := q_lg_get hl
  obtain ⟨v, g1, g2⟩ := q_lr_get h3.2 hj
  cases g2
  refine lv_iinc (v := nI ((a + b) % 4294967296)) C.1.1 C.1.2 hd h3.1 g1 (by rw [hv]; exact q_add a b) hn rfl (fun ls hl => ?_)
  exact k.go C ⟨ad, tys, ws, _, h1, h2, ⟨hl, ⟨⟨rfl, rfl⟩, q_lr_filter (f := fun u v => !(u == i) && !(u + 1 == i && v == 2)) h3.2⟩⟩, h4, h5⟩ Rt

/-- the code of an int, of the program or of the script -/
def q_cd (E : q_E) : q_V → Option Nat
  | .inl n => some n
  | .inr (.inr (.inr (.inl k))) => some (E.2.2.2.1 k)
  | _ => none
theorem q_cd_vr {x : q_V} {a : Nat} {ad : List Nat} {v : Value} (hx : q_cd E x = some a) (h : q_vr E ad x v) : v = .int (nI a) := by
  match x, hx, h with
  | .inl n, hx, h => cases hx; exact h
  | .inr (.inr (.inr (.inl k))), hx, h => cases hx; exact h

theorem q_icmp_eq {x y : q_V} {a b : Nat} {off : Int} {tgt : Nat} (hd : decode M.2.1 pc = .ok (.if_icmp .eq off, 3)) (ht : (pc : Int) + off = (tgt : Int)) (hx : q_cd E x = some a) (hy : q_cd E y = some b)
    (kt : q_bi a = q_bi b → q_W E M Q tgt lo st ce sl h) (kf : ¬ (q_bi a = q_bi b) → q_W E M Q (pc + 3) lo st ce sl h) : q_W E M Q pc lo (y :: x :: st) ce sl h := by
  intro p e R s m args below meth c A ad0 Z H locs ls stv C T Rt
  obtain ⟨ad, tys, ws, lv, h1, h2, h3, h4, h5⟩ := T
  match stv, h4 with
  | v0 :: v1 :: stv, ⟨e0, e1, h4⟩ =>
    rw [q_cd_vr hy e0, q_cd_vr hx e1]
    have T' : q_At E M.2.2.1 s A ad0 lo st h H locs ls stv := ⟨ad, tys, ws, lv, h1, h2, h3, h4, h5⟩
    exact lv_icmp_eq C.1.1 C.1.2 hd ht (fun q => (kt (q_eq.mp q)).go C T' Rt) (fun q => (kf (fun z => q (q_eq.mpr z))).go C T' Rt)

theorem q_if_eq {x : q_V} {a : Nat} {off : Int} {tgt : Nat} (hd : decode M.2.1 pc = .ok (.ifCond .eq off, 3)) (ht : (pc : Int) + off = (tgt : Int)) (hx : q_cd E x = some a)
    (kt : q_bi a = 2147483648 → q_W E M Q tgt lo st ce sl h) (kf : ¬ (q_bi a = 2147483648) → q_W E M Q (pc + 3) lo st ce sl h) : q_W E M Q pc lo (x :: st) ce sl h := by
  intro p e R s m args below meth c A ad0 Z H locs ls stv C T Rt
  obtain ⟨ad, tys, ws, lv, h1, h2, h3, h4, h5⟩ := T
  match stv, h4 with
  | v0 :: stv, ⟨e0, h4⟩ =>
    rw [q_cd_vr hx e0]
    have T' : q_At E M.2.2.1 s A ad0 lo st h H locs ls stv := ⟨ad, tys, ws, lv, h1, h2, h3, h4, h5⟩
    exact lv_if_eq C.1.1 C.1.2 hd ht (fun q => (kt (q_eq0.mp q)).go C T' Rt) (fun q => (kf (fun z => q (q_eq0.mpr z))).go C T' Rt)

theorem q_icmp_ne {x y : q_V} {a b : Nat} {off : Int} {tgt : Nat} (hd : decode M.2.1 pc = .ok (.if_icmp .ne off, 3)) (ht : (pc : Int) + off = (tgt : Int)) (hx : q_cd E x = some a) (hy : q_cd E y = some b)
    (kt : ¬ q_bi a = q_bi b → q_W E M Q tgt lo st ce sl h) (kf : ¬ (¬ q_bi a = q_bi b) → q_W E M Q (pc + 3) lo st ce sl h) : q_W E M Q pc lo (y :: x :: st) ce sl h := by
  intro p e R s m args below meth c A ad0 Z H locs ls stv C T Rt
  obtain ⟨ad, tys, ws, lv, h1, h2, h3, h4, h5⟩ := T
  match stv, h4 with
  | v0 :: v1 :: stv, ⟨e0, e1, h4⟩ =>
    rw [q_cd_vr hy e0, q_cd_vr hx e1]
    have T' : q_At E M.2.2.1 s A ad0 lo st h H locs ls stv := ⟨ad, tys, ws, lv, h1, h2, h3, h4, h5⟩
    exact lv_icmp_ne C.1.1 C.1.2 hd ht (fun q => (kt (fun z => q (q_eq.mpr z))).go C T' Rt) (fun q => (kf (fun z => z (q_eq.mp q))).go C T' Rt)

theorem q_if_ne {x : q_V} {a : Nat} {off : Int} {tgt : Nat} (hd : decode M.2.1 pc = .ok (.ifCond .ne off, 3)) (ht : (pc : Int) + off = (tgt : Int)) (hx : q_cd E x = some a)
    (kt : ¬ q_bi a = 2147483648 → q_W E M Q tgt lo st ce sl h) (kf : ¬ (¬ q_bi a = 2147483648) → q_W E M Q (pc + 3) lo st ce sl h) : q_W E M Q pc lo (x :: st) ce sl h := by
  intro p e R s m args below meth c A ad0 Z H locs ls stv C T Rt
  obtain ⟨ad, tys, ws, lv, h1, h2, h3, h4, h5⟩ := T
  match stv, h4 with
  | v0 :: stv, ⟨e0, h4⟩ =>
    rw [q_cd_vr hx e0]
    have T' : q_At E M.2.2.1 s A ad0 lo st h H locs ls stv := ⟨ad, tys, ws, lv, h1, h2, h3, h4, h5⟩
    exact lv_if_ne C.1.1 C.1.2 hd ht (fun q => (kt (fun z => q (q_eq0.mpr z))).go C T' Rt) (fun q => (kf (fun z => z (q_eq0.mp q))).go C T' Rt)

theorem q_icmp_lt {x y : q_V} {a b : Nat} {off : Int} {tgt : Nat} (hd : decode M.2.1 pc = .ok (.if_icmp .lt off, 3)) (ht : (pc : Int) + off = (tgt : Int)) (hx : q_cd E x = some a) (hy : q_cd E y = some b)
    (kt : q_bi a < q_bi b → q_W E M Q tgt lo st ce sl h) (kf : ¬ (q_bi a < q_bi b) → q_W E M Q (pc + 3) lo st ce sl h) : q_W E M Q pc lo (y :: x :: st) ce sl h := by
  intro p e R s m args below meth c A ad0 Z H locs ls stv C T Rt
  obtain ⟨ad, tys, ws, lv, h1, h2, h3, h4, h5⟩ := T
  match stv, h4 with
  | v0 :: v1 :: stv, ⟨e0, e1, h4⟩ =>
    rw [q_cd_vr hy e0, q_cd_vr hx e1]
    have T' : q_At E M.2.2.1 s A ad0 lo st h H locs ls stv := ⟨ad, tys, ws, lv, h1, h2, h3, h4, h5⟩
    exact lv_icmp_lt C.1.1 C.1.2 hd ht (fun q => (kt (q_lt.mp q)).go C T' Rt) (fun q => (kf (fun z => q (q_lt.mpr z))).go C T' Rt)

theorem q_if_lt {x : q_V} {a : Nat} {off : Int} {tgt : Nat} (hd : decode M.2.1 pc = .ok (.ifCond .lt off, 3)) (ht : (pc : Int) + off = (tgt : Int)) (hx : q_cd E x = some a)
    (kt : q_bi a < 2147483648 → q_W E M Q tgt lo st ce sl h) (kf : ¬ (q_bi a < 2147483648) → q_W E M Q (pc + 3) lo st ce sl h) : q_W E M Q pc lo (x :: st) ce sl h := by
  intro p e R s m args below meth c A ad0 Z H locs ls stv C T Rt
  obtain ⟨ad, tys, ws, lv, h1, h2, h3, h4, h5⟩ := T
  match stv, h4 with
  | v0 :: stv, ⟨e0, h4⟩ =>
    rw [q_cd_vr hx e0]
    have T' : q_At E M.2.2.1 s A ad0 lo st h H locs ls stv := ⟨ad, tys, ws, lv, h1, h2, h3, h4, h5⟩
    exact lv_if_lt C.1.1 C.1.2 hd ht (fun q => (kt (q_lt0.mp q)).go C T' Rt) (fun q => (kf (fun z => q (q_lt0.mpr z))).go C T' Rt)

theorem q_icmp_ge {x y : q_V} {a b : Nat} {off : Int} {tgt : Nat} (hd : decode M.2.1 pc = .ok (.if_icmp .ge off, 3)) (ht : (pc : Int) + off = (tgt : Int)) (hx : q_cd E x = some a) (hy : q_cd E y = some b)
    (kt : q_bi b ≤ q_bi a → q_W E M Q tgt lo st ce sl h) (kf : ¬ (q_bi b ≤ q_bi a) → q_W E M Q (pc + 3) lo st ce sl h) : q_W E M Q pc lo (y :: x :: st) ce sl h := by
  intro p e R s m args below meth c A ad0 Z H locs ls stv C T Rt
  obtain ⟨ad, tys, ws, lv, h1, h2, h3, h4, h5⟩ := T
  match stv, h4 with
  | v0 :: v1 :: stv, ⟨e0, e1, h4⟩ =>
    rw [q_cd_vr hy e0, q_cd_vr hx e1]
    have T' : q_At E M.2.2.1 s A ad0 lo st h H locs ls stv := ⟨ad, tys, ws, lv, h1, h2, h3, h4, h5⟩
    exact lv_icmp_ge C.1.1 C.1.2 hd ht (fun q => (kt (q_le.mp q)).go C T' Rt) (fun q => (kf (fun z => q (q_le.mpr z))).go C T' Rt)

theorem q_if_ge {x : q_V} {a : Nat} {off : Int} {tgt : Nat} (hd : decode M.2.1 pc = .ok (.ifCond .ge off, 3)) (ht : (pc : Int) + off = (tgt : Int)) (hx : q_cd E x = some a)
    (kt : 2147483648 ≤ q_bi a → q_W E M Q tgt lo st ce sl h) (kf : ¬ (2147483648 ≤ q_bi a) → q_W E M Q (pc + 3) lo st ce sl h) : q_W E M Q pc lo (x :: st) ce sl h := by
  intro p e R s m args below meth c A ad0 Z H locs ls stv C T Rt
  obtain ⟨ad, tys, ws, lv, h1, h2, h3, h4, h5⟩ := T
  match stv, h4 with
  | v0 :: stv, ⟨e0, h4⟩ =>
    rw [q_cd_vr hx e0]
    have T' : q_At E M.2.2.1 s A ad0 lo st h H locs ls stv := ⟨ad, tys, ws, lv, h1, h2, h3, h4, h5⟩
    exact lv_if_ge C.1.1 C.1.2 hd ht (fun q => (kt (q_ge0.mp q)).go C T' Rt) (fun q => (kf (fun z => q (q_ge0.mpr z))).go C T' Rt)

theorem q_icmp_gt {x y : q_V} {a b : Nat} {off : Int} {tgt : Nat} (hd : decode M.2.1 pc = .ok (.if_icmp .gt off, 3)) (ht : (pc : Int) + off = (tgt : Int)) (hx : q_cd E x = some a) (hy : q_cd E y = some b)
    (kt : q_bi b < q_bi a → q_W E M Q tgt lo st ce sl h) (kf : ¬ (q_bi b < q_bi a) → q_W E M Q (pc + 3) lo st ce sl h) : q_W E M Q pc lo (y :: x :: st) ce sl h := by
  intro p e R s m args below meth c A ad0 Z H locs ls stv C T Rt
  obtain ⟨ad, tys, ws, lv, h1, h2, h3, h4, h5⟩ := T
  match stv, h4 with
  | v0 :: v1 :: stv, ⟨e0, e1, h4⟩ =>
    rw [q_cd_vr hy e0, q_cd_vr hx e1]
    have T' : q_At E M.2.2.1 s A ad0 lo st h H locs ls stv := ⟨ad, tys, ws, lv, h1, h2, h3, h4, h5⟩
    exact lv_icmp_gt C.1.1 C.1.2 hd ht (fun q => (kt (q_lt.mp q)).go C T' Rt) (fun q => (kf (fun z => q (q_lt.mpr z))).go C T' Rt)

theorem q_if_gt {x : q_V} {a : Nat} {off : Int} {tgt : Nat} (hd : decode M.2.1 pc = .ok (.ifCond .gt off, 3)) (ht : (pc : Int) + off = (tgt : Int)) (hx : q_cd E x = some a)
    (kt : 2147483648 < q_bi a → q_W E M Q tgt lo st ce sl h) (kf : ¬ (2147483648 < q_bi a) → q_W E M Q (pc + 3) lo st ce sl h) : q_W E M Q pc lo (x :: st) ce sl h := by
  intro p e R s m args below meth c A ad0 Z H locs ls stv C T Rt
  obtain ⟨ad, tys, ws, lv, h1, h2, h3, h4, h5⟩ := T
  match stv, h4 with
  | v0 :: stv, ⟨e0, h4⟩ =>
    rw [q_cd_vr hx e0]
    have T' : q_At E M.2.2.1 s A ad0 lo st h H locs ls stv := ⟨ad, tys, ws, lv, h1, h2, h3, h4, h5⟩
    exact lv_if_gt C.1.1 C.1.2 hd ht (fun q => (kt (q_gt0.mp q)).go C T' Rt) (fun q => (kf (fun z => q (q_gt0.mpr z))).go C T' Rt)

theorem q_icmp_le {x y : q_V} {a b : Nat} {off : Int} {tgt : Nat} (hd : decode M.2.1 pc = .ok (.if_icmp .le off, 3)) (ht : (pc : Int) + off = (tgt : Int)) (hx : q_cd E x = some a) (hy : q_cd E y = some b)
    (kt : q_bi a ≤ q_bi b → q_W E M Q tgt lo st ce sl h) (kf : ¬ (q_bi a ≤ q_bi b) → q_W E M Q (pc + 3) lo st ce sl h) : q_W E M Q pc lo (y :: x :: st) ce sl h := by
  intro p e R s m args below meth c A ad0 Z H locs ls stv C T Rt
  obtain ⟨ad, tys, ws, lv, h1, h2, h3, h4, h5⟩ := T
  match stv, h4 with
  | v0 :: v1 :: stv, ⟨e0, e1, h4⟩ =>
    rw [q_cd_vr hy e0, q_cd_vr hx e1]
    have T' : q_At E M.2.2.1 s A ad0 lo st h H locs ls stv := ⟨ad, tys, ws, lv, h1, h2, h3, h4, h5⟩
    exact lv_icmp_le C.1.1 C.1.2 hd ht (fun q => (kt (q_le.mp q)).go C T' Rt) (fun q => (kf (fun z => q (q_le.mpr z))).go C T' Rt)

theorem q_if_le {x : q_V} {a : Nat} {off : Int} {tgt : Nat} (hd : decode M.2.1 pc = .ok (.ifCond .le off, 3)) (ht : (pc : Int) + off = (tgt : Int)) (hx : q_cd E x = some a)
    (kt : q_bi a ≤ 2147483648 → q_W E M Q tgt lo st ce sl h) (kf : ¬ (q_bi a ≤ 2147483648) → q_W E M Q (pc + 3) lo st ce sl h) : q_W E M Q pc lo (x :: st) ce sl h := by
  intro p e R s m args below meth c A ad0 Z H locs ls stv C T Rt
  obtain ⟨ad, tys, ws, lv, h1, h2, h3, h4, h5⟩ := T
  match stv, h4 with
  | v0 :: stv, ⟨e0, h4⟩ =>
    rw [q_cd_vr hx e0]
    have T' : q_At E M.2.2.1 s A ad0 lo st h H locs ls stv := ⟨ad, tys, ws, lv, h1, h2, h3, h4, h5⟩
    exact lv_if_le C.1.1 C.1.2 hd ht (fun q => (kt (q_le0.mp q)).go C T' Rt) (fun q => (kf (fun z => q (q_le0.mpr z))).go C T' Rt)

end
