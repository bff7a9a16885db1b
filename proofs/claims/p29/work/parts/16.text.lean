theorem q_nar_char2 {x : Nat} (h : x < 65536) : narrow .char (.int (nI x)) = .int (nI x) := by
  have h1 := q_nar_char h
  have h2 : narrow .char (.int (nI x)) = .int (vp_nar .char (nI x)) := rfl
  rw [h2, h1]
theorem q_let_len : q_let.length = 184 := by decide +kernel
section
variable {E : q_E} {M : q_M} {Q : Option q_V → q_H → Prop} {pc : Nat} {lo : q_Lo} {st : List q_V} {ce sl : Nat} {h : q_H}
theorem q_tval {idx : Nat} (hd : decode M.2.1 pc = .ok (.getfield idx, 3)) (hf : Cond.fieldLink M.1.cls idx "java/lang/String" "value" "[B" ∈ q_gd)
    (k : q_W E M Q (pc + 3) lo (.inr (.inr (.inr (.inr (.inr (.inl 4))))) :: st) ce sl h) : q_W E M Q pc lo (.inr (.inr (.inr (.inr (.inr (.inl 3))))) :: st) ce sl h := by
  intro p e R s m args below meth c A ad0 Z H locs ls stv C T Rt
  obtain ⟨ad, tys, ws, lv, h1', h2', h3, h4, h5⟩ := T
  match stv, h4 with
  | v0 :: stv, ⟨ey, h4⟩ =>
    cases ey
    exact vk_getf C.1.1 C.1.2 ((C.2.2.2.2.2.2.2.2.1.2.2.2.1.2.1).1 0 (by decide)).2.2.1 h5.2.2.2 C.2.2.2.2.1 (C.2.2.2.2.2.1 _ hf) (fun _ z => z) hd (k.go C ⟨ad, tys, ws, lv, h1', h2', h3, ⟨rfl, h4⟩, h5⟩ Rt)
theorem q_tcod {idx : Nat} (hd : decode M.2.1 pc = .ok (.getfield idx, 3)) (hf : Cond.fieldLink M.1.cls idx "java/lang/String" "coder" "B" ∈ q_gd)
    (k : q_W E M Q (pc + 3) lo (.inl 0 :: st) ce sl h) : q_W E M Q pc lo (.inr (.inr (.inr (.inr (.inr (.inl 3))))) :: st) ce sl h := by
  intro p e R s m args below meth c A ad0 Z H locs ls stv C T Rt
  obtain ⟨ad, tys, ws, lv, h1', h2', h3, h4, h5⟩ := T
  match stv, h4 with
  | v0 :: stv, ⟨ey, h4⟩ =>
    cases ey
    exact vk_getf C.1.1 C.1.2 ((C.2.2.2.2.2.2.2.2.1.2.2.2.1.2.1).1 0 (by decide)).2.1 h5.2.2.2 C.2.2.2.2.1 (C.2.2.2.2.2.1 _ hf) (fun _ z => z) hd (k.go C ⟨ad, tys, ws, lv, h1', h2', h3, ⟨rfl, h4⟩, h5⟩ Rt)
theorem q_tcmp {idx : Nat} (hd : decode M.2.1 pc = .ok (.getstatic idx, 3)) (hf : Cond.fieldLink M.1.cls idx "java/lang/String" "COMPACT_STRINGS" "Z" ∈ q_gd)
    (k : q_W E M Q (pc + 3) lo (.inl 1 :: st) ce sl h) : q_W E M Q pc lo st ce sl h := by
  intro p e R s m args below meth c A ad0 Z H locs ls stv C T Rt
  obtain ⟨ad, tys, ws, lv, h1', h2', h3, h4, h5⟩ := T
  exact va_gets C.1.1 C.1.2 C.2.2.2.2.2.2.2.2.1.2.2.2.1.2.2.1 h5.2.2.2 C.2.2.2.2.1 (C.2.2.2.2.2.1 _ hf) (fun _ z => z) hd (k.go C ⟨ad, tys, ws, lv, h1', h2', h3, ⟨rfl, h4⟩, h5⟩ Rt)
theorem q_tfmt {idx : Nat} (hd : decode M.2.1 pc = .ok (.getstatic idx, 3)) (hf : Cond.fieldLink M.1.cls idx "jdk/internal/util/Preconditions" "SIOOBE_FORMATTER" "Ljava/util/function/BiFunction;" ∈ q_gd)
    (k : q_W E M Q (pc + 3) lo (.inr (.inr (.inr (.inr (.inr (.inr ()))))) :: st) ce sl h) : q_W E M Q pc lo st ce sl h := by
  intro p e R s m args below meth c A ad0 Z H locs ls stv C T Rt
  obtain ⟨ad, tys, ws, lv, h1', h2', h3, h4, h5⟩ := T
  rcases C.2.2.2.2.2.2.2.2.1.2.2.2.1.2.2.2 with z | ⟨t, z⟩
  · exact va_gets C.1.1 C.1.2 z h5.2.2.2 C.2.2.2.2.1 (C.2.2.2.2.2.1 _ hf) (fun _ z => z) hd (k.go C ⟨ad, tys, ws, lv, h1', h2', h3, ⟨Or.inl rfl, h4⟩, h5⟩ Rt)
  · exact va_gets C.1.1 C.1.2 z h5.2.2.2 C.2.2.2.2.1 (C.2.2.2.2.2.1 _ hf) (fun _ z => z) hd (k.go C ⟨ad, tys, ws, lv, h1', h2', h3, ⟨Or.inr ⟨t, rfl⟩, h4⟩, h5⟩ Rt)
theorem q_tlen (hd : decode M.2.1 pc = .ok (.arraylength, 1))
    (k : q_W E M Q (pc + 1) lo (.inl 184 :: st) ce sl h) : q_W E M Q pc lo (.inr (.inr (.inr (.inr (.inr (.inl 4))))) :: st) ce sl h := by
  intro p e R s m args below meth c A ad0 Z H locs ls stv C T Rt
  obtain ⟨ad, tys, ws, lv, h1', h2', h3, h4, h5⟩ := T
  match stv, h4 with
  | v0 :: stv, ⟨ey, h4⟩ =>
    cases ey
    exact va_tlen (v := nI 184) C.1.1 C.1.2 ((C.2.2.2.2.2.2.2.2.1.2.2.2.1.2.1).1 0 (by decide)).2.2.2 h5.2.2.2 (by rw [show [q_let.length].getD 0 0 = q_let.length from rfl, q_let_len]; rfl) hd (k.go C ⟨ad, tys, ws, lv, h1', h2', h3, ⟨rfl, h4⟩, h5⟩ Rt)
theorem q_tld {i x : Nat} (hd : decode M.2.1 pc = .ok (.baload, 1)) (hx : q_let[i]? = some x)
    (k : q_W E M Q (pc + 1) lo (.inl x :: st) ce sl h) : q_W E M Q pc lo (.inl i :: .inr (.inr (.inr (.inr (.inr (.inl 4))))) :: st) ce sl h := by
  intro p e R s m args below meth c A ad0 Z H locs ls stv C T Rt
  obtain ⟨ad, tys, ws, lv, h1', h2', h3, h4, h5⟩ := T
  match stv, h4 with
  | v :: v0 :: stv, ⟨ex, ey, h4⟩ =>
    cases ex; cases ey
    have hi : i < q_let.length := (List.getElem?_eq_some_iff.mp hx).1
    have hi2 : i < 184 := by rw [← q_let_len]; exact hi
    have ec : (nI i).toNatClampNeg = i := nI_clamp (by omega)
    refine va_tb (v := .int (nI x)) C.1.1 C.1.2 ((C.2.2.2.2.2.2.2.2.1.2.2.2.1.2.1).1 0 (by decide)).2.2.2 h5.2.2.2 (q_in hi (by omega)) ?_ hd (k.go C ⟨ad, tys, ws, lv, h1', h2', h3, ⟨rfl, h4⟩, h5⟩ Rt)
    rw [ec]
    show Value.int ((q_let.map nI).getD i 0) = _
    rw [List.getD_eq_getElem?_getD, List.getElem?_map, hx]
    rfl
/-- a call on the text -/
theorem q_callT {M' : q_M} {Q' : Option q_V → q_H → Prop} {as : List q_V} {idx n : Nat} (hd : decode M.2.1 pc = .ok (.invokevirtual idx, 3)) (ho : q_ok M M' n) (hw : Cond.methodLink M.1.cls idx M'.1 ∈ q_gd) (hx : Cond.instanceMethod M'.1 ∈ q_gd ∧ Cond.selects M'.1.cls M'.1 M'.1 ∈ q_gd) (hcl : M'.1.cls = "java/lang/String") (hn : as.length = n) (hwd : q_wd st ≤ 8) (hc : ce + M'.2.2.2.2.cells ≤ M.2.2.2.2.cells) (hs : sl + M'.2.2.2.2.slots ≤ M.2.2.2.2.slots) (hP : q_P E M' (.inr (.inr (.inr (.inr (.inr (.inl 3))))) :: as) h Q')
    (k : ∀ r h', Q' r h' → q_W E M Q (pc + 3) lo (r.toList ++ st) (ce + M'.2.2.2.2.cells) (sl + M'.2.2.2.2.slots) h') : q_W E M Q pc lo (as.reverse ++ .inr (.inr (.inr (.inr (.inr (.inl 3))))) :: st) ce sl h := by
  intro p e R s m args below meth c A ad0 Z H locs ls stv C T Rt
  obtain ⟨ad, tys, ws, lv, h1, h2, h3, h4, h5⟩ := T
  have hR := C.2.2.2.2.2.2.2.1
  have hts := C.2.2.2.2.2.1
  have hown := C.2.2.2.2.1
  obtain ⟨us, rest, rfl, g1, g2⟩ := q_sr_split h4
  have g3 := q_sr_rev g1
  rw [List.reverse_reverse] at g3
  have glen : us.reverse.length = n := by rw [← q_sr_len g3]; exact hn
  match rest, g2 with
  | v0 :: rest, ⟨e1, g2⟩ =>
    cases e1
    have gst : q_sr E ad (.inr (.inr (.inr (.inr (.inr (.inl 3))))) :: as) (.ref (E.2.2.1 3) :: us.reverse) := ⟨rfl, g3⟩
    have rv := vk_recv C.2.2.2.2.2.2.2.2.1.2.2.2.1.2.1 (i := 0) (by decide) h5.2.2.2
    rw [← hcl] at rv
    exact q_after C h1 h3 g2 h5.1 h5.2.2.1 h5.2.2.2 Rt (va_runV (As := us.reverse) (rest := rest) ⟨C.1.1, C.1.2, C.2.1, hown, hts⟩ (hP ad H.size) ⟨(callB_of n hts (q_good ho.2.1) rfl rfl rfl (hts _ ho.2.2.1) (hts _ hw) ho.2.2.2 (by rw [hR]; exact ho.1)), hts _ hx.1, hts _ hx.2⟩ ⟨q_blind, rv, q_start C h2 h5.1 h5.2.1 h5.2.2.1 h5.2.2.2 gst⟩ rfl glen (h3.1.1) (by show us ++ .ref (E.2.2.1 3) :: rest = us.reverse.reverse ++ .ref (E.2.2.1 3) :: rest; rw [List.reverse_reverse]) (lv_room (by rw [q_wd_sr g2]; exact hwd)) hd (by rw [hR]; exact ⟨hc, hs⟩)) k
end
section
variable {E : q_E} {tg : Nat → Nat} {mt : Nat → q_M} {M : q_M} {pc pc' : Nat}
noncomputable def o_tval : q_Op := fun B lo st ce sl h ks _ _ _ => e_pop st (fun v st => e_ra v (fun _ => false) (fun q => cond (Nat.beq q 3) (ks B lo (.inr (.inr (.inr (.inr (.inr (.inl 4))))) :: st) ce sl h) false))
theorem o_tval_ok {idx : Nat} (hd : decode M.2.1 pc = .ok (.getfield idx, 3)) (hf : Cond.fieldLink M.1.cls idx "java/lang/String" "value" "[B" ∈ q_gd) : q_OK E tg mt M pc (pc + 3) o_tval := by
  intro Q B lo st ce sl h ks kj kr kc hB hs hj hr hc e
  replace e := e_pop_ok e
  obtain ⟨v, st1, rfl, e⟩ := e
  replace e := e_ra_ok e
  rcases e with ⟨r, rfl, e⟩ | ⟨q, rfl, e⟩
  · cases e
  · replace e := e_cnd e
    obtain ⟨e0, e⟩ := e
    rw [e_eq e0]
    exact q_tval hd hf (hs _ _ _ _ _ _ hB e)
noncomputable def o_tcod : q_Op := fun B lo st ce sl h ks _ _ _ => e_pop st (fun v st => e_ra v (fun _ => false) (fun q => cond (Nat.beq q 3) (ks B lo (.inl 0 :: st) ce sl h) false))
theorem o_tcod_ok {idx : Nat} (hd : decode M.2.1 pc = .ok (.getfield idx, 3)) (hf : Cond.fieldLink M.1.cls idx "java/lang/String" "coder" "B" ∈ q_gd) : q_OK E tg mt M pc (pc + 3) o_tcod := by
  intro Q B lo st ce sl h ks kj kr kc hB hs hj hr hc e
  replace e := e_pop_ok e
  obtain ⟨v, st1, rfl, e⟩ := e
  replace e := e_ra_ok e
  rcases e with ⟨r, rfl, e⟩ | ⟨q, rfl, e⟩
  · cases e
  · replace e := e_cnd e
    obtain ⟨e0, e⟩ := e
    rw [e_eq e0]
    exact q_tcod hd hf (hs _ _ _ _ _ _ hB e)
noncomputable def o_tlen : q_Op := fun B lo st ce sl h ks _ _ _ => e_pop st (fun v st => e_ra v (fun _ => false) (fun q => cond (Nat.beq q 4) (ks B lo (.inl 184 :: st) ce sl h) false))
theorem o_tlen_ok (hd : decode M.2.1 pc = .ok (.arraylength, 1)) : q_OK E tg mt M pc (pc + 1) o_tlen := by
  intro Q B lo st ce sl h ks kj kr kc hB hs hj hr hc e
  replace e := e_pop_ok e
  obtain ⟨v, st1, rfl, e⟩ := e
  replace e := e_ra_ok e
  rcases e with ⟨r, rfl, e⟩ | ⟨q, rfl, e⟩
  · cases e
  · replace e := e_cnd e
    obtain ⟨e0, e⟩ := e
    rw [e_eq e0]
    exact q_tlen hd (hs _ _ _ _ _ _ hB e)
noncomputable def o_tld : q_Op := fun B lo st ce sl h ks _ _ _ => e_pi B st (fun B i st => e_pop st (fun v st => e_ra v (fun _ => false) (fun q => cond (Nat.beq q 4) (e_nth q_let i (fun m => ks B lo (.inl m :: st) ce sl h)) false)))
theorem o_tld_ok (hd : decode M.2.1 pc = .ok (.baload, 1)) : q_OK E tg mt M pc (pc + 1) o_tld := by
  intro Q B lo st ce sl h ks kj kr kc hB hs hj hr hc e
  replace e := e_pi_ok hB e
  obtain ⟨w, st1, i, B1, rfl, hB1, e, hw⟩ := e
  replace e := e_pop_ok e
  obtain ⟨v, st2, rfl, e⟩ := e
  refine q_conv hw ?_
  replace e := e_ra_ok e
  rcases e with ⟨r, rfl, e⟩ | ⟨q, rfl, e⟩
  · cases e
  · replace e := e_cnd e
    obtain ⟨e0, e⟩ := e
    replace e := e_nth_ok e
    obtain ⟨x, e1, e⟩ := e
    rw [e_eq e0]
    exact q_tld hd e1 (hs _ _ _ _ _ _ hB1 e)
/-- an int of a byte's or a char's -/
noncomputable def o_cret (top cR sR : Nat) : q_Op := fun B _ st ce sl h _ _ kr _ => e_pop st (fun v st => e_nil st (cond (and (Nat.ble ce cR) (Nat.ble sl sR)) (e_is v (fun n => cond (Nat.ble (Nat.succ n) top) (kr B (some (.inl n)) h) false) (fun _ => false)) false))
theorem o_cret_ok {top cR sR : Nat} (hd : decode M.2.1 pc = .ok (.ireturn, 1)) (hrt : (M.2.2.2.1 = some .char ∧ top = 65536) ∨ (M.2.2.2.1 = some .byte ∧ top = 1)) (hcR : M.2.2.2.2.cells = cR) (hsR : M.2.2.2.2.slots = sR) : q_OK E tg mt M pc pc' (o_cret top cR sR) := by
  intro Q B lo st ce sl h ks kj kr kc hB hs hj hr hc e
  replace e := e_pop_ok e
  obtain ⟨v, st1, rfl, e⟩ := e
  replace e := e_nil_ok e
  obtain ⟨rfl, e⟩ := e
  replace e := e_cnd e
  obtain ⟨e0, e⟩ := e
  replace e0 := e_and e0
  obtain ⟨e0, e1⟩ := e0
  replace e := e_is_ok e
  rcases e with ⟨n, rfl, e⟩ | ⟨s, rfl, e⟩
  · replace e := e_cnd e
    obtain ⟨e2, e⟩ := e
    have e2 := e_le e2
    refine q_ret (r := some (.inl n)) ⟨hd, Or.inr ?_⟩ (by rw [hcR]; exact e_le e0) (by rw [hsR]; exact e_le e1) (hr _ _ _ hB e)
    rcases hrt with ⟨z, z2⟩ | ⟨z, z2⟩
    · exact ⟨_, z, q_nar_char2 (by omega)⟩
    · have : n = 0 := by omega
      subst this
      exact ⟨_, z, by decide +kernel⟩
  · cases e
noncomputable def o_cT (j n mc ms cR sR : Nat) : q_Op := fun B lo st ce sl h ks _ _ kc => e_args n st [] (fun as st => e_pop st (fun v st => e_ra v (fun _ => false) (fun q => cond (Nat.beq q 3) (e_call j mc ms cR sR B lo (.inr (.inr (.inr (.inr (.inr (.inl 3))))) :: as) st ce sl h ks kc) false)))
theorem o_cT_ok {j n mc ms cR sR idx : Nat} (hd : decode M.2.1 pc = .ok (.invokevirtual idx, 3)) (ho : q_ok M (mt j) n) (hw : Cond.methodLink M.1.cls idx (mt j).1 ∈ q_gd) (hx : Cond.instanceMethod (mt j).1 ∈ q_gd ∧ Cond.selects (mt j).1.cls (mt j).1 (mt j).1 ∈ q_gd) (hcl : (mt j).1.cls = "java/lang/String") (hmc : (mt j).2.2.2.2.cells = mc) (hms : (mt j).2.2.2.2.slots = ms) (hcR : M.2.2.2.2.cells = cR) (hsR : M.2.2.2.2.slots = sR) : q_OK E tg mt M pc (pc + 3) (o_cT j n mc ms cR sR) := by
  intro Q B lo st ce sl h ks kj kr kc hB hs hj hr hc e
  replace e := e_args_ok e
  obtain ⟨as, st1, rfl, hn, e⟩ := e
  rw [List.append_nil] at e
  replace e := e_pop_ok e
  obtain ⟨v, st2, rfl, e⟩ := e
  replace e := e_ra_ok e
  rcases e with ⟨r, rfl, e⟩ | ⟨q, rfl, e⟩
  · cases e
  · replace e := e_cnd e
    obtain ⟨ez, e⟩ := e
    rw [e_eq ez]
    replace e := e_cnd e
    obtain ⟨e0, e⟩ := e
    replace e0 := e_and e0
    obtain ⟨e0, e1⟩ := e0
    replace e1 := e_and e1
    obtain ⟨e1, e2⟩ := e1
    subst hmc
    subst hms
    have hP := hc _ _ _ _ _ hB e
    refine q_callT hd ho hw hx hcl hn (e_le e0) (by rw [hcR]; exact e_le e1) (by rw [hsR]; exact e_le e2) hP (fun r' h' z => ?_)
    obtain ⟨B', z1, z2⟩ := z
    rw [e_res_eq, e_frc_eq, e_frc_eq] at z2
    exact hs _ _ _ _ _ _ z1 z2
end
