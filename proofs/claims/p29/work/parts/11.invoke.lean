section
variable {E : q_E} {M M' : q_M} {Q Q' : Option q_V → q_H → Prop} {pc : Nat} {lo : q_Lo} {st : List q_V} {ce sl : Nat} {h : q_H}

theorem q_callS {as : List q_V} {idx n : Nat} (hd : decode M.2.1 pc = .ok (.invokestatic idx, 3)) (ho : q_ok M M' n) (hw : Cond.methodLink M.1.cls idx M'.1 ∈ q_gd) (hx : Cond.static M'.1 ∈ q_gd) (hn : as.length = n) (hwd : q_wd st ≤ 8) (hc : ce + M'.2.2.2.2.cells ≤ M.2.2.2.2.cells) (hs : sl + M'.2.2.2.2.slots ≤ M.2.2.2.2.slots) (hP : q_P E M' as h Q')
    (k : ∀ r h', Q' r h' → q_W E M Q (pc + 3) lo (r.toList ++ st) (ce + M'.2.2.2.2.cells) (sl + M'.2.2.2.2.slots) h') : q_W E M Q pc lo (as.reverse ++ st) ce sl h := by
  intro p e R s m args below meth c A ad0 Z H locs ls stv C T Rt
  obtain ⟨ad, tys, ws, lv, h1, h2, h3, h4, h5⟩ := T
  have hR := C.2.2.2.2.2.2.2.1
  have hts := C.2.2.2.2.2.1
  have hown := C.2.2.2.2.1
  obtain ⟨us, rest, rfl, g1, g2⟩ := q_sr_split h4
  have g3 := q_sr_rev g1
  rw [List.reverse_reverse] at g3
  have glen : us.reverse.length = n := by rw [← q_sr_len g3]; exact hn
  exact q_after C h1 h3 g2 h5.1 h5.2.2.1 h5.2.2.2 Rt (va_runS (As := us.reverse) (rest := rest) ⟨C.1.1, C.1.2, C.2.1, hown, hts⟩ (hP ad H.size) ⟨(callB_of n hts (q_good ho.2.1) rfl rfl rfl (hts _ ho.2.2.1) (hts _ hw) ho.2.2.2 (by rw [hR]; exact ho.1)), hts _ hx⟩ ⟨q_blind, q_start C h2 h5.1 h5.2.1 h5.2.2.1 h5.2.2.2 g3⟩ rfl glen (h3.1.1) (by show us ++ rest = us.reverse.reverse ++ rest; rw [List.reverse_reverse]) (lv_room (by rw [q_wd_sr g2]; exact hwd)) hd (by rw [hR]; exact ⟨hc, hs⟩)) k

theorem q_callSN {as : List q_V} {idx n : Nat} (hd : decode M.2.1 pc = .ok (.invokestatic idx, 3)) (ho : q_ok M M' n) {host : String} (hw : Cond.methodLinkNest M.1.cls idx M'.1 host ∈ q_nst) (hx : Cond.static M'.1 ∈ q_gd) (hn : as.length = n) (hwd : q_wd st ≤ 8) (hc : ce + M'.2.2.2.2.cells ≤ M.2.2.2.2.cells) (hs : sl + M'.2.2.2.2.slots ≤ M.2.2.2.2.slots) (hP : q_P E M' as h Q')
    (k : ∀ r h', Q' r h' → q_W E M Q (pc + 3) lo (r.toList ++ st) (ce + M'.2.2.2.2.cells) (sl + M'.2.2.2.2.slots) h') : q_W E M Q pc lo (as.reverse ++ st) ce sl h := by
  intro p e R s m args below meth c A ad0 Z H locs ls stv C T Rt
  obtain ⟨ad, tys, ws, lv, h1, h2, h3, h4, h5⟩ := T
  have hR := C.2.2.2.2.2.2.2.1
  have hts := C.2.2.2.2.2.1
  have hown := C.2.2.2.2.1
  obtain ⟨us, rest, rfl, g1, g2⟩ := q_sr_split h4
  have g3 := q_sr_rev g1
  rw [List.reverse_reverse] at g3
  have glen : us.reverse.length = n := by rw [← q_sr_len g3]; exact hn
  exact q_after C h1 h3 g2 h5.1 h5.2.2.1 h5.2.2.2 Rt (va_runSN (As := us.reverse) (rest := rest) ⟨C.1.1, C.1.2, C.2.1, hown, hts⟩ (hP ad H.size) ⟨(va_cnB n hts (q_good ho.2.1) rfl rfl rfl (va_Nw.of (q_nst_on hw) (q_Cx_nst C hw)) (hts _ ho.2.2.1) ho.2.2.2 (by rw [hR]; exact ho.1)), hts _ hx, trivial⟩ ⟨q_blind, q_start C h2 h5.1 h5.2.1 h5.2.2.1 h5.2.2.2 g3⟩ rfl glen (h3.1.1) (by show us ++ rest = us.reverse.reverse ++ rest; rw [List.reverse_reverse]) (lv_room (by rw [q_wd_sr g2]; exact hwd)) hd (by rw [hR]; exact ⟨hc, hs⟩)) k

theorem q_callI {as : List q_V} {idx n : Nat} {r0 : Nat} (hd : decode M.2.1 pc = .ok (.invokespecial idx, 3)) (ho : q_ok M M' n) (hw : Cond.methodLink M.1.cls idx M'.1 ∈ q_gd) (hx : Cond.instanceMethod M'.1 ∈ q_gd) (hi : M'.1.name = "<init>" ∧ M'.2.2.2.1 = none) (hn : as.length = n) (hwd : q_wd st ≤ 8) (hc : ce + M'.2.2.2.2.cells ≤ M.2.2.2.2.cells) (hs : sl + M'.2.2.2.2.slots ≤ M.2.2.2.2.slots) (hP : q_P E M' (.inr (.inl r0) :: as) h Q')
    (k : ∀ r h', Q' r h' → q_W E M Q (pc + 3) lo (r.toList ++ st) (ce + M'.2.2.2.2.cells) (sl + M'.2.2.2.2.slots) h') : q_W E M Q pc lo (as.reverse ++ .inr (.inl r0) :: st) ce sl h := by
  intro p e R s m args below meth c A ad0 Z H locs ls stv C T Rt
  obtain ⟨ad, tys, ws, lv, h1, h2, h3, h4, h5⟩ := T
  have hR := C.2.2.2.2.2.2.2.1
  have hts := C.2.2.2.2.2.1
  have hown := C.2.2.2.2.1
  obtain ⟨us, rest, rfl, g1, g2⟩ := q_sr_split h4
  have g3 := q_sr_rev g1
  rw [List.reverse_reverse] at g3
  have glen : us.reverse.length = n := by rw [← q_sr_len g3]; exact hn
  match rest, g2 with
  | v0 :: rest, ⟨⟨a0, e0, e1⟩, g2⟩ =>
    subst e1
    have gst : q_sr E ad (.inr (.inl r0) :: as) (.ref a0 :: us.reverse) := ⟨⟨a0, e0, rfl⟩, g3⟩
    have hcb : CallB R s args M.1.cls idx M'.1 M'.2.1 M'.2.2.1 none (q_ws M') M'.2.2.2.2 M'.2.2.2.2.cells M'.2.2.2.2.slots n := by
      have z := callB_of (R := R) (own := M.1.cls) (index := idx) (y := M'.1) n hts (q_good ho.2.1) rfl rfl rfl (hts _ ho.2.2.1) (hts _ hw) ho.2.2.2 (by rw [hR]; exact ho.1)
      rw [hi.2] at z
      exact z
    exact q_after C h1 h3 g2 h5.1 h5.2.2.1 h5.2.2.2 Rt (va_runI (As := us.reverse) (rest := rest) ⟨C.1.1, C.1.2, C.2.1, hown, hts⟩ (hP ad H.size) ⟨hcb, hi.1, hts _ hx⟩ ⟨q_blind, q_start C h2 h5.1 h5.2.1 h5.2.2.1 h5.2.2.2 gst⟩ rfl glen (h3.1.1) (by show us ++ .ref a0 :: rest = us.reverse.reverse ++ .ref a0 :: rest; rw [List.reverse_reverse]) (lv_room (by rw [q_wd_sr g2]; exact hwd)) hd (by rw [hR]; exact ⟨hc, hs⟩)) k

theorem q_callIN {as : List q_V} {idx n : Nat} {r0 : Nat} (hd : decode M.2.1 pc = .ok (.invokespecial idx, 3)) (ho : q_ok M M' n) {host : String} (hw : Cond.methodLinkNest M.1.cls idx M'.1 host ∈ q_nst) (hx : Cond.instanceMethod M'.1 ∈ q_gd) (hi : M'.1.name = "<init>" ∧ M'.2.2.2.1 = none) (hn : as.length = n) (hwd : q_wd st ≤ 8) (hc : ce + M'.2.2.2.2.cells ≤ M.2.2.2.2.cells) (hs : sl + M'.2.2.2.2.slots ≤ M.2.2.2.2.slots) (hP : q_P E M' (.inr (.inl r0) :: as) h Q')
    (k : ∀ r h', Q' r h' → q_W E M Q (pc + 3) lo (r.toList ++ st) (ce + M'.2.2.2.2.cells) (sl + M'.2.2.2.2.slots) h') : q_W E M Q pc lo (as.reverse ++ .inr (.inl r0) :: st) ce sl h := by
  intro p e R s m args below meth c A ad0 Z H locs ls stv C T Rt
  obtain ⟨ad, tys, ws, lv, h1, h2, h3, h4, h5⟩ := T
  have hR := C.2.2.2.2.2.2.2.1
  have hts := C.2.2.2.2.2.1
  have hown := C.2.2.2.2.1
  obtain ⟨us, rest, rfl, g1, g2⟩ := q_sr_split h4
  have g3 := q_sr_rev g1
  rw [List.reverse_reverse] at g3
  have glen : us.reverse.length = n := by rw [← q_sr_len g3]; exact hn
  match rest, g2 with
  | v0 :: rest, ⟨⟨a0, e0, e1⟩, g2⟩ =>
    subst e1
    have gst : q_sr E ad (.inr (.inl r0) :: as) (.ref a0 :: us.reverse) := ⟨⟨a0, e0, rfl⟩, g3⟩
    have hcb : va_CN R s args M.1.cls idx M'.1 host M'.2.1 M'.2.2.1 none (q_ws M') M'.2.2.2.2 M'.2.2.2.2.cells M'.2.2.2.2.slots n := by
      have z := va_cnB (R := R) (own := M.1.cls) (index := idx) (y := M'.1) (host := host) n hts (q_good ho.2.1) rfl rfl rfl (va_Nw.of (q_nst_on hw) (q_Cx_nst C hw)) (hts _ ho.2.2.1) ho.2.2.2 (by rw [hR]; exact ho.1)
      rw [hi.2] at z
      exact z
    exact q_after C h1 h3 g2 h5.1 h5.2.2.1 h5.2.2.2 Rt (va_runIN (As := us.reverse) (rest := rest) ⟨C.1.1, C.1.2, C.2.1, hown, hts⟩ (hP ad H.size) ⟨hcb, hi.1, hts _ hx⟩ ⟨q_blind, q_start C h2 h5.1 h5.2.1 h5.2.2.1 h5.2.2.2 gst⟩ rfl glen (h3.1.1) (by show us ++ .ref a0 :: rest = us.reverse.reverse ++ .ref a0 :: rest; rw [List.reverse_reverse]) (lv_room (by rw [q_wd_sr g2]; exact hwd)) hd (by rw [hR]; exact ⟨hc, hs⟩)) k

theorem q_callV {as : List q_V} {idx n : Nat} {r0 ci n0 d0 : Nat} (hd : decode M.2.1 pc = .ok (.invokevirtual idx, 3)) (ho : q_ok M M' n) (hw : Cond.methodLink M.1.cls idx M'.1 ∈ q_gd) (hx : Cond.instanceMethod M'.1 ∈ q_gd ∧ Cond.selects M'.1.cls M'.1 M'.1 ∈ q_gd) (hq : q_get h r0 = some (ci + 5, n0, d0)) (hcl : ∀ q : vw_C, q_cl[ci]? = some q → q.1 = M'.1.cls) (hn : as.length = n) (hwd : q_wd st ≤ 8) (hc : ce + M'.2.2.2.2.cells ≤ M.2.2.2.2.cells) (hs : sl + M'.2.2.2.2.slots ≤ M.2.2.2.2.slots) (hP : q_P E M' (.inr (.inl r0) :: as) h Q')
    (k : ∀ r h', Q' r h' → q_W E M Q (pc + 3) lo (r.toList ++ st) (ce + M'.2.2.2.2.cells) (sl + M'.2.2.2.2.slots) h') : q_W E M Q pc lo (as.reverse ++ .inr (.inl r0) :: st) ce sl h := by
  intro p e R s m args below meth c A ad0 Z H locs ls stv C T Rt
  obtain ⟨ad, tys, ws, lv, h1, h2, h3, h4, h5⟩ := T
  have hR := C.2.2.2.2.2.2.2.1
  have hts := C.2.2.2.2.2.1
  have hown := C.2.2.2.2.1
  obtain ⟨us, rest, rfl, g1, g2⟩ := q_sr_split h4
  have g3 := q_sr_rev g1
  rw [List.reverse_reverse] at g3
  have glen : us.reverse.length = n := by rw [← q_sr_len g3]; exact hn
  match rest, g2 with
  | v0 :: rest, ⟨⟨a0, e0, e1⟩, g2⟩ =>
    subst e1
    have gst : q_sr E ad (.inr (.inl r0) :: as) (.ref a0 :: us.reverse) := ⟨⟨a0, e0, rfl⟩, g3⟩
    obtain ⟨b0, fs, q, k1, k2, k3, -⟩ := q_obj h5.1 hq
    rw [k1] at e0
    cases e0
    have rv := va_recv h2 h5.2.1 k3 k2
    rw [hcl q k3] at rv
    exact q_after C h1 h3 g2 h5.1 h5.2.2.1 h5.2.2.2 Rt (va_runV (As := us.reverse) (rest := rest) ⟨C.1.1, C.1.2, C.2.1, hown, hts⟩ (hP ad H.size) ⟨(callB_of n hts (q_good ho.2.1) rfl rfl rfl (hts _ ho.2.2.1) (hts _ hw) ho.2.2.2 (by rw [hR]; exact ho.1)), hts _ hx.1, hts _ hx.2⟩ ⟨q_blind, rv, q_start C h2 h5.1 h5.2.1 h5.2.2.1 h5.2.2.2 gst⟩ rfl glen (h3.1.1) (by show us ++ .ref a0 :: rest = us.reverse.reverse ++ .ref a0 :: rest; rw [List.reverse_reverse]) (lv_room (by rw [q_wd_sr g2]; exact hwd)) hd (by rw [hR]; exact ⟨hc, hs⟩)) k

theorem q_callU {as : List q_V} {idx n : Nat} {r0 ci n0 d0 : Nat} (hd : decode M.2.1 pc = .ok (.invokevirtual idx, 3)) (ho : q_ok M M' n) {x : MethodName} (hw : Cond.methodLink M.1.cls idx x ∈ q_gd) (hx : Cond.instanceMethod M'.1 ∈ q_gd ∧ Cond.selects M'.1.cls x M'.1 ∈ q_gd ∧ Cond.sameMethod x.cls x.cls x.name x.desc ∈ q_gd ∧ Cond.declares x ∈ q_nst) (hxd : x.desc = M'.1.desc ∧ x.cls ≠ "java/lang/invoke/MethodHandle" ∧ x.cls ≠ "java/lang/invoke/VarHandle") (hq : q_get h r0 = some (ci + 5, n0, d0)) (hcl : ∀ q : vw_C, q_cl[ci]? = some q → q.1 = M'.1.cls) (hn : as.length = n) (hwd : q_wd st ≤ 8) (hc : ce + M'.2.2.2.2.cells ≤ M.2.2.2.2.cells) (hs : sl + M'.2.2.2.2.slots ≤ M.2.2.2.2.slots) (hP : q_P E M' (.inr (.inl r0) :: as) h Q')
    (k : ∀ r h', Q' r h' → q_W E M Q (pc + 3) lo (r.toList ++ st) (ce + M'.2.2.2.2.cells) (sl + M'.2.2.2.2.slots) h') : q_W E M Q pc lo (as.reverse ++ .inr (.inl r0) :: st) ce sl h := by
  intro p e R s m args below meth c A ad0 Z H locs ls stv C T Rt
  obtain ⟨ad, tys, ws, lv, h1, h2, h3, h4, h5⟩ := T
  have hR := C.2.2.2.2.2.2.2.1
  have hts := C.2.2.2.2.2.1
  have hown := C.2.2.2.2.1
  obtain ⟨us, rest, rfl, g1, g2⟩ := q_sr_split h4
  have g3 := q_sr_rev g1
  rw [List.reverse_reverse] at g3
  have glen : us.reverse.length = n := by rw [← q_sr_len g3]; exact hn
  match rest, g2 with
  | v0 :: rest, ⟨⟨a0, e0, e1⟩, g2⟩ =>
    subst e1
    have gst : q_sr E ad (.inr (.inl r0) :: as) (.ref a0 :: us.reverse) := ⟨⟨a0, e0, rfl⟩, g3⟩
    obtain ⟨b0, fs, q, k1, k2, k3, -⟩ := q_obj h5.1 hq
    rw [k1] at e0
    cases e0
    have rv := va_recv h2 h5.2.1 k3 k2
    rw [hcl q k3] at rv
    have hcu : va_CU R s args M.1.cls M'.1.cls x.cls idx x M'.1 M'.2.1 M'.2.2.1 M'.2.2.2.1 (q_ws M') M'.2.2.2.2 M'.2.2.2.2.cells M'.2.2.2.2.slots n := by
      have hcode : Cond.code M'.1 M'.2.1 M'.2.2.1 M'.2.2.2.1 ∈ q_ws M' := List.mem_cons_self
      refine ⟨⟨rfl, rfl, by rw [hR]; exact ho.1.1, by rw [hR]; exact ho.1.2, pay_in hts (q_good ho.2.1), hcode⟩, hts _ ho.2.1, hts _ ho.2.2.1, hxd.2, fun sig z => ?_, hts _ hw, hts _ hx.2.2.1, va_Decl.abs (va_Nw.of (q_nst_on hx.2.2.2) (q_Cx_nst C hx.2.2.2)), hts _ hx.2.1, hts _ hx.1⟩
      have z2 := ho.2.2.2.2.2
      rw [← hxd.1, z] at z2
      exact (Option.some.inj z2).symm
    exact q_after C h1 h3 g2 h5.1 h5.2.2.1 h5.2.2.2 Rt (va_runU (As := us.reverse) (rest := rest) ⟨C.1.1, C.1.2, C.2.1, hown, hts⟩ (hP ad H.size) hcu ⟨q_blind, rv, q_start C h2 h5.1 h5.2.1 h5.2.2.1 h5.2.2.2 gst⟩ rfl glen (h3.1.1) (by show us ++ .ref a0 :: rest = us.reverse.reverse ++ .ref a0 :: rest; rw [List.reverse_reverse]) (lv_room (by rw [q_wd_sr g2]; exact hwd)) hd (by rw [hR]; exact ⟨hc, hs⟩)) k

end
