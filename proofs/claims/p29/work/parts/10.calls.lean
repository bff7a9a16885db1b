def q_A (ad0 : List Nat) (sz : Nat) : Nat → Prop := fun q => q ∈ ad0 ∨ sz ≤ q
def q_Pc (E : q_E) (ad0 : List Nat) (sz : Nat) (as : List q_V) (h : q_H) : Array Value → State → Prop := fun v U =>
  ∃ (vs : List Value) (tys : List (ClassId × FieldType)) (ws : va_W), v = vs.toArray ∧ q_sr E ad0 as vs ∧ va_K E.2.1 q_cl tys U ∧ q_hr tys ad0 h ws ∧ va_P E.2.1 q_cl ws U.heap ∧ va_D (q_A ad0 sz) ws ∧ U.heap.size = sz ∧ q_St E (q_A ad0 sz) U U.heap
def q_Qc (E : q_E) (ad0 : List Nat) (sz : Nat) (Q : Option q_V → q_H → Prop) : Array Value → State → Outcome → State → Prop := fun _ st oc t =>
  (∃ (r : Option q_V) (h' : q_H) (v : Option Value) (ad' : List Nat) (tys' : List (ClassId × FieldType)) (ws' : va_W), oc = .returned v ∧ q_sr E ad' r.toList v.toList ∧ Q r h' ∧ (∃ z, ad' = ad0 ++ z) ∧ va_K E.2.1 q_cl tys' t ∧ q_hr tys' ad' h' ws' ∧ va_P E.2.1 q_cl ws' t.heap ∧ va_D (q_A ad0 sz) ws') ∧ va_F (q_A ad0 sz) st t
def q_ws (M : q_M) : List Cond := Cond.code M.1 M.2.1 M.2.2.1 M.2.2.2.1 :: q_gd
/-- a method with these arguments, from this heap, ends with Q -/
def q_P (E : q_E) (M : q_M) (as : List q_V) (h : q_H) (Q : Option q_V → q_H → Prop) : Prop := ∀ (ad0 : List Nat) (sz : Nat), Met E.1 M.1 (q_ws M) M.2.2.2.2 (q_Pc E ad0 sz as h) (q_Qc E ad0 sz Q) M.2.2.2.2.cells M.2.2.2.2.slots (q_A ad0 sz)
theorem q_blind {E : q_E} {ad0 : List Nat} {sz : Nat} {as : List q_V} {h : q_H} : FrameBlind (q_Pc E ad0 sz as h) := by
  intro a U g mk ⟨vs, tys, ws, g1, g2, g3, g4, g5, g6, g7, g8⟩
  exact ⟨vs, tys, ws, g1, g2, va_K.moved (u := U) (U := U.calling g mk a) (Vm.Alike.refl U.vm) g3, g4, g5, g6, g7, q_St_to (s := U) (U := U.calling g mk a) g8 (State.WarmedH.refl U) va_S.rf (fun _ z => z)⟩
def q_args : Nat → List q_V → q_Lo
  | _, [] => []
  | i, x :: xs => (i, x) :: q_args (if q_cat x = 2 then i + 2 else i + 1) xs
theorem q_args_lr {E : q_E} {ad : List Nat} : ∀ {as : List q_V} {vs : List Value} {i : Nat}, q_sr E ad as vs → q_lr E ad (q_args i as) (lv_args i vs)
  | [], [], _, _ => trivial
  | x :: as, v :: vs, i, h => by
    have hc := q_vr_cat h.1
    refine ⟨⟨rfl, h.1⟩, ?_⟩
    rw [hc]
    exact q_args_lr h.2
theorem q_args_len {E : q_E} {ad : List Nat} : ∀ {as : List q_V} {vs : List Value}, q_sr E ad as vs → (lg_sl vs).length = q_wd as
  | [], [], _ => rfl
  | x :: as, v :: vs, h => by
    have h2 := q_args_len h.2
    have hc := q_vr_cat h.1
    have h0 : q_wd (x :: as) = q_cat x + q_wd as := by simp [q_wd]
    rw [h0, ← h2, ← hc]
    unfold lg_sl
    rw [List.flatMap_cons, List.length_append]
    rcases lv_cat v with e | e
    · simp [e]
    · simp [e]
theorem q_Pof {E : q_E} {M : q_M} {as : List q_V} {h : q_H} {Q : Option q_V → q_H → Prop} (hy : plainName M.1.cls = true) (hl : q_wd as ≤ M.2.2.1) (k : q_W E M Q 0 (q_args 0 as) [] 0 0 h) : q_P E M as h Q := by
  intro ad0 sz
  refine Met.ofW (cc := M.2.1) (maxL := M.2.2.1) (ret := M.2.2.2.1) hy rfl ?_
  intro p e s m args below meth c s₁ B hml hv
  obtain ⟨vs, tys, ws, rfl, hsr, hK, hhr, hP, hD, hsz, hSt⟩ := hv
  subst hsz
  have hts := atoms_spec (ws := q_ws M) B.pre
  have hown : s.vm.findClass M.1.cls = some m.cls := findClass_of_methodNamed B.named
  have C : q_Cx E M p M.2.2.2.2 s m vs.toArray meth c (q_A ad0 s.heap.size) := ⟨⟨B.exec, B.bytes⟩, hml, B.returns, B.notSynchronized, hown, fun w hw => hts w (List.mem_cons_of_mem _ hw), (name_of_methodNamed B.named B.method).1, rfl, hSt, fun q hq => Or.inr hq⟩
  rw [lg_entry_eq]
  have hle := q_args_len hsr
  have T : q_At E M.2.2.1 s (q_A ad0 s.heap.size) ad0 (q_args 0 as) [] h s.heap [] ((lg_sl vs ++ List.replicate (M.2.2.1 - (lg_sl vs).length) Slot.unset).toArray) [] := ⟨ad0, tys, ws, lv_args 0 vs, ⟨[], by simp⟩, hK, ⟨lv_entry vs (by rw [hle]; exact hl), q_args_lr hsr⟩, trivial, hhr, hP, hD, va_S.rf⟩
  refine k.go (below := below) (Z := MQ below (q_Qc E ad0 s.heap.size Q) vs.toArray s M.2.2.2.2.cells M.2.2.2.2.slots (q_A ad0 s.heap.size)) C T ?_
  intro pc ls r stv h' H locs ce sl hri T' hQ hce hsl
  obtain ⟨ad, tys', ws', lv, t1, t2, t3, t4, t5, t6, t7, t8⟩ := T'
  refine W.widen hce hsl ?_
  have hpost : ∀ v : Option Value, q_sr E ad r.toList v.toList → ∀ t : State, t.heap = H → s.WarmedH t.vm → q_Qc E ad0 s.heap.size Q vs.toArray s (.returned v) t := by
    intro v hv t ht hW
    exact ⟨⟨r, h', v, ad, tys', ws', rfl, hv, hQ, t1, va_K.moved hW.alike t2, t5, by rw [ht]; exact t6, t7⟩, t8.F ht⟩
  have hlocks := B.notSynchronized
  match r, hri, t4, hpost with
  | none, hri, t4, hpost =>
    match stv, t4 with
    | [], t4 => exact W.vret B.exec B.bytes (B.returns.trans hri.2) (hpost none trivial) t8.2.2 hri.1
  | some (.inl n), hri, t4, hpost =>
    match stv, t4 with
    | [v], t4 =>
      obtain ⟨e1, -⟩ := t4
      cases e1
      rcases hri.2 with hrt | ⟨ty, hrt, hn⟩
      · exact W.iret B.exec B.bytes (B.returns.trans hrt) (hpost (some (.int (nI n))) ⟨rfl, trivial⟩) t8.2.2 hri.1
      · exact W.zret B.exec B.bytes (B.returns.trans hrt) hn (hpost (some (.int (nI n))) ⟨rfl, trivial⟩) t8.2.2 hri.1
  | some (.inr (.inl r')), hri, t4, hpost =>
    match stv, t4 with
    | [v], t4 =>
      obtain ⟨⟨a, e0, e1⟩, -⟩ := t4
      subst e1
      obtain ⟨nm, hrt⟩ := hri.2
      exact W.aret B.exec B.bytes (B.returns.trans hrt) (Or.inl ⟨nm, rfl⟩) (Or.inr ⟨a, rfl⟩) (hpost (some (.ref a)) ⟨⟨a, e0, rfl⟩, trivial⟩) t8.2.2 hri.1
  | some (.inr (.inr (.inl n))), hri, t4, hpost =>
    match stv, t4 with
    | [v], t4 =>
      obtain ⟨e1, -⟩ := t4
      cases e1
      exact W.lret B.exec B.bytes (B.returns.trans hri.2) (hpost (some (.long (lN n))) ⟨rfl, trivial⟩) t8.2.2 hri.1
  | some (.inr (.inr (.inr (.inl n)))), hri, t4, hpost =>
    match stv, t4 with
    | [v], t4 =>
      obtain ⟨e1, -⟩ := t4
      have e1 : v = .int (nI (E.2.2.2.1 n)) := e1
      subst e1
      exact W.iret B.exec B.bytes (B.returns.trans hri.2) (hpost (some (.int (nI (E.2.2.2.1 n)))) ⟨rfl, trivial⟩) t8.2.2 hri.1
/-- what a call's link needs, apart from the kind: room, words, the number of arguments -/
def q_ok (M M' : q_M) (n : Nat) : Prop := (M'.2.2.2.2.frames + 1 ≤ M.2.2.2.2.frames ∧ 8 + (M'.2.2.1 + 11) + M'.2.2.2.2.locals ≤ M.2.2.2.2.locals) ∧ Cond.code M'.1 M'.2.1 M'.2.2.1 M'.2.2.2.1 ∈ q_gd ∧ Cond.initialized M'.1.cls ∈ q_gd ∧ (M'.1.cls ≠ "java/lang/invoke/MethodHandle" ∧ M'.1.cls ≠ "java/lang/invoke/VarHandle" ∧ (parseMethodDescriptor M'.1.desc).map (fun d => d.parameters.length) = some n)
theorem q_good {M' : q_M} (h : Cond.code M'.1 M'.2.1 M'.2.2.1 M'.2.2.2.1 ∈ q_gd) : GoodIn q_gd (q_ws M') := by
  have hg : ∀ w ∈ q_gd, w ∈ q_gd ∧ ((w.onTables && w.keeps) = true ∨ ∃ ty, w = .arrayClass ty) := fun w hw => ⟨hw, good_of_word (List.mem_filter.mp hw).2⟩
  intro w hw
  rcases List.mem_cons.mp hw with rfl | hw
  · exact hg _ h
  · exact hg w hw
section
variable {E : q_E} {M M' : q_M} {Q Q' : Option q_V → q_H → Prop} {pc : Nat} {lo : q_Lo} {st : List q_V} {ce sl : Nat} {h : q_H}
variable {p : Program} {e : Env} {R : Room} {s : State} {m : MethodId} {args : Array Value} {below : List Frame} {meth : Method} {c : Code} {A : Nat → Prop} {ad0 ad : List Nat} {Z : State → Prop} {H : Heap} {locs : List Loc} {ls : Array Slot}
theorem q_adA {tys : List (ClassId × FieldType)} {ws : va_W} (hr : q_hr tys ad h ws) (hD : va_D A ws) (hS : va_S A s.heap H locs) (hA : ∀ q, s.heap.size ≤ q → A q) : ∀ q, q_A ad H.size q → A q := by
  rintro q (hq | hq)
  · rw [← hr.1] at hq
    obtain ⟨x, hx, rfl⟩ := List.mem_map.mp hq
    obtain ⟨k, hk⟩ := List.mem_iff_getElem?.mp hx
    exact hD.2 k x hk
  · exact hA q (Nat.le_trans hS.1 hq)
/-- behind a call -/
theorem q_after {tys : List (ClassId × FieldType)} {ws : va_W} {lv : List (Nat × Value)} {rest st0 : List Value} {av : Array Value} {mc ms : Nat} (C : q_Cx E M p R s m args meth c A) (h1 : ∃ z, ad = ad0 ++ z) (h3 : lv_has ls M.2.2.1 lv ∧ q_lr E ad lo lv) (h4 : q_sr E ad st rest) (hr : q_hr tys ad h ws) (hD : va_D A ws) (hS : va_S A s.heap H locs) (Rt : q_Rt E M Q p e R s m args below meth c A ad0 Z)
    (run : va_Run p E.1 e R s m args below meth c H locs ce sl mc ms (F0 m pc ls st0) rest (q_Qc E ad H.size Q' av) (q_A ad H.size))
    (k : ∀ r h', Q' r h' → q_W E M Q (pc + 3) lo (r.toList ++ st) (ce + mc) (sl + ms) h') : W p E.1 e R s m args below meth c H locs ce sl Z (F0 m pc ls st0) := by
  have hAA := q_adA hr hD hS C.2.2.2.2.2.2.2.2.2
  intro T hT X
  obtain ⟨v, st₀, t, T', L, h0, X', hL, e1, e2, ⟨⟨r, h', v', ad', tys', ws', z1, z2, z3, ⟨z, z4⟩, z5, z6, z7, z8⟩, hz, hk⟩, go⟩ := run T hT X
  cases z1
  rw [h0] at hz hk
  obtain ⟨y, h1⟩ := h1
  have hSS : va_S A s.heap T'.heap (locs ++ L) := ⟨Nat.le_trans hS.1 (by rw [e1]; exact hz), fun q y1 y2 => by rw [e1, hk q (Nat.lt_of_lt_of_le y1 hS.1) (fun w => y2 (hAA q w))]; exact hS.2.1 q y1 y2, fun q hq => by
    rcases List.mem_append.mp hq with w | w
    · exact hS.2.2 q w
    · exact hAA _ (hL q w)⟩
  have happ : ∀ (xs : List q_V) (vs : List Value), q_sr E ad' xs vs → q_sr E ad' (xs ++ st) (vs ++ rest) := by
    intro xs
    induction xs with
    | nil => intro vs w; match vs, w with | [], _ => rw [z4]; exact q_sr_mono h4
    | cons x xs ih => intro vs w; match vs, w with | v :: vs, w => exact ⟨w.1, ih vs w.2⟩
  have kz := (k r h' z3).go (p := p) (e := e) (R := R) (s := s) (m := m) (args := args) (below := below) (meth := meth) (c := c) (A := A) (ad0 := ad0) (Z := Z) (H := T'.heap) (locs := locs ++ L) (ls := ls) (stv := v.toList ++ rest) C
    ⟨ad', tys', ws', lv, ⟨y ++ z, by rw [z4, h1, List.append_assoc]⟩, va_K.moved (by rw [← e2]; exact X'.warmed.alike.symm) z5, ⟨h3.1, by rw [z4]; exact q_lr_mono h3.2⟩, happ _ _ z2, z6, by rw [e1]; exact z7, z8.weaken (fun _ q _ w => hAA q.1 w), hSS⟩ Rt
  obtain ⟨t2, a1, b1⟩ := kz T' rfl X'
  exact ⟨t2, go t2 a1, b1⟩
/-- the callee's start -/
theorem q_start {tys : List (ClassId × FieldType)} {ws : va_W} {as : List q_V} {vs : List Value} (C : q_Cx E M p R s m args meth c A) (h2 : va_K E.2.1 q_cl tys s) (hr : q_hr tys ad h ws) (hP : va_P E.2.1 q_cl ws H) (hD : va_D A ws) (hS : va_S A s.heap H locs) (hv : q_sr E ad as vs) : ∀ U : State, U.heap = H → s.WarmedH U.vm → q_Pc E ad H.size as h vs.toArray U := by
  intro U hU hW
  have hAA := q_adA hr hD hS C.2.2.2.2.2.2.2.2.2
  refine ⟨vs, tys, ws, rfl, hv, va_K.moved hW.alike h2, hr, by rw [hU]; exact hP, ⟨hD.1, fun k q hk => Or.inl ?_⟩, by rw [hU], by rw [hU]; exact q_St_to C.2.2.2.2.2.2.2.2.1 hW hS hAA⟩
  rw [← hr.1]
  exact List.mem_map.mpr ⟨q, List.mem_of_getElem? hk, rfl⟩
theorem q_sr_split {E : q_E} {ad : List Nat} : ∀ {xs ys : List q_V} {vs : List Value}, q_sr E ad (xs ++ ys) vs → ∃ us ws, vs = us ++ ws ∧ q_sr E ad xs us ∧ q_sr E ad ys ws
  | [], ys, vs, h => ⟨[], vs, rfl, trivial, h⟩
  | x :: xs, ys, v :: vs, h => by
    obtain ⟨us, ws, e, g1, g2⟩ := q_sr_split (xs := xs) h.2
    exact ⟨v :: us, ws, by rw [e]; rfl, ⟨h.1, g1⟩, g2⟩
theorem q_sr_app {E : q_E} {ad : List Nat} : ∀ {xs ys : List q_V} {us ws : List Value}, q_sr E ad xs us → q_sr E ad ys ws → q_sr E ad (xs ++ ys) (us ++ ws)
  | [], _, [], _, _, h => h
  | _ :: _, _, _ :: _, _, g, h => ⟨g.1, q_sr_app g.2 h⟩
theorem q_sr_rev {E : q_E} {ad : List Nat} : ∀ {xs : List q_V} {us : List Value}, q_sr E ad xs us → q_sr E ad xs.reverse us.reverse
  | [], [], _ => trivial
  | x :: xs, u :: us, h => by
    rw [List.reverse_cons, List.reverse_cons]
    exact q_sr_app (q_sr_rev h.2) ⟨h.1, trivial⟩
theorem q_sr_len {E : q_E} {ad : List Nat} : ∀ {xs : List q_V} {us : List Value}, q_sr E ad xs us → xs.length = us.length
  | [], [], _ => rfl
  | _ :: _, _ :: _, h => by rw [List.length_cons, List.length_cons, q_sr_len h.2]
end
